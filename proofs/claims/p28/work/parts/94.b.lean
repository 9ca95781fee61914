theorem dX11_program_0 : decode cX11_program 0 = .ok (.new 94, 3) := by decide +kernel
theorem dX11_program_3 : decode cX11_program 3 = .ok (.dup, 1) := by decide +kernel
theorem dX11_program_4 : decode cX11_program 4 = .ok (.aload_n 0, 1) := by decide +kernel
theorem dX11_program_5 : decode cX11_program 5 = .ok (.getfield 9, 3) := by decide +kernel
theorem dX11_program_8 : decode cX11_program 8 = .ok (.aload_n 0, 1) := by decide +kernel
theorem dX11_program_9 : decode cX11_program 9 = .ok (.getfield 13, 3) := by decide +kernel
theorem dX11_program_12 : decode cX11_program 12 = .ok (.invokespecial 96, 3) := by decide +kernel
theorem dX11_program_15 : decode cX11_program 15 = .ok (.astore_n 1, 1) := by decide +kernel
theorem dX11_program_16 : decode cX11_program 16 = .ok (.aload_n 1, 1) := by decide +kernel
theorem dX11_program_17 : decode cX11_program 17 = .ok (.invokevirtual 99, 3) := by decide +kernel
theorem dX11_program_20 : decode cX11_program 20 = .ok (.aload_n 0, 1) := by decide +kernel
theorem dX11_program_21 : decode cX11_program 21 = .ok (.aload_n 1, 1) := by decide +kernel
theorem dX11_program_22 : decode cX11_program 22 = .ok (.getfield 102, 3) := by decide +kernel
theorem dX11_program_25 : decode cX11_program 25 = .ok (.putfield 17, 3) := by decide +kernel
theorem dX11_program_28 : decode cX11_program 28 = .ok (.aload_n 0, 1) := by decide +kernel
theorem dX11_program_29 : decode cX11_program 29 = .ok (.aload_n 1, 1) := by decide +kernel
theorem dX11_program_30 : decode cX11_program 30 = .ok (.getfield 105, 3) := by decide +kernel
theorem dX11_program_33 : decode cX11_program 33 = .ok (.putfield 20, 3) := by decide +kernel
theorem dX11_program_36 : decode cX11_program 36 = .ok (.aload_n 0, 1) := by decide +kernel
theorem dX11_program_37 : decode cX11_program 37 = .ok (.getfield 17, 3) := by decide +kernel
theorem dX11_program_40 : decode cX11_program 40 = .ok (.ifCond .eq 5, 3) := by decide +kernel
theorem dX11_program_45 : decode cX11_program 45 = .ok (.aload_n 0, 1) := by decide +kernel
theorem dX11_program_46 : decode cX11_program 46 = .ok (.getfield 26, 3) := by decide +kernel
theorem dX11_program_49 : decode cX11_program 49 = .ok (.aload_n 1, 1) := by decide +kernel
theorem dX11_program_50 : decode cX11_program 50 = .ok (.getfield 106, 3) := by decide +kernel
theorem dX11_program_53 : decode cX11_program 53 = .ok (.invokevirtual 107, 3) := by decide +kernel
theorem dX11_program_56 : decode cX11_program 56 = .ok (.aload_n 0, 1) := by decide +kernel
theorem dX11_program_57 : decode cX11_program 57 = .ok (.iconst 0, 1) := by decide +kernel
theorem dX11_program_58 : decode cX11_program 58 = .ok (.putfield 13, 3) := by decide +kernel
theorem dX11_program_61 : decode cX11_program 61 = .ok (.aload_n 0, 1) := by decide +kernel
theorem dX11_program_62 : decode cX11_program 62 = .ok (.getfield 33, 3) := by decide +kernel
theorem dX11_program_65 : decode cX11_program 65 = .ok (.iconst 0, 1) := by decide +kernel
theorem dX11_program_66 : decode cX11_program 66 = .ok (.putfield 111, 3) := by decide +kernel
theorem dX11_program_69 : decode cX11_program 69 = .ok (.aload_n 0, 1) := by decide +kernel
theorem dX11_program_70 : decode cX11_program 70 = .ok (.getfield 40, 3) := by decide +kernel
theorem dX11_program_73 : decode cX11_program 73 = .ok (.invokevirtual 114, 3) := by decide +kernel
theorem dX11_program_76 : decode cX11_program 76 = .ok (.aload_n 0, 1) := by decide +kernel
theorem dX11_program_77 : decode cX11_program 77 = .ok (.iconst 0, 1) := by decide +kernel
theorem dX11_program_78 : decode cX11_program 78 = .ok (.putfield 72, 3) := by decide +kernel
theorem dX11_program_81 : decode cX11_program 81 = .ok (.aload_n 0, 1) := by decide +kernel
theorem dX11_program_82 : decode cX11_program 82 = .ok (.iconst 0, 1) := by decide +kernel
theorem dX11_program_83 : decode cX11_program 83 = .ok (.putfield 75, 3) := by decide +kernel
theorem dX11_program_86 : decode cX11_program 86 = .ok (.aload_n 0, 1) := by decide +kernel
theorem dX11_program_87 : decode cX11_program 87 = .ok (.invokevirtual 117, 3) := by decide +kernel
theorem dX11_program_90 : decode cX11_program 90 = .ok (.aload_n 0, 1) := by decide +kernel
theorem dX11_program_91 : decode cX11_program 91 = .ok (.invokevirtual 120, 3) := by decide +kernel
theorem dX11_program_94 : decode cX11_program 94 = .ok (.aload_n 0, 1) := by decide +kernel
theorem dX11_program_95 : decode cX11_program 95 = .ok (.getfield 26, 3) := by decide +kernel
theorem dX11_program_98 : decode cX11_program 98 = .ok (.getfield 123, 3) := by decide +kernel
theorem dX11_program_101 : decode cX11_program 101 = .ok (.ireturn, 1) := by decide +kernel
theorem dX11_program_43 : decode cX11_program 43 = .ok (.iconst (-1), 1) := by decide +kernel
theorem dX11_program_44 : decode cX11_program 44 = .ok (.ireturn, 1) := by decide +kernel

def ow_t_program : List Cond := [.classLink RX11 94 RX4, .instantiable RX4 4, .initialized RX4, .fieldLink RX11 9 "NearEnough" "tape" "[B", .fieldLink RX11 13 "NearEnough" "bytes" "I", .methodLink RX11 96 yX4_init, .instanceMethod yX4_init, .fieldLink RX11 102 "NearEnough$Reader" "fault" "I", .fieldLink RX11 17 "NearEnough" "faultNumber" "I", .fieldLink RX11 105 "NearEnough$Reader" "faultPlace" "I", .fieldLink RX11 20 "NearEnough" "faultPlace" "I", .fieldLink RX11 26 "NearEnough" "told" "LNearEnough$Program;", .fieldLink RX11 106 "NearEnough$Reader" "told" "LNearEnough$Program;", .fieldLink RX11 33 "NearEnough" "sheets" "LNearEnough$Sheets;", .fieldLink RX11 111 "NearEnough$Sheets" "count" "I", .fieldLink RX11 40 "NearEnough" "changes" "LNearEnough$Changes;", .fieldLink RX11 72 "NearEnough" "guards" "I", .fieldLink RX11 75 "NearEnough" "left" "I", .fieldLink RX11 123 "NearEnough$Program" "stepCount" "I"]
def vs_t_program : List Cond := .code yX11_program cX11_program 2 (some .int) :: (ow_t_program ++ (vs_c_iReader ++ (([.methodLink RX11 99 yX4_readAll, .instanceMethod yX4_readAll, .selects RX4 yX4_readAll yX4_readAll, .initialized RX4] : List Cond) ++ (vs_g_readAll ++ (([.methodLink RX11 107 yX3_become, .instanceMethod yX3_become, .selects RX3 yX3_become yX3_become, .initialized RX3] : List Cond) ++ (vs_b_become ++ (([.methodLink RX11 114 yX0_clear, .instanceMethod yX0_clear, .selects RX0 yX0_clear yX0_clear, .initialized RX0] : List Cond) ++ (vs_k_clear ++ (([.methodLink RX11 117 yX11_forgetFront, .instanceMethod yX11_forgetFront, .selects RX11 yX11_forgetFront yX11_forgetFront, .initialized RX11] : List Cond) ++ (vs_v_forgetFront ++ (([.methodLink RX11 120 yX11_forgetPlan, .instanceMethod yX11_forgetPlan, .selects RX11 yX11_forgetPlan yX11_forgetPlan, .initialized RX11] : List Cond) ++ (vs_v_forgetPlan ++ (wsX30 ++ (wsX40 ++ (wsX70 ++ (wsX110))))))))))))))))
theorem vg_t_program : vs_t_program.all goodWord = true := by decide +kernel
theorem dd_t_program : yX11_program.cls = RX11 ∧ yX11_program.cls ≠ "java/lang/invoke/MethodHandle" ∧ yX11_program.cls ≠ "java/lang/invoke/VarHandle" ∧ (parseMethodDescriptor yX11_program.desc).map (fun d => d.parameters.length) = some 0 := by decide +kernel
def rm_t_program : Room := { frames := 10, cells := 1008, slots := 11045, locals := 216 }
theorem gd_t_program_96_c_iReader : GoodIn vs_t_program (vs_c_iReader) := (goodIn_sub (fun w h => (List.mem_cons_of_mem _ (List.mem_append_right _ (List.mem_append_left _ h)))) vg_c_iReader)
theorem gd_t_program_99_g_readAll : GoodIn vs_t_program (wsV RX11 99 RX4 yX4_readAll vs_g_readAll) := goodIn_app (goodIn_sub (fun w h => (List.mem_cons_of_mem _ (List.mem_append_right _ (List.mem_append_right _ (List.mem_append_left _ h))))) (by decide +kernel)) (goodIn_sub (fun w h => (List.mem_cons_of_mem _ (List.mem_append_right _ (List.mem_append_right _ (List.mem_append_right _ (List.mem_append_left _ h)))))) vg_g_readAll)
theorem gd_t_program_107_b_become : GoodIn vs_t_program (wsV RX11 107 RX3 yX3_become vs_b_become) := goodIn_app (goodIn_sub (fun w h => (List.mem_cons_of_mem _ (List.mem_append_right _ (List.mem_append_right _ (List.mem_append_right _ (List.mem_append_right _ (List.mem_append_left _ h))))))) (by decide +kernel)) (goodIn_sub (fun w h => (List.mem_cons_of_mem _ (List.mem_append_right _ (List.mem_append_right _ (List.mem_append_right _ (List.mem_append_right _ (List.mem_append_right _ (List.mem_append_left _ h)))))))) vg_b_become)
theorem gd_t_program_114_k_clear : GoodIn vs_t_program (wsV RX11 114 RX0 yX0_clear vs_k_clear) := goodIn_app (goodIn_sub (fun w h => (List.mem_cons_of_mem _ (List.mem_append_right _ (List.mem_append_right _ (List.mem_append_right _ (List.mem_append_right _ (List.mem_append_right _ (List.mem_append_right _ (List.mem_append_left _ h))))))))) (by decide +kernel)) (goodIn_sub (fun w h => (List.mem_cons_of_mem _ (List.mem_append_right _ (List.mem_append_right _ (List.mem_append_right _ (List.mem_append_right _ (List.mem_append_right _ (List.mem_append_right _ (List.mem_append_right _ (List.mem_append_left _ h)))))))))) vg_k_clear)
theorem gd_t_program_117_v_forgetFront : GoodIn vs_t_program (wsV RX11 117 RX11 yX11_forgetFront vs_v_forgetFront) := goodIn_app (goodIn_sub (fun w h => (List.mem_cons_of_mem _ (List.mem_append_right _ (List.mem_append_right _ (List.mem_append_right _ (List.mem_append_right _ (List.mem_append_right _ (List.mem_append_right _ (List.mem_append_right _ (List.mem_append_right _ (List.mem_append_left _ h))))))))))) (by decide +kernel)) (goodIn_sub (fun w h => (List.mem_cons_of_mem _ (List.mem_append_right _ (List.mem_append_right _ (List.mem_append_right _ (List.mem_append_right _ (List.mem_append_right _ (List.mem_append_right _ (List.mem_append_right _ (List.mem_append_right _ (List.mem_append_right _ (List.mem_append_left _ h)))))))))))) vg_v_forgetFront)
theorem gd_t_program_120_v_forgetPlan : GoodIn vs_t_program (wsV RX11 120 RX11 yX11_forgetPlan vs_v_forgetPlan) := goodIn_app (goodIn_sub (fun w h => (List.mem_cons_of_mem _ (List.mem_append_right _ (List.mem_append_right _ (List.mem_append_right _ (List.mem_append_right _ (List.mem_append_right _ (List.mem_append_right _ (List.mem_append_right _ (List.mem_append_right _ (List.mem_append_right _ (List.mem_append_right _ (List.mem_append_left _ h))))))))))))) (by decide +kernel)) (goodIn_sub (fun w h => (List.mem_cons_of_mem _ (List.mem_append_right _ (List.mem_append_right _ (List.mem_append_right _ (List.mem_append_right _ (List.mem_append_right _ (List.mem_append_right _ (List.mem_append_right _ (List.mem_append_right _ (List.mem_append_right _ (List.mem_append_right _ (List.mem_append_right _ (List.mem_append_left _ h)))))))))))))) vg_v_forgetPlan)
set_option maxHeartbeats 4000000 in
set_option maxRecDepth 100000 in
theorem t_program (l : Launch) (dC : Nat → ClassId) (dI : Nat → Nat → Nat) (adK adV : Nat → Nat) (κ : CE) (sz : Nat) (φ ψ σ : MS) (hk : PInv κ) (hI : CInv σ) (hF : FInv φ)  : Met l yX11_program vs_t_program rm_t_program (va_Pc [.ref (kA κ 0)] (wSr dC dI adK adV (xW κ (xX κ φ ψ) σ) (tT κ) sz)) (va_Qi (fun (r : Int32) (u : CE × MS × MS × MS) => PInv u.1 ∧ CInv u.2.2.2 ∧ FInv u.2.1 ∧ kA u.1 0 = kA κ 0 ∧ (kE u.1 = kE κ ∧ kP u.1 = kP κ)) (fun (u : CE × MS × MS × MS) => wEn dC dI (va_A (xW κ (xX κ φ ψ) σ) sz) (xW u.1 (xX u.1 u.2.1 u.2.2.1) u.2.2.2) (tT u.1)) (va_A (xW κ (xX κ φ ψ) σ) sz)) 1008 11045 (va_A (xW κ (xX κ φ ψ) σ) sz) := by
  refine Met.ofW (cc := cX11_program) (maxL := 2) (ret := (some .int)) (by decide +kernel) rfl ?_
  intro p e s m args below meth c s₁ B hml hv
  obtain ⟨rfl, ⟨hsz, hP, hK, hD0, hE⟩, hZ, hR⟩ := hv
  have hx := B.exec
  have hb := B.bytes
  have hr := B.returns
  have hts := atoms_spec (ws := vs_t_program) B.pre
  have hown : s.vm.findClass RX11 = some m.cls := findClass_of_methodNamed B.named
  have hlocks := B.notSynchronized
  subst hsz
  have hD := hD0.self (sz := s.heap.size)
  generalize hAe : va_A (xW κ (xX κ φ ψ) σ) s.heap.size = A at hD hZ ⊢
  have hA : ∀ q : Nat, s.heap.size ≤ q → A q := fun q h => by rw [← hAe]; exact Or.inr h
  have hl := lv_entry ([.ref (kA κ 0)]) (n := 2) (Nat.le_of_ble_eq_true rfl)
  rw [lg_entry_eq]
  generalize (lg_sl ([.ref (kA κ 0)]) ++ List.replicate (2 - (lg_sl ([.ref (kA κ 0)])).length) Slot.unset).toArray = ls at hl ⊢
  have hl : lv_has ls 2 [(0, .ref (kA κ 0))] := hl
  have ho := fun w (h : w ∈ ow_t_program) => hts w (List.mem_cons_of_mem _ (List.mem_append_left _ h))
  have hin3 : ∀ w ∈ u_ws RX3 TX3 8, w ∈ vs_t_program := fun w h => (List.mem_cons_of_mem _ (List.mem_append_right _ (List.mem_append_right _ (List.mem_append_right _ (List.mem_append_right _ (List.mem_append_right _ (List.mem_append_right _ (List.mem_append_right _ (List.mem_append_right _ (List.mem_append_right _ (List.mem_append_right _ (List.mem_append_right _ (List.mem_append_right _ (List.mem_append_left _ h))))))))))))))
  have hin4 : ∀ w ∈ u_ws RX4 TX4 4, w ∈ vs_t_program := fun w h => (List.mem_cons_of_mem _ (List.mem_append_right _ (List.mem_append_right _ (List.mem_append_right _ (List.mem_append_right _ (List.mem_append_right _ (List.mem_append_right _ (List.mem_append_right _ (List.mem_append_right _ (List.mem_append_right _ (List.mem_append_right _ (List.mem_append_right _ (List.mem_append_right _ (List.mem_append_right _ (List.mem_append_left _ h)))))))))))))))
  have hin7 : ∀ w ∈ u_ws RX7 TX7 3, w ∈ vs_t_program := fun w h => (List.mem_cons_of_mem _ (List.mem_append_right _ (List.mem_append_right _ (List.mem_append_right _ (List.mem_append_right _ (List.mem_append_right _ (List.mem_append_right _ (List.mem_append_right _ (List.mem_append_right _ (List.mem_append_right _ (List.mem_append_right _ (List.mem_append_right _ (List.mem_append_right _ (List.mem_append_right _ (List.mem_append_right _ (List.mem_append_left _ h))))))))))))))))
  have hin11 : ∀ w ∈ u_ws RX11 TX11 17, w ∈ vs_t_program := fun w h => (List.mem_cons_of_mem _ (List.mem_append_right _ (List.mem_append_right _ (List.mem_append_right _ (List.mem_append_right _ (List.mem_append_right _ (List.mem_append_right _ (List.mem_append_right _ (List.mem_append_right _ (List.mem_append_right _ (List.mem_append_right _ (List.mem_append_right _ (List.mem_append_right _ (List.mem_append_right _ (List.mem_append_right _ (List.mem_append_right _ h))))))))))))))))
  refine zQ (fun Q hQ => ?_)
  refine zH (A := A) (ws := (xW κ (xX κ φ ψ) σ)) (fun H hP hS => ?_) hP
  have hk0 := hk.1
  have hk1 := hk.2.1
  have hk2 := hk.2.2.1
  have hKc : va_K (dC, dI) vwCl (cT κ) s := hK.sub [0, 1, 2, 3, 4, 5, 6, 7, 8, 9, 10, 11, 12, 13, 14, 15, 16, 17, 18, 19, 20] rfl
  refine va_new (ci := 4) (fs := [.null, .null, .int 0, .int 0]) (C := RX4) (T := TX4) (N := 4) hx hb hts hin4 tyX4 tyX4_ok hown (ho (.classLink RX11 94 RX4) (List.mem_of_getElem? (i := 0) rfl)) (ho (.instantiable RX4 4) (List.mem_of_getElem? (i := 1) rfl)) (ho (.initialized RX4) (List.mem_of_getElem? (i := 2) rfl)) hK hP hD hS hA rfl (by decide) (Nat.le_of_ble_eq_true rfl) (Nat.le_of_ble_eq_true rfl) dX11_program_0 (fun q1_ H hP hD hS => ?_)
  refine W.widen (k := 1) (n := 4) (Nat.le_of_ble_eq_true rfl) (Nat.le_of_ble_eq_true rfl) ?_
  refine lv_dup hx hb dX11_program_3 rfl ?_
  refine lv_aload_n hx hb dX11_program_4 rfl (lv_at hl 0 rfl) ?_
  refine va_get (D := (dC, dI)) (ci := 11) (v := .ref (kA κ 1)) (C := RX11) (T := TX11) (N := 17) hx hb hts hin11 hown hK hP 0 rfl rfl 0 (Nat.le_of_ble_eq_true rfl) (ho (.fieldLink RX11 9 "NearEnough" "tape" "[B") (List.mem_of_getElem? (i := 3) rfl)) (fun _ h9 => h9) rfl dX11_program_5 ?_
  refine lv_aload_n hx hb dX11_program_8 rfl (lv_at hl 0 rfl) ?_
  have bσ_1 : 0 ≤ (σ.1 1).toInt ∧ (σ.1 1).toInt ≤ 1000 := hI.1 1
  refine va_get (D := (dC, dI)) (ci := 11) (v := .int (σ.1 1)) (C := RX11) (T := TX11) (N := 17) hx hb hts hin11 hown hK hP 0 rfl rfl 1 (Nat.le_of_ble_eq_true rfl) (ho (.fieldLink RX11 13 "NearEnough" "bytes" "I") (List.mem_of_getElem? (i := 4) rfl)) (fun _ h9 => h9) rfl dX11_program_9 ?_
  have hx9_ : 0 ≤ (σ.1 1).toInt ∧ (σ.1 1).toInt ≤ 1000 := hI.1 1
  have hP := pmP hP (fun z h => (op1_ (κ := κ) (X := (xX κ φ ψ)) (σ := σ) (z := (q1_, .inr (4, [.null, .null, .int 0, .int 0])))).mem_iff.mpr h)
  have hD := pmD0 hD (op1_ (κ := κ) (X := (xX κ φ ψ)) (σ := σ) (z := (q1_, .inr (4, [.null, .null, .int 0, .int 0]))))
  refine zc_v (wr := oW κ (xX κ φ ψ) σ) (wc := [(q1_, .inr (4, [.null, .null, .int 0, .int 0])), tpC κ σ]) (va_runI (As := [.ref (kA κ 1), .int (σ.1 1)]) (rest := [.ref q1_]) ⟨hx, hb, hml, hown, hts⟩ (c_iReader l dC dI q1_ (kA κ 1) (kC κ 1) (σ.2.1 0) (σ.1 1) H.size) (cwI 2 hts gd_t_program_96_c_iReader rfl rfl rfl (ho (.initialized RX4) (List.mem_of_getElem? (i := 2) rfl)) (ho (.methodLink RX11 96 yX4_init) (List.mem_of_getElem? (i := 5) rfl)) (ho (.instanceMethod yX4_init) (List.mem_of_getElem? (i := 6) rfl)) rfl (by decide +kernel) ⟨Nat.le_of_ble_eq_true rfl, Nat.le_of_ble_eq_true rfl⟩) (preS (A := A) (pmP hP (fun z h => List.mem_append_right _ h)) (hK.sub (tys' := [(kC κ 1, .byte)]) [0] rfl) (pmD (r := oW κ (xX κ φ ψ) σ) hD List.perm_append_comm) hE.x) rfl rfl hl.1 rfl (lv_room (Nat.le_of_ble_eq_true rfl)) dX11_program_12 ⟨Nat.le_of_ble_eq_true rfl, Nat.le_of_ble_eq_true rfl⟩) hP hD hS hA (fun u9 H locs hq hK1 hP hD hS => ?_)
  obtain ⟨u2_, u3_, u4_, u5_, u6_, u7_, u8_, u9_, u10_, u11_, u12_, u13_⟩ := u9
  have hP : va_P (dC, dI) vwCl (oW κ (xX κ φ ψ) σ ++ rW (kR q1_ u2_ (kA κ 1) u3_ u4_ u5_ u6_ u7_ u8_ (kC κ 1) u9_ u10_ u11_ u12_ u13_) (rho0 (mn_ (σ.1 1)) (σ.2.1 0))) H := hP
  have hD : va_D A (oW κ (xX κ φ ψ) σ ++ rW (kR q1_ u2_ (kA κ 1) u3_ u4_ u5_ u6_ u7_ u8_ (kC κ 1) u9_ u10_ u11_ u12_ u13_) (rho0 (mn_ (σ.1 1)) (σ.2.1 0))) := hD
  have hKr : va_K (dC, dI) vwCl (rT (kR q1_ u2_ (kA κ 1) u3_ u4_ u5_ u6_ u7_ u8_ (kC κ 1) u9_ u10_ u11_ u12_ u13_)) s := ((hK.sub (tys' := [(kC κ 1, .byte)]) [0] rfl).app hK1)
  refine W.widen (k := 8) (n := 45) (Nat.le_of_ble_eq_true rfl) (Nat.le_of_ble_eq_true rfl) ?_
  refine lv_astore_n (lv' := [(1, .ref q1_), (0, .ref (kA κ 0))]) hx hb dX11_program_15 rfl hl (Nat.le_of_ble_eq_true rfl) rfl (fun ls hl => ?_)
  refine lv_aload_n hx hb dX11_program_16 rfl (lv_at hl 0 rfl) ?_
  have hPr : va_P (dC, dI) vwCl (rW (kR q1_ u2_ (kA κ 1) u3_ u4_ u5_ u6_ u7_ u8_ (kC κ 1) u9_ u10_ u11_ u12_ u13_) (rho0 (mn_ (σ.1 1)) (σ.2.1 0))) H := (pmP hP (fun z h => List.mem_append_right _ h))
  have hDr : va_D A (rW (kR q1_ u2_ (kA κ 1) u3_ u4_ u5_ u6_ u7_ u8_ (kC κ 1) u9_ u10_ u11_ u12_ u13_) (rho0 (mn_ (σ.1 1)) (σ.2.1 0))) := (pmD (r := oW κ (xX κ φ ψ) σ) hD List.perm_append_comm)
  refine zc_v (wr := oW κ (xX κ φ ψ) σ) (wc := rW (kR q1_ u2_ (kA κ 1) u3_ u4_ u5_ u6_ u7_ u8_ (kC κ 1) u9_ u10_ u11_ u12_ u13_) (rho0 (mn_ (σ.1 1)) (σ.2.1 0))) (va_runV (As := []) (rest := []) ⟨hx, hb, hml, hown, hts⟩ (g_readAll l dC dI adK adV (kR q1_ u2_ (kA κ 1) u3_ u4_ u5_ u6_ u7_ u8_ (kC κ 1) u9_ u10_ u11_ u12_ u13_) H.size (rho0 (mn_ (σ.1 1)) (σ.2.1 0)) kR_ok (rho_ok (mn_ok hx9_))) (cwV 0 hts gd_t_program_99_g_readAll rfl rfl rfl dd_g_readAll ⟨Nat.le_of_ble_eq_true rfl, Nat.le_of_ble_eq_true rfl⟩) (preVr hPr hKr hDr hE hZ hR hS hA (ci := 4) (q0 := 0) rfl rfl) rfl rfl hl.1 rfl (lv_room (Nat.le_of_ble_eq_true rfl)) dX11_program_17 ⟨Nat.le_of_ble_eq_true rfl, Nat.le_of_ble_eq_true rfl⟩) hP hD hS hA (fun u9 H locs hq hK1 hP hD hS => ?_)
  obtain ⟨κr_, ρ_⟩ := u9
  obtain ⟨hkr_, hIr_, har_, hcr_, -⟩ := hq
  have hP : va_P (dC, dI) vwCl (mW_ κ (xX κ φ ψ) σ κr_ ρ_) H := pmP hP (fun z h => op2_.mem_iff.mpr h)
  have hD : va_D A (mW_ κ (xX κ φ ψ) σ κr_ ρ_) := pmD0 hD op2_
  have ka2_ : kA κr_ 2 = kA κ 1 := by rw [har_]; rfl
  have kc2_ : kC κr_ 2 = kC κ 1 := by rw [hcr_]; rfl
  have ka0_ : kA κr_ 0 = q1_ := by rw [har_]; rfl
  have hKb : va_K (dC, dI) vwCl (bT κ κr_) s := by rw [show bT κ κr_ = bT κ (kR q1_ u2_ (kA κ 1) u3_ u4_ u5_ u6_ u7_ u8_ (kC κ 1) u9_ u10_ u11_ u12_ u13_) by unfold bT; rw [hcr_]]; exact ((hK.sub (tys' := [(kC κ 7, .object RX5), (kC κ 8, .object RX9), (kC κ 9, .int), (kC κ 10, .int), (kC κ 11, .int)]) [5, 6, 7, 8, 9] rfl).app (hKr.sub (tys' := [(kC (kR q1_ u2_ (kA κ 1) u3_ u4_ u5_ u6_ u7_ u8_ (kC κ 1) u9_ u10_ u11_ u12_ u13_) 4, .object RX5), (kC (kR q1_ u2_ (kA κ 1) u3_ u4_ u5_ u6_ u7_ u8_ (kC κ 1) u9_ u10_ u11_ u12_ u13_) 5, .object RX9), (kC (kR q1_ u2_ (kA κ 1) u3_ u4_ u5_ u6_ u7_ u8_ (kC κ 1) u9_ u10_ u11_ u12_ u13_) 6, .int), (kC (kR q1_ u2_ (kA κ 1) u3_ u4_ u5_ u6_ u7_ u8_ (kC κ 1) u9_ u10_ u11_ u12_ u13_) 7, .int), (kC (kR q1_ u2_ (kA κ 1) u3_ u4_ u5_ u6_ u7_ u8_ (kC κ 1) u9_ u10_ u11_ u12_ u13_) 8, .int)]) [1, 2, 3, 4, 5] rfl))
  have hl : lv_has ls 2 [(1, .ref (kA κr_ 0)), (0, .ref (kA κ 0))] := by rw [ka0_]; exact hl
  refine W.widen (k := 1008) (n := 11045) (Nat.le_of_ble_eq_true rfl) (Nat.le_of_ble_eq_true rfl) ?_
  refine lv_aload_n hx hb dX11_program_20 rfl (lv_at hl 1 rfl) ?_
  refine lv_aload_n hx hb dX11_program_21 rfl (lv_at hl 0 rfl) ?_
  refine va_get (D := (dC, dI)) (ci := 4) (v := .int (ρ_.1 1)) (C := RX4) (T := TX4) (N := 4) hx hb hts hin4 hown hK hP 0 rfl rfl 2 (Nat.le_of_ble_eq_true rfl) (ho (.fieldLink RX11 102 "NearEnough$Reader" "fault" "I") (List.mem_of_getElem? (i := 7) rfl)) (fun _ h9 => h9) rfl dX11_program_22 ?_
  refine va_put (D := (dC, dI)) (ci := 11) (v := .int (ρ_.1 1)) (ty := tyX11 2) (C := RX11) (T := TX11) (N := 17) hx hb hts hin11 tyX11 tyX11_ok nmX11 hown hK hP hD hS 9 rfl rfl 2 (Nat.le_of_ble_eq_true rfl) (ho (.fieldLink RX11 17 "NearEnough" "faultNumber" "I") (List.mem_of_getElem? (i := 8) rfl)) (fun _ h9 => h9) rfl (tyX11_ok 2 (Nat.le_of_ble_eq_true rfl)) rfl rfl (Nat.le_of_ble_eq_true rfl) dX11_program_25 (fun H locs hP hD hS => ?_)
  have hP : va_P (dC, dI) vwCl (mW_ κ (xX κ φ ψ) (sI σ 2 (ρ_.1 1)) κr_ ρ_) H := hP
  have hD : va_D A (mW_ κ (xX κ φ ψ) (sI σ 2 (ρ_.1 1)) κr_ ρ_) := hD
  refine lv_aload_n hx hb dX11_program_28 rfl (lv_at hl 1 rfl) ?_
  refine lv_aload_n hx hb dX11_program_29 rfl (lv_at hl 0 rfl) ?_
  refine va_get (D := (dC, dI)) (ci := 4) (v := .int (ρ_.1 2)) (C := RX4) (T := TX4) (N := 4) hx hb hts hin4 hown hK hP 0 rfl rfl 3 (Nat.le_of_ble_eq_true rfl) (ho (.fieldLink RX11 105 "NearEnough$Reader" "faultPlace" "I") (List.mem_of_getElem? (i := 9) rfl)) (fun _ h9 => h9) rfl dX11_program_30 ?_
  refine va_put (D := (dC, dI)) (ci := 11) (v := .int (ρ_.1 2)) (ty := tyX11 3) (C := RX11) (T := TX11) (N := 17) hx hb hts hin11 tyX11 tyX11_ok nmX11 hown hK hP hD hS 9 rfl rfl 3 (Nat.le_of_ble_eq_true rfl) (ho (.fieldLink RX11 20 "NearEnough" "faultPlace" "I") (List.mem_of_getElem? (i := 10) rfl)) (fun _ h9 => h9) rfl (tyX11_ok 3 (Nat.le_of_ble_eq_true rfl)) rfl rfl (Nat.le_of_ble_eq_true rfl) dX11_program_33 (fun H locs hP hD hS => ?_)
  have hP : va_P (dC, dI) vwCl (mW_ κ (xX κ φ ψ) (sI (sI σ 2 (ρ_.1 1)) 3 (ρ_.1 2)) κr_ ρ_) H := hP
  have hD : va_D A (mW_ κ (xX κ φ ψ) (sI (sI σ 2 (ρ_.1 1)) 3 (ρ_.1 2)) κr_ ρ_) := hD
  refine lv_aload_n hx hb dX11_program_36 rfl (lv_at hl 1 rfl) ?_
  refine va_get (D := (dC, dI)) (ci := 11) (v := .int (ρ_.1 1)) (C := RX11) (T := TX11) (N := 17) hx hb hts hin11 hown hK hP 9 rfl rfl 2 (Nat.le_of_ble_eq_true rfl) (ho (.fieldLink RX11 17 "NearEnough" "faultNumber" "I") (List.mem_of_getElem? (i := 8) rfl)) (fun _ h9 => h9) rfl dX11_program_37 ?_
  refine lv_if_eq (tgt := 45) hx hb dX11_program_40 rfl (fun c14_ => ?_) (fun c14_ => ?_)
  · have tc14_ := (show (ρ_.1 1).toInt = 0 from ti_eq rfl rg_11 c14_)
    refine lv_aload_n hx hb dX11_program_45 rfl (lv_at hl 1 rfl) ?_
    refine va_get (D := (dC, dI)) (ci := 11) (v := .ref (kA κ 6)) (C := RX11) (T := TX11) (N := 17) hx hb hts hin11 hown hK hP 9 rfl rfl 4 (Nat.le_of_ble_eq_true rfl) (ho (.fieldLink RX11 26 "NearEnough" "told" "LNearEnough$Program;") (List.mem_of_getElem? (i := 11) rfl)) (fun _ h9 => h9) rfl dX11_program_46 ?_
    refine lv_aload_n hx hb dX11_program_49 rfl (lv_at hl 0 rfl) ?_
    refine va_get (D := (dC, dI)) (ci := 4) (v := .ref (kA κr_ 3)) (C := RX4) (T := TX4) (N := 4) hx hb hts hin4 hown hK hP 0 rfl rfl 1 (Nat.le_of_ble_eq_true rfl) (ho (.fieldLink RX11 106 "NearEnough$Reader" "told" "LNearEnough$Program;") (List.mem_of_getElem? (i := 12) rfl)) (fun _ h9 => h9) rfl dX11_program_50 ?_
    have hP : va_P (dC, dI) vwCl ((wr2 κ (xX κ φ ψ) (sI (sI σ 2 (ρ_.1 1)) 3 (ρ_.1 2)) κr_ ρ_) ++ bW κ κr_) H := pmP hP (fun z h => op4_.mem_iff.mpr h)
    have hD : va_D A ((wr2 κ (xX κ φ ψ) (sI (sI σ 2 (ρ_.1 1)) 3 (ρ_.1 2)) κr_ ρ_) ++ bW κ κr_) := pmD0 hD op4_
    refine zc_v (wr := (wr2 κ (xX κ φ ψ) (sI (sI σ 2 (ρ_.1 1)) 3 (ρ_.1 2)) κr_ ρ_)) (wc := bW κ κr_) (va_runV (As := [.ref (kA κr_ 3)]) (rest := []) ⟨hx, hb, hml, hown, hts⟩ (b_become l dC dI κ κr_ H.size hkr_) (cwV 1 hts gd_t_program_107_b_become rfl rfl rfl dd_b_become ⟨Nat.le_of_ble_eq_true rfl, Nat.le_of_ble_eq_true rfl⟩) (preVy (pmP hP (fun z h => List.mem_append_right _ h)) hKb (pmD (r := (wr2 κ (xX κ φ ψ) (sI (sI σ 2 (ρ_.1 1)) 3 (ρ_.1 2)) κr_ ρ_)) hD List.perm_append_comm) hE (ci := 3) (q0 := 0) rfl rfl) rfl rfl hl.1 rfl (lv_room (Nat.le_of_ble_eq_true rfl)) dX11_program_53 ⟨Nat.le_of_ble_eq_true rfl, Nat.le_of_ble_eq_true rfl⟩) hP hD hS hA (fun u9 H locs hq hK1 hP hD hS => ?_)
    obtain ⟨τ15_, eτ15_⟩ : ∃ x9 : MS, x9 = sA (sI (sI σ 2 (ρ_.1 1)) 3 (ρ_.1 2)) 0 (ρ_.2.1 0) := ⟨_, rfl⟩
    have hIτ15_ : CInv τ15_ := by rw [eτ15_]; exact CInv.sA (k := 0) (f := ρ_.2.1 0) (CInv.sI (k := 3) (v := (ρ_.1 2)) (CInv.sI (k := 2) (v := (ρ_.1 1)) hI (Inv.any (ρ_.1 1))) (Inv.any (ρ_.1 2))) (fun j _ => Inv.any _)
    have hP : va_P (dC, dI) vwCl (xW (kB κ κr_) (xX (kB κ κr_) φ ψ) τ15_) H := by rw [xX_kB, eτ15_]; exact beP ka2_ kc2_ hq.1 hP
    have hD : va_D A (xW (kB κ κr_) (xX (kB κ κr_) φ ψ) τ15_) := by rw [xX_kB, eτ15_]; exact beD ka2_ kc2_ hD
    have hK : va_K (dC, dI) vwCl (tT (kB κ κr_)) s := hK
    have hKc : va_K (dC, dI) vwCl (cT (kB κ κr_)) s := hKc
    refine W.widen (k := 1008) (n := 11045) (Nat.le_of_ble_eq_true rfl) (Nat.le_of_ble_eq_true rfl) ?_
    refine lv_aload_n hx hb dX11_program_56 rfl (lv_at hl 1 rfl) ?_
    refine lv_iconst (v := 0) hx hb dX11_program_57 rg_0 ?_
    refine va_put (D := (dC, dI)) (ci := 11) (v := .int 0) (ty := tyX11 1) (C := RX11) (T := TX11) (N := 17) hx hb hts hin11 tyX11 tyX11_ok nmX11 hown hK hP hD hS 0 rfl rfl 1 (Nat.le_of_ble_eq_true rfl) (ho (.fieldLink RX11 13 "NearEnough" "bytes" "I") (List.mem_of_getElem? (i := 4) rfl)) (fun _ h9 => h9) rfl (tyX11_ok 1 (Nat.le_of_ble_eq_true rfl)) rfl rfl (Nat.le_of_ble_eq_true rfl) dX11_program_58 (fun H locs hP hD hS => ?_)
    have hP : va_P (dC, dI) vwCl (xW (kB κ κr_) (xX (kB κ κr_) φ ψ) (sI τ15_ 1 0)) H := hP
    have hD : va_D A (xW (kB κ κr_) (xX (kB κ κr_) φ ψ) (sI τ15_ 1 0)) := hD
    refine lv_aload_n hx hb dX11_program_61 rfl (lv_at hl 1 rfl) ?_
    refine va_get (D := (dC, dI)) (ci := 11) (v := .ref (kA κ 12)) (C := RX11) (T := TX11) (N := 17) hx hb hts hin11 hown hK hP 0 rfl rfl 5 (Nat.le_of_ble_eq_true rfl) (ho (.fieldLink RX11 33 "NearEnough" "sheets" "LNearEnough$Sheets;") (List.mem_of_getElem? (i := 13) rfl)) (fun _ h9 => h9) rfl dX11_program_62 ?_
    refine lv_iconst (v := 0) hx hb dX11_program_65 rg_0 ?_
    refine va_put (D := (dC, dI)) (ci := 7) (v := .int 0) (ty := tyX7 2) (C := RX7) (T := TX7) (N := 3) hx hb hts hin7 tyX7 tyX7_ok nmX7 hown hK hP hD hS 12 rfl rfl 2 (Nat.le_of_ble_eq_true rfl) (ho (.fieldLink RX11 111 "NearEnough$Sheets" "count" "I") (List.mem_of_getElem? (i := 14) rfl)) (fun _ h9 => h9) rfl (tyX7_ok 2 (Nat.le_of_ble_eq_true rfl)) rfl rfl (Nat.le_of_ble_eq_true rfl) dX11_program_66 (fun H locs hP hD hS => ?_)
    have hP : va_P (dC, dI) vwCl (xW (kB κ κr_) (xX (kB κ κr_) φ ψ) (sI (sI τ15_ 1 0) 12 0)) H := hP
    have hD : va_D A (xW (kB κ κr_) (xX (kB κ κr_) φ ψ) (sI (sI τ15_ 1 0) 12 0)) := hD
    refine lv_aload_n hx hb dX11_program_69 rfl (lv_at hl 1 rfl) ?_
    refine va_get (D := (dC, dI)) (ci := 11) (v := .ref (kA κ 15)) (C := RX11) (T := TX11) (N := 17) hx hb hts hin11 hown hK hP 0 rfl rfl 6 (Nat.le_of_ble_eq_true rfl) (ho (.fieldLink RX11 40 "NearEnough" "changes" "LNearEnough$Changes;") (List.mem_of_getElem? (i := 15) rfl)) (fun _ h9 => h9) rfl dX11_program_70 ?_
    refine zy_v (va_runV (As := []) (rest := []) ⟨hx, hb, hml, hown, hts⟩ (k_clear l dC dI (ky (kB κ κr_) (xX (kB κ κr_) φ ψ)) H.size (sI (sI τ15_ 1 0) 12 0)  hkr_ (CInv.sI (k := 12) (v := 0) (CInv.sI (k := 1) (v := 0) hIτ15_ rg_463) rg_457) ) (cwV 0 hts gd_t_program_114_k_clear rfl rfl rfl dd_k_clear ⟨Nat.le_of_ble_eq_true rfl, Nat.le_of_ble_eq_true rfl⟩) (preVy (xcP hP) hKc (xcD hD) hE (ci := 0) (q0 := 15) rfl rfl) rfl rfl hl.1 rfl (lv_room (Nat.le_of_ble_eq_true rfl)) dX11_program_73 ⟨Nat.le_of_ble_eq_true rfl, Nat.le_of_ble_eq_true rfl⟩) (xcD hD) hS hA (fun τ17_ H locs hq hP hD hS => ?_)
    obtain ⟨hτ17_, q18_⟩ := hq
    have hP : va_P (dC, dI) vwCl (xW (kB κ κr_) (xX (kB κ κr_) φ ψ) τ17_) H := cxP hP
    have hD : va_D A (xW (kB κ κr_) (xX (kB κ κr_) φ ψ) τ17_) := cxD hD
    refine W.widen (k := 1008) (n := 11045) (Nat.le_of_ble_eq_true rfl) (Nat.le_of_ble_eq_true rfl) ?_
    refine lv_aload_n hx hb dX11_program_76 rfl (lv_at hl 1 rfl) ?_
    refine lv_iconst (v := 0) hx hb dX11_program_77 rg_0 ?_
    refine va_put (D := (dC, dI)) (ci := 11) (v := .int 0) (ty := tyX11 12) (C := RX11) (T := TX11) (N := 17) hx hb hts hin11 tyX11 tyX11_ok nmX11 hown hK hP hD hS 0 rfl rfl 12 (Nat.le_of_ble_eq_true rfl) (ho (.fieldLink RX11 72 "NearEnough" "guards" "I") (List.mem_of_getElem? (i := 16) rfl)) (fun _ h9 => h9) rfl (tyX11_ok 12 (Nat.le_of_ble_eq_true rfl)) rfl rfl (Nat.le_of_ble_eq_true rfl) dX11_program_78 (fun H locs hP hD hS => ?_)
    have hP : va_P (dC, dI) vwCl (xW (kB κ κr_) (xX (kB κ κr_) φ ψ) (sI τ17_ 7 0)) H := hP
    have hD : va_D A (xW (kB κ κr_) (xX (kB κ κr_) φ ψ) (sI τ17_ 7 0)) := hD
    refine lv_aload_n hx hb dX11_program_81 rfl (lv_at hl 1 rfl) ?_
    refine lv_iconst (v := 0) hx hb dX11_program_82 rg_0 ?_
    refine va_put (D := (dC, dI)) (ci := 11) (v := .int 0) (ty := tyX11 13) (C := RX11) (T := TX11) (N := 17) hx hb hts hin11 tyX11 tyX11_ok nmX11 hown hK hP hD hS 0 rfl rfl 13 (Nat.le_of_ble_eq_true rfl) (ho (.fieldLink RX11 75 "NearEnough" "left" "I") (List.mem_of_getElem? (i := 17) rfl)) (fun _ h9 => h9) rfl (tyX11_ok 13 (Nat.le_of_ble_eq_true rfl)) rfl rfl (Nat.le_of_ble_eq_true rfl) dX11_program_83 (fun H locs hP hD hS => ?_)
    have hP : va_P (dC, dI) vwCl (xW (kB κ κr_) (xX (kB κ κr_) φ ψ) (sI (sI τ17_ 7 0) 8 0)) H := hP
    have hD : va_D A (xW (kB κ κr_) (xX (kB κ κr_) φ ψ) (sI (sI τ17_ 7 0) 8 0)) := hD
    refine lv_aload_n hx hb dX11_program_86 rfl (lv_at hl 1 rfl) ?_
    refine zy_v (va_runV (As := []) (rest := []) ⟨hx, hb, hml, hown, hts⟩ (v_forgetFront l dC dI (kB κ κr_) H.size φ ψ (sI (sI τ17_ 7 0) 8 0)  hkr_ (CInv.sI (k := 8) (v := 0) (CInv.sI (k := 7) (v := 0) hτ17_ rg_459) (Inv.any 0)) hF ) (cwV 0 hts gd_t_program_117_v_forgetFront rfl rfl rfl dd_v_forgetFront ⟨Nat.le_of_ble_eq_true rfl, Nat.le_of_ble_eq_true rfl⟩) (preVy hP hK hD hE (ci := 11) (q0 := 0) rfl rfl) rfl rfl hl.1 rfl (lv_room (Nat.le_of_ble_eq_true rfl)) dX11_program_87 ⟨Nat.le_of_ble_eq_true rfl, Nat.le_of_ble_eq_true rfl⟩) hD hS hA (fun τ20_ H locs hq hP hD hS => ?_)
    obtain ⟨φ22_, ψ23_, τ24_⟩ := τ20_
    obtain ⟨hτ24_, hφ22_, q21_⟩ := hq
    have hP : va_P (dC, dI) vwCl (xW (kB κ κr_) (xX (kB κ κr_) φ22_ ψ23_) τ24_) H := hP
    have hD : va_D A (xW (kB κ κr_) (xX (kB κ κr_) φ22_ ψ23_) τ24_) := hD
    have q21_ : τ24_ = (sI (sI τ17_ 7 0) 8 0) := q21_
    refine W.widen (k := 1008) (n := 11045) (Nat.le_of_ble_eq_true rfl) (Nat.le_of_ble_eq_true rfl) ?_
    refine lv_aload_n hx hb dX11_program_90 rfl (lv_at hl 1 rfl) ?_
    refine zy_v (va_runV (As := []) (rest := []) ⟨hx, hb, hml, hown, hts⟩ (v_forgetPlan l dC dI (kB κ κr_) H.size φ22_ ψ23_ τ24_  hkr_ hτ24_ hφ22_ ) (cwV 0 hts gd_t_program_120_v_forgetPlan rfl rfl rfl dd_v_forgetPlan ⟨Nat.le_of_ble_eq_true rfl, Nat.le_of_ble_eq_true rfl⟩) (preVy hP hK hD hE (ci := 11) (q0 := 0) rfl rfl) rfl rfl hl.1 rfl (lv_room (Nat.le_of_ble_eq_true rfl)) dX11_program_91 ⟨Nat.le_of_ble_eq_true rfl, Nat.le_of_ble_eq_true rfl⟩) hD hS hA (fun τ26_ H locs hq hP hD hS => ?_)
    obtain ⟨φ28_, ψ29_, τ30_⟩ := τ26_
    obtain ⟨hτ30_, hφ28_, q27_⟩ := hq
    have hP : va_P (dC, dI) vwCl (xW (kB κ κr_) (xX (kB κ κr_) φ28_ ψ29_) τ30_) H := hP
    have hD : va_D A (xW (kB κ κr_) (xX (kB κ κr_) φ28_ ψ29_) τ30_) := hD
    have q27_ : τ30_ = τ24_ := q27_
    refine W.widen (k := 1008) (n := 11045) (Nat.le_of_ble_eq_true rfl) (Nat.le_of_ble_eq_true rfl) ?_
    refine lv_aload_n hx hb dX11_program_94 rfl (lv_at hl 1 rfl) ?_
    refine va_get (D := (dC, dI)) (ci := 11) (v := .ref (kA κ 6)) (C := RX11) (T := TX11) (N := 17) hx hb hts hin11 hown hK hP 0 rfl rfl 4 (Nat.le_of_ble_eq_true rfl) (ho (.fieldLink RX11 26 "NearEnough" "told" "LNearEnough$Program;") (List.mem_of_getElem? (i := 11) rfl)) (fun _ h9 => h9) rfl dX11_program_95 ?_
    refine va_get (D := (dC, dI)) (ci := 3) (v := .int (pI (kB κ κr_) 1)) (C := RX3) (T := TX3) (N := 8) hx hb hts hin3 hown hK hP 6 rfl rfl 6 (Nat.le_of_ble_eq_true rfl) (ho (.fieldLink RX11 123 "NearEnough$Program" "stepCount" "I") (List.mem_of_getElem? (i := 18) rfl)) (fun _ h9 => h9) rfl dX11_program_98 ?_
    refine W.widen (k := 1008) (n := 11045) (Nat.le_of_ble_eq_true rfl) (Nat.le_of_ble_eq_true rfl) ?_
    rw [hQ]
    exact W.iret (v := (pI (kB κ κr_) 1)) hx hb hr (fun t ht hW => ⟨⟨(pI (kB κ κr_) 1), ((kB κ κr_), φ28_, ψ29_, τ30_), rfl, ⟨hkr_, hτ30_, hφ28_, rfl, ⟨rfl, rfl⟩⟩, wEn_of hP hK hD ht hW⟩, hS.F ht⟩) hS.2.2 dX11_program_101
  · have tc14_ := (show (ρ_.1 1).toInt ≠ 0 from ti_ne rfl rg_11 c14_)
    refine lv_iconst (v := (-1)) hx hb dX11_program_43 rg_53 ?_
    obtain ⟨τ31_, eτ31_⟩ : ∃ x9 : MS, x9 = sA (sI (sI σ 2 (ρ_.1 1)) 3 (ρ_.1 2)) 0 (ρ_.2.1 0) := ⟨_, rfl⟩
    have hIτ31_ : CInv τ31_ := by rw [eτ31_]; exact CInv.sA (k := 0) (f := ρ_.2.1 0) (CInv.sI (k := 3) (v := (ρ_.1 2)) (CInv.sI (k := 2) (v := (ρ_.1 1)) hI (Inv.any (ρ_.1 1))) (Inv.any (ρ_.1 2))) (fun j _ => Inv.any _)
    have hP : va_P (dC, dI) vwCl (xW κ (xX κ φ ψ) τ31_) H := by rw [eτ31_]; exact pmP hP (fun z h => (op3_ ka2_ kc2_).mem_iff.mpr (List.mem_append_left _ h))
    have hD : va_D A (xW κ (xX κ φ ψ) τ31_) := by rw [eτ31_]; exact pmD hD (op3_ ka2_ kc2_)
    refine W.widen (k := 1008) (n := 11045) (Nat.le_of_ble_eq_true rfl) (Nat.le_of_ble_eq_true rfl) ?_
    have kk32_ : ((-1) : Int32).toInt = (-1) := rg_489
    rw [hQ]
    exact W.iret (v := (-1)) hx hb hr (fun t ht hW => ⟨⟨(-1), (κ, φ, ψ, τ31_), rfl, ⟨hk, hIτ31_, hF, rfl, ⟨rfl, rfl⟩⟩, wEn_of hP hK hD ht hW⟩, hS.F ht⟩) hS.2.2 dX11_program_44
