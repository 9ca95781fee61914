theorem dX3_become_0 : decode cX3_become 0 = .ok (.aload_n 0, 1) := by decide +kernel
theorem dX3_become_1 : decode cX3_become 1 = .ok (.aload_n 1, 1) := by decide +kernel
theorem dX3_become_2 : decode cX3_become 2 = .ok (.getfield 33, 3) := by decide +kernel
theorem dX3_become_5 : decode cX3_become 5 = .ok (.putfield 33, 3) := by decide +kernel
theorem dX3_become_8 : decode cX3_become 8 = .ok (.aload_n 0, 1) := by decide +kernel
theorem dX3_become_9 : decode cX3_become 9 = .ok (.aload_n 1, 1) := by decide +kernel
theorem dX3_become_10 : decode cX3_become 10 = .ok (.getfield 37, 3) := by decide +kernel
theorem dX3_become_13 : decode cX3_become 13 = .ok (.putfield 37, 3) := by decide +kernel
theorem dX3_become_16 : decode cX3_become 16 = .ok (.aload_n 0, 1) := by decide +kernel
theorem dX3_become_17 : decode cX3_become 17 = .ok (.aload_n 1, 1) := by decide +kernel
theorem dX3_become_18 : decode cX3_become 18 = .ok (.getfield 40, 3) := by decide +kernel
theorem dX3_become_21 : decode cX3_become 21 = .ok (.putfield 40, 3) := by decide +kernel
theorem dX3_become_24 : decode cX3_become 24 = .ok (.iconst 0, 1) := by decide +kernel
theorem dX3_become_25 : decode cX3_become 25 = .ok (.istore_n 2, 1) := by decide +kernel
theorem dX3_become_26 : decode cX3_become 26 = .ok (.iload_n 2, 1) := by decide +kernel
theorem dX3_become_27 : decode cX3_become 27 = .ok (.iconst 2, 1) := by decide +kernel
theorem dX3_become_28 : decode cX3_become 28 = .ok (.if_icmp .ge 21, 3) := by decide +kernel
theorem dX3_become_49 : decode cX3_become 49 = .ok (.iconst 0, 1) := by decide +kernel
theorem dX3_become_50 : decode cX3_become 50 = .ok (.istore_n 2, 1) := by decide +kernel
theorem dX3_become_51 : decode cX3_become 51 = .ok (.iload_n 2, 1) := by decide +kernel
theorem dX3_become_52 : decode cX3_become 52 = .ok (.bipush 12, 2) := by decide +kernel
theorem dX3_become_54 : decode cX3_become 54 = .ok (.if_icmp .ge 21, 3) := by decide +kernel
theorem dX3_become_75 : decode cX3_become 75 = .ok (.aload_n 1, 1) := by decide +kernel
theorem dX3_become_76 : decode cX3_become 76 = .ok (.getfield 23, 3) := by decide +kernel
theorem dX3_become_79 : decode cX3_become 79 = .ok (.iconst 0, 1) := by decide +kernel
theorem dX3_become_80 : decode cX3_become 80 = .ok (.aload_n 0, 1) := by decide +kernel
theorem dX3_become_81 : decode cX3_become 81 = .ok (.getfield 23, 3) := by decide +kernel
theorem dX3_become_84 : decode cX3_become 84 = .ok (.iconst 0, 1) := by decide +kernel
theorem dX3_become_85 : decode cX3_become 85 = .ok (.iconst 4, 1) := by decide +kernel
theorem dX3_become_86 : decode cX3_become 86 = .ok (.invokestatic 43, 3) := by decide +kernel
theorem dX3_become_89 : decode cX3_become 89 = .ok (.aload_n 1, 1) := by decide +kernel
theorem dX3_become_90 : decode cX3_become 90 = .ok (.getfield 27, 3) := by decide +kernel
theorem dX3_become_93 : decode cX3_become 93 = .ok (.iconst 0, 1) := by decide +kernel
theorem dX3_become_94 : decode cX3_become 94 = .ok (.aload_n 0, 1) := by decide +kernel
theorem dX3_become_95 : decode cX3_become 95 = .ok (.getfield 27, 3) := by decide +kernel
theorem dX3_become_98 : decode cX3_become 98 = .ok (.iconst 0, 1) := by decide +kernel
theorem dX3_become_99 : decode cX3_become 99 = .ok (.iconst 4, 1) := by decide +kernel
theorem dX3_become_100 : decode cX3_become 100 = .ok (.invokestatic 43, 3) := by decide +kernel
theorem dX3_become_103 : decode cX3_become 103 = .ok (.aload_n 1, 1) := by decide +kernel
theorem dX3_become_104 : decode cX3_become 104 = .ok (.getfield 30, 3) := by decide +kernel
theorem dX3_become_107 : decode cX3_become 107 = .ok (.iconst 0, 1) := by decide +kernel
theorem dX3_become_108 : decode cX3_become 108 = .ok (.aload_n 0, 1) := by decide +kernel
theorem dX3_become_109 : decode cX3_become 109 = .ok (.getfield 30, 3) := by decide +kernel
theorem dX3_become_112 : decode cX3_become 112 = .ok (.iconst 0, 1) := by decide +kernel
theorem dX3_become_113 : decode cX3_become 113 = .ok (.iconst 4, 1) := by decide +kernel
theorem dX3_become_114 : decode cX3_become 114 = .ok (.invokestatic 43, 3) := by decide +kernel
theorem dX3_become_117 : decode cX3_become 117 = .ok (.return_, 1) := by decide +kernel
theorem dX3_become_57 : decode cX3_become 57 = .ok (.aload_n 0, 1) := by decide +kernel
theorem dX3_become_58 : decode cX3_become 58 = .ok (.getfield 19, 3) := by decide +kernel
theorem dX3_become_61 : decode cX3_become 61 = .ok (.iload_n 2, 1) := by decide +kernel
theorem dX3_become_62 : decode cX3_become 62 = .ok (.aload_n 1, 1) := by decide +kernel
theorem dX3_become_63 : decode cX3_become 63 = .ok (.getfield 19, 3) := by decide +kernel
theorem dX3_become_66 : decode cX3_become 66 = .ok (.iload_n 2, 1) := by decide +kernel
theorem dX3_become_67 : decode cX3_become 67 = .ok (.aaload, 1) := by decide +kernel
theorem dX3_become_68 : decode cX3_become 68 = .ok (.aastore, 1) := by decide +kernel
theorem dX3_become_69 : decode cX3_become 69 = .ok (.iinc 2 1, 3) := by decide +kernel
theorem dX3_become_72 : decode cX3_become 72 = .ok (.goto (-21), 3) := by decide +kernel
theorem dX3_become_31 : decode cX3_become 31 = .ok (.aload_n 0, 1) := by decide +kernel
theorem dX3_become_32 : decode cX3_become 32 = .ok (.getfield 11, 3) := by decide +kernel
theorem dX3_become_35 : decode cX3_become 35 = .ok (.iload_n 2, 1) := by decide +kernel
theorem dX3_become_36 : decode cX3_become 36 = .ok (.aload_n 1, 1) := by decide +kernel
theorem dX3_become_37 : decode cX3_become 37 = .ok (.getfield 11, 3) := by decide +kernel
theorem dX3_become_40 : decode cX3_become 40 = .ok (.iload_n 2, 1) := by decide +kernel
theorem dX3_become_41 : decode cX3_become 41 = .ok (.aaload, 1) := by decide +kernel
theorem dX3_become_42 : decode cX3_become 42 = .ok (.aastore, 1) := by decide +kernel
theorem dX3_become_43 : decode cX3_become 43 = .ok (.iinc 2 1, 3) := by decide +kernel
theorem dX3_become_46 : decode cX3_become 46 = .ok (.goto (-20), 3) := by decide +kernel

def ow_b_become : List Cond := [.fieldLink RX3 33 "NearEnough$Program" "rowCount" "I", .fieldLink RX3 37 "NearEnough$Program" "stepCount" "I", .fieldLink RX3 40 "NearEnough$Program" "endCount" "I", .fieldLink RX3 23 "NearEnough$Program" "endStep" "[I", .methodLink RX3 43 arraycopyName, .native arraycopyName, .static arraycopyName, .initialized "java/lang/System", .fieldLink RX3 27 "NearEnough$Program" "endOff" "[I", .fieldLink RX3 30 "NearEnough$Program" "endKind" "[I", .fieldLink RX3 19 "NearEnough$Program" "steps" "[LNearEnough$Step;", .fieldLink RX3 11 "NearEnough$Program" "rows" "[LNearEnough$Row;"]
def vs_b_become : List Cond := .code yX3_become cX3_become 3 none :: (ow_b_become ++ (wsX30))
theorem vg_b_become : vs_b_become.all goodWord = true := by decide +kernel
theorem dd_b_become : yX3_become.cls = RX3 ∧ yX3_become.cls ≠ "java/lang/invoke/MethodHandle" ∧ yX3_become.cls ≠ "java/lang/invoke/VarHandle" ∧ (parseMethodDescriptor yX3_become.desc).map (fun d => d.parameters.length) = some 1 := by decide +kernel
def rm_b_become : Room := { frames := 1, cells := 0, slots := 0, locals := 60 }
set_option maxHeartbeats 4000000 in
set_option maxRecDepth 100000 in
theorem b_become (l : Launch) (dC : Nat → ClassId) (dI : Nat → Nat → Nat) (κ κr : CE) (sz : Nat) (hk : PInv κr)  : Met l yX3_become vs_b_become rm_b_become (va_Pc [.ref (kA κ 6), .ref (kA κr 3)] (wSy dC dI (bW κ κr) (bT κ κr) sz)) (va_Qv (fun (u : PS) => BeOk κr u ∧ True) (fun (u : PS) => wEn dC dI (va_A (bW κ κr) sz) (bW (kN κ u.1 u.2.1 u.2.2) κr) []) (va_A (bW κ κr) sz)) 0 0 (va_A (bW κ κr) sz) := by
  refine Met.ofW (cc := cX3_become) (maxL := 3) (ret := none) (by decide +kernel) rfl ?_
  intro p e s m args below meth c s₁ B hml hv
  obtain ⟨rfl, hsz, hP, hK, hD0, hE⟩ := hv
  have hx := B.exec
  have hb := B.bytes
  have hr := B.returns
  have hts := atoms_spec (ws := vs_b_become) B.pre
  have hown : s.vm.findClass RX3 = some m.cls := findClass_of_methodNamed B.named
  have hlocks := B.notSynchronized
  subst hsz
  have hD := hD0.self (sz := s.heap.size)
  generalize hAe : va_A (bW κ κr) s.heap.size = A at hD ⊢
  have hA : ∀ q : Nat, s.heap.size ≤ q → A q := fun q h => by rw [← hAe]; exact Or.inr h
  have hl := lv_entry ([.ref (kA κ 6), .ref (kA κr 3)]) (n := 3) (Nat.le_of_ble_eq_true rfl)
  rw [lg_entry_eq]
  generalize (lg_sl ([.ref (kA κ 6), .ref (kA κr 3)]) ++ List.replicate (3 - (lg_sl ([.ref (kA κ 6), .ref (kA κr 3)])).length) Slot.unset).toArray = ls at hl ⊢
  have hl : lv_has ls 3 [(0, .ref (kA κ 6)), (1, .ref (kA κr 3))] := hl
  have ho := fun w (h : w ∈ ow_b_become) => hts w (List.mem_cons_of_mem _ (List.mem_append_left _ h))
  have hin3 : ∀ w ∈ u_ws RX3 TX3 8, w ∈ vs_b_become := fun w h => (List.mem_cons_of_mem _ (List.mem_append_right _ h))
  refine zQ (fun Q hQ => ?_)
  refine zH (A := A) (ws := (bW κ κr)) (fun H hP hS => ?_) hP
  have hk0 := hk.1
  have hk1 := hk.2.1
  have hk2 := hk.2.2.1
  refine lv_aload_n hx hb dX3_become_0 rfl (lv_at hl 0 rfl) ?_
  refine lv_aload_n hx hb dX3_become_1 rfl (lv_at hl 1 rfl) ?_
  refine va_get (D := (dC, dI)) (ci := 3) (v := .int (pI κr 0)) (C := RX3) (T := TX3) (N := 8) hx hb hts hin3 hown hK hP 6 rfl rfl 5 (Nat.le_of_ble_eq_true rfl) (ho (.fieldLink RX3 33 "NearEnough$Program" "rowCount" "I") (List.mem_of_getElem? (i := 0) rfl)) (fun _ h9 => h9) rfl dX3_become_2 ?_
  refine va_put (D := (dC, dI)) (ci := 3) (v := .int (pI κr 0)) (ty := tyX3 5) (C := RX3) (T := TX3) (N := 8) hx hb hts hin3 tyX3 tyX3_ok nmX3 hown hK hP hD hS 0 rfl rfl 5 (Nat.le_of_ble_eq_true rfl) (ho (.fieldLink RX3 33 "NearEnough$Program" "rowCount" "I") (List.mem_of_getElem? (i := 0) rfl)) (fun _ h9 => h9) rfl (tyX3_ok 5 (Nat.le_of_ble_eq_true rfl)) rfl rfl (Nat.le_of_ble_eq_true rfl) dX3_become_5 (fun H locs hP hD hS => ?_)
  obtain ⟨i1_, ei1_⟩ : ∃ f9 : Nat → Int32, f9 = upd (pI κ) 0 (pI κr 0) := ⟨_, rfl⟩
  have hP : va_P (dC, dI) vwCl (bW (kN κ i1_ (pA κ) (pQ κ)) κr) H := by rw [ei1_]; exact hP
  have hD : va_D A (bW (kN κ i1_ (pA κ) (pQ κ)) κr) := by rw [ei1_]; exact hD
  refine lv_aload_n hx hb dX3_become_8 rfl (lv_at hl 0 rfl) ?_
  refine lv_aload_n hx hb dX3_become_9 rfl (lv_at hl 1 rfl) ?_
  refine va_get (D := (dC, dI)) (ci := 3) (v := .int (pI κr 1)) (C := RX3) (T := TX3) (N := 8) hx hb hts hin3 hown hK hP 6 rfl rfl 6 (Nat.le_of_ble_eq_true rfl) (ho (.fieldLink RX3 37 "NearEnough$Program" "stepCount" "I") (List.mem_of_getElem? (i := 1) rfl)) (fun _ h9 => h9) rfl dX3_become_10 ?_
  refine va_put (D := (dC, dI)) (ci := 3) (v := .int (pI κr 1)) (ty := tyX3 6) (C := RX3) (T := TX3) (N := 8) hx hb hts hin3 tyX3 tyX3_ok nmX3 hown hK hP hD hS 0 rfl rfl 6 (Nat.le_of_ble_eq_true rfl) (ho (.fieldLink RX3 37 "NearEnough$Program" "stepCount" "I") (List.mem_of_getElem? (i := 1) rfl)) (fun _ h9 => h9) rfl (tyX3_ok 6 (Nat.le_of_ble_eq_true rfl)) rfl rfl (Nat.le_of_ble_eq_true rfl) dX3_become_13 (fun H locs hP hD hS => ?_)
  obtain ⟨i2_, ei2_⟩ : ∃ f9 : Nat → Int32, f9 = upd i1_ 1 (pI κr 1) := ⟨_, rfl⟩
  have hP : va_P (dC, dI) vwCl (bW (kN κ i2_ (pA κ) (pQ κ)) κr) H := by rw [ei2_]; exact hP
  have hD : va_D A (bW (kN κ i2_ (pA κ) (pQ κ)) κr) := by rw [ei2_]; exact hD
  refine lv_aload_n hx hb dX3_become_16 rfl (lv_at hl 0 rfl) ?_
  refine lv_aload_n hx hb dX3_become_17 rfl (lv_at hl 1 rfl) ?_
  refine va_get (D := (dC, dI)) (ci := 3) (v := .int (pI κr 2)) (C := RX3) (T := TX3) (N := 8) hx hb hts hin3 hown hK hP 6 rfl rfl 7 (Nat.le_of_ble_eq_true rfl) (ho (.fieldLink RX3 40 "NearEnough$Program" "endCount" "I") (List.mem_of_getElem? (i := 2) rfl)) (fun _ h9 => h9) rfl dX3_become_18 ?_
  refine va_put (D := (dC, dI)) (ci := 3) (v := .int (pI κr 2)) (ty := tyX3 7) (C := RX3) (T := TX3) (N := 8) hx hb hts hin3 tyX3 tyX3_ok nmX3 hown hK hP hD hS 0 rfl rfl 7 (Nat.le_of_ble_eq_true rfl) (ho (.fieldLink RX3 40 "NearEnough$Program" "endCount" "I") (List.mem_of_getElem? (i := 2) rfl)) (fun _ h9 => h9) rfl (tyX3_ok 7 (Nat.le_of_ble_eq_true rfl)) rfl rfl (Nat.le_of_ble_eq_true rfl) dX3_become_21 (fun H locs hP hD hS => ?_)
  obtain ⟨i3_, ei3_⟩ : ∃ f9 : Nat → Int32, f9 = upd i2_ 2 (pI κr 2) := ⟨_, rfl⟩
  have hP : va_P (dC, dI) vwCl (bW (kN κ i3_ (pA κ) (pQ κ)) κr) H := by rw [ei3_]; exact hP
  have hD : va_D A (bW (kN κ i3_ (pA κ) (pQ κ)) κr) := by rw [ei3_]; exact hD
  refine lv_iconst (v := 0) hx hb dX3_become_24 rg_0 ?_
  refine lv_istore_n (lv' := [(2, .int 0), (0, .ref (kA κ 6)), (1, .ref (kA κr 3))]) hx hb dX3_become_25 rfl hl (Nat.le_of_ble_eq_true rfl) rfl (fun ls hl => ?_)
  have pt26_ : ∀ (n26_ : Nat) (q26_ : Nat → Nat → Option Nat) (v26_ : Int32) (H : Heap) (locs : List Loc) (ls : Array Slot), (2 - v26_.toInt).toNat < n26_ → (0 ≤ v26_.toInt ∧ v26_.toInt ≤ 2) → (∀ j : Nat, (j : Int) < v26_.toInt → q26_ 0 j = pQ κr 0 j) → va_P (dC, dI) vwCl (bW (kN κ i3_ (pA κ) q26_) κr) H → va_D A (bW (kN κ i3_ (pA κ) q26_) κr) → va_S A s.heap H locs → lv_has ls 3 [(2, .int v26_), (0, .ref (kA κ 6)), (1, .ref (kA κr 3))] → W p l e (headSpec vs_b_become rm_b_become).room s m #[Value.ref (kA κ 6), Value.ref (kA κr 3)] below meth c H locs 0 0 Q (F0 m 26 ls []) := by
    intro n26_
    induction n26_ with
    | zero => intro q26_ v26_ H locs ls hn26_ hv26_ hq26_ hP hD hS hl; exact absurd hn26_ (Nat.not_lt_zero _)
    | succ n26_ ih26_ =>
      intro q26_ v26_ H locs ls hn26_ hv26_ hq26_ hP hD hS hl
      refine lv_iload_n hx hb dX3_become_26 rfl (lv_at hl 0 rfl) ?_
      refine lv_iconst (v := 2) hx hb dX3_become_27 rg_19 ?_
      refine lv_icmp_ge (tgt := 49) hx hb dX3_become_28 rfl (fun c4_ => ?_) (fun c4_ => ?_)
      · have tc4_ := (show 2 ≤ v26_.toInt from ti_le rg_20 rfl c4_)
        refine lv_iconst (v := 0) hx hb dX3_become_49 rg_0 ?_
        refine lv_istore_n (lv' := [(2, .int 0), (0, .ref (kA κ 6)), (1, .ref (kA κr 3))]) hx hb dX3_become_50 rfl hl (Nat.le_of_ble_eq_true rfl) rfl (fun ls hl => ?_)
        have pt51_ : ∀ (n51_ : Nat) (q51_ : Nat → Nat → Option Nat) (v51_ : Int32) (H : Heap) (locs : List Loc) (ls : Array Slot), (12 - v51_.toInt).toNat < n51_ → (0 ≤ v51_.toInt ∧ v51_.toInt ≤ 12) → (∀ j : Nat, (j : Int) < v51_.toInt → q51_ 1 j = pQ κr 1 j) → (∀ j : Nat, j < 2 → q51_ 0 j = pQ κr 0 j) → va_P (dC, dI) vwCl (bW (kN κ i3_ (pA κ) q51_) κr) H → va_D A (bW (kN κ i3_ (pA κ) q51_) κr) → va_S A s.heap H locs → lv_has ls 3 [(2, .int v51_), (0, .ref (kA κ 6)), (1, .ref (kA κr 3))] → W p l e (headSpec vs_b_become rm_b_become).room s m #[Value.ref (kA κ 6), Value.ref (kA κr 3)] below meth c H locs 0 0 Q (F0 m 51 ls []) := by
          intro n51_
          induction n51_ with
          | zero => intro q51_ v51_ H locs ls hn51_ hv51_ hq51_ hr0_ hP hD hS hl; exact absurd hn51_ (Nat.not_lt_zero _)
          | succ n51_ ih51_ =>
            intro q51_ v51_ H locs ls hn51_ hv51_ hq51_ hr0_ hP hD hS hl
            refine lv_iload_n hx hb dX3_become_51 rfl (lv_at hl 0 rfl) ?_
            refine lv_bipush (v := 12) hx hb dX3_become_52 rg_57 ?_
            refine lv_icmp_ge (tgt := 75) hx hb dX3_become_54 rfl (fun c5_ => ?_) (fun c5_ => ?_)
            · have tc5_ := (show 12 ≤ v51_.toInt from ti_le rg_58 rfl c5_)
              refine lv_aload_n hx hb dX3_become_75 rfl (lv_at hl 2 rfl) ?_
              refine va_get (D := (dC, dI)) (ci := 3) (v := .ref (kA κr 6)) (C := RX3) (T := TX3) (N := 8) hx hb hts hin3 hown hK hP 6 rfl rfl 2 (Nat.le_of_ble_eq_true rfl) (ho (.fieldLink RX3 23 "NearEnough$Program" "endStep" "[I") (List.mem_of_getElem? (i := 3) rfl)) (fun _ h9 => h9) rfl dX3_become_76 ?_
              refine lv_iconst (v := 0) hx hb dX3_become_79 rg_0 ?_
              refine lv_aload_n hx hb dX3_become_80 rfl (lv_at hl 1 rfl) ?_
              refine va_get (D := (dC, dI)) (ci := 3) (v := .ref (kA κ 9)) (C := RX3) (T := TX3) (N := 8) hx hb hts hin3 hown hK hP 0 rfl rfl 2 (Nat.le_of_ble_eq_true rfl) (ho (.fieldLink RX3 23 "NearEnough$Program" "endStep" "[I") (List.mem_of_getElem? (i := 3) rfl)) (fun _ h9 => h9) rfl dX3_become_81 ?_
              refine lv_iconst (v := 0) hx hb dX3_become_84 rg_0 ?_
              refine lv_iconst (v := 4) hx hb dX3_become_85 rg_31 ?_
              refine va_copyi (ty := .int) hx hb (hml.trans hl.1.symm) hown (ho (.methodLink RX3 43 arraycopyName) (List.mem_of_getElem? (i := 4) rfl)) (ho (.native arraycopyName) (List.mem_of_getElem? (i := 5) rfl)) (ho (.static arraycopyName) (List.mem_of_getElem? (i := 6) rfl)) (ho (.initialized "java/lang/System") (List.mem_of_getElem? (i := 7) rfl)) hK hP hD hS 9 3 7 2 rfl rfl rfl rfl rfl (by decide) (by decide) (by decide) (by decide) (by decide) (fun _ _ => rfl) (Nat.le_of_ble_eq_true rfl) (Nat.le_of_ble_eq_true rfl) dX3_become_86 (fun H locs hP hD hS => ?_)
              obtain ⟨m6_, em6_⟩ : ∃ f9 : Nat → Nat → Int32, f9 = va_up (pA κ) 0 (va_cpy (pA κr 0) ((pA κ) 0) (Int32.toNatClampNeg 0) (Int32.toNatClampNeg 0) (Int32.toNatClampNeg 4)) := ⟨_, rfl⟩
              have hP : va_P (dC, dI) vwCl (bW (kN κ i3_ m6_ q51_) κr) H := by rw [em6_]; exact hP
              have hD : va_D A (bW (kN κ i3_ m6_ q51_) κr) := by rw [em6_]; exact hD
              have n7_ : ∀ j, j < 4 → m6_ 0 j = pA κr 0 j := fun j hj => (congrFun (congrFun em6_ 0) j).trans (cpy4 hj)
              refine lv_aload_n hx hb dX3_become_89 rfl (lv_at hl 2 rfl) ?_
              refine va_get (D := (dC, dI)) (ci := 3) (v := .ref (kA κr 7)) (C := RX3) (T := TX3) (N := 8) hx hb hts hin3 hown hK hP 6 rfl rfl 3 (Nat.le_of_ble_eq_true rfl) (ho (.fieldLink RX3 27 "NearEnough$Program" "endOff" "[I") (List.mem_of_getElem? (i := 8) rfl)) (fun _ h9 => h9) rfl dX3_become_90 ?_
              refine lv_iconst (v := 0) hx hb dX3_become_93 rg_0 ?_
              refine lv_aload_n hx hb dX3_become_94 rfl (lv_at hl 1 rfl) ?_
              refine va_get (D := (dC, dI)) (ci := 3) (v := .ref (kA κ 10)) (C := RX3) (T := TX3) (N := 8) hx hb hts hin3 hown hK hP 0 rfl rfl 3 (Nat.le_of_ble_eq_true rfl) (ho (.fieldLink RX3 27 "NearEnough$Program" "endOff" "[I") (List.mem_of_getElem? (i := 8) rfl)) (fun _ h9 => h9) rfl dX3_become_95 ?_
              refine lv_iconst (v := 0) hx hb dX3_become_98 rg_0 ?_
              refine lv_iconst (v := 4) hx hb dX3_become_99 rg_31 ?_
              refine va_copyi (ty := .int) hx hb (hml.trans hl.1.symm) hown (ho (.methodLink RX3 43 arraycopyName) (List.mem_of_getElem? (i := 4) rfl)) (ho (.native arraycopyName) (List.mem_of_getElem? (i := 5) rfl)) (ho (.static arraycopyName) (List.mem_of_getElem? (i := 6) rfl)) (ho (.initialized "java/lang/System") (List.mem_of_getElem? (i := 7) rfl)) hK hP hD hS 10 4 8 3 rfl rfl rfl rfl rfl (by decide) (by decide) (by decide) (by decide) (by decide) (fun _ _ => rfl) (Nat.le_of_ble_eq_true rfl) (Nat.le_of_ble_eq_true rfl) dX3_become_100 (fun H locs hP hD hS => ?_)
              obtain ⟨m8_, em8_⟩ : ∃ f9 : Nat → Nat → Int32, f9 = va_up m6_ 1 (va_cpy (pA κr 1) (m6_ 1) (Int32.toNatClampNeg 0) (Int32.toNatClampNeg 0) (Int32.toNatClampNeg 4)) := ⟨_, rfl⟩
              have hP : va_P (dC, dI) vwCl (bW (kN κ i3_ m8_ q51_) κr) H := by rw [em8_]; exact hP
              have hD : va_D A (bW (kN κ i3_ m8_ q51_) κr) := by rw [em8_]; exact hD
              have n9_ : ∀ j, j < 4 → m8_ 0 j = pA κr 0 j := fun j hj => (congrFun (congrFun em8_ 0) j).trans (n7_ j hj)
              have n10_ : ∀ j, j < 4 → m8_ 1 j = pA κr 1 j := fun j hj => (congrFun (congrFun em8_ 1) j).trans (cpy4 hj)
              refine lv_aload_n hx hb dX3_become_103 rfl (lv_at hl 2 rfl) ?_
              refine va_get (D := (dC, dI)) (ci := 3) (v := .ref (kA κr 8)) (C := RX3) (T := TX3) (N := 8) hx hb hts hin3 hown hK hP 6 rfl rfl 4 (Nat.le_of_ble_eq_true rfl) (ho (.fieldLink RX3 30 "NearEnough$Program" "endKind" "[I") (List.mem_of_getElem? (i := 9) rfl)) (fun _ h9 => h9) rfl dX3_become_104 ?_
              refine lv_iconst (v := 0) hx hb dX3_become_107 rg_0 ?_
              refine lv_aload_n hx hb dX3_become_108 rfl (lv_at hl 1 rfl) ?_
              refine va_get (D := (dC, dI)) (ci := 3) (v := .ref (kA κ 11)) (C := RX3) (T := TX3) (N := 8) hx hb hts hin3 hown hK hP 0 rfl rfl 4 (Nat.le_of_ble_eq_true rfl) (ho (.fieldLink RX3 30 "NearEnough$Program" "endKind" "[I") (List.mem_of_getElem? (i := 9) rfl)) (fun _ h9 => h9) rfl dX3_become_109 ?_
              refine lv_iconst (v := 0) hx hb dX3_become_112 rg_0 ?_
              refine lv_iconst (v := 4) hx hb dX3_become_113 rg_31 ?_
              refine va_copyi (ty := .int) hx hb (hml.trans hl.1.symm) hown (ho (.methodLink RX3 43 arraycopyName) (List.mem_of_getElem? (i := 4) rfl)) (ho (.native arraycopyName) (List.mem_of_getElem? (i := 5) rfl)) (ho (.static arraycopyName) (List.mem_of_getElem? (i := 6) rfl)) (ho (.initialized "java/lang/System") (List.mem_of_getElem? (i := 7) rfl)) hK hP hD hS 11 5 9 4 rfl rfl rfl rfl rfl (by decide) (by decide) (by decide) (by decide) (by decide) (fun _ _ => rfl) (Nat.le_of_ble_eq_true rfl) (Nat.le_of_ble_eq_true rfl) dX3_become_114 (fun H locs hP hD hS => ?_)
              obtain ⟨m11_, em11_⟩ : ∃ f9 : Nat → Nat → Int32, f9 = va_up m8_ 2 (va_cpy (pA κr 2) (m8_ 2) (Int32.toNatClampNeg 0) (Int32.toNatClampNeg 0) (Int32.toNatClampNeg 4)) := ⟨_, rfl⟩
              have hP : va_P (dC, dI) vwCl (bW (kN κ i3_ m11_ q51_) κr) H := by rw [em11_]; exact hP
              have hD : va_D A (bW (kN κ i3_ m11_ q51_) κr) := by rw [em11_]; exact hD
              have n12_ : ∀ j, j < 4 → m11_ 0 j = pA κr 0 j := fun j hj => (congrFun (congrFun em11_ 0) j).trans (n9_ j hj)
              have n13_ : ∀ j, j < 4 → m11_ 1 j = pA κr 1 j := fun j hj => (congrFun (congrFun em11_ 1) j).trans (n10_ j hj)
              have n14_ : ∀ j, j < 4 → m11_ 2 j = pA κr 2 j := fun j hj => (congrFun (congrFun em11_ 2) j).trans (cpy4 hj)
              rw [hQ]
              exact W.vret hx hb hr (fun t ht hW => ⟨⟨(i3_, m11_, q51_), rfl, ⟨⟨⟨by rw [ei3_, ei2_, ei1_]; rfl, by rw [ei3_, ei2_]; rfl, by rw [ei3_]; rfl⟩, fun j hj => ⟨n12_ j hj, n13_ j hj, n14_ j hj⟩, hr0_, fun j hj => hq51_ j (by omega)⟩, trivial⟩, wEn_of hP (hK.sub [] rfl) hD ht hW⟩, hS.F ht⟩) hS.2.2 dX3_become_117
            · have tc5_ := (show v51_.toInt < 12 from ti_nle rg_58 rfl c5_)
              refine lv_aload_n hx hb dX3_become_57 rfl (lv_at hl 1 rfl) ?_
              refine va_get (D := (dC, dI)) (ci := 3) (v := .ref (kA κ 8)) (C := RX3) (T := TX3) (N := 8) hx hb hts hin3 hown hK hP 0 rfl rfl 1 (Nat.le_of_ble_eq_true rfl) (ho (.fieldLink RX3 19 "NearEnough$Program" "steps" "[LNearEnough$Step;") (List.mem_of_getElem? (i := 10) rfl)) (fun _ h9 => h9) rfl dX3_become_58 ?_
              refine lv_iload_n hx hb dX3_become_61 rfl (lv_at hl 0 rfl) ?_
              refine lv_aload_n hx hb dX3_become_62 rfl (lv_at hl 2 rfl) ?_
              refine va_get (D := (dC, dI)) (ci := 3) (v := .ref (kA κr 5)) (C := RX3) (T := TX3) (N := 8) hx hb hts hin3 hown hK hP 6 rfl rfl 1 (Nat.le_of_ble_eq_true rfl) (ho (.fieldLink RX3 19 "NearEnough$Program" "steps" "[LNearEnough$Step;") (List.mem_of_getElem? (i := 10) rfl)) (fun _ h9 => h9) rfl dX3_become_63 ?_
              refine lv_iload_n hx hb dX3_become_66 rfl (lv_at hl 0 rfl) ?_
              have o1 : 0 ≤ v51_.toInt := by omega
              have o2 : v51_.toInt < ((12 : Nat) : Int) := by omega
              refine va_aldq hx hb hK hP 8 6 rfl rfl (ti_inx o1 o2) dX3_become_67 ?_
              refine va_astqr hx hb hK hP hD hS 2 1 9 rfl rfl (bq1 (κ := kN κ i3_ (pA κ) q51_) hk _) rfl (ti_inx o1 o2) dX3_become_68 (fun H locs hP hD hS => ?_)
              obtain ⟨q15_, eq15_⟩ : ∃ f9 : Nat → Nat → Option Nat, f9 = va_up q51_ 1 (va_up (q51_ 1) (Int32.toNatClampNeg v51_) (pQ κr 1 (Int32.toNatClampNeg v51_))) := ⟨_, rfl⟩
              have hP : va_P (dC, dI) vwCl (bW (kN κ i3_ (pA κ) q15_) κr) H := by rw [eq15_]; exact hP
              have hD : va_D A (bW (kN κ i3_ (pA κ) q15_) κr) := by rw [eq15_]; exact hD
              obtain ⟨z16_, ez16_⟩ : ∃ y : Int32, y = v51_ + 1 := ⟨_, rfl⟩
              have o3 : -2147483648 ≤ v51_.toInt + 1 := by omega
              have o4 : v51_.toInt + 1 ≤ 2147483647 := by omega
              have tz16_ := ti_add ez16_ rfl rg_18 o3 o4
              refine lv_iinc (v := z16_) (lv' := [(2, .int z16_), (0, .ref (kA κ 6)), (1, .ref (kA κr 3))]) hx hb dX3_become_69 hl (k := 0) rfl (iincp ez16_ rg_6) (Nat.le_of_ble_eq_true rfl) rfl (fun ls hl => ?_)
              refine lv_goto (tgt := 51) hx hb dX3_become_72 rfl ?_
              have s17_ : ∀ j : Nat, (j : Int) < z16_.toInt → q15_ 1 j = pQ κr 1 j := by rw [eq15_, va_up_self]; exact stq_ hq51_ hv51_.1 tz16_
              have rs17_ : ∀ j : Nat, j < 2 → q15_ 0 j = pQ κr 0 j := fun j hj => (congrFun (congrFun eq15_ 0) j).trans (hr0_ j hj)
              have o5 : (12 - z16_.toInt).toNat < n51_ := by omega
              have o6 : 0 ≤ z16_.toInt := by omega
              have o7 : z16_.toInt ≤ 12 := by omega
              exact ih51_ q15_ z16_ _ _ _ o5 ⟨o6, o7⟩ s17_ rs17_ hP hD hS (lv_sub hl [0, 1, 2] rfl)
        have kz_ : (0 : Int32).toInt = 0 := by decide
        exact pt51_ _ q26_ 0 _ _ _ (Nat.lt_succ_self _) ⟨by omega, by omega⟩ (fun j hj => absurd hj (by omega)) (fun j hj => hq26_ j (by omega)) hP hD hS (lv_sub hl [0, 1, 2] rfl)
      · have tc4_ := (show v26_.toInt < 2 from ti_nle rg_20 rfl c4_)
        refine lv_aload_n hx hb dX3_become_31 rfl (lv_at hl 1 rfl) ?_
        refine va_get (D := (dC, dI)) (ci := 3) (v := .ref (kA κ 7)) (C := RX3) (T := TX3) (N := 8) hx hb hts hin3 hown hK hP 0 rfl rfl 0 (Nat.le_of_ble_eq_true rfl) (ho (.fieldLink RX3 11 "NearEnough$Program" "rows" "[LNearEnough$Row;") (List.mem_of_getElem? (i := 11) rfl)) (fun _ h9 => h9) rfl dX3_become_32 ?_
        refine lv_iload_n hx hb dX3_become_35 rfl (lv_at hl 0 rfl) ?_
        refine lv_aload_n hx hb dX3_become_36 rfl (lv_at hl 2 rfl) ?_
        refine va_get (D := (dC, dI)) (ci := 3) (v := .ref (kA κr 4)) (C := RX3) (T := TX3) (N := 8) hx hb hts hin3 hown hK hP 6 rfl rfl 0 (Nat.le_of_ble_eq_true rfl) (ho (.fieldLink RX3 11 "NearEnough$Program" "rows" "[LNearEnough$Row;") (List.mem_of_getElem? (i := 11) rfl)) (fun _ h9 => h9) rfl dX3_become_37 ?_
        refine lv_iload_n hx hb dX3_become_40 rfl (lv_at hl 0 rfl) ?_
        have o8 : 0 ≤ v26_.toInt := by omega
        have o9 : v26_.toInt < ((2 : Nat) : Int) := by omega
        refine va_aldq hx hb hK hP 7 5 rfl rfl (ti_inx o8 o9) dX3_become_41 ?_
        refine va_astqr hx hb hK hP hD hS 1 0 5 rfl rfl (bq0 (κ := kN κ i3_ (pA κ) q26_) hk _) rfl (ti_inx o8 o9) dX3_become_42 (fun H locs hP hD hS => ?_)
        obtain ⟨q18_, eq18_⟩ : ∃ f9 : Nat → Nat → Option Nat, f9 = va_up q26_ 0 (va_up (q26_ 0) (Int32.toNatClampNeg v26_) (pQ κr 0 (Int32.toNatClampNeg v26_))) := ⟨_, rfl⟩
        have hP : va_P (dC, dI) vwCl (bW (kN κ i3_ (pA κ) q18_) κr) H := by rw [eq18_]; exact hP
        have hD : va_D A (bW (kN κ i3_ (pA κ) q18_) κr) := by rw [eq18_]; exact hD
        obtain ⟨z19_, ez19_⟩ : ∃ y : Int32, y = v26_ + 1 := ⟨_, rfl⟩
        have o10 : -2147483648 ≤ v26_.toInt + 1 := by omega
        have o11 : v26_.toInt + 1 ≤ 2147483647 := by omega
        have tz19_ := ti_add ez19_ rfl rg_18 o10 o11
        refine lv_iinc (v := z19_) (lv' := [(2, .int z19_), (0, .ref (kA κ 6)), (1, .ref (kA κr 3))]) hx hb dX3_become_43 hl (k := 0) rfl (iincp ez19_ rg_6) (Nat.le_of_ble_eq_true rfl) rfl (fun ls hl => ?_)
        refine lv_goto (tgt := 26) hx hb dX3_become_46 rfl ?_
        have s20_ : ∀ j : Nat, (j : Int) < z19_.toInt → q18_ 0 j = pQ κr 0 j := by rw [eq18_, va_up_self]; exact stq_ hq26_ hv26_.1 tz19_
        have o12 : (2 - z19_.toInt).toNat < n26_ := by omega
        have o13 : 0 ≤ z19_.toInt := by omega
        have o14 : z19_.toInt ≤ 2 := by omega
        exact ih26_ q18_ z19_ _ _ _ o12 ⟨o13, o14⟩ s20_ hP hD hS (lv_sub hl [0, 1, 2] rfl)
  have kz_ : (0 : Int32).toInt = 0 := by decide
  exact pt26_ _ (pQ κ) 0 _ _ _ (Nat.lt_succ_self _) ⟨by omega, by omega⟩ (fun j hj => absurd hj (by omega)) hP hD hS (lv_sub hl [0, 1, 2] rfl)
