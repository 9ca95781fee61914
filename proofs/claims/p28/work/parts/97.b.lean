theorem dL_law_18 : decode cL_law 18 = .ok (.iload_n 3, 1) := by decide +kernel
theorem dL_law_19 : decode cL_law 19 = .ok (.aload_n 0, 1) := by decide +kernel
theorem dL_law_20 : decode cL_law 20 = .ok (.arraylength, 1) := by decide +kernel
theorem dL_law_21 : decode cL_law 21 = .ok (.bipush 6, 2) := by decide +kernel
theorem dL_law_23 : decode cL_law 23 = .ok (.isub, 1) := by decide +kernel
theorem dL_law_24 : decode cL_law 24 = .ok (.if_icmp .gt 1255, 3) := by decide +kernel
theorem dL_law_1279 : decode cL_law 1279 = .ok (.iconst 1, 1) := by decide +kernel
theorem dL_law_1280 : decode cL_law 1280 = .ok (.ireturn, 1) := by decide +kernel
theorem dL_law_1273 : decode cL_law 1273 = .ok (.iinc 3 6, 3) := by decide +kernel
theorem dL_law_1276 : decode cL_law 1276 = .ok (.goto (-1258), 3) := by decide +kernel
theorem dL_law_27 : decode cL_law 27 = .ok (.aload_n 0, 1) := by decide +kernel
theorem dL_law_28 : decode cL_law 28 = .ok (.iload_n 3, 1) := by decide +kernel
theorem dL_law_29 : decode cL_law 29 = .ok (.iaload, 1) := by decide +kernel
theorem dL_law_30 : decode cL_law 30 = .ok (.bipush 31, 2) := by decide +kernel
theorem dL_law_32 : decode cL_law 32 = .ok (.iand, 1) := by decide +kernel
theorem dL_law_33 : decode cL_law 33 = .ok (.tableswitch 1240 0 30 #[139, 202, 225, 238, 261, 310, 349, 402, 455, 498, 557, 590, 613, 646, 679, 722, 745, 768, 791, 804, 827, 870, 913, 946, 979, 1022, 1075, 1098, 1141, 1174, 1217], 139) := by decide +kernel
theorem dL_law_0 : decode cL_law 0 = .ok (.new 7, 3) := by decide +kernel
theorem dL_law_3 : decode cL_law 3 = .ok (.dup, 1) := by decide +kernel
theorem dL_law_4 : decode cL_law 4 = .ok (.invokespecial 9, 3) := by decide +kernel
theorem dL_law_7 : decode cL_law 7 = .ok (.astore_n 1, 1) := by decide +kernel
theorem dL_law_8 : decode cL_law 8 = .ok (.new 10, 3) := by decide +kernel
theorem dL_law_11 : decode cL_law 11 = .ok (.dup, 1) := by decide +kernel
theorem dL_law_12 : decode cL_law 12 = .ok (.invokespecial 12, 3) := by decide +kernel
theorem dL_law_15 : decode cL_law 15 = .ok (.astore_n 2, 1) := by decide +kernel
theorem dL_law_16 : decode cL_law 16 = .ok (.iconst 0, 1) := by decide +kernel
theorem dL_law_17 : decode cL_law 17 = .ok (.istore_n 3, 1) := by decide +kernel
set_option maxRecDepth 20000 in
theorem gl_c_iX : GoodIn lw_tbl vs_c_iX := goodIn_sub tb_c_iX vg_c_iX
set_option maxRecDepth 20000 in
theorem gl_i_M_init : GoodIn lw_tbl vs_i_M_init := goodIn_sub tb_i_M_init vg_i_M_init
def sg0_ : MS := (fun p => if p = 3 then -1 else 0, fun _ _ => 0, fun _ _ => 0, fun _ => 0)
theorem CI0_ : CInv sg0_ := by
  have z : (0 : Int32).toInt = 0 := by decide
  refine ⟨fun p => ?_, fun p j hj => ?_⟩
  · by_cases e : p = 3
    · subst e; decide
    · have e2 : sg0_.1 p = 0 := if_neg e
      rw [e2, z]; unfold loC hiC
      constructor
      · split <;> decide
      · split <;> decide
  · show loD p ≤ (0 : Int32).toInt ∧ (0 : Int32).toInt ≤ hiD p
    rw [z]; unfold loD hiD
    constructor
    · split <;> decide
    · split <;> decide
theorem PI0_ {a : Nat → Nat} {k : Nat → ClassId} : PInv ((a, k, (none, none), (fun _ => 0, fun _ _ => 0, fun _ _ => none), [], [], fun _ => .inr (0, [])) : CE) := kR_ok (q := 0) (sc := 0) (tp := 0) (pg := 0) (r1 := 0) (r2 := 0) (r3 := 0) (r4 := 0) (r5 := 0) (kt := k 0) (k1 := k 0) (k2 := k 0) (k3 := k 0) (k4 := k 0) (k5 := k 0)
set_option maxHeartbeats 4000000 in
set_option maxRecDepth 100000 in
/-- the law's loop: at most 512 turns -/
theorem law_loop {p : Program} {l : Launch} {e : Env} {s : State} {m : MethodId} {below : List Frame} {meth : Method} {c : Code} {b L : Nat} {xs : Nat → Int32} (C0 : lw_At p s m meth c b L xs) (hE : Ey s) {A : Nat → Prop} (hAe : A = fun q : Nat => s.heap.size ≤ q) {dC : Nat → ClassId} {dI : Nat → Nat → Nat} {adK adV : Nat → Nat} (hZ : Zs adK adV A s s.heap) (hR : Rs adK s) (hL : L ≤ 3072) {h qx : Nat} {ad : Nat → Nat} {cl : Nat → ClassId} : ∀ (n : Nat) (κ : CE) (φ ψ σ μ : MS) (H : Heap) (locs : List Loc) (cells slots k : Nat) (i : Int32) (ls : Array Slot), ((L : Int) - i.toInt).toNat < n → i.toInt = 6 * (k : Int) → i.toInt ≤ 3072 → cells ≤ 100 + 1008 * k + 3 * bc κ → slots ≤ 100000 + 11045 * k + 32489 * bc κ → bc κ ≤ 1 → kA κ 0 = qx → LG dC dI A s κ φ ψ σ h ad cl μ H locs → lv_has ls 4 [(3, .int i), (1, .ref qx), (2, .ref h), (0, .ref b)] → W p l e room_1 s m #[Value.ref b] below meth c H locs cells slots (lw_Z below #[Value.ref b] s) (F0 m 18 ls []) := by
  obtain ⟨hx, hb, hr, hml, hown, hts, hX, hbl, hlocks, hgv⟩ := id C0
  have hA : ∀ q : Nat, s.heap.size ≤ q → A q := fun q h => by rw [hAe]; exact h
  have hbA : ¬ A b := by rw [hAe]; exact Nat.not_le.mpr hbl
  intro n
  induction n with
  | zero => intro κ φ ψ σ μ H locs cells slots k i ls hn; exact absurd hn (Nat.not_lt_zero _)
  | succ n ih =>
    intro κ φ ψ σ μ H locs cells slots k i ls hn hik hi3 hcc hss hb1 hqx G hl
    have hS := G.2.2.1
    have hi0 : 0 ≤ i.toInt := by omega
    refine lv_iload_n hx hb dL_law_18 rfl (lv_at hl 0 rfl) ?_
    refine lv_aload_n hx hb dL_law_19 rfl (lv_at hl 3 rfl) ?_
    refine va_slen hx hb hX hbl hbA hS dL_law_20 ?_
    refine lv_topi (fun z0_ ez0_ => ?_)
    have tz0_ : z0_.toInt = (L : Int) := by rw [ez0_]; exact ofNat_ti (by omega)
    refine lv_bipush (v := 6) hx hb dL_law_21 (by decide) ?_
    refine lv_isub hx hb dL_law_23 ?_
    refine lv_topi (fun z1_ ez1_ => ?_)
    have tz1_ : z1_.toInt = z0_.toInt - 6 := ti_sub ez1_ rfl (by decide) (by omega) (by omega)
    refine lv_icmp_gt (tgt := 1279) hx hb dL_law_24 (by decide) (fun c1_ => ?_) (fun c1_ => ?_)
    · refine lv_iconst (v := 1) hx hb dL_law_1279 (by decide) ?_
      refine W.widen (k := 600000) (n := 7302250) (by omega) (by omega) ?_
      refine va_forget (fun q hq => by have h9 := hS.2.2 q hq; rw [hAe] at h9; exact h9) ?_
      exact lw_ret hx hb hr hlocks dL_law_1280
    · have tc1_ : i.toInt ≤ z1_.toInt := ti_nlt rfl rfl c1_
      have hl2 : lv_has ls 4 [(3, .int i), (1, .ref (kA κ 0)), (2, .ref h), (0, .ref b)] := by rw [hqx]; exact hl
      have nx : ∀ (κ' : CE) (φ' ψ' σ' μ' : MS) (H' : Heap) (locs' : List Loc) (c' t' : Nat), LG dC dI A s κ' φ' ψ' σ' h ad cl μ' H' locs' → kA κ' 0 = kA κ 0 → c' + 3 * bc κ ≤ cells + 1008 + 3 * bc κ' → t' + 32489 * bc κ ≤ slots + 11045 + 32489 * bc κ' → W p l e room_1 s m #[Value.ref b] below meth c H' locs' c' t' (lw_Z below #[Value.ref b] s) (F0 m 1273 ls []) := by
        intro κ' φ' ψ' σ' μ' H' locs' c' t' G' hk' hc' ht'
        obtain ⟨z2_, ez2_⟩ : ∃ y : Int32, y = i + 6 := ⟨_, rfl⟩
        have tz2_ : z2_.toInt = i.toInt + 6 := ti_add ez2_ rfl (by decide) (by omega) (by omega)
        refine lv_iinc (v := z2_) (lv' := [(3, .int z2_), (1, .ref qx), (2, .ref h), (0, .ref b)]) hx hb dL_law_1273 hl (k := 0) rfl (iincp ez2_ (by decide)) (Nat.le_of_ble_eq_true rfl) rfl (fun ls hl => ?_)
        refine lv_goto (tgt := 18) hx hb dL_law_1276 (by decide) ?_
        have hb2 : bc κ' ≤ 1 := by unfold bc; split <;> omega
        exact ih κ' φ' ψ' σ' μ' H' locs' c' t' (k + 1) z2_ ls (by omega) (by omega) (by omega) (by omega) (by omega) hb2 (hk'.trans hqx) G' hl
      refine lv_aload_n hx hb dL_law_27 rfl (lv_at hl 3 rfl) ?_
      refine lv_iload_n hx hb dL_law_28 rfl (lv_at hl 0 rfl) ?_
      refine va_sld hx hb hX hbl hbA hS (ti_inx hi0 (by omega)) dL_law_29 ?_
      refine lv_bipush (v := 31) hx hb dL_law_30 (by decide) ?_
      refine lv_iand hx hb dL_law_32 ?_
      obtain ⟨j9, hj9, ej9⟩ := pk_andE (xs (Int32.toNatClampNeg i)) (m := 31) 5 (by decide)
      refine zi ej9 ?_
      have hj9 : j9 < 32 := hj9
      rcases (show j9 = 0 ∨ j9 = 1 ∨ j9 = 2 ∨ j9 = 3 ∨ j9 = 4 ∨ j9 = 5 ∨ j9 = 6 ∨ j9 = 7 ∨ j9 = 8 ∨ j9 = 9 ∨ j9 = 10 ∨ j9 = 11 ∨ j9 = 12 ∨ j9 = 13 ∨ j9 = 14 ∨ j9 = 15 ∨ j9 = 16 ∨ j9 = 17 ∨ j9 = 18 ∨ j9 = 19 ∨ j9 = 20 ∨ j9 = 21 ∨ j9 = 22 ∨ j9 = 23 ∨ j9 = 24 ∨ j9 = 25 ∨ j9 = 26 ∨ j9 = 27 ∨ j9 = 28 ∨ j9 = 29 ∨ j9 = 30 ∨ j9 = 31 by omega) with rfl | rfl | rfl | rfl | rfl | rfl | rfl | rfl | rfl | rfl | rfl | rfl | rfl | rfl | rfl | rfl | rfl | rfl | rfl | rfl | rfl | rfl | rfl | rfl | rfl | rfl | rfl | rfl | rfl | rfl | rfl | rfl
      · refine lv_tableIn (tgt := 172) (off := 139) hx hb dL_law_33 (by decide) (by decide) (by decide) (by decide) ?_
        exact law_0 C0 hE hAe hZ hR ⟨hi0, by omega, hL⟩ ⟨by omega, by omega⟩ G hl2 nx
      · refine lv_tableIn (tgt := 235) (off := 202) hx hb dL_law_33 (by decide) (by decide) (by decide) (by decide) ?_
        exact law_1 C0 hE hAe hZ hR ⟨hi0, by omega, hL⟩ ⟨by omega, by omega⟩ G hl2 nx
      · refine lv_tableIn (tgt := 258) (off := 225) hx hb dL_law_33 (by decide) (by decide) (by decide) (by decide) ?_
        exact law_2 C0 hE hAe hZ hR ⟨hi0, by omega, hL⟩ ⟨by omega, by omega⟩ G hl2 nx
      · refine lv_tableIn (tgt := 271) (off := 238) hx hb dL_law_33 (by decide) (by decide) (by decide) (by decide) ?_
        exact law_3 C0 hE hAe hZ hR ⟨hi0, by omega, hL⟩ ⟨by omega, by omega⟩ G hl2 nx
      · refine lv_tableIn (tgt := 294) (off := 261) hx hb dL_law_33 (by decide) (by decide) (by decide) (by decide) ?_
        exact law_4 C0 hE hAe hZ hR ⟨hi0, by omega, hL⟩ ⟨by omega, by omega⟩ G hl2 nx
      · refine lv_tableIn (tgt := 343) (off := 310) hx hb dL_law_33 (by decide) (by decide) (by decide) (by decide) ?_
        exact law_5 C0 hE hAe hZ hR ⟨hi0, by omega, hL⟩ ⟨by omega, by omega⟩ G hl2 nx
      · refine lv_tableIn (tgt := 382) (off := 349) hx hb dL_law_33 (by decide) (by decide) (by decide) (by decide) ?_
        exact law_6 C0 hE hAe hZ hR ⟨hi0, by omega, hL⟩ ⟨by omega, by omega⟩ G hl2 nx
      · refine lv_tableIn (tgt := 435) (off := 402) hx hb dL_law_33 (by decide) (by decide) (by decide) (by decide) ?_
        exact law_7 C0 hE hAe hZ hR ⟨hi0, by omega, hL⟩ ⟨by omega, by omega⟩ G hl2 nx
      · refine lv_tableIn (tgt := 488) (off := 455) hx hb dL_law_33 (by decide) (by decide) (by decide) (by decide) ?_
        exact law_8 C0 hE hAe hZ hR ⟨hi0, by omega, hL⟩ ⟨by omega, by omega⟩ G hl2 nx
      · refine lv_tableIn (tgt := 531) (off := 498) hx hb dL_law_33 (by decide) (by decide) (by decide) (by decide) ?_
        exact law_9 C0 hE hAe hZ hR ⟨hi0, by omega, hL⟩ ⟨by omega, by omega⟩ G hl2 nx
      · refine lv_tableIn (tgt := 590) (off := 557) hx hb dL_law_33 (by decide) (by decide) (by decide) (by decide) ?_
        exact law_10 C0 hE hAe hZ hR ⟨hi0, by omega, hL⟩ ⟨by omega, by omega⟩ G hl2 nx
      · refine lv_tableIn (tgt := 623) (off := 590) hx hb dL_law_33 (by decide) (by decide) (by decide) (by decide) ?_
        exact law_11 C0 hE hAe hZ hR ⟨hi0, by omega, hL⟩ ⟨by omega, by omega⟩ G hl2 nx
      · refine lv_tableIn (tgt := 646) (off := 613) hx hb dL_law_33 (by decide) (by decide) (by decide) (by decide) ?_
        exact law_12 C0 hE hAe hZ hR ⟨hi0, by omega, hL⟩ ⟨by omega, by omega⟩ G hl2 nx
      · refine lv_tableIn (tgt := 679) (off := 646) hx hb dL_law_33 (by decide) (by decide) (by decide) (by decide) ?_
        exact law_13 C0 hE hAe hZ hR ⟨hi0, by omega, hL⟩ ⟨by omega, by omega⟩ G hl2 nx
      · refine lv_tableIn (tgt := 712) (off := 679) hx hb dL_law_33 (by decide) (by decide) (by decide) (by decide) ?_
        exact law_14 C0 hE hAe hZ hR ⟨hi0, by omega, hL⟩ ⟨by omega, by omega⟩ G hl2 nx
      · refine lv_tableIn (tgt := 755) (off := 722) hx hb dL_law_33 (by decide) (by decide) (by decide) (by decide) ?_
        exact law_15 C0 hE hAe hZ hR ⟨hi0, by omega, hL⟩ ⟨by omega, by omega⟩ G hl2 nx
      · refine lv_tableIn (tgt := 778) (off := 745) hx hb dL_law_33 (by decide) (by decide) (by decide) (by decide) ?_
        exact law_16 C0 hE hAe hZ hR ⟨hi0, by omega, hL⟩ ⟨by omega, by omega⟩ G hl2 nx
      · refine lv_tableIn (tgt := 801) (off := 768) hx hb dL_law_33 (by decide) (by decide) (by decide) (by decide) ?_
        exact law_17 C0 hE hAe hZ hR ⟨hi0, by omega, hL⟩ ⟨by omega, by omega⟩ G hl2 nx
      · refine lv_tableIn (tgt := 824) (off := 791) hx hb dL_law_33 (by decide) (by decide) (by decide) (by decide) ?_
        exact law_18 C0 hE hAe hZ hR ⟨hi0, by omega, hL⟩ ⟨by omega, by omega⟩ G hl2 nx
      · refine lv_tableIn (tgt := 837) (off := 804) hx hb dL_law_33 (by decide) (by decide) (by decide) (by decide) ?_
        exact law_19 C0 hE hAe hZ hR ⟨hi0, by omega, hL⟩ ⟨by omega, by omega⟩ G hl2 nx
      · refine lv_tableIn (tgt := 860) (off := 827) hx hb dL_law_33 (by decide) (by decide) (by decide) (by decide) ?_
        exact law_20 C0 hE hAe hZ hR ⟨hi0, by omega, hL⟩ ⟨by omega, by omega⟩ G hl2 nx
      · refine lv_tableIn (tgt := 903) (off := 870) hx hb dL_law_33 (by decide) (by decide) (by decide) (by decide) ?_
        exact law_21 C0 hE hAe hZ hR ⟨hi0, by omega, hL⟩ ⟨by omega, by omega⟩ G hl2 nx
      · refine lv_tableIn (tgt := 946) (off := 913) hx hb dL_law_33 (by decide) (by decide) (by decide) (by decide) ?_
        exact law_22 C0 hE hAe hZ hR ⟨hi0, by omega, hL⟩ ⟨by omega, by omega⟩ G hl2 nx
      · refine lv_tableIn (tgt := 979) (off := 946) hx hb dL_law_33 (by decide) (by decide) (by decide) (by decide) ?_
        exact law_23 C0 hE hAe hZ hR ⟨hi0, by omega, hL⟩ ⟨by omega, by omega⟩ G hl2 nx
      · refine lv_tableIn (tgt := 1012) (off := 979) hx hb dL_law_33 (by decide) (by decide) (by decide) (by decide) ?_
        exact law_24 C0 hE hAe hZ hR ⟨hi0, by omega, hL⟩ ⟨by omega, by omega⟩ G hl2 nx
      · refine lv_tableIn (tgt := 1055) (off := 1022) hx hb dL_law_33 (by decide) (by decide) (by decide) (by decide) ?_
        exact law_25 C0 hE hAe hZ hR ⟨hi0, by omega, hL⟩ ⟨by omega, by omega⟩ G hl2 nx
      · refine lv_tableIn (tgt := 1108) (off := 1075) hx hb dL_law_33 (by decide) (by decide) (by decide) (by decide) ?_
        exact law_26 C0 hE hAe hZ hR ⟨hi0, by omega, hL⟩ ⟨by omega, by omega⟩ G hl2 nx
      · refine lv_tableIn (tgt := 1131) (off := 1098) hx hb dL_law_33 (by decide) (by decide) (by decide) (by decide) ?_
        exact law_27 C0 hE hAe hZ hR ⟨hi0, by omega, hL⟩ ⟨by omega, by omega⟩ G hl2 nx
      · refine lv_tableIn (tgt := 1174) (off := 1141) hx hb dL_law_33 (by decide) (by decide) (by decide) (by decide) ?_
        exact law_28 C0 hE hAe hZ hR ⟨hi0, by omega, hL⟩ ⟨by omega, by omega⟩ G hl2 nx
      · refine lv_tableIn (tgt := 1207) (off := 1174) hx hb dL_law_33 (by decide) (by decide) (by decide) (by decide) ?_
        exact law_29 C0 hE hAe hZ hR ⟨hi0, by omega, hL⟩ ⟨by omega, by omega⟩ G hl2 nx
      · refine lv_tableIn (tgt := 1250) (off := 1217) hx hb dL_law_33 (by decide) (by decide) (by decide) (by decide) ?_
        exact law_30 C0 hE hAe hZ hR ⟨hi0, by omega, hL⟩ ⟨by omega, by omega⟩ G hl2 nx
      · refine lv_tableOut (tgt := 1273) hx hb dL_law_33 (Or.inr (by decide)) rfl ?_
        exact nx κ φ ψ σ μ H locs cells slots G rfl (by omega) (by omega)

set_option maxHeartbeats 4000000 in
set_option maxRecDepth 100000 in
theorem whole_start {p : Program} {e : Env} {s : State} {m : MethodId} {below : List Frame} {meth : Method} {c : Code} (l : Launch) {b L : Nat} {xs : Nat → Int32} (hL : L ≤ 3072) (C0 : lw_At p s m meth c b L xs) : W p l e room_1 s m #[Value.ref b] below meth c s.heap [] 0 0 (lw_Z below #[Value.ref b] s) (entryFrame m ([Value.ref b] : List Value).toArray 4) := by
  obtain ⟨hx, hb, hr, hml, hown, hts, hX, hbl, hlocks, hgv⟩ := id C0
  have hEx : Ex s := ⟨va_AO.of (hts (.arrayOver (.object RX5)) (List.mem_of_getElem? (i := 148) (by decide +kernel))), va_AO.of (hts (.arrayOver (.object RX9)) (List.mem_of_getElem? (i := 150) (by decide +kernel))), va_Nw.of rfl (hts (.methodLinkNest RX11 25 yX3_init "NearEnough") (List.mem_of_getElem? (i := 143) (by decide +kernel))), va_Nw.of rfl (hts (.methodLinkNest RX11 32 yX7_init "NearEnough") (List.mem_of_getElem? (i := 199) (by decide +kernel))), va_Nw.of rfl (hts (.methodLinkNest RX11 39 yX0_init "NearEnough") (List.mem_of_getElem? (i := 221) (by decide +kernel))), va_Nw.of rfl (hts (.methodLinkNest RX4 11 yX3_init "NearEnough") (List.mem_of_getElem? (i := 387) (by decide +kernel)))⟩
  have hE : Ey s := ⟨hEx, va_Nw.of rfl (hts (.methodLinkNest RX10 101 yX11_floored "NearEnough") (List.mem_of_getElem? (i := 851) (by decide +kernel)))⟩
  obtain ⟨c0, iS0, hKn0⟩ := u_known (C := RX0) (T := TX0) (N := 7) (n := 7) hts tX0 (hts (.instantiable RX0 7) (List.mem_of_getElem? (i := 220) (by decide +kernel)))
  obtain ⟨c1, iS1, hKn1⟩ := u_known (C := RX1) (T := TX1) (N := 7) (n := 7) hts tX1 (hts (.instantiable RX1 7) (List.mem_of_getElem? (i := 1100) (by decide +kernel)))
  obtain ⟨c2, iS2, hKn2⟩ := u_known (C := RX2) (T := TX2) (N := 8) (n := 8) hts tX2 (hts (.instantiable RX2 8) (List.mem_of_getElem? (i := 1202) (by decide +kernel)))
  obtain ⟨c3, iS3, hKn3⟩ := u_known (C := RX3) (T := TX3) (N := 8) (n := 8) hts tX3 (hts (.instantiable RX3 8) (List.mem_of_getElem? (i := 142) (by decide +kernel)))
  obtain ⟨c4, iS4, hKn4⟩ := u_known (C := RX4) (T := TX4) (N := 4) (n := 4) hts tX4 (hts (.instantiable RX4 4) (List.mem_of_getElem? (i := 381) (by decide +kernel)))
  obtain ⟨c5, iS5, hKn5⟩ := u_known (C := RX5) (T := TX5) (N := 5) (n := 5) hts tX5 (hts (.instantiable RX5 5) (List.mem_of_getElem? (i := 564) (by decide +kernel)))
  obtain ⟨c6, iS6, hKn6⟩ := u_known (C := RX6) (T := TX6) (N := 7) (n := 7) hts tX6 (hts (.instantiable RX6 7) (List.mem_of_getElem? (i := 389) (by decide +kernel)))
  obtain ⟨c7, iS7, hKn7⟩ := u_known (C := RX7) (T := TX7) (N := 3) (n := 3) hts tX7 (hts (.instantiable RX7 3) (List.mem_of_getElem? (i := 198) (by decide +kernel)))
  obtain ⟨c8, iS8, hKn8⟩ := u_known (C := RX8) (T := TX8) (N := 9) (n := 9) hts tX8 (hts (.instantiable RX8 9) (List.mem_of_getElem? (i := 252) (by decide +kernel)))
  obtain ⟨c9, iS9, hKn9⟩ := u_known (C := RX9) (T := TX9) (N := 11) (n := 11) hts tX9 (hts (.instantiable RX9 11) (List.mem_of_getElem? (i := 649) (by decide +kernel)))
  obtain ⟨c10, iS10, hKn10⟩ := u_known (C := RX10) (T := TX10) (N := 5) (n := 5) hts tX10 (hts (.instantiable RX10 5) (List.mem_of_getElem? (i := 290) (by decide +kernel)))
  obtain ⟨c11, iS11, hKn11⟩ := u_known (C := RX11) (T := TX11) (N := 17) (n := 17) hts tX11 (hts (.instantiable RX11 17) (List.mem_of_getElem? (i := 134) (by decide +kernel)))
  obtain ⟨c12, iS12, hKn12⟩ := u_known (C := RX12) (T := TX12) (N := 59) (n := 59) hts tX12 (hts (.instantiable RX12 59) (List.mem_of_getElem? (i := 1277) (by decide +kernel)))
  obtain ⟨dC, dI, hKc⟩ : ∃ (dC : Nat → ClassId) (dI : Nat → Nat → Nat), ∀ (k : Nat) (q : vw_C), vwCl[k]? = some q → u_Kn s q.1 q.2.1 q.2.2 (dC k) (dI k) := by
    refine ⟨fun k => match k with | 0 => c0 | 1 => c1 | 2 => c2 | 3 => c3 | 4 => c4 | 5 => c5 | 6 => c6 | 7 => c7 | 8 => c8 | 9 => c9 | 10 => c10 | 11 => c11 | _ => c12, fun k => match k with | 0 => iS0 | 1 => iS1 | 2 => iS2 | 3 => iS3 | 4 => iS4 | 5 => iS5 | 6 => iS6 | 7 => iS7 | 8 => iS8 | 9 => iS9 | 10 => iS10 | 11 => iS11 | _ => iS12, ?_⟩
    intro k q hq
    match k, hq with
    | 0, hq => cases hq; exact hKn0
    | 1, hq => cases hq; exact hKn1
    | 2, hq => cases hq; exact hKn2
    | 3, hq => cases hq; exact hKn3
    | 4, hq => cases hq; exact hKn4
    | 5, hq => cases hq; exact hKn5
    | 6, hq => cases hq; exact hKn6
    | 7, hq => cases hq; exact hKn7
    | 8, hq => cases hq; exact hKn8
    | 9, hq => cases hq; exact hKn9
    | 10, hq => cases hq; exact hKn10
    | 11, hq => cases hq; exact hKn11
    | 12, hq => cases hq; exact hKn12
    | k + 13, hq => simp [vwCl] at hq
  obtain ⟨A, hAe⟩ : ∃ A : Nat → Prop, A = fun q : Nat => s.heap.size ≤ q := ⟨_, rfl⟩
  have hA : ∀ q : Nat, s.heap.size ≤ q → A q := fun q h => by rw [hAe]; exact h
  obtain ⟨adK, adV, hZ, hR⟩ := zs_start (A := A) hgv hts (fun a h9 => by rw [hAe]; exact Nat.not_le.mpr h9)
  have hK : va_K (dC, dI) vwCl [] s := ⟨hKc, fun k q h => by simp at h⟩
  have hP : va_P (dC, dI) vwCl [] s.heap := empP
  have hD : va_D A [] := empD
  have hin11 := tX11
  have hin12 := tX12
  have hl := lv_entry ([.ref b]) (n := 4) (Nat.le_of_ble_eq_true rfl)
  rw [lg_entry_eq]
  generalize (lg_sl ([.ref b]) ++ List.replicate (4 - (lg_sl ([.ref b])).length) Slot.unset).toArray = ls at hl ⊢
  have hl : lv_has ls 4 [(0, .ref b)] := hl
  refine zH (A := A) (ws := []) (fun H hP hS => ?_) hP
  refine va_new (ci := 11) (fs := [.null, .int 0, .int 0, .int 0, .null, .null, .null, .null, .null, .null, .null, .null, .int 0, .int 0, .null, .null, .null]) (C := RX11) (T := TX11) (N := 17) hx hb hts hin11 tyX11 tyX11_ok hown (hts (.classLink RL 7 RX11) (List.mem_of_getElem? (i := 133) (by decide +kernel))) (hts (.instantiable RX11 17) (List.mem_of_getElem? (i := 134) (by decide +kernel))) (hts (.initialized RX11) (List.mem_of_getElem? (i := 112) (by decide +kernel))) hK hP hD hS hA rfl (by decide) (Nat.le_of_ble_eq_true rfl) (Nat.le_of_ble_eq_true rfl) dL_law_0 (fun qx_ H hP hD hS => ?_)
  have hP : va_P (dC, dI) vwCl ([] ++ [(qx_, .inr (11, [.null, .int 0, .int 0, .int 0, .null, .null, .null, .null, .null, .null, .null, .null, .int 0, .int 0, .null, .null, .null]))]) H := hP
  have hD : va_D A ([] ++ [(qx_, .inr (11, [.null, .int 0, .int 0, .int 0, .null, .null, .null, .null, .null, .null, .null, .null, .int 0, .int 0, .null, .null, .null]))]) := hD
  refine W.widen (k := 1) (n := 17) (Nat.le_of_ble_eq_true rfl) (Nat.le_of_ble_eq_true rfl) ?_
  refine lv_dup hx hb dL_law_3 rfl ?_
  refine zc_v (wr := []) (wc := [(qx_, .inr (11, [.null, .int 0, .int 0, .int 0, .null, .null, .null, .null, .null, .null, .null, .null, .int 0, .int 0, .null, .null, .null]))]) (va_runI (As := []) (rest := [.ref qx_]) ⟨hx, hb, hml, hown, hts⟩ (c_iX l dC dI qx_ H.size) (cwI 0 hts gl_c_iX rfl rfl rfl (hts (.initialized RX11) (List.mem_of_getElem? (i := 112) (by decide +kernel))) (hts (.methodLink RL 9 yX11_init) (List.mem_of_getElem? (i := 135) (by decide +kernel))) (hts (.instanceMethod yX11_init) (List.mem_of_getElem? (i := 136) (by decide +kernel))) rfl (by decide +kernel) ⟨Nat.le_of_ble_eq_true rfl, Nat.le_of_ble_eq_true rfl⟩) (preS (A := A) (rP hP) (hK.sub (tys' := []) [] rfl) (rD hD) hEx) rfl rfl hl.1 rfl (lv_room (Nat.le_of_ble_eq_true rfl)) dL_law_4 ⟨Nat.le_of_ble_eq_true rfl, Nat.le_of_ble_eq_true rfl⟩) hP hD hS hA (fun u9 H locs hq hK11 hP hD hS => ?_)
  obtain ⟨x0_, x1_, x2_, x3_, x4_, x5_, x6_, x7_, x8_, x9_, x10_, x11_, x12_, x13_, x14_, x15_, x16_, x17_, x18_, x19_, x20_, x21_, x22_, x23_, x24_, x25_, x26_, x27_, x28_, x29_, x30_, x31_, x32_, x33_, x34_, x35_, x36_, x37_, x38_, x39_, x40_, x41_, x42_, x43_, x44_, x45_, x46_⟩ := u9
  obtain ⟨κ0_, eκ0_⟩ : ∃ x9 : CE, x9 = (((fun k => match k with | 0 => qx_ | 1 => x0_ | 2 => x1_ | 3 => x2_ | 4 => x3_ | 5 => x4_ | 6 => x5_ | 7 => x6_ | 8 => x7_ | 9 => x8_ | 10 => x9_ | 11 => x10_ | 12 => x11_ | 13 => x12_ | 14 => x13_ | 15 => x14_ | 16 => x15_ | 17 => x16_ | 18 => x17_ | 19 => x18_ | 20 => x19_ | 21 => x20_ | 22 => x21_ | 23 => x22_ | 24 => x23_ | 25 => x24_ | 26 => x25_ | _ => 0), (fun k => match k with | 1 => x26_ | 2 => x27_ | 3 => x28_ | 4 => x29_ | 5 => x30_ | 7 => x31_ | 8 => x32_ | 9 => x33_ | 10 => x34_ | 11 => x35_ | 13 => x36_ | 14 => x37_ | 16 => x38_ | 17 => x39_ | 18 => x40_ | 19 => x41_ | 20 => x42_ | 22 => x43_ | 23 => x44_ | 25 => x45_ | 26 => x46_ | 27 => x30_ | 28 => x27_ | 29 => x27_ | 30 => x27_ | _ => x26_), (none, none), (fun _ => 0, fun _ _ => 0, fun _ _ => none), [], [], fun _ => .inr (0, [])) : CE) := ⟨_, rfl⟩
  have hP : va_P (dC, dI) vwCl (xW κ0_ (xX κ0_ f0_ f0_) sg0_) H := by rw [eκ0_]; exact hP
  have hD : va_D A (xW κ0_ (xX κ0_ f0_ f0_) sg0_) := by rw [eκ0_]; exact hD
  have hKx : va_K (dC, dI) vwCl (tT κ0_) s := by rw [eκ0_]; exact hK11.sub [0, 1, 2, 3, 4, 5, 6, 7, 8, 9, 10, 11, 12, 13, 14, 15, 16, 17, 18, 19, 20, 4, 1, 1, 1] rfl
  have hka_ : kA κ0_ 0 = qx_ := by rw [eκ0_]; rfl
  have hpe_ : kP κ0_ = none := by rw [eκ0_]; rfl
  have hk_ : PInv κ0_ := by rw [eκ0_]; exact PI0_
  refine W.widen (k := 27) (n := 2691) (Nat.le_of_ble_eq_true rfl) (Nat.le_of_ble_eq_true rfl) ?_
  refine lv_astore_n (lv' := [(1, .ref qx_), (0, .ref b)]) hx hb dL_law_7 rfl hl (by decide) rfl (fun ls hl => ?_)
  refine va_new (ci := 12) (fs := [.null, .null, .int 0, .int 0, .int 0, .int 0, .int 0, .int 0, .int 0, .int 0, .long 0, .null, .null, .null, .null, .null, .null, .null, .null, .null, .null, .null, .null, .null, .null, .null, .null, .null, .null, .int 0, .int 0, .null, .null, .null, .null, .null, .null, .null, .null, .int 0, .int 0, .null, .null, .null, .null, .long 0, .long 0, .null, .long 0, .int 0, .null, .null, .null, .int 0, .null, .null, .null, .null, .int 0]) (C := RX12) (T := TX12) (N := 59) hx hb hts hin12 tyX12 tyX12_ok hown (hts (.classLink RL 10 RX12) (List.mem_of_getElem? (i := 1276) (by decide +kernel))) (hts (.instantiable RX12 59) (List.mem_of_getElem? (i := 1277) (by decide +kernel))) (hts (.initialized RX12) (List.mem_of_getElem? (i := 118) (by decide +kernel))) hK hP hD hS hA rfl (by decide) (Nat.le_of_ble_eq_true rfl) (Nat.le_of_ble_eq_true rfl) dL_law_8 (fun h_ H hP hD hS => ?_)
  refine W.widen (k := 28) (n := 2750) (Nat.le_of_ble_eq_true rfl) (Nat.le_of_ble_eq_true rfl) ?_
  refine lv_dup hx hb dL_law_11 rfl ?_
  refine zc_v (wr := (xW κ0_ (xX κ0_ f0_ f0_) sg0_)) (wc := [(h_, .inr (12, [.null, .null, .int 0, .int 0, .int 0, .int 0, .int 0, .int 0, .int 0, .int 0, .long 0, .null, .null, .null, .null, .null, .null, .null, .null, .null, .null, .null, .null, .null, .null, .null, .null, .null, .null, .int 0, .int 0, .null, .null, .null, .null, .null, .null, .null, .null, .int 0, .int 0, .null, .null, .null, .null, .long 0, .long 0, .null, .long 0, .int 0, .null, .null, .null, .int 0, .null, .null, .null, .null, .int 0]))]) (va_runI (As := []) (rest := [.ref h_]) ⟨hx, hb, hml, hown, hts⟩ (i_M_init l dC dI h_ H.size) (cwI 0 hts gl_i_M_init rfl rfl rfl (hts (.initialized RX12) (List.mem_of_getElem? (i := 118) (by decide +kernel))) (hts (.methodLink RL 12 yX12_init) (List.mem_of_getElem? (i := 1278) (by decide +kernel))) (hts (.instanceMethod yX12_init) (List.mem_of_getElem? (i := 1279) (by decide +kernel))) rfl (by decide +kernel) ⟨Nat.le_of_ble_eq_true rfl, Nat.le_of_ble_eq_true rfl⟩) (preS (A := A) (rP hP) (hK.sub (tys' := []) [] rfl) (rD hD) hEx) rfl rfl hl.1 rfl (lv_room (Nat.le_of_ble_eq_true rfl)) dL_law_12 ⟨Nat.le_of_ble_eq_true rfl, Nat.le_of_ble_eq_true rfl⟩) hP hD hS hA (fun u9 H locs hq hK12 hP hD hS => ?_)
  obtain ⟨y0_, y1_, y2_, y3_, y4_, y5_, y6_, y7_, y8_, y9_, y10_, y11_, y12_, y13_, y14_, y15_, y16_, y17_, y18_, y19_, y20_, y21_, y22_, y23_, y24_, y25_, y26_, y27_, y28_, y29_, y30_, y31_, y32_, y33_, y34_, y35_, y36_, y37_, y38_, y39_, y40_, y41_, y42_, y43_, y44_, y45_, y46_, y47_, y48_, y49_, y50_, y51_, y52_, y53_, y54_, y55_, y56_, y57_, y58_, y59_, y60_, y61_, y62_, y63_, y64_, y65_, y66_, y67_, y68_, y69_, y70_, y71_, y72_, y73_, y74_, y75_, y76_, y77_, y78_, y79_⟩ := u9
  obtain ⟨ad_, ead_⟩ : ∃ x9 : Nat → Nat, x9 = (fun k => match k with | 0 => y0_ | 1 => y1_ | 11 => y2_ | 12 => y3_ | 13 => y4_ | 14 => y5_ | 15 => y6_ | 16 => y7_ | 17 => y8_ | 18 => y9_ | 19 => y10_ | 20 => y11_ | 21 => y12_ | 22 => y13_ | 23 => y14_ | 24 => y15_ | 25 => y16_ | 26 => y17_ | 27 => y18_ | 28 => y19_ | 31 => y20_ | 32 => y21_ | 33 => y22_ | 34 => y23_ | 35 => y24_ | 36 => y25_ | 37 => y26_ | 38 => y27_ | 41 => y28_ | 42 => y29_ | 43 => y30_ | 44 => y31_ | 47 => y32_ | 50 => y33_ | 51 => y34_ | 52 => y35_ | 54 => y36_ | 55 => y37_ | 56 => y38_ | 57 => y39_ | _ => 0) := ⟨_, rfl⟩
  obtain ⟨cl_, ecl_⟩ : ∃ x9 : Nat → ClassId, x9 = (fun k => match k with | 0 => y40_ | 1 => y41_ | 11 => y42_ | 12 => y43_ | 13 => y44_ | 14 => y45_ | 15 => y46_ | 16 => y47_ | 17 => y48_ | 18 => y49_ | 19 => y50_ | 20 => y51_ | 21 => y52_ | 22 => y53_ | 23 => y54_ | 24 => y55_ | 25 => y56_ | 26 => y57_ | 27 => y58_ | 28 => y59_ | 31 => y60_ | 32 => y61_ | 33 => y62_ | 34 => y63_ | 35 => y64_ | 36 => y65_ | 37 => y66_ | 38 => y67_ | 41 => y68_ | 42 => y69_ | 43 => y70_ | 44 => y71_ | 47 => y72_ | 50 => y73_ | 51 => y74_ | 52 => y75_ | 54 => y76_ | 55 => y77_ | 56 => y78_ | 57 => y79_ | _ => y40_) := ⟨_, rfl⟩
  have hP : va_P (dC, dI) vwCl (xW κ0_ (xX κ0_ f0_ f0_) sg0_ ++ mW h_ ad_ cl_ sig0) H := by rw [ead_, ecl_]; exact hP
  have hD : va_D A (xW κ0_ (xX κ0_ f0_ f0_) sg0_ ++ mW h_ ad_ cl_ sig0) := by rw [ead_, ecl_]; exact hD
  have hKm : va_K (dC, dI) vwCl (mT cl_) s := by rw [ecl_]; exact hK12
  refine W.widen (k := 68) (n := 50830) (Nat.le_of_ble_eq_true rfl) (Nat.le_of_ble_eq_true rfl) ?_
  refine lv_astore_n (lv' := [(2, .ref h_), (1, .ref qx_), (0, .ref b)]) hx hb dL_law_15 rfl hl (by decide) rfl (fun ls hl => ?_)
  refine lv_iconst (v := 0) hx hb dL_law_16 (by decide) ?_
  refine lv_istore_n (lv' := [(3, .int 0), (2, .ref h_), (1, .ref qx_), (0, .ref b)]) hx hb dL_law_17 rfl hl (by decide) rfl (fun ls hl => ?_)
  have hG : LG dC dI A s κ0_ f0_ f0_ sg0_ h_ ad_ cl_ sig0 H locs := ⟨pmP hP (fun z h => (List.mem_append.mp h).elim (List.mem_append_right _) (List.mem_append_left _)), pmD0 hD List.perm_append_comm, hS, hKm, hKx, hk_, CI0_, FInv0, Inv0, RI0⟩
  have kz_ : (0 : Int32).toInt = 0 := by decide
  exact law_loop C0 hE hAe hZ hR hL _ κ0_ f0_ f0_ sg0_ sig0 H locs 68 50830 0 0 ls (Nat.lt_succ_self _) (by omega) (by omega) (by omega) (by omega) (by rw [bc_n hpe_]; decide) hka_ hG (lv_sub hl [0, 2, 1, 3] rfl)
