theorem dL_law_27 : decode cL_law 27 = .ok (.aload_n 0, 1) := by decide +kernel
theorem dL_law_28 : decode cL_law 28 = .ok (.iload_n 3, 1) := by decide +kernel
theorem dL_law_29 : decode cL_law 29 = .ok (.iaload, 1) := by decide +kernel
theorem dL_law_30 : decode cL_law 30 = .ok (.bipush 31, 2) := by decide +kernel
theorem dL_law_32 : decode cL_law 32 = .ok (.iand, 1) := by decide +kernel
theorem dL_law_33 : decode cL_law 33 = .ok (.tableswitch 1248 0 30 #[139, 202, 225, 238, 261, 310, 349, 402, 455, 499, 559, 593, 616, 650, 683, 727, 750, 773, 796, 809, 832, 876, 919, 952, 985, 1029, 1083, 1106, 1149, 1182, 1225], 139) := by decide +kernel
theorem dL_law_0 : decode cL_law 0 = .ok (.new 7, 3) := by decide +kernel
theorem dL_law_3 : decode cL_law 3 = .ok (.dup, 1) := by decide +kernel
theorem dL_law_4 : decode cL_law 4 = .ok (.invokespecial 9, 3) := by decide +kernel
theorem dL_law_7 : decode cL_law 7 = .ok (.astore_n 1, 1) := by decide +kernel
theorem dL_law_8 : decode cL_law 8 = .ok (.new 10, 3) := by decide +kernel
theorem dL_law_11 : decode cL_law 11 = .ok (.dup, 1) := by decide +kernel
theorem dL_law_12 : decode cL_law 12 = .ok (.invokespecial 12, 3) := by decide +kernel
theorem dL_law_15 : decode cL_law 15 = .ok (.astore_n 2, 1) := by decide +kernel
theorem dL_law_16 : decode cL_law 16 = .ok (.iconst 0, 1) := by decide +kernel
theorem dL_law_17 : decode cL_law 17 = .ok (.istore_n 3, 1) := by decide +kernel
theorem short_lt {L : Nat} (h : L < 6) : Int32.ofNat L - 6 < 0 := by
  rcases (show L = 0 ∨ L = 1 ∨ L = 2 ∨ L = 3 ∨ L = 4 ∨ L = 5 by omega) with rfl | rfl | rfl | rfl | rfl | rfl <;> decide

set_option maxHeartbeats 4000000 in
set_option maxRecDepth 100000 in
/-- the one call that a script of six ints spells -/
theorem law_body {p : Program} {l : Launch} {e : Env} {s : State} {m : MethodId} {below : List Frame} {meth : Method} {c : Code} {b : Nat} {xs : Nat → Int32} (C0 : lw_At p s m meth c b 6 xs) (hE : Ex s) {A : Nat → Prop} (hAe : A = fun q : Nat => s.heap.size ≤ q) {dC : Nat → ClassId} {dI : Nat → Nat → Nat} {qx qm tp td sh ch sw wk g1 g2 g3 tl r1 r2 r3 r4 r5 sn sk a1 a2 a3 a4 a5 w1 w2 v1 v2 m_tape m_text m_rowMany m_stepMany m_endMany m_rHas m_rLeast m_rMost m_sKind m_sA m_sB m_sC m_sD m_eStep m_eOff m_eHow m_rName m_sName m_sLeast m_sMost m_numbers m_corner m_cStep m_cKind m_cN m_cSaves m_on m_isKeptBack m_came m_plain m_low m_high0 m_offs m_gEnd m_gStep m_gWithin m_mostSaved m_picked m_fars m_savedAll : Nat} {kt kr1 kr2 kr3 kr4 kr5 ks kc k_tape k_rowMany k_stepMany k_endMany k_on k_isKeptBack : ClassId} {H : Heap} {locs : List Loc} (hK : va_K (dC, dI) vwCl [(kt, .byte), (kr1, .object RX5), (kr2, .object RX9), (kr3, .int), (kr4, .int), (kr5, .int), (ks, .boolean), (kc, .int), (k_tape, .byte), (k_rowMany, .int), (k_stepMany, .int), (k_endMany, .int), (k_on, .int), (k_isKeptBack, .boolean)] s) (hP : va_P (dC, dI) vwCl [(qx, .inr (11, [.ref tp, .int 0, .int 0, .int (-1), .ref td, .ref sh, .ref ch, .ref sw, .ref wk, .ref g1, .ref g2, .ref g3, .int 0, .int 0, .ref tl, .null, .null])), (tp, .inl (kt, 1000, .inl (fun _ => 0))), (td, .inr (3, [.ref r1, .ref r2, .ref r3, .ref r4, .ref r5, .int 0, .int 0, .int 0])), (r1, .inl (kr1, 2, .inr (.inr (.inr (.inr (fun _ => none)))))), (r2, .inl (kr2, 12, .inr (.inr (.inr (.inr (fun _ => none)))))), (r3, .inl (kr3, 4, .inl (fun _ => 0))), (r4, .inl (kr4, 4, .inl (fun _ => 0))), (r5, .inl (kr5, 4, .inl (fun _ => 0))), (sh, .inr (7, [.ref sn, .ref sk, .int 0])), (sk, .inl (ks, 40, .inl (fun _ => 0))), (ch, .inr (0, [.ref a1, .ref a2, .ref a3, .ref a4, .ref a5, .int 0, .int 0])), (a5, .inl (kc, 12, .inl (fun _ => 0))), (sw, .inr (8, [.ref td, .ref ch, .ref w1, .ref w2, .long 0, .long 0, .int 0, .int 0, .int 0])), (wk, .inr (10, [.ref td, .ref sh, .ref ch, .ref v1, .ref v2])), (qm, .inr (12, [.ref m_tape, .ref m_text, .int 0, .int 0, .int 0, .int (-1), .int 0, .int 0, .int 0, .int 0, .long 0, .ref m_rowMany, .ref m_stepMany, .ref m_endMany, .ref m_rHas, .ref m_rLeast, .ref m_rMost, .ref m_sKind, .ref m_sA, .ref m_sB, .ref m_sC, .ref m_sD, .ref m_eStep, .ref m_eOff, .ref m_eHow, .ref m_rName, .ref m_sName, .ref m_sLeast, .ref m_sMost, .int 0, .int 0, .ref m_numbers, .ref m_corner, .ref m_cStep, .ref m_cKind, .ref m_cN, .ref m_cSaves, .ref m_on, .ref m_isKeptBack, .int 0, .int 0, .ref m_came, .ref m_plain, .ref m_low, .ref m_high0, .long 0, .long 0, .ref m_offs, .long 0, .int 0, .ref m_gEnd, .ref m_gStep, .ref m_gWithin, .int 0, .ref m_mostSaved, .ref m_picked, .ref m_fars, .ref m_savedAll, .int 0])), (m_tape, .inl (k_tape, 1020, .inl (fun _ => 0))), (m_rowMany, .inl (k_rowMany, 2, .inl (fun _ => 0))), (m_stepMany, .inl (k_stepMany, 2, .inl (fun _ => 0))), (m_endMany, .inl (k_endMany, 2, .inl (fun _ => 0))), (m_on, .inl (k_on, 12, .inl (fun _ => 0))), (m_isKeptBack, .inl (k_isKeptBack, 40, .inl (fun _ => 0)))] H) (hD : va_D A [(qx, .inr (11, [.ref tp, .int 0, .int 0, .int (-1), .ref td, .ref sh, .ref ch, .ref sw, .ref wk, .ref g1, .ref g2, .ref g3, .int 0, .int 0, .ref tl, .null, .null])), (tp, .inl (kt, 1000, .inl (fun _ => 0))), (td, .inr (3, [.ref r1, .ref r2, .ref r3, .ref r4, .ref r5, .int 0, .int 0, .int 0])), (r1, .inl (kr1, 2, .inr (.inr (.inr (.inr (fun _ => none)))))), (r2, .inl (kr2, 12, .inr (.inr (.inr (.inr (fun _ => none)))))), (r3, .inl (kr3, 4, .inl (fun _ => 0))), (r4, .inl (kr4, 4, .inl (fun _ => 0))), (r5, .inl (kr5, 4, .inl (fun _ => 0))), (sh, .inr (7, [.ref sn, .ref sk, .int 0])), (sk, .inl (ks, 40, .inl (fun _ => 0))), (ch, .inr (0, [.ref a1, .ref a2, .ref a3, .ref a4, .ref a5, .int 0, .int 0])), (a5, .inl (kc, 12, .inl (fun _ => 0))), (sw, .inr (8, [.ref td, .ref ch, .ref w1, .ref w2, .long 0, .long 0, .int 0, .int 0, .int 0])), (wk, .inr (10, [.ref td, .ref sh, .ref ch, .ref v1, .ref v2])), (qm, .inr (12, [.ref m_tape, .ref m_text, .int 0, .int 0, .int 0, .int (-1), .int 0, .int 0, .int 0, .int 0, .long 0, .ref m_rowMany, .ref m_stepMany, .ref m_endMany, .ref m_rHas, .ref m_rLeast, .ref m_rMost, .ref m_sKind, .ref m_sA, .ref m_sB, .ref m_sC, .ref m_sD, .ref m_eStep, .ref m_eOff, .ref m_eHow, .ref m_rName, .ref m_sName, .ref m_sLeast, .ref m_sMost, .int 0, .int 0, .ref m_numbers, .ref m_corner, .ref m_cStep, .ref m_cKind, .ref m_cN, .ref m_cSaves, .ref m_on, .ref m_isKeptBack, .int 0, .int 0, .ref m_came, .ref m_plain, .ref m_low, .ref m_high0, .long 0, .long 0, .ref m_offs, .long 0, .int 0, .ref m_gEnd, .ref m_gStep, .ref m_gWithin, .int 0, .ref m_mostSaved, .ref m_picked, .ref m_fars, .ref m_savedAll, .int 0])), (m_tape, .inl (k_tape, 1020, .inl (fun _ => 0))), (m_rowMany, .inl (k_rowMany, 2, .inl (fun _ => 0))), (m_stepMany, .inl (k_stepMany, 2, .inl (fun _ => 0))), (m_endMany, .inl (k_endMany, 2, .inl (fun _ => 0))), (m_on, .inl (k_on, 12, .inl (fun _ => 0))), (m_isKeptBack, .inl (k_isKeptBack, 40, .inl (fun _ => 0)))]) (hS : va_S A s.heap H locs) {ls : Array Slot} (hl : lv_has ls 4 [(3, .int 0), (2, .ref qm), (1, .ref qx), (0, .ref b)]) : W p l e room_1 s m #[Value.ref b] below meth c H locs 68 50830 (lw_Z below #[Value.ref b] s) (F0 m 18 ls []) := by
  obtain ⟨hx, hb, hr, hml, hown, hts, hX, hbl, hlocks, hgv⟩ := id C0
  have hA : ∀ q : Nat, s.heap.size ≤ q → A q := fun q h => by rw [hAe]; exact h
  have hbA : ¬ A b := by rw [hAe]; exact Nat.not_le.mpr hbl
  refine lv_iload_n hx hb dL_law_18 rfl (lv_at hl 0 rfl) ?_
  refine lv_aload_n hx hb dL_law_19 rfl (lv_at hl 3 rfl) ?_
  refine va_slen hx hb hX hbl hbA hS dL_law_20 ?_
  refine lv_bipush (v := 6) hx hb dL_law_21 (by decide) ?_
  refine lv_isub hx hb dL_law_23 ?_
  refine zi (v := 0) (by decide) ?_
  refine lv_icmp_gt (tgt := 1287) hx hb dL_law_24 (by decide) (fun cc => absurd cc (by decide)) (fun _ => ?_)
  refine lv_aload_n hx hb dL_law_27 rfl (lv_at hl 3 rfl) ?_
  refine lv_iload_n hx hb dL_law_28 rfl (lv_at hl 0 rfl) ?_
  refine va_sld hx hb hX hbl hbA hS (by unfold vp_in; decide) dL_law_29 ?_
  refine lv_bipush (v := 31) hx hb dL_law_30 (by decide) ?_
  refine lv_iand hx hb dL_law_32 ?_
  obtain ⟨j9, hj9, ej9⟩ := pk_andE (xs (Int32.toNatClampNeg 0)) (m := 31) 5 (by decide)
  refine zi ej9 ?_
  have hj9 : j9 < 32 := hj9
  rcases (show j9 = 0 ∨ j9 = 1 ∨ j9 = 2 ∨ j9 = 3 ∨ j9 = 4 ∨ j9 = 5 ∨ j9 = 6 ∨ j9 = 7 ∨ j9 = 8 ∨ j9 = 9 ∨ j9 = 10 ∨ j9 = 11 ∨ j9 = 12 ∨ j9 = 13 ∨ j9 = 14 ∨ j9 = 15 ∨ j9 = 16 ∨ j9 = 17 ∨ j9 = 18 ∨ j9 = 19 ∨ j9 = 20 ∨ j9 = 21 ∨ j9 = 22 ∨ j9 = 23 ∨ j9 = 24 ∨ j9 = 25 ∨ j9 = 26 ∨ j9 = 27 ∨ j9 = 28 ∨ j9 = 29 ∨ j9 = 30 ∨ j9 = 31 by omega) with rfl | rfl | rfl | rfl | rfl | rfl | rfl | rfl | rfl | rfl | rfl | rfl | rfl | rfl | rfl | rfl | rfl | rfl | rfl | rfl | rfl | rfl | rfl | rfl | rfl | rfl | rfl | rfl | rfl | rfl | rfl | rfl
  · refine lv_tableIn (tgt := 172) (off := 139) hx hb dL_law_33 (by decide) (by decide) (by decide) (by decide) ?_
    exact law_0 C0 hE hAe hK hP hD hS hl
  · refine lv_tableIn (tgt := 235) (off := 202) hx hb dL_law_33 (by decide) (by decide) (by decide) (by decide) ?_
    exact law_1 C0 hE hAe hK hP hD hS hl
  · refine lv_tableIn (tgt := 258) (off := 225) hx hb dL_law_33 (by decide) (by decide) (by decide) (by decide) ?_
    exact law_2 C0 hE hAe hK hP hD hS hl
  · refine lv_tableIn (tgt := 271) (off := 238) hx hb dL_law_33 (by decide) (by decide) (by decide) (by decide) ?_
    exact law_3 C0 hE hAe hK hP hD hS hl
  · refine lv_tableIn (tgt := 294) (off := 261) hx hb dL_law_33 (by decide) (by decide) (by decide) (by decide) ?_
    exact law_4 C0 hE hAe hK hP hD hS hl
  · refine lv_tableIn (tgt := 343) (off := 310) hx hb dL_law_33 (by decide) (by decide) (by decide) (by decide) ?_
    exact law_5 C0 hE hAe hK hP hD hS hl
  · refine lv_tableIn (tgt := 382) (off := 349) hx hb dL_law_33 (by decide) (by decide) (by decide) (by decide) ?_
    exact law_6 C0 hE hAe hK hP hD hS hl
  · refine lv_tableIn (tgt := 435) (off := 402) hx hb dL_law_33 (by decide) (by decide) (by decide) (by decide) ?_
    exact law_7 C0 hE hAe hK hP hD hS hl
  · refine lv_tableIn (tgt := 488) (off := 455) hx hb dL_law_33 (by decide) (by decide) (by decide) (by decide) ?_
    exact law_8 C0 hE hAe hK hP hD hS hl
  · refine lv_tableIn (tgt := 532) (off := 499) hx hb dL_law_33 (by decide) (by decide) (by decide) (by decide) ?_
    exact law_9 C0 hE hAe hK hP hD hS hl
  · refine lv_tableIn (tgt := 592) (off := 559) hx hb dL_law_33 (by decide) (by decide) (by decide) (by decide) ?_
    exact law_10 C0 hE hAe hK hP hD hS hl
  · refine lv_tableIn (tgt := 626) (off := 593) hx hb dL_law_33 (by decide) (by decide) (by decide) (by decide) ?_
    exact law_11 C0 hE hAe hK hP hD hS hl
  · refine lv_tableIn (tgt := 649) (off := 616) hx hb dL_law_33 (by decide) (by decide) (by decide) (by decide) ?_
    exact law_12 C0 hE hAe hK hP hD hS hl
  · refine lv_tableIn (tgt := 683) (off := 650) hx hb dL_law_33 (by decide) (by decide) (by decide) (by decide) ?_
    exact law_13 C0 hE hAe hK hP hD hS hl
  · refine lv_tableIn (tgt := 716) (off := 683) hx hb dL_law_33 (by decide) (by decide) (by decide) (by decide) ?_
    exact law_14 C0 hE hAe hK hP hD hS hl
  · refine lv_tableIn (tgt := 760) (off := 727) hx hb dL_law_33 (by decide) (by decide) (by decide) (by decide) ?_
    exact law_15 C0 hE hAe hK hP hD hS hl
  · refine lv_tableIn (tgt := 783) (off := 750) hx hb dL_law_33 (by decide) (by decide) (by decide) (by decide) ?_
    exact law_16 C0 hE hAe hK hP hD hS hl
  · refine lv_tableIn (tgt := 806) (off := 773) hx hb dL_law_33 (by decide) (by decide) (by decide) (by decide) ?_
    exact law_17 C0 hE hAe hK hP hD hS hl
  · refine lv_tableIn (tgt := 829) (off := 796) hx hb dL_law_33 (by decide) (by decide) (by decide) (by decide) ?_
    exact law_18 C0 hE hAe hK hP hD hS hl
  · refine lv_tableIn (tgt := 842) (off := 809) hx hb dL_law_33 (by decide) (by decide) (by decide) (by decide) ?_
    exact law_19 C0 hE hAe hK hP hD hS hl
  · refine lv_tableIn (tgt := 865) (off := 832) hx hb dL_law_33 (by decide) (by decide) (by decide) (by decide) ?_
    exact law_20 C0 hE hAe hK hP hD hS hl
  · refine lv_tableIn (tgt := 909) (off := 876) hx hb dL_law_33 (by decide) (by decide) (by decide) (by decide) ?_
    exact law_21 C0 hE hAe hK hP hD hS hl
  · refine lv_tableIn (tgt := 952) (off := 919) hx hb dL_law_33 (by decide) (by decide) (by decide) (by decide) ?_
    exact law_22 C0 hE hAe hK hP hD hS hl
  · refine lv_tableIn (tgt := 985) (off := 952) hx hb dL_law_33 (by decide) (by decide) (by decide) (by decide) ?_
    exact law_23 C0 hE hAe hK hP hD hS hl
  · refine lv_tableIn (tgt := 1018) (off := 985) hx hb dL_law_33 (by decide) (by decide) (by decide) (by decide) ?_
    exact law_24 C0 hE hAe hK hP hD hS hl
  · refine lv_tableIn (tgt := 1062) (off := 1029) hx hb dL_law_33 (by decide) (by decide) (by decide) (by decide) ?_
    exact law_25 C0 hE hAe hK hP hD hS hl
  · refine lv_tableIn (tgt := 1116) (off := 1083) hx hb dL_law_33 (by decide) (by decide) (by decide) (by decide) ?_
    exact law_26 C0 hE hAe hK hP hD hS hl
  · refine lv_tableIn (tgt := 1139) (off := 1106) hx hb dL_law_33 (by decide) (by decide) (by decide) (by decide) ?_
    exact law_27 C0 hE hAe hK hP hD hS hl
  · refine lv_tableIn (tgt := 1182) (off := 1149) hx hb dL_law_33 (by decide) (by decide) (by decide) (by decide) ?_
    exact law_28 C0 hE hAe hK hP hD hS hl
  · refine lv_tableIn (tgt := 1215) (off := 1182) hx hb dL_law_33 (by decide) (by decide) (by decide) (by decide) ?_
    exact law_29 C0 hE hAe hK hP hD hS hl
  · refine lv_tableIn (tgt := 1258) (off := 1225) hx hb dL_law_33 (by decide) (by decide) (by decide) (by decide) ?_
    exact law_30 C0 hE hAe hK hP hD hS hl
  · refine lv_tableOut (tgt := 1281) hx hb dL_law_33 (Or.inr (by decide)) (by decide) ?_
    exact law_tail C0 hAe hS (Nat.le_of_ble_eq_true rfl) (Nat.le_of_ble_eq_true rfl) (lv_sub hl [0, 3] rfl)

set_option maxHeartbeats 4000000 in
set_option maxRecDepth 100000 in
/-- THE LAW, from its entry -/
theorem whole_start {p : Program} {e : Env} {s : State} {m : MethodId} {below : List Frame} {meth : Method} {c : Code} (l : Launch) {b L : Nat} {xs : Nat → Int32} (hL : L ≤ 6) (C0 : lw_At p s m meth c b L xs) : W p l e room_1 s m #[Value.ref b] below meth c s.heap [] 0 0 (lw_Z below #[Value.ref b] s) (entryFrame m ([Value.ref b] : List Value).toArray 4) := by
  obtain ⟨hx, hb, hr, hml, hown, hts, hX, hbl, hlocks, hgv⟩ := id C0
  have hE : Ex s := ⟨va_AO.of (hts (.arrayOver (.object RX5)) (List.mem_of_getElem? (i := 148) (by decide +kernel))), va_AO.of (hts (.arrayOver (.object RX9)) (List.mem_of_getElem? (i := 150) (by decide +kernel))), va_Nw.of rfl (hts (.methodLinkNest RX11 25 yX3_init "NearEnough") (List.mem_of_getElem? (i := 143) (by decide +kernel))), va_Nw.of rfl (hts (.methodLinkNest RX11 32 yX7_init "NearEnough") (List.mem_of_getElem? (i := 199) (by decide +kernel))), va_Nw.of rfl (hts (.methodLinkNest RX11 39 yX0_init "NearEnough") (List.mem_of_getElem? (i := 221) (by decide +kernel))), va_Nw.of rfl (hts (.methodLinkNest RX4 11 yX3_init "NearEnough") (List.mem_of_getElem? (i := 387) (by decide +kernel)))⟩
  obtain ⟨c0, iS0, hKn0⟩ := u_known (C := RX0) (T := TX0) (N := 7) (n := 7) hts tX0 (hts (.instantiable RX0 7) (List.mem_of_getElem? (i := 220) (by decide +kernel)))
  obtain ⟨c1, iS1, hKn1⟩ := u_known (C := RX1) (T := TX1) (N := 7) (n := 7) hts tX1 (hts (.instantiable RX1 7) (List.mem_of_getElem? (i := 1100) (by decide +kernel)))
  obtain ⟨c2, iS2, hKn2⟩ := u_known (C := RX2) (T := TX2) (N := 8) (n := 8) hts tX2 (hts (.instantiable RX2 8) (List.mem_of_getElem? (i := 1202) (by decide +kernel)))
  obtain ⟨c3, iS3, hKn3⟩ := u_known (C := RX3) (T := TX3) (N := 8) (n := 8) hts tX3 (hts (.instantiable RX3 8) (List.mem_of_getElem? (i := 142) (by decide +kernel)))
  obtain ⟨c4, iS4, hKn4⟩ := u_known (C := RX4) (T := TX4) (N := 4) (n := 4) hts tX4 (hts (.instantiable RX4 4) (List.mem_of_getElem? (i := 381) (by decide +kernel)))
  obtain ⟨c5, iS5, hKn5⟩ := u_known (C := RX5) (T := TX5) (N := 5) (n := 5) hts tX5 (hts (.instantiable RX5 5) (List.mem_of_getElem? (i := 564) (by decide +kernel)))
  obtain ⟨c6, iS6, hKn6⟩ := u_known (C := RX6) (T := TX6) (N := 7) (n := 7) hts tX6 (hts (.instantiable RX6 7) (List.mem_of_getElem? (i := 389) (by decide +kernel)))
  obtain ⟨c7, iS7, hKn7⟩ := u_known (C := RX7) (T := TX7) (N := 3) (n := 3) hts tX7 (hts (.instantiable RX7 3) (List.mem_of_getElem? (i := 198) (by decide +kernel)))
  obtain ⟨c8, iS8, hKn8⟩ := u_known (C := RX8) (T := TX8) (N := 9) (n := 9) hts tX8 (hts (.instantiable RX8 9) (List.mem_of_getElem? (i := 252) (by decide +kernel)))
  obtain ⟨c9, iS9, hKn9⟩ := u_known (C := RX9) (T := TX9) (N := 11) (n := 11) hts tX9 (hts (.instantiable RX9 11) (List.mem_of_getElem? (i := 649) (by decide +kernel)))
  obtain ⟨c10, iS10, hKn10⟩ := u_known (C := RX10) (T := TX10) (N := 5) (n := 5) hts tX10 (hts (.instantiable RX10 5) (List.mem_of_getElem? (i := 290) (by decide +kernel)))
  obtain ⟨c11, iS11, hKn11⟩ := u_known (C := RX11) (T := TX11) (N := 17) (n := 17) hts tX11 (hts (.instantiable RX11 17) (List.mem_of_getElem? (i := 134) (by decide +kernel)))
  obtain ⟨c12, iS12, hKn12⟩ := u_known (C := RX12) (T := TX12) (N := 59) (n := 59) hts tX12 (hts (.instantiable RX12 59) (List.mem_of_getElem? (i := 1277) (by decide +kernel)))
  obtain ⟨dC, dI, hKc⟩ : ∃ (dC : Nat → ClassId) (dI : Nat → Nat → Nat), ∀ (k : Nat) (q : vw_C), vwCl[k]? = some q → u_Kn s q.1 q.2.1 q.2.2 (dC k) (dI k) := by
    refine ⟨fun k => match k with | 0 => c0 | 1 => c1 | 2 => c2 | 3 => c3 | 4 => c4 | 5 => c5 | 6 => c6 | 7 => c7 | 8 => c8 | 9 => c9 | 10 => c10 | 11 => c11 | _ => c12, fun k => match k with | 0 => iS0 | 1 => iS1 | 2 => iS2 | 3 => iS3 | 4 => iS4 | 5 => iS5 | 6 => iS6 | 7 => iS7 | 8 => iS8 | 9 => iS9 | 10 => iS10 | 11 => iS11 | _ => iS12, ?_⟩
    intro k q hq
    match k, hq with
    | 0, hq => cases hq; exact hKn0
    | 1, hq => cases hq; exact hKn1
    | 2, hq => cases hq; exact hKn2
    | 3, hq => cases hq; exact hKn3
    | 4, hq => cases hq; exact hKn4
    | 5, hq => cases hq; exact hKn5
    | 6, hq => cases hq; exact hKn6
    | 7, hq => cases hq; exact hKn7
    | 8, hq => cases hq; exact hKn8
    | 9, hq => cases hq; exact hKn9
    | 10, hq => cases hq; exact hKn10
    | 11, hq => cases hq; exact hKn11
    | 12, hq => cases hq; exact hKn12
    | k + 13, hq => simp [vwCl] at hq
  obtain ⟨A, hAe⟩ : ∃ A : Nat → Prop, A = fun q : Nat => s.heap.size ≤ q := ⟨_, rfl⟩
  have hA : ∀ q : Nat, s.heap.size ≤ q → A q := fun q h => by rw [hAe]; exact h
  have hbA : ¬ A b := by rw [hAe]; exact Nat.not_le.mpr hbl
  have hK : va_K (dC, dI) vwCl [] s := ⟨hKc, fun k q h => by simp at h⟩
  have hP : va_P (dC, dI) vwCl [] s.heap := fun k q h => by simp at h
  have hD : va_D A [] := ⟨fun i j p q h => by simp at h, fun k q h => by simp at h⟩
  have hin11 := tX11
  have hin12 := tX12
  have hl := lv_entry ([.ref b]) (n := 4) (Nat.le_of_ble_eq_true rfl)
  rw [lg_entry_eq]
  generalize (lg_sl ([.ref b]) ++ List.replicate (4 - (lg_sl ([.ref b])).length) Slot.unset).toArray = ls at hl ⊢
  have hl : lv_has ls 4 [(0, .ref b)] := hl
  refine zH (A := A) (ws := []) (fun H hP hS => ?_) hP
  refine va_new (ci := 11) (fs := [.null, .int 0, .int 0, .int 0, .null, .null, .null, .null, .null, .null, .null, .null, .int 0, .int 0, .null, .null, .null]) (C := RX11) (T := TX11) (N := 17) hx hb hts hin11 tyX11 tyX11_ok hown (hts (.classLink RL 7 RX11) (List.mem_of_getElem? (i := 133) (by decide +kernel))) (hts (.instantiable RX11 17) (List.mem_of_getElem? (i := 134) (by decide +kernel))) (hts (.initialized RX11) (List.mem_of_getElem? (i := 112) (by decide +kernel))) hK hP hD hS hA rfl (by decide) (Nat.le_of_ble_eq_true rfl) (Nat.le_of_ble_eq_true rfl) dL_law_0 (fun q1 H hP hD hS => ?_)
  have hP : va_P (dC, dI) vwCl [(q1, .inr (11, [.null, .int 0, .int 0, .int 0, .null, .null, .null, .null, .null, .null, .null, .null, .int 0, .int 0, .null, .null, .null]))] H := hP
  have hD : va_D A [(q1, .inr (11, [.null, .int 0, .int 0, .int 0, .null, .null, .null, .null, .null, .null, .null, .null, .int 0, .int 0, .null, .null, .null]))] := hD
  refine W.widen (k := 1) (n := 17) (Nat.le_of_ble_eq_true rfl) (Nat.le_of_ble_eq_true rfl) ?_
  refine lv_dup hx hb dL_law_3 rfl ?_
  have hPc := hP.sub (ws' := [(q1, .inr (11, [.null, .int 0, .int 0, .int 0, .null, .null, .null, .null, .null, .null, .null, .null, .int 0, .int 0, .null, .null, .null]))]) [0] rfl
  have hDc := hD.sub (ws' := [(q1, .inr (11, [.null, .int 0, .int 0, .int 0, .null, .null, .null, .null, .null, .null, .null, .null, .int 0, .int 0, .null, .null, .null]))]) [0] (by decide) rfl
  have hKc := hK.sub (tys' := []) [] rfl
  refine zz_v (wr := []) (va_runI (As := []) (rest := [.ref q1]) ⟨hx, hb, hml, hown, hts⟩ (c_X_init l dC dI q1 H.size) (cwI 0 hts gl_c_X_init rfl rfl rfl (hts (.initialized RX11) (List.mem_of_getElem? (i := 112) (by decide +kernel))) (hts (.methodLink RL 9 yX11_init) (List.mem_of_getElem? (i := 135) (by decide +kernel))) (hts (.instanceMethod yX11_init) (List.mem_of_getElem? (i := 136) (by decide +kernel))) rfl (by decide +kernel) ⟨Nat.le_of_ble_eq_true rfl, Nat.le_of_ble_eq_true rfl⟩) (preS hPc hKc hDc hE) rfl rfl hl.1 rfl (lv_room (Nat.le_of_ble_eq_true rfl)) dL_law_4 ⟨Nat.le_of_ble_eq_true rfl, Nat.le_of_ble_eq_true rfl⟩) hK hP hD hS hA [0] [] rfl rfl (by decide) (by decide) (fun u H locs hK hP hD hS => ?_)
  obtain ⟨t2, t3, s4, c5, s6, w7, g8, g9, g10, t11, r12, r13, r14, r15, r16, s17, s18, a19, a20, a21, a22, a23, w24, w25, v26, v27, k28, k29, k30, k31, k32, k33, k34, k35⟩ := u
  have hP : va_P (dC, dI) vwCl [(q1, .inr (11, [.ref t2, .int 0, .int 0, .int (-1), .ref t3, .ref s4, .ref c5, .ref s6, .ref w7, .ref g8, .ref g9, .ref g10, .int 0, .int 0, .ref t11, .null, .null])), (t2, .inl (k28, 1000, .inl (fun _ => 0))), (t3, .inr (3, [.ref r12, .ref r13, .ref r14, .ref r15, .ref r16, .int 0, .int 0, .int 0])), (r12, .inl (k29, 2, .inr (.inr (.inr (.inr (fun _ => none)))))), (r13, .inl (k30, 12, .inr (.inr (.inr (.inr (fun _ => none)))))), (r14, .inl (k31, 4, .inl (fun _ => 0))), (r15, .inl (k32, 4, .inl (fun _ => 0))), (r16, .inl (k33, 4, .inl (fun _ => 0))), (s4, .inr (7, [.ref s17, .ref s18, .int 0])), (s18, .inl (k34, 40, .inl (fun _ => 0))), (c5, .inr (0, [.ref a19, .ref a20, .ref a21, .ref a22, .ref a23, .int 0, .int 0])), (a23, .inl (k35, 12, .inl (fun _ => 0))), (s6, .inr (8, [.ref t3, .ref c5, .ref w24, .ref w25, .long 0, .long 0, .int 0, .int 0, .int 0])), (w7, .inr (10, [.ref t3, .ref s4, .ref c5, .ref v26, .ref v27]))] H := hP
  have hD : va_D A [(q1, .inr (11, [.ref t2, .int 0, .int 0, .int (-1), .ref t3, .ref s4, .ref c5, .ref s6, .ref w7, .ref g8, .ref g9, .ref g10, .int 0, .int 0, .ref t11, .null, .null])), (t2, .inl (k28, 1000, .inl (fun _ => 0))), (t3, .inr (3, [.ref r12, .ref r13, .ref r14, .ref r15, .ref r16, .int 0, .int 0, .int 0])), (r12, .inl (k29, 2, .inr (.inr (.inr (.inr (fun _ => none)))))), (r13, .inl (k30, 12, .inr (.inr (.inr (.inr (fun _ => none)))))), (r14, .inl (k31, 4, .inl (fun _ => 0))), (r15, .inl (k32, 4, .inl (fun _ => 0))), (r16, .inl (k33, 4, .inl (fun _ => 0))), (s4, .inr (7, [.ref s17, .ref s18, .int 0])), (s18, .inl (k34, 40, .inl (fun _ => 0))), (c5, .inr (0, [.ref a19, .ref a20, .ref a21, .ref a22, .ref a23, .int 0, .int 0])), (a23, .inl (k35, 12, .inl (fun _ => 0))), (s6, .inr (8, [.ref t3, .ref c5, .ref w24, .ref w25, .long 0, .long 0, .int 0, .int 0, .int 0])), (w7, .inr (10, [.ref t3, .ref s4, .ref c5, .ref v26, .ref v27]))] := hD
  have hK : va_K (dC, dI) vwCl [(k28, .byte), (k29, .object RX5), (k30, .object RX9), (k31, .int), (k32, .int), (k33, .int), (k34, .boolean), (k35, .int)] s := hK
  refine W.widen (k := 27) (n := 2691) (Nat.le_of_ble_eq_true rfl) (Nat.le_of_ble_eq_true rfl) ?_
  refine lv_astore_n (lv' := [(1, .ref q1), (0, .ref b)]) hx hb dL_law_7 rfl hl (by decide) rfl (fun ls hl => ?_)
  refine va_new (ci := 12) (fs := [.null, .null, .int 0, .int 0, .int 0, .int 0, .int 0, .int 0, .int 0, .int 0, .long 0, .null, .null, .null, .null, .null, .null, .null, .null, .null, .null, .null, .null, .null, .null, .null, .null, .null, .null, .int 0, .int 0, .null, .null, .null, .null, .null, .null, .null, .null, .int 0, .int 0, .null, .null, .null, .null, .long 0, .long 0, .null, .long 0, .int 0, .null, .null, .null, .int 0, .null, .null, .null, .null, .int 0]) (C := RX12) (T := TX12) (N := 59) hx hb hts hin12 tyX12 tyX12_ok hown (hts (.classLink RL 10 RX12) (List.mem_of_getElem? (i := 1276) (by decide +kernel))) (hts (.instantiable RX12 59) (List.mem_of_getElem? (i := 1277) (by decide +kernel))) (hts (.initialized RX12) (List.mem_of_getElem? (i := 118) (by decide +kernel))) hK hP hD hS hA rfl (by decide) (Nat.le_of_ble_eq_true rfl) (Nat.le_of_ble_eq_true rfl) dL_law_8 (fun q36 H hP hD hS => ?_)
  have hP : va_P (dC, dI) vwCl [(q1, .inr (11, [.ref t2, .int 0, .int 0, .int (-1), .ref t3, .ref s4, .ref c5, .ref s6, .ref w7, .ref g8, .ref g9, .ref g10, .int 0, .int 0, .ref t11, .null, .null])), (t2, .inl (k28, 1000, .inl (fun _ => 0))), (t3, .inr (3, [.ref r12, .ref r13, .ref r14, .ref r15, .ref r16, .int 0, .int 0, .int 0])), (r12, .inl (k29, 2, .inr (.inr (.inr (.inr (fun _ => none)))))), (r13, .inl (k30, 12, .inr (.inr (.inr (.inr (fun _ => none)))))), (r14, .inl (k31, 4, .inl (fun _ => 0))), (r15, .inl (k32, 4, .inl (fun _ => 0))), (r16, .inl (k33, 4, .inl (fun _ => 0))), (s4, .inr (7, [.ref s17, .ref s18, .int 0])), (s18, .inl (k34, 40, .inl (fun _ => 0))), (c5, .inr (0, [.ref a19, .ref a20, .ref a21, .ref a22, .ref a23, .int 0, .int 0])), (a23, .inl (k35, 12, .inl (fun _ => 0))), (s6, .inr (8, [.ref t3, .ref c5, .ref w24, .ref w25, .long 0, .long 0, .int 0, .int 0, .int 0])), (w7, .inr (10, [.ref t3, .ref s4, .ref c5, .ref v26, .ref v27])), (q36, .inr (12, [.null, .null, .int 0, .int 0, .int 0, .int 0, .int 0, .int 0, .int 0, .int 0, .long 0, .null, .null, .null, .null, .null, .null, .null, .null, .null, .null, .null, .null, .null, .null, .null, .null, .null, .null, .int 0, .int 0, .null, .null, .null, .null, .null, .null, .null, .null, .int 0, .int 0, .null, .null, .null, .null, .long 0, .long 0, .null, .long 0, .int 0, .null, .null, .null, .int 0, .null, .null, .null, .null, .int 0]))] H := hP
  have hD : va_D A [(q1, .inr (11, [.ref t2, .int 0, .int 0, .int (-1), .ref t3, .ref s4, .ref c5, .ref s6, .ref w7, .ref g8, .ref g9, .ref g10, .int 0, .int 0, .ref t11, .null, .null])), (t2, .inl (k28, 1000, .inl (fun _ => 0))), (t3, .inr (3, [.ref r12, .ref r13, .ref r14, .ref r15, .ref r16, .int 0, .int 0, .int 0])), (r12, .inl (k29, 2, .inr (.inr (.inr (.inr (fun _ => none)))))), (r13, .inl (k30, 12, .inr (.inr (.inr (.inr (fun _ => none)))))), (r14, .inl (k31, 4, .inl (fun _ => 0))), (r15, .inl (k32, 4, .inl (fun _ => 0))), (r16, .inl (k33, 4, .inl (fun _ => 0))), (s4, .inr (7, [.ref s17, .ref s18, .int 0])), (s18, .inl (k34, 40, .inl (fun _ => 0))), (c5, .inr (0, [.ref a19, .ref a20, .ref a21, .ref a22, .ref a23, .int 0, .int 0])), (a23, .inl (k35, 12, .inl (fun _ => 0))), (s6, .inr (8, [.ref t3, .ref c5, .ref w24, .ref w25, .long 0, .long 0, .int 0, .int 0, .int 0])), (w7, .inr (10, [.ref t3, .ref s4, .ref c5, .ref v26, .ref v27])), (q36, .inr (12, [.null, .null, .int 0, .int 0, .int 0, .int 0, .int 0, .int 0, .int 0, .int 0, .long 0, .null, .null, .null, .null, .null, .null, .null, .null, .null, .null, .null, .null, .null, .null, .null, .null, .null, .null, .int 0, .int 0, .null, .null, .null, .null, .null, .null, .null, .null, .int 0, .int 0, .null, .null, .null, .null, .long 0, .long 0, .null, .long 0, .int 0, .null, .null, .null, .int 0, .null, .null, .null, .null, .int 0]))] := hD
  refine W.widen (k := 28) (n := 2750) (Nat.le_of_ble_eq_true rfl) (Nat.le_of_ble_eq_true rfl) ?_
  refine lv_dup hx hb dL_law_11 rfl ?_
  have hPc := hP.sub (ws' := [(q36, .inr (12, [.null, .null, .int 0, .int 0, .int 0, .int 0, .int 0, .int 0, .int 0, .int 0, .long 0, .null, .null, .null, .null, .null, .null, .null, .null, .null, .null, .null, .null, .null, .null, .null, .null, .null, .null, .int 0, .int 0, .null, .null, .null, .null, .null, .null, .null, .null, .int 0, .int 0, .null, .null, .null, .null, .long 0, .long 0, .null, .long 0, .int 0, .null, .null, .null, .int 0, .null, .null, .null, .null, .int 0]))]) [14] rfl
  have hDc := hD.sub (ws' := [(q36, .inr (12, [.null, .null, .int 0, .int 0, .int 0, .int 0, .int 0, .int 0, .int 0, .int 0, .long 0, .null, .null, .null, .null, .null, .null, .null, .null, .null, .null, .null, .null, .null, .null, .null, .null, .null, .null, .int 0, .int 0, .null, .null, .null, .null, .null, .null, .null, .null, .int 0, .int 0, .null, .null, .null, .null, .long 0, .long 0, .null, .long 0, .int 0, .null, .null, .null, .int 0, .null, .null, .null, .null, .int 0]))]) [14] (by decide) rfl
  have hKc := hK.sub (tys' := []) [] rfl
  refine zz_v (wr := [(q1, .inr (11, [.ref t2, .int 0, .int 0, .int (-1), .ref t3, .ref s4, .ref c5, .ref s6, .ref w7, .ref g8, .ref g9, .ref g10, .int 0, .int 0, .ref t11, .null, .null])), (t2, .inl (k28, 1000, .inl (fun _ => 0))), (t3, .inr (3, [.ref r12, .ref r13, .ref r14, .ref r15, .ref r16, .int 0, .int 0, .int 0])), (r12, .inl (k29, 2, .inr (.inr (.inr (.inr (fun _ => none)))))), (r13, .inl (k30, 12, .inr (.inr (.inr (.inr (fun _ => none)))))), (r14, .inl (k31, 4, .inl (fun _ => 0))), (r15, .inl (k32, 4, .inl (fun _ => 0))), (r16, .inl (k33, 4, .inl (fun _ => 0))), (s4, .inr (7, [.ref s17, .ref s18, .int 0])), (s18, .inl (k34, 40, .inl (fun _ => 0))), (c5, .inr (0, [.ref a19, .ref a20, .ref a21, .ref a22, .ref a23, .int 0, .int 0])), (a23, .inl (k35, 12, .inl (fun _ => 0))), (s6, .inr (8, [.ref t3, .ref c5, .ref w24, .ref w25, .long 0, .long 0, .int 0, .int 0, .int 0])), (w7, .inr (10, [.ref t3, .ref s4, .ref c5, .ref v26, .ref v27]))]) (va_runI (As := []) (rest := [.ref q36]) ⟨hx, hb, hml, hown, hts⟩ (c_M_init l dC dI q36 H.size) (cwI 0 hts gl_c_M_init rfl rfl rfl (hts (.initialized RX12) (List.mem_of_getElem? (i := 118) (by decide +kernel))) (hts (.methodLink RL 12 yX12_init) (List.mem_of_getElem? (i := 1278) (by decide +kernel))) (hts (.instanceMethod yX12_init) (List.mem_of_getElem? (i := 1279) (by decide +kernel))) rfl (by decide +kernel) ⟨Nat.le_of_ble_eq_true rfl, Nat.le_of_ble_eq_true rfl⟩) (preS hPc hKc hDc hE) rfl rfl hl.1 rfl (lv_room (Nat.le_of_ble_eq_true rfl)) dL_law_12 ⟨Nat.le_of_ble_eq_true rfl, Nat.le_of_ble_eq_true rfl⟩) hK hP hD hS hA [14] [0, 1, 2, 3, 4, 5, 6, 7, 8, 9, 10, 11, 12, 13] rfl rfl (by decide) (by decide) (fun u H locs hK hP hD hS => ?_)
  obtain ⟨m37, m38, m39, m40, m41, m42, m43, m44, m45, m46, m47, m48, m49, m50, m51, m52, m53, m54, m55, m56, m57, m58, m59, m60, m61, m62, m63, m64, m65, m66, m67, m68, m69, m70, m71, m72, m73, m74, m75, m76, k77, k78, k79, k80, k81, k82⟩ := u
  have hP : va_P (dC, dI) vwCl [(q1, .inr (11, [.ref t2, .int 0, .int 0, .int (-1), .ref t3, .ref s4, .ref c5, .ref s6, .ref w7, .ref g8, .ref g9, .ref g10, .int 0, .int 0, .ref t11, .null, .null])), (t2, .inl (k28, 1000, .inl (fun _ => 0))), (t3, .inr (3, [.ref r12, .ref r13, .ref r14, .ref r15, .ref r16, .int 0, .int 0, .int 0])), (r12, .inl (k29, 2, .inr (.inr (.inr (.inr (fun _ => none)))))), (r13, .inl (k30, 12, .inr (.inr (.inr (.inr (fun _ => none)))))), (r14, .inl (k31, 4, .inl (fun _ => 0))), (r15, .inl (k32, 4, .inl (fun _ => 0))), (r16, .inl (k33, 4, .inl (fun _ => 0))), (s4, .inr (7, [.ref s17, .ref s18, .int 0])), (s18, .inl (k34, 40, .inl (fun _ => 0))), (c5, .inr (0, [.ref a19, .ref a20, .ref a21, .ref a22, .ref a23, .int 0, .int 0])), (a23, .inl (k35, 12, .inl (fun _ => 0))), (s6, .inr (8, [.ref t3, .ref c5, .ref w24, .ref w25, .long 0, .long 0, .int 0, .int 0, .int 0])), (w7, .inr (10, [.ref t3, .ref s4, .ref c5, .ref v26, .ref v27])), (q36, .inr (12, [.ref m37, .ref m38, .int 0, .int 0, .int 0, .int (-1), .int 0, .int 0, .int 0, .int 0, .long 0, .ref m39, .ref m40, .ref m41, .ref m42, .ref m43, .ref m44, .ref m45, .ref m46, .ref m47, .ref m48, .ref m49, .ref m50, .ref m51, .ref m52, .ref m53, .ref m54, .ref m55, .ref m56, .int 0, .int 0, .ref m57, .ref m58, .ref m59, .ref m60, .ref m61, .ref m62, .ref m63, .ref m64, .int 0, .int 0, .ref m65, .ref m66, .ref m67, .ref m68, .long 0, .long 0, .ref m69, .long 0, .int 0, .ref m70, .ref m71, .ref m72, .int 0, .ref m73, .ref m74, .ref m75, .ref m76, .int 0])), (m37, .inl (k77, 1020, .inl (fun _ => 0))), (m39, .inl (k78, 2, .inl (fun _ => 0))), (m40, .inl (k79, 2, .inl (fun _ => 0))), (m41, .inl (k80, 2, .inl (fun _ => 0))), (m63, .inl (k81, 12, .inl (fun _ => 0))), (m64, .inl (k82, 40, .inl (fun _ => 0)))] H := hP
  have hD : va_D A [(q1, .inr (11, [.ref t2, .int 0, .int 0, .int (-1), .ref t3, .ref s4, .ref c5, .ref s6, .ref w7, .ref g8, .ref g9, .ref g10, .int 0, .int 0, .ref t11, .null, .null])), (t2, .inl (k28, 1000, .inl (fun _ => 0))), (t3, .inr (3, [.ref r12, .ref r13, .ref r14, .ref r15, .ref r16, .int 0, .int 0, .int 0])), (r12, .inl (k29, 2, .inr (.inr (.inr (.inr (fun _ => none)))))), (r13, .inl (k30, 12, .inr (.inr (.inr (.inr (fun _ => none)))))), (r14, .inl (k31, 4, .inl (fun _ => 0))), (r15, .inl (k32, 4, .inl (fun _ => 0))), (r16, .inl (k33, 4, .inl (fun _ => 0))), (s4, .inr (7, [.ref s17, .ref s18, .int 0])), (s18, .inl (k34, 40, .inl (fun _ => 0))), (c5, .inr (0, [.ref a19, .ref a20, .ref a21, .ref a22, .ref a23, .int 0, .int 0])), (a23, .inl (k35, 12, .inl (fun _ => 0))), (s6, .inr (8, [.ref t3, .ref c5, .ref w24, .ref w25, .long 0, .long 0, .int 0, .int 0, .int 0])), (w7, .inr (10, [.ref t3, .ref s4, .ref c5, .ref v26, .ref v27])), (q36, .inr (12, [.ref m37, .ref m38, .int 0, .int 0, .int 0, .int (-1), .int 0, .int 0, .int 0, .int 0, .long 0, .ref m39, .ref m40, .ref m41, .ref m42, .ref m43, .ref m44, .ref m45, .ref m46, .ref m47, .ref m48, .ref m49, .ref m50, .ref m51, .ref m52, .ref m53, .ref m54, .ref m55, .ref m56, .int 0, .int 0, .ref m57, .ref m58, .ref m59, .ref m60, .ref m61, .ref m62, .ref m63, .ref m64, .int 0, .int 0, .ref m65, .ref m66, .ref m67, .ref m68, .long 0, .long 0, .ref m69, .long 0, .int 0, .ref m70, .ref m71, .ref m72, .int 0, .ref m73, .ref m74, .ref m75, .ref m76, .int 0])), (m37, .inl (k77, 1020, .inl (fun _ => 0))), (m39, .inl (k78, 2, .inl (fun _ => 0))), (m40, .inl (k79, 2, .inl (fun _ => 0))), (m41, .inl (k80, 2, .inl (fun _ => 0))), (m63, .inl (k81, 12, .inl (fun _ => 0))), (m64, .inl (k82, 40, .inl (fun _ => 0)))] := hD
  have hK : va_K (dC, dI) vwCl [(k28, .byte), (k29, .object RX5), (k30, .object RX9), (k31, .int), (k32, .int), (k33, .int), (k34, .boolean), (k35, .int), (k77, .byte), (k78, .int), (k79, .int), (k80, .int), (k81, .int), (k82, .boolean)] s := hK
  refine W.widen (k := 68) (n := 50830) (Nat.le_of_ble_eq_true rfl) (Nat.le_of_ble_eq_true rfl) ?_
  refine lv_astore_n (lv' := [(2, .ref q36), (1, .ref q1), (0, .ref b)]) hx hb dL_law_15 rfl hl (by decide) rfl (fun ls hl => ?_)
  refine lv_iconst (v := 0) hx hb dL_law_16 (by decide) ?_
  refine lv_istore_n (lv' := [(3, .int 0), (2, .ref q36), (1, .ref q1), (0, .ref b)]) hx hb dL_law_17 rfl hl (by decide) rfl (fun ls hl => ?_)
  by_cases hL6 : L = 6
  · subst hL6
    exact law_body C0 hE hAe hK (hP.sub [0, 1, 2, 3, 4, 5, 6, 7, 8, 9, 10, 11, 12, 13, 14, 15, 16, 17, 18, 19, 20] rfl) (hD.sub [0, 1, 2, 3, 4, 5, 6, 7, 8, 9, 10, 11, 12, 13, 14, 15, 16, 17, 18, 19, 20] (by decide) rfl) hS hl
  · have hlt : L < 6 := by omega
    refine lv_iload_n hx hb dL_law_18 rfl (lv_at hl 0 rfl) ?_
    refine lv_aload_n hx hb dL_law_19 rfl (lv_at hl 3 rfl) ?_
    refine va_slen hx hb hX hbl hbA hS dL_law_20 ?_
    refine lv_bipush (v := 6) hx hb dL_law_21 (by decide) ?_
    refine lv_isub hx hb dL_law_23 ?_
    refine lv_icmp_gt (tgt := 1287) hx hb dL_law_24 (by decide) (fun _ => ?_) (fun cc => absurd (short_lt hlt) cc)
    refine lv_iconst (v := 1) hx hb dL_law_1287 (by decide) ?_
    refine va_forget (fun q hq => by have h9 := hS.2.2 q hq; rw [hAe] at h9; exact h9) ?_
    refine W.widen (k := 600000) (n := 7302250) (Nat.le_of_ble_eq_true rfl) (Nat.le_of_ble_eq_true rfl) ?_
    exact lw_ret hx hb hr hlocks dL_law_1288
