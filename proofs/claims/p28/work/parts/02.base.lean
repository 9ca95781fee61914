/-! own rows: what every contract begins and ends with, calls in one row, numbers -/
/-- what the tables say beside the words: arrays of Row and Step, constructors of nest mates -/
def Ex (U : State) : Prop := va_AO RX5 U ∧ va_AO RX9 U ∧ va_Nw (.methodLinkNest RX11 25 yX3_init "NearEnough") U ∧ va_Nw (.methodLinkNest RX11 32 yX7_init "NearEnough") U ∧ va_Nw (.methodLinkNest RX11 39 yX0_init "NearEnough") U ∧ va_Nw (.methodLinkNest RX4 11 yX3_init "NearEnough") U
theorem Ex.ao5 {U : State} (h : Ex U) : va_AO RX5 U := h.1
theorem Ex.ao9 {U : State} (h : Ex U) : va_AO RX9 U := h.2.1
theorem Ex.nX11_25 {U : State} (h : Ex U) : va_Nw (.methodLinkNest RX11 25 yX3_init "NearEnough") U := h.2.2.1
theorem Ex.nX11_32 {U : State} (h : Ex U) : va_Nw (.methodLinkNest RX11 32 yX7_init "NearEnough") U := h.2.2.2.1
theorem Ex.nX11_39 {U : State} (h : Ex U) : va_Nw (.methodLinkNest RX11 39 yX0_init "NearEnough") U := h.2.2.2.2.1
theorem Ex.nX4_11 {U : State} (h : Ex U) : va_Nw (.methodLinkNest RX4 11 yX3_init "NearEnough") U := h.2.2.2.2.2
theorem Ex.same {u U : State} (hvm : u.vm = U.vm) (ha : u.vm.Alike U.vm) (h : Ex u) : Ex U :=
  ⟨va_AO.moved ha h.ao5, va_AO.moved ha h.ao9, va_Nw.same rfl hvm h.nX11_25, va_Nw.same rfl hvm h.nX11_32, va_Nw.same rfl hvm h.nX11_39, va_Nw.same rfl hvm h.nX4_11⟩
theorem Ex.warm {s U : State} (hW : s.WarmedH U.vm) (h : Ex s) : Ex U :=
  ⟨va_AO.moved hW.alike h.ao5, va_AO.moved hW.alike h.ao9, va_Nw.warmM hW h.nX11_25, va_Nw.warmM hW h.nX11_32, va_Nw.warmM hW h.nX11_39, va_Nw.warmM hW h.nX4_11⟩
def wSt (dC : Nat → ClassId) (dI : Nat → Nat → Nat) (ws : va_W) (tys : List (ClassId × FieldType)) (sz : Nat) (U : State) : Prop := U.heap.size = sz ∧ va_P (dC, dI) vwCl ws U.heap ∧ va_K (dC, dI) vwCl tys U ∧ va_D (fun _ => True) ws ∧ Ex U
def wEn (dC : Nat → ClassId) (dI : Nat → Nat → Nat) (A : Nat → Prop) (ws : va_W) (tys : List (ClassId × FieldType)) (t : State) : Prop := va_P (dC, dI) vwCl ws t.heap ∧ va_K (dC, dI) vwCl tys t ∧ va_D A ws
theorem wEn_of {dC : Nat → ClassId} {dI : Nat → Nat → Nat} {A : Nat → Prop} {ws : va_W} {tys : List (ClassId × FieldType)} {s t : State} {H : Heap} (hP : va_P (dC, dI) vwCl ws H) (hK : va_K (dC, dI) vwCl tys s) (hD : va_D A ws) (ht : t.heap = H) (hW : s.WarmedH t.vm) : wEn dC dI A ws tys t := ⟨by rw [ht]; exact hP, va_K.moved hW.alike hK, hD⟩
theorem preS {s : State} {H : Heap} {dC : Nat → ClassId} {dI : Nat → Nat → Nat} {A : Nat → Prop} {ws : va_W} {tys : List (ClassId × FieldType)} {As : List Value} (hP : va_P (dC, dI) vwCl ws H) (hK : va_K (dC, dI) vwCl tys s) (hD : va_D A ws) (hE : Ex s) : PreS s H (va_Pc As (wSt dC dI ws tys H.size)) As :=
  ⟨fun a U g mk q => by
    obtain ⟨q0, q1, qP, qK, qD, qE⟩ := q
    exact ⟨q0, q1, qP, va_K.moved (u := U) (U := U.calling g mk a) (Vm.Alike.refl U.vm) qK, qD, Ex.same (u := U) (U := U.calling g mk a) rfl (Vm.Alike.refl U.vm) qE⟩,
   fun U hU hW => ⟨rfl, by rw [hU], by rw [hU]; exact hP, va_K.moved hW.alike hK, hD.weaken (fun _ _ _ _ => trivial), hE.warm hW⟩⟩
theorem preV {s : State} {H : Heap} {dC : Nat → ClassId} {dI : Nat → Nat → Nat} {A : Nat → Prop} {ws : va_W} {tys : List (ClassId × FieldType)} {b : Nat} {As : List Value} (hP : va_P (dC, dI) vwCl ws H) (hK : va_K (dC, dI) vwCl tys s) (hD : va_D A ws) (hE : Ex s) {ci q0 : Nat} {q : vw_C} {fs : List Value} (hc : vwCl[ci]? = some q) (he : ws[q0]? = some (b, .inr (ci, fs))) : PreV s H q.1 b (va_Pc (.ref b :: As) (wSt dC dI ws tys H.size)) As :=
  ⟨(preS hP hK hD hE).1, va_recv hK hP hc he, (preS hP hK hD hE).2⟩
section ZZ
variable {p : Program} {l : Launch} {e : Env} {R : Room} {s : State} {m : MethodId} {args : Array Value} {below : List Frame} {meth : Method} {c : Code} {H : Heap} {locs : List Loc} {cells slots : Nat} {Q : State → Prop} {pc : Nat} {ls : Array Slot} {rest st0 : List Value} {a : Array Value} {A0 : Nat → Prop} {H0 : Heap} {mc ms : Nat} {dC : Nat → ClassId} {dI : Nat → Nat → Nat}
theorem zv {x v : Value} (h : x = v) (k : W p l e R s m args below meth c H locs cells slots Q (F0 m pc ls (v :: rest))) : W p l e R s m args below meth c H locs cells slots Q (F0 m pc ls (x :: rest)) := by rw [h]; exact k
theorem zi {x v : Int32} (h : x = v) (k : W p l e R s m args below meth c H locs cells slots Q (F0 m pc ls (.int v :: rest))) : W p l e R s m args below meth c H locs cells slots Q (F0 m pc ls (.int x :: rest)) := by rw [h]; exact k
theorem zl {x v : Int64} (h : x = v) (k : W p l e R s m args below meth c H locs cells slots Q (F0 m pc ls (.long v :: rest))) : W p l e R s m args below meth c H locs cells slots Q (F0 m pc ls (.long x :: rest)) := by rw [h]; exact k
theorem zH {D : va_G} {cl : List vw_C} {A : Nat → Prop} {ws : va_W} {g : JFrame} (h : ∀ H : Heap, va_P D cl ws H → va_S A s.heap H [] → W p l e R s m args below meth c H [] cells slots Q g) (hP : va_P D cl ws s.heap) : W p l e R s m args below meth c s.heap [] cells slots Q g := h s.heap hP va_S.rf
theorem zz_i {S : Type} {ans : Int32} {wc wr ws : va_W} {w1 : S → va_W} {ty1 : S → List (ClassId × FieldType)} {tys : List (ClassId × FieldType)}
    (hr : va_Run p l e R s m args below meth c H locs cells slots mc ms (F0 m pc ls st0) rest (va_Qi (fun (r : Int32) (_ : S) => r = ans) (fun u => wEn dC dI (va_A wc H.size) (w1 u) (ty1 u)) (va_A wc H.size) a) (va_A wc H.size))
    (hK : va_K (dC, dI) vwCl tys s) (hP : va_P (dC, dI) vwCl ws H) (hD : va_D A0 ws) (hS : va_S A0 H0 H locs) (hA : ∀ q, H0.size ≤ q → A0 q)
    (isC isR : List Nat) (hC : isC.map (fun i => ws[i]?) = wc.map some) (hR : isR.map (fun i => ws[i]?) = wr.map some) (hn : va_nd isR = true) (hdis : ∀ i ∈ isR, i ∉ isC)
    (kk : ∀ (u : S) (H1 : Heap) (locs1 : List Loc), va_K (dC, dI) vwCl (tys ++ ty1 u) s → va_P (dC, dI) vwCl (wr ++ w1 u) H1 → va_D A0 (wr ++ w1 u) → va_S A0 H0 H1 locs1 → W p l e R s m args below meth c H1 locs1 (cells + mc) (slots + ms) Q (F0 m (pc + 3) ls (.int ans :: rest))) : W p l e R s m args below meth c H locs cells slots Q (F0 m pc ls st0) := by
  have hF := va_free hD hS hA isC hC
  refine va_calli hr hS (fun q _ h => hF q h) hF (fun r u t H1 locs1 ht hvm hw hB hz hk hS1 => ?_)
  obtain ⟨hP1, hK1, hD1⟩ := hB
  rw [ht] at hP1
  obtain ⟨hP2, hD2⟩ := va_join hP hD isC isR hC hR hn hdis hk hF hP1 hD1
  have hw : r = ans := hw
  rw [hw]
  exact kk u H1 locs1 (hK.app (va_K.moved hvm.symm hK1)) hP2 hD2 hS1
theorem zz_l {S : Type} {ans : Int64} {wc wr ws : va_W} {w1 : S → va_W} {ty1 : S → List (ClassId × FieldType)} {tys : List (ClassId × FieldType)}
    (hr : va_Run p l e R s m args below meth c H locs cells slots mc ms (F0 m pc ls st0) rest (va_Ql (fun (r : Int64) (_ : S) => r = ans) (fun u => wEn dC dI (va_A wc H.size) (w1 u) (ty1 u)) (va_A wc H.size) a) (va_A wc H.size))
    (hK : va_K (dC, dI) vwCl tys s) (hP : va_P (dC, dI) vwCl ws H) (hD : va_D A0 ws) (hS : va_S A0 H0 H locs) (hA : ∀ q, H0.size ≤ q → A0 q)
    (isC isR : List Nat) (hC : isC.map (fun i => ws[i]?) = wc.map some) (hR : isR.map (fun i => ws[i]?) = wr.map some) (hn : va_nd isR = true) (hdis : ∀ i ∈ isR, i ∉ isC)
    (kk : ∀ (u : S) (H1 : Heap) (locs1 : List Loc), va_K (dC, dI) vwCl (tys ++ ty1 u) s → va_P (dC, dI) vwCl (wr ++ w1 u) H1 → va_D A0 (wr ++ w1 u) → va_S A0 H0 H1 locs1 → W p l e R s m args below meth c H1 locs1 (cells + mc) (slots + ms) Q (F0 m (pc + 3) ls (.long ans :: rest))) : W p l e R s m args below meth c H locs cells slots Q (F0 m pc ls st0) := by
  have hF := va_free hD hS hA isC hC
  refine va_calll hr hS (fun q _ h => hF q h) hF (fun r u t H1 locs1 ht hvm hw hB hz hk hS1 => ?_)
  obtain ⟨hP1, hK1, hD1⟩ := hB
  rw [ht] at hP1
  obtain ⟨hP2, hD2⟩ := va_join hP hD isC isR hC hR hn hdis hk hF hP1 hD1
  have hw : r = ans := hw
  rw [hw]
  exact kk u H1 locs1 (hK.app (va_K.moved hvm.symm hK1)) hP2 hD2 hS1
theorem zz_v {S : Type} {wc wr ws : va_W} {w1 : S → va_W} {ty1 : S → List (ClassId × FieldType)} {tys : List (ClassId × FieldType)}
    (hr : va_Run p l e R s m args below meth c H locs cells slots mc ms (F0 m pc ls st0) rest (va_Qv (fun (_ : S) => True) (fun u => wEn dC dI (va_A wc H.size) (w1 u) (ty1 u)) (va_A wc H.size) a) (va_A wc H.size))
    (hK : va_K (dC, dI) vwCl tys s) (hP : va_P (dC, dI) vwCl ws H) (hD : va_D A0 ws) (hS : va_S A0 H0 H locs) (hA : ∀ q, H0.size ≤ q → A0 q)
    (isC isR : List Nat) (hC : isC.map (fun i => ws[i]?) = wc.map some) (hR : isR.map (fun i => ws[i]?) = wr.map some) (hn : va_nd isR = true) (hdis : ∀ i ∈ isR, i ∉ isC)
    (kk : ∀ (u : S) (H1 : Heap) (locs1 : List Loc), va_K (dC, dI) vwCl (tys ++ ty1 u) s → va_P (dC, dI) vwCl (wr ++ w1 u) H1 → va_D A0 (wr ++ w1 u) → va_S A0 H0 H1 locs1 → W p l e R s m args below meth c H1 locs1 (cells + mc) (slots + ms) Q (F0 m (pc + 3) ls rest)) : W p l e R s m args below meth c H locs cells slots Q (F0 m pc ls st0) := by
  have hF := va_free hD hS hA isC hC
  refine va_callv hr hS (fun q _ h => hF q h) hF (fun u t H1 locs1 ht hvm hw hB hz hk hS1 => ?_)
  obtain ⟨hP1, hK1, hD1⟩ := hB
  rw [ht] at hP1
  obtain ⟨hP2, hD2⟩ := va_join hP hD isC isR hC hR hn hdis hk hF hP1 hD1
  exact kk u H1 locs1 (hK.app (va_K.moved hvm.symm hK1)) hP2 hD2 hS1
end ZZ
/-- whether a CHOICE can be, while there are no CHANGES -/
def tk (x : Int32) : Int32 := if x < 0 then 0 else if x < 1 then 1 else 0
theorem tk_neg {x : Int32} (h : x < 0) : tk x = 0 := by unfold tk; rw [if_pos h]
theorem tk_pos {x : Int32} (h : ¬ x < 0) (h1 : x < 1) : tk x = 1 := by unfold tk; rw [if_neg h, if_pos h1]
theorem tk_out {x : Int32} (h : ¬ x < 0) (h1 : ¬ x < 1) : tk x = 0 := by unfold tk; rw [if_neg h, if_neg h1]
theorem le_m1 {x : Int32} (h : x ≤ -1) : x < 0 := by
  have h1 : x.toInt ≤ (-1 : Int32).toInt := Int32.le_iff_toInt_le.mp h
  have h2 : (-1 : Int32).toInt = -1 := by decide
  have h3 : (0 : Int32).toInt = 0 := by decide
  exact Int32.lt_iff_toInt_lt.mpr (by omega)
theorem nlt_m1 {x : Int32} (h : ¬ -1 < x) : x < 0 := le_m1 (Int32.not_lt.mp h)
/-- whether a number is in a span -/
def isn (v a b : Int32) : Int32 := if v < a then 0 else if b < v then 0 else 1
theorem isn_lo {v a b : Int32} (h : v < a) : isn v a b = 0 := by unfold isn; rw [if_pos h]
theorem isn_hi {v a b : Int32} (h : ¬ v < a) (h1 : b < v) : isn v a b = 0 := by unfold isn; rw [if_neg h, if_pos h1]
theorem isn_in {v a b : Int32} (h : ¬ v < a) (h1 : ¬ b < v) : isn v a b = 1 := by unfold isn; rw [if_neg h, if_neg h1]
theorem isn_hi' {v a b : Int32} (h : ¬ v < a) (h1 : ¬ v ≤ b) : isn v a b = 0 := isn_hi h (Int32.not_le.mp h1)
theorem isn_in' {v a b : Int32} (h : ¬ v < a) (h1 : v ≤ b) : isn v a b = 1 := isn_in h (Int32.not_lt.mpr h1)
/-- what about(what) says while nothing is told -/
def abt (x : Int32) : Int32 := if x < 0 then -1 else if 7 < x then -1 else 0
theorem in_span {x M : Int32} {n : Nat} (hM : M.toInt = n) (h : ¬ x < 0) (h1 : ¬ M < x) : ∃ j : Nat, j ≤ n ∧ x = nI j := nI_of2 hM h (Int32.not_lt.mp h1)
theorem op1 {x : Int32} (h : ¬ (if tk x = 0 then (0 : Int32) else 1) = 0) : (if tk x = 0 then (0 : Int32) else 1) = 1 := by
  by_cases h1 : tk x = 0
  · rw [if_pos h1] at h; exact absurd rfl h
  · exact if_neg h1
theorem isn1 {v a b : Int32} (h : ¬ isn v a b = 0) : isn v a b = 1 := by
  by_cases h1 : v < a
  · exact absurd (isn_lo h1) h
  · by_cases h2 : b < v
    · exact absurd (isn_hi h1 h2) h
    · exact isn_in h1 h2
