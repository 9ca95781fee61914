/-! own rows of p28: the reader's world -/
def rF (κ : CE) (σ : MS) : va_W := [(kA κ 0, .inr (4, [.ref (kA κ 1), .ref (kA κ 3), .int (σ.1 1), .int (σ.1 2)])), (kA κ 1, .inr (6, [.ref (kA κ 2), .int (σ.1 0), .int (σ.1 3), .int (σ.1 4), .int (σ.1 5), .long (σ.2.2.2 7), .int (σ.1 6)])), (kA κ 2, .inl (kC κ 2, 1000, .inl (σ.2.1 0))), (kA κ 3, .inr (3, [.ref (kA κ 4), .ref (kA κ 5), .ref (kA κ 6), .ref (kA κ 7), .ref (kA κ 8), .int (pI κ 0), .int (pI κ 1), .int (pI κ 2)])), (kA κ 4, .inl (kC κ 4, 2, .inr (.inr (.inr (.inr (pQ κ 0)))))), (kA κ 5, .inl (kC κ 5, 12, .inr (.inr (.inr (.inr (pQ κ 1)))))), (kA κ 6, .inl (kC κ 6, 4, .inl (pA κ 0))), (kA κ 7, .inl (kC κ 7, 4, .inl (pA κ 1))), (kA κ 8, .inl (kC κ 8, 4, .inl (pA κ 2)))]
def rW (κ : CE) (σ : MS) : va_W := rF κ σ ++ va_pl (kL κ) (kf κ)
def rT (κ : CE) : List (ClassId × FieldType) := [(kC κ 2, .byte), (kC κ 4, .object RX5), (kC κ 5, .object RX9), (kC κ 6, .int), (kC κ 7, .int), (kC κ 8, .int)]
theorem rpl {κ : CE} {σ : MS} {a : Nat} {e : va_E} (hm : a ∈ kL κ) (he : kf κ a = e) : ∃ k : Nat, (rW κ σ)[k]? = some (a, e) := by
  obtain ⟨k, h⟩ := va_pl_get (X := rF κ σ) (f := kf κ) hm
  exact ⟨k, by rw [← he]; exact h⟩
def loR : Nat → Int := fun k => match k with
  | 0 => 0
  | 3 => 0
  | 5 => 0
  | _ => -2147483648
def hiR : Nat → Int := fun k => match k with
  | 0 => 1000
  | 3 => 1000
  | 5 => 1000
  | _ => 2147483647
def RInv (σ : MS) : Prop := ∀ p, loR p ≤ (σ.1 p).toInt ∧ (σ.1 p).toInt ≤ hiR p
theorem RInv.sI {σ : MS} {k : Nat} {v : Int32} (h : RInv σ) (hv : loR k ≤ v.toInt ∧ v.toInt ≤ hiR k) : RInv (sI σ k v) := fun p => by
  show loR p ≤ (upd σ.1 k v p).toInt ∧ (upd σ.1 k v p).toInt ≤ hiR p
  by_cases e : p = k
  · subst e; rw [pk_us]; exact hv
  · rw [pk_un e]; exact h p
theorem RInv.sL {σ : MS} {k : Nat} {v : Int64} (h : RInv σ) : RInv (sL σ k v) := h
/-- the literals: how long, their bytes; where they stand in the Reader's file -/
def lS : List Nat := [4, 4, 103, 4, 5, 3, 4, 5, 4, 15, 4, 5, 4, 5, 6, 6, 3, 5, 3, 3, 5, 6, 3, 6]
def bS : List (List Int32) := [[114, 111, 119, 32], [101, 110, 100, 32], [114, 111, 119, 32, 104, 97, 115, 32, 102, 114, 111, 109, 32, 116, 111, 32, 115, 117, 109, 32, 111, 102, 32, 109, 111, 115, 116, 32, 97, 100, 100, 32, 108, 101, 115, 115, 32, 116, 105, 109, 101, 115, 32, 115, 99, 97, 108, 101, 32, 98, 121, 32, 111, 118, 101, 114, 32, 97, 116, 32, 112, 108, 97, 99, 101, 32, 112, 105, 99, 107, 32, 105, 102, 32, 117, 110, 100, 101, 114, 32, 101, 110, 100, 32, 111, 102, 102, 32, 110, 101, 118, 101, 114, 32, 109, 101, 97, 110, 32, 111, 110, 101, 32], [104, 97, 115, 32], [102, 114, 111, 109, 32], [116, 111, 32], [111, 102, 102, 32], [109, 101, 97, 110, 32], [111, 110, 101, 32], [110, 101, 118, 101, 114, 32, 109, 101, 97, 110, 32, 111, 110, 101, 32], [115, 117, 109, 32], [109, 111, 115, 116, 32], [97, 100, 100, 32], [108, 101, 115, 115, 32], [116, 105, 109, 101, 115, 32], [115, 99, 97, 108, 101, 32], [97, 116, 32], [112, 105, 99, 107, 32], [111, 102, 32], [98, 121, 32], [111, 118, 101, 114, 32], [112, 108, 97, 99, 101, 32], [105, 102, 32], [117, 110, 100, 101, 114, 32]]
def STL : List (Nat × String × Nat) := [(44, "row ", 0), (53, "end ", 1), (75, "row has from to sum of most add less times scale by over at place pick if under end off never mean one ", 2), (100, "has ", 3), (110, "from ", 4), (112, "to ", 5), (131, "off ", 6), (140, "mean ", 7), (142, "one ", 8), (144, "never mean one ", 9), (177, "sum ", 10), (179, "most ", 11), (181, "add ", 12), (183, "less ", 13), (185, "times ", 14), (187, "scale ", 15), (189, "at ", 16), (191, "pick ", 17), (194, "of ", 18), (207, "by ", 19), (212, "over ", 20), (217, "place ", 21), (222, "if ", 22), (227, "under ", 23)]
def Zs (adK adV : Nat → Nat) (A : Nat → Prop) (U : State) (H : Heap) : Prop := vk_S 24 lS bS adK adV A U H ∧ va_Z "java/lang/String" "COMPACT_STRINGS" "Z" (.int 1) A U H ∧ va_Zq "jdk/internal/util/Preconditions" "SIOOBE_FORMATTER" "Ljava/util/function/BiFunction;" A U H
theorem Zs.moved {adK adV : Nat → Nat} {A : Nat → Prop} {u U : State} {H : Heap} (hvm : u.vm.Alike U.vm) (h : Zs adK adV A u H) : Zs adK adV A U H := ⟨vk_S.moved hvm h.1, va_Z.moved hvm h.2.1, va_Zq.moved hvm h.2.2⟩
theorem Zs.kept {adK adV : Nat → Nat} {A : Nat → Prop} {U : State} {H H1 : Heap} (h : Zs adK adV A U H) (hq : ∀ a : Nat, a < H.size → ¬ A a → H1[a]? = H[a]?) : Zs adK adV A U H1 := ⟨h.1.kept hq, h.2.1.kept hq, h.2.2.kept hq⟩
theorem Zs.narrow {adK adV : Nat → Nat} {A B : Nat → Prop} {U : State} {H : Heap} (h : Zs adK adV A U H) (hAB : ∀ q, B q → A q) : Zs adK adV B U H := ⟨h.1.narrow hAB, h.2.1.narrow hAB, h.2.2.narrow hAB⟩
def Rs (adK : Nat → Nat) (U : State) : Prop := ∀ x ∈ STL, vk_R RX4 x.1 x.2.1 (adK x.2.2) U
theorem Rs.same {adK : Nat → Nat} {u U : State} (hv : U.vm = u.vm) (h : Rs adK u) : Rs adK U := fun x hx => vk_R.same hv (h x hx)
theorem Rs.warm {adK : Nat → Nat} {s U : State} (hW : s.WarmedH U.vm) (h : Rs adK s) : Rs adK U := fun x hx => vk_R.warm hW (h x hx)
def wSz (dC : Nat → ClassId) (dI : Nat → Nat → Nat) (adK adV : Nat → Nat) (sz : Nat) (U : State) : Prop := wSt dC dI [] [] sz U ∧ Zs adK adV (va_A [] sz) U U.heap
theorem preSz {s : State} {H : Heap} {dC : Nat → ClassId} {dI : Nat → Nat → Nat} {A : Nat → Prop} {tys : List (ClassId × FieldType)} {As : List Value} {adK adV : Nat → Nat} {locs : List Loc} (hK : va_K (dC, dI) vwCl tys s) (hE : Ex s) (hZ : Zs adK adV A s s.heap) (hS : va_S A s.heap H locs) (hA : ∀ q, s.heap.size ≤ q → A q) : PreS s H (va_Pc As (wSz dC dI adK adV H.size)) As :=
  ⟨fun a U g mk q => by
    obtain ⟨q0, ⟨q1, qP, qK, qD, qE⟩, qZ⟩ := q
    exact ⟨q0, ⟨q1, qP, va_K.moved (u := U) (U := U.calling g mk a) (Vm.Alike.refl U.vm) qK, qD, Ex.same (u := U) (U := U.calling g mk a) rfl (Vm.Alike.refl U.vm) qE⟩, Zs.moved (u := U) (U := U.calling g mk a) (Vm.Alike.refl U.vm) qZ⟩,
   fun U hU hW => ⟨rfl, ⟨by rw [hU], empP, va_K.moved hW.alike (hK.sub [] rfl), empD, hE.warm hW⟩, by
    rw [hU]
    exact ((Zs.moved hW.alike hZ).kept hS.2.1).narrow (fun q h => by
      rcases h with ⟨k, e, h⟩ | h
      · simp at h
      · exact hA q (Nat.le_trans hS.1 h))⟩⟩
theorem preVz {s : State} {H : Heap} {dC : Nat → ClassId} {dI : Nat → Nat → Nat} {A : Nat → Prop} {tys : List (ClassId × FieldType)} {As : List Value} {adK adV : Nat → Nat} {locs : List Loc} (hK : va_K (dC, dI) vwCl tys s) (hE : Ex s) (hZ : Zs adK adV A s s.heap) (hS : va_S A s.heap H locs) (hA : ∀ q, s.heap.size ≤ q → A q) {i : Nat} (hi : i < 24) : PreV s H RJ0 (adK i) (va_Pc (.ref (adK i) :: As) (wSz dC dI adK adV H.size)) As :=
  ⟨(preSz hK hE hZ hS hA).1, vk_recv hZ.1 hi hS, (preSz hK hE hZ hS hA).2⟩
def wSr (dC : Nat → ClassId) (dI : Nat → Nat → Nat) (adK adV : Nat → Nat) (ws : va_W) (tys : List (ClassId × FieldType)) (sz : Nat) (U : State) : Prop := wSy dC dI ws tys sz U ∧ Zs adK adV (va_A ws sz) U U.heap ∧ Rs adK U
theorem preSr {s : State} {H : Heap} {dC : Nat → ClassId} {dI : Nat → Nat → Nat} {A : Nat → Prop} {ws : va_W} {tys : List (ClassId × FieldType)} {As : List Value} {adK adV : Nat → Nat} {locs : List Loc} (hP : va_P (dC, dI) vwCl ws H) (hK : va_K (dC, dI) vwCl tys s) (hD : va_D A ws) (hE : Ey s) (hZ : Zs adK adV A s s.heap) (hR : Rs adK s) (hS : va_S A s.heap H locs) (hA : ∀ q, s.heap.size ≤ q → A q) : PreS s H (va_Pc As (wSr dC dI adK adV ws tys H.size)) As :=
  ⟨fun a U g mk q => by
    obtain ⟨q0, ⟨q1, qP, qK, qD, qE⟩, qZ, qR⟩ := q
    exact ⟨q0, ⟨q1, qP, va_K.moved (u := U) (U := U.calling g mk a) (Vm.Alike.refl U.vm) qK, qD, Ey.same (u := U) (U := U.calling g mk a) rfl (Vm.Alike.refl U.vm) qE⟩, Zs.moved (u := U) (U := U.calling g mk a) (Vm.Alike.refl U.vm) qZ, Rs.same (u := U) (U := U.calling g mk a) rfl qR⟩,
   fun U hU hW => ⟨rfl, ⟨by rw [hU], by rw [hU]; exact hP, va_K.moved hW.alike hK, hD.weaken (fun _ _ _ _ => trivial), hE.warm hW⟩, by
    rw [hU]
    exact ((Zs.moved hW.alike hZ).kept hS.2.1).narrow (free_all hD hS hA), hR.warm hW⟩⟩
theorem preVr {s : State} {H : Heap} {dC : Nat → ClassId} {dI : Nat → Nat → Nat} {A : Nat → Prop} {ws : va_W} {tys : List (ClassId × FieldType)} {b : Nat} {As : List Value} {adK adV : Nat → Nat} {locs : List Loc} (hP : va_P (dC, dI) vwCl ws H) (hK : va_K (dC, dI) vwCl tys s) (hD : va_D A ws) (hE : Ey s) (hZ : Zs adK adV A s s.heap) (hR : Rs adK s) (hS : va_S A s.heap H locs) (hA : ∀ q, s.heap.size ≤ q → A q) {ci q0 : Nat} {q : vw_C} {fs : List Value} (hc : vwCl[ci]? = some q) (he : ws[q0]? = some (b, .inr (ci, fs))) : PreV s H q.1 b (va_Pc (.ref b :: As) (wSr dC dI adK adV ws tys H.size)) As :=
  ⟨(preSr hP hK hD hE hZ hR hS hA).1, va_recv hK hP hc he, (preSr hP hK hD hE hZ hR hS hA).2⟩
section ZW
variable {p : Program} {l : Launch} {e : Env} {R : Room} {s : State} {m : MethodId} {args : Array Value} {below : List Frame} {meth : Method} {c : Code} {H : Heap} {locs : List Loc} {cells slots : Nat} {Q : State → Prop} {pc : Nat} {ls : Array Slot} {rest st0 : List Value} {a : Array Value} {A0 : Nat → Prop} {H0 : Heap} {mc ms : Nat} {dC : Nat → ClassId} {dI : Nat → Nat → Nat}
theorem zs_v {post : Prop} {ws : va_W}
    (hr : va_Run p l e R s m args below meth c H locs cells slots mc ms (F0 m pc ls st0) rest (va_Qv (fun (_ : Unit) => post) (fun _ => wEn dC dI (va_A [] H.size) [] []) (va_A [] H.size) a) (va_A [] H.size))
    (hP : va_P (dC, dI) vwCl ws H) (hD : va_D A0 ws) (hS : va_S A0 H0 H locs) (hA : ∀ q, H0.size ≤ q → A0 q)
    (kk : ∀ (H1 : Heap) (locs1 : List Loc), post → va_P (dC, dI) vwCl ws H1 → va_D A0 ws → va_S A0 H0 H1 locs1 → W p l e R s m args below meth c H1 locs1 (cells + mc) (slots + ms) Q (F0 m (pc + 3) ls rest)) : W p l e R s m args below meth c H locs cells slots Q (F0 m pc ls st0) := by
  have hF : ∀ q, va_A [] H.size q → H.size ≤ q := fun q h => by
    rcases h with ⟨k, e, h⟩ | h
    · simp at h
    · exact h
  refine va_callv hr hS (fun q h1 h => absurd (hF q h) (by omega)) (fun q h => hA q (Nat.le_trans hS.1 (hF q h))) (fun u t H1 locs1 ht hvm hw hB hz hk hS1 => ?_)
  exact kk H1 locs1 hw (hP.kept (fun k x hx => hk x.1 ((hP k x hx).lt) (fun h => absurd (hF _ h) (by have := (hP k x hx).lt; omega)))) hD hS1
/-- a call that answers an object or null -/
theorem zy_q {S : Type} {post : Option Nat → S → Prop} {ws : va_W} {w1 : S → va_W}
    (hr : va_Run p l e R s m args below meth c H locs cells slots mc ms (F0 m pc ls st0) rest (va_Qq post (fun u => wEn dC dI (va_A ws H.size) (w1 u) []) (va_A ws H.size) a) (va_A ws H.size))
    (hD : va_D A0 ws) (hS : va_S A0 H0 H locs) (hA : ∀ q, H0.size ≤ q → A0 q)
    (kk : ∀ (r : Option Nat) (u : S) (H1 : Heap) (locs1 : List Loc), post r u → va_P (dC, dI) vwCl (w1 u) H1 → va_D A0 (w1 u) → va_S A0 H0 H1 locs1 → W p l e R s m args below meth c H1 locs1 (cells + mc) (slots + ms) Q (F0 m (pc + 3) ls (va_rf r :: rest))) : W p l e R s m args below meth c H locs cells slots Q (F0 m pc ls st0) := by
  have hF := free_all hD hS hA
  refine va_callq hr hS (fun q _ h => hF q h) hF (fun r u t H1 locs1 ht hvm hw hB hz hk hS1 => ?_)
  obtain ⟨hP1, -, hD1⟩ := hB
  rw [ht] at hP1
  exact kk r u H1 locs1 hw hP1 (hD1.weaken (fun _ q _ h => hF q.1 h)) hS1
end ZW
theorem shr0 {n : Nat} (h : n < 2 ^ 31) : (Int32.ofNat n >>> ((0 : Int32) &&& 31)).toInt = n := by
  have e : (0 : Int32) &&& 31 = 0 := by decide
  rw [e]
  have e2 : Int32.ofNat n >>> (0 : Int32) = Int32.ofNat n := by
    apply Int32.toBitVec_inj.mp
    simp [Int32.toBitVec_shiftRight]
  rw [e2, Int32.toInt_ofNat_of_lt (by omega)]
theorem ofNat_ti {n : Nat} (h : n < 2 ^ 31) : (Int32.ofNat n).toInt = n := Int32.toInt_ofNat_of_lt (by omega)
theorem lS_lt (i : Nat) : lS.getD i 0 < 200 := by
  by_cases h : i < 24
  · have : ∀ j, j < 24 → lS.getD j 0 < 200 := by decide
    exact this i h
  · rw [List.getD_eq_getElem?_getD, List.getElem?_eq_none (by show 24 ≤ i; omega)]; decide
