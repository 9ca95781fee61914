section CAP
variable {B : Nat} {T : Nat → Nat → Int32} {J : Nat → Nat → Int64} {nb : Bool} {fr : Nat → Int32} {base c : Int32} {j : Nat} {pl cm L H : Nat → Int64}
/-- USUAL -/
theorem usu_snd (hs : StOk (T 17 (12 * B + j)).toInt (T 18 (12 * B + j)).toInt (T 19 (12 * B + j)).toInt (T 20 (12 * B + j)).toInt (T 21 (12 * B + j)).toInt (T 11 B).toInt j) (ih : ∀ i, i < j → Snd B J pl cm L H i) (h2 : OnK T c 2) (k : (T 17 (12 * B + j)).toInt = 7) :
    (shLo B T J L H c j).toInt ≤ (wkF B T nb fr cm j base c).toInt - (wkF B T nb fr pl j base (-1)).toInt ∧ (wkF B T nb fr cm j base c).toInt - (wkF B T nb fr pl j base (-1)).toInt ≤ (shHi B T J L H c j).toInt := by
  unfold StOk at hs
  obtain ⟨-, -, -, ha, hb, -, -⟩ := hs
  have a := ha (by omega); have b := hb (by omega)
  have s1 := ih _ (cl_lt a.1 a.2); have s2 := ih _ (cl_lt b.1 b.2)
  unfold Snd at s1 s2
  obtain ⟨A, eA⟩ : ∃ A, A = (T 18 (12 * B + j)).toNatClampNeg := ⟨_, rfl⟩
  obtain ⟨D, eD⟩ : ∃ D, D = (T 19 (12 * B + j)).toNatClampNeg := ⟨_, rfl⟩
  rw [← eA] at s1
  rw [← eD] at s2
  rw [(sh_2 h2).1, (sh_2 h2).2, wk_7 k, wk_7 k, if_neg m1_ng, if_pos h2, ← eA, ← eD]
  have o1 : (ovLo B J L D A).toInt = (J 27 (12 * B + D)).toInt + (L D).toInt - (J 28 (12 * B + A)).toInt := t_sub (t_add rfl rfl (by omega) (by omega)) rfl (by omega) (by omega)
  have o2 : (ovLo B J L A D).toInt = (J 27 (12 * B + A)).toInt + (L A).toInt - (J 28 (12 * B + D)).toInt := t_sub (t_add rfl rfl (by omega) (by omega)) rfl (by omega) (by omega)
  have o3 : (ovHi B J H D A).toInt = (J 28 (12 * B + D)).toInt + (H D).toInt - (J 27 (12 * B + A)).toInt := t_sub (t_add rfl rfl (by omega) (by omega)) rfl (by omega) (by omega)
  have o4 : (ovHi B J H A D).toInt = (J 28 (12 * B + A)).toInt + (H A).toInt - (J 27 (12 * B + D)).toInt := t_sub (t_add rfl rfl (by omega) (by omega)) rfl (by omega) (by omega)
  have l1 := t_ls (L A) (ovLo B J L A D)
  have l2 := t_ls (L D) (ovLo B J L D A)
  have g1 := t_gt (H A) (ovHi B J H A D)
  have g2 := t_gt (H D) (ovHi B J H D A)
  by_cases z : (T 35 c.toNatClampNeg).toInt = 0 <;> by_cases y : pl (T 20 (12 * B + j)).toNatClampNeg < pl (T 21 (12 * B + j)).toNatClampNeg
  · rw [if_pos z, if_pos z, if_pos z, if_pos y]; omega
  · rw [if_pos z, if_pos z, if_pos z, if_neg y]; omega
  · rw [if_neg z, if_neg z, if_neg z, if_pos y]; omega
  · rw [if_neg z, if_neg z, if_neg z, if_neg y]; omega
/-- a STEP's ERROR is within what is SHOWN -/
theorem ca_snd (hs : StOk (T 17 (12 * B + j)).toInt (T 18 (12 * B + j)).toInt (T 19 (12 * B + j)).toInt (T 20 (12 * B + j)).toInt (T 21 (12 * B + j)).toInt (T 11 B).toInt j) (hr : RwT B T) (hn : NumR B T nb fr base) (hv : SpnV B (12 * B + j) T J (J 27 (12 * B + j)) (J 28 (12 * B + j))) (b7 : -1000000000 ≤ (J 27 (12 * B + j)).toInt) (b8 : (J 28 (12 * B + j)).toInt ≤ 1000000000) (ih : ∀ i, i < j → Snd B J pl cm L H i) (hf : FitC B T j c) (hok : shOk B T L H c j) (bl : -1000000000 ≤ (shLo B T J L H c j).toInt) (bh : (shHi B T J L H c j).toInt ≤ 1000000000) :
    (shLo B T J L H c j).toInt ≤ (caV B T J c j (wkF B T nb fr cm j base c)).toInt - (wkF B T nb fr pl j base (-1)).toInt ∧ (caV B T J c j (wkF B T nb fr cm j base c)).toInt - (wkF B T nb fr pl j base (-1)).toInt ≤ (shHi B T J L H c j).toInt := by
  have hp := wk_pl hs hr hn hv (fun i hi => (ih i hi).p)
  unfold caV
  by_cases h4 : OnK T c 4
  · rw [if_pos h4]
    rw [(sh_4 h4).1, (sh_4 h4).2]
    have e1 : (J 27 (12 * B + j) + J 28 (12 * B + j)).toInt = (J 27 (12 * B + j)).toInt + (J 28 (12 * B + j)).toInt := t_add rfl rfl (by omega) (by omega)
    have e2 : (FO (J 27 (12 * B + j) + J 28 (12 * B + j)) 2).toInt = ((J 27 (12 * B + j)).toInt + (J 28 (12 * B + j)).toInt) / 2 := by rw [FO_val (by decide), e1]; rfl
    rw [t_sub e2 rfl (by omega) (by omega), t_sub e2 rfl (by omega) (by omega), e2]
    omega
  · rw [if_neg h4]
    have hsp : spOk B T L H j := hok.elim (fun z => absurd z h4) (fun z => z)
    have ft := hf.2.2
    unfold FitK at ft
    by_cases h1 : OnK T c 1
    · rw [if_pos h1]
      have f1 := (ft h1.1).2.1 h1.2
      have sp := spr_snd (J := J) hs hr hn ih hsp (on_ne h1 (by decide)) (on_ne h1 (by decide)) (on_ne h1 (by decide)) (on_ne h1 (by decide)) (on_ne h1 (by decide))
      have g := shF_bd f1.1 f1.2
      have eg : (shF (T 35 c.toNatClampNeg) - 1).toInt = (shF (T 35 c.toNatClampNeg)).toInt - 1 := t_sub rfl o64 (by omega) (by omega)
      rw [(sh_1 h1).1, t_sub rfl eg (by omega) (by omega)] at bl
      rw [(sh_1 h1).2] at bh
      rw [(sh_1 h1).1, (sh_1 h1).2, t_sub rfl eg (by omega) (by omega)]
      obtain ⟨W, eW⟩ : ∃ W, W = wkF B T nb fr cm j base c := ⟨_, rfl⟩
      rw [← eW] at sp ⊢
      have hd := Int.mul_ediv_add_emod W.toInt (shF (T 35 c.toNatClampNeg)).toInt
      have he1 := Int.emod_nonneg W.toInt (show (shF (T 35 c.toNatClampNeg)).toInt ≠ 0 by omega)
      have he2 := Int.emod_lt_of_pos W.toInt (show 0 < (shF (T 35 c.toNatClampNeg)).toInt by omega)
      have e3 : (FO W (shF (T 35 c.toNatClampNeg)) * shF (T 35 c.toNatClampNeg)).toInt = (W.toInt / (shF (T 35 c.toNatClampNeg)).toInt) * (shF (T 35 c.toNatClampNeg)).toInt := t_mul (FO_val (by omega)) rfl (by rw [Int.mul_comm]; omega) (by rw [Int.mul_comm]; omega)
      rw [e3, Int.mul_comm]
      omega
    · rw [if_neg h1]
      by_cases h0 : OnK T c 0
      · have f := (ft h0.1).1 h0.2
        exact ski_snd hs hr hn hv h0 f.1 f.2
      · by_cases h2 : OnK T c 2
        · exact usu_snd hs ih h2 ((ft h2.1).2.2.1 h2.2).1
        · by_cases h3 : OnK T c 3
          · have f := (ft h3.1).2.2.2.1 h3.2
            exact coa_snd hs hr hn ih hsp h3 f.1 f.2
          · by_cases h5 : OnK T c 5
            · have f := (ft h5.1).2.2.2.2.2.1 h5.2
              exact sho_snd hs hr hn h5 f.1 f.2
            · by_cases h6 : OnK T c 6
              · have f := (ft h6.1).2.2.2.2.2.2 h6.2
                exact old_snd hs hr hn h6 f.1
              · have sp := spr_snd (J := J) hs hr hn ih hsp h0 h2 h3 h5 h6
                have e1 : shLo B T J L H c j = spLo B T J L H j := by unfold shLo; rw [if_neg h4, if_neg h0, if_neg h1, if_neg h2, if_neg h5, if_neg h6, if_neg h3]
                have e2 : shHi B T J L H c j = spHi B T J L H j := by unfold shHi; rw [if_neg h4, if_neg h0, if_neg h2, if_neg h5, if_neg h6]
                rw [e1, e2]; exact sp.1
end CAP
theorem caF_v {B : Nat} {T : Nat → Nat → Int32} {J : Nat → Nat → Int64} {nb : Bool} {fr on : Nat → Int32} {cm : Nat → Int64} {j : Nat} {base : Int32} : caF B T J nb fr on cm j base = caV B T J (on j) j (wkF B T nb fr cm j base (on j)) := rfl
/-- SOUND: all STEPS -/
theorem all_snd {B : Nat} {T : Nat → Nat → Int32} {J : Nat → Nat → Int64} {nb : Bool} {fr on : Nat → Int32} {base : Int32} {n : Nat} {pl cm L H : Nat → Int64} (hs : StT B T n) (hr : RwT B T) (hn : NumR B T nb fr base) (hv : ∀ j, j < n → SpnV B (12 * B + j) T J (J 27 (12 * B + j)) (J 28 (12 * B + j)) ∧ -1000000000 ≤ (J 27 (12 * B + j)).toInt ∧ (J 28 (12 * B + j)).toInt ≤ 1000000000) (hf : ∀ j, j < n → FitC B T j (on j)) (hp : PlR B T nb fr base n pl) (hc : CaR B T J nb fr on base n cm) (hsh : ShR B T J on n L H) : ∀ j, j < n → Snd B J pl cm L H j := by
  intro j
  induction j using Nat.strongRecOn with
  | _ j ih =>
    intro hj
    have ih' : ∀ i, i < j → Snd B J pl cm L H i := fun i hi => ih i hi (by omega)
    have v := hv j hj
    have s := hsh j hj
    have e1 := hp j hj
    have e2 := hc j hj
    rw [caF_v] at e2
    have a1 := wk_pl (hs j hj) hr hn v.1 (fun i hi => (ih' i hi).p)
    rw [← e1] at a1
    have a2 := ca_snd (nb := nb) (fr := fr) (base := base) (hs j hj) hr hn v.1 v.2.1 v.2.2 ih' (hf j hj) s.1 (by rw [← s.2.1]; exact s.2.2.2.1) (by rw [← s.2.2.1]; exact s.2.2.2.2)
    rw [← e1, ← e2, ← s.2.1, ← s.2.2.1] at a2
    exact ⟨a1.1, a1.2, a2.1, a2.2, v.2.1, v.2.2, s.2.2.2.1, s.2.2.2.2⟩
