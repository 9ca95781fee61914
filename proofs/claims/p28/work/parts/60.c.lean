theorem t_div {x y : Int64} {a b : Int} (hx : x.toInt = a) (hy : y.toInt = b) (hb : 0 < b) : (x / y).toInt = a.tdiv b := by
  have hv1 := Int64.le_toInt x
  have hv2 := Int64.toInt_lt x
  rw [Int64.toInt_div, hx, hy]
  apply Int.bmod_eq_of_le
  · rcases Int.le_total 0 a with hp | hp
    · have := Int.tdiv_nonneg hp (by omega : 0 ≤ b); omega
    · have q1 := Int.tdiv_nonneg (a := -a) (b := b) (by omega) (by omega)
      have q2 := Int.tdiv_le_self (a := -a) b (by omega)
      rw [Int.neg_tdiv] at q1 q2; omega
  · rcases Int.le_total 0 a with hp | hp
    · have := Int.tdiv_le_self (a := a) b hp; omega
    · have q1 := Int.tdiv_nonneg (a := -a) (b := b) (by omega) (by omega)
      rw [Int.neg_tdiv] at q1; omega
/-- cut towards 0: less than one off -/
theorem tdiv_bd {a b : Int} (hb : 0 < b) : b * a.tdiv b ≤ a + (b - 1) ∧ a - (b - 1) ≤ b * a.tdiv b ∧ (0 ≤ a → 0 ≤ a.tdiv b ∧ b * a.tdiv b ≤ a) ∧ (a ≤ 0 → a.tdiv b ≤ 0 ∧ a ≤ b * a.tdiv b) := by
  have hm := Int.mul_tdiv_add_tmod a b
  have a1 := Int.tmod_lt_of_pos a hb
  have a2 := Int.tmod_lt_of_pos (-a) hb
  rw [Int.neg_tmod] at a2
  refine ⟨by omega, by omega, fun p => ⟨Int.tdiv_nonneg p (by omega), ?_⟩, fun p => ⟨?_, ?_⟩⟩
  · have := Int.tmod_nonneg b p; omega
  · have := Int.tdiv_nonneg (a := -a) (b := b) (by omega) (by omega)
    rw [Int.neg_tdiv] at this; omega
  · have := Int.tmod_nonneg (a := -a) b (by omega); rw [Int.neg_tmod] at this; omega
/-- what a STEP of a ROW takes -/
theorem of_val {B j : Nat} {T : Nat → Nat → Int32} {nb : Bool} {fr : Nat → Int32} {base c bs by_ ha fa : Int32} {t : Nat} (hbs : bsF T nb base c = bs) (hby : byF T c = by_) (hha : hasF T (ofA B T j) c = ha) (hfa : farF T c = fa) (b1 : 1 ≤ by_.toInt ∧ by_.toInt ≤ 99) (f1 : 1 ≤ fa.toInt ∧ fa.toInt ≤ 6) (h6 : ha.toInt ≤ 6) (ht6 : t ≤ 6) (ht1 : 1 ≤ t) (ht : ∀ i : Nat, i < t → (i : Int) * fa.toInt < ha.toInt) (he : ha.toInt ≤ (t : Int) * fa.toInt)
    (hu : ∀ k : Nat, (k : Int) < ha.toInt → -999 ≤ (fr (bs.toNatClampNeg + 6 * (T 18 (12 * B + j)).toNatClampNeg + k)).toInt ∧ (fr (bs.toNatClampNeg + 6 * (T 18 (12 * B + j)).toNatClampNeg + k)).toInt ≤ 999) :
    ((T 17 (12 * B + j)).toInt = 1 → (ofF B T nb fr j base c).toInt = mxf (fun i => by_.toInt * ((fr (bs.toNatClampNeg + 6 * (T 18 (12 * B + j)).toNatClampNeg + i * fa.toNatClampNeg)).toInt / by_.toInt)) t) ∧
    ((T 17 (12 * B + j)).toInt = 0 → fa.toInt = 1 → (ofF B T nb fr j base c).toInt = sm (fun i => by_.toInt * ((fr (bs.toNatClampNeg + 6 * (T 18 (12 * B + j)).toNatClampNeg + i * fa.toNatClampNeg)).toInt / by_.toInt)) t) ∧
    ((T 17 (12 * B + j)).toInt = 0 → 1 < fa.toInt → (ofF B T nb fr j base c).toInt = (sm (fun i => by_.toInt * ((fr (bs.toNatClampNeg + 6 * (T 18 (12 * B + j)).toNatClampNeg + i * fa.toNatClampNeg)).toInt / by_.toInt)) t * ha.toInt).tdiv t) := by
  have qf := ti_cl (x := fa) rfl (by omega)
  have hk : ∀ i : Nat, i < t → ((i * fa.toNatClampNeg : Nat) : Int) < ha.toInt := fun i hi => by
    have := ht i hi; rw [Int.natCast_mul, qf]; exact this
  obtain ⟨k, s, m, n, e, hs, hm, hn, c1, c2⟩ := fold_fin (f := rowF fr bs (T 18 (12 * B + j)) by_) (has := ha) (far := fa) (F := fun i => by_.toInt * ((fr (bs.toNatClampNeg + 6 * (T 18 (12 * B + j)).toNatClampNeg + i * fa.toNatClampNeg)).toInt / by_.toInt)) (t := t) ⟨f1.1, by omega⟩ h6 ht6 ht he (fun i hi k hk9 => by
      have q := ti_cl (x := k) rfl (by rw [hk9]; exact Int.mul_nonneg (by omega) (by omega))
      have ek : k.toNatClampNeg = i * fa.toNatClampNeg := by
        have h8 : ((k.toNatClampNeg : Nat) : Int) = ((i * fa.toNatClampNeg : Nat) : Int) := by rw [q, hk9, Int.natCast_mul, qf]
        exact Int.ofNat.inj h8
      show (CO _ by_).toInt = _
      rw [ek]
      have hb := hu _ (hk i hi)
      exact (CO_val b1.1 b1.2 hb.1 hb.2).1) (fun i hi => by
      have hb := hu _ (hk i hi)
      have := CO_val (v := fr (bs.toNatClampNeg + 6 * (T 18 (12 * B + j)).toNatClampNeg + i * fa.toNatClampNeg)) (n := by_) b1.1 b1.2 hb.1 hb.2
      rw [← this.1]; omega)
  have eT : ofT B T nb fr j base c = (k, s, m, n) := by unfold ofT; rw [hbs, hby, hha, hfa]; exact e
  refine ⟨fun k1 => ?_, fun k0 f0 => ?_, fun k0 f0 => ?_⟩
  · rw [← of_m k1 eT]; exact hm
  · rw [← of_s (by omega) (by rw [hfa]; omega) eT]; exact hs
  · rw [← of_f (by omega) (by rw [hfa]; exact f0) eT, hha]
    have hh : 0 ≤ ha.toInt := by have := ht 0 (by omega); simp at this; omega
    have h9 := mul_abs (x := s.toInt) (y := ha.toInt) (a := 60000) (b := 6) (by omega) (by omega) (by omega) h6
    have e1 : (s * ha.toInt64).toInt = s.toInt * ha.toInt := t_mul rfl (tz_i2l ha) (by omega) (by omega)
    rw [t_div e1 (show n.toInt64.toInt = (t : Int) by rw [tz_i2l]; exact hn) (by omega), hs]
