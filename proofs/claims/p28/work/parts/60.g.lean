theorem z64 : (0 : Int64).toInt = 0 := by decide
theorem o64 : (1 : Int64).toInt = 1 := by decide
theorem ners_eq {B : Nat} {J : Nat → Nat → Int64} {pl cm L H : Nat → Int64} {i : Nat} (h : ¬ Ers L H i) (s : Snd B J pl cm L H i) : cm i = pl i := by
  have h1 : L i = 0 ∧ H i = 0 := Decidable.not_not.mp h
  unfold Snd at s
  rw [h1.1, h1.2, z64] at s
  exact Int64.toInt_inj.mp (by omega)
/-- a product's ERROR -/
theorem err_mul {p q u v : Int} : (p + u) * (q + v) - p * q = p * v + q * u + u * v := by
  rw [Int.add_mul, Int.mul_add, Int.mul_add, Int.mul_comm u q]; omega
/-- cut towards 0 on both sides: less than two off -/
theorem scale_lo {a b d n m : Int} (hn : 0 < n) (hd : a - b = d) (hm : m ≤ d) : m / n - 1 ≤ a.tdiv n - b.tdiv n := by
  have h1 := tdiv_bd (a := a) hn
  have h2 := tdiv_bd (a := b) hn
  have h3 := Int.mul_ediv_add_emod m n
  have h4 := Int.emod_nonneg m (show n ≠ 0 by omega)
  have e1 : n * (m / n - 2) = n * (m / n) - 2 * n := by rw [Int.mul_sub]; omega
  have e2 : n * (a.tdiv n - b.tdiv n) = n * a.tdiv n - n * b.tdiv n := Int.mul_sub _ _ _
  have : n * (m / n - 2) < n * (a.tdiv n - b.tdiv n) := by omega
  have := Int.lt_of_mul_lt_mul_left this (by omega)
  omega
theorem scale_hi {a b d n m : Int} (hn : 0 < n) (hd : a - b = d) (hm : d ≤ m) : a.tdiv n - b.tdiv n ≤ 1 - (-m) / n := by
  have := scale_lo (a := b) (b := a) (d := -d) (m := -m) hn (by omega) (by omega)
  omega
section CAM
variable {B : Nat} {T : Nat → Nat → Int32} {J : Nat → Nat → Int64} {nb : Bool} {fr : Nat → Int32} {base c : Int32} {j : Nat} {pl cm L H : Nat → Int64}
theorem spr_snd (hs : StOk (T 17 (12 * B + j)).toInt (T 18 (12 * B + j)).toInt (T 19 (12 * B + j)).toInt (T 20 (12 * B + j)).toInt (T 21 (12 * B + j)).toInt (T 11 B).toInt j) (hr : RwT B T) (hn : NumR B T nb fr base) (ih : ∀ i, i < j → Snd B J pl cm L H i) (hok : spOk B T L H j) (h0 : ¬ OnK T c 0) (h2 : ¬ OnK T c 2) (h3 : ¬ OnK T c 3) (h5 : ¬ OnK T c 5) (h6 : ¬ OnK T c 6) :
    ((spLo B T J L H j).toInt ≤ (wkF B T nb fr cm j base c).toInt - (wkF B T nb fr pl j base (-1)).toInt ∧ (wkF B T nb fr cm j base c).toInt - (wkF B T nb fr pl j base (-1)).toInt ≤ (spHi B T J L H j).toInt) ∧ -4000000000000000000 ≤ (spLo B T J L H j).toInt ∧ (spHi B T J L H j).toInt ≤ 4000000000000000000 := by
  have hk : (T 17 (12 * B + j)).toInt = 0 ∨ (T 17 (12 * B + j)).toInt = 1 ∨ (T 17 (12 * B + j)).toInt = 2 ∨ (T 17 (12 * B + j)).toInt = 3 ∨ (T 17 (12 * B + j)).toInt = 4 ∨ (T 17 (12 * B + j)).toInt = 5 ∨ (T 17 (12 * B + j)).toInt = 6 ∨ (T 17 (12 * B + j)).toInt = 7 := by unfold StOk at hs; omega
  have hs' := hs
  unfold StOk at hs'
  obtain ⟨-, -, -, ha, hb, w5, hcd⟩ := hs'
  rcases hk with k | k | k | k | k | k | k | k
  · obtain ⟨r1, r2, r3, r4, r5, r6⟩ := row_ctx hs hr (Or.inl k)
    have hu : ∀ i : Nat, (i : Int) < (ofA B T j).toInt → -999 ≤ uX fr base (aX B T j) i ∧ uX fr base (aX B T j) i ≤ 999 := fun i hi => ⟨Int.le_trans r4 (hn _ r1 i hi).1.1, Int.le_trans (hn _ r1 i hi).1.2 r6⟩
    have e1 := (of_neu (nb := nb) (fr := fr) (base := base) (c := -1) ⟨r2, r3⟩ hu m1_ng m1_ng m1_ng m1_ng).2 k
    have e2 := (of_neu (nb := nb) (fr := fr) (base := base) (c := c) ⟨r2, r3⟩ hu h0 h3 h5 h6).2 k
    rw [(sp_0 (Or.inl k)).1, (sp_0 (Or.inl k)).2, wk_0 (Or.inl k), wk_0 (Or.inl k), e1, e2, z64]; omega
  · obtain ⟨r1, r2, r3, r4, r5, r6⟩ := row_ctx hs hr (Or.inr (Or.inl k))
    have hu : ∀ i : Nat, (i : Int) < (ofA B T j).toInt → -999 ≤ uX fr base (aX B T j) i ∧ uX fr base (aX B T j) i ≤ 999 := fun i hi => ⟨Int.le_trans r4 (hn _ r1 i hi).1.1, Int.le_trans (hn _ r1 i hi).1.2 r6⟩
    have e1 := (of_neu (nb := nb) (fr := fr) (base := base) (c := -1) ⟨r2, r3⟩ hu m1_ng m1_ng m1_ng m1_ng).1 k
    have e2 := (of_neu (nb := nb) (fr := fr) (base := base) (c := c) ⟨r2, r3⟩ hu h0 h3 h5 h6).1 k
    rw [(sp_0 (Or.inr (Or.inl k))).1, (sp_0 (Or.inr (Or.inl k))).2, wk_0 (Or.inr k), wk_0 (Or.inr k), e1, e2, z64]; omega
  · have a := ha (by omega); have b := hb (by omega)
    have s1 := ih _ (cl_lt a.1 a.2); have s2 := ih _ (cl_lt b.1 b.2)
    unfold Snd at s1 s2
    rw [(sp_2 k).1, (sp_2 k).2, wk_2 k, wk_2 k, t_add rfl rfl (by omega) (by omega), t_add rfl rfl (by omega) (by omega), t_add rfl rfl (by omega) (by omega), t_add rfl rfl (by omega) (by omega)]
    omega
  · have a := ha (by omega); have b := hb (by omega)
    have s1 := ih _ (cl_lt a.1 a.2); have s2 := ih _ (cl_lt b.1 b.2)
    unfold Snd at s1 s2
    rw [(sp_3 k).1, (sp_3 k).2, wk_3 k, wk_3 k, t_sub rfl rfl (by omega) (by omega), t_sub rfl rfl (by omega) (by omega), t_sub rfl rfl (by omega) (by omega), t_sub rfl rfl (by omega) (by omega)]
    omega
  · have a := ha (by omega); have b := hb (by omega)
    have s1 := ih _ (cl_lt a.1 a.2); have s2 := ih _ (cl_lt b.1 b.2)
    unfold Snd at s1 s2
    obtain ⟨A, eA⟩ : ∃ A, A = (T 18 (12 * B + j)).toNatClampNeg := ⟨_, rfl⟩
    obtain ⟨D, eD⟩ : ∃ D, D = (T 19 (12 * B + j)).toNatClampNeg := ⟨_, rfl⟩
    rw [← eA] at s1
    rw [← eD] at s2
    rw [(sp_4 k).1, (sp_4 k).2, wk_4 k, wk_4 k, ← eA, ← eD]
    have Q9 : ∀ x y : Int64, -1000000000 ≤ x.toInt → x.toInt ≤ 1000000000 → -1000000000 ≤ y.toInt → y.toInt ≤ 1000000000 → (x * y).toInt = x.toInt * y.toInt ∧ -1000000000000000000 ≤ x.toInt * y.toInt ∧ x.toInt * y.toInt ≤ 1000000000000000000 := fun x y h1 h2 h3 h4 => by
      have := mul_abs (x := x.toInt) (y := y.toInt) (a := 1000000000) (b := 1000000000) h1 h2 h3 h4
      exact ⟨t_mul rfl rfl (by omega) (by omega), by omega, by omega⟩
    have bx : ∀ (x y p q r t : Int64) (X Y : Int), p.toInt ≤ X → X ≤ q.toInt → r.toInt ≤ Y → Y ≤ t.toInt → -1000000000 ≤ p.toInt → q.toInt ≤ 1000000000 → -1000000000 ≤ r.toInt → t.toInt ≤ 1000000000 → ((lo4 (p * r) (p * t) (q * r) (q * t)).toInt ≤ X * Y ∧ X * Y ≤ (hi4 (p * r) (p * t) (q * r) (q * t)).toInt) ∧ -1000000000000000000 ≤ (lo4 (p * r) (p * t) (q * r) (q * t)).toInt ∧ (lo4 (p * r) (p * t) (q * r) (q * t)).toInt ≤ 1000000000000000000 ∧ -1000000000000000000 ≤ (hi4 (p * r) (p * t) (q * r) (q * t)).toInt ∧ (hi4 (p * r) (p * t) (q * r) (q * t)).toInt ≤ 1000000000000000000 := fun _ _ p q r t X Y h1 h2 h3 h4 b1 b2 b3 b4 => by
      have m1 := Q9 p r (by omega) (by omega) (by omega) (by omega)
      have m2 := Q9 p t (by omega) (by omega) (by omega) (by omega)
      have m3 := Q9 q r (by omega) (by omega) (by omega) (by omega)
      have m4 := Q9 q t (by omega) (by omega) (by omega) (by omega)
      have l := t_lo4 (p * r) (p * t) (q * r) (q * t)
      have g := t_hi4 (p * r) (p * t) (q * r) (q * t)
      rw [m1.1, m2.1, m3.1, m4.1] at l g
      exact ⟨mul_box h1 h2 h3 h4 l.1 l.2.1 l.2.2.1 l.2.2.2.1 g.1 g.2.1 g.2.2.1 g.2.2.2.1, by omega, by omega, by omega, by omega⟩
    have c1 := bx 0 0 (J 27 (12 * B + A)) (J 28 (12 * B + A)) (L D) (H D) (pl A).toInt ((cm D).toInt - (pl D).toInt) (by omega) (by omega) (by omega) (by omega) (by omega) (by omega) (by omega) (by omega)
    have c2 := bx 0 0 (J 27 (12 * B + D)) (J 28 (12 * B + D)) (L A) (H A) (pl D).toInt ((cm A).toInt - (pl A).toInt) (by omega) (by omega) (by omega) (by omega) (by omega) (by omega) (by omega) (by omega)
    have c3 := bx 0 0 (L A) (H A) (L D) (H D) ((cm A).toInt - (pl A).toInt) ((cm D).toInt - (pl D).toInt) (by omega) (by omega) (by omega) (by omega) (by omega) (by omega) (by omega) (by omega)
    have e1 : (cm A * cm D).toInt = (cm A).toInt * (cm D).toInt := by
      have := mul_abs (x := (cm A).toInt) (y := (cm D).toInt) (a := 2000000000) (b := 2000000000) (by omega) (by omega) (by omega) (by omega)
      exact t_mul rfl rfl (by omega) (by omega)
    have e2 : (pl A * pl D).toInt = (pl A).toInt * (pl D).toInt := (Q9 _ _ (by omega) (by omega) (by omega) (by omega)).1
    have e3 := err_mul (p := (pl A).toInt) (q := (pl D).toInt) (u := (cm A).toInt - (pl A).toInt) (v := (cm D).toInt - (pl D).toInt)
    rw [show (pl A).toInt + ((cm A).toInt - (pl A).toInt) = (cm A).toInt by omega, show (pl D).toInt + ((cm D).toInt - (pl D).toInt) = (cm D).toInt by omega] at e3
    rw [e1, e2, e3]
    unfold tmLo tmHi
    rw [t_add (t_add rfl rfl (by omega) (by omega)) rfl (by omega) (by omega), t_add (t_add rfl rfl (by omega) (by omega)) rfl (by omega) (by omega)]
    omega
  · have a := ha (by omega)
    have s1 := ih _ (cl_lt a.1 a.2)
    have v5 := w5 k
    by_cases e : Ers L H (T 18 (12 * B + j)).toNatClampNeg
    · unfold Snd at s1
      rw [(sp_5y k e).1, (sp_5y k e).2, wk_5 k, wk_5 k]
      obtain ⟨A, eA⟩ : ∃ A, A = (T 18 (12 * B + j)).toNatClampNeg := ⟨_, rfl⟩
      rw [← eA] at s1
      rw [← eA]
      obtain ⟨V, eV⟩ : ∃ V, V = (T 19 (12 * B + j)).toInt := ⟨_, rfl⟩
      obtain ⟨N, eN⟩ : ∃ N, N = (T 20 (12 * B + j)).toInt := ⟨_, rfl⟩
      rw [← eV, ← eN] at v5
      have tV : (T 19 (12 * B + j)).toInt64.toInt = V := by rw [tz_i2l, eV]
      have tN : (T 20 (12 * B + j)).toInt64.toInt = N := by rw [tz_i2l, eN]
      have Q9 : ∀ x : Int64, -2000000000 ≤ x.toInt → x.toInt ≤ 2000000000 → (x * (T 19 (12 * B + j)).toInt64).toInt = x.toInt * V ∧ -200000000000 ≤ x.toInt * V ∧ x.toInt * V ≤ 200000000000 := fun x h1 h2 => by
        have := mul_abs (x := x.toInt) (y := V) (a := 2000000000) (b := 99) h1 h2 (by omega) (by omega)
        exact ⟨t_mul rfl tV (by omega) (by omega), by omega, by omega⟩
      have q1 := Q9 (cm A) (by omega) (by omega)
      have q2 := Q9 (pl A) (by omega) (by omega)
      have q3 := Q9 (L A) (by omega) (by omega)
      have q4 := Q9 (H A) (by omega) (by omega)
      have l := t_ls (L A * (T 19 (12 * B + j)).toInt64) (H A * (T 19 (12 * B + j)).toInt64)
      have g := t_gt (L A * (T 19 (12 * B + j)).toInt64) (H A * (T 19 (12 * B + j)).toInt64)
      rw [q3.1, q4.1] at l g
      have dd : (cm A).toInt * V - (pl A).toInt * V = ((cm A).toInt - (pl A).toInt) * V := (Int.sub_mul _ _ _).symm
      have bb := mul_le1 (y := V) s1.2.2.1 s1.2.2.2.1
      rw [t_div q1.1 tN (by omega), t_div q2.1 tN (by omega)]
      have f1 : (FO (ls2 (L A * (T 19 (12 * B + j)).toInt64) (H A * (T 19 (12 * B + j)).toInt64)) (T 20 (12 * B + j)).toInt64).toInt = (ls2 (L A * (T 19 (12 * B + j)).toInt64) (H A * (T 19 (12 * B + j)).toInt64)).toInt / N := by rw [FO_val (by omega), tN]
      have ng : (-(gt2 (L A * (T 19 (12 * B + j)).toInt64) (H A * (T 19 (12 * B + j)).toInt64))).toInt = -(gt2 (L A * (T 19 (12 * B + j)).toInt64) (H A * (T 19 (12 * B + j)).toInt64)).toInt := t_neg rfl (by omega) (by omega)
      have f2 : (FO (-(gt2 (L A * (T 19 (12 * B + j)).toInt64) (H A * (T 19 (12 * B + j)).toInt64))) (T 20 (12 * B + j)).toInt64).toInt = (-(gt2 (L A * (T 19 (12 * B + j)).toInt64) (H A * (T 19 (12 * B + j)).toInt64)).toInt) / N := by rw [FO_val (by omega), tN, ng]
      have bd : ∀ x : Int, -200000000000 ≤ x → x ≤ 200000000000 → -400000000000 ≤ x / N ∧ x / N ≤ 400000000000 := fun x h1 h2 => by
        have g1 := Int.mul_ediv_add_emod x N
        have g2 := Int.emod_nonneg x (show N ≠ 0 by omega)
        have g3 := Int.emod_lt_of_pos x (show 0 < N by omega)
        rcases Int.le_total 0 (x / N) with z | z
        · have : 1 * (x / N) ≤ N * (x / N) := Int.mul_le_mul_of_nonneg_right (by omega) z
          omega
        · have : N * (x / N) ≤ 1 * (x / N) := Int.mul_le_mul_of_nonpos_right (by omega) z
          omega
      have b1 := bd _ (show -200000000000 ≤ (ls2 (L A * (T 19 (12 * B + j)).toInt64) (H A * (T 19 (12 * B + j)).toInt64)).toInt by omega) (by omega)
      have b2 := bd _ (show -200000000000 ≤ -(gt2 (L A * (T 19 (12 * B + j)).toInt64) (H A * (T 19 (12 * B + j)).toInt64)).toInt by omega) (by omega)
      rw [t_sub f1 o64 (by omega) (by omega), t_sub o64 f2 (by omega) (by omega)]
      exact ⟨⟨scale_lo (by omega) dd (by omega), scale_hi (by omega) dd (by omega)⟩, by omega, by omega⟩
    · have ec := ners_eq e s1
      rw [(sp_5n k e).1, (sp_5n k e).2, wk_5 k, wk_5 k, ec, z64]; omega
  · have b := hb (by omega)
    have s2 := ih _ (cl_lt b.1 b.2)
    have ec := ners_eq (hok k) s2
    rw [(sp_0 (Or.inr (Or.inr k))).1, (sp_0 (Or.inr (Or.inr k))).2, wk_6 k, wk_6 k, ec, ← bs_n (T := T) (nb := nb) (base := base) (c := -1) (fun z => m1_ng z.1), ← by_n (T := T) (c := -1) m1_ng, ← bs_n (T := T) (nb := nb) (base := base) (c := c) (fun z => h6 z.1), ← by_n (T := T) (c := c) h3, z64]; omega
  · have a := ha (by omega); have b := hb (by omega); have cd := hcd k
    have s1 := ih _ (cl_lt a.1 a.2); have s2 := ih _ (cl_lt b.1 b.2)
    have s3 := ih _ (cl_lt cd.1 cd.2.1); have s4 := ih _ (cl_lt cd.2.2.1 cd.2.2.2)
    rw [(sp_7 k).1, (sp_7 k).2, wk_7 k, wk_7 k, if_neg m1_ng, if_neg h2]
    have l := t_ls (L (T 18 (12 * B + j)).toNatClampNeg) (L (T 19 (12 * B + j)).toNatClampNeg)
    have g := t_gt (H (T 18 (12 * B + j)).toNatClampNeg) (H (T 19 (12 * B + j)).toNatClampNeg)
    by_cases e : Ers L H (T 20 (12 * B + j)).toNatClampNeg ∨ Ers L H (T 21 (12 * B + j)).toNatClampNeg
    · rw [(pk_y (H := H) e).1, (pk_y (L := L) e).2]
      unfold Snd at s1 s2
      have o1 : (ovLo B J L (T 19 (12 * B + j)).toNatClampNeg (T 18 (12 * B + j)).toNatClampNeg).toInt = (J 27 (12 * B + (T 19 (12 * B + j)).toNatClampNeg)).toInt + (L (T 19 (12 * B + j)).toNatClampNeg).toInt - (J 28 (12 * B + (T 18 (12 * B + j)).toNatClampNeg)).toInt := t_sub (t_add rfl rfl (by omega) (by omega)) rfl (by omega) (by omega)
      have o2 : (ovLo B J L (T 18 (12 * B + j)).toNatClampNeg (T 19 (12 * B + j)).toNatClampNeg).toInt = (J 27 (12 * B + (T 18 (12 * B + j)).toNatClampNeg)).toInt + (L (T 18 (12 * B + j)).toNatClampNeg).toInt - (J 28 (12 * B + (T 19 (12 * B + j)).toNatClampNeg)).toInt := t_sub (t_add rfl rfl (by omega) (by omega)) rfl (by omega) (by omega)
      have o3 : (ovHi B J H (T 19 (12 * B + j)).toNatClampNeg (T 18 (12 * B + j)).toNatClampNeg).toInt = (J 28 (12 * B + (T 19 (12 * B + j)).toNatClampNeg)).toInt + (H (T 19 (12 * B + j)).toNatClampNeg).toInt - (J 27 (12 * B + (T 18 (12 * B + j)).toNatClampNeg)).toInt := t_sub (t_add rfl rfl (by omega) (by omega)) rfl (by omega) (by omega)
      have o4 : (ovHi B J H (T 18 (12 * B + j)).toNatClampNeg (T 19 (12 * B + j)).toNatClampNeg).toInt = (J 28 (12 * B + (T 18 (12 * B + j)).toNatClampNeg)).toInt + (H (T 18 (12 * B + j)).toNatClampNeg).toInt - (J 27 (12 * B + (T 19 (12 * B + j)).toNatClampNeg)).toInt := t_sub (t_add rfl rfl (by omega) (by omega)) rfl (by omega) (by omega)
      have l1 := t_ls (ovLo B J L (T 19 (12 * B + j)).toNatClampNeg (T 18 (12 * B + j)).toNatClampNeg) (ovLo B J L (T 18 (12 * B + j)).toNatClampNeg (T 19 (12 * B + j)).toNatClampNeg)
      have g1 := t_gt (ovHi B J H (T 19 (12 * B + j)).toNatClampNeg (T 18 (12 * B + j)).toNatClampNeg) (ovHi B J H (T 18 (12 * B + j)).toNatClampNeg (T 19 (12 * B + j)).toNatClampNeg)
      have l2 := t_ls (ls2 (L (T 18 (12 * B + j)).toNatClampNeg) (L (T 19 (12 * B + j)).toNatClampNeg)) (ls2 (ovLo B J L (T 19 (12 * B + j)).toNatClampNeg (T 18 (12 * B + j)).toNatClampNeg) (ovLo B J L (T 18 (12 * B + j)).toNatClampNeg (T 19 (12 * B + j)).toNatClampNeg))
      have g2 := t_gt (gt2 (H (T 18 (12 * B + j)).toNatClampNeg) (H (T 19 (12 * B + j)).toNatClampNeg)) (gt2 (ovHi B J H (T 19 (12 * B + j)).toNatClampNeg (T 18 (12 * B + j)).toNatClampNeg) (ovHi B J H (T 18 (12 * B + j)).toNatClampNeg (T 19 (12 * B + j)).toNatClampNeg))
      by_cases z1 : pl (T 20 (12 * B + j)).toNatClampNeg < pl (T 21 (12 * B + j)).toNatClampNeg <;> by_cases z2 : cm (T 20 (12 * B + j)).toNatClampNeg < cm (T 21 (12 * B + j)).toNatClampNeg
      · rw [if_pos z1, if_pos z2]; omega
      · rw [if_pos z1, if_neg z2]; omega
      · rw [if_neg z1, if_pos z2]; omega
      · rw [if_neg z1, if_neg z2]; omega
    · rw [(pk_n (J := J) (B := B) (H := H) e).1, (pk_n (J := J) (B := B) (L := L) e).2]
      have e3 := ners_eq (fun q => e (Or.inl q)) s3
      have e4 := ners_eq (fun q => e (Or.inr q)) s4
      unfold Snd at s1 s2
      rw [e3, e4]
      by_cases z1 : pl (T 20 (12 * B + j)).toNatClampNeg < pl (T 21 (12 * B + j)).toNatClampNeg
      · rw [if_pos z1, if_pos z1]; omega
      · rw [if_neg z1, if_neg z1]; omega
end CAM
