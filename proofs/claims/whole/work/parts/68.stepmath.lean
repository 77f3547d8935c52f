/-! THE STEP: the class's and the reference's -/
theorem onw_at (FO : Nat → Nat) (S j : Nat) : ∀ p, (onw FO S p).testBit j = decide (∃ q, q < p ∧ S.testBit q = true ∧ (FO q).testBit j = true) := by
  intro p
  induction p with
  | zero => simp [onw]
  | succ p ih =>
    rw [onw]
    by_cases h : S.testBit p = true
    · rw [if_pos h, Nat.testBit_or, ih]
      by_cases hf : (FO p).testBit j = true
      · rw [hf, Bool.or_true]
        exact (decide_eq_true ⟨p, by omega, h, hf⟩).symm
      · rw [Bool.eq_false_iff.mpr hf, Bool.or_false]
        refine decide_eq_decide.mpr ⟨fun ⟨q, a, b⟩ => ⟨q, by omega, b⟩, fun ⟨q, a, b, c⟩ => ⟨q, ?_, b, c⟩⟩
        rcases Nat.lt_or_ge q p with z | z
        · exact z
        · exact absurd (by rw [show p = q by omega]; exact c) hf
    · rw [if_neg h, Nat.or_zero, ih]
      refine decide_eq_decide.mpr ⟨fun ⟨q, a, b⟩ => ⟨q, by omega, b⟩, fun ⟨q, a, b, c⟩ => ⟨q, ?_, b, c⟩⟩
      rcases Nat.lt_or_ge q p with z | z
      · exact z
      · exact absurd (by rw [show p = q by omega]; exact b) h
theorem nx1_at (FL : Nat → Nat) (S b j : Nat) : ∀ p, (nx1 FL S b p).testBit j = decide (∃ q, q < p ∧ S.testBit q = true ∧ (FL (b + q)).testBit j = true) := by
  intro p
  induction p with
  | zero => simp [nx1]
  | succ p ih =>
    rw [nx1]
    by_cases h : S.testBit p = true
    · rw [if_pos h, Nat.testBit_or, ih]
      by_cases hf : (FL (b + p)).testBit j = true
      · rw [hf, Bool.or_true]
        exact (decide_eq_true ⟨p, by omega, h, hf⟩).symm
      · rw [Bool.eq_false_iff.mpr hf, Bool.or_false]
        refine decide_eq_decide.mpr ⟨fun ⟨q, a, b⟩ => ⟨q, by omega, b⟩, fun ⟨q, a, b, c⟩ => ⟨q, ?_, b, c⟩⟩
        rcases Nat.lt_or_ge q p with z | z
        · exact z
        · exact absurd (by rw [show p = q by omega]; exact c) hf
    · rw [if_neg h, Nat.or_zero, ih]
      refine decide_eq_decide.mpr ⟨fun ⟨q, a, b⟩ => ⟨q, by omega, b⟩, fun ⟨q, a, b, c⟩ => ⟨q, ?_, b, c⟩⟩
      rcases Nat.lt_or_ge q p with z | z
      · exact z
      · exact absurd (by rw [show p = q by omega]; exact b) h
theorem to1_at (LT : Nat → Nat) (N b ch j : Nat) : ∀ p, (to1 LT N b ch p).testBit j = decide (j < p ∧ N.testBit j = true ∧ LT (b + j) = ch) := by
  intro p
  induction p with
  | zero => simp [to1]
  | succ p ih =>
    rw [to1, Nat.testBit_or, ih]
    by_cases h : N.testBit p = true ∧ LT (b + p) = ch
    · rw [if_pos h]
      by_cases e : j = p
      · subst e
        rw [Nat.testBit_two_pow_self, Bool.or_true]
        exact (decide_eq_true ⟨by omega, h⟩).symm
      · rw [Nat.testBit_two_pow_of_ne (fun q => e q.symm), Bool.or_false]
        exact decide_eq_decide.mpr ⟨fun q => ⟨by omega, q.2⟩, fun q => ⟨by omega, q.2⟩⟩
    · rw [if_neg h, Nat.zero_testBit, Bool.or_false]
      refine decide_eq_decide.mpr ⟨fun q => ⟨by omega, q.2⟩, fun q => ⟨?_, q.2⟩⟩
      rcases Nat.lt_or_ge j p with z | z
      · exact z
      · exact absurd (by rw [show p = j by omega]; exact q.2) h
theorem bit_lt {S n j : Nat} (h : S < 2 ^ n) (hb : S.testBit j = true) : j < n := by
  rcases Nat.lt_or_ge j n with z | z
  · exact z
  · rw [Nat.testBit_lt_two_pow (Nat.lt_of_lt_of_le h (Nat.pow_le_pow_right (by decide) z))] at hb
    cases hb
theorem bit256 {j : Nat} : (256 : Nat).testBit j = decide (j = 8) := by
  rw [show (256 : Nat) = 2 ^ 8 from rfl, Nat.testBit_two_pow]
  exact decide_eq_decide.mpr ⟨fun q => q.symm, fun q => q.symm⟩
section STP
variable {FO SP : Nat → Nat} {en n : Nat} {MN LT FI LA FL EM : Nat → Nat} {sl : Nat}
/-- what a step leads to, bit by bit -/
theorem mstep_at (h : SLR FO SP en n MN LT FI LA FL EM sl) {S ch j : Nat} (hS : S = 256 ∨ S < 2 ^ n) : (mstep MN LT FI FL sl S ch).testBit j = decide (j < n ∧ LT (sl * 8 + j) = ch ∧ if S = 256 then (FI sl).testBit j = true else ∃ q, q < n ∧ S.testBit q = true ∧ (FO q).testBit j = true) := by
  obtain ⟨⟨a1, a2, a3, a4, a5, a6, a7⟩, b, c, d⟩ := h
  unfold mstep
  rw [to1_at, a1]
  refine decide_eq_decide.mpr ?_
  by_cases e : S = 256
  · rw [if_pos e, if_pos e]
    exact ⟨fun q => ⟨q.1, q.2.2, q.2.1⟩, fun q => ⟨q.1, q.2.2, q.2.1⟩⟩
  · rw [if_neg e, if_neg e, nx1_at, decide_eq_true_eq]
    refine ⟨fun ⟨q1, ⟨q, g1, g2, g3⟩, q3⟩ => ⟨q1, q3, q, g1, g2, by rw [← (b q g1).1]; exact g3⟩, fun ⟨q1, q3, q, g1, g2, g3⟩ => ⟨q1, ⟨q, g1, g2, by rw [(b q g1).1]; exact g3⟩, q3⟩⟩
theorem step_eq (h : SLR FO SP en n MN LT FI LA FL EM sl) {S ch : Nat} (hS : S = 256 ∨ S < 2 ^ n) (hc : ch < 4) : onw FO S 9 &&& SP ch = mstep MN LT FI FL sl S ch := by
  apply Nat.eq_of_testBit_eq
  intro j
  rw [mstep_at h hS]
  obtain ⟨⟨a1, a2, a3, a4, a5, a6, a7⟩, b, c, d⟩ := h
  rw [Nat.testBit_and, onw_at, d ch hc j, ← Bool.decide_and]
  refine decide_eq_decide.mpr ?_
  by_cases e : S = 256
  · subst e
    rw [if_pos rfl, a3]
    refine ⟨fun ⟨⟨q, g1, g2, g3⟩, g4⟩ => ⟨g4.1, g4.2, ?_⟩, fun ⟨g1, g2, g3⟩ => ⟨⟨8, by decide, by decide, g3⟩, g1, g2⟩⟩
    rw [bit256, decide_eq_true_eq] at g2
    rw [← g2]; exact g3
  · rw [if_neg e]
    have hS2 : S < 2 ^ n := hS.resolve_left e
    refine ⟨fun ⟨⟨q, g1, g2, g3⟩, g4⟩ => ⟨g4.1, g4.2, q, bit_lt hS2 g2, g2, g3⟩, fun ⟨g1, g2, q, g3, g4, g5⟩ => ⟨⟨q, by omega, g4, g5⟩, g1, g2⟩⟩
theorem mstp_lt (h : SLR FO SP en n MN LT FI LA FL EM sl) {S ch : Nat} (hS : S = 256 ∨ S < 2 ^ n) : mstep MN LT FI FL sl S ch < 2 ^ n := by
  apply Nat.lt_pow_two_of_testBit
  intro j hj
  rw [mstep_at h hS]
  exact decide_eq_false (fun q => by omega)
theorem tell_eq (h : SLR FO SP en n MN LT FI LA FL EM sl) {S : Nat} (hS : S = 256 ∨ S < 2 ^ n) : (tl S en).toNat = mtl LA EM sl S := by
  obtain ⟨⟨a1, a2, a3, a4, a5, a6, a7⟩, b, c, d⟩ := h
  have h8 : 2 ^ n ≤ 256 := Nat.le_trans (Nat.pow_le_pow_right (by decide) a2) (by decide)
  unfold mtl tl
  have z1 : 256 &&& LA sl = 0 := by
    apply Nat.eq_of_testBit_eq
    intro j
    rw [Nat.testBit_and, Nat.zero_testBit, bit256]
    by_cases e : j = 8
    · subst e; rw [Nat.testBit_lt_two_pow (show LA sl < 2 ^ 8 by omega), Bool.and_false]
    · rw [decide_eq_false e, Bool.false_and]
  by_cases e : S = 256
  · subst e
    rw [if_pos rfl, a7]
    by_cases e0 : EM sl = 0
    · rw [if_pos e0, z1, e0]; rfl
    · have e1 : EM sl = 1 := by omega
      rw [if_neg e0, Nat.and_or_distrib_left, z1, e1]; rfl
  · rw [if_neg e, a7]
    have hS2 : S < 2 ^ n := hS.resolve_left e
    have z2 : S &&& 256 = 0 := by
      apply Nat.eq_of_testBit_eq
      intro j
      rw [Nat.testBit_and, Nat.zero_testBit, bit256]
      by_cases e : j = 8
      · subst e; rw [Nat.testBit_lt_two_pow (show S < 2 ^ 8 by omega), Bool.false_and]
      · rw [decide_eq_false e, Bool.and_false]
    by_cases e0 : EM sl = 0
    · rw [if_pos e0]
    · rw [if_neg e0, Nat.and_or_distrib_left, z2, Nat.or_zero]
/-- what the contracts of both sides ask for -/
theorem SLR_b (h : SLR FO SP en n MN LT FI LA FL EM sl) : (∀ p, p < 9 → FO p < 256) ∧ en < 512 ∧ MN sl ≤ 8 ∧ FI sl < 256 ∧ (∀ i, i < MN sl → FL (sl * 8 + i) < 256) ∧ (∀ i, i < MN sl → LT (sl * 8 + i) < 4) ∧ EM sl ≤ 1 ∧ n ≤ 8 ∧ LA sl < 256 := by
  obtain ⟨⟨a1, a2, a3, a4, a5, a6, a7⟩, b, c, d⟩ := h
  have h8 : 2 ^ n ≤ 256 := Nat.le_trans (Nat.pow_le_pow_right (by decide) a2) (by decide)
  refine ⟨fun p hp => ?_, ?_, by omega, by omega, fun i hi => ?_, fun i hi => ?_, a6, a2, by omega⟩
  · by_cases e : p = 8
    · subst e; omega
    · rcases Nat.lt_or_ge p n with z | z
      · have := (b p z).2.1; omega
      · rw [c p z (by omega)]; decide
  · rw [a7]
    split
    · omega
    · exact Nat.or_lt_two_pow (n := 9) (by omega) (by decide)
  · rw [(b i (by omega)).1]; have := (b i (by omega)).2.1; omega
  · exact (b i (by omega)).2.2
theorem hgd_all {TP : Nat → Nat} : ∀ i, (∀ q, q < i → 97 ≤ TP q ∧ TP q ≤ 100) → hgd TP i = true := by
  intro i
  induction i with
  | zero => intro _; rfl
  | succ i ih =>
    intro h
    rw [hgd, ih (fun q hq => h q (by omega)), Bool.true_and]
    exact decide_eq_true (h i (by omega))
theorem chs_eq (h : SLR FO SP en n MN LT FI LA FL EM sl) {B TP : Nat → Nat} : ∀ i, (∀ q, q < i → B q = TP q ∧ 97 ≤ B q ∧ B q ≤ 100) → chs FO SP B i = hsr (mstep MN LT FI FL sl) TP i ∧ (chs FO SP B i = 256 ∨ chs FO SP B i < 2 ^ n) := by
  intro i
  induction i with
  | zero => intro _; exact ⟨rfl, Or.inl rfl⟩
  | succ i ih =>
    intro hq
    obtain ⟨e1, e2⟩ := ih (fun q hq2 => hq q (by omega))
    obtain ⟨g1, g2, g3⟩ := hq i (by omega)
    have e3 : chs FO SP B (i + 1) = mstep MN LT FI FL sl (chs FO SP B i) (B i - 97) := step_eq h e2 (by omega)
    refine ⟨?_, Or.inr ?_⟩
    · have hg : hgd TP (i + 1) = true := hgd_all (i + 1) (fun q h9 => by have := hq q h9; rw [← this.1]; exact this.2)
      rw [e3, e1, g1, hsr, if_pos hg]
    · rw [e3]; exact mstp_lt h e2
end STP
theorem isw_hgd {B TP : Nat → Nat} : ∀ i, (∀ q, q < i → B q = TP q) → isw B i = hgd TP i := by
  intro i
  induction i with
  | zero => intro _; rfl
  | succ i ih =>
    intro hq
    rw [isw, ih (fun q h => hq q (by omega)), hq i (by omega), hgd, Bool.decide_and]
