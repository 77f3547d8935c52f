/-! TURN: the class's reverse and the reference's -/
theorem rvl_at (FO : Nat → Nat) (q i : Nat) (hq : q < 9) : ∀ p, (rvl FO p q).testBit i = decide (i < p ∧ (FO i).testBit q = true) := by
  intro p
  induction p with
  | zero => show (0 : Nat).testBit i = _; rw [Nat.zero_testBit]; exact (decide_eq_false (fun h => absurd h.1 (Nat.not_lt_zero _))).symm
  | succ p ih =>
    rw [rvl, lnk_at]
    by_cases h : (FO p).testBit q = true
    · rw [if_pos ⟨hq, h⟩, Nat.testBit_or, ih, Nat.testBit_two_pow]
      by_cases e : p = i
      · subst e
        rw [decide_eq_true rfl, Bool.or_true]
        exact (decide_eq_true ⟨by omega, h⟩).symm
      · rw [decide_eq_false e, Bool.or_false]
        exact decide_eq_decide.mpr ⟨fun z => ⟨by omega, z.2⟩, fun z => ⟨by omega, z.2⟩⟩
    · rw [if_neg (fun z => h z.2), ih]
      refine decide_eq_decide.mpr ⟨fun z => ⟨by omega, z.2⟩, fun z => ⟨?_, z.2⟩⟩
      rcases Nat.lt_or_ge i p with y | y
      · exact y
      · exact absurd (by rw [show p = i by omega]; exact z.2) h
theorem tin_ne (FL C : Nat → Nat) (b kk x : Nat) (hx : x ≠ kk) : ∀ i, tin FL C b kk i x = C x := by
  intro i
  induction i with
  | zero => rw [tin, va_up_ne _ _ hx]
  | succ i ih => rw [tin]; split
                 · rw [va_up_ne _ _ hx]; exact ih
                 · exact ih
theorem tin_at (FL C : Nat → Nat) (b kk j : Nat) : ∀ i, (tin FL C b kk i kk).testBit j = decide (j < i ∧ (FL (b + j)).testBit kk = true) := by
  intro i
  induction i with
  | zero => rw [tin, va_up_self, Nat.zero_testBit]; exact (decide_eq_false (fun h => absurd h.1 (Nat.not_lt_zero _))).symm
  | succ i ih =>
    rw [tin]
    by_cases h : (FL (b + i)).testBit kk = true
    · rw [if_pos h, va_up_self, Nat.testBit_or, ih, Nat.testBit_two_pow]
      by_cases e : i = j
      · subst e
        rw [decide_eq_true rfl, Bool.or_true]
        exact (decide_eq_true ⟨by omega, h⟩).symm
      · rw [decide_eq_false e, Bool.or_false]
        exact decide_eq_decide.mpr ⟨fun z => ⟨by omega, z.2⟩, fun z => ⟨by omega, z.2⟩⟩
    · rw [if_neg h, ih]
      refine decide_eq_decide.mpr ⟨fun z => ⟨by omega, z.2⟩, fun z => ⟨?_, z.2⟩⟩
      rcases Nat.lt_or_ge j i with y | y
      · exact y
      · exact absurd (by rw [show i = j by omega]; exact z.2) h
theorem tnf_at (FL NF : Nat → Nat) (b n j : Nat) : ∀ m kk, kk < m → (tnf FL NF b n m kk).testBit j = decide (j < n ∧ (FL (b + j)).testBit kk = true) := by
  intro m
  induction m with
  | zero => intro kk h; omega
  | succ m ih =>
    intro kk h
    rw [tnf]
    by_cases e : kk = m
    · subst e; exact tin_at FL _ b kk j n
    · rw [tin_ne _ _ _ _ _ e]; exact ih kk (by omega)
theorem cpn_at (F G : Nat → Nat) (b : Nat) : ∀ m j, j < m → cpn F G b m j = F (b + j) := by
  intro m
  induction m with
  | zero => intro j h; omega
  | succ m ih =>
    intro j h
    rw [cpn]
    by_cases e : j = m
    · subst e; rw [va_up_self]
    · rw [va_up_ne _ _ e]; exact ih j (by omega)
theorem en_mod {L E : Nat} (hL : L < 256) : (if E = 0 then L else L ||| 256) % 256 = L ∧ (if E = 0 then L else L ||| 256) &&& 256 = if E = 0 then 0 else 256 := by
  have z1 : L &&& 256 = 0 := by
    apply Nat.eq_of_testBit_eq
    intro j
    rw [Nat.testBit_and, Nat.zero_testBit, bit256]
    by_cases e : j = 8
    · subst e; rw [Nat.testBit_lt_two_pow (show L < 2 ^ 8 by omega), Bool.false_and]
    · rw [decide_eq_false e, Bool.and_false]
  by_cases e : E = 0
  · rw [if_pos e, if_pos e]; exact ⟨Nat.mod_eq_of_lt hL, z1⟩
  · rw [if_neg e, if_neg e]
    refine ⟨?_, ?_⟩
    · apply Nat.eq_of_testBit_eq
      intro j
      rw [show (256 : Nat) = 2 ^ 8 from rfl, Nat.testBit_mod_two_pow, Nat.testBit_or, Nat.testBit_two_pow]
      by_cases ej : j < 8
      · rw [decide_eq_true ej, decide_eq_false (show ¬ 8 = j by omega), Bool.or_false, Bool.true_and]
      · rw [decide_eq_false ej, Bool.false_and, Nat.testBit_lt_two_pow (Nat.lt_of_lt_of_le hL (by show 2 ^ 8 ≤ 2 ^ j; exact Nat.pow_le_pow_right (by decide) (by omega)))]
    · rw [Nat.and_comm, Nat.and_or_distrib_left, Nat.and_comm, z1, Nat.zero_or, Nat.and_self]
theorem SLR_turn {FO SP : Nat → Nat} {en n : Nat} {MN LT FI LA FL EM NL NF : Nat → Nat} {a to : Nat} (h : SLR FO SP en n MN LT FI LA FL EM a) : SLR (va_up (rvl FO 8) 8 (en % 256)) SP (FO 8 ||| (en &&& 256)) n (va_up MN to (MN a)) (cpb (cpn LT NL (a * 8) (MN a)) LT (to * 8) (MN a)) (va_up FI to (LA a)) (va_up LA to (FI a)) (cpb (tnf FL NF (a * 8) (MN a) (MN a)) FL (to * 8) (MN a)) (va_up EM to (EM a)) to := by
  have hb := SLR_b h
  obtain ⟨⟨a1, a2, a3, a4, a5, a6, a7⟩, b, c, d⟩ := h
  have hL : LA a < 256 := hb.2.2.2.2.2.2.2.2
  have hm := en_mod (E := EM a) hL
  rw [← a7] at hm
  rw [a1, hm.1, hm.2]
  have hr : ∀ j, j < 8 → ∀ i, (rvl FO 8 j).testBit i = decide (i < n ∧ (FO i).testBit j = true) := fun j hj i => by
    rw [rvl_at FO j i (by omega)]
    refine decide_eq_decide.mpr ⟨fun z => ⟨?_, z.2⟩, fun z => ⟨by omega, z.2⟩⟩
    rcases Nat.lt_or_ge i n with y | y
    · exact y
    · rw [c i y z.1, Nat.zero_testBit] at z; exact absurd z.2 (by decide)
  refine ⟨⟨va_up_self _ _ _, a2, by rw [va_up_self, va_up_self], by rw [va_up_self]; exact a5, by rw [va_up_self, a3]; exact a4, by rw [va_up_self]; exact a6, ?_⟩, fun j hj => ⟨?_, ?_, ?_⟩, fun j hj hj8 => ?_, fun ch hc j => ?_⟩
  · rw [va_up_self, va_up_self, a3]
    split
    · rw [Nat.or_zero]
    · rfl
  · rw [cpb_in _ _ _ _ _ hj, va_up_ne _ _ (show j ≠ 8 by omega)]
    apply Nat.eq_of_testBit_eq
    intro i
    rw [tnf_at _ _ _ _ _ _ _ hj, hr j (by omega) i]
    refine decide_eq_decide.mpr ⟨fun z => ⟨z.1, by rw [← (b i z.1).1]; exact z.2⟩, fun z => ⟨z.1, by rw [(b i z.1).1]; exact z.2⟩⟩
  · rw [va_up_ne _ _ (show j ≠ 8 by omega)]
    apply Nat.lt_pow_two_of_testBit
    intro i hi
    rw [hr j (by omega) i]
    exact decide_eq_false (fun z => by omega)
  · rw [cpb_in _ _ _ _ _ hj, cpn_at _ _ _ _ _ hj]; exact (b j hj).2.2
  · rw [va_up_ne _ _ (show j ≠ 8 by omega)]
    apply Nat.eq_of_testBit_eq
    intro i
    rw [hr j hj8 i, Nat.zero_testBit]
    refine decide_eq_false (fun z => ?_)
    have := bit_lt (b i z.1).2.1 z.2
    omega
  · rw [d ch hc j]
    exact decide_eq_decide.mpr ⟨fun q => ⟨q.1, by rw [cpb_in _ _ _ _ _ q.1, cpn_at _ _ _ _ _ q.1]; exact q.2⟩, fun q => ⟨q.1, by have := q.2; rw [cpb_in _ _ _ _ _ q.1, cpn_at _ _ _ _ _ q.1] at this; exact this⟩⟩
