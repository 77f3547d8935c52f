/-! A SLOT: the class's expression and the reference's rows -/
def SLR (FO SP : Nat → Nat) (en n : Nat) (MN LT FI LA FL EM : Nat → Nat) (sl : Nat) : Prop :=
  (MN sl = n ∧ n ≤ 8 ∧ FI sl = FO 8 ∧ FO 8 < 2 ^ n ∧ LA sl < 2 ^ n ∧ EM sl ≤ 1 ∧ en = (if EM sl = 0 then LA sl else LA sl ||| 256)) ∧ (∀ j, j < n → FL (sl * 8 + j) = FO j ∧ FO j < 2 ^ n ∧ LT (sl * 8 + j) < 4) ∧ (∀ j, n ≤ j → j < 8 → FO j = 0) ∧ ∀ ch, ch < 4 → ∀ j, (SP ch).testBit j = decide (j < n ∧ LT (sl * 8 + j) = ch)
def same1 (MN LT FI LA FL EM MN2 LT2 FI2 LA2 FL2 EM2 : Nat → Nat) (i : Nat) : Prop := MN2 i = MN i ∧ FI2 i = FI i ∧ LA2 i = LA i ∧ EM2 i = EM i ∧ ∀ j, j < 8 → LT2 (i * 8 + j) = LT (i * 8 + j) ∧ FL2 (i * 8 + j) = FL (i * 8 + j)
theorem SLR_same {FO SP : Nat → Nat} {en n : Nat} {MN LT FI LA FL EM MN2 LT2 FI2 LA2 FL2 EM2 : Nat → Nat} {i : Nat} (h : SLR FO SP en n MN LT FI LA FL EM i) (hs : same1 MN LT FI LA FL EM MN2 LT2 FI2 LA2 FL2 EM2 i) : SLR FO SP en n MN2 LT2 FI2 LA2 FL2 EM2 i := by
  obtain ⟨⟨a1, a2, a3, a4, a5, a6, a7⟩, b, c, d⟩ := h
  obtain ⟨s1, s2, s3, s4, s5⟩ := hs
  refine ⟨⟨by rw [s1]; exact a1, a2, by rw [s2]; exact a3, a4, by rw [s3]; exact a5, by rw [s4]; exact a6, by rw [s3, s4]; exact a7⟩, fun j hj => ?_, c, fun ch hc j => ?_⟩
  · rw [(s5 j (by omega)).1, (s5 j (by omega)).2]; exact b j hj
  · rw [d ch hc j]
    refine decide_eq_decide.mpr ⟨fun q => ⟨q.1, by rw [(s5 j (by omega)).1]; exact q.2⟩, fun q => ⟨q.1, by rw [← (s5 j (by omega)).1]; exact q.2⟩⟩
theorem cpb_at (F G : Nat → Nat) (b : Nat) : ∀ j x, cpb F G b j x = if b ≤ x ∧ x < b + j then F (x - b) else G x := by
  intro j
  induction j with
  | zero => intro x; rw [cpb, if_neg (by omega)]
  | succ j ih =>
    intro x
    rw [cpb]
    by_cases e : x = b + j
    · subst e; rw [va_up_self, if_pos ⟨by omega, by omega⟩, Nat.add_sub_cancel_left]
    · rw [va_up_ne _ _ e, ih]
      by_cases h : b ≤ x ∧ x < b + j
      · rw [if_pos h, if_pos ⟨h.1, by omega⟩]
      · rw [if_neg h, if_neg (by omega)]
theorem cpb_in (F G : Nat → Nat) (b j i : Nat) (h : i < j) : cpb F G b j (b + i) = F i := by
  rw [cpb_at, if_pos ⟨by omega, by omega⟩, Nat.add_sub_cancel_left]
theorem same1_up {MN LT FI LA FL EM G1 G2 : Nat → Nat} {v1 v2 v3 v4 n sl i : Nat} (hn : n ≤ 8) (hi : i ≠ sl) : same1 MN LT FI LA FL EM (va_up MN sl v1) (cpb G1 LT (sl * 8) n) (va_up FI sl v2) (va_up LA sl v3) (cpb G2 FL (sl * 8) n) (va_up EM sl v4) i := by
  refine ⟨va_up_ne _ _ hi, va_up_ne _ _ hi, va_up_ne _ _ hi, va_up_ne _ _ hi, fun j hj => ⟨?_, ?_⟩⟩
  · rw [cpb_at, if_neg (by omega)]
  · rw [cpb_at, if_neg (by omega)]
theorem SLR_FJ {o : Nat × Nat × PZ} {le pa rr : Nat} {PE PF PL NF NL MN LT FI LA FL EM : Nat → Nat} (sl : Nat) (h : FJ o le pa rr PE PF PL NF NL) : SLR o.2.2.2.2.2.2.2.1 o.2.2.2.2.2.2.2.2.1 o.2.1 o.2.2.2.2.2.2.2.2.2 (va_up MN sl le) (cpb NL LT (sl * 8) le) (va_up FI sl (PF rr)) (va_up LA sl (PL rr)) (cpb NF FL (sl * 8) le) (va_up EM sl (PE rr)) sl ∧ o.1 = 0 ∧ o.2.2.2.2.2.2.2.2.2 = le ∧ le ≤ 8 ∧ rr < pa ∧ PE rr ≤ 1 := by
  obtain ⟨⟨fw, dp, F, S, Rw, FO, SP, n⟩, SO, RO, h1, h2, h3, h4⟩ := h
  subst h1
  obtain ⟨a1, a2, a3, a4, a5, a6⟩ := h2
  obtain ⟨c1, c2, c3⟩ := a2 rr h3
  have hn : n = le := a1.1
  have hl8 : le ≤ 8 := a1.2.2
  subst hn
  have h4 : nd PE PF PL rr = alt (S 0) (Rw 0) := h4
  have e1 : PF rr = (alt (S 0) (Rw 0)).1 := congrArg (·.1) h4
  have e2 : PL rr = (alt (S 0) (Rw 0)).2.1 := congrArg (·.2.1) h4
  have e3 : decide (PE rr ≠ 0) = (alt (S 0) (Rw 0)).2.2 := congrArg (·.2.2) h4
  refine ⟨?_, rfl, rfl, hl8, h3, c1⟩
  show SLR (va_up FO 8 (alt (S 0) (Rw 0)).1) SP (if (alt (S 0) (Rw 0)).2.2 then (alt (S 0) (Rw 0)).2.1 ||| 256 else (alt (S 0) (Rw 0)).2.1) n _ _ _ _ _ _ sl
  rw [← e1, ← e2, ← e3]
  refine ⟨⟨va_up_self _ _ _, hl8, by rw [va_up_self, va_up_self], by rw [va_up_self]; exact c2, by rw [va_up_self]; exact c3, by rw [va_up_self]; exact c1, ?_⟩, fun j hj => ?_, fun j hj hj8 => ?_, fun ch hc j => ?_⟩
  · rw [va_up_self, va_up_self]
    by_cases e : PE rr = 0
    · rw [if_pos e, if_neg (by simp [e])]
    · rw [if_neg e, if_pos (by simp [e])]
  · rw [cpb_in _ _ _ _ _ hj, cpb_in _ _ _ _ _ hj, va_up_ne _ _ (show j ≠ 8 by omega)]
    obtain ⟨b1, b2, b3⟩ := a4 j hj
    exact ⟨b1.symm, by rw [b1]; exact b2, b3⟩
  · rw [va_up_ne _ _ (show j ≠ 8 by omega)]; exact a5 j hj
  · rw [a6 ch hc j]
    exact decide_eq_decide.mpr ⟨fun q => ⟨q.1, by rw [cpb_in _ _ _ _ _ q.1]; exact q.2⟩, fun q => ⟨q.1, by rw [← cpb_in NL LT (sl * 8) n j q.1]; exact q.2⟩⟩
abbrev UA : Type := (Nat → Nat) × (Nat → Nat) × (Nat → Nat) × (Nat → Nat) × (Nat → Nat) × (Nat → Nat)
abbrev UD : Type := US × UA
/-- what a read leaves in the slots -/
def RD (o : Nat × Nat × PZ) (sl : Nat) (MN LT FI LA FL EM : Nat → Nat) (r : Int32) : UA → Prop
  | (MN2, LT2, FI2, LA2, FL2, EM2) => (o.1 ≠ 0 → r = nI 0 ∧ MN2 = MN ∧ LT2 = LT ∧ FI2 = FI ∧ LA2 = LA ∧ FL2 = FL ∧ EM2 = EM) ∧ (o.1 = 0 → r = nI o.2.2.2.2.2.2.2.2.2 ∧ SLR o.2.2.2.2.2.2.2.1 o.2.2.2.2.2.2.2.2.1 o.2.1 o.2.2.2.2.2.2.2.2.2 MN2 LT2 FI2 LA2 FL2 EM2 sl ∧ ∀ i, i < 4 → i ≠ sl → same1 MN LT FI LA FL EM MN2 LT2 FI2 LA2 FL2 EM2 i)
