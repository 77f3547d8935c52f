/-! THE REFERENCE: split -/
/-- two sets alike, as far as the first a letters tell -/
def msm (st : Nat → Nat → Nat) (PA : Nat → Nat) (x y : Nat) : Nat → Bool
  | 0 => decide (PA x = PA y)
  | a + 1 => msm st PA x y a && decide (PA (st x a) = PA (st y a))
theorem msm_f {st : Nat → Nat → Nat} {PA : Nat → Nat} {x y a : Nat} (h : msm st PA x y a = false) : ∀ b, a ≤ b → msm st PA x y b = false := by
  intro b
  induction b with
  | zero => intro hb; have : a = 0 := by omega
            subst this; exact h
  | succ b ih =>
    intro hb
    rcases Nat.lt_or_ge b a with q | q
    · have : a = b + 1 := by omega
      subst this; exact h
    · rw [msm, ih q]; rfl
/-- from the i-th set on, r sets ahead of the kk-th: it joins the first one like it -/
def spi (st : Nat → Nat → Nat) (FD PA : Nat → Nat) (kk : Nat) : Nat → Nat → (Nat → Nat) → Nat → Nat
  | 0, _, NP => NP
  | r + 1, i, NP => if msm st PA (FD i) (FD kk) 4 then va_up NP (FD kk) (NP (FD i)) else spi st FD PA kk r (i + 1) NP
def sp1 (st : Nat → Nat → Nat) (FD PA NP : Nat → Nat) : Nat → Nat × (Nat → Nat)
  | 0 => (0, NP)
  | j + 1 => if spi st FD PA j j 0 (va_up (sp1 st FD PA NP j).2 (FD j) 0) (FD j) = 0 then ((sp1 st FD PA NP j).1 + 1, va_up (spi st FD PA j j 0 (va_up (sp1 st FD PA NP j).2 (FD j) 0)) (FD j) ((sp1 st FD PA NP j).1 + 1)) else ((sp1 st FD PA NP j).1, spi st FD PA j j 0 (va_up (sp1 st FD PA NP j).2 (FD j) 0))
def spc (FD NP PA : Nat → Nat) : Nat → Nat → Nat
  | 0 => PA
  | j + 1 => va_up (spc FD NP PA j) (FD j) (NP (FD j) - 1)
theorem spi_ne {st : Nat → Nat → Nat} {FD PA : Nat → Nat} {kk x : Nat} (hx : x ≠ FD kk) : ∀ r i NP, spi st FD PA kk r i NP x = NP x := by
  intro r
  induction r with
  | zero => intro i NP; rfl
  | succ r ih =>
    intro i NP
    rw [spi]
    split
    · exact va_up_ne _ _ hx
    · exact ih _ _
theorem spi_le {st : Nat → Nat → Nat} {FD PA : Nat → Nat} {kk b n : Nat} (hkk : kk < n) : ∀ r i (NP : Nat → Nat), i + r ≤ n → (∀ j, j < n → NP (FD j) ≤ b) → spi st FD PA kk r i NP (FD kk) ≤ b := by
  intro r
  induction r with
  | zero => intro i NP _ h; exact h kk hkk
  | succ r ih =>
    intro i NP hi h
    rw [spi]
    split
    · rw [va_up_self]; exact h i (by omega)
    · exact ih _ _ (by omega) h
theorem sp1_le (st : Nat → Nat → Nat) (FD PA NP : Nat → Nat) : ∀ j, (sp1 st FD PA NP j).1 ≤ j := by
  intro j
  induction j with
  | zero => exact Nat.le_refl _
  | succ j ih => rw [sp1]; split
                 · show (sp1 st FD PA NP j).1 + 1 ≤ j + 1; omega
                 · show (sp1 st FD PA NP j).1 ≤ j + 1; omega
/-- each of the first j sets has a part, numbered from one on, below the count -/
theorem sp1_v {st : Nat → Nat → Nat} {FD PA NP : Nat → Nat} {n : Nat} (hinj : ∀ i j, i < n → j < n → FD i = FD j → i = j) : ∀ j, j ≤ n → ∀ i, i < j → 0 < (sp1 st FD PA NP j).2 (FD i) ∧ (sp1 st FD PA NP j).2 (FD i) ≤ (sp1 st FD PA NP j).1 := by
  intro j
  induction j with
  | zero => intro _ i hi; omega
  | succ j ih =>
    intro hj i hi
    have ihj := ih (by omega)
    have key : ∀ r i0, i0 + r = j → spi st FD PA j r i0 (va_up (sp1 st FD PA NP j).2 (FD j) 0) (FD j) ≤ (sp1 st FD PA NP j).1 := by
      intro r
      induction r with
      | zero => intro i0 _; show va_up _ _ _ _ ≤ _; rw [va_up_self]; exact Nat.zero_le _
      | succ r ihr =>
        intro i0 h0
        rw [spi]
        split
        · rw [va_up_self, va_up_ne _ _ (fun e => by have := hinj i0 j (by omega) (by omega) e; omega)]
          exact (ihj i0 (by omega)).2
        · exact ihr (i0 + 1) (by omega)
    have k0 := key j 0 (by omega)
    rw [sp1]
    by_cases c : spi st FD PA j j 0 (va_up (sp1 st FD PA NP j).2 (FD j) 0) (FD j) = 0
    · rw [if_pos c]
      show 0 < va_up (spi st FD PA j j 0 (va_up (sp1 st FD PA NP j).2 (FD j) 0)) (FD j) ((sp1 st FD PA NP j).1 + 1) (FD i) ∧ va_up (spi st FD PA j j 0 (va_up (sp1 st FD PA NP j).2 (FD j) 0)) (FD j) ((sp1 st FD PA NP j).1 + 1) (FD i) ≤ (sp1 st FD PA NP j).1 + 1
      by_cases e : FD i = FD j
      · rw [e, va_up_self]; omega
      · rw [va_up_ne _ _ e, spi_ne e, va_up_ne _ _ e]
        have hij : i < j := by
          rcases Nat.lt_or_ge i j with q | q
          · exact q
          · exact absurd (by rw [show i = j by omega]) e
        have := ihj i hij; omega
    · rw [if_neg c]
      show 0 < spi st FD PA j j 0 (va_up (sp1 st FD PA NP j).2 (FD j) 0) (FD i) ∧ spi st FD PA j j 0 (va_up (sp1 st FD PA NP j).2 (FD j) 0) (FD i) ≤ (sp1 st FD PA NP j).1
      by_cases e : FD i = FD j
      · rw [e]; omega
      · rw [spi_ne e, va_up_ne _ _ e]
        have hij : i < j := by
          rcases Nat.lt_or_ge i j with q | q
          · exact q
          · exact absurd (by rw [show i = j by omega]) e
        exact ihj i hij
