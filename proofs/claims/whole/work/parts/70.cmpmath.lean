/-! COMPARE, CONTAINS, LEAST: the class's answer is the reference's -/
theorem QR_0 {lf : Bool} {P : Nat → Nat → Prop} {cp : Nat} {FI SC OG FD FR BY : Nat → Nat} (h0 : P 256 256) : QR lf P (pq0 cp FI SC OG) (mq0 FD FR BY) := by
  refine ⟨rfl, fun j hj => ?_, va_up_self _ _ _, fun j h1 h2 => by omega, fun x y hx hy hl => ?_⟩
  · have e : j = 0 := by omega
    subst e
    rw [va_up_self, va_up_self, va_up_self]
    exact ⟨h0, by unfold r2; split <;> rfl⟩
  · have hr : r2 lf x y ≤ 255 := by unfold r2; split <;> omega
    rw [va_up_ne _ _ (by omega)]
    exact ⟨fun _ => by unfold sb; rw [Nat.zero_testBit], fun _ => rfl⟩
theorem srch {lf : Bool} {P : Nat → Nat → Prop} {o : Nat × Nat × QZ} {o2 : Nat × QM} {T : Nat} (hq : QR lf P o.2.2 o2.2 ∧ QI o.2.2) (hc : o.1 = 0 ∧ o2.1 = 0 ∨ o.1 ≠ 0 ∧ o2.1 = o.2.1 + 1 ∧ o.2.1 < o.2.2.1 ∧ o.1 = T) : pn o = qn o2 ∧ ∀ L WD k, k < pn o → wf o.2.2.2.2.2.2.1 (pn o) o.2.1 L k = qw o2 WD k := by
  rcases hc with ⟨c1, c2⟩ | ⟨c1, c2, c3, -⟩
  · have e : pn o = 0 := by unfold pn; rw [if_pos c1]
    rw [e, qn_0 c2]
    exact ⟨rfl, fun L WD k hk => absurd hk (Nat.not_lt_zero _)⟩
  · have hm : o2.2.1 = o.2.2.1 := by
      obtain ⟨a, t, z, cp, FI, SC, OG, SN⟩ := o
      obtain ⟨b, n, FD, FR, BY, KN⟩ := o2
      exact hq.1.1
    have e1 : pn o = wl o.2.2.2.2.2.2.1 o.2.2.1 o.2.1 := by unfold pn; rw [if_neg c1]
    have e2 : qn o2 = pn o := by
      unfold qn
      rw [if_neg (by omega), c2, Nat.add_sub_cancel, hm, e1]
      exact (wl_ml hq.1 hq.2 _ _ c3).symm
    refine ⟨e2.symm, fun L WD k hk => ?_⟩
    unfold qw
    rw [e2, c2, Nat.add_sub_cancel, e1]
    rw [e1] at hk
    exact wf_mf hq.1 hq.2 o.2.2.1 o.2.1 L WD _ c3 (by omega) (fun k2 h1 h2 => by omega) k hk
theorem who_b (x y : Bool) : (who x y = 0 ↔ x = y) ∧ (who x y &&& 3 = who x y) ∧ (who x y &&& 2 ≠ 0 ↔ x = false ∧ y = true) ∧ (who x false &&& 1 ≠ 0 ↔ x = true) := by
  cases x <;> cases y <;> decide
section CMP
variable {FO1 SP1 FO2 SP2 : Nat → Nat} {en1 n1 en2 n2 : Nat} {MN LT FI LA FL EM : Nat → Nat} {a b : Nat}
def PC (n1 n2 x y : Nat) : Prop := (x = 256 ∨ x < 2 ^ n1) ∧ (y = 256 ∨ y < 2 ^ n2)
def PL1 (n1 x y : Nat) : Prop := (x = 256 ∨ x < 2 ^ n1) ∧ (y = 256 ∨ y = 0)
theorem pow8 {n : Nat} (h : n ≤ 8) : 2 ^ n ≤ 256 := Nat.le_trans (Nat.pow_le_pow_right (by decide) h) (by decide)
theorem PS_c (h1 : SLR FO1 SP1 en1 n1 MN LT FI LA FL EM a) (h2 : SLR FO2 SP2 en2 n2 MN LT FI LA FL EM b) : PS false (PC n1 n2) FO1 SP1 FO2 SP2 (fun q c => mstep MN LT FI FL a q c) (fun q c => mstep MN LT FI FL b q c) := by
  intro x y hP c hc
  have g1 := (SLR_b h1).2.2.2.2.2.2.2.1
  have g2 := (SLR_b h2).2.2.2.2.2.2.2.1
  rw [step_eq h1 hP.1 hc, step_eq h2 hP.2 hc]
  have l1 := mstp_lt (ch := c) h1 hP.1
  have l2 := mstp_lt (ch := c) h2 hP.2
  exact ⟨Nat.lt_of_lt_of_le l1 (pow8 g1), Nat.lt_of_lt_of_le l2 (pow8 g2), ⟨Or.inr l1, Or.inr l2⟩, rfl, rfl, fun q => by cases q⟩
theorem onw_z {FO : Nat → Nat} (h : ∀ p, FO p = 0) (S : Nat) : ∀ p, onw FO S p = 0 := by
  intro p
  induction p with
  | zero => rfl
  | succ p ih => rw [onw, ih, h p]; split <;> rfl
theorem PS_l (h1 : SLR FO1 SP1 en1 n1 MN LT FI LA FL EM a) (h2 : ∀ p, FO2 p = 0) : PS true (PL1 n1) FO1 SP1 FO2 SP2 (fun q c => mstep MN LT FI FL a q c) (fun q c => mstep MN LT FI FL a q c) := by
  intro x y hP c hc
  have g1 := (SLR_b h1).2.2.2.2.2.2.2.1
  rw [step_eq h1 hP.1 hc, onw_z h2, Nat.zero_and]
  have l1 := mstp_lt (ch := c) h1 hP.1
  refine ⟨Nat.lt_of_lt_of_le l1 (pow8 g1), by decide, ⟨Or.inr l1, Or.inr rfl⟩, rfl, ?_, fun _ => rfl⟩
  show mstep MN LT FI FL a x c = mstep MN LT FI FL a x c
  rfl
theorem tl_b {S en : Nat} : (tl S en).toNat = 0 ↔ tl S en = false := by cases tl S en <;> simp
/-- what class and reference find, of two slots -/
theorem cmp_all (h1 : SLR FO1 SP1 en1 n1 MN LT FI LA FL EM a) (h2 : SLR FO2 SP2 en2 n2 MN LT FI LA FL EM b) (cp : Nat) (F1 S1 O1 FD FR BY : Nat → Nat) (hc1 : 64 ≤ cp) (hc2 : cp ≤ 131072) {wa wh : Nat} (hw : wa = 3 ∧ wh = 1 ∨ wa = 2 ∧ wh = 2) {o : Nat × Nat × QZ} {o2 : Nat × QM} (ho : pt FO1 SP1 FO2 SP2 en1 en2 wa 65537 0 (pq0 cp F1 S1 O1) = o) (ho2 : sk (fun q c => mstep MN LT FI FL a q c) (fun q c => mstep MN LT FI FL b q c) (mtl LA EM a) (mtl LA EM b) wh 66049 0 (mq0 FD FR BY) = o2) :
    pn o = qn o2 ∧ (∀ L WD k, k < pn o → wf o.2.2.2.2.2.2.1 (pn o) o.2.1 L k = qw o2 WD k) ∧ QI o.2.2 ∧ (o.1 = 0 ↔ o2.1 = 0) ∧ (wa = 3 → o.1 = (if o2.1 = 0 then 0 else if mtl LA EM a (o2.2.2.1 (o2.1 - 1) / 257) = 0 then 2 else 1)) := by
  have b1 := SLR_b h1
  have b2 := SLR_b h2
  have hr : ∀ x y, PC n1 n2 x y → r2 false x y ≤ 256 := fun x y h => by
    have := pow8 b2.2.2.2.2.2.2.2.1
    show y ≤ 256
    rcases h.2 with q | q <;> omega
  have hT : ∀ x y, PC n1 n2 x y → (bad wh (mtl LA EM a x) (mtl LA EM b (r2 false x y)) = true ↔ who (tl x en1) (tl y en2) &&& wa ≠ 0) := fun x y h => by
    rw [show r2 false x y = y from rfl, ← tell_eq h1 h.1, ← tell_eq h2 h.2]
    have w := who_b (tl x en1) (tl y en2)
    unfold bad
    rcases hw with ⟨rfl, rfl⟩ | ⟨rfl, rfl⟩
    · rw [if_pos rfl, w.2.1, decide_eq_true_eq, Ne, Ne, w.1]
      cases tl x en1 <;> cases tl y en2 <;> simp
    · rw [if_neg (by decide), if_pos rfl, decide_eq_true_eq, w.2.2.1]
      cases tl x en1 <;> cases tl y en2 <;> simp
  have m := pt_sk (en1 := en1) (en2 := en2) (wa := wa) (wh := wh) (ta := mtl LA EM a) (tb := mtl LA EM b) (PS_c h1 h2) b1.1 b2.1 hr hT 65537 66049 0 (pq0 cp F1 S1 O1) (mq0 FD FR BY) (by decide) (by decide) (QI_0 hc1 hc2) (QR_0 ⟨Or.inl rfl, Or.inl rfl⟩)
  rw [ho, ho2] at m
  obtain ⟨m1, m2⟩ := m
  obtain ⟨s1, s2⟩ := srch m1 m2
  refine ⟨s1, s2, m1.2, ?_, fun hw3 => ?_⟩
  · rcases m2 with ⟨c1, c2⟩ | ⟨c1, c2, -⟩
    · rw [c1, c2]
    · exact ⟨fun q => absurd q c1, fun q => by omega⟩
  · rcases m2 with ⟨c1, c2⟩ | ⟨c1, c2, c3, c4⟩
    · rw [c1, if_pos c2]
    · obtain ⟨p0, p1, p2, p3⟩ := QR_at m1.1 c3 hr
      rw [if_neg (by omega), c2, Nat.add_sub_cancel, p2, ← tell_eq h1 p1.1]
      subst hw3
      rw [(who_b _ _).2.1] at c4
      rw [c4] at c1 ⊢
      have := (who_b (tl (o.2.2.2.2.1 o.2.1) en1) (tl (o.2.2.2.2.2.1 o.2.1) en2)).1
      show who (tl (o.2.2.2.2.1 o.2.1) en1) (tl (o.2.2.2.2.2.1 o.2.1) en2) = if (tl (o.2.2.2.2.1 o.2.1) en1).toNat = 0 then 2 else 1
      cases hx : tl (o.2.2.2.2.1 o.2.1) en1 <;> cases hy : tl (o.2.2.2.2.2.1 o.2.1) en2 <;> first | rfl | (rw [hx, hy] at c1; exact absurd rfl c1)
theorem least_all (h1 : SLR FO1 SP1 en1 n1 MN LT FI LA FL EM a) (h2 : ∀ p, FO2 p = 0) (cp : Nat) (F1 S1 O1 FD FR BY : Nat → Nat) (hc1 : 64 ≤ cp) (hc2 : cp ≤ 131072) {o : Nat × Nat × QZ} {o2 : Nat × QM} (ho : pt FO1 SP1 FO2 SP2 en1 0 1 65537 0 (pq0 cp F1 S1 O1) = o) (ho2 : sk (fun q c => mstep MN LT FI FL a q c) (fun q c => mstep MN LT FI FL a q c) (mtl LA EM a) (mtl LA EM a) 3 66049 0 (mq0 FD FR BY) = o2) :
    pn o = qn o2 ∧ (∀ L WD k, k < pn o → wf o.2.2.2.2.2.2.1 (pn o) o.2.1 L k = qw o2 WD k) ∧ QI o.2.2 ∧ (o.1 = 0 ↔ o2.1 = 0) := by
  have b1 := SLR_b h1
  have hr : ∀ x y, PL1 n1 x y → r2 true x y ≤ 256 := fun x y h => by
    have := pow8 b1.2.2.2.2.2.2.2.1
    show x ≤ 256
    rcases h.1 with q | q <;> omega
  have hT : ∀ x y, PL1 n1 x y → (bad 3 (mtl LA EM a x) (mtl LA EM a (r2 true x y)) = true ↔ who (tl x en1) (tl y 0) &&& 1 ≠ 0) := fun x y h => by
    rw [← tell_eq h1 h.1, show tl y 0 = false from by unfold tl; simp]
    rw [(who_b (tl x en1) false).2.2.2]
    unfold bad
    rw [if_neg (by decide), if_neg (by decide), decide_eq_true_eq]
    cases tl x en1 <;> simp
  have m := pt_sk (en1 := en1) (en2 := 0) (wa := 1) (wh := 3) (ta := mtl LA EM a) (tb := mtl LA EM a) (PS_l (SP2 := SP2) h1 h2) b1.1 (fun p _ => by rw [h2 p]; decide) hr hT 65537 66049 0 (pq0 cp F1 S1 O1) (mq0 FD FR BY) (by decide) (by decide) (QI_0 hc1 hc2) (QR_0 ⟨Or.inl rfl, Or.inl rfl⟩)
  rw [ho, ho2] at m
  obtain ⟨m1, m2⟩ := m
  obtain ⟨s1, s2⟩ := srch m1 m2
  refine ⟨s1, s2, m1.2, ?_⟩
  rcases m2 with ⟨c1, c2⟩ | ⟨c1, c2, -⟩
  · rw [c1, c2]
  · exact ⟨fun q => absurd q c1, fun q => by omega⟩
end CMP
