/-! THE REFERENCE'S QUEUE -/
def BI (sa sb : Nat → Nat → Nat) (t a : Nat) : QM → Prop
  | (n, FD, FR, BY, KN) => (0 < n ∧ FD 0 = 66048 ∧ FR 0 = 0) ∧ (∀ j, 0 < j → j < n → 1 ≤ FR j ∧ FR j ≤ j ∧ FR j ≤ t + 1 ∧ BY j < 4 ∧ FD j = sa (FD (FR j - 1) / 257) (BY j) * 257 + sb (FD (FR j - 1) % 257) (BY j)) ∧ (∀ i j, i ≤ j → j < n → FR i ≤ FR j) ∧ (∀ i c, (i < t ∧ c < 4 ∨ i = t ∧ c < a) → ∃ s, s < n ∧ FD s = sa (FD i / 257) c * 257 + sb (FD i % 257) c ∧ FR s ≤ i + 1) ∧ ∀ x, KN x ≠ 0 → ∃ s, s < n ∧ FD s = x
section BIS
variable {sa sb : Nat → Nat → Nat} {ta tb : Nat → Nat} {wh : Nat}
theorem BI_mg {t a : Nat} {q : QM} (h : BI sa sb t a q) (ht : t < q.1) (ha : a < 4) : BI sa sb t (a + 1) (mg (sa (q.2.1 t / 257) a * 257 + sb (q.2.1 t % 257) a) t a q) ∧ (mg (sa (q.2.1 t / 257) a * 257 + sb (q.2.1 t % 257) a) t a q).2.1 t = q.2.1 t ∧ q.1 ≤ (mg (sa (q.2.1 t / 257) a * 257 + sb (q.2.1 t % 257) a) t a q).1 := by
  obtain ⟨n, FD, FR, BY, KN⟩ := q
  have ht : t < n := ht
  obtain ⟨⟨h1, h2, h3⟩, h4, h5, h6, h7⟩ := h
  show BI sa sb t (a + 1) (mg (sa (FD t / 257) a * 257 + sb (FD t % 257) a) t a (n, FD, FR, BY, KN)) ∧ (mg (sa (FD t / 257) a * 257 + sb (FD t % 257) a) t a (n, FD, FR, BY, KN)).2.1 t = FD t ∧ n ≤ (mg (sa (FD t / 257) a * 257 + sb (FD t % 257) a) t a (n, FD, FR, BY, KN)).1
  rw [mg]
  by_cases hk : KN (sa (FD t / 257) a * 257 + sb (FD t % 257) a) = 0
  · rw [if_pos hk]
    refine ⟨⟨⟨by omega, by rw [va_up_ne _ _ (by omega)]; exact h2, by rw [va_up_ne _ _ (by omega)]; exact h3⟩, fun j hj0 hj => ?_, fun i j hij hj => ?_, fun i c hc => ?_, fun x hx => ?_⟩, va_up_ne _ _ (by omega), by show n ≤ n + 1; omega⟩
    · by_cases e : j = n
      · subst e
        rw [va_up_self, va_up_self, va_up_self, Nat.add_sub_cancel, va_up_ne _ _ (show t ≠ j by omega)]
        exact ⟨by omega, by omega, by omega, ha, rfl⟩
      · obtain ⟨g1, g2, g3, g4, g5⟩ := h4 j hj0 (by omega)
        rw [va_up_ne _ _ e, va_up_ne _ _ e, va_up_ne _ _ e, va_up_ne _ _ (show FR j - 1 ≠ n by omega)]
        exact ⟨g1, g2, g3, g4, g5⟩
    · have hle : ∀ i, i < n → FR i ≤ t + 1 := fun i hi => by
        rcases Nat.eq_zero_or_pos i with z | z
        · subst z; omega
        · exact (h4 i z hi).2.2.1
      by_cases e : j = n
      · subst e
        rw [va_up_self]
        by_cases e2 : i = j
        · subst e2; rw [va_up_self]; exact Nat.le_refl _
        · rw [va_up_ne _ _ e2]; exact hle i (by omega)
      · rw [va_up_ne _ _ e, va_up_ne _ _ (show i ≠ n by omega)]; exact h5 i j hij (by omega)
    · by_cases e : i = t ∧ c = a
      · obtain ⟨e1, e2⟩ := e
        subst e1 e2
        refine ⟨n, by omega, ?_, ?_⟩
        · rw [va_up_self, va_up_ne _ _ (by omega)]
        · rw [va_up_self]; exact Nat.le_refl _
      · obtain ⟨s, s1, s2, s3⟩ := h6 i c (by omega)
        have hi : i < n := by omega
        refine ⟨s, by omega, ?_, ?_⟩
        · rw [va_up_ne _ _ (by omega), va_up_ne _ _ (by omega)]; exact s2
        · rw [va_up_ne _ _ (by omega)]; exact s3
    · by_cases e : x = sa (FD t / 257) a * 257 + sb (FD t % 257) a
      · exact ⟨n, by omega, by rw [va_up_self]; exact e.symm⟩
      · rw [va_up_ne _ _ e] at hx
        obtain ⟨s, s1, s2⟩ := h7 x hx
        exact ⟨s, by omega, by rw [va_up_ne _ _ (by omega)]; exact s2⟩
  · rw [if_neg hk]
    refine ⟨⟨⟨h1, h2, h3⟩, h4, h5, fun i c hc => ?_, h7⟩, rfl, Nat.le_refl _⟩
    by_cases e : i = t ∧ c = a
    · obtain ⟨e1, e2⟩ := e
      subst e1 e2
      obtain ⟨s, s1, s2⟩ := h7 _ hk
      refine ⟨s, s1, s2, ?_⟩
      rcases Nat.eq_zero_or_pos s with z | z
      · subst z; omega
      · exact (h4 s z s1).2.2.1
    · exact h6 i c (by omega)
theorem BI_mi {t : Nat} {q : QM} (h : BI sa sb t 0 q) (ht : t < q.1) : ∀ a, a ≤ 4 → BI sa sb t a (mi (sa (q.2.1 t / 257)) (sb (q.2.1 t % 257)) t q a) ∧ (mi (sa (q.2.1 t / 257)) (sb (q.2.1 t % 257)) t q a).2.1 t = q.2.1 t ∧ q.1 ≤ (mi (sa (q.2.1 t / 257)) (sb (q.2.1 t % 257)) t q a).1 := by
  intro a
  induction a with
  | zero => intro _; exact ⟨h, rfl, Nat.le_refl _⟩
  | succ a ih =>
    intro ha
    obtain ⟨i1, i2, i3⟩ := ih (by omega)
    have g := BI_mg i1 (by omega) (by omega)
    rw [i2] at g
    rw [mi]
    exact ⟨g.1, g.2.1, by have := g.2.2; omega⟩
theorem BI_4 {t : Nat} {q : QM} (h : BI sa sb t 4 q) : BI sa sb (t + 1) 0 q := by
  obtain ⟨n, FD, FR, BY, KN⟩ := q
  obtain ⟨h1, h4, h5, h6, h7⟩ := h
  refine ⟨h1, fun j a b => ?_, h5, fun i c hc => h6 i c (by omega), h7⟩
  obtain ⟨g1, g2, g3, g4, g5⟩ := h4 j a b
  exact ⟨g1, g2, by omega, g4, g5⟩
/-- pairs already looked at stay what they are -/
theorem mg_keep {x t a : Nat} {q : QM} {i : Nat} (hi : i < q.1) : (mg x t a q).2.1 i = q.2.1 i ∧ q.1 ≤ (mg x t a q).1 := by
  obtain ⟨n, FD, FR, BY, KN⟩ := q
  have hi : i < n := hi
  rw [mg]
  split
  · exact ⟨va_up_ne _ _ (by omega), by show n ≤ n + 1; omega⟩
  · exact ⟨rfl, Nat.le_refl _⟩
theorem mi_keep {xa xb : Nat → Nat} {t : Nat} {q : QM} {i : Nat} (hi : i < q.1) : ∀ a, (mi xa xb t q a).2.1 i = q.2.1 i ∧ q.1 ≤ (mi xa xb t q a).1 := by
  intro a
  induction a with
  | zero => exact ⟨rfl, Nat.le_refl _⟩
  | succ a ih =>
    rw [mi]
    have g := mg_keep (x := xa a * 257 + xb a) (t := t) (a := a) (q := mi xa xb t q a) (i := i) (by omega)
    exact ⟨g.1.trans ih.1, by omega⟩
theorem sk_inv : ∀ r t q, BI sa sb t 0 q → (∀ i, i < t → i < q.1 ∧ bad wh (ta (q.2.1 i / 257)) (tb (q.2.1 i % 257)) = false) → (sk sa sb ta tb wh r t q).1 ≠ 0 → ∃ T, (sk sa sb ta tb wh r t q).1 = T + 1 ∧ T < (sk sa sb ta tb wh r t q).2.1 ∧ BI sa sb T 0 (sk sa sb ta tb wh r t q).2 ∧ (∀ i, i < T → bad wh (ta ((sk sa sb ta tb wh r t q).2.2.1 i / 257)) (tb ((sk sa sb ta tb wh r t q).2.2.1 i % 257)) = false) ∧ bad wh (ta ((sk sa sb ta tb wh r t q).2.2.1 T / 257)) (tb ((sk sa sb ta tb wh r t q).2.2.1 T % 257)) = true := by
  intro r
  induction r with
  | zero => intro t q _ _ h; exact absurd rfl h
  | succ r ih =>
    intro t q hB hN h
    by_cases ht : t < q.1
    · by_cases hb : bad wh (ta (q.2.1 t / 257)) (tb (q.2.1 t % 257)) = true
      · have e : sk sa sb ta tb wh (r + 1) t q = (t + 1, q) := by rw [sk, if_pos ht, if_pos hb]
        rw [e]
        exact ⟨t, rfl, ht, hB, fun i hi => (hN i hi).2, hb⟩
      · have e : sk sa sb ta tb wh (r + 1) t q = sk sa sb ta tb wh r (t + 1) (mi (sa (q.2.1 t / 257)) (sb (q.2.1 t % 257)) t q 4) := by rw [sk, if_pos ht, if_neg hb]
        rw [e] at h ⊢
        refine ih (t + 1) _ (BI_4 (BI_mi hB ht 4 (Nat.le_refl _)).1) (fun i hi => ?_) h
        have hiq : i < q.1 := by omega
        have g := mi_keep (xa := sa (q.2.1 t / 257)) (xb := sb (q.2.1 t % 257)) (t := t) (q := q) (i := i) hiq 4
        refine ⟨by omega, ?_⟩
        rw [g.1]
        rcases Nat.lt_or_ge i t with z | z
        · exact (hN i z).2
        · rw [show i = t by omega]; exact Bool.eq_false_iff.mpr hb
    · have e : sk sa sb ta tb wh (r + 1) t q = (0, q) := by rw [sk, if_neg ht]
      rw [e] at h
      exact absurd rfl h
theorem BI_0 {FD FR BY : Nat → Nat} : BI sa sb 0 0 (mq0 FD FR BY) := by
  refine ⟨⟨by decide, va_up_self _ _ _, va_up_self _ _ _⟩, fun j h1 h2 => by omega, fun i j h1 h2 => ?_, fun i c h => by omega, fun x hx => ⟨0, by decide, ?_⟩⟩
  · have e1 : i = 0 := by omega
    have e2 : j = 0 := by omega
    rw [e1, e2]; exact Nat.le_refl _
  · rw [va_up_self]
    refine Classical.byContradiction (fun hc => hx ?_)
    rw [va_up_ne _ _ (fun q => hc q.symm)]
end BIS
section BND2
variable {FO1 SP1 FO2 SP2 : Nat → Nat} {en1 n1 en2 n2 : Nat} {MN LT FI LA FL EM : Nat → Nat} {a b : Nat}
theorem mstp256 (h : SLR FO1 SP1 en1 n1 MN LT FI LA FL EM a) (x c : Nat) : mstep MN LT FI FL a x c < 256 := mstep_lt (SLR_b h).2.2.1
theorem dm257 {x y : Nat} (h : y < 256) : (x * 257 + y) / 257 = x ∧ (x * 257 + y) % 257 = y := ⟨by omega, by omega⟩
theorem mtl_1 (h : SLR FO1 SP1 en1 n1 MN LT FI LA FL EM a) (x : Nat) : mtl LA EM a x ≤ 1 := by
  unfold mtl
  split
  · exact (SLR_b h).2.2.2.2.2.2.1
  · exact bT1 _
theorem seek_short (h1 : SLR FO1 SP1 en1 n1 MN LT FI LA FL EM a) (h2 : SLR FO2 SP2 en2 n2 MN LT FI LA FL EM b) {FD FR BY : Nat → Nat} {wh : Nat} {o2 : Nat × QM} (ho2 : sk (fun q c => mstep MN LT FI FL a q c) (fun q c => mstep MN LT FI FL b q c) (mtl LA EM a) (mtl LA EM b) wh 66049 0 (mq0 FD FR BY) = o2) : qn o2 ≤ 2048 := by
  by_cases h0 : o2.1 = 0
  · rw [qn_0 h0]; decide
  · have hi := sk_inv (sa := fun q c => mstep MN LT FI FL a q c) (sb := fun q c => mstep MN LT FI FL b q c) (ta := mtl LA EM a) (tb := mtl LA EM b) (wh := wh) 66049 0 (mq0 FD FR BY) BI_0 (fun i hi => absurd hi (Nat.not_lt_zero _)) (by rw [ho2]; exact h0)
    rw [ho2] at hi
    obtain ⟨T, t1, t2, t3, t4, t5⟩ := hi
    unfold qn
    rw [if_neg h0, t1, Nat.add_sub_cancel]
    obtain ⟨x, n, F, R, Bb, K⟩ := o2
    have t2 : T < n := t2
    obtain ⟨⟨g1, g2, g3⟩, g4, g5, g6, g7⟩ := t3
    have t4 : ∀ i, i < T → bad wh (mtl LA EM a (F i / 257)) (mtl LA EM b (F i % 257)) = false := t4
    have t5 : bad wh (mtl LA EM a (F T / 257)) (mtl LA EM b (F T % 257)) = true := t5
    have m1 := mstp256 h1
    have m2 := mstp256 h2
    show ml R n T ≤ 2048
    have one : ∀ (G : Nat → Prop), (∀ i, i < T → ¬ (mtl LA EM a (F i / 257) ≠ 0 ∧ G (F i % 257))) → (mtl LA EM a (F T / 257) ≠ 0 ∧ G (F T % 257)) → ml R n T ≤ 2048 := fun G k1 k2 =>
      bfs_bound (BY := Bb) h1 (fun j => F j / 257) (fun j => F j % 257) (fun q c => mstep MN LT FI FL b q c) G ⟨g3, fun j a1 a2 => ⟨(g4 j a1 a2).1, (g4 j a1 a2).2.1⟩⟩ g5 t2 (by show F 0 / 257 = 256; rw [g2]) (by show F 0 % 257 = 256; rw [g2]) (fun y c => m2 y c) (fun j a1 a2 => by
        obtain ⟨e1, e2, e3, e4, e5⟩ := g4 j a1 a2
        refine ⟨e4, ?_, ?_⟩
        · show F j / 257 = _; rw [e5]; exact (dm257 (m2 _ _)).1
        · show F j % 257 = _; rw [e5]; exact (dm257 (m2 _ _)).2) (fun i hi c hc => by
        obtain ⟨s, s1, s2, s3⟩ := g6 i c (Or.inl ⟨hi, hc⟩)
        refine ⟨s, s1, ?_, ?_, s3⟩
        · show F s / 257 = _; rw [s2]; exact (dm257 (m2 _ _)).1
        · show F s % 257 = _; rw [s2]; exact (dm257 (m2 _ _)).2) k1 k2
    have two : ∀ (G : Nat → Prop), (∀ i, i < T → ¬ (mtl LA EM b (F i % 257) ≠ 0 ∧ G (F i / 257))) → (mtl LA EM b (F T % 257) ≠ 0 ∧ G (F T / 257)) → ml R n T ≤ 2048 := fun G k1 k2 =>
      bfs_bound (BY := Bb) h2 (fun j => F j % 257) (fun j => F j / 257) (fun q c => mstep MN LT FI FL a q c) G ⟨g3, fun j a1 a2 => ⟨(g4 j a1 a2).1, (g4 j a1 a2).2.1⟩⟩ g5 t2 (by show F 0 % 257 = 256; rw [g2]) (by show F 0 / 257 = 256; rw [g2]) (fun y c => m1 y c) (fun j a1 a2 => by
        obtain ⟨e1, e2, e3, e4, e5⟩ := g4 j a1 a2
        refine ⟨e4, ?_, ?_⟩
        · show F j % 257 = _; rw [e5]; exact (dm257 (m2 _ _)).2
        · show F j / 257 = _; rw [e5]; exact (dm257 (m2 _ _)).1) (fun i hi c hc => by
        obtain ⟨s, s1, s2, s3⟩ := g6 i c (Or.inl ⟨hi, hc⟩)
        refine ⟨s, s1, ?_, ?_, s3⟩
        · show F s % 257 = _; rw [s2]; exact (dm257 (m2 _ _)).2
        · show F s / 257 = _; rw [s2]; exact (dm257 (m2 _ _)).1) k1 k2
    have l1 := fun i => mtl_1 h1 (F i / 257)
    have l2 := fun i => mtl_1 h2 (F i % 257)
    unfold bad at t4 t5
    by_cases w1 : wh = 1
    · rw [if_pos w1] at t5
      have t5 := of_decide_eq_true t5
      have t4 : ∀ i, i < T → mtl LA EM a (F i / 257) = mtl LA EM b (F i % 257) := fun i hi => by
        have := t4 i hi
        rw [if_pos w1] at this
        exact Classical.byContradiction (fun q => absurd q (of_decide_eq_false this))
      by_cases e : mtl LA EM a (F T / 257) = 0
      · exact two (fun y => mtl LA EM a y = 0) (fun i hi q => q.1 (by rw [← t4 i hi]; exact q.2)) ⟨fun q => t5 (by rw [e, q]), e⟩
      · exact one (fun y => mtl LA EM b y = 0) (fun i hi q => q.1 (by rw [t4 i hi]; exact q.2)) ⟨e, by have := l1 T; have := l2 T; omega⟩
    · by_cases w2 : wh = 2
      · rw [if_neg w1, if_pos w2] at t5
        have t5 := of_decide_eq_true t5
        exact two (fun y => mtl LA EM a y = 0) (fun i hi q => by
          have := t4 i hi
          rw [if_neg w1, if_pos w2] at this
          exact of_decide_eq_false this q) t5
      · rw [if_neg w1, if_neg w2] at t5
        have t5 := of_decide_eq_true t5
        exact one (fun _ => True) (fun i hi q => by
          have := t4 i hi
          rw [if_neg w1, if_neg w2] at this
          exact of_decide_eq_false this q.1) ⟨t5, trivial⟩
end BND2
