/-! THE MACHINE: what build makes; tallies -/
def BM (FO SP : Nat → Nat) (en : Nat) (P : Nat → Prop) (q a : Nat) : MZ → (Nat → Nat) → Prop
  | (z, SE, _, AC), NX => (0 < z ∧ SE 0 = 256) ∧ (∀ j, j < z → P (SE j) ∧ AC j = (tl (SE j) en).toNat) ∧ ∀ j c, (j < q ∧ c < 4 ∨ j = q ∧ c < a) → NX (j * 4 + c) < z ∧ SE (NX (j * 4 + c)) = onw FO (SE j) 9 &&& SP c
section BLD
variable {FO SP : Nat → Nat} {en : Nat} {P : Nat → Prop}
theorem nq_sp {S : Nat} {m : MZ} (h : MI m) (hS : S < 257) : m.1 ≤ (nq en S m).1 ∧ (∀ j, j < m.1 → (nq en S m).2.1 j = m.2.1 j ∧ (nq en S m).2.2.2 j = m.2.2.2 j) ∧ (nq en S m).2.2.1 S - 1 < (nq en S m).1 ∧ (nq en S m).2.1 ((nq en S m).2.2.1 S - 1) = S ∧ (∀ j, m.1 ≤ j → j < (nq en S m).1 → (nq en S m).2.1 j = S ∧ (nq en S m).2.2.2 j = (tl S en).toNat) := by
  obtain ⟨z, SE, NU, AC⟩ := m
  obtain ⟨h1, h2, h3, h4⟩ := h
  show z ≤ (nq en S (z, SE, NU, AC)).1 ∧ (∀ j, j < z → (nq en S (z, SE, NU, AC)).2.1 j = SE j ∧ (nq en S (z, SE, NU, AC)).2.2.2 j = AC j) ∧ _ ∧ _ ∧ (∀ j, z ≤ j → _)
  rw [nq]
  by_cases e : NU S = 0
  · rw [if_pos e]
    refine ⟨by show z ≤ z + 1; omega, fun j hj => ⟨va_up_ne _ _ (by omega), va_up_ne _ _ (by omega)⟩, ?_, ?_, fun j a b => ?_⟩
    · show va_up NU S (z + 1) S - 1 < z + 1
      rw [va_up_self]; omega
    · show va_up SE z S (va_up NU S (z + 1) S - 1) = S
      rw [va_up_self, Nat.add_sub_cancel, va_up_self]
    · have ej : j = z := by have b : j < z + 1 := b; omega
      subst ej
      refine ⟨va_up_self _ _ _, ?_⟩
      show va_up AC j (if S &&& en = 0 then 0 else 1) j = _
      rw [va_up_self, tl_if]
  · rw [if_neg e]
    obtain ⟨g1, g2⟩ := h3 S hS e
    exact ⟨Nat.le_refl _, fun j hj => ⟨rfl, rfl⟩, by show NU S - 1 < z; omega, g2, fun j a b => by have b : j < z := b; omega⟩
theorem BM_bi {q : Nat} {m : MZ} {NX : Nat → Nat} (hF : ∀ p, p < 9 → FO p < 256) (hP : ∀ S c, P S → c < 4 → P (onw FO S 9 &&& SP c)) (hm : MI m) (hN : NI NX) (h : BM FO SP en P q 0 m NX) (hq : q < m.1) : ∀ a, a ≤ 4 → BM FO SP en P q a (bi SP en (onw FO (m.2.1 q) 9) q m NX a).1 (bi SP en (onw FO (m.2.1 q) 9) q m NX a).2 ∧ m.1 ≤ (bi SP en (onw FO (m.2.1 q) 9) q m NX a).1.1 ∧ (∀ j, j < m.1 → (bi SP en (onw FO (m.2.1 q) 9) q m NX a).1.2.1 j = m.2.1 j) := by
  intro a
  induction a with
  | zero => intro _; exact ⟨h, Nat.le_refl _, fun _ _ => rfl⟩
  | succ a ih =>
    intro ha
    obtain ⟨i1, i2, i3⟩ := ih (by omega)
    have ho := onw_lt (S := m.2.1 q) hF 9 (Nat.le_refl _)
    have hok := bi_ok (SP := SP) (en := en) (q := q) ho hm hN a
    have hS : onw FO (m.2.1 q) 9 &&& SP a < 257 := Nat.lt_of_le_of_lt Nat.and_le_left (by omega)
    have g := nq_sp (en := en) hok.1 hS
    rw [bi]
    generalize hb : bi SP en (onw FO (m.2.1 q) 9) q m NX a = b at i1 i2 i3 hok g ⊢
    obtain ⟨⟨z, SE, NU, AC⟩, N2⟩ := b
    generalize hn : nq en (onw FO (m.2.1 q) 9 &&& SP a) (z, SE, NU, AC) = n2 at g ⊢
    obtain ⟨z2, SE2, NU2, AC2⟩ := n2
    obtain ⟨⟨k1, k1b⟩, k2, k3⟩ := i1
    obtain ⟨g1, g2, g3, g4, g5⟩ := g
    have g1 : z ≤ z2 := g1
    have g2 : ∀ j, j < z → SE2 j = SE j ∧ AC2 j = AC j := g2
    have g3 : NU2 (onw FO (m.2.1 q) 9 &&& SP a) - 1 < z2 := g3
    have g4 : SE2 (NU2 (onw FO (m.2.1 q) 9 &&& SP a) - 1) = onw FO (m.2.1 q) 9 &&& SP a := g4
    have g5 : ∀ j, z ≤ j → j < z2 → SE2 j = onw FO (m.2.1 q) 9 &&& SP a ∧ AC2 j = (tl (onw FO (m.2.1 q) 9 &&& SP a) en).toNat := g5
    have i2 : m.1 ≤ z := i2
    have i3 : ∀ j, j < m.1 → SE j = m.2.1 j := i3
    have hPq : P (m.2.1 q) := by rw [← i3 q hq]; exact (k2 q (by omega)).1
    refine ⟨⟨⟨by omega, by rw [(g2 0 k1).1]; exact k1b⟩, fun j hj => ?_, fun j c hc => ?_⟩, by show m.1 ≤ z2; omega, fun j hj => by show SE2 j = _; rw [(g2 j (by omega)).1]; exact i3 j hj⟩
    · rcases Nat.lt_or_ge j z with zz | zz
      · rw [(g2 j zz).1, (g2 j zz).2]; exact k2 j zz
      · rw [(g5 j zz hj).1, (g5 j zz hj).2]; exact ⟨hP _ a hPq (by omega), rfl⟩
    · show va_up N2 (q * 4 + a) (NU2 (onw FO (m.2.1 q) 9 &&& SP a) - 1) (j * 4 + c) < z2 ∧ SE2 (va_up N2 (q * 4 + a) (NU2 (onw FO (m.2.1 q) 9 &&& SP a) - 1) (j * 4 + c)) = onw FO (SE2 j) 9 &&& SP c
      have hjz : j < z := by omega
      by_cases e : j = q ∧ c = a
      · obtain ⟨e1, e2⟩ := e
        subst e1 e2
        rw [va_up_self]
        refine ⟨g3, ?_⟩
        rw [g4, (g2 j hjz).1, i3 j hq]
      · rw [va_up_ne _ _ (by omega), (g2 j hjz).1]
        obtain ⟨x1, x2⟩ := k3 j c (by omega)
        exact ⟨Nat.lt_of_lt_of_le x1 g1, by rw [(g2 _ x1).1]; exact x2⟩
theorem BM_bo (hF : ∀ p, p < 9 → FO p < 256) (hP : ∀ S c, P S → c < 4 → P (onw FO S 9 &&& SP c)) : ∀ r q m NX, q + r = 257 → MI m → NI NX → BM FO SP en P q 0 m NX → BM FO SP en P (bo FO SP en r q m NX).1.1 0 (bo FO SP en r q m NX).1 (bo FO SP en r q m NX).2 := by
  intro r
  induction r with
  | zero =>
    intro q m NX hq hm hN h
    obtain ⟨z, SE, NU, AC⟩ := m
    have hz := hm.1
    obtain ⟨h1, h2, h3⟩ := h
    exact ⟨h1, h2, fun j c hc => by
      have hc : j < z ∧ c < 4 ∨ j = z ∧ c < 0 := hc
      exact h3 j c (by omega)⟩
  | succ r ih =>
    intro q m NX hq hm hN h
    by_cases hz : q < m.1
    · have e : bo FO SP en (r + 1) q m NX = bo FO SP en r (q + 1) (bi SP en (onw FO (m.2.1 q) 9) q m NX 4).1 (bi SP en (onw FO (m.2.1 q) 9) q m NX 4).2 := by rw [bo, if_pos hz]
      rw [e]
      have ho := onw_lt (S := m.2.1 q) hF 9 (Nat.le_refl _)
      have hok := bi_ok (SP := SP) (en := en) (q := q) ho hm hN 4
      have g := (BM_bi hF hP hm hN h hz 4 (Nat.le_refl _)).1
      refine ih (q + 1) _ _ (by omega) hok.1 hok.2 ?_
      generalize bi SP en (onw FO (m.2.1 q) 9) q m NX 4 = b at g ⊢
      obtain ⟨⟨z, SE, NU, AC⟩, N2⟩ := b
      obtain ⟨h1, h2, h3⟩ := g
      exact ⟨h1, h2, fun j c hc => h3 j c (by omega)⟩
    · have e : bo FO SP en (r + 1) q m NX = (m, NX) := by rw [bo, if_neg hz]
      rw [e]
      obtain ⟨z, SE, NU, AC⟩ := m
      have hz : ¬ q < z := hz
      obtain ⟨h1, h2, h3⟩ := h
      exact ⟨h1, h2, fun j c hc => by
        have hc : j < z ∧ c < 4 ∨ j = z ∧ c < 0 := hc
        exact h3 j c (by omega)⟩
theorem bld_spec {SE AC NX : Nat → Nat} (hF : ∀ p, p < 9 → FO p < 256) (hP : ∀ S c, P S → c < 4 → P (onw FO S 9 &&& SP c)) (h0 : P 256) (hA : ∀ x, x < 257 → AC x < 1000) (hN : NI NX) {b : MZ × (Nat → Nat)} (hb : bld FO SP en SE AC NX = b) :
    (0 < b.1.1 ∧ b.1.2.1 0 = 256) ∧ (∀ j, j < b.1.1 → P (b.1.2.1 j) ∧ b.1.2.2.2 j = (tl (b.1.2.1 j) en).toNat) ∧ (∀ j c, j < b.1.1 → c < 4 → b.2 (j * 4 + c) < b.1.1 ∧ b.1.2.1 (b.2 (j * 4 + c)) = onw FO (b.1.2.1 j) 9 &&& SP c) ∧ (MI b.1 ∧ NI b.2) := by
  have hok := bld_ok (FO := FO) (SP := SP) (en := en) (SE := SE) hF hA hN
  have h1 := MI_nq (en := en) (MI_0 (SE := SE) hA) (show 256 < 257 by decide)
  have hs : BM FO SP en P 0 0 (nq en 256 (0, SE, fun _ => 0, AC)) NX := by
    rw [nq, if_pos rfl]
    refine ⟨⟨by decide, va_up_self _ _ _⟩, fun j hj => ?_, fun j c hc => by omega⟩
    have e : j = 0 := by omega
    subst e
    rw [va_up_self, va_up_self, tl_if]
    exact ⟨h0, rfl⟩
  have g := BM_bo hF hP 257 0 _ NX (by decide) h1 hN hs
  have e : bo FO SP en 257 0 (nq en 256 (0, SE, fun _ => 0, AC)) NX = b := hb
  rw [e] at g
  rw [hb] at hok
  obtain ⟨⟨z, S2, NU, A2⟩, N2⟩ := b
  obtain ⟨g1, g2, g3⟩ := g
  exact ⟨g1, g2, fun j c hj hc => g3 j c (Or.inl ⟨hj, hc⟩), hok⟩
end BLD
/-- how many words of r letters lead from q to an end -/
def V (st : Nat → Nat → Nat) (te : Nat → Nat) : Nat → Nat → Nat
  | 0, q => te q
  | r + 1, q => V st te r (st q 0) + V st te r (st q 1) + V st te r (st q 2) + V st te r (st q 3)
theorem V_le {st : Nat → Nat → Nat} {te : Nat → Nat} (h : ∀ q, te q ≤ 1) : ∀ r q, V st te r q ≤ 4 ^ r := by
  intro r
  induction r with
  | zero => intro q; exact h q
  | succ r ih =>
    intro q
    have a := ih (st q 0); have b := ih (st q 1); have c := ih (st q 2); have d := ih (st q 3)
    rw [V, Nat.pow_succ]
    omega
theorem V_63 {st : Nat → Nat → Nat} {te : Nat → Nat} (h : ∀ q, te q ≤ 1) {r : Nat} (hr : r ≤ 30) (q : Nat) : V st te r q < 2 ^ 63 := by
  have h1 := V_le (st := st) h r q
  have h2 : 4 ^ r ≤ 4 ^ 30 := Nat.pow_le_pow_right (by decide) hr
  have h3 : 4 ^ 30 < 2 ^ 63 := by decide
  omega
section TLY
variable {st : Nat → Nat → Nat} {te : Nat → Nat}
theorem tvm4 (s : Nat → Nat) (W : Nat → Nat) (sh : Nat) : tvm s W sh 4 = W (sh + s 0) + W (sh + s 1) + W (sh + s 2) + W (sh + s 3) := by
  simp [tvm]
theorem rrw_at (hst : ∀ q c, st q c < 257) (n : Nat) (WY : Nat → Nat) : ∀ q x, rrw st te n WY q x = if n * 257 ≤ x ∧ x < n * 257 + q then (if n = 0 then te (x - n * 257) else tvm (st (x - n * 257)) WY ((n - 1) * 257) 4) else WY x := by
  intro q
  induction q with
  | zero => intro x; rw [rrw, if_neg (by omega)]
  | succ q ih =>
    intro x
    rw [rrw]
    by_cases e : x = n * 257 + q
    · subst e
      rw [va_up_self, if_pos (show n * 257 ≤ n * 257 + q ∧ n * 257 + q < n * 257 + (q + 1) from ⟨by omega, by omega⟩), Nat.add_sub_cancel_left]
      by_cases n0 : n = 0
      · rw [if_pos n0, if_pos n0]
      · rw [if_neg n0, if_neg n0, tvm4, tvm4]
        have hx : ∀ c, rrw st te n WY q ((n - 1) * 257 + st q c) = WY ((n - 1) * 257 + st q c) := fun c => by
          have := hst q c
          rw [ih, if_neg]
          intro hc
          have : (n - 1) * 257 + 257 = n * 257 := by
            obtain ⟨k, rfl⟩ : ∃ k, n = k + 1 := ⟨n - 1, by omega⟩
            rw [Nat.add_sub_cancel, Nat.add_mul]
          omega
        rw [hx, hx, hx, hx]
    · rw [va_up_ne _ _ e, ih]
      by_cases h : n * 257 ≤ x ∧ x < n * 257 + q
      · rw [if_pos h, if_pos (show n * 257 ≤ x ∧ x < n * 257 + (q + 1) from ⟨h.1, by omega⟩)]
      · rw [if_neg h, if_neg (show ¬ (n * 257 ≤ x ∧ x < n * 257 + (q + 1)) by omega)]
theorem rck_V (hst : ∀ q c, st q c < 257) (WY : Nat → Nat) : ∀ m r q, r < m → q < 257 → rck st te WY m (r * 257 + q) = V st te r q := by
  intro m
  induction m with
  | zero => intro r q hr; omega
  | succ m ih =>
    intro r q hr hq
    rw [rck, rrw_at hst]
    by_cases e : r = m
    · subst e
      rw [if_pos (show r * 257 ≤ r * 257 + q ∧ r * 257 + q < r * 257 + 257 from ⟨by omega, by omega⟩), Nat.add_sub_cancel_left]
      cases r with
      | zero => rw [if_pos rfl]; rfl
      | succ r =>
        rw [if_neg (by omega), Nat.add_sub_cancel, tvm4, V]
        rw [ih r _ (by omega) (hst q 0), ih r _ (by omega) (hst q 1), ih r _ (by omega) (hst q 2), ih r _ (by omega) (hst q 3)]
    · rw [if_neg (by omega)]
      exact ih r q (by omega) hq
variable {NX AC SE : Nat → Nat} {z : Nat}
theorem tov4 (NX TL : Nat → Nat) (q sh : Nat) : tov NX TL q sh 4 = TL (sh + NX (q * 4 + 0)) + TL (sh + NX (q * 4 + 1)) + TL (sh + NX (q * 4 + 2)) + TL (sh + NX (q * 4 + 3)) := by
  simp [tov]
theorem tl0_at (AC TL : Nat → Nat) : ∀ s x, tl0 AC TL s x = if x < s then AC x else TL x := by
  intro s
  induction s with
  | zero => intro x; rw [tl0, if_neg (by omega)]
  | succ s ih =>
    intro x
    rw [tl0]
    by_cases e : x = s
    · subst e; rw [va_up_self, if_pos (by omega)]
    · rw [va_up_ne _ _ e, ih]
      by_cases h : x < s
      · rw [if_pos h, if_pos (by omega)]
      · rw [if_neg h, if_neg (by omega)]
theorem trow_at (hz : z ≤ 257) (hN : ∀ j c, j < z → c < 4 → NX (j * 4 + c) < z) (TL : Nat → Nat) (n : Nat) (hn : 0 < n) : ∀ s x, s ≤ z → trow NX TL n s x = if n * 257 ≤ x ∧ x < n * 257 + s then tov NX TL (x - n * 257) ((n - 1) * 257) 4 else TL x := by
  intro s
  induction s with
  | zero => intro x _; rw [trow, if_neg (by omega)]
  | succ s ih =>
    intro x hs
    rw [trow]
    by_cases e : x = n * 257 + s
    · subst e
      rw [va_up_self, if_pos (show n * 257 ≤ n * 257 + s ∧ n * 257 + s < n * 257 + (s + 1) from ⟨by omega, by omega⟩), Nat.add_sub_cancel_left, tov4, tov4]
      have hx : ∀ c, c < 4 → trow NX TL n s ((n - 1) * 257 + NX (s * 4 + c)) = TL ((n - 1) * 257 + NX (s * 4 + c)) := fun c hc => by
        have := hN s c (by omega) hc
        rw [ih _ (by omega), if_neg]
        intro hc2
        have : (n - 1) * 257 + 257 = n * 257 := by
          obtain ⟨k, rfl⟩ : ∃ k, n = k + 1 := ⟨n - 1, by omega⟩
          rw [Nat.add_sub_cancel, Nat.add_mul]
        omega
      rw [hx 0 (by decide), hx 1 (by decide), hx 2 (by decide), hx 3 (by decide)]
    · rw [va_up_ne _ _ e, ih _ (by omega)]
      by_cases h : n * 257 ≤ x ∧ x < n * 257 + s
      · rw [if_pos h, if_pos (show n * 257 ≤ x ∧ x < n * 257 + (s + 1) from ⟨h.1, by omega⟩)]
      · rw [if_neg h, if_neg (show ¬ (n * 257 ≤ x ∧ x < n * 257 + (s + 1)) by omega)]
/-- the class's tallies are these numbers, and what it did not write is as it was -/
theorem tal_V (hz : z ≤ 257) (hN : ∀ j c, j < z → c < 4 → NX (j * 4 + c) < z) (hst : ∀ j c, j < z → c < 4 → SE (NX (j * 4 + c)) = st (SE j) c) (hte : ∀ j, j < z → AC j = te (SE j)) (TL : Nat → Nat) : ∀ len r j, r ≤ len → j < z → tal NX AC TL z len (r * 257 + j) = V st te r (SE j) := by
  intro len
  induction len with
  | zero =>
    intro r j hr hj
    have e : r = 0 := by omega
    subst e
    rw [tal, tl0_at, if_pos (by omega), Nat.zero_mul, Nat.zero_add]
    exact hte j hj
  | succ len ih =>
    intro r j hr hj
    rw [tal, trow_at hz hN _ _ (by omega) _ _ (Nat.le_refl _)]
    by_cases e : r = len + 1
    · subst e
      rw [if_pos (show (len + 1) * 257 ≤ (len + 1) * 257 + j ∧ (len + 1) * 257 + j < (len + 1) * 257 + z from ⟨by omega, by omega⟩), Nat.add_sub_cancel_left, Nat.add_sub_cancel, tov4, V]
      rw [ih len _ (by omega) (hN j 0 hj (by decide)), ih len _ (by omega) (hN j 1 hj (by decide)), ih len _ (by omega) (hN j 2 hj (by decide)), ih len _ (by omega) (hN j 3 hj (by decide))]
      rw [hst j 0 hj (by decide), hst j 1 hj (by decide), hst j 2 hj (by decide), hst j 3 hj (by decide)]
    · rw [if_neg (by omega)]
      exact ih r j (by omega) hj
theorem tal_63 (hz : z ≤ 257) (hN : ∀ j c, j < z → c < 4 → NX (j * 4 + c) < z) (hst : ∀ j c, j < z → c < 4 → SE (NX (j * 4 + c)) = st (SE j) c) (hte : ∀ j, j < z → AC j = te (SE j)) (h1 : ∀ q, te q ≤ 1) {TL : Nat → Nat} (hT : ∀ x, TL x < 2 ^ 63) : ∀ len, len ≤ 30 → ∀ x, tal NX AC TL z len x < 2 ^ 63 := by
  intro len
  induction len with
  | zero =>
    intro _ x
    rw [tal, tl0_at]
    split
    · rename_i h; rw [hte x h]; have := h1 (SE x); omega
    · exact hT x
  | succ len ih =>
    intro hl x
    by_cases h : (len + 1) * 257 ≤ x ∧ x < (len + 1) * 257 + z
    · obtain ⟨j, rfl⟩ : ∃ j, x = (len + 1) * 257 + j := ⟨x - (len + 1) * 257, by omega⟩
      rw [tal_V hz hN hst hte TL (len + 1) (len + 1) j (Nat.le_refl _) (by omega)]
      exact V_63 h1 hl _
    · rw [tal, trow_at hz hN _ _ (by omega) _ _ (Nat.le_refl _), if_neg h]
      exact ih (by omega) x
/-- the letters of the k-th word -/
theorem spl_m {T W : Nat → Nat} {q sh : Nat} (h : ∀ c, c < 4 → T (sh + NX (q * 4 + c)) = W (sh + st (SE q) c)) : ∀ r c k, c + r ≤ 4 → spl NX T q sh r c k = mspl st W (SE q) sh r c k := by
  intro r
  induction r with
  | zero => intro c k _; rfl
  | succ r ih =>
    intro c k hc
    rw [spl, mspl, h c (by omega)]
    split
    · exact ih (c + 1) _ (by omega)
    · rfl
theorem spw_m (hN : ∀ j c, j < z → c < 4 → NX (j * 4 + c) < z) (hst : ∀ j c, j < z → c < 4 → SE (NX (j * 4 + c)) = st (SE j) c) {T W : Nat → Nat} {len : Nat} (hT : ∀ r j, r ≤ len → j < z → T (r * 257 + j) = W (r * 257 + SE j)) : ∀ r i q k L WD mm, r ≤ len → q < z → i + r = mm → (∀ x, x < i → L x = WD x) → ∀ x, x < mm → spw NX T r i q k L x = mspw st W r i (SE q) k WD x := by
  intro r
  induction r with
  | zero => intro i q k L WD mm _ _ hm hL x hx; exact hL x (by omega)
  | succ r ih =>
    intro i q k L WD mm hr hq hm hL x hx
    have e := spl_m (NX := NX) (st := st) (SE := SE) (T := T) (W := W) (q := q) (sh := r * 257) (fun c hc => by rw [hT r _ (by omega) (hN q c hq hc), hst q c hq hc]) 3 0 k (by decide)
    have hl := (spl_ok NX T q (r * 257) 3 0 k).1
    rw [spw, mspw, ← e, ← hst q _ hq (by omega)]
    refine ih (i + 1) _ _ _ _ mm (by omega) (hN q _ hq (by omega)) (by omega) (fun y hy => ?_) x hx
    by_cases ey : y = i
    · subst ey; rw [va_up_self, va_up_self]
    · rw [va_up_ne _ _ ey, va_up_ne _ _ ey]; exact hL y (by omega)
end TLY
