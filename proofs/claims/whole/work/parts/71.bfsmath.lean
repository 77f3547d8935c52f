/-! THE LEAST WORD IS SHORT -/
theorem dm256 {w : Nat} (q : Nat) (h : w < 256) : (q * 256 + w) / 256 = q ∧ (q * 256 + w) % 256 = w := ⟨by omega, by omega⟩
section BFS
variable {FR : Nat → Nat} {n : Nat}
theorem ml_fuel (h0 : ∀ j, j < n → FR j ≤ j) : ∀ r r2 x, x < n → x ≤ r → x ≤ r2 → ml FR r x = ml FR r2 x := by
  intro r
  induction r with
  | zero =>
    intro r2 x hx h1 h2
    have e : x = 0 := by omega
    subst e
    have := h0 0 hx
    cases r2 with
    | zero => rfl
    | succ r2 => rw [ml, ml, if_pos (by omega)]
  | succ r ih =>
    intro r2 x hx h1 h2
    have g := h0 x hx
    cases r2 with
    | zero =>
      have e : x = 0 := by omega
      subst e
      rw [ml, ml, if_pos (by omega)]
    | succ r2 =>
      rw [ml, ml]
      by_cases e : FR x = 0
      · rw [if_pos e, if_pos e]
      · rw [if_neg e, if_neg e, ih r2 (FR x - 1) (by omega) (by omega) (by omega)]
theorem ml_mono (h0 : ∀ j, j < n → FR j ≤ j) (hm : ∀ i j, i ≤ j → j < n → FR i ≤ FR j) : ∀ r i j, i ≤ j → j < n → ml FR r i ≤ ml FR r j := by
  intro r
  induction r with
  | zero => intro i j _ _; exact Nat.le_refl _
  | succ r ih =>
    intro i j hij hj
    have g := hm i j hij hj
    have g2 := h0 j hj
    rw [ml, ml]
    by_cases e : FR i = 0
    · rw [if_pos e]; exact Nat.zero_le _
    · rw [if_neg e, if_neg (by omega)]
      have := ih (FR i - 1) (FR j - 1) (by omega) (by omega)
      omega
theorem ml_s (h0 : ∀ j, j < n → FR j ≤ j) {x : Nat} (hx : x < n) (e : FR x ≠ 0) : ml FR n x = 1 + ml FR n (FR x - 1) := by
  have g := h0 x hx
  obtain ⟨k, rfl⟩ : ∃ k, n = k + 1 := ⟨n - 1, by omega⟩
  have h1 : ml FR (k + 1) x = 1 + ml FR k (FR x - 1) := by rw [ml, if_neg e]
  rw [h1, ml_fuel h0 k (k + 1) (FR x - 1) (by omega) (by omega) (by omega)]
/-- a way through N places can be cut to N steps -/
theorem cut (N : Nat) (I : Nat → Prop) (E : Nat → Nat → Prop) : ∀ m (f : Nat → Nat), (∀ i, i ≤ m → f i < N) → I (f 0) → (∀ i, i < m → E (f i) (f (i + 1))) → ∃ (m2 : Nat) (g : Nat → Nat), m2 < N ∧ I (g 0) ∧ (∀ i, i < m2 → E (g i) (g (i + 1))) ∧ g m2 = f m ∧ ∀ i, i ≤ m2 → g i < N := by
  intro m
  induction m using Nat.strongRecOn with
  | _ m ih =>
    intro f hf hI hE
    rcases Nat.lt_or_ge m N with hm | hm
    · exact ⟨m, f, hm, hI, hE, rfl, hf⟩
    · obtain ⟨i, j, hij, hj, e⟩ : ∃ i j, i < j ∧ j ≤ m ∧ f i = f j := by
        refine Classical.byContradiction (fun hc => ?_)
        have hp := pigeon N (m + 1) f (fun i hi => hf i (by omega)) (fun i j hi hj e => by
          rcases Nat.lt_trichotomy i j with z | z | z
          · exact absurd ⟨i, j, z, by omega, e⟩ hc
          · exact z
          · exact absurd ⟨j, i, z, by omega, e.symm⟩ hc)
        omega
      obtain ⟨m2, g, g1, g2, g3, g4, g5⟩ := ih (m - (j - i)) (by omega) (fun k => if k ≤ i then f k else f (k + (j - i))) (fun k hk => by
        show (if k ≤ i then f k else f (k + (j - i))) < N
        split
        · exact hf k (by omega)
        · exact hf _ (by omega)) (by show I (if 0 ≤ i then f 0 else _); rw [if_pos (Nat.zero_le _)]; exact hI) (fun k hk => by
        show E (if k ≤ i then f k else f (k + (j - i))) (if k + 1 ≤ i then f (k + 1) else f (k + 1 + (j - i)))
        rcases Nat.lt_trichotomy k i with z | z | z
        · rw [if_pos (by omega), if_pos (by omega)]; exact hE k (by omega)
        · subst z
          rw [if_pos (by omega), if_neg (by omega), e, show k + 1 + (j - k) = j + 1 by omega]
          exact hE j (by omega)
        · rw [if_neg (by omega), if_neg (by omega), show k + 1 + (j - i) = k + (j - i) + 1 by omega]
          exact hE _ (by omega))
      refine ⟨m2, g, g1, g2, g3, ?_, g5⟩
      rw [g4]
      show (if m - (j - i) ≤ i then f (m - (j - i)) else f (m - (j - i) + (j - i))) = f m
      by_cases z : m - (j - i) ≤ i
      · rw [if_pos z, show m - (j - i) = i by omega, e, show j = m by omega]
      · rw [if_neg z, show m - (j - i) + (j - i) = m by omega]
end BFS
section BND
variable {FO SP : Nat → Nat} {en n1 : Nat} {MN LT FI LA FL EM : Nat → Nat} {sl : Nat}
/-- the queue's word to the first pair that is told here and is of the kind G there has at most 2048 letters -/
theorem bfs_bound (h : SLR FO SP en n1 MN LT FI LA FL EM sl) {n T : Nat} {FR BY : Nat → Nat} (u v : Nat → Nat) (sv : Nat → Nat → Nat) (G : Nat → Prop) (hFR : FR 0 = 0 ∧ ∀ j, 0 < j → j < n → 1 ≤ FR j ∧ FR j ≤ j) (hm : ∀ i j, i ≤ j → j < n → FR i ≤ FR j) (hT : T < n)
    (hu0 : u 0 = 256) (hv0 : v 0 = 256) (hsv : ∀ y c, sv y c < 256)
    (hE : ∀ j, 0 < j → j < n → BY j < 4 ∧ u j = mstep MN LT FI FL sl (u (FR j - 1)) (BY j) ∧ v j = sv (v (FR j - 1)) (BY j))
    (hC : ∀ i, i < T → ∀ c, c < 4 → ∃ s, s < n ∧ u s = mstep MN LT FI FL sl (u i) c ∧ v s = sv (v i) c ∧ FR s ≤ i + 1)
    (hN : ∀ i, i < T → ¬ (mtl LA EM sl (u i) ≠ 0 ∧ G (v i))) (hb : mtl LA EM sl (u T) ≠ 0 ∧ G (v T)) : ml FR n T ≤ 2048 := by
  have hsl := (SLR_b h).2.2.2.2.2.2.2.1
  have hlt := (SLR_b h).2.2.2.2.2.1
  have hmn : MN sl = n1 := h.1.1
  have h0 : ∀ j, j < n → FR j ≤ j := fun j hj => by
    rcases Nat.eq_zero_or_pos j with e | e
    · subst e; omega
    · exact (hFR.2 j e hj).2
  have hn0 : 0 < n := by omega
  -- sets that are reached
  have hU : ∀ j, j < n → (j = 0 ∧ u j = 256) ∨ (0 < j ∧ u j < 2 ^ n1) := by
    intro j
    induction j using Nat.strongRecOn with
    | _ j ih =>
      intro hj
      rcases Nat.eq_zero_or_pos j with e | e
      · subst e; exact Or.inl ⟨rfl, hu0⟩
      · have g := hFR.2 j e hj
        refine Or.inr ⟨e, ?_⟩
        rw [(hE j e hj).2.1]
        refine mstp_lt h ?_
        rcases ih (FR j - 1) (by omega) (by omega) with q | q
        · exact Or.inl q.2
        · exact Or.inr q.2
  let I : Nat → Prop := fun w => w / 256 < n1 ∧ (FI sl).testBit (w / 256) = true ∧ w % 256 = sv 256 (LT (sl * 8 + w / 256))
  let E : Nat → Nat → Prop := fun w w2 => w2 / 256 < n1 ∧ (FO (w / 256)).testBit (w2 / 256) = true ∧ w2 % 256 = sv (w % 256) (LT (sl * 8 + w2 / 256))
  -- a way back from each pair
  have hA : ∀ j, 0 < j → j < n → ∀ p, (u j).testBit p = true → ∃ f : Nat → Nat, (∀ i, i ≤ ml FR n j - 1 → f i < 2048) ∧ I (f 0) ∧ (∀ i, i < ml FR n j - 1 → E (f i) (f (i + 1))) ∧ f (ml FR n j - 1) = p * 256 + v j ∧ 1 ≤ ml FR n j := by
    intro j
    induction j using Nat.strongRecOn with
    | _ j ih =>
      intro e hj p hp
      have g := hFR.2 j e hj
      obtain ⟨e1, e2, e3⟩ := hE j e hj
      have hs := ml_s h0 hj (by omega)
      have hv : v j < 256 := by rw [e3]; exact hsv _ _
      have hS : u (FR j - 1) = 256 ∨ u (FR j - 1) < 2 ^ n1 := by
        rcases hU (FR j - 1) (by omega) with q | q
        · exact Or.inl q.2
        · exact Or.inr q.2
      rw [e2, mstep_at h hS, decide_eq_true_eq] at hp
      obtain ⟨p1, p2, p3⟩ := hp
      have hd : (p * 256 + v j) / 256 = p := by omega
      have hmd : (p * 256 + v j) % 256 = v j := by omega
      rcases Nat.eq_zero_or_pos (FR j - 1) with z | z
      · have hml : ml FR n j = 1 := by
          rw [hs, z]
          obtain ⟨k, rfl⟩ : ∃ k, n = k + 1 := ⟨n - 1, by omega⟩
          rw [ml, if_pos hFR.1]
        rw [z, hu0, if_pos rfl] at p3
        refine ⟨fun _ => p * 256 + v j, fun i _ => by show p * 256 + v j < 2048; omega, ⟨by rw [hd]; exact p1, by rw [hd]; exact p3, by rw [hd, hmd, e3, z, hv0, p2]⟩, fun i hi => by omega, rfl, by omega⟩
      · have hu : u (FR j - 1) < 2 ^ n1 := by
          rcases hU (FR j - 1) (by omega) with q | q
          · omega
          · exact q.2
        have hne : u (FR j - 1) ≠ 256 := by have := pow8 hsl; omega
        rw [if_neg hne] at p3
        obtain ⟨q, q1, q2, q3⟩ := p3
        obtain ⟨f, f1, f2, f3, f4, f5⟩ := ih (FR j - 1) (by omega) z (by omega) q q2
        have hvp : v (FR j - 1) < 256 := by rw [(hE (FR j - 1) z (by omega)).2.2]; exact hsv _ _
        have hlast : ml FR n j - 1 = (ml FR n (FR j - 1) - 1) + 1 := by omega
        refine ⟨fun i => if i ≤ ml FR n (FR j - 1) - 1 then f i else p * 256 + v j, fun i hi => ?_, ?_, fun i hi => ?_, ?_, by omega⟩
        · show (if i ≤ ml FR n (FR j - 1) - 1 then f i else p * 256 + v j) < 2048
          split
          · rename_i zz; exact f1 i zz
          · omega
        · show I (if 0 ≤ ml FR n (FR j - 1) - 1 then f 0 else _)
          rw [if_pos (Nat.zero_le _)]; exact f2
        · show E (if i ≤ ml FR n (FR j - 1) - 1 then f i else _) (if i + 1 ≤ ml FR n (FR j - 1) - 1 then f (i + 1) else p * 256 + v j)
          rw [if_pos (by omega)]
          by_cases zz : i + 1 ≤ ml FR n (FR j - 1) - 1
          · rw [if_pos zz]; exact f3 i (by omega)
          · rw [if_neg zz, show i = ml FR n (FR j - 1) - 1 by omega, f4]
            have hd2 : (q * 256 + v (FR j - 1)) / 256 = q := (dm256 q hvp).1
            have hm2 : (q * 256 + v (FR j - 1)) % 256 = v (FR j - 1) := (dm256 q hvp).2
            exact ⟨by rw [hd]; exact p1, by rw [hd, hd2]; exact q3, by rw [hd, hmd, hm2, e3, p2]⟩
        · show (if ml FR n j - 1 ≤ ml FR n (FR j - 1) - 1 then _ else p * 256 + v j) = p * 256 + v j
          rw [if_neg (by omega)]
  rcases Nat.eq_zero_or_pos T with z | z
  · subst z
    have : ml FR n 0 = 0 := by
      obtain ⟨k, rfl⟩ : ∃ k, n = k + 1 := ⟨n - 1, by omega⟩
      rw [ml, if_pos hFR.1]
    omega
  · -- a position that is an end
    have hu : u T < 2 ^ n1 := by
      rcases hU T hT with q | q
      · omega
      · exact q.2
    have hne : u T ≠ 256 := by have := pow8 hsl; omega
    obtain ⟨p, p1, p2⟩ : ∃ p, (u T).testBit p = true ∧ (LA sl).testBit p = true := by
      have hb1 := hb.1
      unfold mtl tl at hb1
      rw [if_neg hne] at hb1
      refine Classical.byContradiction (fun hc => hb1 ?_)
      have e : u T &&& LA sl = 0 := by
        apply Nat.eq_of_testBit_eq
        intro j
        rw [Nat.testBit_and, Nat.zero_testBit]
        cases x1 : (u T).testBit j <;> cases x2 : (LA sl).testBit j <;> first | rfl | exact absurd ⟨j, x1, x2⟩ hc
      rw [e]; rfl
    obtain ⟨f, f1, f2, f3, f4, f5⟩ := hA T z hT p p1
    obtain ⟨m2, g, g1, g2, g3, g4, g5⟩ := cut 2048 I E _ f f1 f2 f3
    -- forward along the short way
    have hF : ∀ k, k ≤ m2 → ml FR n T ≤ k ∨ ∃ s, s < n ∧ (u s).testBit (g k / 256) = true ∧ v s = g k % 256 ∧ ml FR n s ≤ k + 1 ∧ u s < 2 ^ n1 := by
      intro k
      induction k with
      | zero =>
        intro _
        obtain ⟨i1, i2, i3⟩ := g2
        obtain ⟨s, s1, s2, s3, s4⟩ := hC 0 z (LT (sl * 8 + g 0 / 256)) (hlt _ (by omega))
        refine Or.inr ⟨s, s1, ?_, by rw [s3, hv0]; exact i3.symm, ?_, by rw [s2]; exact mstp_lt h (Or.inl hu0)⟩
        · rw [s2, mstep_at h (Or.inl hu0), decide_eq_true_eq, hu0, if_pos rfl]
          exact ⟨i1, rfl, i2⟩
        · by_cases e : FR s = 0
          · obtain ⟨k, rfl⟩ : ∃ k, n = k + 1 := ⟨n - 1, by omega⟩
            rw [ml, if_pos e]; omega
          · rw [ml_s h0 s1 e, show FR s - 1 = 0 by omega]
            have : ml FR n 0 = 0 := by
              obtain ⟨k, rfl⟩ : ∃ k, n = k + 1 := ⟨n - 1, by omega⟩
              rw [ml, if_pos hFR.1]
            omega
      | succ k ih =>
        intro hk
        rcases ih (by omega) with q | ⟨s, s1, s2, s3, s4, s5⟩
        · exact Or.inl (by omega)
        · rcases Nat.lt_or_ge s T with zz | zz
          · obtain ⟨i1, i2, i3⟩ := g3 k (by omega)
            obtain ⟨t, t1, t2, t3, t4⟩ := hC s zz (LT (sl * 8 + g (k + 1) / 256)) (hlt _ (by omega))
            have hne2 : u s ≠ 256 := by have := pow8 hsl; omega
            refine Or.inr ⟨t, t1, ?_, by rw [t3, s3]; exact i3.symm, ?_, by rw [t2]; exact mstp_lt h (Or.inr s5)⟩
            · rw [t2, mstep_at h (Or.inr s5), decide_eq_true_eq, if_neg hne2]
              exact ⟨i1, rfl, g k / 256, bit_lt s5 s2, s2, i2⟩
            · by_cases e : FR t = 0
              · obtain ⟨k, rfl⟩ : ∃ k, n = k + 1 := ⟨n - 1, by omega⟩
                rw [ml, if_pos e]; omega
              · rw [ml_s h0 t1 e]
                have := ml_mono h0 hm n (FR t - 1) s (by omega) s1
                omega
          · have := ml_mono h0 hm n T s zz s1
            exact Or.inl (by omega)
    have hend := hF m2 (Nat.le_refl _)
    rcases hend with q | ⟨s, s1, s2, s3, s4, s5⟩
    · omega
    · rw [g4, f4] at s2 s3
      have hvT : v T < 256 := by rw [(hE T z hT).2.2]; exact hsv _ _
      rw [show (p * 256 + v T) / 256 = p by omega] at s2
      rw [show (p * 256 + v T) % 256 = v T by omega] at s3
      rcases Nat.lt_or_ge s T with zz | zz
      · refine absurd ⟨?_, by rw [s3]; exact hb.2⟩ (hN s zz)
        have hne2 : u s ≠ 256 := by have := pow8 hsl; omega
        unfold mtl tl
        rw [if_neg hne2]
        have e : u s &&& LA sl ≠ 0 := fun q => by
          have := congrArg (fun w => Nat.testBit w p) q
          simp only [Nat.testBit_and, s2, p2, Nat.zero_testBit] at this
          exact absurd this (by decide)
        rw [decide_eq_true e]
        decide
      · have := ml_mono h0 hm n T s zz s1
        omega
end BND
