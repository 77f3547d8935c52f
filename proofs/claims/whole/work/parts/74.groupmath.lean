/-! STATES: the class's groups and the reference's parts -/
section RFS
variable {NX GR FN : Nat → Nat}
theorem flr_s : ∀ r i j, flr NX GR j r i < i + r → alq NX GR (flr NX GR j r i) j 4 = true := by
  intro r
  induction r with
  | zero => intro i j h; rw [flr] at h; omega
  | succ r ih =>
    intro i j h
    rw [flr] at h ⊢
    by_cases e : alq NX GR i j 4 = true
    · rw [if_pos e]; exact e
    · rw [if_neg e] at h ⊢
      exact ih (i + 1) j (by omega)
theorem alq_0 {i j : Nat} : ∀ a, alq NX GR i j a = true → GR i = GR j := by
  intro a
  induction a with
  | zero => intro h; exact of_decide_eq_true h
  | succ a ih => intro h; rw [alq, Bool.and_eq_true] at h; exact ih h.1
/-- finer: what is in one new group was in one old group; every new number is used -/
theorem rfs_f : ∀ s, (∀ i j, i < s → j < s → (rfs NX GR FN s).2 i = (rfs NX GR FN s).2 j → GR i = GR j) ∧ ∀ v, v < (rfs NX GR FN s).1 → ∃ j, j < s ∧ (rfs NX GR FN s).2 j = v := by
  intro s
  induction s with
  | zero => exact ⟨fun i j h => by omega, fun v hv => absurd hv (Nat.not_lt_zero _)⟩
  | succ s ih =>
    obtain ⟨i1, i2⟩ := ih
    have hv := rfs_v NX GR FN s
    rw [rfs]
    by_cases c : flr NX GR s s 0 < s
    · rw [if_pos c]
      have ha := alq_0 (NX := NX) 4 (flr_s (NX := NX) (GR := GR) s 0 s (by omega))
      refine ⟨fun i j hi hj e => ?_, fun v hv2 => ?_⟩
      · have key : ∀ x, x < s + 1 → ∃ y, y < s ∧ va_up (rfs NX GR FN s).2 s ((rfs NX GR FN s).2 (flr NX GR s s 0)) x = (rfs NX GR FN s).2 y ∧ GR x = GR y := fun x hx => by
          by_cases ex : x = s
          · subst ex; exact ⟨_, c, va_up_self _ _ _, ha.symm⟩
          · exact ⟨x, by omega, va_up_ne _ _ ex, rfl⟩
        obtain ⟨a, a1, a2, a3⟩ := key i hi
        obtain ⟨b, b1, b2, b3⟩ := key j hj
        rw [a3, b3]
        exact i1 a b a1 b1 (by rw [← a2, ← b2]; exact e)
      · obtain ⟨j, j1, j2⟩ := i2 v hv2
        exact ⟨j, by omega, by show va_up _ s _ j = v; rw [va_up_ne _ _ (by omega)]; exact j2⟩
    · rw [if_neg c]
      refine ⟨fun i j hi hj e => ?_, fun v hv2 => ?_⟩
      · have e : va_up (rfs NX GR FN s).2 s (rfs NX GR FN s).1 i = va_up (rfs NX GR FN s).2 s (rfs NX GR FN s).1 j := e
        by_cases ei : i = s <;> by_cases ej : j = s
        · rw [ei, ej]
        · subst ei; rw [va_up_self, va_up_ne _ _ ej] at e; have := hv j (by omega); omega
        · subst ej; rw [va_up_self, va_up_ne _ _ ei] at e; have := hv i (by omega); omega
        · rw [va_up_ne _ _ ei, va_up_ne _ _ ej] at e; exact i1 i j (by omega) (by omega) e
      · have hv2 : v < (rfs NX GR FN s).1 + 1 := hv2
        by_cases ev : v = (rfs NX GR FN s).1
        · exact ⟨s, by omega, by show va_up _ s _ s = v; rw [va_up_self]; exact ev.symm⟩
        · obtain ⟨j, j1, j2⟩ := i2 v (by omega)
          exact ⟨j, by omega, by show va_up _ s _ j = v; rw [va_up_ne _ _ (by omega)]; exact j2⟩
/-- the groups grow in number -/
theorem rfs_up {z kn : Nat} (hon : ∀ v, v < kn → ∃ j, j < z ∧ GR j = v) : kn ≤ (rfs NX GR FN z).1 := by
  obtain ⟨h1, -⟩ := rfs_f (NX := NX) (GR := GR) (FN := FN) z
  have hv := rfs_v NX GR FN z
  have ch : ∀ v, ∃ j, v < kn → j < z ∧ GR j = v := fun v => by
    by_cases h : v < kn
    · obtain ⟨j, hj⟩ := hon v h; exact ⟨j, fun _ => hj⟩
    · exact ⟨0, fun q => absurd q h⟩
  refine pigeon (rfs NX GR FN z).1 kn (fun v => (rfs NX GR FN z).2 (Classical.choose (ch v))) (fun v hv2 => hv _ (Classical.choose_spec (ch v) hv2).1) (fun v w hv2 hw e => ?_)
  have a := Classical.choose_spec (ch v) hv2
  have b := Classical.choose_spec (ch w) hw
  have := h1 _ _ a.1 b.1 e
  rw [a.2, b.2] at this
  exact this
end RFS
section GRP
variable {st : Nat → Nat → Nat} {NX FD : Nat → Nat} {z : Nat}
theorem msm_alq (hN : ∀ j c, j < z → c < 4 → NX (j * 4 + c) < z ∧ FD (NX (j * 4 + c)) = st (FD j) c) {PA GR : Nat → Nat} (h : ∀ j, j < z → PA (FD j) = GR j) {i j : Nat} (hi : i < z) (hj : j < z) : ∀ a, a ≤ 4 → msm st PA (FD i) (FD j) a = alq NX GR i j a := by
  intro a
  induction a with
  | zero => intro _; rw [msm, alq, h i hi, h j hj]
  | succ a ih =>
    intro ha
    rw [msm, alq, ih (by omega)]
    obtain ⟨a1, a2⟩ := hN i a hi (by omega)
    obtain ⟨b1, b2⟩ := hN j a hj (by omega)
    rw [← a2, ← b2, h _ a1, h _ b1]
theorem spi_flr (hN : ∀ j c, j < z → c < 4 → NX (j * 4 + c) < z ∧ FD (NX (j * 4 + c)) = st (FD j) c) {PA GR : Nat → Nat} (h : ∀ j, j < z → PA (FD j) = GR j) {kk : Nat} (hk : kk < z) : ∀ r i NP, i + r = kk → spi st FD PA kk r i NP (FD kk) = if flr NX GR kk r i < kk then NP (FD (flr NX GR kk r i)) else NP (FD kk) := by
  intro r
  induction r with
  | zero => intro i NP e; rw [spi, flr, if_neg (by omega)]
  | succ r ih =>
    intro i NP e
    rw [spi, flr, msm_alq hN h (by omega) hk 4 (Nat.le_refl _)]
    by_cases c : alq NX GR i kk 4 = true
    · rw [if_pos c, if_pos c, va_up_self, if_pos (by omega)]
    · rw [if_neg c, if_neg c]; exact ih (i + 1) NP (by omega)
theorem sp1_rfs (hinj : ∀ i j, i < z → j < z → FD i = FD j → i = j) (hN : ∀ j c, j < z → c < 4 → NX (j * 4 + c) < z ∧ FD (NX (j * 4 + c)) = st (FD j) c) {PA GR NP FN : Nat → Nat} (h : ∀ j, j < z → PA (FD j) = GR j) : ∀ s, s ≤ z → (sp1 st FD PA NP s).1 = (rfs NX GR FN s).1 ∧ ∀ i, i < s → (sp1 st FD PA NP s).2 (FD i) = (rfs NX GR FN s).2 i + 1 := by
  intro s
  induction s with
  | zero => intro _; exact ⟨rfl, fun i hi => by omega⟩
  | succ s ih =>
    intro hs
    obtain ⟨i1, i2⟩ := ih (by omega)
    have hne : ∀ i, i < s → FD i ≠ FD s := fun i hi e => by have := hinj i s (by omega) (by omega) e; omega
    have e1 := spi_flr hN h (kk := s) (by omega) s 0 (va_up (sp1 st FD PA NP s).2 (FD s) 0) (by omega)
    rw [sp1, rfs]
    by_cases c : flr NX GR s s 0 < s
    · rw [if_pos c] at e1
      rw [va_up_ne _ _ (hne _ c), i2 _ c] at e1
      rw [if_neg (by rw [e1]; omega), if_pos c]
      refine ⟨i1, fun i hi => ?_⟩
      by_cases e : i = s
      · subst e
        show spi st FD PA i i 0 (va_up (sp1 st FD PA NP i).2 (FD i) 0) (FD i) = va_up _ i _ i + 1
        rw [va_up_self]; exact e1
      · show spi st FD PA s s 0 (va_up (sp1 st FD PA NP s).2 (FD s) 0) (FD i) = va_up _ s _ i + 1
        rw [spi_ne (hne i (by omega)), va_up_ne _ _ (hne i (by omega)), va_up_ne _ _ e]
        exact i2 i (by omega)
    · rw [if_neg c, va_up_self] at e1
      rw [if_pos e1, if_neg c]
      refine ⟨by show (sp1 st FD PA NP s).1 + 1 = (rfs NX GR FN s).1 + 1; rw [i1], fun i hi => ?_⟩
      by_cases e : i = s
      · subst e
        show va_up _ (FD i) ((sp1 st FD PA NP i).1 + 1) (FD i) = va_up _ i _ i + 1
        rw [va_up_self, va_up_self, i1]
      · show va_up (spi st FD PA s s 0 (va_up (sp1 st FD PA NP s).2 (FD s) 0)) (FD s) _ (FD i) = va_up _ s _ i + 1
        rw [va_up_ne _ _ (hne i (by omega)), spi_ne (hne i (by omega)), va_up_ne _ _ (hne i (by omega)), va_up_ne _ _ e]
        exact i2 i (by omega)
theorem spc_at (hinj : ∀ i j, i < z → j < z → FD i = FD j → i = j) (NP PA : Nat → Nat) : ∀ s, s ≤ z → ∀ i, i < z → spc FD NP PA s (FD i) = if i < s then NP (FD i) - 1 else PA (FD i) := by
  intro s
  induction s with
  | zero => intro _ i _; rw [spc, if_neg (by omega)]
  | succ s ih =>
    intro hs i hi
    rw [spc]
    by_cases e : i = s
    · subst e; rw [va_up_self, if_pos (by omega)]
    · rw [va_up_ne _ _ (fun q => e (hinj i s hi (by omega) q)), ih (by omega) i hi]
      by_cases h : i < s
      · rw [if_pos h, if_pos (by omega)]
      · rw [if_neg h, if_neg (by omega)]
theorem spa_at (hinj : ∀ i j, i < z → j < z → FD i = FD j → i = j) (te PA : Nat → Nat) : ∀ s, s ≤ z → ∀ i, i < s → spa te FD PA s (FD i) = te (FD i) := by
  intro s
  induction s with
  | zero => intro _ i h; omega
  | succ s ih =>
    intro hs i hi
    rw [spa]
    by_cases e : i = s
    · subst e; rw [va_up_self]
    · rw [va_up_ne _ _ (fun q => e (hinj i s (by omega) (by omega) q))]; exact ih (by omega) i (by omega)
theorem grp_mgr (hinj : ∀ i j, i < z → j < z → FD i = FD j → i = j) (hN : ∀ j c, j < z → c < 4 → NX (j * 4 + c) < z ∧ FD (NX (j * 4 + c)) = st (FD j) c) : ∀ r r2 kn GR FN PA NP, r ≤ r2 → z + 1 ≤ r + kn → kn ≤ z → (∀ v, v < kn → ∃ j, j < z ∧ GR j = v) → (∀ j, j < z → PA (FD j) = GR j) → (mgr st FD z r2 kn PA NP).1 = true ∧ (mgr st FD z r2 kn PA NP).2.1 = (grp NX z r kn GR FN).1 := by
  intro r
  induction r with
  | zero => intro r2 kn GR FN PA NP _ h1 h2; omega
  | succ r ih =>
    intro r2 kn GR FN PA NP hr h1 h2 hon h
    obtain ⟨r2, rfl⟩ : ∃ x, r2 = x + 1 := ⟨r2 - 1, by omega⟩
    obtain ⟨e1, e2⟩ := sp1_rfs (NP := NP) (FN := FN) hinj hN h z (Nat.le_refl _)
    have hup := rfs_up (NX := NX) (FN := FN) hon
    have hle := rfs_le NX GR FN z
    have hf := rfs_f (NX := NX) (GR := GR) (FN := FN) z
    rw [mgr, grp, e1]
    by_cases c : (rfs NX GR FN z).1 = kn
    · rw [if_pos c, if_pos c]; exact ⟨rfl, rfl⟩
    · rw [if_neg c, if_neg c]
      refine ih r2 _ _ _ _ _ (by omega) (by omega) hle (fun v hv => ?_) (fun j hj => ?_)
      · obtain ⟨j, j1, j2⟩ := hf.2 v hv
        exact ⟨j, j1, by unfold cpz; rw [if_pos j1]; exact j2⟩
      · rw [spc_at hinj _ _ z (Nat.le_refl _) j hj, if_pos hj, e2 j hj, Nat.add_sub_cancel]
        unfold cpz
        rw [if_pos hj]
end GRP
/-- the class numbers the sets in the order in which the reference finds them -/
def SR (P : Nat → Prop) : MZ → SM → Prop
  | (z, SE, NU, _), (n, FD, KN) => n = z ∧ (∀ j, j < z → P (SE j) ∧ FD j = SE j) ∧ ∀ S, S < 257 → (KN S = 0 ↔ NU S = 0)
section SRS
variable {FO SP : Nat → Nat} {en : Nat} {P : Nat → Prop} {st : Nat → Nat → Nat}
theorem SR_nq {m : MZ} {q : SM} {S : Nat} (h : SR P m q) (hS : S < 257) (hP : P S) : SR P (nq en S m) (sg S q) := by
  obtain ⟨z, SE, NU, AC⟩ := m
  obtain ⟨n, FD, KN⟩ := q
  obtain ⟨h1, h2, h3⟩ := h
  subst h1
  rw [nq, sg]
  by_cases e : NU S = 0
  · rw [if_pos e, if_pos ((h3 S hS).mpr e)]
    refine ⟨rfl, fun j hj => ?_, fun T hT => ?_⟩
    · by_cases ej : j = n
      · subst ej; rw [va_up_self, va_up_self]; exact ⟨hP, rfl⟩
      · rw [va_up_ne _ _ ej, va_up_ne _ _ ej]; exact h2 j (by omega)
    · by_cases eT : T = S
      · subst eT; rw [va_up_self, va_up_self]; exact ⟨fun q => by omega, fun q => by omega⟩
      · rw [va_up_ne _ _ eT, va_up_ne _ _ eT]; exact h3 T hT
  · rw [if_neg e, if_neg (fun q => e ((h3 S hS).mp q))]
    exact ⟨rfl, h2, h3⟩
theorem SR_bi (hF : ∀ p, p < 9 → FO p < 256) (hst : ∀ S c, P S → c < 4 → onw FO S 9 &&& SP c = st S c ∧ P (st S c)) {m : MZ} {q : SM} {NX : Nat → Nat} {x t : Nat} (hx : P x) (h : SR P m q) : ∀ a, a ≤ 4 → SR P (bi SP en (onw FO x 9) t m NX a).1 (si4 (st x) q a) := by
  intro a
  induction a with
  | zero => intro _; exact h
  | succ a ih =>
    intro ha
    rw [bi, si4]
    have ho := onw_lt (S := x) hF 9 (Nat.le_refl _)
    obtain ⟨g1, g2⟩ := hst x a hx (by omega)
    have hS : onw FO x 9 &&& SP a < 257 := Nat.lt_of_le_of_lt Nat.and_le_left (by omega)
    rw [g1] at hS ⊢
    exact SR_nq (ih (by omega)) hS g2
theorem SR_bo (hF : ∀ p, p < 9 → FO p < 256) (hst : ∀ S c, P S → c < 4 → onw FO S 9 &&& SP c = st S c ∧ P (st S c)) : ∀ r t m q NX, SR P m q → SR P (bo FO SP en r t m NX).1 (so st r t q) := by
  intro r
  induction r with
  | zero => intro t m q NX h; exact h
  | succ r ih =>
    intro t m q NX h
    obtain ⟨z, SE, NU, AC⟩ := m
    obtain ⟨n, FD, KN⟩ := q
    obtain ⟨h1, h2, h3⟩ := id h
    subst h1
    by_cases hz : t < n
    · have e1 : bo FO SP en (r + 1) t (n, SE, NU, AC) NX = bo FO SP en r (t + 1) (bi SP en (onw FO (SE t) 9) t (n, SE, NU, AC) NX 4).1 (bi SP en (onw FO (SE t) 9) t (n, SE, NU, AC) NX 4).2 := by rw [bo, if_pos hz]
      have e2 : so st (r + 1) t (n, FD, KN) = so st r (t + 1) (si4 (st (FD t)) (n, FD, KN) 4) := by rw [so, if_pos hz]
      rw [e1, e2, (h2 t hz).2]
      exact ih (t + 1) _ _ _ (SR_bi hF hst (h2 t hz).1 h 4 (Nat.le_refl _))
    · have e1 : bo FO SP en (r + 1) t (n, SE, NU, AC) NX = ((n, SE, NU, AC), NX) := by rw [bo, if_neg hz]
      have e2 : so st (r + 1) t (n, FD, KN) = (n, FD, KN) := by rw [so, if_neg hz]
      rw [e1, e2]
      exact h
theorem SR_bld (hF : ∀ p, p < 9 → FO p < 256) (hst : ∀ S c, P S → c < 4 → onw FO S 9 &&& SP c = st S c ∧ P (st S c)) (h0 : P 256) (SE AC NX FD KN : Nat → Nat) : SR P (bld FO SP en SE AC NX).1 (so st 257 0 (sm0 FD KN)) := by
  refine SR_bo hF hst 257 0 _ _ NX ?_
  rw [nq, if_pos rfl]
  refine ⟨rfl, fun j hj => ?_, fun S hS => ?_⟩
  · have e : j = 0 := by omega
    subst e
    rw [va_up_self, va_up_self]; exact ⟨h0, rfl⟩
  · by_cases e : S = 256
    · subst e; rw [va_up_self, va_up_self]
    · rw [va_up_ne _ _ e, va_up_ne _ _ e]
      refine ⟨fun _ => rfl, fun _ => ?_⟩
      unfold fil
      rw [if_pos hS]
end SRS
