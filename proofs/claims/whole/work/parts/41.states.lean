/-! THE REFERENCE: states -/
/-- how many sets, the sets, which are known -/
abbrev SM : Type := Nat × (Nat → Nat) × (Nat → Nat)
def sg (x : Nat) : SM → SM
  | (n, FD, KN) => if KN x = 0 then (n + 1, va_up FD n x, va_up KN x 1) else (n, FD, KN)
def si4 (sa : Nat → Nat) (q : SM) : Nat → SM
  | 0 => q
  | a + 1 => sg (sa a) (si4 sa q a)
def so (st : Nat → Nat → Nat) : Nat → Nat → SM → SM
  | 0, _, q => q
  | r + 1, t, q => if t < q.1 then so st r (t + 1) (si4 (st (q.2.1 t)) q 4) else q
def SI : SM → Prop
  | (n, FD, KN) => (0 < n ∧ n ≤ 257) ∧ (∀ j, j < n → FD j < 257 ∧ KN (FD j) = 1) ∧ (∀ i j, i < n → j < n → FD i = FD j → i = j) ∧ ∀ x, x < 257 → KN x ≤ 1
theorem SI_sg {x : Nat} {q : SM} (h : SI q) (hx : x < 257) : SI (sg x q) ∧ q.1 ≤ (sg x q).1 := by
  obtain ⟨n, FD, KN⟩ := q
  have h0 := h
  obtain ⟨⟨h1, h1b⟩, h2, h3, h4⟩ := h0
  rw [sg]
  split
  · rename_i hk
    have ne : ∀ j, j < n → FD j ≠ x := fun j hj e => by have := (h2 j hj).2; rw [e, hk] at this; omega
    have inj : ∀ i j, i < n + 1 → j < n + 1 → va_up FD n x i = va_up FD n x j → i = j := by
      intro i j hi hj e
      by_cases ei : i = n <;> by_cases ej : j = n
      · omega
      · subst ei; rw [va_up_self, va_up_ne _ _ ej] at e; exact absurd e.symm (ne j (by omega))
      · subst ej; rw [va_up_self, va_up_ne _ _ ei] at e; exact absurd e (ne i (by omega))
      · rw [va_up_ne _ _ ei, va_up_ne _ _ ej] at e; exact h3 i j (by omega) (by omega) e
    have hb := pigeon 257 (n + 1) (va_up FD n x) (fun i hi => by
      by_cases e : i = n
      · subst e; rw [va_up_self]; exact hx
      · rw [va_up_ne _ _ e]; exact (h2 i (by omega)).1) inj
    refine ⟨⟨⟨by omega, hb⟩, fun j hj => ?_, inj, fun y hy => ?_⟩, by show n ≤ n + 1; omega⟩
    · by_cases e : j = n
      · subst e; rw [va_up_self, va_up_self]; exact ⟨hx, rfl⟩
      · rw [va_up_ne _ _ e, va_up_ne _ _ (ne j (by omega))]; exact h2 j (by omega)
    · by_cases e : y = x
      · subst e; rw [va_up_self]; exact Nat.le_refl _
      · rw [va_up_ne _ _ e]; exact h4 y hy
  · exact ⟨h, Nat.le_refl _⟩
theorem SI_new {x : Nat} {n : Nat} {FD KN : Nat → Nat} (h : SI (n, FD, KN)) (hx : x < 257) (hk : KN x = 0) : n < 257 := by
  have h1 := (SI_sg h hx).1
  rw [sg, if_pos hk] at h1
  have := h1.1.2
  omega
theorem si4_ok {sa : Nat → Nat} {q : SM} (hs : ∀ a, sa a < 257) (hq : SI q) : ∀ a, SI (si4 sa q a) ∧ q.1 ≤ (si4 sa q a).1 := by
  intro a
  induction a with
  | zero => exact ⟨hq, Nat.le_refl _⟩
  | succ a ih => have h1 := SI_sg ih.1 (hs a); exact ⟨h1.1, Nat.le_trans ih.2 h1.2⟩
theorem so_ok {st : Nat → Nat → Nat} (hs : ∀ x a, st x a < 257) : ∀ r t q, SI q → SI (so st r t q) := by
  intro r
  induction r with
  | zero => intro t q h; exact h
  | succ r ih =>
    intro t q h
    rw [so]
    split
    · exact ih _ _ (si4_ok (hs _) h 4).1
    · exact h
theorem sg_at {x j : Nat} {q : SM} (h : j < q.1) : (sg x q).2.1 j = q.2.1 j ∧ q.1 ≤ (sg x q).1 := by
  obtain ⟨n, FD, KN⟩ := q
  have h : j < n := h
  rw [sg]
  split
  · exact ⟨va_up_ne _ _ (by omega), by show n ≤ n + 1; omega⟩
  · exact ⟨rfl, Nat.le_refl _⟩
theorem si4_at {sa : Nat → Nat} {q : SM} {j : Nat} (h : j < q.1) : ∀ a, (si4 sa q a).2.1 j = q.2.1 j := by
  have h2 : ∀ a, (si4 sa q a).2.1 j = q.2.1 j ∧ q.1 ≤ (si4 sa q a).1 := by
    intro a
    induction a with
    | zero => exact ⟨rfl, Nat.le_refl _⟩
    | succ a ih =>
      have h3 := sg_at (x := sa a) (q := si4 sa q a) (j := j) (by omega)
      exact ⟨h3.1.trans ih.1, Nat.le_trans ih.2 h3.2⟩
  exact fun a => (h2 a).1
def sm0 (FD KN : Nat → Nat) : SM := (1, va_up FD 0 256, va_up (fil KN 0 257) 256 1)
theorem SI_0 {FD KN : Nat → Nat} : SI (sm0 FD KN) := by
  refine ⟨⟨by decide, by decide⟩, fun j hj => ?_, fun i j hi hj _ => by omega, fun x hx => ?_⟩
  · have e : j = 0 := by omega
    subst e
    rw [va_up_self, va_up_self]; exact ⟨by decide, rfl⟩
  · by_cases e : x = 256
    · subst e; rw [va_up_self]; exact Nat.le_refl _
    · rw [va_up_ne _ _ e]; simp [fil, hx]
def spa (te : Nat → Nat) (FD PA : Nat → Nat) : Nat → Nat → Nat
  | 0 => PA
  | j + 1 => va_up (spa te FD PA j) (FD j) (te (FD j))
theorem spa_lt {te FD PA : Nat → Nat} (h1 : ∀ x, te x ≤ 1) (h2 : ∀ x, x < 257 → PA x < 1000) : ∀ j x, x < 257 → spa te FD PA j x < 1000 := by
  intro j
  induction j with
  | zero => exact h2
  | succ j ih =>
    intro x hx
    rw [spa]
    by_cases e : x = FD j
    · subst e; rw [va_up_self]; have := h1 (FD j); omega
    · rw [va_up_ne _ _ e]; exact ih x hx
theorem spc_lt {FD NP PA : Nat → Nat} : ∀ j, (∀ i, i < j → NP (FD i) ≤ 257) → (∀ x, x < 257 → PA x < 1000) → ∀ x, x < 257 → spc FD NP PA j x < 1000 := by
  intro j
  induction j with
  | zero => intro _ h; exact h
  | succ j ih =>
    intro h1 h2 x hx
    rw [spc]
    by_cases e : x = FD j
    · subst e; rw [va_up_self]; have := h1 j (by omega); omega
    · rw [va_up_ne _ _ e]; exact ih (fun i hi => h1 i (by omega)) h2 x hx
/-- the parts are split until their number stays (fuel r): whether it did, the number, the parts -/
def mgr (st : Nat → Nat → Nat) (FD : Nat → Nat) (n : Nat) : Nat → Nat → (Nat → Nat) → (Nat → Nat) → Bool × Nat × (Nat → Nat) × (Nat → Nat)
  | 0, kn, PA, NP => (false, kn, PA, NP)
  | r + 1, kn, PA, NP => if (sp1 st FD PA NP n).1 = kn then (true, kn, spc FD (sp1 st FD PA NP n).2 PA n, (sp1 st FD PA NP n).2) else mgr st FD n r (sp1 st FD PA NP n).1 (spc FD (sp1 st FD PA NP n).2 PA n) (sp1 st FD PA NP n).2
set_option maxHeartbeats 4000000 in
set_option maxRecDepth 100000 in
/-- states(slot) -/
theorem ok_Md_states (l : Launch) (D : va_G) (k : Nat → ClassId) (sz : Nat) (md : Nat) (ad : Nat → Nat) (th tp pl si at1 wr dp pa le : Nat) (MN LT FI FL LA EM FD KN PA NP : Nat → Nat) (sl : Nat) (hsl : sl < 4) (hmn : MN sl ≤ 8) (hfi : FI sl < 256) (hfl : ∀ i, i < MN sl → FL (sl * 8 + i) < 256) (hlt : ∀ i, i < MN sl → LT (sl * 8 + i) < 4) (hem : EM sl ≤ 1) (hPA : ∀ x, x < 257 → PA x < 1000) (hfin : (mgr (fun q a => mstep MN LT FI FL sl q a) (so (fun q a => mstep MN LT FI FL sl q a) 257 0 (sm0 FD KN)).2.1 (so (fun q a => mstep MN LT FI FL sl q a) 257 0 (sm0 FD KN)).1 258 0 (spa (mtl LA EM sl) (so (fun q a => mstep MN LT FI FL sl q a) 257 0 (sm0 FD KN)).2.1 PA (so (fun q a => mstep MN LT FI FL sl q a) 257 0 (sm0 FD KN)).1) NP).1 = true) : Met l y_Md_states (.code y_Md_states c_Md_states 6 (some .int) :: wsU) ({ frames := 2, cells := 0, slots := 0, locals := 56 } : Room) (kPre D k [.ref md, .int (nI sl)] [(md, .inr (8, [.int (nI th), .int (nI tp), .ref (ad 2), .int (nM pl), .ref (ad 4), .ref (ad 5), .ref (ad 6), .ref (ad 7), .ref (ad 8), .ref (ad 9), .int (nI si), .ref (ad 11), .int (nI at1), .int (nM wr), .int (nI dp), .int (nI pa), .ref (ad 16), .ref (ad 17), .ref (ad 18), .int (nI le), .ref (ad 20), .ref (ad 21), .ref (ad 22), .ref (ad 23), .ref (ad 24), .ref (ad 25), .ref (ad 26), .ref (ad 27), .ref (ad 28), .ref (ad 29), .ref (ad 30)])), (ad 4, .inl (k 0, 4, .inl (aN MN))), (ad 5, .inl (k 0, 32, .inl (aN LT))), (ad 6, .inl (k 0, 4, .inl (aN FI))), (ad 8, .inl (k 0, 32, .inl (aN FL))), (ad 7, .inl (k 0, 4, .inl (aN LA))), (ad 9, .inl (k 2, 4, .inl (aN EM))), (ad 22, .inl (k 0, 66049, .inl (aN FD))), (ad 25, .inl (k 2, 66049, .inl (aN KN))), (ad 27, .inl (k 0, 257, .inl (aN PA))), (ad 28, .inl (k 0, 257, .inl (aM NP)))] sz) (va_Qi (fun (r : Int32) (_ : Unit) => r = nI (mgr (fun q a => mstep MN LT FI FL sl q a) (so (fun q a => mstep MN LT FI FL sl q a) 257 0 (sm0 FD KN)).2.1 (so (fun q a => mstep MN LT FI FL sl q a) 257 0 (sm0 FD KN)).1 258 0 (spa (mtl LA EM sl) (so (fun q a => mstep MN LT FI FL sl q a) 257 0 (sm0 FD KN)).2.1 PA (so (fun q a => mstep MN LT FI FL sl q a) 257 0 (sm0 FD KN)).1) NP).2.1) (kB D k (fun _ : Unit => [(md, .inr (8, [.int (nI 0), .int (nI tp), .ref (ad 2), .int (nM pl), .ref (ad 4), .ref (ad 5), .ref (ad 6), .ref (ad 7), .ref (ad 8), .ref (ad 9), .int (nI si), .ref (ad 11), .int (nI at1), .int (nM wr), .int (nI dp), .int (nI pa), .ref (ad 16), .ref (ad 17), .ref (ad 18), .int (nI le), .ref (ad 20), .ref (ad 21), .ref (ad 22), .ref (ad 23), .ref (ad 24), .ref (ad 25), .ref (ad 26), .ref (ad 27), .ref (ad 28), .ref (ad 29), .ref (ad 30)])), (ad 4, .inl (k 0, 4, .inl (aN MN))), (ad 5, .inl (k 0, 32, .inl (aN LT))), (ad 6, .inl (k 0, 4, .inl (aN FI))), (ad 8, .inl (k 0, 32, .inl (aN FL))), (ad 7, .inl (k 0, 4, .inl (aN LA))), (ad 9, .inl (k 2, 4, .inl (aN EM))), (ad 22, .inl (k 0, 66049, .inl (aN ((so (fun q a => mstep MN LT FI FL sl q a) 257 0 (sm0 FD KN)).2.1)))), (ad 25, .inl (k 2, 66049, .inl (aN ((so (fun q a => mstep MN LT FI FL sl q a) 257 0 (sm0 FD KN)).2.2)))), (ad 27, .inl (k 0, 257, .inl (aN ((mgr (fun q a => mstep MN LT FI FL sl q a) (so (fun q a => mstep MN LT FI FL sl q a) 257 0 (sm0 FD KN)).2.1 (so (fun q a => mstep MN LT FI FL sl q a) 257 0 (sm0 FD KN)).1 258 0 (spa (mtl LA EM sl) (so (fun q a => mstep MN LT FI FL sl q a) 257 0 (sm0 FD KN)).2.1 PA (so (fun q a => mstep MN LT FI FL sl q a) 257 0 (sm0 FD KN)).1) NP).2.2.1)))), (ad 28, .inl (k 0, 257, .inl (aM ((mgr (fun q a => mstep MN LT FI FL sl q a) (so (fun q a => mstep MN LT FI FL sl q a) 257 0 (sm0 FD KN)).2.1 (so (fun q a => mstep MN LT FI FL sl q a) 257 0 (sm0 FD KN)).1 258 0 (spa (mtl LA EM sl) (so (fun q a => mstep MN LT FI FL sl q a) 257 0 (sm0 FD KN)).2.1 PA (so (fun q a => mstep MN LT FI FL sl q a) 257 0 (sm0 FD KN)).1) NP).2.2.2))))]) (va_A [(md, .inr (8, [.int (nI th), .int (nI tp), .ref (ad 2), .int (nM pl), .ref (ad 4), .ref (ad 5), .ref (ad 6), .ref (ad 7), .ref (ad 8), .ref (ad 9), .int (nI si), .ref (ad 11), .int (nI at1), .int (nM wr), .int (nI dp), .int (nI pa), .ref (ad 16), .ref (ad 17), .ref (ad 18), .int (nI le), .ref (ad 20), .ref (ad 21), .ref (ad 22), .ref (ad 23), .ref (ad 24), .ref (ad 25), .ref (ad 26), .ref (ad 27), .ref (ad 28), .ref (ad 29), .ref (ad 30)])), (ad 4, .inl (k 0, 4, .inl (aN MN))), (ad 5, .inl (k 0, 32, .inl (aN LT))), (ad 6, .inl (k 0, 4, .inl (aN FI))), (ad 8, .inl (k 0, 32, .inl (aN FL))), (ad 7, .inl (k 0, 4, .inl (aN LA))), (ad 9, .inl (k 2, 4, .inl (aN EM))), (ad 22, .inl (k 0, 66049, .inl (aN FD))), (ad 25, .inl (k 2, 66049, .inl (aN KN))), (ad 27, .inl (k 0, 257, .inl (aN PA))), (ad 28, .inl (k 0, 257, .inl (aM NP)))] sz)) (va_A [(md, .inr (8, [.int (nI th), .int (nI tp), .ref (ad 2), .int (nM pl), .ref (ad 4), .ref (ad 5), .ref (ad 6), .ref (ad 7), .ref (ad 8), .ref (ad 9), .int (nI si), .ref (ad 11), .int (nI at1), .int (nM wr), .int (nI dp), .int (nI pa), .ref (ad 16), .ref (ad 17), .ref (ad 18), .int (nI le), .ref (ad 20), .ref (ad 21), .ref (ad 22), .ref (ad 23), .ref (ad 24), .ref (ad 25), .ref (ad 26), .ref (ad 27), .ref (ad 28), .ref (ad 29), .ref (ad 30)])), (ad 4, .inl (k 0, 4, .inl (aN MN))), (ad 5, .inl (k 0, 32, .inl (aN LT))), (ad 6, .inl (k 0, 4, .inl (aN FI))), (ad 8, .inl (k 0, 32, .inl (aN FL))), (ad 7, .inl (k 0, 4, .inl (aN LA))), (ad 9, .inl (k 2, 4, .inl (aN EM))), (ad 22, .inl (k 0, 66049, .inl (aN FD))), (ad 25, .inl (k 2, 66049, .inl (aN KN))), (ad 27, .inl (k 0, 257, .inl (aN PA))), (ad 28, .inl (k 0, 257, .inl (aM NP)))] sz)) 0 0 (va_A [(md, .inr (8, [.int (nI th), .int (nI tp), .ref (ad 2), .int (nM pl), .ref (ad 4), .ref (ad 5), .ref (ad 6), .ref (ad 7), .ref (ad 8), .ref (ad 9), .int (nI si), .ref (ad 11), .int (nI at1), .int (nM wr), .int (nI dp), .int (nI pa), .ref (ad 16), .ref (ad 17), .ref (ad 18), .int (nI le), .ref (ad 20), .ref (ad 21), .ref (ad 22), .ref (ad 23), .ref (ad 24), .ref (ad 25), .ref (ad 26), .ref (ad 27), .ref (ad 28), .ref (ad 29), .ref (ad 30)])), (ad 4, .inl (k 0, 4, .inl (aN MN))), (ad 5, .inl (k 0, 32, .inl (aN LT))), (ad 6, .inl (k 0, 4, .inl (aN FI))), (ad 8, .inl (k 0, 32, .inl (aN FL))), (ad 7, .inl (k 0, 4, .inl (aN LA))), (ad 9, .inl (k 2, 4, .inl (aN EM))), (ad 22, .inl (k 0, 66049, .inl (aN FD))), (ad 25, .inl (k 2, 66049, .inl (aN KN))), (ad 27, .inl (k 0, 257, .inl (aN PA))), (ad 28, .inl (k 0, 257, .inl (aM NP)))] sz) := by
  refine kMet (by decide) (Nat.le_of_ble_eq_true rfl) ?_
  intro p e s m below meth c ls hX hml hr hlocks hin hsz hW hl Q hQ
  generalize hAe : va_A [(md, .inr (8, [.int (nI th), .int (nI tp), .ref (ad 2), .int (nM pl), .ref (ad 4), .ref (ad 5), .ref (ad 6), .ref (ad 7), .ref (ad 8), .ref (ad 9), .int (nI si), .ref (ad 11), .int (nI at1), .int (nM wr), .int (nI dp), .int (nI pa), .ref (ad 16), .ref (ad 17), .ref (ad 18), .int (nI le), .ref (ad 20), .ref (ad 21), .ref (ad 22), .ref (ad 23), .ref (ad 24), .ref (ad 25), .ref (ad 26), .ref (ad 27), .ref (ad 28), .ref (ad 29), .ref (ad 30)])), (ad 4, .inl (k 0, 4, .inl (aN MN))), (ad 5, .inl (k 0, 32, .inl (aN LT))), (ad 6, .inl (k 0, 4, .inl (aN FI))), (ad 8, .inl (k 0, 32, .inl (aN FL))), (ad 7, .inl (k 0, 4, .inl (aN LA))), (ad 9, .inl (k 2, 4, .inl (aN EM))), (ad 22, .inl (k 0, 66049, .inl (aN FD))), (ad 25, .inl (k 2, 66049, .inl (aN KN))), (ad 27, .inl (k 0, 257, .inl (aN PA))), (ad 28, .inl (k 0, 257, .inl (aM NP)))] sz = A at hW hQ
  generalize hH0 : s.heap = H at hW ⊢
  generalize hl0 : ([] : List Loc) = locs at hW ⊢
  have hX : FX p s m c [.ref md, .int (nI sl)].toArray c_Md_states R_Md := hX
  have hl : lv_has ls 6 [(0, .ref md), (1, .int (nI sl))] := hl
  have hq9 := so_ok (st := (fun q a => mstep MN LT FI FL sl q a)) (fun x a => Nat.lt_trans (mstep_lt hmn) (by decide)) 257 0 (sm0 FD KN) SI_0
  have hte : ∀ x, (mtl LA EM sl) x ≤ 1 := by intro x; unfold mtl; split; (exact hem); (exact bT1 _)
  obtain ⟨q9, hq0⟩ : ∃ q9, so (fun q a => mstep MN LT FI FL sl q a) 257 0 (sm0 FD KN) = q9 := ⟨_, rfl⟩
  rw [hq0] at hQ hfin hq9
  obtain ⟨n9, F9, K9⟩ := q9
  obtain ⟨⟨r1, r2⟩, r3, r4, r5⟩ := id hq9
  obtain ⟨o, ho⟩ : ∃ o, mgr (fun q a => mstep MN LT FI FL sl q a) F9 n9 258 0 (spa (mtl LA EM sl) F9 PA n9) NP = o := ⟨_, rfl⟩
  have hfin : o.1 = true := by rw [← ho]; exact hfin
  replace hQ : ∀ t, MQ below (va_Qi (fun (r : Int32) (_ : Unit) => r = nI o.2.1) (kB D k (fun _ : Unit => [(md, .inr (8, [.int (nI 0), .int (nI tp), .ref (ad 2), .int (nM pl), .ref (ad 4), .ref (ad 5), .ref (ad 6), .ref (ad 7), .ref (ad 8), .ref (ad 9), .int (nI si), .ref (ad 11), .int (nI at1), .int (nM wr), .int (nI dp), .int (nI pa), .ref (ad 16), .ref (ad 17), .ref (ad 18), .int (nI le), .ref (ad 20), .ref (ad 21), .ref (ad 22), .ref (ad 23), .ref (ad 24), .ref (ad 25), .ref (ad 26), .ref (ad 27), .ref (ad 28), .ref (ad 29), .ref (ad 30)])), (ad 4, .inl (k 0, 4, .inl (aN MN))), (ad 5, .inl (k 0, 32, .inl (aN LT))), (ad 6, .inl (k 0, 4, .inl (aN FI))), (ad 8, .inl (k 0, 32, .inl (aN FL))), (ad 7, .inl (k 0, 4, .inl (aN LA))), (ad 9, .inl (k 2, 4, .inl (aN EM))), (ad 22, .inl (k 0, 66049, .inl (aN F9))), (ad 25, .inl (k 2, 66049, .inl (aN K9))), (ad 27, .inl (k 0, 257, .inl (aN o.2.2.1))), (ad 28, .inl (k 0, 257, .inl (aM o.2.2.2)))]) A) A) #[.ref md, .int (nI sl)] s 0 0 A t → Q t := by rw [← ho]; exact hQ
  refine lv_aload_n hX.1 hX.2.1 d_Md_states_0 rfl (lv_at hl 0 rfl) ?_
  refine lv_iload_n hX.1 hX.2.1 d_Md_states_1 rfl (lv_at hl 1 rfl) ?_
  refine kCi (wc := []) hW [] (by rfl) (by intro _; rfl) (kRunS (n := 1) (As := [.int (nI sl)]) (rest := [.ref md]) hX hml hW (ok_Md_isSlot l D k H.size (nI sl)) m_Md_135 sm_Md_isSlot in_Md cd_Md_isSlot [] rfl rfl (by decide +kernel) ⟨rfl, rfl, Nat.le_of_ble_eq_true rfl, Nat.le_of_ble_eq_true rfl⟩ rfl hl.1 rfl (Nat.le_of_ble_eq_true rfl) d_Md_states_2 ⟨by first | exact Nat.zero_le _ | decide | omega | (dsimp only; omega), by first | exact Nat.zero_le _ | decide | omega | (dsimp only; omega)⟩) (fun r u H locs hr9 hW => ?_)
  have hW : KW D k A s [(md, .inr (8, [.int (nI th), .int (nI tp), .ref (ad 2), .int (nM pl), .ref (ad 4), .ref (ad 5), .ref (ad 6), .ref (ad 7), .ref (ad 8), .ref (ad 9), .int (nI si), .ref (ad 11), .int (nI at1), .int (nM wr), .int (nI dp), .int (nI pa), .ref (ad 16), .ref (ad 17), .ref (ad 18), .int (nI le), .ref (ad 20), .ref (ad 21), .ref (ad 22), .ref (ad 23), .ref (ad 24), .ref (ad 25), .ref (ad 26), .ref (ad 27), .ref (ad 28), .ref (ad 29), .ref (ad 30)])), (ad 4, .inl (k 0, 4, .inl (aN MN))), (ad 5, .inl (k 0, 32, .inl (aN LT))), (ad 6, .inl (k 0, 4, .inl (aN FI))), (ad 8, .inl (k 0, 32, .inl (aN FL))), (ad 7, .inl (k 0, 4, .inl (aN LA))), (ad 9, .inl (k 2, 4, .inl (aN EM))), (ad 22, .inl (k 0, 66049, .inl (aN FD))), (ad 25, .inl (k 2, 66049, .inl (aN KN))), (ad 27, .inl (k 0, 257, .inl (aN PA))), (ad 28, .inl (k 0, 257, .inl (aM NP)))] H locs := hW
  rw [isl_n hsl] at hr9
  subst hr9
  show W p l e ({ frames := 2, cells := 0, slots := 0, locals := 56 } : Room) s m [.ref md, .int (nI sl)].toArray below meth c H locs 0 0 Q (F0 m 5 ls [.int (nI true.toNat), .ref md])
  refine kCi (wc := [(md, .inr (8, [.int (nI th), .int (nI tp), .ref (ad 2), .int (nM pl), .ref (ad 4), .ref (ad 5), .ref (ad 6), .ref (ad 7), .ref (ad 8), .ref (ad 9), .int (nI si), .ref (ad 11), .int (nI at1), .int (nM wr), .int (nI dp), .int (nI pa), .ref (ad 16), .ref (ad 17), .ref (ad 18), .int (nI le), .ref (ad 20), .ref (ad 21), .ref (ad 22), .ref (ad 23), .ref (ad 24), .ref (ad 25), .ref (ad 26), .ref (ad 27), .ref (ad 28), .ref (ad 29), .ref (ad 30)]))]) hW [0] (by rfl) (by intro _; rfl) (kRunV (n := 1) (As := [.int (nI true.toNat)]) (rest := []) hX hml hW (ok_Md_says l D k H.size md ad th tp pl si at1 wr dp pa le true) m_Md_142 im_Md_says se_Md_says in_Md cd_Md_says [0] rfl rfl rfl rfl (by decide +kernel) ⟨rfl, rfl, Nat.le_of_ble_eq_true rfl, Nat.le_of_ble_eq_true rfl⟩ rfl hl.1 rfl (Nat.le_of_ble_eq_true rfl) d_Md_states_5 ⟨by first | exact Nat.zero_le _ | decide | omega | (dsimp only; omega), by first | exact Nat.zero_le _ | decide | omega | (dsimp only; omega)⟩) (fun r u H locs hr9 hW => ?_)
  have hW : KW D k A s [(md, .inr (8, [.int (nI 0), .int (nI tp), .ref (ad 2), .int (nM pl), .ref (ad 4), .ref (ad 5), .ref (ad 6), .ref (ad 7), .ref (ad 8), .ref (ad 9), .int (nI si), .ref (ad 11), .int (nI at1), .int (nM wr), .int (nI dp), .int (nI pa), .ref (ad 16), .ref (ad 17), .ref (ad 18), .int (nI le), .ref (ad 20), .ref (ad 21), .ref (ad 22), .ref (ad 23), .ref (ad 24), .ref (ad 25), .ref (ad 26), .ref (ad 27), .ref (ad 28), .ref (ad 29), .ref (ad 30)])), (ad 4, .inl (k 0, 4, .inl (aN MN))), (ad 5, .inl (k 0, 32, .inl (aN LT))), (ad 6, .inl (k 0, 4, .inl (aN FI))), (ad 8, .inl (k 0, 32, .inl (aN FL))), (ad 7, .inl (k 0, 4, .inl (aN LA))), (ad 9, .inl (k 2, 4, .inl (aN EM))), (ad 22, .inl (k 0, 66049, .inl (aN FD))), (ad 25, .inl (k 2, 66049, .inl (aN KN))), (ad 27, .inl (k 0, 257, .inl (aN PA))), (ad 28, .inl (k 0, 257, .inl (aM NP)))] H locs := hW
  subst hr9
  refine knz hX (tgt := 13) (by decide) d_Md_states_8 (by decide) (fun _ => ?_) (fun h1 => absurd h1 (by decide))
  have k183 : ∀ (fu kn : Nat) (PA1 NP1 : Nat → Nat) (H : Heap) (locs : List Loc) (ls : Array Slot), 0 < fu → mgr (fun q a => mstep MN LT FI FL sl q a) F9 n9 fu kn PA1 NP1 = o → kn < 1000 → (∀ x, x < 257 → PA1 x < 1000) → KW D k A s [(md, .inr (8, [.int (nI 0), .int (nI tp), .ref (ad 2), .int (nM pl), .ref (ad 4), .ref (ad 5), .ref (ad 6), .ref (ad 7), .ref (ad 8), .ref (ad 9), .int (nI si), .ref (ad 11), .int (nI at1), .int (nM wr), .int (nI dp), .int (nI pa), .ref (ad 16), .ref (ad 17), .ref (ad 18), .int (nI le), .ref (ad 20), .ref (ad 21), .ref (ad 22), .ref (ad 23), .ref (ad 24), .ref (ad 25), .ref (ad 26), .ref (ad 27), .ref (ad 28), .ref (ad 29), .ref (ad 30)])), (ad 4, .inl (k 0, 4, .inl (aN MN))), (ad 5, .inl (k 0, 32, .inl (aN LT))), (ad 6, .inl (k 0, 4, .inl (aN FI))), (ad 8, .inl (k 0, 32, .inl (aN FL))), (ad 7, .inl (k 0, 4, .inl (aN LA))), (ad 9, .inl (k 2, 4, .inl (aN EM))), (ad 22, .inl (k 0, 66049, .inl (aN F9))), (ad 25, .inl (k 2, 66049, .inl (aN K9))), (ad 27, .inl (k 0, 257, .inl (aN (spc F9 (sp1 (fun q a => mstep MN LT FI FL sl q a) F9 PA1 NP1 n9).2 PA1 n9)))), (ad 28, .inl (k 0, 257, .inl (aM ((sp1 (fun q a => mstep MN LT FI FL sl q a) F9 PA1 NP1 n9).2))))] H locs → lv_has ls 6 [(4, .int (nI ((sp1 (fun q a => mstep MN LT FI FL sl q a) F9 PA1 NP1 n9).1))), (3, .int (nI kn)), (2, .int (nI n9)), (1, .int (nI sl)), (0, .ref md)] → W p l e ({ frames := 2, cells := 0, slots := 0, locals := 56 } : Room) s m [.ref md, .int (nI sl)].toArray below meth c H locs 0 0 Q (F0 m 183 ls []) := by
    intro fu
    induction fu with
    | zero => intro kn PA1 NP1 H locs ls h0; exact absurd h0 (by decide)
    | succ fu ih =>
      intro kn PA1 NP1 H locs ls _ hm hkn hPA1 hW hl
      rw [mgr] at hm
      have hsv := sp1_v (st := (fun q a => mstep MN LT FI FL sl q a)) (PA := PA1) (NP := NP1) r4 n9 (Nat.le_refl _)
      have hsl1 := sp1_le (fun q a => mstep MN LT FI FL sl q a) F9 PA1 NP1 n9
      have hPA2 := spc_lt (FD := F9) (NP := (sp1 (fun q a => mstep MN LT FI FL sl q a) F9 PA1 NP1 n9).2) (PA := PA1) n9 (fun i hi => by have := hsv i hi; omega) hPA1
      obtain ⟨PA2, hP2⟩ : ∃ PA2, spc F9 (sp1 (fun q a => mstep MN LT FI FL sl q a) F9 PA1 NP1 n9).2 PA1 n9 = PA2 := ⟨_, rfl⟩
      obtain ⟨NP2, hN2⟩ : ∃ NP2, (sp1 (fun q a => mstep MN LT FI FL sl q a) F9 PA1 NP1 n9).2 = NP2 := ⟨_, rfl⟩
      obtain ⟨kn2, hk2⟩ : ∃ kn2, (sp1 (fun q a => mstep MN LT FI FL sl q a) F9 PA1 NP1 n9).1 = kn2 := ⟨_, rfl⟩
      rw [hP2, hN2] at hm hW
      rw [hk2] at hm hl hsl1
      rw [hP2] at hPA2
      refine lv_iload hX.1 hX.2.1 d_Md_states_183 (lv_at hl 0 rfl) ?_
      refine lv_iload_n hX.1 hX.2.1 d_Md_states_185 rfl (lv_at hl 1 rfl) ?_
      refine keq hX (tgt := 203) (by omega) (by omega) d_Md_states_186 (by decide) (fun h1 => ?_) (fun h1 => ?_)
      · rw [if_pos h1] at hm
        refine lv_iload hX.1 hX.2.1 d_Md_states_203 (lv_at hl 0 rfl) ?_
        have e1 : o.2.1 = kn2 := by rw [← hm]; exact h1.symm
        exact kiret hX hr hlocks hQ () (by rw [show o.2.2.1 = PA2 by rw [← hm], show o.2.2.2 = NP2 by rw [← hm]]; exact hW) (by rw [e1]) d_Md_states_205
      · rw [if_neg h1] at hm
        have hfu : 0 < fu := by rcases Nat.eq_zero_or_pos fu with z | z; (exfalso; subst z; rw [mgr] at hm; rw [← hm] at hfin; cases hfin); (exact z)
        refine lv_iload hX.1 hX.2.1 d_Md_states_189 (lv_at hl 0 rfl) ?_
        refine lv_istore_n (lv' := [(3, .int (nI kn2)), (4, .int (nI kn2)), (2, .int (nI n9)), (1, .int (nI sl)), (0, .ref md)]) hX.1 hX.2.1 d_Md_states_191 rfl hl (by decide) rfl (fun ls hl => ?_)
        refine lv_aload_n hX.1 hX.2.1 d_Md_states_192 rfl (lv_at hl 4 rfl) ?_
        refine lv_iload_n hX.1 hX.2.1 d_Md_states_193 rfl (lv_at hl 3 rfl) ?_
        refine lv_iload_n hX.1 hX.2.1 d_Md_states_194 rfl (lv_at hl 2 rfl) ?_
        refine kCi (wc := [(md, .inr (8, [.int (nI 0), .int (nI tp), .ref (ad 2), .int (nM pl), .ref (ad 4), .ref (ad 5), .ref (ad 6), .ref (ad 7), .ref (ad 8), .ref (ad 9), .int (nI si), .ref (ad 11), .int (nI at1), .int (nM wr), .int (nI dp), .int (nI pa), .ref (ad 16), .ref (ad 17), .ref (ad 18), .int (nI le), .ref (ad 20), .ref (ad 21), .ref (ad 22), .ref (ad 23), .ref (ad 24), .ref (ad 25), .ref (ad 26), .ref (ad 27), .ref (ad 28), .ref (ad 29), .ref (ad 30)])), (ad 4, .inl (k 0, 4, .inl (aN MN))), (ad 5, .inl (k 0, 32, .inl (aN LT))), (ad 6, .inl (k 0, 4, .inl (aN FI))), (ad 8, .inl (k 0, 32, .inl (aN FL))), (ad 22, .inl (k 0, 66049, .inl (aN F9))), (ad 27, .inl (k 0, 257, .inl (aN PA2))), (ad 28, .inl (k 0, 257, .inl (aM NP2)))]) hW [0, 1, 2, 3, 4, 7, 9, 10] (by rfl) (by intro _; rfl) (kRunV (n := 2) (As := [.int (nI sl), .int (nI n9)]) (rest := []) hX hml hW (ok_Md_split l D k H.size md ad 0 tp pl si at1 wr dp pa le MN LT FI FL F9 PA2 NP2 sl n9 hsl r2 (fun j hj => (r3 j hj).1) r4 hPA2 hmn hfi hfl hlt) m_Md_168 im_Md_split se_Md_split in_Md cd_Md_split [0, 1, 2, 3, 4, 7, 9, 10] rfl rfl rfl rfl (by decide +kernel) ⟨rfl, rfl, Nat.le_of_ble_eq_true rfl, Nat.le_of_ble_eq_true rfl⟩ rfl hl.1 rfl (Nat.le_of_ble_eq_true rfl) d_Md_states_195 ⟨by first | exact Nat.zero_le _ | decide | omega | (dsimp only; omega), by first | exact Nat.zero_le _ | decide | omega | (dsimp only; omega)⟩) (fun r u H locs hr9 hW => ?_)
        have hW : KW D k A s [(md, .inr (8, [.int (nI 0), .int (nI tp), .ref (ad 2), .int (nM pl), .ref (ad 4), .ref (ad 5), .ref (ad 6), .ref (ad 7), .ref (ad 8), .ref (ad 9), .int (nI si), .ref (ad 11), .int (nI at1), .int (nM wr), .int (nI dp), .int (nI pa), .ref (ad 16), .ref (ad 17), .ref (ad 18), .int (nI le), .ref (ad 20), .ref (ad 21), .ref (ad 22), .ref (ad 23), .ref (ad 24), .ref (ad 25), .ref (ad 26), .ref (ad 27), .ref (ad 28), .ref (ad 29), .ref (ad 30)])), (ad 4, .inl (k 0, 4, .inl (aN MN))), (ad 5, .inl (k 0, 32, .inl (aN LT))), (ad 6, .inl (k 0, 4, .inl (aN FI))), (ad 8, .inl (k 0, 32, .inl (aN FL))), (ad 7, .inl (k 0, 4, .inl (aN LA))), (ad 9, .inl (k 2, 4, .inl (aN EM))), (ad 22, .inl (k 0, 66049, .inl (aN F9))), (ad 25, .inl (k 2, 66049, .inl (aN K9))), (ad 27, .inl (k 0, 257, .inl (aN (spc F9 (sp1 (fun q a => mstep MN LT FI FL sl q a) F9 PA2 NP2 n9).2 PA2 n9)))), (ad 28, .inl (k 0, 257, .inl (aM ((sp1 (fun q a => mstep MN LT FI FL sl q a) F9 PA2 NP2 n9).2))))] H locs := hW
        subst hr9
        refine lv_istore (lv' := [(4, .int (nI ((sp1 (fun q a => mstep MN LT FI FL sl q a) F9 PA2 NP2 n9).1))), (3, .int (nI kn2)), (2, .int (nI n9)), (1, .int (nI sl)), (0, .ref md)]) hX.1 hX.2.1 d_Md_states_198 hl (by decide) rfl (fun ls hl => ?_)
        refine lv_goto (tgt := 183) hX.1 hX.2.1 d_Md_states_200 (by decide) ?_
        exact ih kn2 PA2 NP2 H locs ls hfu hm (by omega) hPA2 hW (lv_sub hl [0, 1, 2, 3, 4] rfl)
  have k132 : ∀ (H : Heap) (locs : List Loc) (ls : Array Slot), KW D k A s [(md, .inr (8, [.int (nI 0), .int (nI tp), .ref (ad 2), .int (nM pl), .ref (ad 4), .ref (ad 5), .ref (ad 6), .ref (ad 7), .ref (ad 8), .ref (ad 9), .int (nI si), .ref (ad 11), .int (nI at1), .int (nM wr), .int (nI dp), .int (nI pa), .ref (ad 16), .ref (ad 17), .ref (ad 18), .int (nI le), .ref (ad 20), .ref (ad 21), .ref (ad 22), .ref (ad 23), .ref (ad 24), .ref (ad 25), .ref (ad 26), .ref (ad 27), .ref (ad 28), .ref (ad 29), .ref (ad 30)])), (ad 4, .inl (k 0, 4, .inl (aN MN))), (ad 5, .inl (k 0, 32, .inl (aN LT))), (ad 6, .inl (k 0, 4, .inl (aN FI))), (ad 8, .inl (k 0, 32, .inl (aN FL))), (ad 7, .inl (k 0, 4, .inl (aN LA))), (ad 9, .inl (k 2, 4, .inl (aN EM))), (ad 22, .inl (k 0, 66049, .inl (aN F9))), (ad 25, .inl (k 2, 66049, .inl (aN K9))), (ad 27, .inl (k 0, 257, .inl (aN PA))), (ad 28, .inl (k 0, 257, .inl (aM NP)))] H locs → lv_has ls 6 [(3, .int (nI 0)), (2, .int (nI n9)), (1, .int (nI sl)), (0, .ref md)] → W p l e ({ frames := 2, cells := 0, slots := 0, locals := 56 } : Room) s m [.ref md, .int (nI sl)].toArray below meth c H locs 0 0 Q (F0 m 132 ls []) := by
    intro H locs ls hW hl
    have lq : ∀ (fu : Nat) (j : Nat) (H : Heap) (locs : List Loc) (ls : Array Slot), (j ≤ n9) → (n9 < j + fu) →  KW D k A s [(md, .inr (8, [.int (nI 0), .int (nI tp), .ref (ad 2), .int (nM pl), .ref (ad 4), .ref (ad 5), .ref (ad 6), .ref (ad 7), .ref (ad 8), .ref (ad 9), .int (nI si), .ref (ad 11), .int (nI at1), .int (nM wr), .int (nI dp), .int (nI pa), .ref (ad 16), .ref (ad 17), .ref (ad 18), .int (nI le), .ref (ad 20), .ref (ad 21), .ref (ad 22), .ref (ad 23), .ref (ad 24), .ref (ad 25), .ref (ad 26), .ref (ad 27), .ref (ad 28), .ref (ad 29), .ref (ad 30)])), (ad 4, .inl (k 0, 4, .inl (aN MN))), (ad 5, .inl (k 0, 32, .inl (aN LT))), (ad 6, .inl (k 0, 4, .inl (aN FI))), (ad 8, .inl (k 0, 32, .inl (aN FL))), (ad 7, .inl (k 0, 4, .inl (aN LA))), (ad 9, .inl (k 2, 4, .inl (aN EM))), (ad 22, .inl (k 0, 66049, .inl (aN F9))), (ad 25, .inl (k 2, 66049, .inl (aN K9))), (ad 27, .inl (k 0, 257, .inl (aN (spa (mtl LA EM sl) F9 PA j)))), (ad 28, .inl (k 0, 257, .inl (aM NP)))] H locs → lv_has ls 6 [(3, .int (nI j)), (2, .int (nI n9)), (1, .int (nI sl)), (0, .ref md)] → W p l e ({ frames := 2, cells := 0, slots := 0, locals := 56 } : Room) s m [.ref md, .int (nI sl)].toArray below meth c H locs 0 0 Q (F0 m 132 ls []) := by
      intro fu
      induction fu with
      | zero => intro j H locs ls lq1 lq2 hW hl; exfalso; omega
      | succ fu ih =>
        intro j H locs ls lq1 lq2 hW hl
        refine lv_iload_n hX.1 hX.2.1 d_Md_states_132 rfl (lv_at hl 0 rfl) ?_
        refine lv_iload_n hX.1 hX.2.1 d_Md_states_133 rfl (lv_at hl 1 rfl) ?_
        refine kge hX (tgt := 173) (by omega) (by omega) d_Md_states_134 (by decide) (fun h1 => ?_) (fun h1 => ?_)
        · have e1 : j = n9 := by omega
          rw [e1] at hW
          refine lv_iconst (v := nI 0) hX.1 hX.2.1 d_Md_states_173 (by decide) ?_
          refine lv_istore_n (lv' := [(3, .int (nI 0)), (2, .int (nI n9)), (1, .int (nI sl)), (0, .ref md)]) hX.1 hX.2.1 d_Md_states_174 rfl hl (by decide) rfl (fun ls hl => ?_)
          refine lv_aload_n hX.1 hX.2.1 d_Md_states_175 rfl (lv_at hl 3 rfl) ?_
          refine lv_iload_n hX.1 hX.2.1 d_Md_states_176 rfl (lv_at hl 2 rfl) ?_
          refine lv_iload_n hX.1 hX.2.1 d_Md_states_177 rfl (lv_at hl 1 rfl) ?_
          have hPA0 := spa_lt (FD := F9) hte hPA n9
          refine kCi (wc := [(md, .inr (8, [.int (nI 0), .int (nI tp), .ref (ad 2), .int (nM pl), .ref (ad 4), .ref (ad 5), .ref (ad 6), .ref (ad 7), .ref (ad 8), .ref (ad 9), .int (nI si), .ref (ad 11), .int (nI at1), .int (nM wr), .int (nI dp), .int (nI pa), .ref (ad 16), .ref (ad 17), .ref (ad 18), .int (nI le), .ref (ad 20), .ref (ad 21), .ref (ad 22), .ref (ad 23), .ref (ad 24), .ref (ad 25), .ref (ad 26), .ref (ad 27), .ref (ad 28), .ref (ad 29), .ref (ad 30)])), (ad 4, .inl (k 0, 4, .inl (aN MN))), (ad 5, .inl (k 0, 32, .inl (aN LT))), (ad 6, .inl (k 0, 4, .inl (aN FI))), (ad 8, .inl (k 0, 32, .inl (aN FL))), (ad 22, .inl (k 0, 66049, .inl (aN F9))), (ad 27, .inl (k 0, 257, .inl (aN (spa (mtl LA EM sl) F9 PA n9)))), (ad 28, .inl (k 0, 257, .inl (aM NP)))]) hW [0, 1, 2, 3, 4, 7, 9, 10] (by rfl) (by intro _; rfl) (kRunV (n := 2) (As := [.int (nI sl), .int (nI n9)]) (rest := []) hX hml hW (ok_Md_split l D k H.size md ad 0 tp pl si at1 wr dp pa le MN LT FI FL F9 (spa (mtl LA EM sl) F9 PA n9) NP sl n9 hsl r2 (fun j hj => (r3 j hj).1) r4 hPA0 hmn hfi hfl hlt) m_Md_168 im_Md_split se_Md_split in_Md cd_Md_split [0, 1, 2, 3, 4, 7, 9, 10] rfl rfl rfl rfl (by decide +kernel) ⟨rfl, rfl, Nat.le_of_ble_eq_true rfl, Nat.le_of_ble_eq_true rfl⟩ rfl hl.1 rfl (Nat.le_of_ble_eq_true rfl) d_Md_states_178 ⟨by first | exact Nat.zero_le _ | decide | omega | (dsimp only; omega), by first | exact Nat.zero_le _ | decide | omega | (dsimp only; omega)⟩) (fun r u H locs hr9 hW => ?_)
          have hW : KW D k A s [(md, .inr (8, [.int (nI 0), .int (nI tp), .ref (ad 2), .int (nM pl), .ref (ad 4), .ref (ad 5), .ref (ad 6), .ref (ad 7), .ref (ad 8), .ref (ad 9), .int (nI si), .ref (ad 11), .int (nI at1), .int (nM wr), .int (nI dp), .int (nI pa), .ref (ad 16), .ref (ad 17), .ref (ad 18), .int (nI le), .ref (ad 20), .ref (ad 21), .ref (ad 22), .ref (ad 23), .ref (ad 24), .ref (ad 25), .ref (ad 26), .ref (ad 27), .ref (ad 28), .ref (ad 29), .ref (ad 30)])), (ad 4, .inl (k 0, 4, .inl (aN MN))), (ad 5, .inl (k 0, 32, .inl (aN LT))), (ad 6, .inl (k 0, 4, .inl (aN FI))), (ad 8, .inl (k 0, 32, .inl (aN FL))), (ad 7, .inl (k 0, 4, .inl (aN LA))), (ad 9, .inl (k 2, 4, .inl (aN EM))), (ad 22, .inl (k 0, 66049, .inl (aN F9))), (ad 25, .inl (k 2, 66049, .inl (aN K9))), (ad 27, .inl (k 0, 257, .inl (aN (spc F9 (sp1 (fun q a => mstep MN LT FI FL sl q a) F9 (spa (mtl LA EM sl) F9 PA n9) NP n9).2 (spa (mtl LA EM sl) F9 PA n9) n9)))), (ad 28, .inl (k 0, 257, .inl (aM ((sp1 (fun q a => mstep MN LT FI FL sl q a) F9 (spa (mtl LA EM sl) F9 PA n9) NP n9).2))))] H locs := hW
          subst hr9
          refine lv_istore (lv' := [(4, .int (nI ((sp1 (fun q a => mstep MN LT FI FL sl q a) F9 (spa (mtl LA EM sl) F9 PA n9) NP n9).1))), (3, .int (nI 0)), (2, .int (nI n9)), (1, .int (nI sl)), (0, .ref md)]) hX.1 hX.2.1 d_Md_states_181 hl (by decide) rfl (fun ls hl => ?_)
          exact k183 258 0 (spa (mtl LA EM sl) F9 PA n9) NP H locs ls (by decide) ho (by decide) hPA0 hW (lv_sub hl [0, 1, 2, 3, 4] rfl)
        · have f1 := (r3 j h1).1
          refine lv_aload_n hX.1 hX.2.1 d_Md_states_137 rfl (lv_at hl 3 rfl) ?_
          refine kget hX hW i_Md 0 rfl rfl 27 (by decide) f_Md_71 rfl rfl d_Md_states_138 ?_
          refine lv_aload_n hX.1 hX.2.1 d_Md_states_141 rfl (lv_at hl 3 rfl) ?_
          refine kget hX hW i_Md 0 rfl rfl 22 (by decide) f_Md_55 rfl rfl d_Md_states_142 ?_
          refine lv_iload_n hX.1 hX.2.1 d_Md_states_145 rfl (lv_at hl 0 rfl) ?_
          refine kiald hX hW 7 rfl (by omega) (by first | decide | omega) d_Md_states_146 ?_
          refine lv_aload_n hX.1 hX.2.1 d_Md_states_147 rfl (lv_at hl 3 rfl) ?_
          refine lv_iload_n hX.1 hX.2.1 d_Md_states_148 rfl (lv_at hl 2 rfl) ?_
          refine lv_aload_n hX.1 hX.2.1 d_Md_states_149 rfl (lv_at hl 3 rfl) ?_
          refine kget hX hW i_Md 0 rfl rfl 22 (by decide) f_Md_55 rfl rfl d_Md_states_150 ?_
          refine lv_iload_n hX.1 hX.2.1 d_Md_states_153 rfl (lv_at hl 0 rfl) ?_
          refine kiald hX hW 7 rfl (by omega) (by first | decide | omega) d_Md_states_154 ?_
          refine kCi (wc := [(md, .inr (8, [.int (nI 0), .int (nI tp), .ref (ad 2), .int (nM pl), .ref (ad 4), .ref (ad 5), .ref (ad 6), .ref (ad 7), .ref (ad 8), .ref (ad 9), .int (nI si), .ref (ad 11), .int (nI at1), .int (nM wr), .int (nI dp), .int (nI pa), .ref (ad 16), .ref (ad 17), .ref (ad 18), .int (nI le), .ref (ad 20), .ref (ad 21), .ref (ad 22), .ref (ad 23), .ref (ad 24), .ref (ad 25), .ref (ad 26), .ref (ad 27), .ref (ad 28), .ref (ad 29), .ref (ad 30)])), (ad 7, .inl (k 0, 4, .inl (aN LA))), (ad 9, .inl (k 2, 4, .inl (aN EM)))]) hW [0, 5, 6] (by rfl) (by intro _; rfl) (kRunV (n := 2) (As := [.int (nI sl), .int (nI (F9 j))]) (rest := [.int (nI (F9 j)), .ref (ad 27)]) hX hml hW (ok_Md_tells l D k H.size md ad 0 tp pl si at1 wr dp pa le LA EM sl (F9 j) hsl (by omega) hem) m_Md_150 im_Md_tells se_Md_tells in_Md cd_Md_tells [0, 5, 6] rfl rfl rfl rfl (by decide +kernel) ⟨rfl, rfl, Nat.le_of_ble_eq_true rfl, Nat.le_of_ble_eq_true rfl⟩ rfl hl.1 rfl (Nat.le_of_ble_eq_true rfl) d_Md_states_155 ⟨by first | exact Nat.zero_le _ | decide | omega | (dsimp only; omega), by first | exact Nat.zero_le _ | decide | omega | (dsimp only; omega)⟩) (fun r u H locs hr9 hW => ?_)
          have hW : KW D k A s [(md, .inr (8, [.int (nI 0), .int (nI tp), .ref (ad 2), .int (nM pl), .ref (ad 4), .ref (ad 5), .ref (ad 6), .ref (ad 7), .ref (ad 8), .ref (ad 9), .int (nI si), .ref (ad 11), .int (nI at1), .int (nM wr), .int (nI dp), .int (nI pa), .ref (ad 16), .ref (ad 17), .ref (ad 18), .int (nI le), .ref (ad 20), .ref (ad 21), .ref (ad 22), .ref (ad 23), .ref (ad 24), .ref (ad 25), .ref (ad 26), .ref (ad 27), .ref (ad 28), .ref (ad 29), .ref (ad 30)])), (ad 4, .inl (k 0, 4, .inl (aN MN))), (ad 5, .inl (k 0, 32, .inl (aN LT))), (ad 6, .inl (k 0, 4, .inl (aN FI))), (ad 8, .inl (k 0, 32, .inl (aN FL))), (ad 7, .inl (k 0, 4, .inl (aN LA))), (ad 9, .inl (k 2, 4, .inl (aN EM))), (ad 22, .inl (k 0, 66049, .inl (aN F9))), (ad 25, .inl (k 2, 66049, .inl (aN K9))), (ad 27, .inl (k 0, 257, .inl (aN (spa (mtl LA EM sl) F9 PA j)))), (ad 28, .inl (k 0, 257, .inl (aM NP)))] H locs := hW
          subst hr9
          show W p l e ({ frames := 2, cells := 0, slots := 0, locals := 56 } : Room) s m [.ref md, .int (nI sl)].toArray below meth c H locs 0 0 Q (F0 m 158 ls [.int (nI ((mtl LA EM sl) (F9 j))), .int (nI (F9 j)), .ref (ad 27)])
          have ma1 := hte (F9 j)
          have k166 : ∀ (vv : Nat), vv = (mtl LA EM sl) (F9 j) → W p l e ({ frames := 2, cells := 0, slots := 0, locals := 56 } : Room) s m [.ref md, .int (nI sl)].toArray below meth c H locs 0 0 Q (F0 m 166 ls [.int (nI vv), .int (nI (F9 j)), .ref (ad 27)]) := by
            intro vv hvv
            refine kiast hX hW 9 rfl (by omega) (by first | decide | omega) d_Md_states_166 (fun H locs hW => ?_)
            have hW : KW D k A s [(md, .inr (8, [.int (nI 0), .int (nI tp), .ref (ad 2), .int (nM pl), .ref (ad 4), .ref (ad 5), .ref (ad 6), .ref (ad 7), .ref (ad 8), .ref (ad 9), .int (nI si), .ref (ad 11), .int (nI at1), .int (nM wr), .int (nI dp), .int (nI pa), .ref (ad 16), .ref (ad 17), .ref (ad 18), .int (nI le), .ref (ad 20), .ref (ad 21), .ref (ad 22), .ref (ad 23), .ref (ad 24), .ref (ad 25), .ref (ad 26), .ref (ad 27), .ref (ad 28), .ref (ad 29), .ref (ad 30)])), (ad 4, .inl (k 0, 4, .inl (aN MN))), (ad 5, .inl (k 0, 32, .inl (aN LT))), (ad 6, .inl (k 0, 4, .inl (aN FI))), (ad 8, .inl (k 0, 32, .inl (aN FL))), (ad 7, .inl (k 0, 4, .inl (aN LA))), (ad 9, .inl (k 2, 4, .inl (aN EM))), (ad 22, .inl (k 0, 66049, .inl (aN F9))), (ad 25, .inl (k 2, 66049, .inl (aN K9))), (ad 27, .inl (k 0, 257, .inl (aN (va_up (spa (mtl LA EM sl) F9 PA j) (F9 j) vv)))), (ad 28, .inl (k 0, 257, .inl (aM NP)))] H locs := hW
            refine lv_iinc (v := nI (j + 1)) (lv' := [(3, .int (nI (j + 1))), (2, .int (nI n9)), (1, .int (nI sl)), (0, .ref md)]) hX.1 hX.2.1 d_Md_states_167 hl (k := 0) rfl (kn_inc _) (by decide) rfl (fun ls hl => ?_)
            refine lv_goto (tgt := 132) hX.1 hX.2.1 d_Md_states_170 (by decide) ?_
            subst hvv
            exact ih (j + 1) H locs ls (by omega) (by omega) hW (lv_sub hl [0, 1, 2, 3] rfl)
          refine kz hX (tgt := 165) (by omega) d_Md_states_158 (by decide) (fun h2 => ?_) (fun h2 => ?_)
          · refine lv_iconst (v := nI 0) hX.1 hX.2.1 d_Md_states_165 (by decide) ?_
            exact k166 0 h2.symm
          · refine lv_iconst (v := nI 1) hX.1 hX.2.1 d_Md_states_161 (by decide) ?_
            refine lv_goto (tgt := 166) hX.1 hX.2.1 d_Md_states_162 (by decide) ?_
            exact k166 1 (by omega)
    exact lq (n9 + 1) 0 H locs ls (by omega) (by omega) hW (lv_sub hl [0, 1, 2, 3] rfl)
  refine lv_iconst (v := nI 0) hX.1 hX.2.1 d_Md_states_13 (by decide) ?_
  refine lv_istore_n (lv' := [(2, .int (nI 0)), (0, .ref md), (1, .int (nI sl))]) hX.1 hX.2.1 d_Md_states_14 rfl hl (by decide) rfl (fun ls hl => ?_)
  have lp : ∀ (fu : Nat) (j : Nat) (H : Heap) (locs : List Loc) (ls : Array Slot), (j ≤ 257) → (257 < j + fu) →  KW D k A s [(md, .inr (8, [.int (nI 0), .int (nI tp), .ref (ad 2), .int (nM pl), .ref (ad 4), .ref (ad 5), .ref (ad 6), .ref (ad 7), .ref (ad 8), .ref (ad 9), .int (nI si), .ref (ad 11), .int (nI at1), .int (nM wr), .int (nI dp), .int (nI pa), .ref (ad 16), .ref (ad 17), .ref (ad 18), .int (nI le), .ref (ad 20), .ref (ad 21), .ref (ad 22), .ref (ad 23), .ref (ad 24), .ref (ad 25), .ref (ad 26), .ref (ad 27), .ref (ad 28), .ref (ad 29), .ref (ad 30)])), (ad 4, .inl (k 0, 4, .inl (aN MN))), (ad 5, .inl (k 0, 32, .inl (aN LT))), (ad 6, .inl (k 0, 4, .inl (aN FI))), (ad 8, .inl (k 0, 32, .inl (aN FL))), (ad 7, .inl (k 0, 4, .inl (aN LA))), (ad 9, .inl (k 2, 4, .inl (aN EM))), (ad 22, .inl (k 0, 66049, .inl (aN FD))), (ad 25, .inl (k 2, 66049, .inl (aN (fil KN 0 j)))), (ad 27, .inl (k 0, 257, .inl (aN PA))), (ad 28, .inl (k 0, 257, .inl (aM NP)))] H locs → lv_has ls 6 [(2, .int (nI j)), (1, .int (nI sl)), (0, .ref md)] → W p l e ({ frames := 2, cells := 0, slots := 0, locals := 56 } : Room) s m [.ref md, .int (nI sl)].toArray below meth c H locs 0 0 Q (F0 m 15 ls []) := by
    intro fu
    induction fu with
    | zero => intro j H locs ls lp1 lp2 hW hl; exfalso; omega
    | succ fu ih =>
      intro j H locs ls lp1 lp2 hW hl
      refine lv_iload_n hX.1 hX.2.1 d_Md_states_15 rfl (lv_at hl 0 rfl) ?_
      refine lv_sipush (v := nI 257) hX.1 hX.2.1 d_Md_states_16 (by decide) ?_
      refine kge hX (tgt := 35) (by omega) (by omega) d_Md_states_19 (by decide) (fun h1 => ?_) (fun h1 => ?_)
      · have e1 : j = 257 := by omega
        subst e1
        refine lv_iconst (v := nI 1) hX.1 hX.2.1 d_Md_states_35 (by decide) ?_
        refine lv_istore_n (lv' := [(2, .int (nI 1)), (1, .int (nI sl)), (0, .ref md)]) hX.1 hX.2.1 d_Md_states_36 rfl hl (by decide) rfl (fun ls hl => ?_)
        refine lv_aload_n hX.1 hX.2.1 d_Md_states_37 rfl (lv_at hl 2 rfl) ?_
        refine kget hX hW i_Md 0 rfl rfl 22 (by decide) f_Md_55 rfl rfl d_Md_states_38 ?_
        refine lv_iconst (v := nI 0) hX.1 hX.2.1 d_Md_states_41 (by decide) ?_
        refine lv_sipush (v := nI 256) hX.1 hX.2.1 d_Md_states_42 (by decide) ?_
        refine kiast hX hW 7 rfl (by omega) (by first | decide | omega) d_Md_states_45 (fun H locs hW => ?_)
        have hW : KW D k A s [(md, .inr (8, [.int (nI 0), .int (nI tp), .ref (ad 2), .int (nM pl), .ref (ad 4), .ref (ad 5), .ref (ad 6), .ref (ad 7), .ref (ad 8), .ref (ad 9), .int (nI si), .ref (ad 11), .int (nI at1), .int (nM wr), .int (nI dp), .int (nI pa), .ref (ad 16), .ref (ad 17), .ref (ad 18), .int (nI le), .ref (ad 20), .ref (ad 21), .ref (ad 22), .ref (ad 23), .ref (ad 24), .ref (ad 25), .ref (ad 26), .ref (ad 27), .ref (ad 28), .ref (ad 29), .ref (ad 30)])), (ad 4, .inl (k 0, 4, .inl (aN MN))), (ad 5, .inl (k 0, 32, .inl (aN LT))), (ad 6, .inl (k 0, 4, .inl (aN FI))), (ad 8, .inl (k 0, 32, .inl (aN FL))), (ad 7, .inl (k 0, 4, .inl (aN LA))), (ad 9, .inl (k 2, 4, .inl (aN EM))), (ad 22, .inl (k 0, 66049, .inl (aN (va_up FD 0 256)))), (ad 25, .inl (k 2, 66049, .inl (aN (fil KN 0 257)))), (ad 27, .inl (k 0, 257, .inl (aN PA))), (ad 28, .inl (k 0, 257, .inl (aM NP)))] H locs := hW
        refine lv_aload_n hX.1 hX.2.1 d_Md_states_46 rfl (lv_at hl 2 rfl) ?_
        refine kget hX hW i_Md 0 rfl rfl 25 (by decide) f_Md_64 rfl rfl d_Md_states_47 ?_
        refine lv_sipush (v := nI 256) hX.1 hX.2.1 d_Md_states_50 (by decide) ?_
        refine lv_iconst (v := nI 1) hX.1 hX.2.1 d_Md_states_53 (by decide) ?_
        refine kzast hX hW 8 rfl (by omega) (by first | decide | omega) (by decide) d_Md_states_54 (fun H locs hW => ?_)
        have hW : KW D k A s [(md, .inr (8, [.int (nI 0), .int (nI tp), .ref (ad 2), .int (nM pl), .ref (ad 4), .ref (ad 5), .ref (ad 6), .ref (ad 7), .ref (ad 8), .ref (ad 9), .int (nI si), .ref (ad 11), .int (nI at1), .int (nM wr), .int (nI dp), .int (nI pa), .ref (ad 16), .ref (ad 17), .ref (ad 18), .int (nI le), .ref (ad 20), .ref (ad 21), .ref (ad 22), .ref (ad 23), .ref (ad 24), .ref (ad 25), .ref (ad 26), .ref (ad 27), .ref (ad 28), .ref (ad 29), .ref (ad 30)])), (ad 4, .inl (k 0, 4, .inl (aN MN))), (ad 5, .inl (k 0, 32, .inl (aN LT))), (ad 6, .inl (k 0, 4, .inl (aN FI))), (ad 8, .inl (k 0, 32, .inl (aN FL))), (ad 7, .inl (k 0, 4, .inl (aN LA))), (ad 9, .inl (k 2, 4, .inl (aN EM))), (ad 22, .inl (k 0, 66049, .inl (aN (va_up FD 0 256)))), (ad 25, .inl (k 2, 66049, .inl (aN (va_up (fil KN 0 257) 256 1)))), (ad 27, .inl (k 0, 257, .inl (aN PA))), (ad 28, .inl (k 0, 257, .inl (aM NP)))] H locs := hW
        refine lv_iconst (v := nI 0) hX.1 hX.2.1 d_Md_states_55 (by decide) ?_
        refine lv_istore_n (lv' := [(3, .int (nI 0)), (2, .int (nI 1)), (1, .int (nI sl)), (0, .ref md)]) hX.1 hX.2.1 d_Md_states_56 rfl hl (by decide) rfl (fun ls hl => ?_)
        have hW : KW D k A s [(md, .inr (8, [.int (nI 0), .int (nI tp), .ref (ad 2), .int (nM pl), .ref (ad 4), .ref (ad 5), .ref (ad 6), .ref (ad 7), .ref (ad 8), .ref (ad 9), .int (nI si), .ref (ad 11), .int (nI at1), .int (nM wr), .int (nI dp), .int (nI pa), .ref (ad 16), .ref (ad 17), .ref (ad 18), .int (nI le), .ref (ad 20), .ref (ad 21), .ref (ad 22), .ref (ad 23), .ref (ad 24), .ref (ad 25), .ref (ad 26), .ref (ad 27), .ref (ad 28), .ref (ad 29), .ref (ad 30)])), (ad 4, .inl (k 0, 4, .inl (aN MN))), (ad 5, .inl (k 0, 32, .inl (aN LT))), (ad 6, .inl (k 0, 4, .inl (aN FI))), (ad 8, .inl (k 0, 32, .inl (aN FL))), (ad 7, .inl (k 0, 4, .inl (aN LA))), (ad 9, .inl (k 2, 4, .inl (aN EM))), (ad 22, .inl (k 0, 66049, .inl (aN ((sm0 FD KN).2.1)))), (ad 25, .inl (k 2, 66049, .inl (aN ((sm0 FD KN).2.2)))), (ad 27, .inl (k 0, 257, .inl (aN PA))), (ad 28, .inl (k 0, 257, .inl (aM NP)))] H locs := hW
        have lr : ∀ (fu : Nat) (t0 : Nat) (z : SM) (H : Heap) (locs : List Loc) (ls : Array Slot), (t0 ≤ 257) → (257 < t0 + fu) → (so (fun q a => mstep MN LT FI FL sl q a) (257 - t0) t0 z = (n9, F9, K9)) → (SI z) →  KW D k A s [(md, .inr (8, [.int (nI 0), .int (nI tp), .ref (ad 2), .int (nM pl), .ref (ad 4), .ref (ad 5), .ref (ad 6), .ref (ad 7), .ref (ad 8), .ref (ad 9), .int (nI si), .ref (ad 11), .int (nI at1), .int (nM wr), .int (nI dp), .int (nI pa), .ref (ad 16), .ref (ad 17), .ref (ad 18), .int (nI le), .ref (ad 20), .ref (ad 21), .ref (ad 22), .ref (ad 23), .ref (ad 24), .ref (ad 25), .ref (ad 26), .ref (ad 27), .ref (ad 28), .ref (ad 29), .ref (ad 30)])), (ad 4, .inl (k 0, 4, .inl (aN MN))), (ad 5, .inl (k 0, 32, .inl (aN LT))), (ad 6, .inl (k 0, 4, .inl (aN FI))), (ad 8, .inl (k 0, 32, .inl (aN FL))), (ad 7, .inl (k 0, 4, .inl (aN LA))), (ad 9, .inl (k 2, 4, .inl (aN EM))), (ad 22, .inl (k 0, 66049, .inl (aN z.2.1))), (ad 25, .inl (k 2, 66049, .inl (aN z.2.2))), (ad 27, .inl (k 0, 257, .inl (aN PA))), (ad 28, .inl (k 0, 257, .inl (aM NP)))] H locs → lv_has ls 6 [(3, .int (nI t0)), (2, .int (nI z.1)), (1, .int (nI sl)), (0, .ref md)] → W p l e ({ frames := 2, cells := 0, slots := 0, locals := 56 } : Room) s m [.ref md, .int (nI sl)].toArray below meth c H locs 0 0 Q (F0 m 57 ls []) := by
          intro fu
          induction fu with
          | zero => intro t0 z H locs ls lr1 lr2 hz hI hW hl; exfalso; omega
          | succ fu ih =>
            intro t0 z H locs ls lr1 lr2 hz hI hW hl
            obtain ⟨n, F1, K1⟩ := z
            obtain ⟨⟨s1, s2⟩, s3, s4, s5⟩ := id hI
            replace hW : KW D k A s [(md, .inr (8, [.int (nI 0), .int (nI tp), .ref (ad 2), .int (nM pl), .ref (ad 4), .ref (ad 5), .ref (ad 6), .ref (ad 7), .ref (ad 8), .ref (ad 9), .int (nI si), .ref (ad 11), .int (nI at1), .int (nM wr), .int (nI dp), .int (nI pa), .ref (ad 16), .ref (ad 17), .ref (ad 18), .int (nI le), .ref (ad 20), .ref (ad 21), .ref (ad 22), .ref (ad 23), .ref (ad 24), .ref (ad 25), .ref (ad 26), .ref (ad 27), .ref (ad 28), .ref (ad 29), .ref (ad 30)])), (ad 4, .inl (k 0, 4, .inl (aN MN))), (ad 5, .inl (k 0, 32, .inl (aN LT))), (ad 6, .inl (k 0, 4, .inl (aN FI))), (ad 8, .inl (k 0, 32, .inl (aN FL))), (ad 7, .inl (k 0, 4, .inl (aN LA))), (ad 9, .inl (k 2, 4, .inl (aN EM))), (ad 22, .inl (k 0, 66049, .inl (aN F1))), (ad 25, .inl (k 2, 66049, .inl (aN K1))), (ad 27, .inl (k 0, 257, .inl (aN PA))), (ad 28, .inl (k 0, 257, .inl (aM NP)))] H locs := hW
            refine lv_iload_n hX.1 hX.2.1 d_Md_states_57 rfl (lv_at hl 0 rfl) ?_
            refine lv_iload_n hX.1 hX.2.1 d_Md_states_58 rfl (lv_at hl 1 rfl) ?_
            refine kge hX (tgt := 130) (by omega) (by omega) d_Md_states_59 (by decide) (fun h2 => ?_) (fun h2 => ?_)
            · have hz2 : (n, F1, K1) = (n9, F9, K9) := by rcases (show 257 - t0 = 0 ∨ 257 - t0 = (257 - t0 - 1) + 1 by omega) with q8 | q8; (rw [q8, so] at hz; exact hz); (rw [q8, so, if_neg (by show ¬ t0 < n; omega)] at hz; exact hz)
              obtain ⟨rfl, rfl, rfl⟩ : n = n9 ∧ F1 = F9 ∧ K1 = K9 := by cases hz2; exact ⟨rfl, rfl, rfl⟩
              refine lv_iconst (v := nI 0) hX.1 hX.2.1 d_Md_states_130 (by decide) ?_
              refine lv_istore_n (lv' := [(3, .int (nI 0)), (2, .int (nI n)), (1, .int (nI sl)), (0, .ref md)]) hX.1 hX.2.1 d_Md_states_131 rfl hl (by decide) rfl (fun ls hl => ?_)
              exact k132 H locs ls hW (lv_sub hl [0, 1, 2, 3] rfl)
            · have ih0 := ih
              rw [show 257 - t0 = (257 - (t0 + 1)) + 1 by omega, so, if_pos (by show t0 < n; exact h2)] at hz
              have f1 := (s3 t0 h2).1
              obtain ⟨qq, hqq⟩ : ∃ qq, si4 (((fun q a => mstep MN LT FI FL sl q a)) (F1 t0)) (n, F1, K1) 4 = qq := ⟨_, rfl⟩
              replace hz : so (fun q a => mstep MN LT FI FL sl q a) (257 - (t0 + 1)) (t0 + 1) qq = (n9, F9, K9) := by rw [← hqq]; exact hz
              refine lv_iconst (v := nI 0) hX.1 hX.2.1 d_Md_states_62 (by decide) ?_
              refine lv_istore (lv' := [(4, .int (nI 0)), (3, .int (nI t0)), (2, .int (nI n)), (1, .int (nI sl)), (0, .ref md)]) hX.1 hX.2.1 d_Md_states_63 hl (by decide) rfl (fun ls hl => ?_)
              have hW : KW D k A s [(md, .inr (8, [.int (nI 0), .int (nI tp), .ref (ad 2), .int (nM pl), .ref (ad 4), .ref (ad 5), .ref (ad 6), .ref (ad 7), .ref (ad 8), .ref (ad 9), .int (nI si), .ref (ad 11), .int (nI at1), .int (nM wr), .int (nI dp), .int (nI pa), .ref (ad 16), .ref (ad 17), .ref (ad 18), .int (nI le), .ref (ad 20), .ref (ad 21), .ref (ad 22), .ref (ad 23), .ref (ad 24), .ref (ad 25), .ref (ad 26), .ref (ad 27), .ref (ad 28), .ref (ad 29), .ref (ad 30)])), (ad 4, .inl (k 0, 4, .inl (aN MN))), (ad 5, .inl (k 0, 32, .inl (aN LT))), (ad 6, .inl (k 0, 4, .inl (aN FI))), (ad 8, .inl (k 0, 32, .inl (aN FL))), (ad 7, .inl (k 0, 4, .inl (aN LA))), (ad 9, .inl (k 2, 4, .inl (aN EM))), (ad 22, .inl (k 0, 66049, .inl (aN ((si4 (((fun q a => mstep MN LT FI FL sl q a)) (F1 t0)) (n, F1, K1) 0).2.1)))), (ad 25, .inl (k 2, 66049, .inl (aN ((si4 (((fun q a => mstep MN LT FI FL sl q a)) (F1 t0)) (n, F1, K1) 0).2.2)))), (ad 27, .inl (k 0, 257, .inl (aN PA))), (ad 28, .inl (k 0, 257, .inl (aM NP)))] H locs := hW
              have lt : ∀ (fu : Nat) (a : Nat) (H : Heap) (locs : List Loc) (ls : Array Slot), (a ≤ 4) → (4 < a + fu) →  KW D k A s [(md, .inr (8, [.int (nI 0), .int (nI tp), .ref (ad 2), .int (nM pl), .ref (ad 4), .ref (ad 5), .ref (ad 6), .ref (ad 7), .ref (ad 8), .ref (ad 9), .int (nI si), .ref (ad 11), .int (nI at1), .int (nM wr), .int (nI dp), .int (nI pa), .ref (ad 16), .ref (ad 17), .ref (ad 18), .int (nI le), .ref (ad 20), .ref (ad 21), .ref (ad 22), .ref (ad 23), .ref (ad 24), .ref (ad 25), .ref (ad 26), .ref (ad 27), .ref (ad 28), .ref (ad 29), .ref (ad 30)])), (ad 4, .inl (k 0, 4, .inl (aN MN))), (ad 5, .inl (k 0, 32, .inl (aN LT))), (ad 6, .inl (k 0, 4, .inl (aN FI))), (ad 8, .inl (k 0, 32, .inl (aN FL))), (ad 7, .inl (k 0, 4, .inl (aN LA))), (ad 9, .inl (k 2, 4, .inl (aN EM))), (ad 22, .inl (k 0, 66049, .inl (aN ((si4 (((fun q a => mstep MN LT FI FL sl q a)) (F1 t0)) (n, F1, K1) a).2.1)))), (ad 25, .inl (k 2, 66049, .inl (aN ((si4 (((fun q a => mstep MN LT FI FL sl q a)) (F1 t0)) (n, F1, K1) a).2.2)))), (ad 27, .inl (k 0, 257, .inl (aN PA))), (ad 28, .inl (k 0, 257, .inl (aM NP)))] H locs → lv_has ls 6 [(4, .int (nI a)), (3, .int (nI t0)), (2, .int (nI ((si4 (((fun q a => mstep MN LT FI FL sl q a)) (F1 t0)) (n, F1, K1) a).1))), (1, .int (nI sl)), (0, .ref md)] → W p l e ({ frames := 2, cells := 0, slots := 0, locals := 56 } : Room) s m [.ref md, .int (nI sl)].toArray below meth c H locs 0 0 Q (F0 m 65 ls []) := by
                intro fu
                induction fu with
                | zero => intro a H locs ls lt1 lt2 hW hl; exfalso; omega
                | succ fu ih =>
                  intro a H locs ls lt1 lt2 hW hl
                  have hIa := si4_ok (sa := ((fun q a => mstep MN LT FI FL sl q a)) (F1 t0)) (fun a => Nat.lt_trans (mstep_lt hmn) (by decide)) hI a
                  have hFt : (si4 (((fun q a => mstep MN LT FI FL sl q a)) (F1 t0)) (n, F1, K1) a).2.1 t0 = F1 t0 := si4_at (sa := ((fun q a => mstep MN LT FI FL sl q a)) (F1 t0)) h2 a
                  refine lv_iload hX.1 hX.2.1 d_Md_states_65 (lv_at hl 0 rfl) ?_
                  refine lv_iconst (v := nI 4) hX.1 hX.2.1 d_Md_states_67 (by decide) ?_
                  refine kge hX (tgt := 124) (by omega) (by decide) d_Md_states_68 (by decide) (fun h3 => ?_) (fun h3 => ?_)
                  · have e1 : a = 4 := by omega
                    subst e1
                    rw [hqq] at hW hl hIa
                    refine lv_iinc (v := nI (t0 + 1)) (lv' := [(3, .int (nI (t0 + 1))), (4, .int (nI 4)), (2, .int (nI qq.1)), (1, .int (nI sl)), (0, .ref md)]) hX.1 hX.2.1 d_Md_states_124 hl (k := 1) rfl (kn_inc _) (by decide) rfl (fun ls hl => ?_)
                    refine lv_goto (tgt := 57) hX.1 hX.2.1 d_Md_states_127 (by decide) ?_
                    exact ih0 (t0 + 1) qq H locs ls (by omega) (by omega) hz hIa.1 hW (lv_sub hl [0, 2, 3, 4] rfl)
                  · have hnx : si4 (((fun q a => mstep MN LT FI FL sl q a)) (F1 t0)) (n, F1, K1) (a + 1) = sg (mstep MN LT FI FL sl (F1 t0) a) (si4 (((fun q a => mstep MN LT FI FL sl q a)) (F1 t0)) (n, F1, K1) a) := rfl
                    obtain ⟨qa, hqa⟩ : ∃ qa, si4 (((fun q a => mstep MN LT FI FL sl q a)) (F1 t0)) (n, F1, K1) a = qa := ⟨_, rfl⟩
                    rw [hqa] at hW hl hIa hFt hnx
                    obtain ⟨n2, F2, K2⟩ := qa
                    obtain ⟨⟨⟨u1, u2⟩, u3, u4, u5⟩, u6⟩ := id hIa
                    replace u6 : n ≤ n2 := u6
                    replace hFt : F2 t0 = F1 t0 := hFt
                    replace hW : KW D k A s [(md, .inr (8, [.int (nI 0), .int (nI tp), .ref (ad 2), .int (nM pl), .ref (ad 4), .ref (ad 5), .ref (ad 6), .ref (ad 7), .ref (ad 8), .ref (ad 9), .int (nI si), .ref (ad 11), .int (nI at1), .int (nM wr), .int (nI dp), .int (nI pa), .ref (ad 16), .ref (ad 17), .ref (ad 18), .int (nI le), .ref (ad 20), .ref (ad 21), .ref (ad 22), .ref (ad 23), .ref (ad 24), .ref (ad 25), .ref (ad 26), .ref (ad 27), .ref (ad 28), .ref (ad 29), .ref (ad 30)])), (ad 4, .inl (k 0, 4, .inl (aN MN))), (ad 5, .inl (k 0, 32, .inl (aN LT))), (ad 6, .inl (k 0, 4, .inl (aN FI))), (ad 8, .inl (k 0, 32, .inl (aN FL))), (ad 7, .inl (k 0, 4, .inl (aN LA))), (ad 9, .inl (k 2, 4, .inl (aN EM))), (ad 22, .inl (k 0, 66049, .inl (aN F2))), (ad 25, .inl (k 2, 66049, .inl (aN K2))), (ad 27, .inl (k 0, 257, .inl (aN PA))), (ad 28, .inl (k 0, 257, .inl (aM NP)))] H locs := hW
                    have hms := mstep_lt (MN := MN) (LT := LT) (FI := FI) (FL := FL) (sl := sl) (S := F1 t0) (ch := a) hmn
                    have hk1 := u5 (mstep MN LT FI FL sl (F1 t0) a) (by omega)
                    refine lv_aload_n hX.1 hX.2.1 d_Md_states_71 rfl (lv_at hl 4 rfl) ?_
                    refine lv_iload_n hX.1 hX.2.1 d_Md_states_72 rfl (lv_at hl 3 rfl) ?_
                    refine lv_aload_n hX.1 hX.2.1 d_Md_states_73 rfl (lv_at hl 4 rfl) ?_
                    refine kget hX hW i_Md 0 rfl rfl 22 (by decide) f_Md_55 rfl rfl d_Md_states_74 ?_
                    refine lv_iload_n hX.1 hX.2.1 d_Md_states_77 rfl (lv_at hl 1 rfl) ?_
                    refine kiald hX hW 7 rfl (by omega) (by first | decide | omega) d_Md_states_78 ?_
                    rw [hFt]
                    refine lv_iload hX.1 hX.2.1 d_Md_states_79 (lv_at hl 0 rfl) ?_
                    refine kCi (wc := [(md, .inr (8, [.int (nI 0), .int (nI tp), .ref (ad 2), .int (nM pl), .ref (ad 4), .ref (ad 5), .ref (ad 6), .ref (ad 7), .ref (ad 8), .ref (ad 9), .int (nI si), .ref (ad 11), .int (nI at1), .int (nM wr), .int (nI dp), .int (nI pa), .ref (ad 16), .ref (ad 17), .ref (ad 18), .int (nI le), .ref (ad 20), .ref (ad 21), .ref (ad 22), .ref (ad 23), .ref (ad 24), .ref (ad 25), .ref (ad 26), .ref (ad 27), .ref (ad 28), .ref (ad 29), .ref (ad 30)])), (ad 4, .inl (k 0, 4, .inl (aN MN))), (ad 5, .inl (k 0, 32, .inl (aN LT))), (ad 6, .inl (k 0, 4, .inl (aN FI))), (ad 8, .inl (k 0, 32, .inl (aN FL)))]) hW [0, 1, 2, 3, 4] (by rfl) (by intro _; rfl) (kRunV (n := 3) (As := [.int (nI sl), .int (nI (F1 t0)), .int (nI a)]) (rest := []) hX hml hW (ok_Md_step l D k H.size md ad 0 tp pl si at1 wr dp pa le MN LT FI FL sl (F1 t0) a hsl (by omega) h3 hmn hfi hfl hlt) m_Md_146 im_Md_step se_Md_step in_Md cd_Md_step [0, 1, 2, 3, 4] rfl rfl rfl rfl (by decide +kernel) ⟨rfl, rfl, Nat.le_of_ble_eq_true rfl, Nat.le_of_ble_eq_true rfl⟩ rfl hl.1 rfl (Nat.le_of_ble_eq_true rfl) d_Md_states_81 ⟨by first | exact Nat.zero_le _ | decide | omega | (dsimp only; omega), by first | exact Nat.zero_le _ | decide | omega | (dsimp only; omega)⟩) (fun r u H locs hr9 hW => ?_)
                    have hW : KW D k A s [(md, .inr (8, [.int (nI 0), .int (nI tp), .ref (ad 2), .int (nM pl), .ref (ad 4), .ref (ad 5), .ref (ad 6), .ref (ad 7), .ref (ad 8), .ref (ad 9), .int (nI si), .ref (ad 11), .int (nI at1), .int (nM wr), .int (nI dp), .int (nI pa), .ref (ad 16), .ref (ad 17), .ref (ad 18), .int (nI le), .ref (ad 20), .ref (ad 21), .ref (ad 22), .ref (ad 23), .ref (ad 24), .ref (ad 25), .ref (ad 26), .ref (ad 27), .ref (ad 28), .ref (ad 29), .ref (ad 30)])), (ad 4, .inl (k 0, 4, .inl (aN MN))), (ad 5, .inl (k 0, 32, .inl (aN LT))), (ad 6, .inl (k 0, 4, .inl (aN FI))), (ad 8, .inl (k 0, 32, .inl (aN FL))), (ad 7, .inl (k 0, 4, .inl (aN LA))), (ad 9, .inl (k 2, 4, .inl (aN EM))), (ad 22, .inl (k 0, 66049, .inl (aN F2))), (ad 25, .inl (k 2, 66049, .inl (aN K2))), (ad 27, .inl (k 0, 257, .inl (aN PA))), (ad 28, .inl (k 0, 257, .inl (aM NP)))] H locs := hW
                    subst hr9
                    refine lv_istore (lv' := [(5, .int (nI (mstep MN LT FI FL sl (F1 t0) a))), (4, .int (nI a)), (3, .int (nI t0)), (2, .int (nI n2)), (1, .int (nI sl)), (0, .ref md)]) hX.1 hX.2.1 d_Md_states_84 hl (by decide) rfl (fun ls hl => ?_)
                    refine lv_aload_n hX.1 hX.2.1 d_Md_states_86 rfl (lv_at hl 5 rfl) ?_
                    refine kget hX hW i_Md 0 rfl rfl 25 (by decide) f_Md_64 rfl rfl d_Md_states_87 ?_
                    refine lv_iload hX.1 hX.2.1 d_Md_states_90 (lv_at hl 0 rfl) ?_
                    refine kzald hX hW 8 rfl (by omega) (by first | decide | omega) d_Md_states_92 ?_
                    refine kz hX (tgt := 99) (by omega) d_Md_states_93 (by decide) (fun h4 => ?_) (fun h4 => ?_)
                    · have hn9 := SI_new hIa.1 (Nat.lt_trans hms (by decide)) h4
                      rw [sg, if_pos h4] at hnx
                      refine lv_aload_n hX.1 hX.2.1 d_Md_states_99 rfl (lv_at hl 5 rfl) ?_
                      refine kget hX hW i_Md 0 rfl rfl 25 (by decide) f_Md_64 rfl rfl d_Md_states_100 ?_
                      refine lv_iload hX.1 hX.2.1 d_Md_states_103 (lv_at hl 0 rfl) ?_
                      refine lv_iconst (v := nI 1) hX.1 hX.2.1 d_Md_states_105 (by decide) ?_
                      refine kzast hX hW 8 rfl (by omega) (by first | decide | omega) (by decide) d_Md_states_106 (fun H locs hW => ?_)
                      have hW : KW D k A s [(md, .inr (8, [.int (nI 0), .int (nI tp), .ref (ad 2), .int (nM pl), .ref (ad 4), .ref (ad 5), .ref (ad 6), .ref (ad 7), .ref (ad 8), .ref (ad 9), .int (nI si), .ref (ad 11), .int (nI at1), .int (nM wr), .int (nI dp), .int (nI pa), .ref (ad 16), .ref (ad 17), .ref (ad 18), .int (nI le), .ref (ad 20), .ref (ad 21), .ref (ad 22), .ref (ad 23), .ref (ad 24), .ref (ad 25), .ref (ad 26), .ref (ad 27), .ref (ad 28), .ref (ad 29), .ref (ad 30)])), (ad 4, .inl (k 0, 4, .inl (aN MN))), (ad 5, .inl (k 0, 32, .inl (aN LT))), (ad 6, .inl (k 0, 4, .inl (aN FI))), (ad 8, .inl (k 0, 32, .inl (aN FL))), (ad 7, .inl (k 0, 4, .inl (aN LA))), (ad 9, .inl (k 2, 4, .inl (aN EM))), (ad 22, .inl (k 0, 66049, .inl (aN F2))), (ad 25, .inl (k 2, 66049, .inl (aN (va_up K2 (mstep MN LT FI FL sl (F1 t0) a) 1)))), (ad 27, .inl (k 0, 257, .inl (aN PA))), (ad 28, .inl (k 0, 257, .inl (aM NP)))] H locs := hW
                      refine lv_aload_n hX.1 hX.2.1 d_Md_states_107 rfl (lv_at hl 5 rfl) ?_
                      refine kget hX hW i_Md 0 rfl rfl 22 (by decide) f_Md_55 rfl rfl d_Md_states_108 ?_
                      refine lv_iload_n hX.1 hX.2.1 d_Md_states_111 rfl (lv_at hl 3 rfl) ?_
                      refine lv_iload hX.1 hX.2.1 d_Md_states_112 (lv_at hl 0 rfl) ?_
                      refine kiast hX hW 7 rfl (by omega) (by first | decide | omega) d_Md_states_114 (fun H locs hW => ?_)
                      have hW : KW D k A s [(md, .inr (8, [.int (nI 0), .int (nI tp), .ref (ad 2), .int (nM pl), .ref (ad 4), .ref (ad 5), .ref (ad 6), .ref (ad 7), .ref (ad 8), .ref (ad 9), .int (nI si), .ref (ad 11), .int (nI at1), .int (nM wr), .int (nI dp), .int (nI pa), .ref (ad 16), .ref (ad 17), .ref (ad 18), .int (nI le), .ref (ad 20), .ref (ad 21), .ref (ad 22), .ref (ad 23), .ref (ad 24), .ref (ad 25), .ref (ad 26), .ref (ad 27), .ref (ad 28), .ref (ad 29), .ref (ad 30)])), (ad 4, .inl (k 0, 4, .inl (aN MN))), (ad 5, .inl (k 0, 32, .inl (aN LT))), (ad 6, .inl (k 0, 4, .inl (aN FI))), (ad 8, .inl (k 0, 32, .inl (aN FL))), (ad 7, .inl (k 0, 4, .inl (aN LA))), (ad 9, .inl (k 2, 4, .inl (aN EM))), (ad 22, .inl (k 0, 66049, .inl (aN (va_up F2 n2 (mstep MN LT FI FL sl (F1 t0) a))))), (ad 25, .inl (k 2, 66049, .inl (aN (va_up K2 (mstep MN LT FI FL sl (F1 t0) a) 1)))), (ad 27, .inl (k 0, 257, .inl (aN PA))), (ad 28, .inl (k 0, 257, .inl (aM NP)))] H locs := hW
                      refine lv_iinc (v := nI (n2 + 1)) (lv' := [(2, .int (nI (n2 + 1))), (5, .int (nI (mstep MN LT FI FL sl (F1 t0) a))), (4, .int (nI a)), (3, .int (nI t0)), (1, .int (nI sl)), (0, .ref md)]) hX.1 hX.2.1 d_Md_states_115 hl (k := 3) rfl (kn_inc _) (by decide) rfl (fun ls hl => ?_)
                      refine lv_iinc (v := nI (a + 1)) (lv' := [(4, .int (nI (a + 1))), (2, .int (nI (n2 + 1))), (5, .int (nI (mstep MN LT FI FL sl (F1 t0) a))), (3, .int (nI t0)), (1, .int (nI sl)), (0, .ref md)]) hX.1 hX.2.1 d_Md_states_118 hl (k := 2) rfl (kn_inc _) (by decide) rfl (fun ls hl => ?_)
                      refine lv_goto (tgt := 65) hX.1 hX.2.1 d_Md_states_121 (by decide) ?_
                      exact ih (a + 1) H locs ls (by omega) (by omega) (by rw [hnx]; exact hW) (by rw [hnx]; exact lv_sub hl [0, 3, 1, 4, 5] rfl)
                    · rw [sg, if_neg h4] at hnx
                      refine lv_goto (tgt := 118) hX.1 hX.2.1 d_Md_states_96 (by decide) ?_
                      refine lv_iinc (v := nI (a + 1)) (lv' := [(4, .int (nI (a + 1))), (5, .int (nI (mstep MN LT FI FL sl (F1 t0) a))), (3, .int (nI t0)), (2, .int (nI n2)), (1, .int (nI sl)), (0, .ref md)]) hX.1 hX.2.1 d_Md_states_118 hl (k := 1) rfl (kn_inc _) (by decide) rfl (fun ls hl => ?_)
                      refine lv_goto (tgt := 65) hX.1 hX.2.1 d_Md_states_121 (by decide) ?_
                      exact ih (a + 1) H locs ls (by omega) (by omega) (by rw [hnx]; exact hW) (by rw [hnx]; exact lv_sub hl [0, 2, 3, 4, 5] rfl)
              exact lt 5 0 H locs ls (by omega) (by omega) hW (lv_sub hl [0, 1, 2, 3, 4] rfl)
        exact lr 258 0 (sm0 FD KN) H locs ls (by omega) (by omega) hq0 SI_0 hW (lv_sub hl [0, 1, 2, 3] rfl)
      · refine lv_aload_n hX.1 hX.2.1 d_Md_states_22 rfl (lv_at hl 2 rfl) ?_
        refine kget hX hW i_Md 0 rfl rfl 25 (by decide) f_Md_64 rfl rfl d_Md_states_23 ?_
        refine lv_iload_n hX.1 hX.2.1 d_Md_states_26 rfl (lv_at hl 0 rfl) ?_
        refine lv_iconst (v := nI 0) hX.1 hX.2.1 d_Md_states_27 (by decide) ?_
        refine kzast hX hW 8 rfl (by omega) (by first | decide | omega) (by decide) d_Md_states_28 (fun H locs hW => ?_)
        have hW : KW D k A s [(md, .inr (8, [.int (nI 0), .int (nI tp), .ref (ad 2), .int (nM pl), .ref (ad 4), .ref (ad 5), .ref (ad 6), .ref (ad 7), .ref (ad 8), .ref (ad 9), .int (nI si), .ref (ad 11), .int (nI at1), .int (nM wr), .int (nI dp), .int (nI pa), .ref (ad 16), .ref (ad 17), .ref (ad 18), .int (nI le), .ref (ad 20), .ref (ad 21), .ref (ad 22), .ref (ad 23), .ref (ad 24), .ref (ad 25), .ref (ad 26), .ref (ad 27), .ref (ad 28), .ref (ad 29), .ref (ad 30)])), (ad 4, .inl (k 0, 4, .inl (aN MN))), (ad 5, .inl (k 0, 32, .inl (aN LT))), (ad 6, .inl (k 0, 4, .inl (aN FI))), (ad 8, .inl (k 0, 32, .inl (aN FL))), (ad 7, .inl (k 0, 4, .inl (aN LA))), (ad 9, .inl (k 2, 4, .inl (aN EM))), (ad 22, .inl (k 0, 66049, .inl (aN FD))), (ad 25, .inl (k 2, 66049, .inl (aN (va_up (fil KN 0 j) j 0)))), (ad 27, .inl (k 0, 257, .inl (aN PA))), (ad 28, .inl (k 0, 257, .inl (aM NP)))] H locs := hW
        refine lv_iinc (v := nI (j + 1)) (lv' := [(2, .int (nI (j + 1))), (1, .int (nI sl)), (0, .ref md)]) hX.1 hX.2.1 d_Md_states_29 hl (k := 0) rfl (kn_inc _) (by decide) rfl (fun ls hl => ?_)
        refine lv_goto (tgt := 15) hX.1 hX.2.1 d_Md_states_32 (by decide) ?_
        rw [fil_n] at hW
        exact ih (j + 1) H locs ls (by omega) (by omega) hW (lv_sub hl [0, 1, 2] rfl)
  exact lp 258 0 H locs ls (by omega) (by omega) hW (lv_sub hl [0, 2, 1] rfl)
