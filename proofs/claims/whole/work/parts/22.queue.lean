/-! THE SEARCH: the queue of pairs, as numbers -/
theorem setAll_id : ∀ (is : List Nat) (ws xs : va_W), is.map (fun i => ws[i]?) = xs.map some → setAll ws is xs = ws := by
  intro is
  induction is with
  | nil => intro ws xs _; cases xs <;> rfl
  | cons i is ih =>
    intro ws xs h
    cases xs with
    | nil => rfl
    | cons x xs =>
      simp only [List.map_cons, List.cons.injEq] at h
      have e : ws.set i x = ws := by
        apply List.ext_getElem?
        intro j
        by_cases hj : i = j
        · subst hj
          have hl : i < ws.length := (List.getElem?_eq_some_iff.mp h.1).1
          rw [List.getElem?_set_self hl, h.1]
        · rw [List.getElem?_set_ne hj]
      rw [setAll, e]
      exact ih ws xs h.2
/-- a call that changes nothing -/
theorem kCiR {p : Program} {l : Launch} {e : Env} {R : Room} {s : State} {m : MethodId} {args : Array Value} {below : List Frame} {meth : Method} {c : Code} {H : Heap} {locs : List Loc} {cells slots : Nat} {Q : State → Prop} {pc : Nat} {ls : Array Slot} {rest st0 : List Value} {D : va_G} {k : Nat → ClassId} {A : Nat → Prop} {ws wc : va_W} {S : Type} {mc ms : Nat} {post : Int32 → S → Prop} {a : Array Value} (hW : KW D k A s ws H locs) (isC : List Nat) (hC : isC.map (fun i => ws[i]?) = wc.map some)
    (hr : va_Run p l e R s m args below meth c H locs cells slots mc ms (F0 m pc ls st0) rest (va_Qi post (kB D k (fun _ : S => wc) (va_A wc H.size)) (va_A wc H.size) a) (va_A wc H.size))
    (kk : ∀ (r : Int32) (u : S) (H1 : Heap) (locs1 : List Loc), post r u → KW D k A s ws H1 locs1 → W p l e R s m args below meth c H1 locs1 (cells + mc) (slots + ms) Q (F0 m (pc + 3) ls (.int r :: rest))) : W p l e R s m args below meth c H locs cells slots Q (F0 m pc ls st0) :=
  kCi (w1 := fun _ => wc) hW isC hC (fun _ => rfl) hr (fun r u H1 locs1 hp hW1 => kk r u H1 locs1 hp (by rw [setAll_id isC ws wc hC] at hW1; exact hW1))
theorem sb_sbs (SN : Nat → Nat) (p q : Nat) : sb (sbs SN p) q = (sb SN q || decide (q = p)) := by
  unfold sb sbs
  by_cases h : q / 64 = p / 64
  · rw [h, va_up_self, Nat.testBit_or]
    by_cases h2 : q % 64 = p % 64
    · have e : q = p := by omega
      subst e
      simp [Nat.testBit_two_pow_self]
    · rw [Nat.testBit_two_pow_of_ne (fun e => h2 e.symm)]
      have e : ¬ q = p := fun e => h2 (by rw [e])
      simp [e]
  · rw [va_up_ne _ _ h]
    have e : ¬ q = p := fun e => h (by rw [e])
    simp [e]
theorem sbs_lt {SN : Nat → Nat} (h : ∀ w, w < 1024 → SN w < 2 ^ 64) (p : Nat) (hp : p < 65536) : ∀ w, w < 1024 → sbs SN p w < 2 ^ 64 := by
  intro w hw
  unfold sbs
  by_cases e : w = p / 64
  · subst e
    rw [va_up_self]
    exact Nat.or_lt_two_pow (h _ hw) (Nat.pow_lt_pow_right (by decide) (by omega))
  · rw [va_up_ne _ _ e]; exact h w hw
/-- how many pairs, the rows' room, the pairs, their origins, the marks -/
abbrev QZ : Type := Nat × Nat × (Nat → Nat) × (Nat → Nat) × (Nat → Nat) × (Nat → Nat)
def ap (x y o : Nat) : QZ → QZ
  | (z, cp, FI, SC, OG, SN) => if z < cp then (z + 1, cp, va_up FI z x, va_up SC z y, va_up OG z o, SN) else (cp + 1, 2 * cp, va_up (cpz FI (fun _ => 0) cp) cp x, va_up (cpz SC (fun _ => 0) cp) cp y, va_up (cpz OG (fun _ => 0) cp) cp o, SN)
def gs (x y o : Nat) : QZ → QZ
  | (z, cp, FI, SC, OG, SN) => if sb SN (x * 256 + y) then (z, cp, FI, SC, OG, sbs SN (x * 256 + y)) else ap x y o (z, cp, FI, SC, OG, sbs SN (x * 256 + y))
/-- the first a letters of the pair at t, whose onward sets are o1, o2 -/
def gi (SP1 SP2 : Nat → Nat) (o1 o2 t : Nat) (q : QZ) : Nat → QZ
  | 0 => q
  | a + 1 => gs (o1 &&& SP1 a) (o2 &&& SP2 a) (t * 4 + a) (gi SP1 SP2 o1 o2 t q a)
def QI : QZ → Prop
  | (z, cp, FI, SC, OG, SN) => (0 < z ∧ z ≤ cp ∧ 64 ≤ cp ∧ cp ≤ 131072) ∧ (∀ w, w < 1024 → SN w < 2 ^ 64) ∧ (FI 0 = 256 ∧ SC 0 = 256 ∧ OG 0 = 0) ∧ (∀ j, 0 < j → j < z → FI j < 256 ∧ SC j < 256 ∧ sb SN (FI j * 256 + SC j) = true ∧ OG j / 4 < j ∧ OG j < 2 ^ 20) ∧ (∀ i j, 0 < i → i < z → 0 < j → j < z → FI i * 256 + SC i = FI j * 256 + SC j → i = j)
theorem QI_size {q : QZ} (h : QI q) : q.1 ≤ 65537 := by
  obtain ⟨z, cp, FI, SC, OG, SN⟩ := q
  obtain ⟨⟨h1, -⟩, -, -, h4, h5⟩ := h
  have := pigeon 65536 (z - 1) (fun j => FI (j + 1) * 256 + SC (j + 1)) (fun i hi => by
    have := h4 (i + 1) (by omega) (by omega)
    show FI (i + 1) * 256 + SC (i + 1) < 65536
    omega) (fun i j hi hj e => by
    have := h5 (i + 1) (j + 1) (by omega) (by omega) (by omega) (by omega) e
    omega)
  show z ≤ 65537
  omega
theorem QI_push {z cp cp2 : Nat} {FI SC OG SN F2 S2 O2 : Nat → Nat} {x y o : Nat} (h : QI (z, cp, FI, SC, OG, SN)) (hx : x < 256) (hy : y < 256) (ho : o / 4 < z) (ho2 : o < 2 ^ 20) (hn : sb SN (x * 256 + y) = false) (hF : ∀ j, j < z → F2 j = FI j) (hS : ∀ j, j < z → S2 j = SC j) (hO : ∀ j, j < z → O2 j = OG j) (hFz : F2 z = x) (hSz : S2 z = y) (hOz : O2 z = o) (hc : z + 1 ≤ cp2 ∧ 64 ≤ cp2 ∧ cp2 ≤ 131072) : QI (z + 1, cp2, F2, S2, O2, sbs SN (x * 256 + y)) := by
  obtain ⟨⟨h1, h1b, h1c, h1d⟩, h2, ⟨h3, h3b, h3c⟩, h4, h5⟩ := h
  refine ⟨⟨by omega, hc.1, hc.2.1, hc.2.2⟩, sbs_lt h2 _ (by omega), ⟨by rw [hF 0 h1]; exact h3, by rw [hS 0 h1]; exact h3b, by rw [hO 0 h1]; exact h3c⟩, fun j hj hjz => ?_, fun i j hi hiz hj hjz e => ?_⟩
  · by_cases e : j = z
    · subst e
      rw [hFz, hSz, hOz, sb_sbs]
      exact ⟨hx, hy, by simp, ho, ho2⟩
    · have hj2 : j < z := by omega
      rw [hF j hj2, hS j hj2, hO j hj2, sb_sbs]
      obtain ⟨a, b, c, d, f⟩ := h4 j hj hj2
      exact ⟨a, b, by rw [c]; rfl, d, f⟩
  · have key : ∀ i, 0 < i → i < z → ¬ FI i * 256 + SC i = x * 256 + y := fun i hi hiz q => by
      have := (h4 i hi hiz).2.2.1
      rw [q, hn] at this
      cases this
    by_cases ei : i = z <;> by_cases ej : j = z
    · omega
    · subst ei
      have hj2 : j < i := by omega
      rw [hFz, hSz, hF j hj2, hS j hj2] at e
      exact absurd e.symm (key j hj hj2)
    · subst ej
      have hi2 : i < j := by omega
      rw [hFz, hSz, hF i hi2, hS i hi2] at e
      exact absurd e (key i hi hi2)
    · have hi2 : i < z := by omega
      have hj2 : j < z := by omega
      rw [hF i hi2, hS i hi2, hF j hj2, hS j hj2] at e
      exact h5 i j hi hi2 hj hj2 e
theorem cpz_in {F G : Nat → Nat} {z j : Nat} (h : j < z) : cpz F G z j = F j := by simp [cpz, h]
theorem QI_gs {x y o : Nat} {q : QZ} (h : QI q) (hx : x < 256) (hy : y < 256) (ho : o / 4 < q.1) (ho2 : o < 2 ^ 20) : QI (gs x y o q) := by
  have hsz := QI_size h
  obtain ⟨z, cp, FI, SC, OG, SN⟩ := q
  have ho : o / 4 < z := ho
  have hsz : z ≤ 65537 := hsz
  have h0 := h
  obtain ⟨⟨h1, h1b, h1c, h1d⟩, h2, h3, h4, h5⟩ := h0
  rw [gs]
  by_cases hb : sb SN (x * 256 + y) = true
  · rw [if_pos hb]
    refine ⟨⟨h1, h1b, h1c, h1d⟩, sbs_lt h2 _ (by omega), h3, fun j hj hjz => ?_, h5⟩
    obtain ⟨a, b, c, d, f⟩ := h4 j hj hjz
    exact ⟨a, b, by rw [sb_sbs, c]; rfl, d, f⟩
  · have hb2 : sb SN (x * 256 + y) = false := by cases hq : sb SN (x * 256 + y) <;> simp_all
    rw [if_neg hb, ap]
    split
    · rename_i hz
      exact QI_push h hx hy ho ho2 hb2 (fun j hj => va_up_ne _ _ (by omega)) (fun j hj => va_up_ne _ _ (by omega)) (fun j hj => va_up_ne _ _ (by omega)) (va_up_self _ _ _) (va_up_self _ _ _) (va_up_self _ _ _) ⟨by omega, h1c, h1d⟩
    · rename_i hz
      have e : cp = z := by omega
      subst e
      have g1 : cp ≤ 65536 := by
        have hq := QI_push (cp2 := 131072) (F2 := va_up FI cp x) (S2 := va_up SC cp y) (O2 := va_up OG cp o) h hx hy ho ho2 hb2 (fun j hj => va_up_ne _ _ (by omega)) (fun j hj => va_up_ne _ _ (by omega)) (fun j hj => va_up_ne _ _ (by omega)) (va_up_self _ _ _) (va_up_self _ _ _) (va_up_self _ _ _) ⟨by omega, by omega, by omega⟩
        have := QI_size hq
        have : cp + 1 ≤ 65537 := this
        omega
      exact QI_push h hx hy ho ho2 hb2 (fun j hj => by rw [va_up_ne _ _ (by omega), cpz_in hj]) (fun j hj => by rw [va_up_ne _ _ (by omega), cpz_in hj]) (fun j hj => by rw [va_up_ne _ _ (by omega), cpz_in hj]) (va_up_self _ _ _) (va_up_self _ _ _) (va_up_self _ _ _) ⟨by omega, by omega, by omega⟩
theorem gs_mono {x y o : Nat} {q : QZ} (h : q.1 ≤ q.2.1) : q.1 ≤ (gs x y o q).1 ∧ q.2.1 ≤ (gs x y o q).2.1 := by
  obtain ⟨z, cp, FI, SC, OG, SN⟩ := q
  have h : z ≤ cp := h
  rw [gs]
  split
  · exact ⟨Nat.le_refl _, Nat.le_refl _⟩
  · rw [ap]
    split
    · exact ⟨by show z ≤ z + 1; omega, Nat.le_refl _⟩
    · exact ⟨by show z ≤ cp + 1; omega, by show cp ≤ 2 * cp; omega⟩
theorem gi_ok {SP1 SP2 : Nat → Nat} {o1 o2 t : Nat} {q : QZ} (h1 : o1 < 256) (h2 : o2 < 256) (ht : t < q.1) (hq : QI q) : ∀ a, a ≤ 4 → QI (gi SP1 SP2 o1 o2 t q a) ∧ q.1 ≤ (gi SP1 SP2 o1 o2 t q a).1 ∧ q.2.1 ≤ (gi SP1 SP2 o1 o2 t q a).2.1 := by
  intro a
  induction a with
  | zero => intro _; exact ⟨hq, Nat.le_refl _, Nat.le_refl _⟩
  | succ a ih =>
    intro ha
    obtain ⟨i1, i2, i3⟩ := ih (by omega)
    have hs := QI_size hq
    have k1 : o1 &&& SP1 a < 256 := Nat.lt_of_le_of_lt Nat.and_le_left h1
    have k2 : o2 &&& SP2 a < 256 := Nat.lt_of_le_of_lt Nat.and_le_left h2
    rw [gi]
    have hm : (gi SP1 SP2 o1 o2 t q a).1 ≤ (gi SP1 SP2 o1 o2 t q a).2.1 := i1.1.2.1
    have hm2 := gs_mono (x := o1 &&& SP1 a) (y := o2 &&& SP2 a) (o := t * 4 + a) hm
    exact ⟨QI_gs i1 k1 k2 (by omega) (by omega), by omega, by omega⟩
/-- an expression's cells at the places x, x + 1, x + 2 of a world -/
def exAt (k : Nat → ClassId) (X : va_W) (x h f g : Nat) (FO SP : Nat → Nat) (en n : Nat) : Prop := X[x]? = some (h, .inr (0, [.ref f, .ref g, .int (nI en), .int (nI n)])) ∧ X[x + 1]? = some (f, .inl (k 0, 9, .inl (aN FO))) ∧ X[x + 2]? = some (g, .inl (k 0, 4, .inl (aN SP)))
