/-! THE SEARCH: the class's queue and the reference's -/
def r2 (lf : Bool) (x y : Nat) : Nat := if lf then x else y
theorem r2_inj {lf : Bool} {x y x2 y2 : Nat} (hx : x < 256) (hy : y < 256) (hl : lf = true → y = 0) (hx2 : x2 < 256) (hy2 : y2 < 256) (hl2 : lf = true → y2 = 0) (e : x * 257 + r2 lf x y = x2 * 257 + r2 lf x2 y2) : x = x2 ∧ y = y2 := by
  cases lf with
  | true => unfold r2 at e; simp only [if_true] at e; have := hl rfl; have := hl2 rfl; omega
  | false => unfold r2 at e; simp only [Bool.false_eq_true, if_false] at e; omega
theorem sb_sbq (SN : Nat → Nat) (p q : Nat) : sb (sbs SN p) q = (sb SN q || decide (q = p)) := by
  unfold sb sbs
  by_cases e : q / 64 = p / 64
  · rw [e, va_up_self, Nat.testBit_or, Nat.testBit_two_pow]
    congr 1
    refine decide_eq_decide.mpr ⟨fun h => by omega, fun h => by rw [h]⟩
  · rw [va_up_ne _ _ e, decide_eq_false (fun h => e (by rw [h])), Bool.or_false]
def QR (lf : Bool) (P : Nat → Nat → Prop) : QZ → QM → Prop
  | (z, _, FI, SC, OG, SN), (n, FD, FR, BY, KN) => n = z ∧ (∀ j, j < z → P (FI j) (SC j) ∧ FD j = FI j * 257 + r2 lf (FI j) (SC j)) ∧ FR 0 = 0 ∧ (∀ j, 0 < j → j < z → FR j = OG j / 4 + 1 ∧ BY j = OG j % 4) ∧ ∀ x y, x < 256 → y < 256 → (lf = true → y = 0) → (KN (x * 257 + r2 lf x y) = 0 ↔ sb SN (x * 256 + y) = false)
section SRC
variable {lf : Bool} {P : Nat → Nat → Prop}
theorem QR_push {z cp cp2 : Nat} {FI SC OG SN F2 S2 O2 : Nat → Nat} {m : QM} {x y t a : Nat} (h : QR lf P (z, cp, FI, SC, OG, SN) m) (hz : 0 < z) (hx : x < 256) (hy : y < 256) (hl : lf = true → y = 0) (hP : P x y) (ha : a < 4) (hn : sb SN (x * 256 + y) = false) (hF : ∀ j, j < z → F2 j = FI j) (hS : ∀ j, j < z → S2 j = SC j) (hO : ∀ j, j < z → O2 j = OG j) (hFz : F2 z = x) (hSz : S2 z = y) (hOz : O2 z = t * 4 + a) : QR lf P (z + 1, cp2, F2, S2, O2, sbs SN (x * 256 + y)) (mg (x * 257 + r2 lf x y) t a m) := by
  obtain ⟨n, FD, FR, BY, KN⟩ := m
  obtain ⟨h1, h2, h3, h4, h5⟩ := h
  subst h1
  have hk : KN (x * 257 + r2 lf x y) = 0 := (h5 x y hx hy hl).mpr hn
  rw [mg, if_pos hk]
  refine ⟨rfl, fun j hj => ?_, ?_, fun j hj0 hj => ?_, fun x2 y2 hx2 hy2 hl2 => ?_⟩
  · by_cases e : j = n
    · subst e; rw [hFz, hSz, va_up_self]; exact ⟨hP, rfl⟩
    · rw [hF j (by omega), hS j (by omega), va_up_ne _ _ e]; exact h2 j (by omega)
  · rw [va_up_ne _ _ (by omega)]; exact h3
  · by_cases e : j = n
    · subst e; rw [hOz, va_up_self, va_up_self]; exact ⟨by omega, by omega⟩
    · rw [hO j (by omega), va_up_ne _ _ e, va_up_ne _ _ e]; exact h4 j hj0 (by omega)
  · rw [sb_sbq]
    by_cases e : x2 * 257 + r2 lf x2 y2 = x * 257 + r2 lf x y
    · obtain ⟨e1, e2⟩ := r2_inj hx2 hy2 hl2 hx hy hl e
      subst e1 e2
      rw [va_up_self, decide_eq_true rfl, Bool.or_true]
      exact ⟨fun q => by omega, fun q => by cases q⟩
    · rw [va_up_ne _ _ e]
      have e3 : ¬ x2 * 256 + y2 = x * 256 + y := fun q => e (by rw [show x2 = x by omega, show y2 = y by omega])
      rw [decide_eq_false e3, Bool.or_false]
      exact h5 x2 y2 hx2 hy2 hl2
theorem QR_gs {q : QZ} {m : QM} {x y t a : Nat} (h : QR lf P q m) (hq : QI q) (hx : x < 256) (hy : y < 256) (hl : lf = true → y = 0) (hP : P x y) (ha : a < 4) : QR lf P (gs x y (t * 4 + a) q) (mg (x * 257 + r2 lf x y) t a m) := by
  obtain ⟨z, cp, FI, SC, OG, SN⟩ := q
  obtain ⟨⟨z1, z2, -, -⟩, -⟩ := hq
  rw [gs]
  by_cases hs : sb SN (x * 256 + y) = true
  · rw [if_pos hs]
    obtain ⟨n, FD, FR, BY, KN⟩ := m
    obtain ⟨h1, h2, h3, h4, h5⟩ := h
    have hk : KN (x * 257 + r2 lf x y) ≠ 0 := fun q => by rw [(h5 x y hx hy hl).mp q] at hs; cases hs
    rw [mg, if_neg hk]
    refine ⟨h1, h2, h3, h4, fun x2 y2 hx2 hy2 hl2 => ?_⟩
    rw [h5 x2 y2 hx2 hy2 hl2, sb_sbq]
    by_cases e3 : x2 * 256 + y2 = x * 256 + y
    · rw [decide_eq_true e3, Bool.or_true, e3, hs]
    · rw [decide_eq_false e3, Bool.or_false]
  · rw [if_neg hs, ap]
    have hn : sb SN (x * 256 + y) = false := Bool.eq_false_iff.mpr hs
    by_cases hc : z < cp
    · rw [if_pos hc]
      exact QR_push h z1 hx hy hl hP ha hn (fun j hj => va_up_ne _ _ (by omega)) (fun j hj => va_up_ne _ _ (by omega)) (fun j hj => va_up_ne _ _ (by omega)) (va_up_self _ _ _) (va_up_self _ _ _) (va_up_self _ _ _)
    · rw [if_neg hc]
      have e : cp = z := by omega
      subst e
      have hcz : ∀ (F : Nat → Nat) (v : Nat) j, j < cp → va_up (cpz F (fun _ => 0) cp) cp v j = F j := fun F v j hj => by
        rw [va_up_ne _ _ (by omega)]; unfold cpz; rw [if_pos hj]
      exact QR_push h z1 hx hy hl hP ha hn (hcz FI x) (hcz SC y) (hcz OG _) (va_up_self _ _ _) (va_up_self _ _ _) (va_up_self _ _ _)
variable {FO1 SP1 FO2 SP2 : Nat → Nat} {en1 en2 wa wh : Nat} {sa sb2 : Nat → Nat → Nat} {ta tb : Nat → Nat}
/-- what is asked of both sides at a pair -/
def PS (lf : Bool) (P : Nat → Nat → Prop) (FO1 SP1 FO2 SP2 : Nat → Nat) (sa sb2 : Nat → Nat → Nat) : Prop := ∀ x y, P x y → ∀ a, a < 4 → (onw FO1 x 9 &&& SP1 a) < 256 ∧ (onw FO2 y 9 &&& SP2 a) < 256 ∧ P (onw FO1 x 9 &&& SP1 a) (onw FO2 y 9 &&& SP2 a) ∧ sa x a = (onw FO1 x 9 &&& SP1 a) ∧ sb2 (r2 lf x y) a = r2 lf (onw FO1 x 9 &&& SP1 a) (onw FO2 y 9 &&& SP2 a) ∧ (lf = true → (onw FO2 y 9 &&& SP2 a) = 0)
theorem QR_gi (hS : PS lf P FO1 SP1 FO2 SP2 sa sb2) {x y t : Nat} {q : QZ} {m : QM} (hxy : P x y) (h1 : onw FO1 x 9 < 256) (h2 : onw FO2 y 9 < 256) (ht : t < q.1) (hq : QI q) (h : QR lf P q m) : ∀ a, a ≤ 4 → QR lf P (gi SP1 SP2 (onw FO1 x 9) (onw FO2 y 9) t q a) (mi (sa x) (sb2 (r2 lf x y)) t m a) := by
  intro a
  induction a with
  | zero => intro _; exact h
  | succ a ih =>
    intro ha
    rw [gi, mi]
    obtain ⟨g1, g2, g3, g4, g5, g6⟩ := hS x y hxy a (by omega)
    rw [g4, g5]
    exact QR_gs (ih (by omega)) (gi_ok h1 h2 ht hq a (by omega)).1 g1 g2 g6 g3 (by omega)
theorem QR_at {q : QZ} {m : QM} (h : QR lf P q m) {t : Nat} (ht : t < q.1) (hr : ∀ x y, P x y → r2 lf x y ≤ 256) : m.1 = q.1 ∧ P (q.2.2.1 t) (q.2.2.2.1 t) ∧ m.2.1 t / 257 = q.2.2.1 t ∧ m.2.1 t % 257 = r2 lf (q.2.2.1 t) (q.2.2.2.1 t) := by
  obtain ⟨z, cp, FI, SC, OG, SN⟩ := q
  obtain ⟨n, FD, FR, BY, KN⟩ := m
  obtain ⟨h1, h2, -⟩ := h
  obtain ⟨p1, p2⟩ := h2 t ht
  have := hr _ _ p1
  refine ⟨h1, p1, ?_, ?_⟩
  · show FD t / 257 = FI t; rw [p2]; omega
  · show FD t % 257 = r2 lf (FI t) (SC t); rw [p2]; omega
theorem pt_sk (hS : PS lf P FO1 SP1 FO2 SP2 sa sb2) (hF1 : ∀ p, p < 9 → FO1 p < 256) (hF2 : ∀ p, p < 9 → FO2 p < 256) (hr : ∀ x y, P x y → r2 lf x y ≤ 256) (hT : ∀ x y, P x y → (bad wh (ta x) (tb (r2 lf x y)) = true ↔ who (tl x en1) (tl y en2) &&& wa ≠ 0)) :
    ∀ r rr t q m, r ≤ rr → t + r = 65537 → QI q → QR lf P q m → (QR lf P (pt FO1 SP1 FO2 SP2 en1 en2 wa r t q).2.2 (sk sa sb2 ta tb wh rr t m).2 ∧ QI (pt FO1 SP1 FO2 SP2 en1 en2 wa r t q).2.2) ∧ ((pt FO1 SP1 FO2 SP2 en1 en2 wa r t q).1 = 0 ∧ (sk sa sb2 ta tb wh rr t m).1 = 0 ∨ (pt FO1 SP1 FO2 SP2 en1 en2 wa r t q).1 ≠ 0 ∧ (sk sa sb2 ta tb wh rr t m).1 = (pt FO1 SP1 FO2 SP2 en1 en2 wa r t q).2.1 + 1 ∧ (pt FO1 SP1 FO2 SP2 en1 en2 wa r t q).2.1 < (pt FO1 SP1 FO2 SP2 en1 en2 wa r t q).2.2.1 ∧ (pt FO1 SP1 FO2 SP2 en1 en2 wa r t q).1 = who (tl ((pt FO1 SP1 FO2 SP2 en1 en2 wa r t q).2.2.2.2.1 (pt FO1 SP1 FO2 SP2 en1 en2 wa r t q).2.1) en1) (tl ((pt FO1 SP1 FO2 SP2 en1 en2 wa r t q).2.2.2.2.2.1 (pt FO1 SP1 FO2 SP2 en1 en2 wa r t q).2.1) en2) &&& wa) := by
  intro r
  induction r with
  | zero =>
    intro rr t q m _ ht hq h
    have hz := QI_size hq
    have hm : m.1 = q.1 := by
      obtain ⟨z, cp, FI, SC, OG, SN⟩ := q
      obtain ⟨n, FD, FR, BY, KN⟩ := m
      exact h.1
    have e : sk sa sb2 ta tb wh rr t m = (0, m) := by
      cases rr with
      | zero => rfl
      | succ rr => rw [sk, if_neg (by omega)]
    rw [e]
    exact ⟨⟨h, hq⟩, Or.inl ⟨rfl, rfl⟩⟩
  | succ r ih =>
    intro rr t q m hrr ht hq h
    obtain ⟨rr, rfl⟩ : ∃ x, rr = x + 1 := ⟨rr - 1, by omega⟩
    have hm : m.1 = q.1 := by
      obtain ⟨z, cp, FI, SC, OG, SN⟩ := q
      obtain ⟨n, FD, FR, BY, KN⟩ := m
      exact h.1
    by_cases hz : t < q.1
    · obtain ⟨-, p1, p2, p3⟩ := QR_at h hz hr
      have hb := hT _ _ p1
      have hz2 : t < m.1 := by rw [hm]; exact hz
      by_cases hw : who (tl (q.2.2.1 t) en1) (tl (q.2.2.2.1 t) en2) &&& wa = 0
      · have e1 : pt FO1 SP1 FO2 SP2 en1 en2 wa (r + 1) t q = pt FO1 SP1 FO2 SP2 en1 en2 wa r (t + 1) (gi SP1 SP2 (onw FO1 (q.2.2.1 t) 9) (onw FO2 (q.2.2.2.1 t) 9) t q 4) := by rw [pt, if_pos hz, if_pos hw]
        have e2 : sk sa sb2 ta tb wh (rr + 1) t m = sk sa sb2 ta tb wh rr (t + 1) (mi (sa (q.2.2.1 t)) (sb2 (r2 lf (q.2.2.1 t) (q.2.2.2.1 t))) t m 4) := by rw [sk, if_pos hz2, p2, p3, if_neg (fun z => hb.mp z hw)]
        rw [e1, e2]
        have o1 := onw_lt (S := q.2.2.1 t) hF1 9 (Nat.le_refl _)
        have o2 := onw_lt (S := q.2.2.2.1 t) hF2 9 (Nat.le_refl _)
        exact ih rr (t + 1) _ _ (by omega) (by omega) (gi_ok o1 o2 hz hq 4 (Nat.le_refl _)).1 (QR_gi hS p1 o1 o2 hz hq h 4 (Nat.le_refl _))
      · have e1 : pt FO1 SP1 FO2 SP2 en1 en2 wa (r + 1) t q = (who (tl (q.2.2.1 t) en1) (tl (q.2.2.2.1 t) en2) &&& wa, t, q) := by rw [pt, if_pos hz, if_neg hw]
        have e2 : sk sa sb2 ta tb wh (rr + 1) t m = (t + 1, m) := by rw [sk, if_pos hz2, p2, p3, if_pos (hb.mpr hw)]
        rw [e1, e2]
        exact ⟨⟨h, hq⟩, Or.inr ⟨hw, rfl, hz, rfl⟩⟩
    · have e1 : pt FO1 SP1 FO2 SP2 en1 en2 wa (r + 1) t q = (0, 0, q) := by rw [pt, if_neg hz]
      have e2 : sk sa sb2 ta tb wh (rr + 1) t m = (0, m) := by rw [sk, if_neg (by rw [hm]; exact hz)]
      rw [e1, e2]
      exact ⟨⟨h, hq⟩, Or.inl ⟨rfl, rfl⟩⟩
/-- the ways back are the same -/
theorem wl_ml {q : QZ} {m : QM} (h : QR lf P q m) (hq : QI q) : ∀ r x, x < q.1 → wl q.2.2.2.2.1 r x = ml m.2.2.1 r x := by
  obtain ⟨z, cp, FI, SC, OG, SN⟩ := q
  obtain ⟨n, FD, FR, BY, KN⟩ := m
  obtain ⟨h1, h2, h3, h4, h5⟩ := h
  obtain ⟨-, -, -, q4, -⟩ := hq
  intro r
  induction r with
  | zero => intro x _; rfl
  | succ r ih =>
    intro x hx
    have hx : x < z := hx
    rw [wl, ml]
    show (if x = 0 then 0 else 1 + wl OG r (OG x / 4)) = (if FR x = 0 then 0 else 1 + ml FR r (FR x - 1))
    by_cases e : x = 0
    · subst e; rw [if_pos rfl, if_pos h3]
    · have g := h4 x (by omega) hx
      have g2 := (q4 x (by omega) hx).2.2.2.1
      rw [if_neg e, if_neg (by omega), g.1, Nat.add_sub_cancel]
      rw [ih (OG x / 4) (show OG x / 4 < z by omega)]
theorem wf_mf {q : QZ} {m : QM} (h : QR lf P q m) (hq : QI q) : ∀ r x L WD mm, x < q.1 → x ≤ r → (∀ k, wl q.2.2.2.2.1 r x ≤ k → k < mm → L k = WD k) → ∀ k, k < mm → wf q.2.2.2.2.1 (wl q.2.2.2.2.1 r x) x L k = mf m.2.2.1 m.2.2.2.1 (wl q.2.2.2.2.1 r x) x WD k := by
  obtain ⟨z, cp, FI, SC, OG, SN⟩ := q
  obtain ⟨n, FD, FR, BY, KN⟩ := m
  obtain ⟨h1, h2, h3, h4, h5⟩ := h
  obtain ⟨-, -, -, q4, -⟩ := hq
  show ∀ r x L WD mm, x < z → x ≤ r → (∀ k, wl OG r x ≤ k → k < mm → L k = WD k) → ∀ k, k < mm → wf OG (wl OG r x) x L k = mf FR BY (wl OG r x) x WD k
  intro r
  induction r with
  | zero => intro x L WD mm _ _ hk k hkm; exact hk k (Nat.zero_le _) hkm
  | succ r ih =>
    intro x L WD mm hx hxr hk k hkm
    by_cases e : x = 0
    · subst e
      rw [wl_0] at hk ⊢
      exact hk k (Nat.zero_le _) hkm
    · have g := h4 x (by omega) hx
      have g2 := (q4 x (by omega) hx).2.2.2.1
      have e1 : wl OG (r + 1) x = wl OG r (OG x / 4) + 1 := by rw [wl, if_neg e]; omega
      rw [e1] at hk ⊢
      rw [wf, mf, g.1, Nat.add_sub_cancel, g.2]
      refine ih (OG x / 4) _ _ mm (by omega) (by omega) (fun k2 hk2 hk3 => ?_) k hkm
      by_cases e2 : k2 = wl OG r (OG x / 4)
      · rw [e2, va_up_self, va_up_self]
      · rw [va_up_ne _ _ e2, va_up_ne _ _ e2]; exact hk k2 (by omega) hk3
end SRC
