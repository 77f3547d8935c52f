/-! READING: what the class's parser holds and what the reference's holds -/
theorem lnk_at (FO : Nat → Nat) (x y : Nat) : ∀ p q, lnk FO x y p q = (if q < p ∧ x.testBit q = true then FO q ||| y else FO q) := by
  intro p
  induction p with
  | zero => intro q; simp [lnk]
  | succ p ih =>
    intro q
    rw [lnk]
    by_cases hb : x.testBit p = true
    · rw [if_pos hb]
      by_cases e : q = p
      · subst e
        rw [va_up_self, ih, if_neg (by omega), if_pos ⟨by omega, hb⟩]
      · rw [va_up_ne _ _ e, ih]
        by_cases h : q < p ∧ x.testBit q = true
        · rw [if_pos h, if_pos ⟨by omega, h.2⟩]
        · rw [if_neg h, if_neg (fun c => h ⟨by omega, c.2⟩)]
    · rw [if_neg hb, ih]
      by_cases h : q < p ∧ x.testBit q = true
      · rw [if_pos h, if_pos ⟨by omega, h.2⟩]
      · rw [if_neg h, if_neg (fun c => h ⟨by
          rcases Nat.lt_or_ge q p with z | z
          · exact z
          · exact absurd (by rw [show p = q by omega]; exact c.2) hb, c.2⟩)]
theorem fol_lnk (NF : Nat → Nat) (x y : Nat) : ∀ p, fol NF x y p = lnk NF x y p := by
  intro p
  induction p with
  | zero => rfl
  | succ p ih => rw [fol, lnk, ih]
def sN (PE PF PL : Nat → Nat) (x : Nat) : PT := if x = 0 then (0, 0, false) else nd PE PF PL (x - 1)
def rN (PE PF PL : Nat → Nat) (x : Nat) : PT := if x = 0 then (0, 0, true) else nd PE PF PL (x - 1)
section CRS
variable {le pa dp n : Nat} {PE PF PL NF NL SO RO FO SP : Nat → Nat} {F : PT} {S Rw : Nat → PT} {fw : Bool}
theorem nd_up {e f l2 j : Nat} (h : j < pa) : nd (va_up PE pa e) (va_up PF pa f) (va_up PL pa l2) j = nd PE PF PL j := by
  unfold nd
  rw [va_up_ne _ _ (by omega), va_up_ne _ _ (by omega), va_up_ne _ _ (by omega)]
theorem nd_new {b : Bool} {f l2 : Nat} : nd (va_up PE pa b.toNat) (va_up PF pa f) (va_up PL pa l2) pa = (f, l2, b) := by
  unfold nd
  rw [va_up_self, va_up_self, va_up_self]
  cases b <;> rfl
theorem sN_up {e f l2 x : Nat} (h : x ≤ pa) : sN (va_up PE pa e) (va_up PF pa f) (va_up PL pa l2) x = sN PE PF PL x := by
  unfold sN
  by_cases h0 : x = 0
  · rw [if_pos h0, if_pos h0]
  · rw [if_neg h0, if_neg h0, nd_up (by omega)]
theorem rN_up {e f l2 x : Nat} (h : x ≤ pa) : rN (va_up PE pa e) (va_up PF pa f) (va_up PL pa l2) x = rN PE PF PL x := by
  unfold rN
  by_cases h0 : x = 0
  · rw [if_pos h0, if_pos h0]
  · rw [if_neg h0, if_neg h0, nd_up (by omega)]
def CR (le pa : Nat) (PE PF PL NF NL SO RO : Nat → Nat) : PZ → Prop
  | (_, dp, _, S, Rw, FO, SP, n) => (n = le ∧ dp ≤ 8 ∧ le ≤ 8) ∧ (∀ j, j < pa → PE j ≤ 1 ∧ PF j < 2 ^ le ∧ PL j < 2 ^ le) ∧ (∀ i, i ≤ dp → SO i ≤ pa ∧ RO i ≤ pa ∧ S i = sN PE PF PL (SO i) ∧ Rw i = rN PE PF PL (RO i)) ∧ (∀ q, q < le → FO q = NF q ∧ NF q < 2 ^ le ∧ NL q < 4) ∧ (∀ q, le ≤ q → FO q = 0) ∧ ∀ ch, ch < 4 → ∀ j, (SP ch).testBit j = decide (j < le ∧ NL j = ch)
theorem CR_fw {fw2 : Bool} {F2 : PT} (h : CR le pa PE PF PL NF NL SO RO (fw, dp, F, S, Rw, FO, SP, n)) : CR le pa PE PF PL NF NL SO RO (fw2, dp, F2, S, Rw, FO, SP, n) := h
theorem CR_node {e f l2 : Nat} (h : CR le pa PE PF PL NF NL SO RO (fw, dp, F, S, Rw, FO, SP, n)) (h1 : e ≤ 1) (h2 : f < 2 ^ le) (h3 : l2 < 2 ^ le) : CR le (pa + 1) (va_up PE pa e) (va_up PF pa f) (va_up PL pa l2) NF NL SO RO (fw, dp, F, S, Rw, FO, SP, n) := by
  obtain ⟨a1, a2, a3, a4, a5, a6⟩ := h
  refine ⟨a1, fun j hj => ?_, fun i hi => ?_, a4, a5, a6⟩
  · by_cases e : j = pa
    · subst e; rw [va_up_self, va_up_self, va_up_self]; exact ⟨h1, h2, h3⟩
    · rw [va_up_ne _ _ e, va_up_ne _ _ e, va_up_ne _ _ e]; exact a2 j (by omega)
  · obtain ⟨b1, b2, b3, b4⟩ := a3 i hi
    exact ⟨by omega, by omega, by rw [sN_up b1]; exact b3, by rw [rN_up b2]; exact b4⟩
theorem CR_link {x y : Nat} (h : CR le pa PE PF PL NF NL SO RO (fw, dp, F, S, Rw, FO, SP, n)) (hx : x < 2 ^ le) (hy : y < 2 ^ le) : CR le pa PE PF PL (fol NF x y 8) NL SO RO (fw, dp, F, S, Rw, lnk FO x y 9, SP, n) := by
  obtain ⟨a1, a2, a3, a4, a5, a6⟩ := h
  have hl8 : le ≤ 8 := a1.2.2
  refine ⟨a1, a2, a3, fun q hq => ?_, fun q hq => ?_, a6⟩
  · obtain ⟨b1, b2, b3⟩ := a4 q hq
    rw [fol_lnk, lnk_at, lnk_at, b1]
    by_cases hb : x.testBit q = true
    · rw [if_pos ⟨by omega, hb⟩, if_pos ⟨by omega, hb⟩]; exact ⟨rfl, Nat.or_lt_two_pow b2 hy, b3⟩
    · rw [if_neg (fun c => hb c.2), if_neg (fun c => hb c.2)]; exact ⟨rfl, b2, b3⟩
  · rw [lnk_at, if_neg (fun c => ?_)]
    · exact a5 q hq
    · have : x < 2 ^ q := Nat.lt_of_lt_of_le hx (Nat.pow_le_pow_right (by decide) hq)
      rw [Nat.testBit_lt_two_pow this] at c
      exact absurd c.2 (by decide)
theorem CR_row {x : Nat} (h : CR le pa PE PF PL NF NL SO RO (fw, dp, F, S, Rw, FO, SP, n)) (hx : x ≤ pa) : CR le pa PE PF PL NF NL SO (va_up RO dp x) (fw, dp, F, S, va_up Rw dp (rN PE PF PL x), FO, SP, n) := by
  obtain ⟨a1, a2, a3, a4, a5, a6⟩ := h
  refine ⟨a1, a2, fun i hi => ?_, a4, a5, a6⟩
  obtain ⟨b1, b2, b3, b4⟩ := a3 i hi
  by_cases e : i = dp
  · subst e; rw [va_up_self, va_up_self]; exact ⟨b1, hx, b3, rfl⟩
  · rw [va_up_ne _ _ e, va_up_ne _ _ e]; exact ⟨b1, b2, b3, b4⟩
theorem CR_sum {x : Nat} (h : CR le pa PE PF PL NF NL SO RO (fw, dp, F, S, Rw, FO, SP, n)) (hx : x ≤ pa) : CR le pa PE PF PL NF NL (va_up SO dp x) RO (fw, dp, F, va_up S dp (sN PE PF PL x), Rw, FO, SP, n) := by
  obtain ⟨a1, a2, a3, a4, a5, a6⟩ := h
  refine ⟨a1, a2, fun i hi => ?_, a4, a5, a6⟩
  obtain ⟨b1, b2, b3, b4⟩ := a3 i hi
  by_cases e : i = dp
  · subst e; rw [va_up_self, va_up_self]; exact ⟨hx, b2, rfl, b4⟩
  · rw [va_up_ne _ _ e, va_up_ne _ _ e]; exact ⟨b1, b2, b3, b4⟩
theorem CR_open (h : CR le pa PE PF PL NF NL SO RO (fw, dp, F, S, Rw, FO, SP, n)) (hd : dp < 8) : CR le pa PE PF PL NF NL (va_up SO (dp + 1) 0) (va_up RO (dp + 1) 0) (fw, dp + 1, F, va_up S (dp + 1) (0, 0, false), va_up Rw (dp + 1) (0, 0, true), FO, SP, n) := by
  obtain ⟨a1, a2, a3, a4, a5, a6⟩ := h
  refine ⟨⟨a1.1, hd, a1.2.2⟩, a2, fun i hi => ?_, a4, a5, a6⟩
  by_cases e : i = dp + 1
  · subst e; rw [va_up_self, va_up_self, va_up_self, va_up_self]; exact ⟨Nat.zero_le _, Nat.zero_le _, rfl, rfl⟩
  · rw [va_up_ne _ _ e, va_up_ne _ _ e, va_up_ne _ _ e, va_up_ne _ _ e]; exact a3 i (by omega)
theorem CR_close {x y : PT} {dp2 : Nat} (h : CR le pa PE PF PL NF NL SO RO (fw, dp, F, S, Rw, FO, SP, n)) (hd : dp2 < dp) : CR le pa PE PF PL NF NL SO RO (fw, dp2, F, va_up S dp x, va_up Rw dp y, FO, SP, n) := by
  obtain ⟨a1, a2, a3, a4, a5, a6⟩ := h
  have a12 : dp ≤ 8 := a1.2.1
  refine ⟨⟨a1.1, by omega, a1.2.2⟩, a2, fun i hi => ?_, a4, a5, a6⟩
  rw [va_up_ne _ _ (by omega), va_up_ne _ _ (by omega)]; exact a3 i (by omega)
theorem CR_letter {ch : Nat} (h : CR le pa PE PF PL NF NL SO RO (fw, dp, F, S, Rw, FO, SP, n)) (hle : le < 8) (hc : ch < 4) : CR (le + 1) pa PE PF PL (va_up NF le 0) (va_up NL le ch) SO RO (fw, dp, F, S, Rw, FO, va_up SP ch (SP ch ||| 2 ^ n), n + 1) := by
  obtain ⟨a1, a2, a3, a4, a5, a6⟩ := h
  have hn : n = le := a1.1
  have hp : 2 ^ le < 2 ^ (le + 1) := Nat.pow_lt_pow_right (by decide) (by omega)
  subst hn
  refine ⟨⟨rfl, a1.2.1, by omega⟩, fun j hj => ?_, a3, fun q hq => ?_, fun q hq => a5 q (by omega), fun c hc2 j => ?_⟩
  · obtain ⟨b1, b2, b3⟩ := a2 j hj
    exact ⟨b1, by omega, by omega⟩
  · by_cases e : q = n
    · subst e; rw [va_up_self, va_up_self]; exact ⟨a5 q (Nat.le_refl _), Nat.two_pow_pos _, hc⟩
    · rw [va_up_ne _ _ e, va_up_ne _ _ e]
      obtain ⟨b1, b2, b3⟩ := a4 q (by omega)
      exact ⟨b1, by omega, b3⟩
  · by_cases e : j = n
    · subst e
      rw [va_up_self]
      by_cases ec : c = ch
      · subst ec
        rw [va_up_self, Nat.testBit_or, Nat.testBit_two_pow_self]; simp
      · rw [va_up_ne _ _ ec, a6 c hc2]
        have : ¬ ch = c := fun q => ec q.symm
        simp [this]
    · rw [va_up_ne _ _ e]
      have e2 : (j < n + 1 ∧ NL j = c) ↔ (j < n ∧ NL j = c) := ⟨fun q => ⟨by omega, q.2⟩, fun q => ⟨by omega, q.2⟩⟩
      rw [decide_eq_decide.mpr e2, ← a6 c hc2]
      by_cases ec : c = ch
      · subst ec
        rw [va_up_self, Nat.testBit_or, Nat.testBit_two_pow_of_ne (fun q => e q.symm), Bool.or_false]
      · rw [va_up_ne _ _ ec]
theorem beh_0 (F : PT) : beh (0, 0, true) F = F := by
  obtain ⟨a, b, c⟩ := F
  unfold beh
  cases c <;> simp
theorem alt_0 (F : PT) : alt (0, 0, false) F = F := by
  obtain ⟨a, b, c⟩ := F
  unfold alt
  simp
theorem lnk_0 (FO : Nat → Nat) (y p : Nat) : lnk FO 0 y p = FO := by
  funext q
  rw [lnk_at, if_neg (fun c => by rw [Nat.zero_testBit] at c; exact absurd c.2 (by decide))]
theorem jn_t : jn (true, dp, F, S, Rw, FO, SP, n) = (false, dp, F, S, va_up Rw dp (beh (Rw dp) F), lnk FO (Rw dp).2.1 F.1 9, SP, n) := rfl
theorem jn_f : jn (false, dp, F, S, Rw, FO, SP, n) = (false, dp, F, S, Rw, FO, SP, n) := rfl
theorem CR_join0 {nn : Nat} (h : CR le pa PE PF PL NF NL SO RO (true, dp, F, S, Rw, FO, SP, n)) (hF : F = nd PE PF PL nn) (hn : nn < pa) (h0 : RO dp = 0) : CR le pa PE PF PL NF NL SO (va_up RO dp (nn + 1)) (jn (true, dp, F, S, Rw, FO, SP, n)) := by
  have hr : Rw dp = (0, 0, true) := by rw [(h.2.2.1 dp (Nat.le_refl _)).2.2.2, h0]; rfl
  have h1 := CR_row (x := nn + 1) h hn
  rw [jn_t, hr, beh_0, lnk_0, hF]
  exact h1
theorem CR_join1 {nn x : Nat} (h : CR le pa PE PF PL NF NL SO RO (true, dp, F, S, Rw, FO, SP, n)) (hF : F = nd PE PF PL nn) (hn : nn < pa) (h0 : RO dp = x + 1) : CR le (pa + 1) (va_up PE pa (pe PE x && pe PE nn).toNat) (va_up PF pa (PF x ||| (if pe PE x then PF nn else 0))) (va_up PL pa (PL nn ||| (if pe PE nn then PL x else 0))) (fol NF (PL x) (PF nn) 8) NL SO (va_up RO dp (pa + 1)) (jn (true, dp, F, S, Rw, FO, SP, n)) := by
  obtain ⟨b1, b2, b3, b4⟩ := h.2.2.1 dp (Nat.le_refl _)
  have hx : x < pa := by omega
  have hr : Rw dp = nd PE PF PL x := by rw [b4, h0]; rfl
  obtain ⟨c1, c2, c3⟩ := h.2.1 x hx
  obtain ⟨d1, d2, d3⟩ := h.2.1 nn hn
  have h1 := CR_link h c3 d2
  have h2 := CR_node (e := (pe PE x && pe PE nn).toNat) (f := PF x ||| (if pe PE x then PF nn else 0)) (l2 := PL nn ||| (if pe PE nn then PL x else 0)) h1 (bT1 _) (Nat.or_lt_two_pow c2 (by split; (exact d2); (exact Nat.two_pow_pos _))) (Nat.or_lt_two_pow d3 (by split; (exact c3); (exact Nat.two_pow_pos _)))
  have h3 := CR_row (x := pa + 1) h2 (Nat.le_refl _)
  rw [jn_t, hr, hF]
  have e : rN (va_up PE pa (pe PE x && pe PE nn).toNat) (va_up PF pa (PF x ||| (if pe PE x then PF nn else 0))) (va_up PL pa (PL nn ||| (if pe PE nn then PL x else 0))) (pa + 1) = beh (nd PE PF PL x) (nd PE PF PL nn) := by
    show nd _ _ _ pa = _
    rw [nd_new]
    unfold beh nd pe
    cases hx2 : decide (PE x ≠ 0) <;> cases hn2 : decide (PE nn ≠ 0) <;> simp [Nat.or_comm]
  rw [e] at h3
  exact h3
end CRS
theorem acc_nr {sg : Nat} (h : ¬ (sg = 42 ∨ sg = 43 ∨ sg = 63)) (z : PZ) : acc sg z = acc2 sg z.1 (jn z) := by
  obtain ⟨fw, dp, F, S, Rw, FO, SP, n⟩ := z
  rw [acc, if_neg h]
theorem prs_s {B : Nat → Nat} {len i : Nat} (h : i < len) (z : PZ) : prs B len (len - i) i z = (if (acc (B i) z).1 then prs B len (len - (i + 1)) (i + 1) (acc (B i) z).2 else (i + 1, 0, (acc (B i) z).2)) := by
  rw [show len - i = (len - (i + 1)) + 1 by omega, prs]
/-- a byte that may not stand where an atom must -/
theorem acc_bad {sg : Nat} {z : PZ} (h1 : z.1 = true → ¬ (sg = 42 ∨ sg = 43 ∨ sg = 63 ∨ sg = 41 ∨ sg = 124)) (h2 : sg = 40 → 8 ≤ z.2.1) (h3 : sg ≠ 48) (h4 : sg ≠ 49) (h5 : sg < 97 ∨ 100 < sg ∨ 8 ≤ z.2.2.2.2.2.2.2) : (acc sg z).1 = false := by
  obtain ⟨fw, dp, F, S, Rw, FO, SP, n⟩ := z
  have h2 : sg = 40 → 8 ≤ dp := h2
  have h5 : sg < 97 ∨ 100 < sg ∨ 8 ≤ n := h5
  rw [acc]
  by_cases c : sg = 42 ∨ sg = 43 ∨ sg = 63
  · rw [if_pos c]
    cases fw with
    | false => rfl
    | true => exact absurd (by omega) (h1 rfl)
  · rw [if_neg c]
    show (acc2 sg fw (false, dp, F, S, _, _, SP, n)).1 = false
    rw [acc2]
    by_cases c1 : sg = 40
    · rw [if_pos c1, if_neg (by have := h2 c1; omega)]
    · rw [if_neg c1]
      by_cases c2 : sg = 41
      · rw [if_pos c2, if_neg (fun q => h1 q.1 (by omega))]
      · rw [if_neg c2, if_neg (by omega)]
        by_cases c3 : 97 ≤ sg ∧ sg ≤ 100
        · rw [if_pos c3, if_neg (by omega)]
        · rw [if_neg c3]
          by_cases c4 : sg = 124
          · rw [if_pos c4]
            cases fw with
            | false => rfl
            | true => exact absurd (by omega) (h1 rfl)
          · rw [if_neg c4]
theorem acc_open {z : PZ} (h : z.2.1 < 8) : acc 40 z = (true, ((jn z).1, (jn z).2.1 + 1, (jn z).2.2.1, va_up (jn z).2.2.2.1 ((jn z).2.1 + 1) (0, 0, false), va_up (jn z).2.2.2.2.1 ((jn z).2.1 + 1) (0, 0, true), (jn z).2.2.2.2.2.1, (jn z).2.2.2.2.2.2.1, (jn z).2.2.2.2.2.2.2)) := by
  rw [acc_nr (by decide)]
  obtain ⟨fw, dp, F, S, Rw, FO, SP, n⟩ := z
  have h : dp < 8 := h
  show acc2 40 fw (false, dp, F, S, _, _, SP, n) = _
  rw [acc2, if_pos rfl, if_pos h]
  rfl
theorem acc_01 {sg : Nat} {z : PZ} (h : sg = 48 ∨ sg = 49) : acc sg z = (true, (true, (jn z).2.1, (0, 0, decide (sg = 49)), (jn z).2.2.2.1, (jn z).2.2.2.2.1, (jn z).2.2.2.2.2.1, (jn z).2.2.2.2.2.2.1, (jn z).2.2.2.2.2.2.2)) := by
  rw [acc_nr (by omega)]
  obtain ⟨fw, dp, F, S, Rw, FO, SP, n⟩ := z
  show acc2 sg fw (false, dp, F, S, _, _, SP, n) = _
  rw [acc2, if_neg (by omega), if_neg (by omega), if_pos h]
  rfl
theorem acc_let {sg : Nat} {z : PZ} (h1 : 97 ≤ sg) (h2 : sg ≤ 100) (h3 : z.2.2.2.2.2.2.2 < 8) : acc sg z = (true, (true, (jn z).2.1, (2 ^ (jn z).2.2.2.2.2.2.2, 2 ^ (jn z).2.2.2.2.2.2.2, false), (jn z).2.2.2.1, (jn z).2.2.2.2.1, (jn z).2.2.2.2.2.1, va_up (jn z).2.2.2.2.2.2.1 (sg - 97) ((jn z).2.2.2.2.2.2.1 (sg - 97) ||| 2 ^ (jn z).2.2.2.2.2.2.2), (jn z).2.2.2.2.2.2.2 + 1)) := by
  rw [acc_nr (by omega)]
  obtain ⟨fw, dp, F, S, Rw, FO, SP, n⟩ := z
  have h3 : n < 8 := h3
  show acc2 sg fw (false, dp, F, S, _, _, SP, n) = _
  rw [acc2, if_neg (by omega), if_neg (by omega), if_neg (by omega), if_pos ⟨h1, h2⟩, if_pos h3]
  rfl
