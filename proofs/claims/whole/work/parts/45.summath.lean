/-! READING: the reference's loop against the class's parser -/
section SJS
variable {TP : Nat → Nat} {tp le dp : Nat} {NL SO RO : Nat → Nat} {o : Nat × Nat × PZ} {a pa q x : Nat} {PE PF PL NF : Nat → Nat} {z : PZ}
def SJ (TP : Nat → Nat) (tp le dp : Nat) (NL SO RO : Nat → Nat) (o : Nat × Nat × PZ) (a pa : Nat) (PE PF PL NF : Nat → Nat) (z : PZ) : Prop := a ≤ tp ∧ pa ≤ 2 * a ∧ z.2.1 = dp ∧ CR le pa PE PF PL NF NL SO RO (jn z) ∧ prs TP tp (tp - a) a z = o ∧ (z.1 = true → a < tp ∧ ¬ (TP a = 42 ∨ TP a = 43 ∨ TP a = 63 ∨ TP a = 41 ∨ TP a = 124))
def KJ (TP : Nat → Nat) (tp le dp : Nat) (NL SO RO : Nat → Nat) (o : Nat × Nat × PZ) (a pa : Nat) (PE PF PL NF : Nat → Nat) (z : PZ) : Prop := a ≤ tp ∧ pa ≤ 2 * a ∧ z.1 = true ∧ z.2.1 = dp ∧ CR le pa PE PF PL NF NL SO RO (jn z) ∧ prs TP tp (tp - a) a z = o ∧ 0 < RO dp ∧ (a < tp → TP a ≠ 42 ∧ TP a ≠ 43 ∧ TP a ≠ 63)
theorem jn_e (z : PZ) : jn z = (false, z.2.1, z.2.2.1, z.2.2.2.1, (jn z).2.2.2.2.1, (jn z).2.2.2.2.2.1, z.2.2.2.2.2.2.1, z.2.2.2.2.2.2.2) := by
  obtain ⟨fw, d, F, S, Rw, FO, SP, n⟩ := z
  rfl
theorem jn_idem (d : Nat) (F : PT) (S Rw : Nat → PT) (FO SP : Nat → Nat) (n : Nat) : jn (false, d, F, S, Rw, FO, SP, n) = (false, d, F, S, Rw, FO, SP, n) := rfl
theorem SJ_le (h : SJ TP tp le dp NL SO RO o a pa PE PF PL NF z) : le ≤ 8 ∧ dp ≤ 8 ∧ z.2.2.2.2.2.2.2 = le := by
  obtain ⟨h1, h2, h3, h4, h5, h6⟩ := h
  rw [jn_e] at h4
  have g := h4.1
  subst h3
  exact ⟨g.2.2, g.2.1, g.1⟩
theorem prs_go {zz : PZ} (ha : a < tp) (he : acc (TP a) z = (true, zz)) (h : prs TP tp (tp - a) a z = o) : prs TP tp (tp - (a + 1)) (a + 1) zz = o := by
  rw [prs_s ha, he] at h
  exact h
theorem SJ_open (h : SJ TP tp le dp NL SO RO o a pa PE PF PL NF z) (ha : a < tp) (hc : TP a = 40) (hd : dp < 8) : SJ TP tp le (dp + 1) NL (va_up SO (dp + 1) 0) (va_up RO (dp + 1) 0) o (a + 1) pa PE PF PL NF (acc 40 z).2 := by
  obtain ⟨h1, h2, h3, h4, h5, h6⟩ := h
  have he := acc_open (z := z) (by rw [h3]; exact hd)
  have h7 := prs_go ha (by rw [hc]; exact he) h5
  rw [he]
  rw [jn_e] at h4 h7 ⊢
  subst h3
  refine ⟨ha, by omega, rfl, ?_, h7, fun q => absurd q (by show ¬ (false = true); decide)⟩
  exact CR_open h4 hd
theorem SJ_bad (h : SJ TP tp le dp NL SO RO o a pa PE PF PL NF z) (ha : a < tp) (h40 : TP a = 40 → 8 ≤ dp) (h48 : TP a ≠ 48) (h49 : TP a ≠ 49) (hl : TP a < 97 ∨ 100 < TP a ∨ le = 8) : o.1 = a + 1 := by
  have hle := (SJ_le h).2.2
  obtain ⟨h1, h2, h3, h4, h5, h6⟩ := h
  have he := acc_bad (sg := TP a) (z := z) (fun q => (h6 q).2) (by rw [h3]; exact h40) h48 h49 (by rw [hle]; omega)
  rw [prs_s ha, if_neg (by rw [he]; decide)] at h5
  rw [← h5]
theorem SJ_end (h : SJ TP tp le dp NL SO RO o a pa PE PF PL NF z) (ha : ¬ a < tp) : o.1 = a + 1 := by
  obtain ⟨h1, h2, h3, h4, h5, h6⟩ := h
  have e : a = tp := by omega
  subst e
  rw [Nat.sub_self, prs, if_neg (fun q => ha (h6 q.1).1)] at h5
  rw [← h5]
theorem SJ_01 (h : SJ TP tp le dp NL SO RO o a pa PE PF PL NF z) (ha : a < tp) (hc : TP a = 48 ∨ TP a = 49) : RJ TP tp le dp NL SO RO o (a + 1) (pa + 1) pa (va_up PE pa (decide (TP a = 49)).toNat) (va_up PF pa 0) (va_up PL pa 0) NF (acc (TP a) z).2 := by
  obtain ⟨h1, h2, h3, h4, h5, h6⟩ := h
  have he := acc_01 (z := z) hc
  have h7 := prs_go ha he h5
  rw [he]
  rw [jn_e] at h4 h7 ⊢
  subst h3
  exact ⟨Nat.lt_succ_self _, ha, by omega, CR_fw (CR_node h4 (bT1 _) (Nat.two_pow_pos _) (Nat.two_pow_pos _)), rfl, rfl, nd_new.symm, h7⟩
theorem SJ_let (h : SJ TP tp le dp NL SO RO o a pa PE PF PL NF z) (ha : a < tp) (h97 : 97 ≤ TP a) (h100 : TP a ≤ 100) (hl : le < 8) : RJ TP tp (le + 1) dp (va_up NL le (TP a - 97)) SO RO o (a + 1) (pa + 1) pa (va_up PE pa false.toNat) (va_up PF pa (2 ^ le)) (va_up PL pa (2 ^ le)) (va_up NF le 0) (acc (TP a) z).2 := by
  have hle := (SJ_le h).2.2
  obtain ⟨h1, h2, h3, h4, h5, h6⟩ := h
  have he := acc_let (z := z) h97 h100 (by rw [hle]; exact hl)
  have h7 := prs_go ha he h5
  rw [he]
  rw [jn_e] at h4 h7 ⊢
  subst h3
  have hp : 2 ^ le < 2 ^ (le + 1) := Nat.pow_lt_pow_right (by decide) (by omega)
  refine ⟨Nat.lt_succ_self _, ha, by omega, CR_fw (CR_node (CR_letter (ch := TP a - 97) h4 hl (by omega)) (bT1 _) hp hp), rfl, rfl, ?_, h7⟩
  show (2 ^ z.2.2.2.2.2.2.2, 2 ^ z.2.2.2.2.2.2.2, false) = _
  rw [hle]
  exact nd_new.symm
theorem RJ_0 (h : RJ TP tp le dp NL SO RO o a pa q PE PF PL NF z) (hs : a < tp → TP a ≠ 42 ∧ TP a ≠ 43 ∧ TP a ≠ 63) (h0 : RO dp = 0) : KJ TP tp le dp NL SO (va_up RO dp (q + 1)) o a pa PE PF PL NF z := by
  obtain ⟨h1, h2, h3, h4, h5, h6, h7, h8⟩ := h
  obtain ⟨fw, d, F, S, Rw, FO, SP, n⟩ := z
  have h5 : fw = true := h5
  have h6 : d = dp := h6
  subst h5 h6
  refine ⟨h2, by omega, rfl, rfl, CR_join0 h4 h7 h1 h0, h8, ?_, hs⟩
  rw [va_up_self]; omega
theorem RJ_1 (h : RJ TP tp le dp NL SO RO o a pa q PE PF PL NF z) (hs : a < tp → TP a ≠ 42 ∧ TP a ≠ 43 ∧ TP a ≠ 63) (h0 : RO dp = x + 1) : KJ TP tp le dp NL SO (va_up RO dp (pa + 1)) o a (pa + 1) (va_up PE pa (pe PE x && pe PE q).toNat) (va_up PF pa (PF x ||| (if pe PE x then PF q else 0))) (va_up PL pa (PL q ||| (if pe PE q then PL x else 0))) (fol NF (PL x) (PF q) 8) z := by
  obtain ⟨h1, h2, h3, h4, h5, h6, h7, h8⟩ := h
  obtain ⟨fw, d, F, S, Rw, FO, SP, n⟩ := z
  have h5 : fw = true := h5
  have h6 : d = dp := h6
  subst h5 h6
  refine ⟨h2, h3, rfl, rfl, CR_join1 h4 h7 h1 h0, h8, ?_, hs⟩
  rw [va_up_self]; omega
theorem CR_alt0 {fw : Bool} {F : PT} {S Rw : Nat → PT} {FO SP : Nat → Nat} {n : Nat} (h : CR le pa PE PF PL NF NL SO RO (fw, dp, F, S, Rw, FO, SP, n)) (h0 : SO dp = 0) (hr : RO dp = q + 1) : nd PE PF PL q = alt (S dp) (Rw dp) ∧ q < pa := by
  obtain ⟨b1, b2, b3, b4⟩ := h.2.2.1 dp (Nat.le_refl _)
  have e1 : S dp = (0, 0, false) := by rw [b3, h0]; rfl
  have e2 : Rw dp = nd PE PF PL q := by rw [b4, hr]; rfl
  rw [e1, e2, alt_0]
  exact ⟨rfl, by omega⟩
theorem CR_alt1 {fw : Bool} {F : PT} {S Rw : Nat → PT} {FO SP : Nat → Nat} {n : Nat} (h : CR le pa PE PF PL NF NL SO RO (fw, dp, F, S, Rw, FO, SP, n)) (h0 : SO dp = x + 1) (hr : RO dp = q + 1) : CR le (pa + 1) (va_up PE pa (pe PE x || pe PE q).toNat) (va_up PF pa (PF x ||| PF q)) (va_up PL pa (PL x ||| PL q)) NF NL SO RO (fw, dp, F, S, Rw, FO, SP, n) ∧ nd (va_up PE pa (pe PE x || pe PE q).toNat) (va_up PF pa (PF x ||| PF q)) (va_up PL pa (PL x ||| PL q)) pa = alt (S dp) (Rw dp) := by
  obtain ⟨b1, b2, b3, b4⟩ := h.2.2.1 dp (Nat.le_refl _)
  have e1 : S dp = nd PE PF PL x := by rw [b3, h0]; rfl
  have e2 : Rw dp = nd PE PF PL q := by rw [b4, hr]; rfl
  have c1 := h.2.1 x (by omega)
  have c2 := h.2.1 q (by omega)
  refine ⟨CR_node h (bT1 _) (Nat.or_lt_two_pow c1.2.1 c2.2.1) (Nat.or_lt_two_pow c1.2.2 c2.2.2), ?_⟩
  rw [nd_new, e1, e2]
  rfl
theorem acc_close (h1 : z.1 = true) (h2 : 0 < z.2.1) : acc 41 z = (true, (true, (jn z).2.1 - 1, alt ((jn z).2.2.2.1 (jn z).2.1) ((jn z).2.2.2.2.1 (jn z).2.1), va_up (jn z).2.2.2.1 (jn z).2.1 (alt ((jn z).2.2.2.1 (jn z).2.1) ((jn z).2.2.2.2.1 (jn z).2.1)), va_up (jn z).2.2.2.2.1 (jn z).2.1 (0, 0, true), (jn z).2.2.2.2.2.1, (jn z).2.2.2.2.2.2.1, (jn z).2.2.2.2.2.2.2)) := by
  rw [acc_nr (by decide)]
  obtain ⟨fw, d, F, S, Rw, FO, SP, n⟩ := z
  have h1 : fw = true := h1
  have h2 : 0 < d := h2
  show acc2 41 fw (false, d, F, S, _, _, SP, n) = _
  rw [acc2, if_neg (by decide), if_pos rfl, if_pos ⟨h1, h2⟩]
  rfl
theorem acc_bar (h1 : z.1 = true) : acc 124 z = (true, (false, (jn z).2.1, (jn z).2.2.1, va_up (jn z).2.2.2.1 (jn z).2.1 (alt ((jn z).2.2.2.1 (jn z).2.1) ((jn z).2.2.2.2.1 (jn z).2.1)), va_up (jn z).2.2.2.2.1 (jn z).2.1 (0, 0, true), (jn z).2.2.2.2.2.1, (jn z).2.2.2.2.2.2.1, (jn z).2.2.2.2.2.2.2)) := by
  rw [acc_nr (by decide)]
  obtain ⟨fw, d, F, S, Rw, FO, SP, n⟩ := z
  have h1 : fw = true := h1
  subst h1
  rfl
theorem KJ_close0 (h : KJ TP tp le dp NL SO RO o a pa PE PF PL NF z) (ha : a < tp) (hc : TP a = 41) (hd : 0 < dp) (h0 : SO dp = 0) (hr : RO dp = q + 1) : RJ TP tp le (dp - 1) NL SO RO o (a + 1) pa q PE PF PL NF (acc 41 z).2 := by
  obtain ⟨h1, h2, h3, h4, h5, h6, h7, h8⟩ := h
  have he := acc_close h3 (by rw [h4]; exact hd)
  have h9 := prs_go ha (by rw [hc]; exact he) h6
  rw [he]
  rw [jn_e] at h5 h9 ⊢
  subst h4
  obtain ⟨g1, g2⟩ := CR_alt0 h5 h0 hr
  exact ⟨g2, ha, by omega, CR_fw (CR_close h5 (Nat.sub_lt hd (by decide))), rfl, rfl, g1.symm, h9⟩
theorem KJ_close1 (h : KJ TP tp le dp NL SO RO o a pa PE PF PL NF z) (ha : a < tp) (hc : TP a = 41) (hd : 0 < dp) (h0 : SO dp = x + 1) (hr : RO dp = q + 1) : RJ TP tp le (dp - 1) NL SO RO o (a + 1) (pa + 1) pa (va_up PE pa (pe PE x || pe PE q).toNat) (va_up PF pa (PF x ||| PF q)) (va_up PL pa (PL x ||| PL q)) NF (acc 41 z).2 := by
  obtain ⟨h1, h2, h3, h4, h5, h6, h7, h8⟩ := h
  have he := acc_close h3 (by rw [h4]; exact hd)
  have h9 := prs_go ha (by rw [hc]; exact he) h6
  rw [he]
  rw [jn_e] at h5 h9 ⊢
  subst h4
  obtain ⟨g1, g2⟩ := CR_alt1 h5 h0 hr
  exact ⟨Nat.lt_succ_self _, ha, by omega, CR_fw (CR_close g1 (Nat.sub_lt hd (by decide))), rfl, rfl, g2.symm, h9⟩
theorem KJ_bar0 (h : KJ TP tp le dp NL SO RO o a pa PE PF PL NF z) (ha : a < tp) (hc : TP a = 124) (h0 : SO dp = 0) (hr : RO dp = q + 1) : SJ TP tp le dp NL (va_up SO dp (q + 1)) (va_up RO dp 0) o (a + 1) pa PE PF PL NF (acc 124 z).2 := by
  obtain ⟨h1, h2, h3, h4, h5, h6, h7, h8⟩ := h
  have he := acc_bar h3
  have h9 := prs_go ha (by rw [hc]; exact he) h6
  rw [he]
  rw [jn_e] at h5 h9 ⊢
  subst h4
  obtain ⟨g1, g2⟩ := CR_alt0 h5 h0 hr
  have g3 := CR_row (x := 0) (CR_sum (x := q + 1) h5 g2) (Nat.zero_le _)
  refine ⟨ha, by omega, rfl, ?_, h9, fun q => absurd q (by show ¬ (false = true); decide)⟩
  have e : sN PE PF PL (q + 1) = nd PE PF PL q := rfl
  rw [e, g1] at g3
  exact g3
theorem KJ_bar1 (h : KJ TP tp le dp NL SO RO o a pa PE PF PL NF z) (ha : a < tp) (hc : TP a = 124) (h0 : SO dp = x + 1) (hr : RO dp = q + 1) : SJ TP tp le dp NL (va_up SO dp (pa + 1)) (va_up RO dp 0) o (a + 1) (pa + 1) (va_up PE pa (pe PE x || pe PE q).toNat) (va_up PF pa (PF x ||| PF q)) (va_up PL pa (PL x ||| PL q)) NF (acc 124 z).2 := by
  obtain ⟨h1, h2, h3, h4, h5, h6, h7, h8⟩ := h
  have he := acc_bar h3
  have h9 := prs_go ha (by rw [hc]; exact he) h6
  rw [he]
  rw [jn_e] at h5 h9 ⊢
  subst h4
  obtain ⟨g1, g2⟩ := CR_alt1 h5 h0 hr
  have g3 := CR_row (x := 0) (CR_sum (x := pa + 1) g1 (Nat.le_refl _)) (Nat.zero_le _)
  refine ⟨ha, by omega, rfl, ?_, h9, fun q => absurd q (by show ¬ (false = true); decide)⟩
  have e : sN (va_up PE pa (pe PE x || pe PE q).toNat) (va_up PF pa (PF x ||| PF q)) (va_up PL pa (PL x ||| PL q)) (pa + 1) = nd (va_up PE pa (pe PE x || pe PE q).toNat) (va_up PF pa (PF x ||| PF q)) (va_up PL pa (PL x ||| PL q)) pa := rfl
  rw [e, g2] at g3
  exact g3
theorem KJ_go (h : KJ TP tp le dp NL SO RO o a pa PE PF PL NF z) (ha : a < tp) (h1 : TP a ≠ 41) (h2 : TP a ≠ 124) : SJ TP tp le dp NL SO RO o a pa PE PF PL NF z := by
  obtain ⟨g1, g2, g3, g4, g5, g6, g7, g8⟩ := h
  have := g8 ha
  exact ⟨g1, g2, g4, g5, g6, fun _ => ⟨ha, by omega⟩⟩
theorem KJ_end (h : KJ TP tp le dp NL SO RO o a pa PE PF PL NF z) (ha : ¬ a < tp) (hd : 0 < dp) : o.1 = a + 1 := by
  obtain ⟨h1, h2, h3, h4, h5, h6, h7, h8⟩ := h
  have e : a = tp := by omega
  subst e
  rw [Nat.sub_self, prs, if_neg (fun q => by rw [h4] at q; omega)] at h6
  rw [← h6]
theorem KJ_41 (h : KJ TP tp le dp NL SO RO o a pa PE PF PL NF z) (ha : a < tp) (hc : TP a = 41) (hd : dp = 0) : o.1 = a + 1 := by
  obtain ⟨h1, h2, h3, h4, h5, h6, h7, h8⟩ := h
  have he : (acc 41 z).1 = false := by
    rw [acc_nr (by decide)]
    obtain ⟨fw, d, F, S, Rw, FO, SP, n⟩ := z
    have h4 : d = dp := h4
    show (acc2 41 fw (false, d, F, S, _, _, SP, n)).1 = _
    rw [acc2, if_neg (by decide), if_pos rfl, if_neg (by omega)]
  rw [prs_s ha, hc, if_neg (by rw [he]; decide)] at h6
  rw [← h6]
theorem KJ_fin (h : KJ TP tp le dp NL SO RO o a pa PE PF PL NF z) (ha : a = tp) (hd : dp = 0) : o = (0, pen (jn z)) := by
  obtain ⟨h1, h2, h3, h4, h5, h6, h7, h8⟩ := h
  subst ha
  rw [Nat.sub_self, prs, if_pos ⟨h3, by rw [h4]; exact hd⟩] at h6
  exact h6.symm
theorem KJ_cr (h : KJ TP tp le dp NL SO RO o a pa PE PF PL NF z) : le ≤ 8 ∧ dp ≤ 8 ∧ SO dp ≤ pa ∧ RO dp ≤ pa ∧ (∀ j, j < pa → PE j ≤ 1) := by
  obtain ⟨h1, h2, h3, h4, h5, h6, h7, h8⟩ := h
  rw [jn_e] at h5
  subst h4
  have g := h5.2.2.1 z.2.1 (Nat.le_refl _)
  exact ⟨h5.1.2.2, h5.1.2.1, g.1, g.2.1, fun j hj => (h5.2.1 j hj).1⟩
theorem RJ_cr (h : RJ TP tp le dp NL SO RO o a pa q PE PF PL NF z) : le ≤ 8 ∧ dp ≤ 8 ∧ SO dp ≤ pa ∧ RO dp ≤ pa ∧ (∀ j, j < pa → PE j ≤ 1) ∧ (∀ j, j < pa → PL j < 512) := by
  obtain ⟨h1, h2, h3, h4, h5, h6, h7, h8⟩ := h
  obtain ⟨fw, d, F, S, Rw, FO, SP, n⟩ := z
  have h6 : d = dp := h6
  subst h6
  have g := h4.2.2.1 d (Nat.le_refl _)
  exact ⟨h4.1.2.2, h4.1.2.1, g.1, g.2.1, fun j hj => (h4.2.1 j hj).1, fun j hj => Nat.lt_of_lt_of_le (h4.2.1 j hj).2.2 (Nat.le_trans (Nat.pow_le_pow_right (by decide) h4.1.2.2) (by decide))⟩
/-- what the sum leaves when the whole text is right -/
def FJ (o : Nat × Nat × PZ) (le pa rr : Nat) (PE PF PL NF NL : Nat → Nat) : Prop := ∃ zz SO RO, o = (0, pen zz) ∧ CR le pa PE PF PL NF NL SO RO zz ∧ rr < pa ∧ nd PE PF PL rr = alt (zz.2.2.2.1 0) (zz.2.2.2.2.1 0)
theorem KJ_fin0 (h : KJ TP tp le dp NL SO RO o a pa PE PF PL NF z) (ha : a = tp) (hd : dp = 0) (h0 : SO 0 = 0) (hr : RO 0 = q + 1) : FJ o le pa q PE PF PL NF NL := by
  have e := KJ_fin h ha hd
  obtain ⟨h1, h2, h3, h4, h5, h6, h7, h8⟩ := h
  subst hd
  rw [jn_e, h4] at h5
  obtain ⟨g1, g2⟩ := CR_alt0 h5 h0 hr
  exact ⟨jn z, SO, RO, e, by rw [jn_e, h4]; exact h5, g2, by rw [jn_e]; exact g1⟩
theorem KJ_fin1 (h : KJ TP tp le dp NL SO RO o a pa PE PF PL NF z) (ha : a = tp) (hd : dp = 0) (h0 : SO 0 = x + 1) (hr : RO 0 = q + 1) : FJ o le (pa + 1) pa (va_up PE pa (pe PE x || pe PE q).toNat) (va_up PF pa (PF x ||| PF q)) (va_up PL pa (PL x ||| PL q)) NF NL := by
  have e := KJ_fin h ha hd
  obtain ⟨h1, h2, h3, h4, h5, h6, h7, h8⟩ := h
  subst hd
  rw [jn_e, h4] at h5
  obtain ⟨g1, g2⟩ := CR_alt1 h5 h0 hr
  exact ⟨jn z, SO, RO, e, by rw [jn_e, h4]; exact g1, Nat.lt_succ_self _, by rw [jn_e]; exact g2⟩
end SJS
abbrev US : Type := Nat × Nat × Nat × Nat × Nat × (Nat → Nat) × (Nat → Nat) × (Nat → Nat) × (Nat → Nat) × (Nat → Nat) × (Nat → Nat) × (Nat → Nat)
def SE (tp : Nat) (o : Nat × Nat × PZ) (r : Int32) : US → Prop
  | (a, wr, _, pa, le, PE, PF, PL, NL, NF, _, _) => ∃ rr, r = nI rr ∧ a ≤ tp ∧ wr ≤ tp + 1 ∧ pa ≤ 2 * tp + 1 ∧ (wr ≠ 0 → o.1 = wr) ∧ (wr = 0 → a < tp → o.1 = a + 1) ∧ (wr = 0 → a = tp → FJ o le pa rr PE PF PL NF NL)
