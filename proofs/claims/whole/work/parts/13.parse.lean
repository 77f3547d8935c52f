/-! THE PARSER: the whole text -/
theorem or256 {a b : Nat} (ha : a < 256) (hb : b < 256) : a ||| b < 256 := Nat.or_lt_two_pow (n := 8) ha hb
theorem lnk_lt {FO : Nat → Nat} {x y : Nat} (hF : ∀ p, FO p < 256) (hy : y < 256) : ∀ p q, lnk FO x y p q < 256 := by
  intro p
  induction p with
  | zero => exact hF
  | succ p ih =>
    intro q
    rw [lnk]
    split
    · by_cases h : q = p
      · subst h; rw [va_up_self]; exact or256 (ih q) hy
      · rw [va_up_ne _ _ h]; exact ih q
    · exact ih q
/-- masks of eight bits, at most eight letters and eight brackets -/
def PI : PZ → Prop
  | (_, dp, F, S, Rw, FO, _, n) => dp ≤ 8 ∧ n ≤ 8 ∧ F.1 < 256 ∧ F.2.1 < 256 ∧ (∀ i, i ≤ dp → (S i).1 < 256 ∧ (S i).2.1 < 256 ∧ (Rw i).1 < 256 ∧ (Rw i).2.1 < 256) ∧ ∀ p, FO p < 256
theorem beh_lt {a b : PT} (h1 : a.1 < 256) (h2 : a.2.1 < 256) (h3 : b.1 < 256) (h4 : b.2.1 < 256) : (beh a b).1 < 256 ∧ (beh a b).2.1 < 256 := by
  unfold beh
  refine ⟨?_, ?_⟩
  · show (if a.2.2 then a.1 ||| b.1 else a.1) < 256
    split
    · exact or256 h1 h3
    · exact h1
  · show (if b.2.2 then a.2.1 ||| b.2.1 else b.2.1) < 256
    split
    · exact or256 h2 h4
    · exact h4
theorem alt_lt {a b : PT} (h1 : a.1 < 256) (h2 : a.2.1 < 256) (h3 : b.1 < 256) (h4 : b.2.1 < 256) : (alt a b).1 < 256 ∧ (alt a b).2.1 < 256 := ⟨or256 h1 h3, or256 h2 h4⟩
theorem PI_jn {z : PZ} (h : PI z) : PI (jn z) := by
  obtain ⟨fw, dp, F, S, Rw, FO, SP, n⟩ := z
  obtain ⟨h1, h2, h3, h4, h5, h6⟩ := h
  cases fw with
  | false => exact ⟨h1, h2, h3, h4, h5, h6⟩
  | true =>
    refine ⟨h1, h2, h3, h4, fun i hi => ?_, lnk_lt h6 h3 9⟩
    obtain ⟨a, b, c, d⟩ := h5 i hi
    refine ⟨a, b, ?_⟩
    show (va_up Rw dp (beh (Rw dp) F) i).1 < 256 ∧ (va_up Rw dp (beh (Rw dp) F) i).2.1 < 256
    by_cases hd : i = dp
    · subst hd; rw [va_up_self]; exact beh_lt c d h3 h4
    · rw [va_up_ne _ _ hd]; exact ⟨c, d⟩
theorem PI_acc2 {sg : Nat} {bf : Bool} {z : PZ} (h : PI z) : PI (acc2 sg bf z).2 := by
  obtain ⟨fw, dp, F, S, Rw, FO, SP, n⟩ := z
  have h0 := h
  obtain ⟨h1, h2, h3, h4, h5, h6⟩ := h
  obtain ⟨s1, s2, s3, s4⟩ := h5 dp (Nat.le_refl _)
  have row : ∀ (x y : PT), x.1 < 256 → x.2.1 < 256 → y.1 < 256 → y.2.1 < 256 → ∀ i, i ≤ dp → (va_up S dp x i).1 < 256 ∧ (va_up S dp x i).2.1 < 256 ∧ (va_up Rw dp y i).1 < 256 ∧ (va_up Rw dp y i).2.1 < 256 := by
    intro x y a b c d i hi
    by_cases hd : i = dp
    · subst hd; rw [va_up_self, va_up_self]; exact ⟨a, b, c, d⟩
    · rw [va_up_ne _ _ hd, va_up_ne _ _ hd]; exact h5 i hi
  have ha := alt_lt s1 s2 s3 s4
  rw [acc2]
  by_cases c1 : sg = 40
  · rw [if_pos c1]
    split
    · rename_i hd
      refine ⟨hd, h2, h3, h4, fun i hi => ?_, h6⟩
      show (va_up S (dp + 1) (0, 0, false) i).1 < 256 ∧ (va_up S (dp + 1) (0, 0, false) i).2.1 < 256 ∧ (va_up Rw (dp + 1) (0, 0, true) i).1 < 256 ∧ (va_up Rw (dp + 1) (0, 0, true) i).2.1 < 256
      by_cases hd : i = dp + 1
      · subst hd; rw [va_up_self, va_up_self]; exact ⟨by decide, by decide, by decide, by decide⟩
      · rw [va_up_ne _ _ hd, va_up_ne _ _ hd]; exact h5 i (by have : i ≤ dp + 1 := hi; omega)
    · exact h0
  · rw [if_neg c1]
    by_cases c2 : sg = 41
    · rw [if_pos c2]
      split
      · refine ⟨by show dp - 1 ≤ 8; omega, h2, ha.1, ha.2, fun i hi => ?_, h6⟩
        exact row _ _ ha.1 ha.2 (by decide) (by decide) i (by have : i ≤ dp - 1 := hi; omega)
      · exact h0
    · rw [if_neg c2]
      split
      · exact ⟨h1, h2, by show (0 : Nat) < 256; decide, by show (0 : Nat) < 256; decide, h5, h6⟩
      · split
        · split
          · rename_i hn
            have : 2 ^ n < 256 := by
              have := Nat.pow_lt_pow_right (a := 2) (by decide) hn
              omega
            exact ⟨h1, hn, this, this, h5, h6⟩
          · exact h0
        · split
          · exact ⟨h1, h2, h3, h4, row _ _ ha.1 ha.2 (by decide) (by decide), h6⟩
          · exact h0
theorem PI_acc {sg : Nat} {z : PZ} (h : PI z) : PI (acc sg z).2 := by
  obtain ⟨fw, dp, F, S, Rw, FO, SP, n⟩ := z
  rw [acc]
  split
  · cases fw with
    | false => exact h
    | true =>
      obtain ⟨h1, h2, h3, h4, h5, h6⟩ := h
      refine ⟨h1, h2, h3, h4, h5, fun p => ?_⟩
      show (if sg = 63 then FO else lnk FO F.2.1 F.1 9) p < 256
      split
      · exact h6 p
      · exact lnk_lt h6 h3 9 p
  · exact PI_acc2 (PI_jn h)
/-- the right end of a text: the last row ends, the whole is set -/
def pen : PZ → Nat × PZ
  | (fw, dp, F, S, Rw, FO, SP, n) => (if (alt (S 0) (Rw 0)).2.2 then (alt (S 0) (Rw 0)).2.1 ||| 256 else (alt (S 0) (Rw 0)).2.1, (fw, dp, F, va_up S 0 (alt (S 0) (Rw 0)), va_up Rw 0 (0, 0, true), va_up FO 8 (alt (S 0) (Rw 0)).1, SP, n))
/-- r bytes are left, from byte i on: 0 and the expression, or one more than the place where it is wrong -/
def prs (B : Nat → Nat) (len : Nat) : Nat → Nat → PZ → Nat × Nat × PZ
  | 0, _, z => if z.1 = true ∧ z.2.1 = 0 then (0, pen (jn z)) else (len + 1, 0, jn z)
  | r + 1, i, z => if (acc (B i) z).1 then prs B len r (i + 1) (acc (B i) z).2 else (i + 1, 0, (acc (B i) z).2)
def pz0 (F : PT) (S Rw : Nat → PT) : PZ := (false, 0, F, va_up S 0 (0, 0, false), va_up Rw 0 (0, 0, true), fun _ => 0, fun _ => 0, 0)
theorem PI_0 {F : PT} {S Rw : Nat → PT} (h1 : F.1 < 256) (h2 : F.2.1 < 256) : PI (pz0 F S Rw) := by
  refine ⟨by decide, by decide, h1, h2, fun i hi => ?_, fun _ => by show (0 : Nat) < 256; decide⟩
  have h0 : i = 0 := by have : i ≤ 0 := hi; omega
  subst h0
  rw [va_up_self, va_up_self]
  exact ⟨by decide, by decide, by decide, by decide⟩
set_option maxHeartbeats 4000000 in
set_option maxRecDepth 100000 in
/-- parse(text, length, target) -/
theorem ok_Pr_parse (l : Launch) (D : va_G) (k : Nat → ClassId) (sz : Nat) (pr sa ra fc : Nat) (sq rq : Nat → Nat) (fw : Bool) (dp : Nat) (F : PT) (S Rw : Nat → PT) (h f g : Nat) (FO SP : Nat → Nat) (en n : Nat) (tb : Nat) (B : Nat → Nat) (len : Nat) (hlen : len ≤ 80) (hB : ∀ i, i < 80 → B i < 256) (hF1 : F.1 < 256) (hF2 : F.2.1 < 256) : Met l y_Pr_parse (.code y_Pr_parse c_Pr_parse 5 (some .int) :: wsU) ({ frames := 5, cells := 0, slots := 0, locals := 108 } : Room) (kPre D k [.ref pr, .ref tb, .int (nI len), .ref h] (prW k pr sa ra fc sq rq fw dp F S Rw ((h, .inr (0, [.ref f, .ref g, .int (nI en), .int (nI n)])) :: (f, .inl (k 0, 9, .inl (aN FO))) :: (g, .inl (k 0, 4, .inl (aN SP))) :: [(tb, .inl (k 0, 80, .inl (aN B)))])) sz) (va_Qi (fun (r : Int32) (_ : Unit) => r = nM (prs B len len 0 (pz0 F S Rw)).1) (kB D k (fun _ : Unit => pzW k pr sa ra fc sq rq h f g (prs B len len 0 (pz0 F S Rw)).2.1 (prs B len len 0 (pz0 F S Rw)).2.2 [(tb, .inl (k 0, 80, .inl (aN B)))]) (va_A (prW k pr sa ra fc sq rq fw dp F S Rw ((h, .inr (0, [.ref f, .ref g, .int (nI en), .int (nI n)])) :: (f, .inl (k 0, 9, .inl (aN FO))) :: (g, .inl (k 0, 4, .inl (aN SP))) :: [(tb, .inl (k 0, 80, .inl (aN B)))])) sz)) (va_A (prW k pr sa ra fc sq rq fw dp F S Rw ((h, .inr (0, [.ref f, .ref g, .int (nI en), .int (nI n)])) :: (f, .inl (k 0, 9, .inl (aN FO))) :: (g, .inl (k 0, 4, .inl (aN SP))) :: [(tb, .inl (k 0, 80, .inl (aN B)))])) sz)) 0 0 (va_A (prW k pr sa ra fc sq rq fw dp F S Rw ((h, .inr (0, [.ref f, .ref g, .int (nI en), .int (nI n)])) :: (f, .inl (k 0, 9, .inl (aN FO))) :: (g, .inl (k 0, 4, .inl (aN SP))) :: [(tb, .inl (k 0, 80, .inl (aN B)))])) sz) := by
  refine kMet (by decide) (Nat.le_of_ble_eq_true rfl) ?_
  intro p e s m below meth c ls hX hml hr hlocks hin hsz hW hl Q hQ
  generalize hAe : va_A (prW k pr sa ra fc sq rq fw dp F S Rw ((h, .inr (0, [.ref f, .ref g, .int (nI en), .int (nI n)])) :: (f, .inl (k 0, 9, .inl (aN FO))) :: (g, .inl (k 0, 4, .inl (aN SP))) :: [(tb, .inl (k 0, 80, .inl (aN B)))])) sz = A at hW hQ
  generalize hH0 : s.heap = H at hW ⊢
  generalize hl0 : ([] : List Loc) = locs at hW ⊢
  have hX : FX p s m c [.ref pr, .ref tb, .int (nI len), .ref h].toArray c_Pr_parse R_Pr := hX
  have hl : lv_has ls 5 [(0, .ref pr), (1, .ref tb), (2, .int (nI len)), (3, .ref h)] := hl
  obtain ⟨o, ho⟩ : ∃ o, prs B len len 0 (pz0 F S Rw) = o := ⟨_, rfl⟩
  rw [ho] at hQ
  refine lv_aload_n hX.1 hX.2.1 d_Pr_parse_0 rfl (lv_at hl 3 rfl) ?_
  refine kCv (wc := [(h, .inr (0, [.ref f, .ref g, .int (nI en), .int (nI n)])), (f, .inl (k 0, 9, .inl (aN FO))), (g, .inl (k 0, 4, .inl (aN SP)))]) hW [22 + 0, 22 + 1, 22 + 2] (by simp only [List.map_cons, List.map_nil]; rw [prW_y 0, prW_y 1, prW_y 2]; rfl) (by intro _; rfl) (kRunV (n := 0) (As := []) (rest := []) hX hml hW (ok_Ex_clear l D k H.size h f g FO SP en n) m_Pr_33 im_Ex_clear se_Ex_clear in_Ex cd_Ex_clear [22 + 0, 22 + 1, 22 + 2] (by rfl) (by simp only [List.map_cons, List.map_nil]; rw [prW_y 0, prW_y 1, prW_y 2]; rfl) rfl rfl (by decide +kernel) ⟨rfl, rfl, by decide, by decide⟩ rfl hl.1 rfl (by decide) d_Pr_parse_1 ⟨by decide, by decide⟩) (fun u H locs _ hW => ?_)
  simp only [setAll] at hW
  rw [prW_setY 0, prW_setY 1, prW_setY 2] at hW
  have hW : KW D k A s (prW k pr sa ra fc sq rq fw dp F S Rw ((h, .inr (0, [.ref f, .ref g, .int (nI 0), .int (nI 0)])) :: (f, .inl (k 0, 9, .inl (aN (fun _ => 0)))) :: (g, .inl (k 0, 4, .inl (aN (fun _ => 0)))) :: [(tb, .inl (k 0, 80, .inl (aN B)))])) H locs := hW
  refine lv_aload_n hX.1 hX.2.1 d_Pr_parse_4 rfl (lv_at hl 0 rfl) ?_
  refine lv_iconst (v := nI 0) hX.1 hX.2.1 d_Pr_parse_5 (by decide) ?_
  refine kput hX hW i_Pr t_Pr t_Pr_ok n_Pr 0 rfl rfl 4 (by decide) f_Pr_29 rfl rfl (rfl) (rfl) (Nat.le_of_ble_eq_true rfl) d_Pr_parse_6 (fun H locs hW => ?_)
  have hW : KW D k A s (prW k pr sa ra fc sq rq fw 0 F S Rw ((h, .inr (0, [.ref f, .ref g, .int (nI 0), .int (nI 0)])) :: (f, .inl (k 0, 9, .inl (aN (fun _ => 0)))) :: (g, .inl (k 0, 4, .inl (aN (fun _ => 0)))) :: [(tb, .inl (k 0, 80, .inl (aN B)))])) H locs := hW
  refine lv_aload_n hX.1 hX.2.1 d_Pr_parse_9 rfl (lv_at hl 0 rfl) ?_
  refine lv_iconst (v := nI 0) hX.1 hX.2.1 d_Pr_parse_10 (by decide) ?_
  refine kput hX hW i_Pr t_Pr t_Pr_ok n_Pr 0 rfl rfl 3 (by decide) f_Pr_25 rfl rfl (rfl) (rfl) (Nat.le_of_ble_eq_true rfl) d_Pr_parse_11 (fun H locs hW => ?_)
  have hW : KW D k A s (prW k pr sa ra fc sq rq false 0 F S Rw ((h, .inr (0, [.ref f, .ref g, .int (nI 0), .int (nI 0)])) :: (f, .inl (k 0, 9, .inl (aN (fun _ => 0)))) :: (g, .inl (k 0, 4, .inl (aN (fun _ => 0)))) :: [(tb, .inl (k 0, 80, .inl (aN B)))])) H locs := hW
  refine lv_aload_n hX.1 hX.2.1 d_Pr_parse_14 rfl (lv_at hl 0 rfl) ?_
  refine kWv hW (kRunW (n := 0) (As := []) (rest := []) hX hml hW (ok_Pr_beginSum l D k H.size pr sa ra fc sq rq false 0 F S Rw ((h, .inr (0, [.ref f, .ref g, .int (nI 0), .int (nI 0)])) :: (f, .inl (k 0, 9, .inl (aN (fun _ => 0)))) :: (g, .inl (k 0, 4, .inl (aN (fun _ => 0)))) :: [(tb, .inl (k 0, 80, .inl (aN B)))]) (by decide)) m_Pr_38 im_Pr_beginSum se_Pr_beginSum in_Pr cd_Pr_beginSum 0 rfl rfl (by decide +kernel) ⟨rfl, rfl, by decide, by decide⟩ rfl hl.1 rfl (by decide) d_Pr_parse_15 ⟨by decide, by decide⟩) (fun u H locs _ hW => ?_)
  refine lv_iconst (v := nI 0) hX.1 hX.2.1 d_Pr_parse_18 (by decide) ?_
  refine lv_istore (lv' := [(4, .int (nI 0)), (0, .ref pr), (1, .ref tb), (2, .int (nI len)), (3, .ref h)]) hX.1 hX.2.1 d_Pr_parse_19 hl (by decide) rfl (fun ls hl => ?_)
  have hW : KW D k A s (pzW k pr sa ra fc sq rq h f g 0 (pz0 F S Rw) [(tb, .inl (k 0, 80, .inl (aN B)))]) H locs := hW
  have lp : ∀ (fu : Nat) (i : Nat) (z : PZ) (H : Heap) (locs : List Loc) (ls : Array Slot), i ≤ len → len < i + fu → prs B len (len - i) i z = o → PI z →  KW D k A s (pzW k pr sa ra fc sq rq h f g 0 z [(tb, .inl (k 0, 80, .inl (aN B)))]) H locs → lv_has ls 5 [(4, .int (nI i)), (3, .ref h), (2, .int (nI len)), (1, .ref tb), (0, .ref pr)] → W p l e ({ frames := 5, cells := 0, slots := 0, locals := 108 } : Room) s m [.ref pr, .ref tb, .int (nI len), .ref h].toArray below meth c H locs 0 0 Q (F0 m 21 ls []) := by
    intro fu
    induction fu with
    | zero => intro i z H locs ls lp1 lp2 hz hI hW hl; exfalso; omega
    | succ fu ih =>
      intro i z H locs ls lp1 lp2 hz hI hW hl
      obtain ⟨fw, dp, F, S, Rw, FO, SP, n⟩ := z
      obtain ⟨i1, i2, i3, i4, i5, i6⟩ := id hI
      have hW : KW D k A s (prW k pr sa ra fc sq rq fw dp F S Rw ((h, .inr (0, [.ref f, .ref g, .int (nI 0), .int (nI n)])) :: (f, .inl (k 0, 9, .inl (aN FO))) :: (g, .inl (k 0, 4, .inl (aN SP))) :: [(tb, .inl (k 0, 80, .inl (aN B)))])) H locs := hW
      refine lv_iload hX.1 hX.2.1 d_Pr_parse_21 (lv_at hl 0 rfl) ?_
      refine lv_iload_n hX.1 hX.2.1 d_Pr_parse_23 rfl (lv_at hl 2 rfl) ?_
      refine kge hX (tgt := 48) (by omega) (by omega) d_Pr_parse_24 (by decide) (fun h1 => ?_) (fun h1 => ?_)
      · have e1 : len = i := by omega
        subst e1
        rw [Nat.sub_self, prs] at hz
        refine lv_aload_n hX.1 hX.2.1 d_Pr_parse_48 rfl (lv_at hl 4 rfl) ?_
        refine lv_aload_n hX.1 hX.2.1 d_Pr_parse_49 rfl (lv_at hl 1 rfl) ?_
        refine kWi hW (kRunW (n := 1) (As := [.ref h]) (rest := []) hX hml hW (ok_Pr_joinFactor l D k H.size pr sa ra fc sq rq fw dp F S Rw h f g FO SP 0 n [(tb, .inl (k 0, 80, .inl (aN B)))] i1 (by have := (i5 dp (Nat.le_refl _)).2.2.2; omega)) m_Pr_45 im_Pr_joinFactor se_Pr_joinFactor in_Pr cd_Pr_joinFactor 0 rfl rfl (by decide +kernel) ⟨rfl, rfl, by decide, by decide⟩ rfl hl.1 rfl (by decide) d_Pr_parse_50 ⟨by decide, by decide⟩) (fun r u H locs hr1 hW => ?_)
        subst hr1
        have hW : KW D k A s (prW k pr sa ra fc sq rq false dp F S (if fw then va_up Rw dp (beh (Rw dp) F) else Rw) ((h, .inr (0, [.ref f, .ref g, .int (nI 0), .int (nI n)])) :: (f, .inl (k 0, 9, .inl (aN (if fw then lnk FO (Rw dp).2.1 F.1 9 else FO)))) :: (g, .inl (k 0, 4, .inl (aN SP))) :: [(tb, .inl (k 0, 80, .inl (aN B)))])) H locs := hW
        have k63 : ¬ (fw = true ∧ dp = 0) → W p l e ({ frames := 5, cells := 0, slots := 0, locals := 108 } : Room) s m [.ref pr, .ref tb, .int (nI len), .ref h].toArray below meth c H locs 0 0 Q (F0 m 63 ls []) := by
          intro hs
          rw [if_neg hs] at hz
          refine lv_iload_n hX.1 hX.2.1 d_Pr_parse_63 rfl (lv_at hl 2 rfl) ?_
          subst hz
          exact kiret hX hr hlocks hQ () (hW) ((nM_s _).symm) d_Pr_parse_64
        refine kz hX (tgt := 63) (bT _) d_Pr_parse_53 (by decide) (fun h2 => ?_) (fun h2 => ?_)
        · exact k63 (by rw [bT_0 h2]; simp)
        · refine lv_aload_n hX.1 hX.2.1 d_Pr_parse_56 rfl (lv_at hl 4 rfl) ?_
          refine kget hX hW i_Pr 0 rfl rfl 4 (by decide) f_Pr_29 rfl rfl d_Pr_parse_57 ?_
          refine kleN hX (tgt := 65) (by omega) d_Pr_parse_60 (by decide) (fun h3 => ?_) (fun h3 => ?_)
          · have hfw := bT_1 h2
            subst hfw
            subst h3
            rw [if_pos ⟨rfl, rfl⟩, jn, pen] at hz
            have hW : KW D k A s (prW k pr sa ra fc sq rq false 0 F S (va_up Rw 0 (beh (Rw 0) F)) ((h, .inr (0, [.ref f, .ref g, .int (nI 0), .int (nI n)])) :: (f, .inl (k 0, 9, .inl (aN (lnk FO (Rw 0).2.1 F.1 9)))) :: (g, .inl (k 0, 4, .inl (aN SP))) :: [(tb, .inl (k 0, 80, .inl (aN B)))])) H locs := hW
            simp only [if_true] at hz
            generalize va_up Rw 0 (beh (Rw 0) F) = R1 at hW hz
            generalize lnk FO (Rw 0).2.1 F.1 9 = F1 at hW hz
            refine lv_aload_n hX.1 hX.2.1 d_Pr_parse_65 rfl (lv_at hl 4 rfl) ?_
            refine kWv hW (kRunW (n := 0) (As := []) (rest := []) hX hml hW (ok_Pr_endRow l D k H.size pr sa ra fc sq rq false 0 F S R1 ((h, .inr (0, [.ref f, .ref g, .int (nI 0), .int (nI n)])) :: (f, .inl (k 0, 9, .inl (aN F1))) :: (g, .inl (k 0, 4, .inl (aN SP))) :: [(tb, .inl (k 0, 80, .inl (aN B)))]) (by decide)) m_Pr_49 im_Pr_endRow se_Pr_endRow in_Pr cd_Pr_endRow 0 rfl rfl (by decide +kernel) ⟨rfl, rfl, by decide, by decide⟩ rfl hl.1 rfl (by decide) d_Pr_parse_66 ⟨by decide, by decide⟩) (fun u H locs _ hW => ?_)
            have hW : KW D k A s (prW k pr sa ra fc sq rq false 0 F (va_up S 0 (alt (S 0) (R1 0))) (va_up R1 0 (0, 0, true)) ((h, .inr (0, [.ref f, .ref g, .int (nI 0), .int (nI n)])) :: (f, .inl (k 0, 9, .inl (aN F1))) :: (g, .inl (k 0, 4, .inl (aN SP))) :: [(tb, .inl (k 0, 80, .inl (aN B)))])) H locs := hW
            obtain ⟨q, hq⟩ : ∃ q, alt (S 0) (R1 0) = q := ⟨_, rfl⟩
            rw [hq] at hW hz
            refine lv_aload_n hX.1 hX.2.1 d_Pr_parse_69 rfl (lv_at hl 1 rfl) ?_
            refine lv_aload_n hX.1 hX.2.1 d_Pr_parse_70 rfl (lv_at hl 4 rfl) ?_
            refine kget hX hW i_Pr 0 rfl rfl 0 (by decide) f_Pr_11 rfl rfl d_Pr_parse_71 ?_
            refine lv_iconst (v := nI 0) hX.1 hX.2.1 d_Pr_parse_74 (by decide) ?_
            refine kaald (b := sq 0) hX hW 1 4 rfl rfl (by omega) (by decide) rfl d_Pr_parse_75 ?_
            refine kCv (wc := [(h, .inr (0, [.ref f, .ref g, .int (nI 0), .int (nI n)])), (f, .inl (k 0, 9, .inl (aN F1))), (g, .inl (k 0, 4, .inl (aN SP))), (sq 0, .inr (3, [.int (nI q.1), .int (nI q.2.1), .int (nI q.2.2.toNat)]))]) hW [22 + 0, 22 + 1, 22 + 2, 4 + 0] (by simp only [List.map_cons, List.map_nil]; rw [prW_y 0, prW_y 1, prW_y 2, prW_s (by decide), va_up_self]; rfl) (by intro _; rfl) (kRunV (n := 1) (As := [.ref (sq 0)]) (rest := []) hX hml hW (ok_Ex_setWhole l D k H.size h f g F1 SP 0 n (sq 0) q.1 q.2.1 q.2.2) m_Pr_52 im_Ex_setWhole se_Ex_setWhole in_Ex cd_Ex_setWhole [22 + 0, 22 + 1, 22 + 2, 4 + 0] (by rfl) (by simp only [List.map_cons, List.map_nil]; rw [prW_y 0, prW_y 1, prW_y 2, prW_s (by decide), va_up_self]; rfl) rfl rfl (by decide +kernel) ⟨rfl, rfl, by decide, by decide⟩ rfl hl.1 rfl (by decide) d_Pr_parse_76 ⟨by decide, by decide⟩) (fun u H locs _ hW => ?_)
            simp only [setAll] at hW
            rw [prW_setY 0, prW_setY 1, prW_setY 2] at hW
            have e8 : ∀ (Y : va_W), (prW k pr sa ra fc sq rq false 0 F (va_up S 0 q) (va_up R1 0 (0, 0, true)) Y).set (4 + 0) (sq 0, .inr (3, [.int (nI q.1), .int (nI q.2.1), .int (nI q.2.2.toNat)])) = prW k pr sa ra fc sq rq false 0 F (va_up S 0 q) (va_up R1 0 (0, 0, true)) Y := by
              intro Y
              refine (prW_setS (d := 0) (by decide) q).trans ?_
              have := va_up_id (va_up S 0 q) 0
              rw [va_up_self] at this
              rw [this]
            rw [e8] at hW
            refine lv_iconst (v := (-1)) hX.1 hX.2.1 d_Pr_parse_79 (by decide) ?_
            subst hz
            exact kiret hX hr hlocks hQ () (hW) (nM_0.symm) d_Pr_parse_80
          · exact k63 (by omega)
      · rw [show len - i = (len - (i + 1)) + 1 by omega, prs] at hz
        refine lv_aload_n hX.1 hX.2.1 d_Pr_parse_27 rfl (lv_at hl 4 rfl) ?_
        refine lv_aload_n hX.1 hX.2.1 d_Pr_parse_28 rfl (lv_at hl 3 rfl) ?_
        refine lv_iload hX.1 hX.2.1 d_Pr_parse_29 (lv_at hl 0 rfl) ?_
        refine kiald hX hW (22 + 3) (prW_y 3) (by omega) (by decide) d_Pr_parse_31 ?_
        refine lv_aload_n hX.1 hX.2.1 d_Pr_parse_32 rfl (lv_at hl 1 rfl) ?_
        refine kWi hW (kRunW (n := 2) (As := [.int (nI (B i)), .ref h]) (rest := []) hX hml hW (ok_Pr_accept l D k H.size pr sa ra fc sq rq fw dp F S Rw h f g FO SP 0 n [(tb, .inl (k 0, 80, .inl (aN B)))] (B i) (hB i (by omega)) i1 i2 (by have := (i5 dp (Nat.le_refl _)).2.2.2; omega) (by omega)) m_Pr_41 im_Pr_accept se_Pr_accept in_Pr cd_Pr_accept 0 rfl rfl (by decide +kernel) ⟨rfl, rfl, by decide, by decide⟩ rfl hl.1 rfl (by decide) d_Pr_parse_33 ⟨by decide, by decide⟩) (fun r u H locs hr1 hW => ?_)
        subst hr1
        have hI2 := PI_acc (sg := B i) hI
        generalize acc (B i) (fw, dp, F, S, Rw, FO, SP, n) = ao at hW hz hI2 ⊢
        obtain ⟨ab, az⟩ := ao
        have hW : KW D k A s (pzW k pr sa ra fc sq rq h f g 0 az [(tb, .inl (k 0, 80, .inl (aN B)))]) H locs := hW
        refine knz hX (tgt := 42) (bT _) d_Pr_parse_36 (by decide) (fun h2 => ?_) (fun h2 => ?_)
        · rw [if_pos (bT_1 h2)] at hz
          refine lv_iinc (v := nI (i + 1)) (lv' := [(4, .int (nI (i + 1))), (3, .ref h), (2, .int (nI len)), (1, .ref tb), (0, .ref pr)]) hX.1 hX.2.1 d_Pr_parse_42 hl (k := 0) rfl (kn_inc _) (by decide) rfl (fun ls hl => ?_)
          refine lv_goto (tgt := 21) hX.1 hX.2.1 d_Pr_parse_45 (by decide) ?_
          exact ih (i + 1) az H locs ls (by omega) (by omega) hz hI2 (hW) (lv_sub hl [0, 1, 2, 3, 4] rfl)
        · have h2b : ab = false := bT_0 h2
          subst h2b
          rw [if_neg (by simp)] at hz
          refine lv_iload hX.1 hX.2.1 d_Pr_parse_39 (lv_at hl 0 rfl) ?_
          subst hz
          exact kiret hX hr hlocks hQ () (hW) ((nM_s _).symm) d_Pr_parse_41
  exact lp (len + 1) 0 (pz0 F S Rw) H locs ls (by omega) (by omega) (by rw [Nat.sub_zero]; exact ho) (PI_0 hF1 hF2) (hW) (lv_sub hl [0, 4, 3, 2, 1] rfl)
