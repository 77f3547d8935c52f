/-! THE SEARCH: the word that leads to a pair -/
/-- how many letters lead to the pair at (fuel r) -/
def wl (OG : Nat → Nat) : Nat → Nat → Nat
  | 0, _ => 0
  | r + 1, x => if x = 0 then 0 else 1 + wl OG r (OG x / 4)
theorem wl_0 (OG : Nat → Nat) (r : Nat) : wl OG r 0 = 0 := by cases r <;> simp [wl]
theorem wl_le {OG : Nat → Nat} {z : Nat} (hO : ∀ j, 0 < j → j < z → OG j / 4 < j) : ∀ r x, x < z → wl OG r x ≤ x := by
  intro r
  induction r with
  | zero => intro x _; exact Nat.zero_le _
  | succ r ih =>
    intro x hx
    rw [wl]
    split
    · omega
    · have h1 := hO x (by omega) hx
      have h2 := ih (OG x / 4) (by omega)
      omega
/-- the letters, from the last one back -/
def wf (OG : Nat → Nat) : Nat → Nat → (Nat → Nat) → Nat → Nat
  | 0, _, L => L
  | i + 1, x, L => wf OG i (OG x / 4) (va_up L i (OG x % 4))
set_option maxHeartbeats 4000000 in
set_option maxRecDepth 100000 in
/-- spellWay(end, word) -/
theorem ok_Se_spellWay (l : Launch) (D : va_G) (k : Nat → ClassId) (sz : Nat) (se sn fi sc og : Nat) (SN FI SC OG : Nat → Nat) (z cp : Nat) (wo wl1 : Nat) (L : Nat → Nat) (y cw : Nat) (e0 : Nat) (he0 : e0 < z) (hz : z ≤ cp) (hcp : cp < 2 ^ 18) (hcw : cw < 2 ^ 20) (hO : ∀ j, 0 < j → j < z → OG j / 4 < j) (hO2 : ∀ j, j < z → OG j < 2 ^ 20) (h00 : OG 0 = 0) : Met l y_Se_spellWay (.code y_Se_spellWay c_Se_spellWay 6 none :: wsU) ({ frames := 1, cells := 1, slots := (wl OG z e0), locals := 21 } : Room) (kPre D k [.ref se, .int (nI e0), .ref wo] [(se, .inr (4, [.ref sn, .ref fi, .ref sc, .ref og, .int (nI z)])), (sn, .inl (k 1, 1024, .inr (.inl (aL SN)))), (fi, .inl (k 0, cp, .inl (aN FI))), (sc, .inl (k 0, cp, .inl (aN SC))), (og, .inl (k 0, cp, .inl (aN OG))), (wo, .inr (6, [.ref wl1, .int (nI y)])), (wl1, .inl (k 0, cw, .inl (aN L)))] sz) (va_Qv (fun (_ : Nat) => True) (kB D k (fun u : Nat => [(se, .inr (4, [.ref sn, .ref fi, .ref sc, .ref og, .int (nI z)])), (sn, .inl (k 1, 1024, .inr (.inl (aL SN)))), (fi, .inl (k 0, cp, .inl (aN FI))), (sc, .inl (k 0, cp, .inl (aN SC))), (og, .inl (k 0, cp, .inl (aN OG))), (wo, .inr (6, [.ref u, .int (nI (wl OG z e0))])), (u, .inl (k 0, (if wl OG z e0 ≤ cw then cw else wl OG z e0), .inl (aN (wf OG (wl OG z e0) e0 (if wl OG z e0 ≤ cw then L else fun _ => 0)))))]) (va_A [(se, .inr (4, [.ref sn, .ref fi, .ref sc, .ref og, .int (nI z)])), (sn, .inl (k 1, 1024, .inr (.inl (aL SN)))), (fi, .inl (k 0, cp, .inl (aN FI))), (sc, .inl (k 0, cp, .inl (aN SC))), (og, .inl (k 0, cp, .inl (aN OG))), (wo, .inr (6, [.ref wl1, .int (nI y)])), (wl1, .inl (k 0, cw, .inl (aN L)))] sz)) (va_A [(se, .inr (4, [.ref sn, .ref fi, .ref sc, .ref og, .int (nI z)])), (sn, .inl (k 1, 1024, .inr (.inl (aL SN)))), (fi, .inl (k 0, cp, .inl (aN FI))), (sc, .inl (k 0, cp, .inl (aN SC))), (og, .inl (k 0, cp, .inl (aN OG))), (wo, .inr (6, [.ref wl1, .int (nI y)])), (wl1, .inl (k 0, cw, .inl (aN L)))] sz)) 1 (wl OG z e0) (va_A [(se, .inr (4, [.ref sn, .ref fi, .ref sc, .ref og, .int (nI z)])), (sn, .inl (k 1, 1024, .inr (.inl (aL SN)))), (fi, .inl (k 0, cp, .inl (aN FI))), (sc, .inl (k 0, cp, .inl (aN SC))), (og, .inl (k 0, cp, .inl (aN OG))), (wo, .inr (6, [.ref wl1, .int (nI y)])), (wl1, .inl (k 0, cw, .inl (aN L)))] sz) := by
  refine kMet (by decide) (Nat.le_of_ble_eq_true rfl) ?_
  intro p e s m below meth c ls hX hml hr hlocks hin hsz hW hl Q hQ
  generalize hAe : va_A [(se, .inr (4, [.ref sn, .ref fi, .ref sc, .ref og, .int (nI z)])), (sn, .inl (k 1, 1024, .inr (.inl (aL SN)))), (fi, .inl (k 0, cp, .inl (aN FI))), (sc, .inl (k 0, cp, .inl (aN SC))), (og, .inl (k 0, cp, .inl (aN OG))), (wo, .inr (6, [.ref wl1, .int (nI y)])), (wl1, .inl (k 0, cw, .inl (aN L)))] sz = A at hW hQ
  generalize hH0 : s.heap = H at hW ⊢
  generalize hl0 : ([] : List Loc) = locs at hW ⊢
  have hX : FX p s m c [.ref se, .int (nI e0), .ref wo].toArray c_Se_spellWay R_Se := hX
  have hl : lv_has ls 6 [(0, .ref se), (1, .int (nI e0)), (2, .ref wo)] := hl
  have hwl := wl_le hO z e0 he0
  obtain ⟨nn, hnn⟩ : ∃ nn, wl OG z e0 = nn := ⟨_, rfl⟩
  rw [hnn] at hQ hwl ⊢
  have k35 : ∀ (x : Nat) (H : Heap) (locs : List Loc) (ls : Array Slot), KW D k A s [(se, .inr (4, [.ref sn, .ref fi, .ref sc, .ref og, .int (nI z)])), (sn, .inl (k 1, 1024, .inr (.inl (aL SN)))), (fi, .inl (k 0, cp, .inl (aN FI))), (sc, .inl (k 0, cp, .inl (aN SC))), (og, .inl (k 0, cp, .inl (aN OG))), (wo, .inr (6, [.ref wl1, .int (nI y)])), (wl1, .inl (k 0, cw, .inl (aN L)))] H locs → lv_has ls 6 [(4, .int (nI x)), (3, .int (nI nn)), (2, .ref wo), (1, .int (nI e0)), (0, .ref se)] → W p l e ({ frames := 1, cells := 1, slots := nn, locals := 21 } : Room) s m [.ref se, .int (nI e0), .ref wo].toArray below meth c H locs 0 0 Q (F0 m 35 ls []) := by
    intro x H locs ls hW hl
    refine lv_aload_n hX.1 hX.2.1 d_Se_spellWay_35 rfl (lv_at hl 2 rfl) ?_
    refine lv_iload_n hX.1 hX.2.1 d_Se_spellWay_36 rfl (lv_at hl 1 rfl) ?_
    refine kCv (wc := [(wo, .inr (6, [.ref wl1, .int (nI y)])), (wl1, .inl (k 0, cw, .inl (aN L)))]) hW [5, 6] (by rfl) (by intro _; rfl) (kRunV (n := 1) (As := [.int (nI nn)]) (rest := []) hX hml hW (ok_Wo_resize l D k H.size wo wl1 L y cw nn (by omega) hcw) m_Se_58 im_Wo_resize se_Wo_resize in_Wo cd_Wo_resize [5, 6] rfl rfl rfl rfl (by decide +kernel) ⟨rfl, rfl, Nat.le_of_ble_eq_true rfl, Nat.le_of_ble_eq_true rfl⟩ rfl hl.1 rfl (Nat.le_of_ble_eq_true rfl) d_Se_spellWay_37 ⟨by first | exact Nat.zero_le _ | decide | omega | (dsimp only; omega), by first | exact Nat.zero_le _ | decide | omega | (dsimp only; omega)⟩) (fun u H locs _ hW => ?_)
    have hW : KW D k A s [(se, .inr (4, [.ref sn, .ref fi, .ref sc, .ref og, .int (nI z)])), (sn, .inl (k 1, 1024, .inr (.inl (aL SN)))), (fi, .inl (k 0, cp, .inl (aN FI))), (sc, .inl (k 0, cp, .inl (aN SC))), (og, .inl (k 0, cp, .inl (aN OG))), (wo, .inr (6, [.ref u, .int (nI nn)])), (u, .inl (k 0, (if nn ≤ cw then cw else nn), .inl (aN (if nn ≤ cw then L else fun _ => 0))))] H locs := hW
    refine W.widen (k := 1) (n := nn) (by omega) (by omega) ?_
    have hc2 : nn ≤ (if nn ≤ cw then cw else nn) := by split <;> omega
    have hc3 : (if nn ≤ cw then cw else nn) < 2 ^ 20 := by split <;> omega
    generalize hL0 : (if nn ≤ cw then L else fun _ => 0) = L0 at hW hQ
    generalize hC0 : (if nn ≤ cw then cw else nn) = c0 at hW hQ hc2 hc3
    obtain ⟨o, ho⟩ : ∃ o, wf OG nn e0 L0 = o := ⟨_, rfl⟩
    rw [ho] at hQ
    refine lv_iload_n hX.1 hX.2.1 d_Se_spellWay_40 rfl (lv_at hl 3 rfl) ?_
    refine lv_istore (lv' := [(4, .int (nI e0)), (3, .int (nI nn)), (2, .ref wo), (1, .int (nI e0)), (0, .ref se)]) hX.1 hX.2.1 d_Se_spellWay_41 hl (by decide) rfl (fun ls hl => ?_)
    refine lv_iload_n hX.1 hX.2.1 d_Se_spellWay_43 rfl (lv_at hl 1 rfl) ?_
    refine lv_iconst (v := nI 1) hX.1 hX.2.1 d_Se_spellWay_44 (by decide) ?_
    refine lv_isub hX.1 hX.2.1 d_Se_spellWay_45 ?_
    refine tpi (y := nM nn) (rfl) ?_
    refine lv_istore (lv' := [(5, .int (nM nn)), (4, .int (nI e0)), (3, .int (nI nn)), (2, .ref wo), (1, .int (nI e0)), (0, .ref se)]) hX.1 hX.2.1 d_Se_spellWay_46 hl (by decide) rfl (fun ls hl => ?_)
    have lq : ∀ (fu : Nat) (j0 : Nat) (x1 : Nat) (L1 : Nat → Nat) (H : Heap) (locs : List Loc) (ls : Array Slot), (j0 ≤ nn) → (j0 < fu) → (wf OG j0 x1 L1 = o) → (x1 < z) →  KW D k A s [(se, .inr (4, [.ref sn, .ref fi, .ref sc, .ref og, .int (nI z)])), (sn, .inl (k 1, 1024, .inr (.inl (aL SN)))), (fi, .inl (k 0, cp, .inl (aN FI))), (sc, .inl (k 0, cp, .inl (aN SC))), (og, .inl (k 0, cp, .inl (aN OG))), (wo, .inr (6, [.ref u, .int (nI nn)])), (u, .inl (k 0, c0, .inl (aN L1)))] H locs → lv_has ls 6 [(5, .int (nM j0)), (4, .int (nI x1)), (3, .int (nI nn)), (2, .ref wo), (1, .int (nI e0)), (0, .ref se)] → W p l e ({ frames := 1, cells := 1, slots := nn, locals := 21 } : Room) s m [.ref se, .int (nI e0), .ref wo].toArray below meth c H locs 1 nn Q (F0 m 48 ls []) := by
      intro fu
      induction fu with
      | zero => intro j0 x1 L1 H locs ls lq1 lq2 hw hx1 hW hl; exfalso; omega
      | succ fu ih =>
        intro j0 x1 L1 H locs ls lq1 lq2 hw hx1 hW hl
        refine lv_iload hX.1 hX.2.1 d_Se_spellWay_48 (lv_at hl 0 rfl) ?_
        refine kltM hX (tgt := 86) (by omega) d_Se_spellWay_50 (by decide) (fun h2 => ?_) (fun h2 => ?_)
        · subst h2
          rw [wf] at hw
          subst hw
          exact kvret hX hr hlocks hQ u (hW) (trivial) d_Se_spellWay_86
        · obtain ⟨j, rfl⟩ : ∃ j, j0 = j + 1 := ⟨j0 - 1, by omega⟩
          rw [nM_s] at hl
          rw [wf] at hw
          have hdec : OG x1 / 4 < z := by rcases Nat.eq_zero_or_pos x1 with q | q; (subst q; rw [h00]; omega); (have := hO x1 q hx1; omega)
          refine lv_aload_n hX.1 hX.2.1 d_Se_spellWay_53 rfl (lv_at hl 3 rfl) ?_
          refine kget hX hW i_Wo 5 rfl rfl 0 (by decide) f_Se_79 rfl rfl d_Se_spellWay_54 ?_
          refine lv_iload hX.1 hX.2.1 d_Se_spellWay_57 (lv_at hl 0 rfl) ?_
          refine lv_aload_n hX.1 hX.2.1 d_Se_spellWay_59 rfl (lv_at hl 5 rfl) ?_
          refine kget hX hW i_Se 0 rfl rfl 3 (by decide) f_Se_22 rfl rfl d_Se_spellWay_60 ?_
          refine lv_iload hX.1 hX.2.1 d_Se_spellWay_63 (lv_at hl 1 rfl) ?_
          refine kiald hX hW 4 rfl (by omega) (by first | decide | omega) d_Se_spellWay_65 ?_
          refine lv_iconst (v := nI 4) hX.1 hX.2.1 d_Se_spellWay_66 (by decide) ?_
          refine lv_irem hX.1 hX.2.1 d_Se_spellWay_67 (by decide) ?_
          refine tpi (y := nI (OG x1 % 4)) (pk_rem (by have := hO2 x1 (by omega); omega) (by decide) (by decide)) ?_
          refine kiast hX hW 6 rfl (by omega) (by first | decide | omega) d_Se_spellWay_68 (fun H locs hW => ?_)
          have hW : KW D k A s [(se, .inr (4, [.ref sn, .ref fi, .ref sc, .ref og, .int (nI z)])), (sn, .inl (k 1, 1024, .inr (.inl (aL SN)))), (fi, .inl (k 0, cp, .inl (aN FI))), (sc, .inl (k 0, cp, .inl (aN SC))), (og, .inl (k 0, cp, .inl (aN OG))), (wo, .inr (6, [.ref u, .int (nI nn)])), (u, .inl (k 0, c0, .inl (aN (va_up L1 j (OG x1 % 4)))))] H locs := hW
          refine lv_aload_n hX.1 hX.2.1 d_Se_spellWay_69 rfl (lv_at hl 5 rfl) ?_
          refine kget hX hW i_Se 0 rfl rfl 3 (by decide) f_Se_22 rfl rfl d_Se_spellWay_70 ?_
          refine lv_iload hX.1 hX.2.1 d_Se_spellWay_73 (lv_at hl 1 rfl) ?_
          refine kiald hX hW 4 rfl (by omega) (by first | decide | omega) d_Se_spellWay_75 ?_
          refine lv_iconst (v := nI 4) hX.1 hX.2.1 d_Se_spellWay_76 (by decide) ?_
          refine lv_idiv hX.1 hX.2.1 d_Se_spellWay_77 (by decide) ?_
          refine tpi (y := nI (OG x1 / 4)) (pk_div (by have := hO2 x1 (by omega); omega) (by decide) (by decide)) ?_
          refine lv_istore (lv' := [(4, .int (nI (OG x1 / 4))), (5, .int (nI j)), (3, .int (nI nn)), (2, .ref wo), (1, .int (nI e0)), (0, .ref se)]) hX.1 hX.2.1 d_Se_spellWay_78 hl (by decide) rfl (fun ls hl => ?_)
          refine lv_iinc (v := nM j) (lv' := [(5, .int (nM j)), (4, .int (nI (OG x1 / 4))), (3, .int (nI nn)), (2, .ref wo), (1, .int (nI e0)), (0, .ref se)]) hX.1 hX.2.1 d_Se_spellWay_80 hl (k := 1) rfl (kn_dec j) (by decide) rfl (fun ls hl => ?_)
          refine lv_goto (tgt := 48) hX.1 hX.2.1 d_Se_spellWay_83 (by decide) ?_
          exact ih j _ _ H locs ls (by omega) (by omega) hw hdec (hW) (lv_sub hl [0, 1, 2, 3, 4, 5] rfl)
    exact lq (nn + 1) nn e0 L0 H locs ls (by omega) (by omega) ho he0 (hW) (lv_sub hl [0, 1, 2, 3, 4, 5] rfl)
  refine lv_iconst (v := nI 0) hX.1 hX.2.1 d_Se_spellWay_0 (by decide) ?_
  refine lv_istore_n (lv' := [(3, .int (nI 0)), (0, .ref se), (1, .int (nI e0)), (2, .ref wo)]) hX.1 hX.2.1 d_Se_spellWay_1 rfl hl (by decide) rfl (fun ls hl => ?_)
  refine lv_iload_n hX.1 hX.2.1 d_Se_spellWay_2 rfl (lv_at hl 2 rfl) ?_
  refine lv_istore (lv' := [(4, .int (nI e0)), (3, .int (nI 0)), (0, .ref se), (1, .int (nI e0)), (2, .ref wo)]) hX.1 hX.2.1 d_Se_spellWay_3 hl (by decide) rfl (fun ls hl => ?_)
  have lp : ∀ (fu : Nat) (ln : Nat) (r : Nat) (x : Nat) (H : Heap) (locs : List Loc) (ls : Array Slot), (x ≤ r) → (x < fu) → (x < z) → (ln + wl OG r x = nn) → (ln + x ≤ e0) →  KW D k A s [(se, .inr (4, [.ref sn, .ref fi, .ref sc, .ref og, .int (nI z)])), (sn, .inl (k 1, 1024, .inr (.inl (aL SN)))), (fi, .inl (k 0, cp, .inl (aN FI))), (sc, .inl (k 0, cp, .inl (aN SC))), (og, .inl (k 0, cp, .inl (aN OG))), (wo, .inr (6, [.ref wl1, .int (nI y)])), (wl1, .inl (k 0, cw, .inl (aN L)))] H locs → lv_has ls 6 [(4, .int (nI x)), (3, .int (nI ln)), (2, .ref wo), (1, .int (nI e0)), (0, .ref se)] → W p l e ({ frames := 1, cells := 1, slots := nn, locals := 21 } : Room) s m [.ref se, .int (nI e0), .ref wo].toArray below meth c H locs 0 0 Q (F0 m 5 ls []) := by
    intro fu
    induction fu with
    | zero => intro ln r x H locs ls lp1 lp2 hx hw hlx hW hl; exfalso; omega
    | succ fu ih =>
      intro ln r x H locs ls lp1 lp2 hx hw hlx hW hl
      refine lv_iload hX.1 hX.2.1 d_Se_spellWay_5 (lv_at hl 0 rfl) ?_
      refine kleN hX (tgt := 35) (by omega) d_Se_spellWay_7 (by decide) (fun h1 => ?_) (fun h1 => ?_)
      · subst h1
        rw [wl_0] at hw
        have e1 : ln = nn := by omega
        subst e1
        exact k35 0 H locs ls hW hl
      · refine lv_iload_n hX.1 hX.2.1 d_Se_spellWay_10 rfl (lv_at hl 1 rfl) ?_
        refine lv_aload_n hX.1 hX.2.1 d_Se_spellWay_11 rfl (lv_at hl 4 rfl) ?_
        refine kget hX hW i_Se 0 rfl rfl 4 (by decide) f_Se_25 rfl rfl d_Se_spellWay_12 ?_
        refine kge hX (tgt := 35) (by omega) (by omega) d_Se_spellWay_15 (by decide) (fun h2 => ?_) (fun h2 => ?_)
        · omega
        · obtain ⟨r1, rfl⟩ : ∃ r1, r = r1 + 1 := ⟨r - 1, by omega⟩
          rw [wl, if_neg (by omega)] at hw
          have hd := hO x h1 hx
          refine lv_iinc (v := nI (ln + 1)) (lv' := [(3, .int (nI (ln + 1))), (4, .int (nI x)), (2, .ref wo), (1, .int (nI e0)), (0, .ref se)]) hX.1 hX.2.1 d_Se_spellWay_18 hl (k := 1) rfl (kn_inc _) (by decide) rfl (fun ls hl => ?_)
          refine lv_aload_n hX.1 hX.2.1 d_Se_spellWay_21 rfl (lv_at hl 4 rfl) ?_
          refine kget hX hW i_Se 0 rfl rfl 3 (by decide) f_Se_22 rfl rfl d_Se_spellWay_22 ?_
          refine lv_iload hX.1 hX.2.1 d_Se_spellWay_25 (lv_at hl 1 rfl) ?_
          refine kiald hX hW 4 rfl (by omega) (by first | decide | omega) d_Se_spellWay_27 ?_
          refine lv_iconst (v := nI 4) hX.1 hX.2.1 d_Se_spellWay_28 (by decide) ?_
          refine lv_idiv hX.1 hX.2.1 d_Se_spellWay_29 (by decide) ?_
          refine tpi (y := nI (OG x / 4)) (pk_div (by have := hO2 x (by omega); omega) (by decide) (by decide)) ?_
          refine lv_istore (lv' := [(4, .int (nI (OG x / 4))), (3, .int (nI (ln + 1))), (2, .ref wo), (1, .int (nI e0)), (0, .ref se)]) hX.1 hX.2.1 d_Se_spellWay_30 hl (by decide) rfl (fun ls hl => ?_)
          refine lv_goto (tgt := 5) hX.1 hX.2.1 d_Se_spellWay_32 (by decide) ?_
          exact ih (ln + 1) r1 _ H locs ls (by omega) (by omega) (by omega) (by omega) (by omega) (hW) (lv_sub hl [0, 1, 2, 3, 4] rfl)
  exact lp (e0 + 1) 0 z e0 H locs ls (by omega) (by omega) he0 (by rw [Nat.zero_add]; exact hnn) (by omega) (hW) (lv_sub hl [0, 1, 4, 3, 2] rfl)
