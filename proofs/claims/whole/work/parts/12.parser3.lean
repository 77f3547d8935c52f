/-! THE PARSER: one byte, the whole text -/
abbrev PZ : Type := Bool × Nat × PT × (Nat → PT) × (Nat → PT) × (Nat → Nat) × (Nat → Nat) × Nat
/-- the waiting factor joins its row -/
def jn : PZ → PZ
  | (fw, dp, F, S, Rw, FO, SP, n) => (false, dp, F, S, if fw then va_up Rw dp (beh (Rw dp) F) else Rw, if fw then lnk FO (Rw dp).2.1 F.1 9 else FO, SP, n)
def acc2 (sg : Nat) (bf : Bool) : PZ → Bool × PZ
  | (fw, dp, F, S, Rw, FO, SP, n) =>
    if sg = 40 then (if dp < 8 then (true, (fw, dp + 1, F, va_up S (dp + 1) (0, 0, false), va_up Rw (dp + 1) (0, 0, true), FO, SP, n)) else (false, (fw, dp, F, S, Rw, FO, SP, n)))
    else if sg = 41 then (if bf = true ∧ 0 < dp then (true, (true, dp - 1, alt (S dp) (Rw dp), va_up S dp (alt (S dp) (Rw dp)), va_up Rw dp (0, 0, true), FO, SP, n)) else (false, (fw, dp, F, S, Rw, FO, SP, n)))
    else if sg = 48 ∨ sg = 49 then (true, (true, dp, (0, 0, decide (sg = 49)), S, Rw, FO, SP, n))
    else if 97 ≤ sg ∧ sg ≤ 100 then (if n < 8 then (true, (true, dp, (2 ^ n, 2 ^ n, false), S, Rw, FO, va_up SP (sg - 97) (SP (sg - 97) ||| 2 ^ n), n + 1)) else (false, (fw, dp, F, S, Rw, FO, SP, n)))
    else if sg = 124 then (bf, (fw, dp, F, va_up S dp (alt (S dp) (Rw dp)), va_up Rw dp (0, 0, true), FO, SP, n))
    else (false, (fw, dp, F, S, Rw, FO, SP, n))
/-- one byte: whether it may stand there, and what the parser holds then -/
def acc (sg : Nat) : PZ → Bool × PZ
  | (fw, dp, F, S, Rw, FO, SP, n) =>
    if sg = 42 ∨ sg = 43 ∨ sg = 63 then (fw, if fw then (true, dp, (F.1, F.2.1, F.2.2 || decide (sg ≠ 43)), S, Rw, if sg = 63 then FO else lnk FO F.2.1 F.1 9, SP, n) else (false, dp, F, S, Rw, FO, SP, n))
    else acc2 sg fw (jn (fw, dp, F, S, Rw, FO, SP, n))
def pzW (k : Nat → ClassId) (pr sa ra fc : Nat) (sq rq : Nat → Nat) (h f g en : Nat) (z : PZ) (Y : va_W) : va_W := prW k pr sa ra fc sq rq z.1 z.2.1 z.2.2.1 z.2.2.2.1 z.2.2.2.2.1 ((h, .inr (0, [.ref f, .ref g, .int (nI en), .int (nI z.2.2.2.2.2.2.2)])) :: (f, .inl (k 0, 9, .inl (aN z.2.2.2.2.2.1))) :: (g, .inl (k 0, 4, .inl (aN z.2.2.2.2.2.2.1))) :: Y)
theorem sw_acc {sg : Nat} (h : sg < 256) : Op.lookupswitch.offset (#[(40, 113), (41, 118), (48, 94), (49, 94), (97, 84), (98, 84), (99, 84), (100, 84), (124, 135)] : Array (Int × Int)).toList 141 (nI sg).toInt = (if sg = 40 then 113 else if sg = 41 then 118 else if sg = 48 ∨ sg = 49 then 94 else if 97 ≤ sg ∧ sg ≤ 100 then 84 else if sg = 124 then 135 else 141) := by
  have : ∀ x : Fin 256, Op.lookupswitch.offset (#[(40, 113), (41, 118), (48, 94), (49, 94), (97, 84), (98, 84), (99, 84), (100, 84), (124, 135)] : Array (Int × Int)).toList 141 (nI x.val).toInt = (if x.val = 40 then 113 else if x.val = 41 then 118 else if x.val = 48 ∨ x.val = 49 then 94 else if 97 ≤ x.val ∧ x.val ≤ 100 then 84 else if x.val = 124 then 135 else 141) := by decide +kernel
  exact this ⟨sg, h⟩
set_option maxHeartbeats 4000000 in
set_option maxRecDepth 100000 in
/-- accept(sign) -/
theorem ok_Pr_accept (l : Launch) (D : va_G) (k : Nat → ClassId) (sz : Nat) (pr sa ra fc : Nat) (sq rq : Nat → Nat) (fw : Bool) (dp : Nat) (F : PT) (S Rw : Nat → PT) (h f g : Nat) (FO SP : Nat → Nat) (en n : Nat) (Yr : va_W) (sg : Nat) (hsg : sg < 256) (hdp : dp ≤ 8) (hn : n ≤ 8) (hla : (Rw dp).2.1 < 512) (hF : F.2.1 < 512) : Met l y_Pr_accept (.code y_Pr_accept c_Pr_accept 4 (some .boolean) :: wsU) ({ frames := 4, cells := 0, slots := 0, locals := 85 } : Room) (kPre D k [.ref pr, .int (nI sg), .ref h] (prW k pr sa ra fc sq rq fw dp F S Rw ((h, .inr (0, [.ref f, .ref g, .int (nI en), .int (nI n)])) :: (f, .inl (k 0, 9, .inl (aN FO))) :: (g, .inl (k 0, 4, .inl (aN SP))) :: Yr)) sz) (va_Qi (fun (r : Int32) (_ : Unit) => r = nI (acc sg (fw, dp, F, S, Rw, FO, SP, n)).1.toNat) (kB D k (fun _ : Unit => pzW k pr sa ra fc sq rq h f g en (acc sg (fw, dp, F, S, Rw, FO, SP, n)).2 Yr) (va_A (prW k pr sa ra fc sq rq fw dp F S Rw ((h, .inr (0, [.ref f, .ref g, .int (nI en), .int (nI n)])) :: (f, .inl (k 0, 9, .inl (aN FO))) :: (g, .inl (k 0, 4, .inl (aN SP))) :: Yr)) sz)) (va_A (prW k pr sa ra fc sq rq fw dp F S Rw ((h, .inr (0, [.ref f, .ref g, .int (nI en), .int (nI n)])) :: (f, .inl (k 0, 9, .inl (aN FO))) :: (g, .inl (k 0, 4, .inl (aN SP))) :: Yr)) sz)) 0 0 (va_A (prW k pr sa ra fc sq rq fw dp F S Rw ((h, .inr (0, [.ref f, .ref g, .int (nI en), .int (nI n)])) :: (f, .inl (k 0, 9, .inl (aN FO))) :: (g, .inl (k 0, 4, .inl (aN SP))) :: Yr)) sz) := by
  refine kMet (by decide) (Nat.le_of_ble_eq_true rfl) ?_
  intro p e s m below meth c ls hX hml hr hlocks hin hsz hW hl Q hQ
  generalize hAe : va_A (prW k pr sa ra fc sq rq fw dp F S Rw ((h, .inr (0, [.ref f, .ref g, .int (nI en), .int (nI n)])) :: (f, .inl (k 0, 9, .inl (aN FO))) :: (g, .inl (k 0, 4, .inl (aN SP))) :: Yr)) sz = A at hW hQ
  generalize hH0 : s.heap = H at hW ⊢
  generalize hl0 : ([] : List Loc) = locs at hW ⊢
  have hX : FX p s m c [.ref pr, .int (nI sg), .ref h].toArray c_Pr_accept R_Pr := hX
  have hl : lv_has ls 4 [(0, .ref pr), (1, .int (nI sg)), (2, .ref h)] := hl
  obtain ⟨o, ho⟩ : ∃ o, acc sg (fw, dp, F, S, Rw, FO, SP, n) = o := ⟨_, rfl⟩
  rw [ho] at hQ
  have k18 : (sg = 42 ∨ sg = 43 ∨ sg = 63) → W p l e ({ frames := 4, cells := 0, slots := 0, locals := 85 } : Room) s m [.ref pr, .int (nI sg), .ref h].toArray below meth c H locs 0 0 Q (F0 m 18 ls []) := by
    intro hs
    refine lv_aload_n hX.1 hX.2.1 d_Pr_accept_18 rfl (lv_at hl 0 rfl) ?_
    refine lv_iload_n hX.1 hX.2.1 d_Pr_accept_19 rfl (lv_at hl 1 rfl) ?_
    refine lv_aload_n hX.1 hX.2.1 d_Pr_accept_20 rfl (lv_at hl 2 rfl) ?_
    cases fw with
    | false =>
      refine kWi hW (kRunW (n := 2) (As := [.int (nI sg), .ref h]) (rest := []) hX hml hW (ok_Pr_repF l D k H.size pr sa ra fc sq rq dp F S Rw h f g FO SP en n Yr sg) m_Pr_56 im_Pr_acceptRepeat se_Pr_acceptRepeat in_Pr cd_Pr_acceptRepeat 0 rfl rfl (by decide +kernel) ⟨rfl, rfl, by decide, by decide⟩ rfl hl.1 rfl (by decide) d_Pr_accept_21 ⟨by decide, by decide⟩) (fun r u H locs hr1 hW => ?_)
      subst hr1
      have ho2 : o = (false, (false, dp, F, S, Rw, FO, SP, n)) := by rw [← ho, acc, if_pos hs]; rfl
      subst ho2
      exact kzret hX hr hlocks hQ () (hW) (rfl) (Or.inl rfl) d_Pr_accept_24
    | true =>
      refine kWi hW (kRunW (n := 2) (As := [.int (nI sg), .ref h]) (rest := []) hX hml hW (ok_Pr_repT l D k H.size pr sa ra fc sq rq dp F S Rw h f g FO SP en n Yr sg hsg hF) m_Pr_56 im_Pr_acceptRepeat se_Pr_acceptRepeat in_Pr cd_Pr_acceptRepeat 0 rfl rfl (by decide +kernel) ⟨rfl, rfl, by decide, by decide⟩ rfl hl.1 rfl (by decide) d_Pr_accept_21 ⟨by decide, by decide⟩) (fun r u H locs hr1 hW => ?_)
      subst hr1
      have ho2 : o = (true, (true, dp, (F.1, F.2.1, F.2.2 || decide (sg ≠ 43)), S, Rw, if sg = 63 then FO else lnk FO F.2.1 F.1 9, SP, n)) := by rw [← ho, acc, if_pos hs]; rfl
      subst ho2
      exact kzret hX hr hlocks hQ () (hW) (rfl) (Or.inr rfl) d_Pr_accept_24
  have k25 : ¬ (sg = 42 ∨ sg = 43 ∨ sg = 63) → W p l e ({ frames := 4, cells := 0, slots := 0, locals := 85 } : Room) s m [.ref pr, .int (nI sg), .ref h].toArray below meth c H locs 0 0 Q (F0 m 25 ls []) := by
    intro hs
    rw [acc, if_neg hs, jn] at ho
    refine lv_aload_n hX.1 hX.2.1 d_Pr_accept_25 rfl (lv_at hl 0 rfl) ?_
    refine lv_aload_n hX.1 hX.2.1 d_Pr_accept_26 rfl (lv_at hl 2 rfl) ?_
    refine kWi hW (kRunW (n := 1) (As := [.ref h]) (rest := []) hX hml hW (ok_Pr_joinFactor l D k H.size pr sa ra fc sq rq fw dp F S Rw h f g FO SP en n Yr hdp hla) m_Pr_45 im_Pr_joinFactor se_Pr_joinFactor in_Pr cd_Pr_joinFactor 0 rfl rfl (by decide +kernel) ⟨rfl, rfl, by decide, by decide⟩ rfl hl.1 rfl (by decide) d_Pr_accept_27 ⟨by decide, by decide⟩) (fun r u H locs hr1 hW => ?_)
    subst hr1
    have hW : KW D k A s (prW k pr sa ra fc sq rq false dp F S (if fw then va_up Rw dp (beh (Rw dp) F) else Rw) ((h, .inr (0, [.ref f, .ref g, .int (nI en), .int (nI n)])) :: (f, .inl (k 0, 9, .inl (aN (if fw then lnk FO (Rw dp).2.1 F.1 9 else FO)))) :: (g, .inl (k 0, 4, .inl (aN SP))) :: Yr)) H locs := hW
    generalize hRe : (if fw then va_up Rw dp (beh (Rw dp) F) else Rw) = R1 at hW ho
    generalize hFe : (if fw then lnk FO (Rw dp).2.1 F.1 9 else FO) = F1 at hW ho
    refine lv_istore_n (lv' := [(3, .int (nI fw.toNat)), (0, .ref pr), (1, .int (nI sg)), (2, .ref h)]) hX.1 hX.2.1 d_Pr_accept_30 rfl hl (by decide) rfl (fun ls hl => ?_)
    refine lv_iload_n hX.1 hX.2.1 d_Pr_accept_31 rfl (lv_at hl 2 rfl) ?_
    by_cases c40 : sg = 40
    · refine lv_lookup (off := 113) (tgt := 145) hX.1 hX.2.1 d_Pr_accept_32 (by decide) (by rw [sw_acc hsg]; rw [if_pos c40]) (by decide) ?_
      refine lv_aload_n hX.1 hX.2.1 d_Pr_accept_145 rfl (lv_at hl 1 rfl) ?_
      rw [acc2, if_pos c40] at ho
      by_cases cd : dp < 8
      · rw [if_pos cd] at ho
        refine kWi hW (kRunW (n := 0) (As := []) (rest := []) hX hml hW (ok_Pr_openT l D k H.size pr sa ra fc sq rq false dp F S R1 ((h, .inr (0, [.ref f, .ref g, .int (nI en), .int (nI n)])) :: (f, .inl (k 0, 9, .inl (aN F1))) :: (g, .inl (k 0, 4, .inl (aN SP))) :: Yr) cd) m_Pr_66 im_Pr_acceptOpening se_Pr_acceptOpening in_Pr cd_Pr_acceptOpening 0 rfl rfl (by decide +kernel) ⟨rfl, rfl, by decide, by decide⟩ rfl hl.1 rfl (by decide) d_Pr_accept_146 ⟨by decide, by decide⟩) (fun r u H locs hr1 hW => ?_)
        subst hr1
        subst ho
        exact kzret hX hr hlocks hQ () (hW) (rfl) (Or.inr rfl) d_Pr_accept_149
      · rw [if_neg cd] at ho
        refine kWi hW (kRunW (n := 0) (As := []) (rest := []) hX hml hW (ok_Pr_openF l D k H.size pr sa ra fc sq rq false dp F S R1 ((h, .inr (0, [.ref f, .ref g, .int (nI en), .int (nI n)])) :: (f, .inl (k 0, 9, .inl (aN F1))) :: (g, .inl (k 0, 4, .inl (aN SP))) :: Yr) (by omega) hdp) m_Pr_66 im_Pr_acceptOpening se_Pr_acceptOpening in_Pr cd_Pr_acceptOpening 0 rfl rfl (by decide +kernel) ⟨rfl, rfl, by decide, by decide⟩ rfl hl.1 rfl (by decide) d_Pr_accept_146 ⟨by decide, by decide⟩) (fun r u H locs hr1 hW => ?_)
        subst hr1
        subst ho
        exact kzret hX hr hlocks hQ () (hW) (rfl) (Or.inl rfl) d_Pr_accept_149
    · by_cases c41 : sg = 41
      · refine lv_lookup (off := 118) (tgt := 150) hX.1 hX.2.1 d_Pr_accept_32 (by decide) (by rw [sw_acc hsg]; rw [if_neg c40, if_pos c41]) (by decide) ?_
        refine lv_iload_n hX.1 hX.2.1 d_Pr_accept_150 rfl (lv_at hl 0 rfl) ?_
        rw [acc2, if_neg c40, if_pos c41] at ho
        refine kz hX (tgt := 165) (bT _) d_Pr_accept_151 (by decide) (fun h1 => ?_) (fun h1 => ?_)
        · rw [if_neg (by rw [bT_0 h1]; simp)] at ho
          refine lv_iconst (v := nI 0) hX.1 hX.2.1 d_Pr_accept_165 (by decide) ?_
          subst ho
          exact kzret hX hr hlocks hQ () (hW) (rfl) (Or.inl rfl) d_Pr_accept_166
        · refine lv_aload_n hX.1 hX.2.1 d_Pr_accept_154 rfl (lv_at hl 1 rfl) ?_
          cases dp with
          | zero =>
            rw [if_neg (by simp)] at ho
            refine kWi hW (kRunW (n := 0) (As := []) (rest := []) hX hml hW (ok_Pr_closeF l D k H.size pr sa ra fc sq rq false F S R1 ((h, .inr (0, [.ref f, .ref g, .int (nI en), .int (nI n)])) :: (f, .inl (k 0, 9, .inl (aN F1))) :: (g, .inl (k 0, 4, .inl (aN SP))) :: Yr)) m_Pr_70 im_Pr_acceptClosing se_Pr_acceptClosing in_Pr cd_Pr_acceptClosing 0 rfl rfl (by decide +kernel) ⟨rfl, rfl, by decide, by decide⟩ rfl hl.1 rfl (by decide) d_Pr_accept_155 ⟨by decide, by decide⟩) (fun r u H locs hr1 hW => ?_)
            subst hr1
            refine kz hX (tgt := 165) (by decide) d_Pr_accept_158 (by decide) (fun h2 => ?_) (fun h2 => ?_)
            · refine lv_iconst (v := nI 0) hX.1 hX.2.1 d_Pr_accept_165 (by decide) ?_
              subst ho
              exact kzret hX hr hlocks hQ () (hW) (rfl) (Or.inl rfl) d_Pr_accept_166
            · exact absurd rfl h2
          | succ d =>
            rw [if_pos ⟨bT_1 h1, by omega⟩] at ho
            refine kWi hW (kRunW (n := 0) (As := []) (rest := []) hX hml hW (ok_Pr_closeT l D k H.size pr sa ra fc sq rq false d F S R1 ((h, .inr (0, [.ref f, .ref g, .int (nI en), .int (nI n)])) :: (f, .inl (k 0, 9, .inl (aN F1))) :: (g, .inl (k 0, 4, .inl (aN SP))) :: Yr) (by omega)) m_Pr_70 im_Pr_acceptClosing se_Pr_acceptClosing in_Pr cd_Pr_acceptClosing 0 rfl rfl (by decide +kernel) ⟨rfl, rfl, by decide, by decide⟩ rfl hl.1 rfl (by decide) d_Pr_accept_155 ⟨by decide, by decide⟩) (fun r u H locs hr1 hW => ?_)
            subst hr1
            refine kz hX (tgt := 165) (by decide) d_Pr_accept_158 (by decide) (fun h2 => ?_) (fun h2 => ?_)
            · exact absurd h2 (by decide)
            · refine lv_iconst (v := nI 1) hX.1 hX.2.1 d_Pr_accept_161 (by decide) ?_
              refine lv_goto (tgt := 166) hX.1 hX.2.1 d_Pr_accept_162 (by decide) ?_
              subst ho
              exact kzret hX hr hlocks hQ () (hW) (rfl) (Or.inr rfl) d_Pr_accept_166
      · by_cases c48 : sg = 48 ∨ sg = 49
        · refine lv_lookup (off := 94) (tgt := 126) hX.1 hX.2.1 d_Pr_accept_32 (by decide) (by rw [sw_acc hsg]; rw [if_neg c40, if_neg c41, if_pos c48]) (by decide) ?_
          rw [acc2, if_neg c40, if_neg c41, if_pos c48] at ho
          refine lv_aload_n hX.1 hX.2.1 d_Pr_accept_126 rfl (lv_at hl 1 rfl) ?_
          refine lv_iconst (v := nI 0) hX.1 hX.2.1 d_Pr_accept_127 (by decide) ?_
          refine lv_iconst (v := nI 0) hX.1 hX.2.1 d_Pr_accept_128 (by decide) ?_
          refine lv_iload_n hX.1 hX.2.1 d_Pr_accept_129 rfl (lv_at hl 2 rfl) ?_
          refine lv_bipush (v := nI 49) hX.1 hX.2.1 d_Pr_accept_130 (by decide) ?_
          have k140 : ∀ (v : Nat), v = (decide (sg = 49)).toNat → W p l e ({ frames := 4, cells := 0, slots := 0, locals := 85 } : Room) s m [.ref pr, .int (nI sg), .ref h].toArray below meth c H locs 0 0 Q (F0 m 140 ls [.int (nI v), .int (nI 0), .int (nI 0), .ref pr]) := by
            intro v hv
            subst hv
            refine kWv hW (kRunW (n := 3) (As := [.int (nI 0), .int (nI 0), .int (nI ((decide (sg = 49)).toNat))]) (rest := []) hX hml hW (ok_Pr_setFactor l D k H.size pr sa ra fc sq rq false dp F S R1 ((h, .inr (0, [.ref f, .ref g, .int (nI en), .int (nI n)])) :: (f, .inl (k 0, 9, .inl (aN F1))) :: (g, .inl (k 0, 4, .inl (aN SP))) :: Yr) 0 0 (decide (sg = 49))) m_Pr_62 im_Pr_setFactor se_Pr_setFactor in_Pr cd_Pr_setFactor 0 rfl rfl (by decide +kernel) ⟨rfl, rfl, by decide, by decide⟩ rfl hl.1 rfl (by decide) d_Pr_accept_140 ⟨by decide, by decide⟩) (fun u H locs _ hW => ?_)
            have hW : KW D k A s (prW k pr sa ra fc sq rq true dp (0, 0, decide (sg = 49)) S R1 ((h, .inr (0, [.ref f, .ref g, .int (nI en), .int (nI n)])) :: (f, .inl (k 0, 9, .inl (aN F1))) :: (g, .inl (k 0, 4, .inl (aN SP))) :: Yr)) H locs := hW
            refine lv_iconst (v := nI 1) hX.1 hX.2.1 d_Pr_accept_143 (by decide) ?_
            subst ho
            exact kzret hX hr hlocks hQ () (hW) (rfl) (Or.inr rfl) d_Pr_accept_144
          refine kne hX (tgt := 139) (by omega) (by omega) d_Pr_accept_132 (by decide) (fun h1 => ?_) (fun h1 => ?_)
          · refine lv_iconst (v := nI 0) hX.1 hX.2.1 d_Pr_accept_139 (by decide) ?_
            exact k140 _ (by simp [h1])
          · refine lv_iconst (v := nI 1) hX.1 hX.2.1 d_Pr_accept_135 (by decide) ?_
            refine lv_goto (tgt := 140) hX.1 hX.2.1 d_Pr_accept_136 (by decide) ?_
            exact k140 _ (by simp [h1])
        · by_cases c97 : 97 ≤ sg ∧ sg ≤ 100
          · refine lv_lookup (off := 84) (tgt := 116) hX.1 hX.2.1 d_Pr_accept_32 (by decide) (by rw [sw_acc hsg]; rw [if_neg c40, if_neg c41, if_neg c48, if_pos c97]) (by decide) ?_
            rw [acc2, if_neg c40, if_neg c41, if_neg c48, if_pos c97] at ho
            refine lv_aload_n hX.1 hX.2.1 d_Pr_accept_116 rfl (lv_at hl 1 rfl) ?_
            refine lv_iload_n hX.1 hX.2.1 d_Pr_accept_117 rfl (lv_at hl 2 rfl) ?_
            refine lv_bipush (v := nI 97) hX.1 hX.2.1 d_Pr_accept_118 (by decide) ?_
            refine lv_isub hX.1 hX.2.1 d_Pr_accept_120 ?_
            refine tpi (y := nI (sg - 97)) (pk_sub (by omega)) ?_
            refine lv_aload_n hX.1 hX.2.1 d_Pr_accept_121 rfl (lv_at hl 3 rfl) ?_
            by_cases cn : n < 8
            · rw [if_pos cn] at ho
              refine kWi hW (kRunW (n := 2) (As := [.int (nI (sg - 97)), .ref h]) (rest := []) hX hml hW (ok_Pr_letterT l D k H.size pr sa ra fc sq rq false dp F S R1 h f g F1 SP en n Yr (sg - 97) (by omega) cn) m_Pr_59 im_Pr_acceptLetter se_Pr_acceptLetter in_Pr cd_Pr_acceptLetter 0 rfl rfl (by decide +kernel) ⟨rfl, rfl, by decide, by decide⟩ rfl hl.1 rfl (by decide) d_Pr_accept_122 ⟨by decide, by decide⟩) (fun r u H locs hr1 hW => ?_)
              subst hr1
              subst ho
              exact kzret hX hr hlocks hQ () (hW) (rfl) (Or.inr rfl) d_Pr_accept_125
            · rw [if_neg cn] at ho
              refine kWi hW (kRunW (n := 2) (As := [.int (nI (sg - 97)), .ref h]) (rest := []) hX hml hW (ok_Pr_letterF l D k H.size pr sa ra fc sq rq false dp F S R1 h f g F1 SP en n Yr (sg - 97) (by omega) hn) m_Pr_59 im_Pr_acceptLetter se_Pr_acceptLetter in_Pr cd_Pr_acceptLetter 0 rfl rfl (by decide +kernel) ⟨rfl, rfl, by decide, by decide⟩ rfl hl.1 rfl (by decide) d_Pr_accept_122 ⟨by decide, by decide⟩) (fun r u H locs hr1 hW => ?_)
              subst hr1
              subst ho
              exact kzret hX hr hlocks hQ () (hW) (rfl) (Or.inl rfl) d_Pr_accept_125
          · by_cases c124 : sg = 124
            · refine lv_lookup (off := 135) (tgt := 167) hX.1 hX.2.1 d_Pr_accept_32 (by decide) (by rw [sw_acc hsg]; rw [if_neg c40, if_neg c41, if_neg c48, if_neg c97, if_pos c124]) (by decide) ?_
              rw [acc2, if_neg c40, if_neg c41, if_neg c48, if_neg c97, if_pos c124] at ho
              refine lv_aload_n hX.1 hX.2.1 d_Pr_accept_167 rfl (lv_at hl 1 rfl) ?_
              refine kWv hW (kRunW (n := 0) (As := []) (rest := []) hX hml hW (ok_Pr_endRow l D k H.size pr sa ra fc sq rq false dp F S R1 ((h, .inr (0, [.ref f, .ref g, .int (nI en), .int (nI n)])) :: (f, .inl (k 0, 9, .inl (aN F1))) :: (g, .inl (k 0, 4, .inl (aN SP))) :: Yr) hdp) m_Pr_49 im_Pr_endRow se_Pr_endRow in_Pr cd_Pr_endRow 0 rfl rfl (by decide +kernel) ⟨rfl, rfl, by decide, by decide⟩ rfl hl.1 rfl (by decide) d_Pr_accept_168 ⟨by decide, by decide⟩) (fun u H locs _ hW => ?_)
              have hW : KW D k A s (prW k pr sa ra fc sq rq false dp F (va_up S dp (alt (S dp) (R1 dp))) (va_up R1 dp (0, 0, true)) ((h, .inr (0, [.ref f, .ref g, .int (nI en), .int (nI n)])) :: (f, .inl (k 0, 9, .inl (aN F1))) :: (g, .inl (k 0, 4, .inl (aN SP))) :: Yr)) H locs := hW
              refine lv_iload_n hX.1 hX.2.1 d_Pr_accept_171 rfl (lv_at hl 0 rfl) ?_
              subst ho
              exact kzret hX hr hlocks hQ () (hW) (rfl) (bT_r _) d_Pr_accept_172
            · refine lv_lookup (off := 141) (tgt := 173) hX.1 hX.2.1 d_Pr_accept_32 (by decide) (by rw [sw_acc hsg]; rw [if_neg c40, if_neg c41, if_neg c48, if_neg c97, if_neg c124]) (by decide) ?_
              rw [acc2, if_neg c40, if_neg c41, if_neg c48, if_neg c97, if_neg c124] at ho
              refine lv_iconst (v := nI 0) hX.1 hX.2.1 d_Pr_accept_173 (by decide) ?_
              subst ho
              exact kzret hX hr hlocks hQ () (hW) (rfl) (Or.inl rfl) d_Pr_accept_174
  refine lv_iload_n hX.1 hX.2.1 d_Pr_accept_0 rfl (lv_at hl 1 rfl) ?_
  refine lv_bipush (v := nI 42) hX.1 hX.2.1 d_Pr_accept_1 (by decide) ?_
  refine keq hX (tgt := 18) (by omega) (by omega) d_Pr_accept_3 (by decide) (fun h1 => ?_) (fun h1 => ?_)
  · exact k18 (Or.inl h1)
  · refine lv_iload_n hX.1 hX.2.1 d_Pr_accept_6 rfl (lv_at hl 1 rfl) ?_
    refine lv_bipush (v := nI 43) hX.1 hX.2.1 d_Pr_accept_7 (by decide) ?_
    refine keq hX (tgt := 18) (by omega) (by omega) d_Pr_accept_9 (by decide) (fun h2 => ?_) (fun h2 => ?_)
    · exact k18 (Or.inr (Or.inl h2))
    · refine lv_iload_n hX.1 hX.2.1 d_Pr_accept_12 rfl (lv_at hl 1 rfl) ?_
      refine lv_bipush (v := nI 63) hX.1 hX.2.1 d_Pr_accept_13 (by decide) ?_
      refine kne hX (tgt := 25) (by omega) (by omega) d_Pr_accept_15 (by decide) (fun h3 => ?_) (fun h3 => ?_)
      · exact k25 (by omega)
      · exact k18 (Or.inr (Or.inr h3))
