/-! THE MACHINE: groups, tallies, building -/
theorem rfs_v (NX GR FN : Nat → Nat) : ∀ s j, j < s → (rfs NX GR FN s).2 j < (rfs NX GR FN s).1 := by
  intro s
  induction s with
  | zero => intro j h; omega
  | succ s ih =>
    intro j hj
    rw [rfs]
    by_cases c : flr NX GR s s 0 < s
    · rw [if_pos c]
      show va_up (rfs NX GR FN s).2 s ((rfs NX GR FN s).2 (flr NX GR s s 0)) j < (rfs NX GR FN s).1
      by_cases h : j = s
      · subst h; rw [va_up_self]; exact ih _ c
      · rw [va_up_ne _ _ h]; exact ih j (by omega)
    · rw [if_neg c]
      show va_up (rfs NX GR FN s).2 s (rfs NX GR FN s).1 j < (rfs NX GR FN s).1 + 1
      by_cases h : j = s
      · subst h; rw [va_up_self]; omega
      · rw [va_up_ne _ _ h]; have := ih j (by omega); omega
/-- r rounds of refinement, kn groups known -/
def grp (NX : Nat → Nat) (z : Nat) : Nat → Nat → (Nat → Nat) → (Nat → Nat) → Nat × (Nat → Nat) × (Nat → Nat)
  | 0, kn, GR, FN => (kn, GR, FN)
  | r + 1, kn, GR, FN => if (rfs NX GR FN z).1 = kn then (kn, cpz (rfs NX GR FN z).2 GR z, (rfs NX GR FN z).2) else grp NX z r (rfs NX GR FN z).1 (cpz (rfs NX GR FN z).2 GR z) (rfs NX GR FN z).2
theorem cpz_lt {NX GR FN : Nat → Nat} {z : Nat} (hz : z ≤ 257) (hG : ∀ x, x < 257 → GR x < 1000) : ∀ x, x < 257 → cpz (rfs NX GR FN z).2 GR z x < 1000 := by
  intro x hx
  unfold cpz
  split
  · rename_i h; have h1 := rfs_v NX GR FN z x h; have h2 := rfs_le NX GR FN z; omega
  · exact hG x hx
theorem cpz_lt2 {F G : Nat → Nat} {z : Nat} (hA : ∀ x, x < 257 → F x < 1000) (hG : ∀ x, x < 257 → G x < 1000) : ∀ x, x < 257 → cpz F G z x < 1000 := by
  intro x hx
  unfold cpz
  split
  · exact hA x hx
  · exact hG x hx
/-- the words over the first a letters -/
def tov (NX TL : Nat → Nat) (q sh : Nat) : Nat → Nat
  | 0 => 0
  | a + 1 => tov NX TL q sh a + TL (sh + NX (q * 4 + a))
def tl0 (AC TL : Nat → Nat) : Nat → Nat → Nat
  | 0 => TL
  | s + 1 => va_up (tl0 AC TL s) s (AC s)
def trow (NX TL : Nat → Nat) (n : Nat) : Nat → Nat → Nat
  | 0 => TL
  | s + 1 => va_up (trow NX TL n s) (n * 257 + s) (tov NX (trow NX TL n s) s ((n - 1) * 257) 4)
def tal (NX AC TL : Nat → Nat) (z : Nat) : Nat → Nat → Nat
  | 0 => tl0 AC TL z
  | n + 1 => trow NX (tal NX AC TL z n) (n + 1) z
set_option maxHeartbeats 4000000 in
set_option maxRecDepth 100000 in
/-- groups() -/
theorem ok_Ma_groups (l : Launch) (D : va_G) (k : Nat → ClassId) (sz : Nat) (ma se nu nx ac gr fn tl : Nat) (SE NU NX AC GR FN TL : Nat → Nat) (z : Nat) (hz : z ≤ 257) (hNX : ∀ x, x < 1028 → NX x < 257) (hG : ∀ x, x < 257 → GR x < 1000) (hA : ∀ x, x < 257 → AC x < 1000) : Met l y_Ma_groups (.code y_Ma_groups c_Ma_groups 4 (some .int) :: wsU) ({ frames := 3, cells := 0, slots := 0, locals := 83 } : Room) (kPre D k [.ref ma] [(ma, .inr (1, [.ref se, .ref nu, .ref nx, .ref ac, .ref gr, .ref fn, .ref tl, .int (nI z)])), (se, .inl (k 0, 257, .inl (aN SE))), (nu, .inl (k 0, 257, .inl (aM NU))), (nx, .inl (k 0, 1028, .inl (aN NX))), (ac, .inl (k 0, 257, .inl (aN AC))), (gr, .inl (k 0, 257, .inl (aN GR))), (fn, .inl (k 0, 257, .inl (aN FN))), (tl, .inl (k 1, 7967, .inr (.inl (aL TL))))] sz) (va_Qi (fun (r : Int32) (_ : Unit) => r = nI (grp NX z (z + 1) 0 (cpz AC GR z) FN).1) (kB D k (fun _ : Unit => [(ma, .inr (1, [.ref se, .ref nu, .ref nx, .ref ac, .ref gr, .ref fn, .ref tl, .int (nI z)])), (se, .inl (k 0, 257, .inl (aN SE))), (nu, .inl (k 0, 257, .inl (aM NU))), (nx, .inl (k 0, 1028, .inl (aN NX))), (ac, .inl (k 0, 257, .inl (aN AC))), (gr, .inl (k 0, 257, .inl (aN ((grp NX z (z + 1) 0 (cpz AC GR z) FN).2.1)))), (fn, .inl (k 0, 257, .inl (aN ((grp NX z (z + 1) 0 (cpz AC GR z) FN).2.2)))), (tl, .inl (k 1, 7967, .inr (.inl (aL TL))))]) (va_A [(ma, .inr (1, [.ref se, .ref nu, .ref nx, .ref ac, .ref gr, .ref fn, .ref tl, .int (nI z)])), (se, .inl (k 0, 257, .inl (aN SE))), (nu, .inl (k 0, 257, .inl (aM NU))), (nx, .inl (k 0, 1028, .inl (aN NX))), (ac, .inl (k 0, 257, .inl (aN AC))), (gr, .inl (k 0, 257, .inl (aN GR))), (fn, .inl (k 0, 257, .inl (aN FN))), (tl, .inl (k 1, 7967, .inr (.inl (aL TL))))] sz)) (va_A [(ma, .inr (1, [.ref se, .ref nu, .ref nx, .ref ac, .ref gr, .ref fn, .ref tl, .int (nI z)])), (se, .inl (k 0, 257, .inl (aN SE))), (nu, .inl (k 0, 257, .inl (aM NU))), (nx, .inl (k 0, 1028, .inl (aN NX))), (ac, .inl (k 0, 257, .inl (aN AC))), (gr, .inl (k 0, 257, .inl (aN GR))), (fn, .inl (k 0, 257, .inl (aN FN))), (tl, .inl (k 1, 7967, .inr (.inl (aL TL))))] sz)) 0 0 (va_A [(ma, .inr (1, [.ref se, .ref nu, .ref nx, .ref ac, .ref gr, .ref fn, .ref tl, .int (nI z)])), (se, .inl (k 0, 257, .inl (aN SE))), (nu, .inl (k 0, 257, .inl (aM NU))), (nx, .inl (k 0, 1028, .inl (aN NX))), (ac, .inl (k 0, 257, .inl (aN AC))), (gr, .inl (k 0, 257, .inl (aN GR))), (fn, .inl (k 0, 257, .inl (aN FN))), (tl, .inl (k 1, 7967, .inr (.inl (aL TL))))] sz) := by
  refine kMet (by decide) (Nat.le_of_ble_eq_true rfl) ?_
  intro p e s m below meth c ls hX hml hr hlocks hin hsz hW hl Q hQ
  generalize hAe : va_A [(ma, .inr (1, [.ref se, .ref nu, .ref nx, .ref ac, .ref gr, .ref fn, .ref tl, .int (nI z)])), (se, .inl (k 0, 257, .inl (aN SE))), (nu, .inl (k 0, 257, .inl (aM NU))), (nx, .inl (k 0, 1028, .inl (aN NX))), (ac, .inl (k 0, 257, .inl (aN AC))), (gr, .inl (k 0, 257, .inl (aN GR))), (fn, .inl (k 0, 257, .inl (aN FN))), (tl, .inl (k 1, 7967, .inr (.inl (aL TL))))] sz = A at hW hQ
  generalize hH0 : s.heap = H at hW ⊢
  generalize hl0 : ([] : List Loc) = locs at hW ⊢
  have hX : FX p s m c [.ref ma].toArray c_Ma_groups R_Ma := hX
  have hl : lv_has ls 4 [(0, .ref ma)] := hl
  obtain ⟨o, ho⟩ : ∃ o, grp NX z (z + 1) 0 (cpz AC GR z) FN = o := ⟨_, rfl⟩
  rw [ho] at hQ
  refine lv_aload_n hX.1 hX.2.1 d_Ma_groups_0 rfl (lv_at hl 0 rfl) ?_
  refine kget hX hW i_Ma 0 rfl rfl 3 (by decide) f_Ma_23 rfl rfl d_Ma_groups_1 ?_
  refine lv_iconst (v := nI 0) hX.1 hX.2.1 d_Ma_groups_4 (by decide) ?_
  refine lv_aload_n hX.1 hX.2.1 d_Ma_groups_5 rfl (lv_at hl 0 rfl) ?_
  refine kget hX hW i_Ma 0 rfl rfl 4 (by decide) f_Ma_26 rfl rfl d_Ma_groups_6 ?_
  refine lv_iconst (v := nI 0) hX.1 hX.2.1 d_Ma_groups_9 (by decide) ?_
  refine lv_aload_n hX.1 hX.2.1 d_Ma_groups_10 rfl (lv_at hl 0 rfl) ?_
  refine kget hX hW i_Ma 0 rfl rfl 7 (by decide) f_Ma_36 rfl rfl d_Ma_groups_11 ?_
  refine kcopy (sp := 0) (dp := 0) (n := z) hX (hml.trans hl.1.symm) hW m_Ma_74 4 5 rfl rfl (by omega) (by omega) (by decide) (by decide) (by decide) (by decide) d_Ma_groups_14 (fun H locs hW => ?_)
  rw [cpz_aN] at hW
  have hW : KW D k A s [(ma, .inr (1, [.ref se, .ref nu, .ref nx, .ref ac, .ref gr, .ref fn, .ref tl, .int (nI z)])), (se, .inl (k 0, 257, .inl (aN SE))), (nu, .inl (k 0, 257, .inl (aM NU))), (nx, .inl (k 0, 1028, .inl (aN NX))), (ac, .inl (k 0, 257, .inl (aN AC))), (gr, .inl (k 0, 257, .inl (aN (cpz AC GR z)))), (fn, .inl (k 0, 257, .inl (aN FN))), (tl, .inl (k 1, 7967, .inr (.inl (aL TL))))] H locs := hW
  refine lv_iconst (v := nI 0) hX.1 hX.2.1 d_Ma_groups_17 (by decide) ?_
  refine lv_istore_n (lv' := [(1, .int (nI 0)), (0, .ref ma)]) hX.1 hX.2.1 d_Ma_groups_18 rfl hl (by decide) rfl (fun ls hl => ?_)
  refine lv_iconst (v := nI 0) hX.1 hX.2.1 d_Ma_groups_19 (by decide) ?_
  refine lv_istore_n (lv' := [(2, .int (nI 0)), (1, .int (nI 0)), (0, .ref ma)]) hX.1 hX.2.1 d_Ma_groups_20 rfl hl (by decide) rfl (fun ls hl => ?_)
  have lp : ∀ (fu : Nat) (rd : Nat) (kn : Nat) (G : Nat → Nat) (N : Nat → Nat) (H : Heap) (locs : List Loc) (ls : Array Slot), (rd ≤ z + 1) → (z + 1 < rd + fu) → (grp NX z (z + 1 - rd) kn G N = o) → (∀ x, x < 257 → G x < 1000) → (kn ≤ 257) →  KW D k A s [(ma, .inr (1, [.ref se, .ref nu, .ref nx, .ref ac, .ref gr, .ref fn, .ref tl, .int (nI z)])), (se, .inl (k 0, 257, .inl (aN SE))), (nu, .inl (k 0, 257, .inl (aM NU))), (nx, .inl (k 0, 1028, .inl (aN NX))), (ac, .inl (k 0, 257, .inl (aN AC))), (gr, .inl (k 0, 257, .inl (aN G))), (fn, .inl (k 0, 257, .inl (aN N))), (tl, .inl (k 1, 7967, .inr (.inl (aL TL))))] H locs → lv_has ls 4 [(2, .int (nI rd)), (1, .int (nI kn)), (0, .ref ma)] → W p l e ({ frames := 3, cells := 0, slots := 0, locals := 83 } : Room) s m [.ref ma].toArray below meth c H locs 0 0 Q (F0 m 21 ls []) := by
    intro fu
    induction fu with
    | zero => intro rd kn G N H locs ls lp1 lp2 hg hG1 hkn hW hl; exfalso; omega
    | succ fu ih =>
      intro rd kn G N H locs ls lp1 lp2 hg hG1 hkn hW hl
      refine lv_iload_n hX.1 hX.2.1 d_Ma_groups_21 rfl (lv_at hl 0 rfl) ?_
      refine lv_aload_n hX.1 hX.2.1 d_Ma_groups_22 rfl (lv_at hl 2 rfl) ?_
      refine kget hX hW i_Ma 0 rfl rfl 7 (by decide) f_Ma_36 rfl rfl d_Ma_groups_23 ?_
      refine kgt hX (tgt := 49) (by omega) (by omega) d_Ma_groups_26 (by decide) (fun h1 => ?_) (fun h1 => ?_)
      · rw [show z + 1 - rd = 0 by omega, grp] at hg
        refine lv_iload_n hX.1 hX.2.1 d_Ma_groups_49 rfl (lv_at hl 1 rfl) ?_
        subst hg
        exact kiret hX hr hlocks hQ () (hW) (rfl) d_Ma_groups_50
      · rw [show z + 1 - rd = (z - rd) + 1 by omega, grp] at hg
        refine lv_aload_n hX.1 hX.2.1 d_Ma_groups_29 rfl (lv_at hl 2 rfl) ?_
        refine kCi (wc := [(ma, .inr (1, [.ref se, .ref nu, .ref nx, .ref ac, .ref gr, .ref fn, .ref tl, .int (nI z)])), (se, .inl (k 0, 257, .inl (aN SE))), (nu, .inl (k 0, 257, .inl (aM NU))), (nx, .inl (k 0, 1028, .inl (aN NX))), (ac, .inl (k 0, 257, .inl (aN AC))), (gr, .inl (k 0, 257, .inl (aN G))), (fn, .inl (k 0, 257, .inl (aN N))), (tl, .inl (k 1, 7967, .inr (.inl (aL TL))))]) hW [0, 1, 2, 3, 4, 5, 6, 7] (by rfl) (by intro _; rfl) (kRunV (n := 0) (As := []) (rest := []) hX hml hW (ok_Ma_refine l D k H.size ma se nu nx ac gr fn tl SE NU NX AC G N TL z hz hNX hG1) m_Ma_80 im_Ma_refine se_Ma_refine in_Ma cd_Ma_refine [0, 1, 2, 3, 4, 5, 6, 7] rfl rfl rfl rfl (by decide +kernel) ⟨rfl, rfl, by decide, by decide⟩ rfl hl.1 rfl (Nat.le_of_ble_eq_true rfl) d_Ma_groups_30 ⟨by first | exact Nat.zero_le _ | decide | omega | (dsimp only; omega), by first | exact Nat.zero_le _ | decide | omega | (dsimp only; omega)⟩) (fun r u H locs hr1 hW => ?_)
        have hW : KW D k A s [(ma, .inr (1, [.ref se, .ref nu, .ref nx, .ref ac, .ref gr, .ref fn, .ref tl, .int (nI z)])), (se, .inl (k 0, 257, .inl (aN SE))), (nu, .inl (k 0, 257, .inl (aM NU))), (nx, .inl (k 0, 1028, .inl (aN NX))), (ac, .inl (k 0, 257, .inl (aN AC))), (gr, .inl (k 0, 257, .inl (aN (cpz (rfs NX G N z).2 G z)))), (fn, .inl (k 0, 257, .inl (aN ((rfs NX G N z).2)))), (tl, .inl (k 1, 7967, .inr (.inl (aL TL))))] H locs := hW
        subst hr1
        have hrl := rfs_le NX G N z
        have hG2 := cpz_lt (NX := NX) (FN := N) hz hG1
        refine lv_istore_n (lv' := [(3, .int (nI ((rfs NX G N z).1))), (2, .int (nI rd)), (1, .int (nI kn)), (0, .ref ma)]) hX.1 hX.2.1 d_Ma_groups_33 rfl hl (by decide) rfl (fun ls hl => ?_)
        refine lv_iload_n hX.1 hX.2.1 d_Ma_groups_34 rfl (lv_at hl 0 rfl) ?_
        refine lv_iload_n hX.1 hX.2.1 d_Ma_groups_35 rfl (lv_at hl 2 rfl) ?_
        refine kne hX (tgt := 41) (by omega) (by omega) d_Ma_groups_36 (by decide) (fun h2 => ?_) (fun h2 => ?_)
        · rw [if_neg h2] at hg
          refine lv_iload_n hX.1 hX.2.1 d_Ma_groups_41 rfl (lv_at hl 0 rfl) ?_
          refine lv_istore_n (lv' := [(1, .int (nI ((rfs NX G N z).1))), (3, .int (nI ((rfs NX G N z).1))), (2, .int (nI rd)), (0, .ref ma)]) hX.1 hX.2.1 d_Ma_groups_42 rfl hl (by decide) rfl (fun ls hl => ?_)
          refine lv_iinc (v := nI (rd + 1)) (lv' := [(2, .int (nI (rd + 1))), (1, .int (nI ((rfs NX G N z).1))), (3, .int (nI ((rfs NX G N z).1))), (0, .ref ma)]) hX.1 hX.2.1 d_Ma_groups_43 hl (k := 2) rfl (kn_inc _) (by decide) rfl (fun ls hl => ?_)
          refine lv_goto (tgt := 21) hX.1 hX.2.1 d_Ma_groups_46 (by decide) ?_
          exact ih (rd + 1) _ _ _ H locs ls (by omega) (by omega) (by rw [show z + 1 - (rd + 1) = z - rd by omega]; exact hg) hG2 (by omega) (hW) (lv_sub hl [0, 1, 3] rfl)
        · rw [if_pos h2] at hg
          refine lv_iload_n hX.1 hX.2.1 d_Ma_groups_39 rfl (lv_at hl 2 rfl) ?_
          subst hg
          exact kiret hX hr hlocks hQ () (hW) (rfl) d_Ma_groups_40
  exact lp (z + 2) 0 0 (cpz AC GR z) FN H locs ls (by omega) (by omega) ho (cpz_lt2 hA hG) (by decide) (hW) (lv_sub hl [0, 1, 2] rfl)
set_option maxHeartbeats 4000000 in
set_option maxRecDepth 100000 in
/-- tallyOver(q, shorter) -/
theorem ok_Ma_tallyOver (l : Launch) (D : va_G) (k : Nat → ClassId) (sz : Nat) (ma se nu nx ac gr fn tl : Nat) (SE NU NX AC GR FN TL : Nat → Nat) (z : Nat) (q sh : Nat) (hq : q < 257) (hsh : sh + 257 ≤ 7967) (hNX : ∀ x, x < 1028 → NX x < 257) : Met l y_Ma_tallyOver (.code y_Ma_tallyOver c_Ma_tallyOver 6 (some .long) :: wsU) ({ frames := 0, cells := 0, slots := 0, locals := 0 } : Room) (kPre D k [.ref ma, .int (nI q), .int (nI sh)] [(ma, .inr (1, [.ref se, .ref nu, .ref nx, .ref ac, .ref gr, .ref fn, .ref tl, .int (nI z)])), (se, .inl (k 0, 257, .inl (aN SE))), (nu, .inl (k 0, 257, .inl (aM NU))), (nx, .inl (k 0, 1028, .inl (aN NX))), (ac, .inl (k 0, 257, .inl (aN AC))), (gr, .inl (k 0, 257, .inl (aN GR))), (fn, .inl (k 0, 257, .inl (aN FN))), (tl, .inl (k 1, 7967, .inr (.inl (aL TL))))] sz) (va_Ql (fun (r : Int64) (_ : Unit) => r = lN (tov NX TL q sh 4)) (kB D k (fun _ : Unit => [(ma, .inr (1, [.ref se, .ref nu, .ref nx, .ref ac, .ref gr, .ref fn, .ref tl, .int (nI z)])), (se, .inl (k 0, 257, .inl (aN SE))), (nu, .inl (k 0, 257, .inl (aM NU))), (nx, .inl (k 0, 1028, .inl (aN NX))), (ac, .inl (k 0, 257, .inl (aN AC))), (gr, .inl (k 0, 257, .inl (aN GR))), (fn, .inl (k 0, 257, .inl (aN FN))), (tl, .inl (k 1, 7967, .inr (.inl (aL TL))))]) (va_A [(ma, .inr (1, [.ref se, .ref nu, .ref nx, .ref ac, .ref gr, .ref fn, .ref tl, .int (nI z)])), (se, .inl (k 0, 257, .inl (aN SE))), (nu, .inl (k 0, 257, .inl (aM NU))), (nx, .inl (k 0, 1028, .inl (aN NX))), (ac, .inl (k 0, 257, .inl (aN AC))), (gr, .inl (k 0, 257, .inl (aN GR))), (fn, .inl (k 0, 257, .inl (aN FN))), (tl, .inl (k 1, 7967, .inr (.inl (aL TL))))] sz)) (va_A [(ma, .inr (1, [.ref se, .ref nu, .ref nx, .ref ac, .ref gr, .ref fn, .ref tl, .int (nI z)])), (se, .inl (k 0, 257, .inl (aN SE))), (nu, .inl (k 0, 257, .inl (aM NU))), (nx, .inl (k 0, 1028, .inl (aN NX))), (ac, .inl (k 0, 257, .inl (aN AC))), (gr, .inl (k 0, 257, .inl (aN GR))), (fn, .inl (k 0, 257, .inl (aN FN))), (tl, .inl (k 1, 7967, .inr (.inl (aL TL))))] sz)) 0 0 (va_A [(ma, .inr (1, [.ref se, .ref nu, .ref nx, .ref ac, .ref gr, .ref fn, .ref tl, .int (nI z)])), (se, .inl (k 0, 257, .inl (aN SE))), (nu, .inl (k 0, 257, .inl (aM NU))), (nx, .inl (k 0, 1028, .inl (aN NX))), (ac, .inl (k 0, 257, .inl (aN AC))), (gr, .inl (k 0, 257, .inl (aN GR))), (fn, .inl (k 0, 257, .inl (aN FN))), (tl, .inl (k 1, 7967, .inr (.inl (aL TL))))] sz) := by
  refine kMet (by decide) (Nat.le_of_ble_eq_true rfl) ?_
  intro p e s m below meth c ls hX hml hr hlocks hin hsz hW hl Q hQ
  generalize hAe : va_A [(ma, .inr (1, [.ref se, .ref nu, .ref nx, .ref ac, .ref gr, .ref fn, .ref tl, .int (nI z)])), (se, .inl (k 0, 257, .inl (aN SE))), (nu, .inl (k 0, 257, .inl (aM NU))), (nx, .inl (k 0, 1028, .inl (aN NX))), (ac, .inl (k 0, 257, .inl (aN AC))), (gr, .inl (k 0, 257, .inl (aN GR))), (fn, .inl (k 0, 257, .inl (aN FN))), (tl, .inl (k 1, 7967, .inr (.inl (aL TL))))] sz = A at hW hQ
  generalize hH0 : s.heap = H at hW ⊢
  generalize hl0 : ([] : List Loc) = locs at hW ⊢
  have hX : FX p s m c [.ref ma, .int (nI q), .int (nI sh)].toArray c_Ma_tallyOver R_Ma := hX
  have hl : lv_has ls 6 [(0, .ref ma), (1, .int (nI q)), (2, .int (nI sh))] := hl
  refine lv_lconst (v := lN 0) hX.1 hX.2.1 d_Ma_tallyOver_0 (by decide) ?_
  refine lv_lstore_n (lv' := [(3, .long (lN 0)), (0, .ref ma), (1, .int (nI q)), (2, .int (nI sh))]) hX.1 hX.2.1 d_Ma_tallyOver_1 rfl hl (by decide) rfl (fun ls hl => ?_)
  refine lv_iconst (v := nI 0) hX.1 hX.2.1 d_Ma_tallyOver_2 (by decide) ?_
  refine lv_istore (lv' := [(5, .int (nI 0)), (3, .long (lN 0)), (0, .ref ma), (1, .int (nI q)), (2, .int (nI sh))]) hX.1 hX.2.1 d_Ma_tallyOver_3 hl (by decide) rfl (fun ls hl => ?_)
  have lp : ∀ (fu : Nat) (a : Nat) (H : Heap) (locs : List Loc) (ls : Array Slot), (a ≤ 4) → (4 < a + fu) →  KW D k A s [(ma, .inr (1, [.ref se, .ref nu, .ref nx, .ref ac, .ref gr, .ref fn, .ref tl, .int (nI z)])), (se, .inl (k 0, 257, .inl (aN SE))), (nu, .inl (k 0, 257, .inl (aM NU))), (nx, .inl (k 0, 1028, .inl (aN NX))), (ac, .inl (k 0, 257, .inl (aN AC))), (gr, .inl (k 0, 257, .inl (aN GR))), (fn, .inl (k 0, 257, .inl (aN FN))), (tl, .inl (k 1, 7967, .inr (.inl (aL TL))))] H locs → lv_has ls 6 [(5, .int (nI a)), (3, .long (lN (tov NX TL q sh a))), (2, .int (nI sh)), (1, .int (nI q)), (0, .ref ma)] → W p l e ({ frames := 0, cells := 0, slots := 0, locals := 0 } : Room) s m [.ref ma, .int (nI q), .int (nI sh)].toArray below meth c H locs 0 0 Q (F0 m 5 ls []) := by
    intro fu
    induction fu with
    | zero => intro a H locs ls lp1 lp2 hW hl; exfalso; omega
    | succ fu ih =>
      intro a H locs ls lp1 lp2 hW hl
      refine lv_iload hX.1 hX.2.1 d_Ma_tallyOver_5 (lv_at hl 0 rfl) ?_
      refine lv_iconst (v := nI 4) hX.1 hX.2.1 d_Ma_tallyOver_7 (by decide) ?_
      refine kge hX (tgt := 38) (by omega) (by omega) d_Ma_tallyOver_8 (by decide) (fun h1 => ?_) (fun h1 => ?_)
      · have e1 : a = 4 := by omega
        subst e1
        refine lv_lload_n hX.1 hX.2.1 d_Ma_tallyOver_38 rfl (lv_at hl 1 rfl) ?_
        exact klret hX hr hlocks hQ () (hW) (rfl) d_Ma_tallyOver_39
      · refine lv_lload_n hX.1 hX.2.1 d_Ma_tallyOver_11 rfl (lv_at hl 1 rfl) ?_
        refine lv_aload_n hX.1 hX.2.1 d_Ma_tallyOver_12 rfl (lv_at hl 4 rfl) ?_
        refine kget hX hW i_Ma 0 rfl rfl 6 (by decide) f_Ma_32 rfl rfl d_Ma_tallyOver_13 ?_
        refine lv_iload_n hX.1 hX.2.1 d_Ma_tallyOver_16 rfl (lv_at hl 2 rfl) ?_
        refine lv_aload_n hX.1 hX.2.1 d_Ma_tallyOver_17 rfl (lv_at hl 4 rfl) ?_
        refine kget hX hW i_Ma 0 rfl rfl 2 (by decide) f_Ma_20 rfl rfl d_Ma_tallyOver_18 ?_
        refine lv_iload_n hX.1 hX.2.1 d_Ma_tallyOver_21 rfl (lv_at hl 3 rfl) ?_
        refine lv_iconst (v := nI 4) hX.1 hX.2.1 d_Ma_tallyOver_22 (by decide) ?_
        refine lv_imul hX.1 hX.2.1 d_Ma_tallyOver_23 ?_
        refine tpi (y := nI (q * 4)) (pk_mul _ _) ?_
        refine lv_iload hX.1 hX.2.1 d_Ma_tallyOver_24 (lv_at hl 0 rfl) ?_
        refine lv_iadd hX.1 hX.2.1 d_Ma_tallyOver_26 ?_
        refine tpi (y := nI (q * 4 + a)) (nI_add _ _) ?_
        refine kiald hX hW 3 rfl (by omega) (by first | decide | omega) d_Ma_tallyOver_27 ?_
        refine lv_iadd hX.1 hX.2.1 d_Ma_tallyOver_28 ?_
        refine tpi (y := nI (sh + NX (q * 4 + a))) (nI_add _ _) ?_
        refine klald hX hW 7 rfl (by have := hNX (q * 4 + a) (by omega); omega) (by first | decide | omega) d_Ma_tallyOver_29 ?_
        refine lv_ladd hX.1 hX.2.1 d_Ma_tallyOver_30 ?_
        refine tpl (y := lN (tov NX TL q sh a + TL (sh + NX (q * 4 + a)))) (lN_add _ _) ?_
        refine lv_lstore_n (lv' := [(3, .long (lN (tov NX TL q sh a + TL (sh + NX (q * 4 + a))))), (5, .int (nI a)), (2, .int (nI sh)), (1, .int (nI q)), (0, .ref ma)]) hX.1 hX.2.1 d_Ma_tallyOver_31 rfl hl (by decide) rfl (fun ls hl => ?_)
        refine lv_iinc (v := nI (a + 1)) (lv' := [(5, .int (nI (a + 1))), (3, .long (lN (tov NX TL q sh a + TL (sh + NX (q * 4 + a))))), (2, .int (nI sh)), (1, .int (nI q)), (0, .ref ma)]) hX.1 hX.2.1 d_Ma_tallyOver_32 hl (k := 1) rfl (kn_inc _) (by decide) rfl (fun ls hl => ?_)
        refine lv_goto (tgt := 5) hX.1 hX.2.1 d_Ma_tallyOver_35 (by decide) ?_
        exact ih (a + 1) H locs ls (by omega) (by omega) (hW) (lv_sub hl [0, 1, 2, 3, 4] rfl)
  exact lp 5 0 H locs ls (by omega) (by omega) (hW) (lv_sub hl [0, 1, 4, 3, 2] rfl)
set_option maxHeartbeats 4000000 in
set_option maxRecDepth 100000 in
/-- tally(length) -/
theorem ok_Ma_tally (l : Launch) (D : va_G) (k : Nat → ClassId) (sz : Nat) (ma se nu nx ac gr fn tl : Nat) (SE NU NX AC GR FN TL : Nat → Nat) (z : Nat) (len : Nat) (hlen : len ≤ 30) (hz : z ≤ 257) (hNX : ∀ x, x < 1028 → NX x < 257) (hA : ∀ x, x < 257 → AC x < 1000) : Met l y_Ma_tally (.code y_Ma_tally c_Ma_tally 4 (some .long) :: wsU) ({ frames := 1, cells := 0, slots := 0, locals := 25 } : Room) (kPre D k [.ref ma, .int (nI len)] [(ma, .inr (1, [.ref se, .ref nu, .ref nx, .ref ac, .ref gr, .ref fn, .ref tl, .int (nI z)])), (se, .inl (k 0, 257, .inl (aN SE))), (nu, .inl (k 0, 257, .inl (aM NU))), (nx, .inl (k 0, 1028, .inl (aN NX))), (ac, .inl (k 0, 257, .inl (aN AC))), (gr, .inl (k 0, 257, .inl (aN GR))), (fn, .inl (k 0, 257, .inl (aN FN))), (tl, .inl (k 1, 7967, .inr (.inl (aL TL))))] sz) (va_Ql (fun (r : Int64) (_ : Unit) => r = lN (tal NX AC TL z len (len * 257))) (kB D k (fun _ : Unit => [(ma, .inr (1, [.ref se, .ref nu, .ref nx, .ref ac, .ref gr, .ref fn, .ref tl, .int (nI z)])), (se, .inl (k 0, 257, .inl (aN SE))), (nu, .inl (k 0, 257, .inl (aM NU))), (nx, .inl (k 0, 1028, .inl (aN NX))), (ac, .inl (k 0, 257, .inl (aN AC))), (gr, .inl (k 0, 257, .inl (aN GR))), (fn, .inl (k 0, 257, .inl (aN FN))), (tl, .inl (k 1, 7967, .inr (.inl (aL (tal NX AC TL z len)))))]) (va_A [(ma, .inr (1, [.ref se, .ref nu, .ref nx, .ref ac, .ref gr, .ref fn, .ref tl, .int (nI z)])), (se, .inl (k 0, 257, .inl (aN SE))), (nu, .inl (k 0, 257, .inl (aM NU))), (nx, .inl (k 0, 1028, .inl (aN NX))), (ac, .inl (k 0, 257, .inl (aN AC))), (gr, .inl (k 0, 257, .inl (aN GR))), (fn, .inl (k 0, 257, .inl (aN FN))), (tl, .inl (k 1, 7967, .inr (.inl (aL TL))))] sz)) (va_A [(ma, .inr (1, [.ref se, .ref nu, .ref nx, .ref ac, .ref gr, .ref fn, .ref tl, .int (nI z)])), (se, .inl (k 0, 257, .inl (aN SE))), (nu, .inl (k 0, 257, .inl (aM NU))), (nx, .inl (k 0, 1028, .inl (aN NX))), (ac, .inl (k 0, 257, .inl (aN AC))), (gr, .inl (k 0, 257, .inl (aN GR))), (fn, .inl (k 0, 257, .inl (aN FN))), (tl, .inl (k 1, 7967, .inr (.inl (aL TL))))] sz)) 0 0 (va_A [(ma, .inr (1, [.ref se, .ref nu, .ref nx, .ref ac, .ref gr, .ref fn, .ref tl, .int (nI z)])), (se, .inl (k 0, 257, .inl (aN SE))), (nu, .inl (k 0, 257, .inl (aM NU))), (nx, .inl (k 0, 1028, .inl (aN NX))), (ac, .inl (k 0, 257, .inl (aN AC))), (gr, .inl (k 0, 257, .inl (aN GR))), (fn, .inl (k 0, 257, .inl (aN FN))), (tl, .inl (k 1, 7967, .inr (.inl (aL TL))))] sz) := by
  refine kMet (by decide) (Nat.le_of_ble_eq_true rfl) ?_
  intro p e s m below meth c ls hX hml hr hlocks hin hsz hW hl Q hQ
  generalize hAe : va_A [(ma, .inr (1, [.ref se, .ref nu, .ref nx, .ref ac, .ref gr, .ref fn, .ref tl, .int (nI z)])), (se, .inl (k 0, 257, .inl (aN SE))), (nu, .inl (k 0, 257, .inl (aM NU))), (nx, .inl (k 0, 1028, .inl (aN NX))), (ac, .inl (k 0, 257, .inl (aN AC))), (gr, .inl (k 0, 257, .inl (aN GR))), (fn, .inl (k 0, 257, .inl (aN FN))), (tl, .inl (k 1, 7967, .inr (.inl (aL TL))))] sz = A at hW hQ
  generalize hH0 : s.heap = H at hW ⊢
  generalize hl0 : ([] : List Loc) = locs at hW ⊢
  have hX : FX p s m c [.ref ma, .int (nI len)].toArray c_Ma_tally R_Ma := hX
  have hl : lv_has ls 4 [(0, .ref ma), (1, .int (nI len))] := hl
  refine lv_iconst (v := nI 0) hX.1 hX.2.1 d_Ma_tally_0 (by decide) ?_
  refine lv_istore_n (lv' := [(2, .int (nI 0)), (0, .ref ma), (1, .int (nI len))]) hX.1 hX.2.1 d_Ma_tally_1 rfl hl (by decide) rfl (fun ls hl => ?_)
  have k31 : ∀ (fu n0 : Nat) (H : Heap) (locs : List Loc) (ls : Array Slot), n0 ≤ len → len < n0 + fu → KW D k A s [(ma, .inr (1, [.ref se, .ref nu, .ref nx, .ref ac, .ref gr, .ref fn, .ref tl, .int (nI z)])), (se, .inl (k 0, 257, .inl (aN SE))), (nu, .inl (k 0, 257, .inl (aM NU))), (nx, .inl (k 0, 1028, .inl (aN NX))), (ac, .inl (k 0, 257, .inl (aN AC))), (gr, .inl (k 0, 257, .inl (aN GR))), (fn, .inl (k 0, 257, .inl (aN FN))), (tl, .inl (k 1, 7967, .inr (.inl (aL (tal NX AC TL z n0)))))] H locs → lv_has ls 4 [(2, .int (nI (n0 + 1))), (1, .int (nI len)), (0, .ref ma)] → W p l e ({ frames := 1, cells := 0, slots := 0, locals := 25 } : Room) s m [.ref ma, .int (nI len)].toArray below meth c H locs 0 0 Q (F0 m 31 ls []) := by
    intro fu
    induction fu with
    | zero => intro n0 H locs ls h1 h2 hW hl; exfalso; omega
    | succ fu ih =>
      intro n0 H locs ls h1 h2 hW hl
      refine lv_iload_n hX.1 hX.2.1 d_Ma_tally_31 rfl (lv_at hl 0 rfl) ?_
      refine lv_iload_n hX.1 hX.2.1 d_Ma_tally_32 rfl (lv_at hl 1 rfl) ?_
      refine kgt hX (tgt := 82) (by omega) (by omega) d_Ma_tally_33 (by decide) (fun h3 => ?_) (fun h3 => ?_)
      · have e1 : len = n0 := by omega
        subst e1
        refine lv_aload_n hX.1 hX.2.1 d_Ma_tally_82 rfl (lv_at hl 2 rfl) ?_
        refine kget hX hW i_Ma 0 rfl rfl 6 (by decide) f_Ma_32 rfl rfl d_Ma_tally_83 ?_
        refine lv_iload_n hX.1 hX.2.1 d_Ma_tally_86 rfl (lv_at hl 1 rfl) ?_
        refine lv_sipush (v := nI 257) hX.1 hX.2.1 d_Ma_tally_87 (by decide) ?_
        refine lv_imul hX.1 hX.2.1 d_Ma_tally_90 ?_
        refine tpi (y := nI (len * 257)) (pk_mul _ _) ?_
        refine klald hX hW 7 rfl (by omega) (by first | decide | omega) d_Ma_tally_91 ?_
        exact klret hX hr hlocks hQ () (hW) (rfl) d_Ma_tally_92
      · obtain ⟨n1, hn1⟩ : ∃ n1, n0 + 1 = n1 := ⟨_, rfl⟩
        rw [hn1] at hl h3
        refine lv_iconst (v := nI 0) hX.1 hX.2.1 d_Ma_tally_36 (by decide) ?_
        refine lv_istore_n (lv' := [(3, .int (nI 0)), (2, .int (nI n1)), (1, .int (nI len)), (0, .ref ma)]) hX.1 hX.2.1 d_Ma_tally_37 rfl hl (by decide) rfl (fun ls hl => ?_)
        have ih0 := ih
        have lq : ∀ (fu : Nat) (s1 : Nat) (H : Heap) (locs : List Loc) (ls : Array Slot), (s1 ≤ z) → (z < s1 + fu) →  KW D k A s [(ma, .inr (1, [.ref se, .ref nu, .ref nx, .ref ac, .ref gr, .ref fn, .ref tl, .int (nI z)])), (se, .inl (k 0, 257, .inl (aN SE))), (nu, .inl (k 0, 257, .inl (aM NU))), (nx, .inl (k 0, 1028, .inl (aN NX))), (ac, .inl (k 0, 257, .inl (aN AC))), (gr, .inl (k 0, 257, .inl (aN GR))), (fn, .inl (k 0, 257, .inl (aN FN))), (tl, .inl (k 1, 7967, .inr (.inl (aL (trow NX (tal NX AC TL z n0) n1 s1)))))] H locs → lv_has ls 4 [(3, .int (nI s1)), (2, .int (nI n1)), (1, .int (nI len)), (0, .ref ma)] → W p l e ({ frames := 1, cells := 0, slots := 0, locals := 25 } : Room) s m [.ref ma, .int (nI len)].toArray below meth c H locs 0 0 Q (F0 m 38 ls []) := by
          intro fu
          induction fu with
          | zero => intro s1 H locs ls lq1 lq2 hW hl; exfalso; omega
          | succ fu ih =>
            intro s1 H locs ls lq1 lq2 hW hl
            refine lv_iload_n hX.1 hX.2.1 d_Ma_tally_38 rfl (lv_at hl 0 rfl) ?_
            refine lv_aload_n hX.1 hX.2.1 d_Ma_tally_39 rfl (lv_at hl 3 rfl) ?_
            refine kget hX hW i_Ma 0 rfl rfl 7 (by decide) f_Ma_36 rfl rfl d_Ma_tally_40 ?_
            refine kge hX (tgt := 76) (by omega) (by omega) d_Ma_tally_43 (by decide) (fun h4 => ?_) (fun h4 => ?_)
            · have e1 : z = s1 := by omega
              subst e1
              subst hn1
              refine lv_iinc (v := nI ((n0 + 1) + 1)) (lv' := [(2, .int (nI ((n0 + 1) + 1))), (3, .int (nI z)), (1, .int (nI len)), (0, .ref ma)]) hX.1 hX.2.1 d_Ma_tally_76 hl (k := 1) rfl (kn_inc _) (by decide) rfl (fun ls hl => ?_)
              refine lv_goto (tgt := 31) hX.1 hX.2.1 d_Ma_tally_79 (by decide) ?_
              exact ih0 (n0 + 1) H locs ls (by omega) (by omega) hW (lv_sub hl [0, 2, 3] rfl)
            · refine lv_aload_n hX.1 hX.2.1 d_Ma_tally_46 rfl (lv_at hl 3 rfl) ?_
              refine kget hX hW i_Ma 0 rfl rfl 6 (by decide) f_Ma_32 rfl rfl d_Ma_tally_47 ?_
              refine lv_iload_n hX.1 hX.2.1 d_Ma_tally_50 rfl (lv_at hl 1 rfl) ?_
              refine lv_sipush (v := nI 257) hX.1 hX.2.1 d_Ma_tally_51 (by decide) ?_
              refine lv_imul hX.1 hX.2.1 d_Ma_tally_54 ?_
              refine tpi (y := nI (n1 * 257)) (pk_mul _ _) ?_
              refine lv_iload_n hX.1 hX.2.1 d_Ma_tally_55 rfl (lv_at hl 0 rfl) ?_
              refine lv_iadd hX.1 hX.2.1 d_Ma_tally_56 ?_
              refine tpi (y := nI (n1 * 257 + s1)) (nI_add _ _) ?_
              refine lv_aload_n hX.1 hX.2.1 d_Ma_tally_57 rfl (lv_at hl 3 rfl) ?_
              refine lv_iload_n hX.1 hX.2.1 d_Ma_tally_58 rfl (lv_at hl 0 rfl) ?_
              refine lv_iload_n hX.1 hX.2.1 d_Ma_tally_59 rfl (lv_at hl 1 rfl) ?_
              refine lv_iconst (v := nI 1) hX.1 hX.2.1 d_Ma_tally_60 (by decide) ?_
              refine lv_isub hX.1 hX.2.1 d_Ma_tally_61 ?_
              refine tpi (y := nI (n1 - 1)) (pk_sub (by omega)) ?_
              refine lv_sipush (v := nI 257) hX.1 hX.2.1 d_Ma_tally_62 (by decide) ?_
              refine lv_imul hX.1 hX.2.1 d_Ma_tally_65 ?_
              refine tpi (y := nI ((n1 - 1) * 257)) (pk_mul _ _) ?_
              refine kCl (wc := [(ma, .inr (1, [.ref se, .ref nu, .ref nx, .ref ac, .ref gr, .ref fn, .ref tl, .int (nI z)])), (se, .inl (k 0, 257, .inl (aN SE))), (nu, .inl (k 0, 257, .inl (aM NU))), (nx, .inl (k 0, 1028, .inl (aN NX))), (ac, .inl (k 0, 257, .inl (aN AC))), (gr, .inl (k 0, 257, .inl (aN GR))), (fn, .inl (k 0, 257, .inl (aN FN))), (tl, .inl (k 1, 7967, .inr (.inl (aL (trow NX (tal NX AC TL z n0) n1 s1)))))]) hW [0, 1, 2, 3, 4, 5, 6, 7] (by rfl) (by intro _; rfl) (kRunV (n := 2) (As := [.int (nI s1), .int (nI ((n1 - 1) * 257))]) (rest := [.int (nI (n1 * 257 + s1)), .ref tl]) hX hml hW (ok_Ma_tallyOver l D k H.size ma se nu nx ac gr fn tl SE NU NX AC GR FN (trow NX (tal NX AC TL z n0) n1 s1) z s1 ((n1 - 1) * 257) (by omega) (by omega) hNX) m_Ma_61 im_Ma_tallyOver se_Ma_tallyOver in_Ma cd_Ma_tallyOver [0, 1, 2, 3, 4, 5, 6, 7] rfl rfl rfl rfl (by decide +kernel) ⟨rfl, rfl, by decide, by decide⟩ rfl hl.1 rfl (Nat.le_of_ble_eq_true rfl) d_Ma_tally_66 ⟨by first | exact Nat.zero_le _ | decide | omega | (dsimp only; omega), by first | exact Nat.zero_le _ | decide | omega | (dsimp only; omega)⟩) (fun r u H locs hr1 hW => ?_)
              have hW : KW D k A s [(ma, .inr (1, [.ref se, .ref nu, .ref nx, .ref ac, .ref gr, .ref fn, .ref tl, .int (nI z)])), (se, .inl (k 0, 257, .inl (aN SE))), (nu, .inl (k 0, 257, .inl (aM NU))), (nx, .inl (k 0, 1028, .inl (aN NX))), (ac, .inl (k 0, 257, .inl (aN AC))), (gr, .inl (k 0, 257, .inl (aN GR))), (fn, .inl (k 0, 257, .inl (aN FN))), (tl, .inl (k 1, 7967, .inr (.inl (aL (trow NX (tal NX AC TL z n0) n1 s1)))))] H locs := hW
              subst hr1
              refine klast hX hW 7 rfl (by omega) (by first | decide | omega) d_Ma_tally_69 (fun H locs hW => ?_)
              have hW : KW D k A s [(ma, .inr (1, [.ref se, .ref nu, .ref nx, .ref ac, .ref gr, .ref fn, .ref tl, .int (nI z)])), (se, .inl (k 0, 257, .inl (aN SE))), (nu, .inl (k 0, 257, .inl (aM NU))), (nx, .inl (k 0, 1028, .inl (aN NX))), (ac, .inl (k 0, 257, .inl (aN AC))), (gr, .inl (k 0, 257, .inl (aN GR))), (fn, .inl (k 0, 257, .inl (aN FN))), (tl, .inl (k 1, 7967, .inr (.inl (aL (va_up (trow NX (tal NX AC TL z n0) n1 s1) (n1 * 257 + s1) (tov NX (trow NX (tal NX AC TL z n0) n1 s1) s1 ((n1 - 1) * 257) 4))))))] H locs := hW
              refine lv_iinc (v := nI (s1 + 1)) (lv' := [(3, .int (nI (s1 + 1))), (2, .int (nI n1)), (1, .int (nI len)), (0, .ref ma)]) hX.1 hX.2.1 d_Ma_tally_70 hl (k := 0) rfl (kn_inc _) (by decide) rfl (fun ls hl => ?_)
              refine lv_goto (tgt := 38) hX.1 hX.2.1 d_Ma_tally_73 (by decide) ?_
              exact ih (s1 + 1) H locs ls (by omega) (by omega) (hW) (lv_sub hl [0, 1, 2, 3] rfl)
        exact lq (z + 1) 0 H locs ls (by omega) (by omega) (hW) (lv_sub hl [0, 1, 2, 3] rfl)
  have lp : ∀ (fu : Nat) (s1 : Nat) (H : Heap) (locs : List Loc) (ls : Array Slot), (s1 ≤ z) → (z < s1 + fu) →  KW D k A s [(ma, .inr (1, [.ref se, .ref nu, .ref nx, .ref ac, .ref gr, .ref fn, .ref tl, .int (nI z)])), (se, .inl (k 0, 257, .inl (aN SE))), (nu, .inl (k 0, 257, .inl (aM NU))), (nx, .inl (k 0, 1028, .inl (aN NX))), (ac, .inl (k 0, 257, .inl (aN AC))), (gr, .inl (k 0, 257, .inl (aN GR))), (fn, .inl (k 0, 257, .inl (aN FN))), (tl, .inl (k 1, 7967, .inr (.inl (aL (tl0 AC TL s1)))))] H locs → lv_has ls 4 [(2, .int (nI s1)), (1, .int (nI len)), (0, .ref ma)] → W p l e ({ frames := 1, cells := 0, slots := 0, locals := 25 } : Room) s m [.ref ma, .int (nI len)].toArray below meth c H locs 0 0 Q (F0 m 2 ls []) := by
    intro fu
    induction fu with
    | zero => intro s1 H locs ls lp1 lp2 hW hl; exfalso; omega
    | succ fu ih =>
      intro s1 H locs ls lp1 lp2 hW hl
      refine lv_iload_n hX.1 hX.2.1 d_Ma_tally_2 rfl (lv_at hl 0 rfl) ?_
      refine lv_aload_n hX.1 hX.2.1 d_Ma_tally_3 rfl (lv_at hl 2 rfl) ?_
      refine kget hX hW i_Ma 0 rfl rfl 7 (by decide) f_Ma_36 rfl rfl d_Ma_tally_4 ?_
      refine kge hX (tgt := 29) (by omega) (by omega) d_Ma_tally_7 (by decide) (fun h1 => ?_) (fun h1 => ?_)
      · have e1 : z = s1 := by omega
        subst e1
        refine lv_iconst (v := nI 1) hX.1 hX.2.1 d_Ma_tally_29 (by decide) ?_
        refine lv_istore_n (lv' := [(2, .int (nI 1)), (1, .int (nI len)), (0, .ref ma)]) hX.1 hX.2.1 d_Ma_tally_30 rfl hl (by decide) rfl (fun ls hl => ?_)
        exact k31 (len + 1) 0 H locs ls (by omega) (by omega) hW (lv_sub hl [0, 1, 2] rfl)
      · refine lv_aload_n hX.1 hX.2.1 d_Ma_tally_10 rfl (lv_at hl 2 rfl) ?_
        refine kget hX hW i_Ma 0 rfl rfl 6 (by decide) f_Ma_32 rfl rfl d_Ma_tally_11 ?_
        refine lv_iload_n hX.1 hX.2.1 d_Ma_tally_14 rfl (lv_at hl 0 rfl) ?_
        refine lv_aload_n hX.1 hX.2.1 d_Ma_tally_15 rfl (lv_at hl 2 rfl) ?_
        refine kget hX hW i_Ma 0 rfl rfl 3 (by decide) f_Ma_23 rfl rfl d_Ma_tally_16 ?_
        refine lv_iload_n hX.1 hX.2.1 d_Ma_tally_19 rfl (lv_at hl 0 rfl) ?_
        refine kiald hX hW 4 rfl (by omega) (by first | decide | omega) d_Ma_tally_20 ?_
        refine lv_i2l (v := lN (AC s1)) hX.1 hX.2.1 d_Ma_tally_21 (nI_l (by have := hA s1 (by omega); omega)) ?_
        refine klast hX hW 7 rfl (by omega) (by first | decide | omega) d_Ma_tally_22 (fun H locs hW => ?_)
        have hW : KW D k A s [(ma, .inr (1, [.ref se, .ref nu, .ref nx, .ref ac, .ref gr, .ref fn, .ref tl, .int (nI z)])), (se, .inl (k 0, 257, .inl (aN SE))), (nu, .inl (k 0, 257, .inl (aM NU))), (nx, .inl (k 0, 1028, .inl (aN NX))), (ac, .inl (k 0, 257, .inl (aN AC))), (gr, .inl (k 0, 257, .inl (aN GR))), (fn, .inl (k 0, 257, .inl (aN FN))), (tl, .inl (k 1, 7967, .inr (.inl (aL (va_up (tl0 AC TL s1) s1 (AC s1))))))] H locs := hW
        refine lv_iinc (v := nI (s1 + 1)) (lv' := [(2, .int (nI (s1 + 1))), (1, .int (nI len)), (0, .ref ma)]) hX.1 hX.2.1 d_Ma_tally_23 hl (k := 0) rfl (kn_inc _) (by decide) rfl (fun ls hl => ?_)
        refine lv_goto (tgt := 2) hX.1 hX.2.1 d_Ma_tally_26 (by decide) ?_
        exact ih (s1 + 1) H locs ls (by omega) (by omega) (hW) (lv_sub hl [0, 1, 2] rfl)
  exact lp (z + 1) 0 H locs ls (by omega) (by omega) (hW) (lv_sub hl [0, 2, 1] rfl)
