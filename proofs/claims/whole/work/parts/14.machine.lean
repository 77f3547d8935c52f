/-! THE MACHINE: Moore's refinement, tallies -/
/-- two states alike, as far as the first a letters tell -/
def alq (NX GR : Nat → Nat) (i j : Nat) : Nat → Bool
  | 0 => decide (GR i = GR j)
  | a + 1 => alq NX GR i j a && decide (GR (NX (i * 4 + a)) = GR (NX (j * 4 + a)))
theorem alq_f {NX GR : Nat → Nat} {i j a : Nat} (h : alq NX GR i j a = false) : ∀ b, a ≤ b → alq NX GR i j b = false := by
  intro b
  induction b with
  | zero => intro hb; have : a = 0 := by omega
            subst this; exact h
  | succ b ih =>
    intro hb
    rcases Nat.lt_or_ge b a with q | q
    · have : a = b + 1 := by omega
      subst this; exact h
    · rw [alq, ih q]; rfl
/-- from state i on, r states before j: the first one like j -/
def flr (NX GR : Nat → Nat) (j : Nat) : Nat → Nat → Nat
  | 0, i => i
  | r + 1, i => if alq NX GR i j 4 then i else flr NX GR j r (i + 1)
theorem flr_le (NX GR : Nat → Nat) (j : Nat) : ∀ r i, flr NX GR j r i ≤ i + r := by
  intro r
  induction r with
  | zero => intro i; exact Nat.le_refl _
  | succ r ih => intro i; rw [flr]; split
                 · omega
                 · have := ih (i + 1); omega
/-- the first s states in finer groups: how many, and which -/
def rfs (NX GR FN : Nat → Nat) : Nat → Nat × (Nat → Nat)
  | 0 => (0, FN)
  | s + 1 => if flr NX GR s s 0 < s then ((rfs NX GR FN s).1, va_up (rfs NX GR FN s).2 s ((rfs NX GR FN s).2 (flr NX GR s s 0))) else ((rfs NX GR FN s).1 + 1, va_up (rfs NX GR FN s).2 s (rfs NX GR FN s).1)
theorem rfs_le (NX GR FN : Nat → Nat) : ∀ s, (rfs NX GR FN s).1 ≤ s := by
  intro s
  induction s with
  | zero => exact Nat.le_refl _
  | succ s ih => rw [rfs]; split
                 · show (rfs NX GR FN s).1 ≤ s + 1; omega
                 · show (rfs NX GR FN s).1 + 1 ≤ s + 1; omega
def cpz (F G : Nat → Nat) (z : Nat) : Nat → Nat := fun j => if j < z then F j else G j
theorem cpz_aN (F G : Nat → Nat) (z : Nat) : va_cpy (aN F) (aN G) 0 0 z = aN (cpz F G z) := by
  funext j
  by_cases h : j < z
  · rw [pk_cpy_in (by omega) (by omega)]; simp [aN, cpz, h]
  · rw [pk_cpy_out (by omega)]; simp [aN, cpz, h]
set_option maxHeartbeats 4000000 in
set_option maxRecDepth 100000 in
/-- alike(i, j) -/
theorem ok_Ma_alike (l : Launch) (D : va_G) (k : Nat → ClassId) (sz : Nat) (ma se nu nx ac gr fn tl : Nat) (SE NU NX AC GR FN TL : Nat → Nat) (z : Nat) (i j : Nat) (hi : i < 257) (hj : j < 257) (hz : z ≤ 257) (hNX : ∀ x, x < 1028 → NX x < 257) (hG : ∀ x, x < 257 → GR x < 1000) : Met l y_Ma_alike (.code y_Ma_alike c_Ma_alike 7 (some .boolean) :: wsU) ({ frames := 0, cells := 0, slots := 0, locals := 0 } : Room) (kPre D k [.ref ma, .int (nI i), .int (nI j)] [(ma, .inr (1, [.ref se, .ref nu, .ref nx, .ref ac, .ref gr, .ref fn, .ref tl, .int (nI z)])), (se, .inl (k 0, 257, .inl (aN SE))), (nu, .inl (k 0, 257, .inl (aM NU))), (nx, .inl (k 0, 1028, .inl (aN NX))), (ac, .inl (k 0, 257, .inl (aN AC))), (gr, .inl (k 0, 257, .inl (aN GR))), (fn, .inl (k 0, 257, .inl (aN FN))), (tl, .inl (k 1, 7967, .inr (.inl (aL TL))))] sz) (va_Qi (fun (r : Int32) (_ : Unit) => r = nI (alq NX GR i j 4).toNat) (kB D k (fun _ : Unit => [(ma, .inr (1, [.ref se, .ref nu, .ref nx, .ref ac, .ref gr, .ref fn, .ref tl, .int (nI z)])), (se, .inl (k 0, 257, .inl (aN SE))), (nu, .inl (k 0, 257, .inl (aM NU))), (nx, .inl (k 0, 1028, .inl (aN NX))), (ac, .inl (k 0, 257, .inl (aN AC))), (gr, .inl (k 0, 257, .inl (aN GR))), (fn, .inl (k 0, 257, .inl (aN FN))), (tl, .inl (k 1, 7967, .inr (.inl (aL TL))))]) (va_A [(ma, .inr (1, [.ref se, .ref nu, .ref nx, .ref ac, .ref gr, .ref fn, .ref tl, .int (nI z)])), (se, .inl (k 0, 257, .inl (aN SE))), (nu, .inl (k 0, 257, .inl (aM NU))), (nx, .inl (k 0, 1028, .inl (aN NX))), (ac, .inl (k 0, 257, .inl (aN AC))), (gr, .inl (k 0, 257, .inl (aN GR))), (fn, .inl (k 0, 257, .inl (aN FN))), (tl, .inl (k 1, 7967, .inr (.inl (aL TL))))] sz)) (va_A [(ma, .inr (1, [.ref se, .ref nu, .ref nx, .ref ac, .ref gr, .ref fn, .ref tl, .int (nI z)])), (se, .inl (k 0, 257, .inl (aN SE))), (nu, .inl (k 0, 257, .inl (aM NU))), (nx, .inl (k 0, 1028, .inl (aN NX))), (ac, .inl (k 0, 257, .inl (aN AC))), (gr, .inl (k 0, 257, .inl (aN GR))), (fn, .inl (k 0, 257, .inl (aN FN))), (tl, .inl (k 1, 7967, .inr (.inl (aL TL))))] sz)) 0 0 (va_A [(ma, .inr (1, [.ref se, .ref nu, .ref nx, .ref ac, .ref gr, .ref fn, .ref tl, .int (nI z)])), (se, .inl (k 0, 257, .inl (aN SE))), (nu, .inl (k 0, 257, .inl (aM NU))), (nx, .inl (k 0, 1028, .inl (aN NX))), (ac, .inl (k 0, 257, .inl (aN AC))), (gr, .inl (k 0, 257, .inl (aN GR))), (fn, .inl (k 0, 257, .inl (aN FN))), (tl, .inl (k 1, 7967, .inr (.inl (aL TL))))] sz) := by
  refine kMet (by decide) (Nat.le_of_ble_eq_true rfl) ?_
  intro p e s m below meth c ls hX hml hr hlocks hin hsz hW hl Q hQ
  generalize hAe : va_A [(ma, .inr (1, [.ref se, .ref nu, .ref nx, .ref ac, .ref gr, .ref fn, .ref tl, .int (nI z)])), (se, .inl (k 0, 257, .inl (aN SE))), (nu, .inl (k 0, 257, .inl (aM NU))), (nx, .inl (k 0, 1028, .inl (aN NX))), (ac, .inl (k 0, 257, .inl (aN AC))), (gr, .inl (k 0, 257, .inl (aN GR))), (fn, .inl (k 0, 257, .inl (aN FN))), (tl, .inl (k 1, 7967, .inr (.inl (aL TL))))] sz = A at hW hQ
  generalize hH0 : s.heap = H at hW ⊢
  generalize hl0 : ([] : List Loc) = locs at hW ⊢
  have hX : FX p s m c [.ref ma, .int (nI i), .int (nI j)].toArray c_Ma_alike R_Ma := hX
  have hl : lv_has ls 7 [(0, .ref ma), (1, .int (nI i)), (2, .int (nI j))] := hl
  have gi := hG i hi
  have gj := hG j hj
  refine lv_aload_n hX.1 hX.2.1 d_Ma_alike_0 rfl (lv_at hl 0 rfl) ?_
  refine kget hX hW i_Ma 0 rfl rfl 4 (by decide) f_Ma_26 rfl rfl d_Ma_alike_1 ?_
  refine lv_iload_n hX.1 hX.2.1 d_Ma_alike_4 rfl (lv_at hl 1 rfl) ?_
  refine kiald hX hW 5 rfl (by omega) (by first | decide | omega) d_Ma_alike_5 ?_
  refine lv_aload_n hX.1 hX.2.1 d_Ma_alike_6 rfl (lv_at hl 0 rfl) ?_
  refine kget hX hW i_Ma 0 rfl rfl 4 (by decide) f_Ma_26 rfl rfl d_Ma_alike_7 ?_
  refine lv_iload_n hX.1 hX.2.1 d_Ma_alike_10 rfl (lv_at hl 2 rfl) ?_
  refine kiald hX hW 5 rfl (by omega) (by first | decide | omega) d_Ma_alike_11 ?_
  have k20 : ∀ (v : Nat), v = (alq NX GR i j 0).toNat → W p l e ({ frames := 0, cells := 0, slots := 0, locals := 0 } : Room) s m [.ref ma, .int (nI i), .int (nI j)].toArray below meth c H locs 0 0 Q (F0 m 20 ls [.int (nI v)]) := by
    intro v hv
    subst hv
    refine lv_istore_n (lv' := [(3, .int (nI ((alq NX GR i j 0).toNat))), (0, .ref ma), (1, .int (nI i)), (2, .int (nI j))]) hX.1 hX.2.1 d_Ma_alike_20 rfl hl (by decide) rfl (fun ls hl => ?_)
    refine lv_iconst (v := nI 0) hX.1 hX.2.1 d_Ma_alike_21 (by decide) ?_
    refine lv_istore (lv' := [(4, .int (nI 0)), (3, .int (nI ((alq NX GR i j 0).toNat))), (0, .ref ma), (1, .int (nI i)), (2, .int (nI j))]) hX.1 hX.2.1 d_Ma_alike_22 hl (by decide) rfl (fun ls hl => ?_)
    have lp : ∀ (fu : Nat) (a : Nat) (H : Heap) (locs : List Loc) (ls : Array Slot), a ≤ 4 → 4 < a + fu →  KW D k A s [(ma, .inr (1, [.ref se, .ref nu, .ref nx, .ref ac, .ref gr, .ref fn, .ref tl, .int (nI z)])), (se, .inl (k 0, 257, .inl (aN SE))), (nu, .inl (k 0, 257, .inl (aM NU))), (nx, .inl (k 0, 1028, .inl (aN NX))), (ac, .inl (k 0, 257, .inl (aN AC))), (gr, .inl (k 0, 257, .inl (aN GR))), (fn, .inl (k 0, 257, .inl (aN FN))), (tl, .inl (k 1, 7967, .inr (.inl (aL TL))))] H locs → lv_has ls 7 [(4, .int (nI a)), (3, .int (nI ((alq NX GR i j a).toNat))), (2, .int (nI j)), (1, .int (nI i)), (0, .ref ma)] → W p l e ({ frames := 0, cells := 0, slots := 0, locals := 0 } : Room) s m [.ref ma, .int (nI i), .int (nI j)].toArray below meth c H locs 0 0 Q (F0 m 24 ls []) := by
      intro fu
      induction fu with
      | zero => intro a H locs ls lp1 lp2 hW hl; exfalso; omega
      | succ fu ih =>
        intro a H locs ls lp1 lp2 hW hl
        refine lv_iload hX.1 hX.2.1 d_Ma_alike_24 (lv_at hl 0 rfl) ?_
        refine lv_iconst (v := nI 4) hX.1 hX.2.1 d_Ma_alike_26 (by decide) ?_
        refine kge hX (tgt := 89) (by omega) (by omega) d_Ma_alike_27 (by decide) (fun h1 => ?_) (fun h1 => ?_)
        · have e1 : a = 4 := by omega
          subst e1
          refine lv_iload_n hX.1 hX.2.1 d_Ma_alike_89 rfl (lv_at hl 1 rfl) ?_
          exact kzret hX hr hlocks hQ () (hW) (rfl) (bT_r _) d_Ma_alike_90
        · refine lv_iload_n hX.1 hX.2.1 d_Ma_alike_30 rfl (lv_at hl 1 rfl) ?_
          refine kz hX (tgt := 89) (bT _) d_Ma_alike_31 (by decide) (fun h2 => ?_) (fun h2 => ?_)
          · have e2 := alq_f (bT_0 h2) 4 (by omega)
            refine lv_iload_n hX.1 hX.2.1 d_Ma_alike_89 rfl (lv_at hl 1 rfl) ?_
            exact kzret hX hr hlocks hQ () (hW) (by rw [e2, bT_0 h2]) (bT_r _) d_Ma_alike_90
          · have n1 := hNX (i * 4 + a) (by omega)
            have n2 := hNX (j * 4 + a) (by omega)
            have g1 := hG _ n1
            have g2 := hG _ n2
            refine lv_aload_n hX.1 hX.2.1 d_Ma_alike_34 rfl (lv_at hl 4 rfl) ?_
            refine kget hX hW i_Ma 0 rfl rfl 2 (by decide) f_Ma_20 rfl rfl d_Ma_alike_35 ?_
            refine lv_iload_n hX.1 hX.2.1 d_Ma_alike_38 rfl (lv_at hl 3 rfl) ?_
            refine lv_iconst (v := nI 4) hX.1 hX.2.1 d_Ma_alike_39 (by decide) ?_
            refine lv_imul hX.1 hX.2.1 d_Ma_alike_40 ?_
            refine tpi (y := nI (i * 4)) (pk_mul _ _) ?_
            refine lv_iload hX.1 hX.2.1 d_Ma_alike_41 (lv_at hl 0 rfl) ?_
            refine lv_iadd hX.1 hX.2.1 d_Ma_alike_43 ?_
            refine tpi (y := nI (i * 4 + a)) (nI_add _ _) ?_
            refine kiald hX hW 3 rfl (by omega) (by first | decide | omega) d_Ma_alike_44 ?_
            refine lv_istore (lv' := [(5, .int (nI (NX (i * 4 + a)))), (4, .int (nI a)), (3, .int (nI ((alq NX GR i j a).toNat))), (2, .int (nI j)), (1, .int (nI i)), (0, .ref ma)]) hX.1 hX.2.1 d_Ma_alike_45 hl (by decide) rfl (fun ls hl => ?_)
            refine lv_aload_n hX.1 hX.2.1 d_Ma_alike_47 rfl (lv_at hl 5 rfl) ?_
            refine kget hX hW i_Ma 0 rfl rfl 2 (by decide) f_Ma_20 rfl rfl d_Ma_alike_48 ?_
            refine lv_iload_n hX.1 hX.2.1 d_Ma_alike_51 rfl (lv_at hl 3 rfl) ?_
            refine lv_iconst (v := nI 4) hX.1 hX.2.1 d_Ma_alike_52 (by decide) ?_
            refine lv_imul hX.1 hX.2.1 d_Ma_alike_53 ?_
            refine tpi (y := nI (j * 4)) (pk_mul _ _) ?_
            refine lv_iload hX.1 hX.2.1 d_Ma_alike_54 (lv_at hl 1 rfl) ?_
            refine lv_iadd hX.1 hX.2.1 d_Ma_alike_56 ?_
            refine tpi (y := nI (j * 4 + a)) (nI_add _ _) ?_
            refine kiald hX hW 3 rfl (by omega) (by first | decide | omega) d_Ma_alike_57 ?_
            refine lv_istore (lv' := [(6, .int (nI (NX (j * 4 + a)))), (5, .int (nI (NX (i * 4 + a)))), (4, .int (nI a)), (3, .int (nI ((alq NX GR i j a).toNat))), (2, .int (nI j)), (1, .int (nI i)), (0, .ref ma)]) hX.1 hX.2.1 d_Ma_alike_58 hl (by decide) rfl (fun ls hl => ?_)
            refine lv_aload_n hX.1 hX.2.1 d_Ma_alike_60 rfl (lv_at hl 6 rfl) ?_
            refine kget hX hW i_Ma 0 rfl rfl 4 (by decide) f_Ma_26 rfl rfl d_Ma_alike_61 ?_
            refine lv_iload hX.1 hX.2.1 d_Ma_alike_64 (lv_at hl 1 rfl) ?_
            refine kiald hX hW 5 rfl (hNX _ (by omega)) (by first | decide | omega) d_Ma_alike_66 ?_
            refine lv_aload_n hX.1 hX.2.1 d_Ma_alike_67 rfl (lv_at hl 6 rfl) ?_
            refine kget hX hW i_Ma 0 rfl rfl 4 (by decide) f_Ma_26 rfl rfl d_Ma_alike_68 ?_
            refine lv_iload hX.1 hX.2.1 d_Ma_alike_71 (lv_at hl 0 rfl) ?_
            refine kiald hX hW 5 rfl (hNX _ (by omega)) (by first | decide | omega) d_Ma_alike_73 ?_
            have k82 : ∀ (v : Nat), v = (alq NX GR i j (a + 1)).toNat → W p l e ({ frames := 0, cells := 0, slots := 0, locals := 0 } : Room) s m [.ref ma, .int (nI i), .int (nI j)].toArray below meth c H locs 0 0 Q (F0 m 82 ls [.int (nI v)]) := by
              intro v hv
              subst hv
              refine lv_istore_n (lv' := [(3, .int (nI ((alq NX GR i j (a + 1)).toNat))), (6, .int (nI (NX (j * 4 + a)))), (5, .int (nI (NX (i * 4 + a)))), (4, .int (nI a)), (2, .int (nI j)), (1, .int (nI i)), (0, .ref ma)]) hX.1 hX.2.1 d_Ma_alike_82 rfl hl (by decide) rfl (fun ls hl => ?_)
              refine lv_iinc (v := nI (a + 1)) (lv' := [(4, .int (nI (a + 1))), (3, .int (nI ((alq NX GR i j (a + 1)).toNat))), (6, .int (nI (NX (j * 4 + a)))), (5, .int (nI (NX (i * 4 + a)))), (2, .int (nI j)), (1, .int (nI i)), (0, .ref ma)]) hX.1 hX.2.1 d_Ma_alike_83 hl (k := 3) rfl (kn_inc _) (by decide) rfl (fun ls hl => ?_)
              refine lv_goto (tgt := 24) hX.1 hX.2.1 d_Ma_alike_86 (by decide) ?_
              exact ih (a + 1) H locs ls (by omega) (by omega) (hW) (lv_sub hl [0, 1, 4, 5, 6] rfl)
            refine kne hX (tgt := 81) (by omega) (by omega) d_Ma_alike_74 (by decide) (fun h3 => ?_) (fun h3 => ?_)
            · refine lv_iconst (v := nI 0) hX.1 hX.2.1 d_Ma_alike_81 (by decide) ?_
              exact k82 _ (by rw [alq, bT_1 h2]; simp [h3])
            · refine lv_iconst (v := nI 1) hX.1 hX.2.1 d_Ma_alike_77 (by decide) ?_
              refine lv_goto (tgt := 82) hX.1 hX.2.1 d_Ma_alike_78 (by decide) ?_
              exact k82 _ (by rw [alq, bT_1 h2]; simp [h3])
    exact lp 5 0 H locs ls (by omega) (by omega) (hW) (lv_sub hl [0, 1, 4, 3, 2] rfl)
  refine kne hX (tgt := 19) (by omega) (by omega) d_Ma_alike_12 (by decide) (fun h1 => ?_) (fun h1 => ?_)
  · refine lv_iconst (v := nI 0) hX.1 hX.2.1 d_Ma_alike_19 (by decide) ?_
    exact k20 _ (by simp [alq, h1])
  · refine lv_iconst (v := nI 1) hX.1 hX.2.1 d_Ma_alike_15 (by decide) ?_
    refine lv_goto (tgt := 20) hX.1 hX.2.1 d_Ma_alike_16 (by decide) ?_
    exact k20 _ (by simp [alq, h1])
set_option maxHeartbeats 4000000 in
set_option maxRecDepth 100000 in
/-- firstLike(j) -/
theorem ok_Ma_firstLike (l : Launch) (D : va_G) (k : Nat → ClassId) (sz : Nat) (ma se nu nx ac gr fn tl : Nat) (SE NU NX AC GR FN TL : Nat → Nat) (z : Nat) (j : Nat) (hj : j < 257) (hz : z ≤ 257) (hNX : ∀ x, x < 1028 → NX x < 257) (hG : ∀ x, x < 257 → GR x < 1000) : Met l y_Ma_firstLike (.code y_Ma_firstLike c_Ma_firstLike 3 (some .int) :: wsU) ({ frames := 1, cells := 0, slots := 0, locals := 26 } : Room) (kPre D k [.ref ma, .int (nI j)] [(ma, .inr (1, [.ref se, .ref nu, .ref nx, .ref ac, .ref gr, .ref fn, .ref tl, .int (nI z)])), (se, .inl (k 0, 257, .inl (aN SE))), (nu, .inl (k 0, 257, .inl (aM NU))), (nx, .inl (k 0, 1028, .inl (aN NX))), (ac, .inl (k 0, 257, .inl (aN AC))), (gr, .inl (k 0, 257, .inl (aN GR))), (fn, .inl (k 0, 257, .inl (aN FN))), (tl, .inl (k 1, 7967, .inr (.inl (aL TL))))] sz) (va_Qi (fun (r : Int32) (_ : Unit) => r = nI (flr NX GR j j 0)) (kB D k (fun _ : Unit => [(ma, .inr (1, [.ref se, .ref nu, .ref nx, .ref ac, .ref gr, .ref fn, .ref tl, .int (nI z)])), (se, .inl (k 0, 257, .inl (aN SE))), (nu, .inl (k 0, 257, .inl (aM NU))), (nx, .inl (k 0, 1028, .inl (aN NX))), (ac, .inl (k 0, 257, .inl (aN AC))), (gr, .inl (k 0, 257, .inl (aN GR))), (fn, .inl (k 0, 257, .inl (aN FN))), (tl, .inl (k 1, 7967, .inr (.inl (aL TL))))]) (va_A [(ma, .inr (1, [.ref se, .ref nu, .ref nx, .ref ac, .ref gr, .ref fn, .ref tl, .int (nI z)])), (se, .inl (k 0, 257, .inl (aN SE))), (nu, .inl (k 0, 257, .inl (aM NU))), (nx, .inl (k 0, 1028, .inl (aN NX))), (ac, .inl (k 0, 257, .inl (aN AC))), (gr, .inl (k 0, 257, .inl (aN GR))), (fn, .inl (k 0, 257, .inl (aN FN))), (tl, .inl (k 1, 7967, .inr (.inl (aL TL))))] sz)) (va_A [(ma, .inr (1, [.ref se, .ref nu, .ref nx, .ref ac, .ref gr, .ref fn, .ref tl, .int (nI z)])), (se, .inl (k 0, 257, .inl (aN SE))), (nu, .inl (k 0, 257, .inl (aM NU))), (nx, .inl (k 0, 1028, .inl (aN NX))), (ac, .inl (k 0, 257, .inl (aN AC))), (gr, .inl (k 0, 257, .inl (aN GR))), (fn, .inl (k 0, 257, .inl (aN FN))), (tl, .inl (k 1, 7967, .inr (.inl (aL TL))))] sz)) 0 0 (va_A [(ma, .inr (1, [.ref se, .ref nu, .ref nx, .ref ac, .ref gr, .ref fn, .ref tl, .int (nI z)])), (se, .inl (k 0, 257, .inl (aN SE))), (nu, .inl (k 0, 257, .inl (aM NU))), (nx, .inl (k 0, 1028, .inl (aN NX))), (ac, .inl (k 0, 257, .inl (aN AC))), (gr, .inl (k 0, 257, .inl (aN GR))), (fn, .inl (k 0, 257, .inl (aN FN))), (tl, .inl (k 1, 7967, .inr (.inl (aL TL))))] sz) := by
  refine kMet (by decide) (Nat.le_of_ble_eq_true rfl) ?_
  intro p e s m below meth c ls hX hml hr hlocks hin hsz hW hl Q hQ
  generalize hAe : va_A [(ma, .inr (1, [.ref se, .ref nu, .ref nx, .ref ac, .ref gr, .ref fn, .ref tl, .int (nI z)])), (se, .inl (k 0, 257, .inl (aN SE))), (nu, .inl (k 0, 257, .inl (aM NU))), (nx, .inl (k 0, 1028, .inl (aN NX))), (ac, .inl (k 0, 257, .inl (aN AC))), (gr, .inl (k 0, 257, .inl (aN GR))), (fn, .inl (k 0, 257, .inl (aN FN))), (tl, .inl (k 1, 7967, .inr (.inl (aL TL))))] sz = A at hW hQ
  generalize hH0 : s.heap = H at hW ⊢
  generalize hl0 : ([] : List Loc) = locs at hW ⊢
  have hX : FX p s m c [.ref ma, .int (nI j)].toArray c_Ma_firstLike R_Ma := hX
  have hl : lv_has ls 3 [(0, .ref ma), (1, .int (nI j))] := hl
  obtain ⟨o, ho⟩ : ∃ o, flr NX GR j j 0 = o := ⟨_, rfl⟩
  rw [ho] at hQ
  refine lv_iconst (v := nI 0) hX.1 hX.2.1 d_Ma_firstLike_0 (by decide) ?_
  refine lv_istore_n (lv' := [(2, .int (nI 0)), (0, .ref ma), (1, .int (nI j))]) hX.1 hX.2.1 d_Ma_firstLike_1 rfl hl (by decide) rfl (fun ls hl => ?_)
  have lp : ∀ (fu : Nat) (i : Nat) (H : Heap) (locs : List Loc) (ls : Array Slot), i ≤ j → j < i + fu → flr NX GR j (j - i) i = o →  KW D k A s [(ma, .inr (1, [.ref se, .ref nu, .ref nx, .ref ac, .ref gr, .ref fn, .ref tl, .int (nI z)])), (se, .inl (k 0, 257, .inl (aN SE))), (nu, .inl (k 0, 257, .inl (aM NU))), (nx, .inl (k 0, 1028, .inl (aN NX))), (ac, .inl (k 0, 257, .inl (aN AC))), (gr, .inl (k 0, 257, .inl (aN GR))), (fn, .inl (k 0, 257, .inl (aN FN))), (tl, .inl (k 1, 7967, .inr (.inl (aL TL))))] H locs → lv_has ls 3 [(2, .int (nI i)), (1, .int (nI j)), (0, .ref ma)] → W p l e ({ frames := 1, cells := 0, slots := 0, locals := 26 } : Room) s m [.ref ma, .int (nI j)].toArray below meth c H locs 0 0 Q (F0 m 2 ls []) := by
    intro fu
    induction fu with
    | zero => intro i H locs ls lp1 lp2 hz1 hW hl; exfalso; omega
    | succ fu ih =>
      intro i H locs ls lp1 lp2 hz1 hW hl
      refine lv_iload_n hX.1 hX.2.1 d_Ma_firstLike_2 rfl (lv_at hl 0 rfl) ?_
      refine lv_iload_n hX.1 hX.2.1 d_Ma_firstLike_3 rfl (lv_at hl 1 rfl) ?_
      refine kge hX (tgt := 24) (by omega) (by omega) d_Ma_firstLike_4 (by decide) (fun h1 => ?_) (fun h1 => ?_)
      · have e1 : i = j := by omega
        rw [show j - i = 0 by omega, flr] at hz1
        refine lv_iload_n hX.1 hX.2.1 d_Ma_firstLike_24 rfl (lv_at hl 1 rfl) ?_
        exact kiret hX hr hlocks hQ () (hW) (by rw [← hz1, e1]) d_Ma_firstLike_25
      · rw [show j - i = (j - (i + 1)) + 1 by omega, flr] at hz1
        refine lv_aload_n hX.1 hX.2.1 d_Ma_firstLike_7 rfl (lv_at hl 2 rfl) ?_
        refine lv_iload_n hX.1 hX.2.1 d_Ma_firstLike_8 rfl (lv_at hl 0 rfl) ?_
        refine lv_iload_n hX.1 hX.2.1 d_Ma_firstLike_9 rfl (lv_at hl 1 rfl) ?_
        refine kCi (wc := [(ma, .inr (1, [.ref se, .ref nu, .ref nx, .ref ac, .ref gr, .ref fn, .ref tl, .int (nI z)])), (se, .inl (k 0, 257, .inl (aN SE))), (nu, .inl (k 0, 257, .inl (aM NU))), (nx, .inl (k 0, 1028, .inl (aN NX))), (ac, .inl (k 0, 257, .inl (aN AC))), (gr, .inl (k 0, 257, .inl (aN GR))), (fn, .inl (k 0, 257, .inl (aN FN))), (tl, .inl (k 1, 7967, .inr (.inl (aL TL))))]) hW [0, 1, 2, 3, 4, 5, 6, 7] (by rfl) (by intro _; rfl) (kRunV (n := 2) (As := [.int (nI i), .int (nI j)]) (rest := []) hX hml hW (ok_Ma_alike l D k H.size ma se nu nx ac gr fn tl SE NU NX AC GR FN TL z i j (by omega) hj hz hNX hG) m_Ma_87 im_Ma_alike se_Ma_alike in_Ma cd_Ma_alike [0, 1, 2, 3, 4, 5, 6, 7] rfl rfl rfl rfl (by decide +kernel) ⟨rfl, rfl, by decide, by decide⟩ rfl hl.1 rfl (by decide) d_Ma_firstLike_10 ⟨by first | exact Nat.zero_le _ | decide | omega | (dsimp only; omega), by first | exact Nat.zero_le _ | decide | omega | (dsimp only; omega)⟩) (fun r u H locs hr1 hW => ?_)
        have hW : KW D k A s [(ma, .inr (1, [.ref se, .ref nu, .ref nx, .ref ac, .ref gr, .ref fn, .ref tl, .int (nI z)])), (se, .inl (k 0, 257, .inl (aN SE))), (nu, .inl (k 0, 257, .inl (aM NU))), (nx, .inl (k 0, 1028, .inl (aN NX))), (ac, .inl (k 0, 257, .inl (aN AC))), (gr, .inl (k 0, 257, .inl (aN GR))), (fn, .inl (k 0, 257, .inl (aN FN))), (tl, .inl (k 1, 7967, .inr (.inl (aL TL))))] H locs := hW
        subst hr1
        refine kz hX (tgt := 18) (bT _) d_Ma_firstLike_13 (by decide) (fun h2 => ?_) (fun h2 => ?_)
        · rw [bT_0 h2] at hz1
          refine lv_iinc (v := nI (i + 1)) (lv' := [(2, .int (nI (i + 1))), (1, .int (nI j)), (0, .ref ma)]) hX.1 hX.2.1 d_Ma_firstLike_18 hl (k := 0) rfl (kn_inc _) (by decide) rfl (fun ls hl => ?_)
          refine lv_goto (tgt := 2) hX.1 hX.2.1 d_Ma_firstLike_21 (by decide) ?_
          exact ih (i + 1) H locs ls (by omega) (by omega) hz1 (hW) (lv_sub hl [0, 1, 2] rfl)
        · rw [bT_1 h2] at hz1
          refine lv_iload_n hX.1 hX.2.1 d_Ma_firstLike_16 rfl (lv_at hl 0 rfl) ?_
          exact kiret hX hr hlocks hQ () (hW) (by rw [← hz1]; rfl) d_Ma_firstLike_17
  exact lp (j + 1) 0 H locs ls (by omega) (by omega) (by rw [Nat.sub_zero]; exact ho) (hW) (lv_sub hl [0, 2, 1] rfl)
set_option maxHeartbeats 4000000 in
set_option maxRecDepth 100000 in
/-- refine() -/
theorem ok_Ma_refine (l : Launch) (D : va_G) (k : Nat → ClassId) (sz : Nat) (ma se nu nx ac gr fn tl : Nat) (SE NU NX AC GR FN TL : Nat → Nat) (z : Nat) (hz : z ≤ 257) (hNX : ∀ x, x < 1028 → NX x < 257) (hG : ∀ x, x < 257 → GR x < 1000) : Met l y_Ma_refine (.code y_Ma_refine c_Ma_refine 4 (some .int) :: wsU) ({ frames := 2, cells := 0, slots := 0, locals := 60 } : Room) (kPre D k [.ref ma] [(ma, .inr (1, [.ref se, .ref nu, .ref nx, .ref ac, .ref gr, .ref fn, .ref tl, .int (nI z)])), (se, .inl (k 0, 257, .inl (aN SE))), (nu, .inl (k 0, 257, .inl (aM NU))), (nx, .inl (k 0, 1028, .inl (aN NX))), (ac, .inl (k 0, 257, .inl (aN AC))), (gr, .inl (k 0, 257, .inl (aN GR))), (fn, .inl (k 0, 257, .inl (aN FN))), (tl, .inl (k 1, 7967, .inr (.inl (aL TL))))] sz) (va_Qi (fun (r : Int32) (_ : Unit) => r = nI (rfs NX GR FN z).1) (kB D k (fun _ : Unit => [(ma, .inr (1, [.ref se, .ref nu, .ref nx, .ref ac, .ref gr, .ref fn, .ref tl, .int (nI z)])), (se, .inl (k 0, 257, .inl (aN SE))), (nu, .inl (k 0, 257, .inl (aM NU))), (nx, .inl (k 0, 1028, .inl (aN NX))), (ac, .inl (k 0, 257, .inl (aN AC))), (gr, .inl (k 0, 257, .inl (aN (cpz (rfs NX GR FN z).2 GR z)))), (fn, .inl (k 0, 257, .inl (aN ((rfs NX GR FN z).2)))), (tl, .inl (k 1, 7967, .inr (.inl (aL TL))))]) (va_A [(ma, .inr (1, [.ref se, .ref nu, .ref nx, .ref ac, .ref gr, .ref fn, .ref tl, .int (nI z)])), (se, .inl (k 0, 257, .inl (aN SE))), (nu, .inl (k 0, 257, .inl (aM NU))), (nx, .inl (k 0, 1028, .inl (aN NX))), (ac, .inl (k 0, 257, .inl (aN AC))), (gr, .inl (k 0, 257, .inl (aN GR))), (fn, .inl (k 0, 257, .inl (aN FN))), (tl, .inl (k 1, 7967, .inr (.inl (aL TL))))] sz)) (va_A [(ma, .inr (1, [.ref se, .ref nu, .ref nx, .ref ac, .ref gr, .ref fn, .ref tl, .int (nI z)])), (se, .inl (k 0, 257, .inl (aN SE))), (nu, .inl (k 0, 257, .inl (aM NU))), (nx, .inl (k 0, 1028, .inl (aN NX))), (ac, .inl (k 0, 257, .inl (aN AC))), (gr, .inl (k 0, 257, .inl (aN GR))), (fn, .inl (k 0, 257, .inl (aN FN))), (tl, .inl (k 1, 7967, .inr (.inl (aL TL))))] sz)) 0 0 (va_A [(ma, .inr (1, [.ref se, .ref nu, .ref nx, .ref ac, .ref gr, .ref fn, .ref tl, .int (nI z)])), (se, .inl (k 0, 257, .inl (aN SE))), (nu, .inl (k 0, 257, .inl (aM NU))), (nx, .inl (k 0, 1028, .inl (aN NX))), (ac, .inl (k 0, 257, .inl (aN AC))), (gr, .inl (k 0, 257, .inl (aN GR))), (fn, .inl (k 0, 257, .inl (aN FN))), (tl, .inl (k 1, 7967, .inr (.inl (aL TL))))] sz) := by
  refine kMet (by decide) (Nat.le_of_ble_eq_true rfl) ?_
  intro p e s m below meth c ls hX hml hr hlocks hin hsz hW hl Q hQ
  generalize hAe : va_A [(ma, .inr (1, [.ref se, .ref nu, .ref nx, .ref ac, .ref gr, .ref fn, .ref tl, .int (nI z)])), (se, .inl (k 0, 257, .inl (aN SE))), (nu, .inl (k 0, 257, .inl (aM NU))), (nx, .inl (k 0, 1028, .inl (aN NX))), (ac, .inl (k 0, 257, .inl (aN AC))), (gr, .inl (k 0, 257, .inl (aN GR))), (fn, .inl (k 0, 257, .inl (aN FN))), (tl, .inl (k 1, 7967, .inr (.inl (aL TL))))] sz = A at hW hQ
  generalize hH0 : s.heap = H at hW ⊢
  generalize hl0 : ([] : List Loc) = locs at hW ⊢
  have hX : FX p s m c [.ref ma].toArray c_Ma_refine R_Ma := hX
  have hl : lv_has ls 4 [(0, .ref ma)] := hl
  refine lv_iconst (v := nI 0) hX.1 hX.2.1 d_Ma_refine_0 (by decide) ?_
  refine lv_istore_n (lv' := [(1, .int (nI 0)), (0, .ref ma)]) hX.1 hX.2.1 d_Ma_refine_1 rfl hl (by decide) rfl (fun ls hl => ?_)
  refine lv_iconst (v := nI 0) hX.1 hX.2.1 d_Ma_refine_2 (by decide) ?_
  refine lv_istore_n (lv' := [(2, .int (nI 0)), (1, .int (nI 0)), (0, .ref ma)]) hX.1 hX.2.1 d_Ma_refine_3 rfl hl (by decide) rfl (fun ls hl => ?_)
  have lp : ∀ (fu : Nat) (s1 : Nat) (H : Heap) (locs : List Loc) (ls : Array Slot), s1 ≤ z → z < s1 + fu →  KW D k A s [(ma, .inr (1, [.ref se, .ref nu, .ref nx, .ref ac, .ref gr, .ref fn, .ref tl, .int (nI z)])), (se, .inl (k 0, 257, .inl (aN SE))), (nu, .inl (k 0, 257, .inl (aM NU))), (nx, .inl (k 0, 1028, .inl (aN NX))), (ac, .inl (k 0, 257, .inl (aN AC))), (gr, .inl (k 0, 257, .inl (aN GR))), (fn, .inl (k 0, 257, .inl (aN ((rfs NX GR FN s1).2)))), (tl, .inl (k 1, 7967, .inr (.inl (aL TL))))] H locs → lv_has ls 4 [(2, .int (nI s1)), (1, .int (nI ((rfs NX GR FN s1).1))), (0, .ref ma)] → W p l e ({ frames := 2, cells := 0, slots := 0, locals := 60 } : Room) s m [.ref ma].toArray below meth c H locs 0 0 Q (F0 m 4 ls []) := by
    intro fu
    induction fu with
    | zero => intro s1 H locs ls lp1 lp2 hW hl; exfalso; omega
    | succ fu ih =>
      intro s1 H locs ls lp1 lp2 hW hl
      refine lv_iload_n hX.1 hX.2.1 d_Ma_refine_4 rfl (lv_at hl 0 rfl) ?_
      refine lv_aload_n hX.1 hX.2.1 d_Ma_refine_5 rfl (lv_at hl 2 rfl) ?_
      refine kget hX hW i_Ma 0 rfl rfl 7 (by decide) f_Ma_36 rfl rfl d_Ma_refine_6 ?_
      refine kge hX (tgt := 54) (by omega) (by omega) d_Ma_refine_9 (by decide) (fun h1 => ?_) (fun h1 => ?_)
      · have e1 : z = s1 := by omega
        subst e1
        refine lv_aload_n hX.1 hX.2.1 d_Ma_refine_54 rfl (lv_at hl 2 rfl) ?_
        refine kget hX hW i_Ma 0 rfl rfl 5 (by decide) f_Ma_29 rfl rfl d_Ma_refine_55 ?_
        refine lv_iconst (v := nI 0) hX.1 hX.2.1 d_Ma_refine_58 (by decide) ?_
        refine lv_aload_n hX.1 hX.2.1 d_Ma_refine_59 rfl (lv_at hl 2 rfl) ?_
        refine kget hX hW i_Ma 0 rfl rfl 4 (by decide) f_Ma_26 rfl rfl d_Ma_refine_60 ?_
        refine lv_iconst (v := nI 0) hX.1 hX.2.1 d_Ma_refine_63 (by decide) ?_
        refine lv_aload_n hX.1 hX.2.1 d_Ma_refine_64 rfl (lv_at hl 2 rfl) ?_
        refine kget hX hW i_Ma 0 rfl rfl 7 (by decide) f_Ma_36 rfl rfl d_Ma_refine_65 ?_
        refine kcopy (sp := 0) (dp := 0) (n := z) hX (hml.trans hl.1.symm) hW m_Ma_74 6 5 rfl rfl (by omega) (by omega) (by decide) (by decide) (by decide) (by decide) d_Ma_refine_68 (fun H locs hW => ?_)
        rw [cpz_aN] at hW
        have hW : KW D k A s [(ma, .inr (1, [.ref se, .ref nu, .ref nx, .ref ac, .ref gr, .ref fn, .ref tl, .int (nI z)])), (se, .inl (k 0, 257, .inl (aN SE))), (nu, .inl (k 0, 257, .inl (aM NU))), (nx, .inl (k 0, 1028, .inl (aN NX))), (ac, .inl (k 0, 257, .inl (aN AC))), (gr, .inl (k 0, 257, .inl (aN (cpz (rfs NX GR FN z).2 GR z)))), (fn, .inl (k 0, 257, .inl (aN ((rfs NX GR FN z).2)))), (tl, .inl (k 1, 7967, .inr (.inl (aL TL))))] H locs := hW
        refine lv_iload_n hX.1 hX.2.1 d_Ma_refine_71 rfl (lv_at hl 1 rfl) ?_
        exact kiret hX hr hlocks hQ () (hW) (rfl) d_Ma_refine_72
      · refine lv_aload_n hX.1 hX.2.1 d_Ma_refine_12 rfl (lv_at hl 2 rfl) ?_
        refine lv_iload_n hX.1 hX.2.1 d_Ma_refine_13 rfl (lv_at hl 0 rfl) ?_
        refine kCi (wc := [(ma, .inr (1, [.ref se, .ref nu, .ref nx, .ref ac, .ref gr, .ref fn, .ref tl, .int (nI z)])), (se, .inl (k 0, 257, .inl (aN SE))), (nu, .inl (k 0, 257, .inl (aM NU))), (nx, .inl (k 0, 1028, .inl (aN NX))), (ac, .inl (k 0, 257, .inl (aN AC))), (gr, .inl (k 0, 257, .inl (aN GR))), (fn, .inl (k 0, 257, .inl (aN ((rfs NX GR FN s1).2)))), (tl, .inl (k 1, 7967, .inr (.inl (aL TL))))]) hW [0, 1, 2, 3, 4, 5, 6, 7] (by rfl) (by intro _; rfl) (kRunV (n := 1) (As := [.int (nI s1)]) (rest := []) hX hml hW (ok_Ma_firstLike l D k H.size ma se nu nx ac gr fn tl SE NU NX AC GR (rfs NX GR FN s1).2 TL z s1 (by omega) hz hNX hG) m_Ma_84 im_Ma_firstLike se_Ma_firstLike in_Ma cd_Ma_firstLike [0, 1, 2, 3, 4, 5, 6, 7] rfl rfl rfl rfl (by decide +kernel) ⟨rfl, rfl, by decide, by decide⟩ rfl hl.1 rfl (by decide) d_Ma_refine_14 ⟨by first | exact Nat.zero_le _ | decide | omega | (dsimp only; omega), by first | exact Nat.zero_le _ | decide | omega | (dsimp only; omega)⟩) (fun r u H locs hr1 hW => ?_)
        have hW : KW D k A s [(ma, .inr (1, [.ref se, .ref nu, .ref nx, .ref ac, .ref gr, .ref fn, .ref tl, .int (nI z)])), (se, .inl (k 0, 257, .inl (aN SE))), (nu, .inl (k 0, 257, .inl (aM NU))), (nx, .inl (k 0, 1028, .inl (aN NX))), (ac, .inl (k 0, 257, .inl (aN AC))), (gr, .inl (k 0, 257, .inl (aN GR))), (fn, .inl (k 0, 257, .inl (aN ((rfs NX GR FN s1).2)))), (tl, .inl (k 1, 7967, .inr (.inl (aL TL))))] H locs := hW
        subst hr1
        have hfl := flr_le NX GR s1 s1 0
        have hrl := rfs_le NX GR FN s1
        refine lv_istore_n (lv' := [(3, .int (nI (flr NX GR s1 s1 0))), (2, .int (nI s1)), (1, .int (nI ((rfs NX GR FN s1).1))), (0, .ref ma)]) hX.1 hX.2.1 d_Ma_refine_17 rfl hl (by decide) rfl (fun ls hl => ?_)
        refine lv_iload_n hX.1 hX.2.1 d_Ma_refine_18 rfl (lv_at hl 0 rfl) ?_
        refine lv_iload_n hX.1 hX.2.1 d_Ma_refine_19 rfl (lv_at hl 1 rfl) ?_
        refine kge hX (tgt := 38) (by omega) (by omega) d_Ma_refine_20 (by decide) (fun h2 => ?_) (fun h2 => ?_)
        · refine lv_aload_n hX.1 hX.2.1 d_Ma_refine_38 rfl (lv_at hl 3 rfl) ?_
          refine kget hX hW i_Ma 0 rfl rfl 5 (by decide) f_Ma_29 rfl rfl d_Ma_refine_39 ?_
          refine lv_iload_n hX.1 hX.2.1 d_Ma_refine_42 rfl (lv_at hl 1 rfl) ?_
          refine lv_iload_n hX.1 hX.2.1 d_Ma_refine_43 rfl (lv_at hl 2 rfl) ?_
          refine kiast hX hW 6 rfl (by omega) (by first | decide | omega) d_Ma_refine_44 (fun H locs hW => ?_)
          have hW : KW D k A s [(ma, .inr (1, [.ref se, .ref nu, .ref nx, .ref ac, .ref gr, .ref fn, .ref tl, .int (nI z)])), (se, .inl (k 0, 257, .inl (aN SE))), (nu, .inl (k 0, 257, .inl (aM NU))), (nx, .inl (k 0, 1028, .inl (aN NX))), (ac, .inl (k 0, 257, .inl (aN AC))), (gr, .inl (k 0, 257, .inl (aN GR))), (fn, .inl (k 0, 257, .inl (aN (va_up ((rfs NX GR FN s1).2) s1 ((rfs NX GR FN s1).1))))), (tl, .inl (k 1, 7967, .inr (.inl (aL TL))))] H locs := hW
          refine lv_iinc (v := nI (((rfs NX GR FN s1).1) + 1)) (lv' := [(1, .int (nI (((rfs NX GR FN s1).1) + 1))), (3, .int (nI (flr NX GR s1 s1 0))), (2, .int (nI s1)), (0, .ref ma)]) hX.1 hX.2.1 d_Ma_refine_45 hl (k := 2) rfl (kn_inc _) (by decide) rfl (fun ls hl => ?_)
          have e2 : rfs NX GR FN (s1 + 1) = ((rfs NX GR FN s1).1 + 1, va_up (rfs NX GR FN s1).2 s1 (rfs NX GR FN s1).1) := by rw [rfs, if_neg (by omega)]
          refine lv_iinc (v := nI (s1 + 1)) (lv' := [(2, .int (nI (s1 + 1))), (1, .int (nI (((rfs NX GR FN s1).1) + 1))), (3, .int (nI (flr NX GR s1 s1 0))), (0, .ref ma)]) hX.1 hX.2.1 d_Ma_refine_48 hl (k := 2) rfl (kn_inc _) (by decide) rfl (fun ls hl => ?_)
          refine lv_goto (tgt := 4) hX.1 hX.2.1 d_Ma_refine_51 (by decide) ?_
          exact ih (s1 + 1) H locs ls (by omega) (by omega) (by rw [e2]; exact hW) (by rw [e2]; exact lv_sub hl [0, 1, 3] rfl)
        · refine lv_aload_n hX.1 hX.2.1 d_Ma_refine_23 rfl (lv_at hl 3 rfl) ?_
          refine kget hX hW i_Ma 0 rfl rfl 5 (by decide) f_Ma_29 rfl rfl d_Ma_refine_24 ?_
          refine lv_iload_n hX.1 hX.2.1 d_Ma_refine_27 rfl (lv_at hl 1 rfl) ?_
          refine lv_aload_n hX.1 hX.2.1 d_Ma_refine_28 rfl (lv_at hl 3 rfl) ?_
          refine kget hX hW i_Ma 0 rfl rfl 5 (by decide) f_Ma_29 rfl rfl d_Ma_refine_29 ?_
          refine lv_iload_n hX.1 hX.2.1 d_Ma_refine_32 rfl (lv_at hl 0 rfl) ?_
          refine kiald hX hW 6 rfl (by omega) (by first | decide | omega) d_Ma_refine_33 ?_
          refine kiast hX hW 6 rfl (by omega) (by first | decide | omega) d_Ma_refine_34 (fun H locs hW => ?_)
          have hW : KW D k A s [(ma, .inr (1, [.ref se, .ref nu, .ref nx, .ref ac, .ref gr, .ref fn, .ref tl, .int (nI z)])), (se, .inl (k 0, 257, .inl (aN SE))), (nu, .inl (k 0, 257, .inl (aM NU))), (nx, .inl (k 0, 1028, .inl (aN NX))), (ac, .inl (k 0, 257, .inl (aN AC))), (gr, .inl (k 0, 257, .inl (aN GR))), (fn, .inl (k 0, 257, .inl (aN (va_up ((rfs NX GR FN s1).2) s1 (((rfs NX GR FN s1).2) (flr NX GR s1 s1 0)))))), (tl, .inl (k 1, 7967, .inr (.inl (aL TL))))] H locs := hW
          refine lv_goto (tgt := 48) hX.1 hX.2.1 d_Ma_refine_35 (by decide) ?_
          have e2 : rfs NX GR FN (s1 + 1) = ((rfs NX GR FN s1).1, va_up (rfs NX GR FN s1).2 s1 ((rfs NX GR FN s1).2 (flr NX GR s1 s1 0))) := by rw [rfs, if_pos h2]
          refine lv_iinc (v := nI (s1 + 1)) (lv' := [(2, .int (nI (s1 + 1))), (3, .int (nI (flr NX GR s1 s1 0))), (1, .int (nI ((rfs NX GR FN s1).1))), (0, .ref ma)]) hX.1 hX.2.1 d_Ma_refine_48 hl (k := 1) rfl (kn_inc _) (by decide) rfl (fun ls hl => ?_)
          refine lv_goto (tgt := 4) hX.1 hX.2.1 d_Ma_refine_51 (by decide) ?_
          exact ih (s1 + 1) H locs ls (by omega) (by omega) (by rw [e2]; exact hW) (by rw [e2]; exact lv_sub hl [0, 2, 3] rfl)
  exact lp (z + 1) 0 H locs ls (by omega) (by omega) (hW) (lv_sub hl [0, 1, 2] rfl)
