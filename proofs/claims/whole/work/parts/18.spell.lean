/-! THE MACHINE: spelling the k-th word -/
section KB4
variable {p : Program} {l : Launch} {e : Env} {R : Room} {s : State} {m : MethodId} {args : Array Value} {below : List Frame} {meth : Method} {c : Code} {H : Heap} {locs : List Loc} {cells slots : Nat} {Q : State → Prop}
variable {cc : ByteArray} {pc : Nat} {ls : Array Slot} {rest : List Value} {own : String}
theorem klcmp_lt (hX : FX p s m c args cc own) {a b : Nat} {off : Int} {tgt : Nat} (ha : a < 2 ^ 63) (hb : b < 2 ^ 63) (hd1 : decode cc pc = .ok (.lcmp, 1)) (hd2 : decode cc (pc + 1) = .ok (.ifCond .lt off, 3)) (ht : ((pc + 1 : Nat) : Int) + off = (tgt : Int))
    (kt : a < b → W p l e R s m args below meth c H locs cells slots Q (F0 m tgt ls rest)) (kf : b ≤ a → W p l e R s m args below meth c H locs cells slots Q (F0 m (pc + 1 + 3) ls rest)) : W p l e R s m args below meth c H locs cells slots Q (F0 m pc ls (.long (lN b) :: .long (lN a) :: rest)) :=
  W.lcmp hX.1 hX.2.1 hd1 (lv_if_lt hX.1 hX.2.1 hd2 ht (fun h => kt (by
    rcases Nat.lt_or_ge a b with q | q
    · exact q
    · have h1 := (lg_cmp_ge (lN a) (lN b)).mpr ((pk_lLE hb ha).mpr q)
      exact absurd h1 (Int32.not_le.mpr h))) (fun h => kf ((pk_lLE hb ha).mp ((lg_cmp_ge (lN a) (lN b)).mp (Int32.not_lt.mp h)))))
end KB4
/-- at letter c, r letters may still come: the letter, and what is left of k -/
def spl (NX TL : Nat → Nat) (q sh : Nat) : Nat → Nat → Nat → Nat × Nat
  | 0, c, k => (c, k)
  | r + 1, c, k => if TL (sh + NX (q * 4 + c)) ≤ k then spl NX TL q sh r (c + 1) (k - TL (sh + NX (q * 4 + c))) else (c, k)
theorem spl_ok (NX TL : Nat → Nat) (q sh : Nat) : ∀ r c k, (spl NX TL q sh r c k).1 ≤ c + r ∧ (spl NX TL q sh r c k).2 ≤ k := by
  intro r
  induction r with
  | zero => intro c k; exact ⟨Nat.le_refl _, Nat.le_refl _⟩
  | succ r ih =>
    intro c k
    rw [spl]
    split
    · have := ih (c + 1) (k - TL (sh + NX (q * 4 + c))); omega
    · exact ⟨by omega, Nat.le_refl _⟩
def spw (NX TL : Nat → Nat) : Nat → Nat → Nat → Nat → (Nat → Nat) → Nat → Nat
  | 0, _, _, _, L => L
  | r + 1, i, q, k, L => spw NX TL r (i + 1) (NX (q * 4 + (spl NX TL q (r * 257) 3 0 k).1)) (spl NX TL q (r * 257) 3 0 k).2 (va_up L i (spl NX TL q (r * 257) 3 0 k).1)
set_option maxHeartbeats 4000000 in
set_option maxRecDepth 100000 in
/-- spell(length, k, word) -/
theorem ok_Ma_spell (l : Launch) (D : va_G) (k : Nat → ClassId) (sz : Nat) (ma se nu nx ac gr fn tl : Nat) (SE NU NX AC GR FN TL : Nat → Nat) (z : Nat) (wo wl : Nat) (L : Nat → Nat) (y cp : Nat) (len kk : Nat) (hlen : len ≤ 30) (hcp : cp < 2 ^ 20) (hkk : kk < 2 ^ 63) (hNX : ∀ x, x < 1028 → NX x < 257) (hT : ∀ x, x < 7967 → TL x < 2 ^ 63) : Met l y_Ma_spell (.code y_Ma_spell c_Ma_spell 12 none :: wsU) ({ frames := 1, cells := 1, slots := len, locals := 21 } : Room) (kPre D k [.ref ma, .int (nI len), .long (lN kk), .ref wo] [(ma, .inr (1, [.ref se, .ref nu, .ref nx, .ref ac, .ref gr, .ref fn, .ref tl, .int (nI z)])), (se, .inl (k 0, 257, .inl (aN SE))), (nu, .inl (k 0, 257, .inl (aM NU))), (nx, .inl (k 0, 1028, .inl (aN NX))), (ac, .inl (k 0, 257, .inl (aN AC))), (gr, .inl (k 0, 257, .inl (aN GR))), (fn, .inl (k 0, 257, .inl (aN FN))), (tl, .inl (k 1, 7967, .inr (.inl (aL TL)))), (wo, .inr (6, [.ref wl, .int (nI y)])), (wl, .inl (k 0, cp, .inl (aN L)))] sz) (va_Qv (fun (_ : Nat) => True) (kB D k (fun u : Nat => [(ma, .inr (1, [.ref se, .ref nu, .ref nx, .ref ac, .ref gr, .ref fn, .ref tl, .int (nI z)])), (se, .inl (k 0, 257, .inl (aN SE))), (nu, .inl (k 0, 257, .inl (aM NU))), (nx, .inl (k 0, 1028, .inl (aN NX))), (ac, .inl (k 0, 257, .inl (aN AC))), (gr, .inl (k 0, 257, .inl (aN GR))), (fn, .inl (k 0, 257, .inl (aN FN))), (tl, .inl (k 1, 7967, .inr (.inl (aL TL)))), (wo, .inr (6, [.ref u, .int (nI len)])), (u, .inl (k 0, (if len ≤ cp then cp else len), .inl (aN (spw NX TL len 0 0 kk (if len ≤ cp then L else fun _ => 0)))))]) (va_A [(ma, .inr (1, [.ref se, .ref nu, .ref nx, .ref ac, .ref gr, .ref fn, .ref tl, .int (nI z)])), (se, .inl (k 0, 257, .inl (aN SE))), (nu, .inl (k 0, 257, .inl (aM NU))), (nx, .inl (k 0, 1028, .inl (aN NX))), (ac, .inl (k 0, 257, .inl (aN AC))), (gr, .inl (k 0, 257, .inl (aN GR))), (fn, .inl (k 0, 257, .inl (aN FN))), (tl, .inl (k 1, 7967, .inr (.inl (aL TL)))), (wo, .inr (6, [.ref wl, .int (nI y)])), (wl, .inl (k 0, cp, .inl (aN L)))] sz)) (va_A [(ma, .inr (1, [.ref se, .ref nu, .ref nx, .ref ac, .ref gr, .ref fn, .ref tl, .int (nI z)])), (se, .inl (k 0, 257, .inl (aN SE))), (nu, .inl (k 0, 257, .inl (aM NU))), (nx, .inl (k 0, 1028, .inl (aN NX))), (ac, .inl (k 0, 257, .inl (aN AC))), (gr, .inl (k 0, 257, .inl (aN GR))), (fn, .inl (k 0, 257, .inl (aN FN))), (tl, .inl (k 1, 7967, .inr (.inl (aL TL)))), (wo, .inr (6, [.ref wl, .int (nI y)])), (wl, .inl (k 0, cp, .inl (aN L)))] sz)) 1 len (va_A [(ma, .inr (1, [.ref se, .ref nu, .ref nx, .ref ac, .ref gr, .ref fn, .ref tl, .int (nI z)])), (se, .inl (k 0, 257, .inl (aN SE))), (nu, .inl (k 0, 257, .inl (aM NU))), (nx, .inl (k 0, 1028, .inl (aN NX))), (ac, .inl (k 0, 257, .inl (aN AC))), (gr, .inl (k 0, 257, .inl (aN GR))), (fn, .inl (k 0, 257, .inl (aN FN))), (tl, .inl (k 1, 7967, .inr (.inl (aL TL)))), (wo, .inr (6, [.ref wl, .int (nI y)])), (wl, .inl (k 0, cp, .inl (aN L)))] sz) := by
  refine kMet (by decide) (Nat.le_of_ble_eq_true rfl) ?_
  intro p e s m below meth c ls hX hml hr hlocks hin hsz hW hl Q hQ
  generalize hAe : va_A [(ma, .inr (1, [.ref se, .ref nu, .ref nx, .ref ac, .ref gr, .ref fn, .ref tl, .int (nI z)])), (se, .inl (k 0, 257, .inl (aN SE))), (nu, .inl (k 0, 257, .inl (aM NU))), (nx, .inl (k 0, 1028, .inl (aN NX))), (ac, .inl (k 0, 257, .inl (aN AC))), (gr, .inl (k 0, 257, .inl (aN GR))), (fn, .inl (k 0, 257, .inl (aN FN))), (tl, .inl (k 1, 7967, .inr (.inl (aL TL)))), (wo, .inr (6, [.ref wl, .int (nI y)])), (wl, .inl (k 0, cp, .inl (aN L)))] sz = A at hW hQ
  generalize hH0 : s.heap = H at hW ⊢
  generalize hl0 : ([] : List Loc) = locs at hW ⊢
  have hX : FX p s m c [.ref ma, .int (nI len), .long (lN kk), .ref wo].toArray c_Ma_spell R_Ma := hX
  have hl : lv_has ls 12 [(0, .ref ma), (1, .int (nI len)), (2, .long (lN kk)), (4, .ref wo)] := hl
  refine lv_aload hX.1 hX.2.1 d_Ma_spell_0 (lv_at hl 3 rfl) ?_
  refine lv_iload_n hX.1 hX.2.1 d_Ma_spell_2 rfl (lv_at hl 1 rfl) ?_
  refine kCv (wc := [(wo, .inr (6, [.ref wl, .int (nI y)])), (wl, .inl (k 0, cp, .inl (aN L)))]) hW [8, 9] (by rfl) (by intro _; rfl) (kRunV (n := 1) (As := [.int (nI len)]) (rest := []) hX hml hW (ok_Wo_resize l D k H.size wo wl L y cp len (by omega) hcp) m_Ma_65 im_Wo_resize se_Wo_resize in_Wo cd_Wo_resize [8, 9] rfl rfl rfl rfl (by decide +kernel) ⟨rfl, rfl, Nat.le_of_ble_eq_true rfl, Nat.le_of_ble_eq_true rfl⟩ rfl hl.1 rfl (Nat.le_of_ble_eq_true rfl) d_Ma_spell_3 ⟨by first | exact Nat.zero_le _ | decide | omega | (dsimp only; omega), by first | exact Nat.zero_le _ | decide | omega | (dsimp only; omega)⟩) (fun u H locs _ hW => ?_)
  have hW : KW D k A s [(ma, .inr (1, [.ref se, .ref nu, .ref nx, .ref ac, .ref gr, .ref fn, .ref tl, .int (nI z)])), (se, .inl (k 0, 257, .inl (aN SE))), (nu, .inl (k 0, 257, .inl (aM NU))), (nx, .inl (k 0, 1028, .inl (aN NX))), (ac, .inl (k 0, 257, .inl (aN AC))), (gr, .inl (k 0, 257, .inl (aN GR))), (fn, .inl (k 0, 257, .inl (aN FN))), (tl, .inl (k 1, 7967, .inr (.inl (aL TL)))), (wo, .inr (6, [.ref u, .int (nI len)])), (u, .inl (k 0, (if len ≤ cp then cp else len), .inl (aN (if len ≤ cp then L else fun _ => 0))))] H locs := hW
  refine W.widen (k := 1) (n := len) (by omega) (by omega) ?_
  have hc2 : len ≤ (if len ≤ cp then cp else len) := by split <;> omega
  have hc3 : (if len ≤ cp then cp else len) < 2 ^ 20 := by split <;> omega
  generalize hL0 : (if len ≤ cp then L else fun _ => 0) = L0 at hW hQ
  generalize hC0 : (if len ≤ cp then cp else len) = c0 at hW hQ hc2 hc3
  obtain ⟨o, ho⟩ : ∃ o, spw NX TL len 0 0 kk L0 = o := ⟨_, rfl⟩
  rw [ho] at hQ
  refine lv_iconst (v := nI 0) hX.1 hX.2.1 d_Ma_spell_6 (by decide) ?_
  refine lv_istore (lv' := [(5, .int (nI 0)), (0, .ref ma), (1, .int (nI len)), (2, .long (lN kk)), (4, .ref wo)]) hX.1 hX.2.1 d_Ma_spell_7 hl (by decide) rfl (fun ls hl => ?_)
  refine lv_lload_n hX.1 hX.2.1 d_Ma_spell_9 rfl (lv_at hl 3 rfl) ?_
  refine lv_lstore (lv' := [(6, .long (lN kk)), (5, .int (nI 0)), (0, .ref ma), (1, .int (nI len)), (2, .long (lN kk)), (4, .ref wo)]) hX.1 hX.2.1 d_Ma_spell_10 hl (by decide) rfl (fun ls hl => ?_)
  refine lv_iconst (v := nI 0) hX.1 hX.2.1 d_Ma_spell_12 (by decide) ?_
  refine lv_istore (lv' := [(8, .int (nI 0)), (6, .long (lN kk)), (5, .int (nI 0)), (0, .ref ma), (1, .int (nI len)), (2, .long (lN kk)), (4, .ref wo)]) hX.1 hX.2.1 d_Ma_spell_13 hl (by decide) rfl (fun ls hl => ?_)
  have lp : ∀ (fu : Nat) (i : Nat) (q : Nat) (k1 : Nat) (L1 : Nat → Nat) (H : Heap) (locs : List Loc) (ls : Array Slot), (i ≤ len) → (len < i + fu) → (spw NX TL (len - i) i q k1 L1 = o) → (q < 257) → (k1 < 2 ^ 63) →  KW D k A s [(ma, .inr (1, [.ref se, .ref nu, .ref nx, .ref ac, .ref gr, .ref fn, .ref tl, .int (nI z)])), (se, .inl (k 0, 257, .inl (aN SE))), (nu, .inl (k 0, 257, .inl (aM NU))), (nx, .inl (k 0, 1028, .inl (aN NX))), (ac, .inl (k 0, 257, .inl (aN AC))), (gr, .inl (k 0, 257, .inl (aN GR))), (fn, .inl (k 0, 257, .inl (aN FN))), (tl, .inl (k 1, 7967, .inr (.inl (aL TL)))), (wo, .inr (6, [.ref u, .int (nI len)])), (u, .inl (k 0, c0, .inl (aN L1)))] H locs → lv_has ls 12 [(8, .int (nI i)), (6, .long (lN k1)), (5, .int (nI q)), (4, .ref wo), (2, .long (lN kk)), (1, .int (nI len)), (0, .ref ma)] → W p l e ({ frames := 1, cells := 1, slots := len, locals := 21 } : Room) s m [.ref ma, .int (nI len), .long (lN kk), .ref wo].toArray below meth c H locs 1 len Q (F0 m 15 ls []) := by
    intro fu
    induction fu with
    | zero => intro i q k1 L1 H locs ls lp1 lp2 hs hq hk1 hW hl; exfalso; omega
    | succ fu ih =>
      intro i q k1 L1 H locs ls lp1 lp2 hs hq hk1 hW hl
      refine lv_iload hX.1 hX.2.1 d_Ma_spell_15 (lv_at hl 0 rfl) ?_
      refine lv_iload_n hX.1 hX.2.1 d_Ma_spell_17 rfl (lv_at hl 5 rfl) ?_
      refine kge hX (tgt := 124) (by omega) (by omega) d_Ma_spell_18 (by decide) (fun h1 => ?_) (fun h1 => ?_)
      · rw [show len - i = 0 by omega, spw] at hs
        subst hs
        exact kvret hX hr hlocks hQ u (hW) (trivial) d_Ma_spell_124
      · rw [show len - i = (len - 1 - i) + 1 by omega, spw] at hs
        have hsp := spl_ok NX TL q ((len - 1 - i) * 257) 3 0 k1
        obtain ⟨oo, hoo⟩ : ∃ oo, spl NX TL q ((len - 1 - i) * 257) 3 0 k1 = oo := ⟨_, rfl⟩
        rw [hoo] at hs hsp
        refine lv_iload_n hX.1 hX.2.1 d_Ma_spell_21 rfl (lv_at hl 5 rfl) ?_
        refine lv_iconst (v := nI 1) hX.1 hX.2.1 d_Ma_spell_22 (by decide) ?_
        refine lv_isub hX.1 hX.2.1 d_Ma_spell_23 ?_
        refine tpi (y := nI (len - 1)) (pk_sub (by omega)) ?_
        refine lv_iload hX.1 hX.2.1 d_Ma_spell_24 (lv_at hl 0 rfl) ?_
        refine lv_isub hX.1 hX.2.1 d_Ma_spell_26 ?_
        refine tpi (y := nI (len - 1 - i)) (pk_sub (by omega)) ?_
        refine lv_sipush (v := nI 257) hX.1 hX.2.1 d_Ma_spell_27 (by decide) ?_
        refine lv_imul hX.1 hX.2.1 d_Ma_spell_30 ?_
        refine tpi (y := nI ((len - 1 - i) * 257)) (pk_mul _ _) ?_
        refine lv_istore (lv' := [(9, .int (nI ((len - 1 - i) * 257))), (8, .int (nI i)), (6, .long (lN k1)), (5, .int (nI q)), (4, .ref wo), (2, .long (lN kk)), (1, .int (nI len)), (0, .ref ma)]) hX.1 hX.2.1 d_Ma_spell_31 hl (by decide) rfl (fun ls hl => ?_)
        refine lv_iconst (v := nI 0) hX.1 hX.2.1 d_Ma_spell_33 (by decide) ?_
        refine lv_istore (lv' := [(10, .int (nI 0)), (9, .int (nI ((len - 1 - i) * 257))), (8, .int (nI i)), (6, .long (lN k1)), (5, .int (nI q)), (4, .ref wo), (2, .long (lN kk)), (1, .int (nI len)), (0, .ref ma)]) hX.1 hX.2.1 d_Ma_spell_34 hl (by decide) rfl (fun ls hl => ?_)
        refine lv_aload_n hX.1 hX.2.1 d_Ma_spell_36 rfl (lv_at hl 8 rfl) ?_
        refine kget hX hW i_Ma 0 rfl rfl 2 (by decide) f_Ma_20 rfl rfl d_Ma_spell_37 ?_
        refine lv_iload hX.1 hX.2.1 d_Ma_spell_40 (lv_at hl 4 rfl) ?_
        refine lv_iconst (v := nI 4) hX.1 hX.2.1 d_Ma_spell_42 (by decide) ?_
        refine lv_imul hX.1 hX.2.1 d_Ma_spell_43 ?_
        refine tpi (y := nI (q * 4)) (pk_mul _ _) ?_
        refine kiald hX hW 3 rfl (by omega) (by first | decide | omega) d_Ma_spell_44 ?_
        refine lv_istore (lv' := [(11, .int (nI (NX (q * 4 + 0)))), (10, .int (nI 0)), (9, .int (nI ((len - 1 - i) * 257))), (8, .int (nI i)), (6, .long (lN k1)), (5, .int (nI q)), (4, .ref wo), (2, .long (lN kk)), (1, .int (nI len)), (0, .ref ma)]) hX.1 hX.2.1 d_Ma_spell_45 hl (by decide) rfl (fun ls hl => ?_)
        have ih0 := ih
        have lq : ∀ (fu : Nat) (ch : Nat) (k2 : Nat) (H : Heap) (locs : List Loc) (ls : Array Slot), (ch ≤ 3) → (3 < ch + fu) → (spl NX TL q ((len - 1 - i) * 257) (3 - ch) ch k2 = oo) → (k2 < 2 ^ 63) →  KW D k A s [(ma, .inr (1, [.ref se, .ref nu, .ref nx, .ref ac, .ref gr, .ref fn, .ref tl, .int (nI z)])), (se, .inl (k 0, 257, .inl (aN SE))), (nu, .inl (k 0, 257, .inl (aM NU))), (nx, .inl (k 0, 1028, .inl (aN NX))), (ac, .inl (k 0, 257, .inl (aN AC))), (gr, .inl (k 0, 257, .inl (aN GR))), (fn, .inl (k 0, 257, .inl (aN FN))), (tl, .inl (k 1, 7967, .inr (.inl (aL TL)))), (wo, .inr (6, [.ref u, .int (nI len)])), (u, .inl (k 0, c0, .inl (aN L1)))] H locs → lv_has ls 12 [(11, .int (nI (NX (q * 4 + ch)))), (10, .int (nI ch)), (9, .int (nI ((len - 1 - i) * 257))), (8, .int (nI i)), (6, .long (lN k2)), (5, .int (nI q)), (4, .ref wo), (2, .long (lN kk)), (1, .int (nI len)), (0, .ref ma)] → W p l e ({ frames := 1, cells := 1, slots := len, locals := 21 } : Room) s m [.ref ma, .int (nI len), .long (lN kk), .ref wo].toArray below meth c H locs 1 len Q (F0 m 47 ls []) := by
          intro fu
          induction fu with
          | zero => intro ch k2 H locs ls lq1 lq2 hl1 hk2 hW hl; exfalso; omega
          | succ fu ih =>
            intro ch k2 H locs ls lq1 lq2 hl1 hk2 hW hl
            have nx1 := hNX (q * 4 + ch) (by omega)
            have k104 : oo = (ch, k2) → W p l e ({ frames := 1, cells := 1, slots := len, locals := 21 } : Room) s m [.ref ma, .int (nI len), .long (lN kk), .ref wo].toArray below meth c H locs 1 len Q (F0 m 104 ls []) := by
              intro hoo2
              subst hoo2
              refine lv_aload hX.1 hX.2.1 d_Ma_spell_104 (lv_at hl 6 rfl) ?_
              refine kget hX hW i_Wo 8 rfl rfl 0 (by decide) f_Ma_71 rfl rfl d_Ma_spell_106 ?_
              refine lv_iload hX.1 hX.2.1 d_Ma_spell_109 (lv_at hl 3 rfl) ?_
              refine lv_iload hX.1 hX.2.1 d_Ma_spell_111 (lv_at hl 1 rfl) ?_
              refine kiast hX hW 9 rfl (by omega) (by first | decide | omega) d_Ma_spell_113 (fun H locs hW => ?_)
              have hW : KW D k A s [(ma, .inr (1, [.ref se, .ref nu, .ref nx, .ref ac, .ref gr, .ref fn, .ref tl, .int (nI z)])), (se, .inl (k 0, 257, .inl (aN SE))), (nu, .inl (k 0, 257, .inl (aM NU))), (nx, .inl (k 0, 1028, .inl (aN NX))), (ac, .inl (k 0, 257, .inl (aN AC))), (gr, .inl (k 0, 257, .inl (aN GR))), (fn, .inl (k 0, 257, .inl (aN FN))), (tl, .inl (k 1, 7967, .inr (.inl (aL TL)))), (wo, .inr (6, [.ref u, .int (nI len)])), (u, .inl (k 0, c0, .inl (aN (va_up L1 i ch))))] H locs := hW
              refine lv_iload hX.1 hX.2.1 d_Ma_spell_114 (lv_at hl 0 rfl) ?_
              refine lv_istore (lv' := [(5, .int (nI (NX (q * 4 + ch)))), (11, .int (nI (NX (q * 4 + ch)))), (10, .int (nI ch)), (9, .int (nI ((len - 1 - i) * 257))), (8, .int (nI i)), (6, .long (lN k2)), (4, .ref wo), (2, .long (lN kk)), (1, .int (nI len)), (0, .ref ma)]) hX.1 hX.2.1 d_Ma_spell_116 hl (by decide) rfl (fun ls hl => ?_)
              refine lv_iinc (v := nI (i + 1)) (lv' := [(8, .int (nI (i + 1))), (5, .int (nI (NX (q * 4 + ch)))), (11, .int (nI (NX (q * 4 + ch)))), (10, .int (nI ch)), (9, .int (nI ((len - 1 - i) * 257))), (6, .long (lN k2)), (4, .ref wo), (2, .long (lN kk)), (1, .int (nI len)), (0, .ref ma)]) hX.1 hX.2.1 d_Ma_spell_118 hl (k := 4) rfl (kn_inc _) (by decide) rfl (fun ls hl => ?_)
              refine lv_goto (tgt := 15) hX.1 hX.2.1 d_Ma_spell_121 (by decide) ?_
              exact ih0 (i + 1) (NX (q * 4 + ch)) k2 (va_up L1 i ch) H locs ls (by omega) (by omega) (by rw [show len - (i + 1) = len - 1 - i by omega]; exact hs) nx1 hk2 hW (lv_sub hl [0, 5, 1, 6, 7, 8, 9] rfl)
            refine lv_iload hX.1 hX.2.1 d_Ma_spell_47 (lv_at hl 1 rfl) ?_
            refine lv_iconst (v := nI 3) hX.1 hX.2.1 d_Ma_spell_49 (by decide) ?_
            refine kge hX (tgt := 104) (by omega) (by omega) d_Ma_spell_50 (by decide) (fun h2 => ?_) (fun h2 => ?_)
            · have e3 : ch = 3 := by omega
              subst e3
              rw [Nat.sub_self, spl] at hl1
              exact k104 hl1.symm
            · have tb1 := hT ((len - 1 - i) * 257 + NX (q * 4 + ch)) (by omega)
              refine lv_lload hX.1 hX.2.1 d_Ma_spell_53 (lv_at hl 4 rfl) ?_
              refine lv_aload_n hX.1 hX.2.1 d_Ma_spell_55 rfl (lv_at hl 9 rfl) ?_
              refine kget hX hW i_Ma 0 rfl rfl 6 (by decide) f_Ma_32 rfl rfl d_Ma_spell_56 ?_
              refine lv_iload hX.1 hX.2.1 d_Ma_spell_59 (lv_at hl 2 rfl) ?_
              refine lv_iload hX.1 hX.2.1 d_Ma_spell_61 (lv_at hl 0 rfl) ?_
              refine lv_iadd hX.1 hX.2.1 d_Ma_spell_63 ?_
              refine tpi (y := nI ((len - 1 - i) * 257 + NX (q * 4 + ch))) (nI_add _ _) ?_
              refine klald hX hW 7 rfl (by omega) (by first | decide | omega) d_Ma_spell_64 ?_
              rw [show 3 - ch = (3 - (ch + 1)) + 1 by omega, spl] at hl1
              refine klcmp_lt hX (tgt := 104) hk2 tb1 d_Ma_spell_65 d_Ma_spell_66 (by decide) (fun h3 => ?_) (fun h3 => ?_)
              · rw [if_neg (by omega)] at hl1
                exact k104 hl1.symm
              · rw [if_pos h3] at hl1
                refine lv_lload hX.1 hX.2.1 d_Ma_spell_69 (lv_at hl 4 rfl) ?_
                refine lv_aload_n hX.1 hX.2.1 d_Ma_spell_71 rfl (lv_at hl 9 rfl) ?_
                refine kget hX hW i_Ma 0 rfl rfl 6 (by decide) f_Ma_32 rfl rfl d_Ma_spell_72 ?_
                refine lv_iload hX.1 hX.2.1 d_Ma_spell_75 (lv_at hl 2 rfl) ?_
                refine lv_iload hX.1 hX.2.1 d_Ma_spell_77 (lv_at hl 0 rfl) ?_
                refine lv_iadd hX.1 hX.2.1 d_Ma_spell_79 ?_
                refine tpi (y := nI ((len - 1 - i) * 257 + NX (q * 4 + ch))) (nI_add _ _) ?_
                refine klald hX hW 7 rfl (by omega) (by first | decide | omega) d_Ma_spell_80 ?_
                refine lv_lsub hX.1 hX.2.1 d_Ma_spell_81 ?_
                refine tpl (y := lN (k2 - TL ((len - 1 - i) * 257 + NX (q * 4 + ch)))) (lN_sub h3) ?_
                refine lv_lstore (lv' := [(6, .long (lN (k2 - TL ((len - 1 - i) * 257 + NX (q * 4 + ch))))), (11, .int (nI (NX (q * 4 + ch)))), (10, .int (nI ch)), (9, .int (nI ((len - 1 - i) * 257))), (8, .int (nI i)), (5, .int (nI q)), (4, .ref wo), (2, .long (lN kk)), (1, .int (nI len)), (0, .ref ma)]) hX.1 hX.2.1 d_Ma_spell_82 hl (by decide) rfl (fun ls hl => ?_)
                refine lv_iinc (v := nI (ch + 1)) (lv' := [(10, .int (nI (ch + 1))), (6, .long (lN (k2 - TL ((len - 1 - i) * 257 + NX (q * 4 + ch))))), (11, .int (nI (NX (q * 4 + ch)))), (9, .int (nI ((len - 1 - i) * 257))), (8, .int (nI i)), (5, .int (nI q)), (4, .ref wo), (2, .long (lN kk)), (1, .int (nI len)), (0, .ref ma)]) hX.1 hX.2.1 d_Ma_spell_84 hl (k := 2) rfl (kn_inc _) (by decide) rfl (fun ls hl => ?_)
                refine lv_aload_n hX.1 hX.2.1 d_Ma_spell_87 rfl (lv_at hl 9 rfl) ?_
                refine kget hX hW i_Ma 0 rfl rfl 2 (by decide) f_Ma_20 rfl rfl d_Ma_spell_88 ?_
                refine lv_iload hX.1 hX.2.1 d_Ma_spell_91 (lv_at hl 5 rfl) ?_
                refine lv_iconst (v := nI 4) hX.1 hX.2.1 d_Ma_spell_93 (by decide) ?_
                refine lv_imul hX.1 hX.2.1 d_Ma_spell_94 ?_
                refine tpi (y := nI (q * 4)) (pk_mul _ _) ?_
                refine lv_iload hX.1 hX.2.1 d_Ma_spell_95 (lv_at hl 0 rfl) ?_
                refine lv_iadd hX.1 hX.2.1 d_Ma_spell_97 ?_
                refine tpi (y := nI (q * 4 + (ch + 1))) (nI_add _ _) ?_
                refine kiald hX hW 3 rfl (by omega) (by first | decide | omega) d_Ma_spell_98 ?_
                refine lv_istore (lv' := [(11, .int (nI (NX (q * 4 + (ch + 1))))), (10, .int (nI (ch + 1))), (6, .long (lN (k2 - TL ((len - 1 - i) * 257 + NX (q * 4 + ch))))), (9, .int (nI ((len - 1 - i) * 257))), (8, .int (nI i)), (5, .int (nI q)), (4, .ref wo), (2, .long (lN kk)), (1, .int (nI len)), (0, .ref ma)]) hX.1 hX.2.1 d_Ma_spell_99 hl (by decide) rfl (fun ls hl => ?_)
                refine lv_goto (tgt := 47) hX.1 hX.2.1 d_Ma_spell_101 (by decide) ?_
                exact ih (ch + 1) _ H locs ls (by omega) (by omega) hl1 (by omega) (hW) (lv_sub hl [0, 1, 3, 4, 2, 5, 6, 7, 8, 9] rfl)
        exact lq 4 0 k1 H locs ls (by omega) (by omega) hoo hk1 (hW) (lv_sub hl [0, 1, 2, 3, 4, 5, 6, 7, 8, 9] rfl)
  exact lp (len + 1) 0 0 kk L0 H locs ls (by omega) (by omega) ho (by decide) hkk (hW) (lv_sub hl [0, 1, 2, 6, 5, 4, 3] rfl)
