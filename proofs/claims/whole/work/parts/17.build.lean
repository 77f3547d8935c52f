/-! THE MACHINE: building -/
theorem onw_lt {FO : Nat → Nat} {S : Nat} (hF : ∀ p, p < 9 → FO p < 256) : ∀ p, p ≤ 9 → onw FO S p < 256 := by
  intro p
  induction p with
  | zero => intro _; show (0 : Nat) < 256; decide
  | succ p ih =>
    intro hp
    rw [onw]
    refine or256 (ih (by omega)) ?_
    split
    · exact hF p (by omega)
    · decide
theorem nq_at {en S : Nat} {m : MZ} (h : MI m) (hS : S < 257) : (nq en S m).2.2.1 S - 1 < 257 := by
  obtain ⟨z, SE, NU, AC⟩ := m
  have h2 := MI_nq (en := en) h hS
  rw [nq] at h2 ⊢
  split
  · rename_i h0
    have := MI_new h hS h0
    show va_up NU S (z + 1) S - 1 < 257
    rw [va_up_self]; omega
  · rename_i h0
    obtain ⟨h1, -, h3, -⟩ := h
    have := (h3 S hS h0).1
    show NU S - 1 < 257
    omega
def NI (NX : Nat → Nat) : Prop := ∀ x, x < 1028 → NX x < 257
theorem bi_ok {SP : Nat → Nat} {en o q : Nat} {m : MZ} {NX : Nat → Nat} (ho : o < 256) (hm : MI m) (hN : NI NX) : ∀ a, MI (bi SP en o q m NX a).1 ∧ NI (bi SP en o q m NX a).2 := by
  intro a
  induction a with
  | zero => exact ⟨hm, hN⟩
  | succ a ih =>
    rw [bi]
    have hS : o &&& SP a < 257 := by have := Nat.and_le_left (n := o) (m := SP a); omega
    refine ⟨MI_nq ih.1 hS, fun x hx => ?_⟩
    show va_up (bi SP en o q m NX a).2 (q * 4 + a) ((nq en (o &&& SP a) (bi SP en o q m NX a).1).2.2.1 (o &&& SP a) - 1) x < 257
    by_cases e : x = q * 4 + a
    · subst e; rw [va_up_self]; exact nq_at ih.1 hS
    · rw [va_up_ne _ _ e]; exact ih.2 x hx
theorem bo_ok {FO SP : Nat → Nat} {en : Nat} (hF : ∀ p, p < 9 → FO p < 256) : ∀ r q m NX, MI m → NI NX → MI (bo FO SP en r q m NX).1 ∧ NI (bo FO SP en r q m NX).2 := by
  intro r
  induction r with
  | zero => intro q m NX h1 h2; exact ⟨h1, h2⟩
  | succ r ih =>
    intro q m NX h1 h2
    rw [bo]
    split
    · have := bi_ok (SP := SP) (en := en) (q := q) (onw_lt (S := m.2.1 q) hF 9 (Nat.le_refl _)) h1 h2 4
      exact ih _ _ _ this.1 this.2
    · exact ⟨h1, h2⟩
theorem MI_0 {SE AC : Nat → Nat} (hA : ∀ x, x < 257 → AC x < 1000) : MI (0, SE, fun _ => 0, AC) := ⟨by decide, fun j hj => by omega, fun S _ h => absurd rfl h, hA⟩
theorem bld_ok {FO SP : Nat → Nat} {en : Nat} {SE AC NX : Nat → Nat} (hF : ∀ p, p < 9 → FO p < 256) (hA : ∀ x, x < 257 → AC x < 1000) (hN : NI NX) : MI (bld FO SP en SE AC NX).1 ∧ NI (bld FO SP en SE AC NX).2 := bo_ok hF _ _ _ _ (MI_nq (MI_0 hA) (by decide)) hN
theorem m1_aM : (fun _ : Nat => (-1 : Int32)) = aM (fun _ => 0) := by funext j; exact nM_0.symm
set_option maxHeartbeats 4000000 in
set_option maxRecDepth 100000 in
/-- numberOf(S) -/
theorem ok_Ma_numberOf (l : Launch) (D : va_G) (k : Nat → ClassId) (sz : Nat) (ma se nu nx ac gr fn tl : Nat) (SE NU NX AC GR FN TL : Nat → Nat) (z : Nat) (h f g : Nat) (FO SP : Nat → Nat) (en n : Nat) (S : Nat) (hS : S < 257) (he : en < 512) (hm : MI (z, SE, NU, AC)) : Met l y_Ma_numberOf (.code y_Ma_numberOf c_Ma_numberOf 3 (some .int) :: wsU) ({ frames := 1, cells := 0, slots := 0, locals := 21 } : Room) (kPre D k [.ref ma, .int (nI S), .ref h] [(ma, .inr (1, [.ref se, .ref nu, .ref nx, .ref ac, .ref gr, .ref fn, .ref tl, .int (nI z)])), (se, .inl (k 0, 257, .inl (aN SE))), (nu, .inl (k 0, 257, .inl (aM NU))), (nx, .inl (k 0, 1028, .inl (aN NX))), (ac, .inl (k 0, 257, .inl (aN AC))), (gr, .inl (k 0, 257, .inl (aN GR))), (fn, .inl (k 0, 257, .inl (aN FN))), (tl, .inl (k 1, 7967, .inr (.inl (aL TL)))), (h, .inr (0, [.ref f, .ref g, .int (nI en), .int (nI n)])), (f, .inl (k 0, 9, .inl (aN FO))), (g, .inl (k 0, 4, .inl (aN SP)))] sz) (va_Qi (fun (r : Int32) (_ : Unit) => r = nI ((nq en S (z, SE, NU, AC)).2.2.1 S - 1)) (kB D k (fun _ : Unit => [(ma, .inr (1, [.ref se, .ref nu, .ref nx, .ref ac, .ref gr, .ref fn, .ref tl, .int (nI ((nq en S (z, SE, NU, AC)).1))])), (se, .inl (k 0, 257, .inl (aN ((nq en S (z, SE, NU, AC)).2.1)))), (nu, .inl (k 0, 257, .inl (aM ((nq en S (z, SE, NU, AC)).2.2.1)))), (nx, .inl (k 0, 1028, .inl (aN NX))), (ac, .inl (k 0, 257, .inl (aN ((nq en S (z, SE, NU, AC)).2.2.2)))), (gr, .inl (k 0, 257, .inl (aN GR))), (fn, .inl (k 0, 257, .inl (aN FN))), (tl, .inl (k 1, 7967, .inr (.inl (aL TL)))), (h, .inr (0, [.ref f, .ref g, .int (nI en), .int (nI n)])), (f, .inl (k 0, 9, .inl (aN FO))), (g, .inl (k 0, 4, .inl (aN SP)))]) (va_A [(ma, .inr (1, [.ref se, .ref nu, .ref nx, .ref ac, .ref gr, .ref fn, .ref tl, .int (nI z)])), (se, .inl (k 0, 257, .inl (aN SE))), (nu, .inl (k 0, 257, .inl (aM NU))), (nx, .inl (k 0, 1028, .inl (aN NX))), (ac, .inl (k 0, 257, .inl (aN AC))), (gr, .inl (k 0, 257, .inl (aN GR))), (fn, .inl (k 0, 257, .inl (aN FN))), (tl, .inl (k 1, 7967, .inr (.inl (aL TL)))), (h, .inr (0, [.ref f, .ref g, .int (nI en), .int (nI n)])), (f, .inl (k 0, 9, .inl (aN FO))), (g, .inl (k 0, 4, .inl (aN SP)))] sz)) (va_A [(ma, .inr (1, [.ref se, .ref nu, .ref nx, .ref ac, .ref gr, .ref fn, .ref tl, .int (nI z)])), (se, .inl (k 0, 257, .inl (aN SE))), (nu, .inl (k 0, 257, .inl (aM NU))), (nx, .inl (k 0, 1028, .inl (aN NX))), (ac, .inl (k 0, 257, .inl (aN AC))), (gr, .inl (k 0, 257, .inl (aN GR))), (fn, .inl (k 0, 257, .inl (aN FN))), (tl, .inl (k 1, 7967, .inr (.inl (aL TL)))), (h, .inr (0, [.ref f, .ref g, .int (nI en), .int (nI n)])), (f, .inl (k 0, 9, .inl (aN FO))), (g, .inl (k 0, 4, .inl (aN SP)))] sz)) 0 0 (va_A [(ma, .inr (1, [.ref se, .ref nu, .ref nx, .ref ac, .ref gr, .ref fn, .ref tl, .int (nI z)])), (se, .inl (k 0, 257, .inl (aN SE))), (nu, .inl (k 0, 257, .inl (aM NU))), (nx, .inl (k 0, 1028, .inl (aN NX))), (ac, .inl (k 0, 257, .inl (aN AC))), (gr, .inl (k 0, 257, .inl (aN GR))), (fn, .inl (k 0, 257, .inl (aN FN))), (tl, .inl (k 1, 7967, .inr (.inl (aL TL)))), (h, .inr (0, [.ref f, .ref g, .int (nI en), .int (nI n)])), (f, .inl (k 0, 9, .inl (aN FO))), (g, .inl (k 0, 4, .inl (aN SP)))] sz) := by
  by_cases h0 : NU S = 0
  · have e : nq en S (z, SE, NU, AC) = (z + 1, va_up SE z S, va_up NU S (z + 1), va_up AC z (if S &&& en = 0 then 0 else 1)) := by rw [nq, if_pos h0]
    have e2 : (va_up NU S (z + 1)) S - 1 = z := by rw [va_up_self]; rfl
    rw [e]
    have hM := ok_Ma_numNew l D k sz ma se nu nx ac gr fn tl SE NU NX AC GR FN TL z h f g FO SP en n S hS he (MI_new hm hS h0) h0
    show Met _ _ _ _ _ (va_Qi (fun (r : Int32) (_ : Unit) => r = nI ((va_up NU S (z + 1)) S - 1)) _ _) _ _ _
    rw [e2]
    exact hM
  · have e : nq en S (z, SE, NU, AC) = (z, SE, NU, AC) := by rw [nq, if_neg h0]
    rw [e]
    obtain ⟨h1, -, h3, -⟩ := hm
    have h4 := (h3 S hS h0).1
    exact ok_Ma_numOld l D k sz ma se nu nx ac gr fn tl SE NU NX AC GR FN TL z h f g FO SP en n S hS (NU S - 1) (by omega) (by omega)
set_option maxHeartbeats 4000000 in
set_option maxRecDepth 100000 in
/-- build(expression) -/
theorem ok_Ma_build (l : Launch) (D : va_G) (k : Nat → ClassId) (sz : Nat) (ma se nu nx ac gr fn tl : Nat) (SE NU NX AC GR FN TL : Nat → Nat) (z : Nat) (h f g : Nat) (FO SP : Nat → Nat) (en n : Nat) (hF : ∀ p, p < 9 → FO p < 256) (he : en < 512) (hA : ∀ x, x < 257 → AC x < 1000) (hN : NI NX) : Met l y_Ma_build (.code y_Ma_build c_Ma_build 6 none :: wsU) ({ frames := 2, cells := 0, slots := 0, locals := 43 } : Room) (kPre D k [.ref ma, .ref h] [(ma, .inr (1, [.ref se, .ref nu, .ref nx, .ref ac, .ref gr, .ref fn, .ref tl, .int (nI z)])), (se, .inl (k 0, 257, .inl (aN SE))), (nu, .inl (k 0, 257, .inl (aM NU))), (nx, .inl (k 0, 1028, .inl (aN NX))), (ac, .inl (k 0, 257, .inl (aN AC))), (gr, .inl (k 0, 257, .inl (aN GR))), (fn, .inl (k 0, 257, .inl (aN FN))), (tl, .inl (k 1, 7967, .inr (.inl (aL TL)))), (h, .inr (0, [.ref f, .ref g, .int (nI en), .int (nI n)])), (f, .inl (k 0, 9, .inl (aN FO))), (g, .inl (k 0, 4, .inl (aN SP)))] sz) (va_Qv (fun (_ : Unit) => True) (kB D k (fun _ : Unit => [(ma, .inr (1, [.ref se, .ref nu, .ref nx, .ref ac, .ref gr, .ref fn, .ref tl, .int (nI ((bld FO SP en SE AC NX).1.1))])), (se, .inl (k 0, 257, .inl (aN ((bld FO SP en SE AC NX).1.2.1)))), (nu, .inl (k 0, 257, .inl (aM ((bld FO SP en SE AC NX).1.2.2.1)))), (nx, .inl (k 0, 1028, .inl (aN ((bld FO SP en SE AC NX).2)))), (ac, .inl (k 0, 257, .inl (aN ((bld FO SP en SE AC NX).1.2.2.2)))), (gr, .inl (k 0, 257, .inl (aN GR))), (fn, .inl (k 0, 257, .inl (aN FN))), (tl, .inl (k 1, 7967, .inr (.inl (aL TL)))), (h, .inr (0, [.ref f, .ref g, .int (nI en), .int (nI n)])), (f, .inl (k 0, 9, .inl (aN FO))), (g, .inl (k 0, 4, .inl (aN SP)))]) (va_A [(ma, .inr (1, [.ref se, .ref nu, .ref nx, .ref ac, .ref gr, .ref fn, .ref tl, .int (nI z)])), (se, .inl (k 0, 257, .inl (aN SE))), (nu, .inl (k 0, 257, .inl (aM NU))), (nx, .inl (k 0, 1028, .inl (aN NX))), (ac, .inl (k 0, 257, .inl (aN AC))), (gr, .inl (k 0, 257, .inl (aN GR))), (fn, .inl (k 0, 257, .inl (aN FN))), (tl, .inl (k 1, 7967, .inr (.inl (aL TL)))), (h, .inr (0, [.ref f, .ref g, .int (nI en), .int (nI n)])), (f, .inl (k 0, 9, .inl (aN FO))), (g, .inl (k 0, 4, .inl (aN SP)))] sz)) (va_A [(ma, .inr (1, [.ref se, .ref nu, .ref nx, .ref ac, .ref gr, .ref fn, .ref tl, .int (nI z)])), (se, .inl (k 0, 257, .inl (aN SE))), (nu, .inl (k 0, 257, .inl (aM NU))), (nx, .inl (k 0, 1028, .inl (aN NX))), (ac, .inl (k 0, 257, .inl (aN AC))), (gr, .inl (k 0, 257, .inl (aN GR))), (fn, .inl (k 0, 257, .inl (aN FN))), (tl, .inl (k 1, 7967, .inr (.inl (aL TL)))), (h, .inr (0, [.ref f, .ref g, .int (nI en), .int (nI n)])), (f, .inl (k 0, 9, .inl (aN FO))), (g, .inl (k 0, 4, .inl (aN SP)))] sz)) 0 0 (va_A [(ma, .inr (1, [.ref se, .ref nu, .ref nx, .ref ac, .ref gr, .ref fn, .ref tl, .int (nI z)])), (se, .inl (k 0, 257, .inl (aN SE))), (nu, .inl (k 0, 257, .inl (aM NU))), (nx, .inl (k 0, 1028, .inl (aN NX))), (ac, .inl (k 0, 257, .inl (aN AC))), (gr, .inl (k 0, 257, .inl (aN GR))), (fn, .inl (k 0, 257, .inl (aN FN))), (tl, .inl (k 1, 7967, .inr (.inl (aL TL)))), (h, .inr (0, [.ref f, .ref g, .int (nI en), .int (nI n)])), (f, .inl (k 0, 9, .inl (aN FO))), (g, .inl (k 0, 4, .inl (aN SP)))] sz) := by
  refine kMet (by decide) (Nat.le_of_ble_eq_true rfl) ?_
  intro p e s m below meth c ls hX hml hr hlocks hin hsz hW hl Q hQ
  generalize hAe : va_A [(ma, .inr (1, [.ref se, .ref nu, .ref nx, .ref ac, .ref gr, .ref fn, .ref tl, .int (nI z)])), (se, .inl (k 0, 257, .inl (aN SE))), (nu, .inl (k 0, 257, .inl (aM NU))), (nx, .inl (k 0, 1028, .inl (aN NX))), (ac, .inl (k 0, 257, .inl (aN AC))), (gr, .inl (k 0, 257, .inl (aN GR))), (fn, .inl (k 0, 257, .inl (aN FN))), (tl, .inl (k 1, 7967, .inr (.inl (aL TL)))), (h, .inr (0, [.ref f, .ref g, .int (nI en), .int (nI n)])), (f, .inl (k 0, 9, .inl (aN FO))), (g, .inl (k 0, 4, .inl (aN SP)))] sz = A at hW hQ
  generalize hH0 : s.heap = H at hW ⊢
  generalize hl0 : ([] : List Loc) = locs at hW ⊢
  have hX : FX p s m c [.ref ma, .ref h].toArray c_Ma_build R_Ma := hX
  have hl : lv_has ls 6 [(0, .ref ma), (1, .ref h)] := hl
  obtain ⟨o, ho⟩ : ∃ o, bld FO SP en SE AC NX = o := ⟨_, rfl⟩
  rw [ho] at hQ
  refine lv_aload_n hX.1 hX.2.1 d_Ma_build_0 rfl (lv_at hl 0 rfl) ?_
  refine kget hX hW i_Ma 0 rfl rfl 1 (by decide) f_Ma_17 rfl rfl d_Ma_build_1 ?_
  refine lv_iconst (v := (-1)) hX.1 hX.2.1 d_Ma_build_4 (by decide) ?_
  refine kCv (wc := [(nu, .inl (k 0, 257, .inl (aM NU)))]) hW [2] (by rfl) (by intro _; rfl) (kRunS (n := 2) (As := [.ref nu, .int (-1)]) (rest := []) hX hml hW (ok_Ar_fillI l D k H.size nu 257 (aM NU) (-1) (by decide)) m_Ma_40 sm_Ar_fillI in_Ar cd_Ar_fillI [2] rfl rfl (by decide +kernel) ⟨rfl, rfl, by decide, by decide⟩ rfl hl.1 rfl (Nat.le_of_ble_eq_true rfl) d_Ma_build_5 ⟨by first | exact Nat.zero_le _ | decide | omega | (dsimp only; omega), by first | exact Nat.zero_le _ | decide | omega | (dsimp only; omega)⟩) (fun u H locs _ hW => ?_)
  have hW : KW D k A s [(ma, .inr (1, [.ref se, .ref nu, .ref nx, .ref ac, .ref gr, .ref fn, .ref tl, .int (nI z)])), (se, .inl (k 0, 257, .inl (aN SE))), (nu, .inl (k 0, 257, .inl (fun _ => (-1)))), (nx, .inl (k 0, 1028, .inl (aN NX))), (ac, .inl (k 0, 257, .inl (aN AC))), (gr, .inl (k 0, 257, .inl (aN GR))), (fn, .inl (k 0, 257, .inl (aN FN))), (tl, .inl (k 1, 7967, .inr (.inl (aL TL)))), (h, .inr (0, [.ref f, .ref g, .int (nI en), .int (nI n)])), (f, .inl (k 0, 9, .inl (aN FO))), (g, .inl (k 0, 4, .inl (aN SP)))] H locs := hW
  rw [m1_aM] at hW
  have hW : KW D k A s [(ma, .inr (1, [.ref se, .ref nu, .ref nx, .ref ac, .ref gr, .ref fn, .ref tl, .int (nI z)])), (se, .inl (k 0, 257, .inl (aN SE))), (nu, .inl (k 0, 257, .inl (aM (fun _ => 0)))), (nx, .inl (k 0, 1028, .inl (aN NX))), (ac, .inl (k 0, 257, .inl (aN AC))), (gr, .inl (k 0, 257, .inl (aN GR))), (fn, .inl (k 0, 257, .inl (aN FN))), (tl, .inl (k 1, 7967, .inr (.inl (aL TL)))), (h, .inr (0, [.ref f, .ref g, .int (nI en), .int (nI n)])), (f, .inl (k 0, 9, .inl (aN FO))), (g, .inl (k 0, 4, .inl (aN SP)))] H locs := hW
  refine lv_aload_n hX.1 hX.2.1 d_Ma_build_8 rfl (lv_at hl 0 rfl) ?_
  refine lv_iconst (v := nI 0) hX.1 hX.2.1 d_Ma_build_9 (by decide) ?_
  refine kput hX hW i_Ma t_Ma t_Ma_ok n_Ma 0 rfl rfl 7 (by decide) f_Ma_36 rfl rfl (rfl) (rfl) (Nat.le_of_ble_eq_true rfl) d_Ma_build_10 (fun H locs hW => ?_)
  have hW : KW D k A s [(ma, .inr (1, [.ref se, .ref nu, .ref nx, .ref ac, .ref gr, .ref fn, .ref tl, .int (nI 0)])), (se, .inl (k 0, 257, .inl (aN SE))), (nu, .inl (k 0, 257, .inl (aM (fun _ => 0)))), (nx, .inl (k 0, 1028, .inl (aN NX))), (ac, .inl (k 0, 257, .inl (aN AC))), (gr, .inl (k 0, 257, .inl (aN GR))), (fn, .inl (k 0, 257, .inl (aN FN))), (tl, .inl (k 1, 7967, .inr (.inl (aL TL)))), (h, .inr (0, [.ref f, .ref g, .int (nI en), .int (nI n)])), (f, .inl (k 0, 9, .inl (aN FO))), (g, .inl (k 0, 4, .inl (aN SP)))] H locs := hW
  refine lv_aload_n hX.1 hX.2.1 d_Ma_build_13 rfl (lv_at hl 0 rfl) ?_
  refine lv_sipush (v := nI 256) hX.1 hX.2.1 d_Ma_build_14 (by decide) ?_
  refine lv_aload_n hX.1 hX.2.1 d_Ma_build_17 rfl (lv_at hl 1 rfl) ?_
  refine kCi (wc := [(ma, .inr (1, [.ref se, .ref nu, .ref nx, .ref ac, .ref gr, .ref fn, .ref tl, .int (nI 0)])), (se, .inl (k 0, 257, .inl (aN SE))), (nu, .inl (k 0, 257, .inl (aM (fun _ => 0)))), (nx, .inl (k 0, 1028, .inl (aN NX))), (ac, .inl (k 0, 257, .inl (aN AC))), (gr, .inl (k 0, 257, .inl (aN GR))), (fn, .inl (k 0, 257, .inl (aN FN))), (tl, .inl (k 1, 7967, .inr (.inl (aL TL)))), (h, .inr (0, [.ref f, .ref g, .int (nI en), .int (nI n)])), (f, .inl (k 0, 9, .inl (aN FO))), (g, .inl (k 0, 4, .inl (aN SP)))]) hW [0, 1, 2, 3, 4, 5, 6, 7, 8, 9, 10] (by rfl) (by intro _; rfl) (kRunV (n := 2) (As := [.int (nI 256), .ref h]) (rest := []) hX hml hW (ok_Ma_numberOf l D k H.size ma se nu nx ac gr fn tl SE (fun _ => 0) NX AC GR FN TL 0 h f g FO SP en n 256 (by decide) he (MI_0 hA)) m_Ma_46 im_Ma_numberOf se_Ma_numberOf in_Ma cd_Ma_numberOf [0, 1, 2, 3, 4, 5, 6, 7, 8, 9, 10] rfl rfl rfl rfl (by decide +kernel) ⟨rfl, rfl, by decide, by decide⟩ rfl hl.1 rfl (Nat.le_of_ble_eq_true rfl) d_Ma_build_18 ⟨by first | exact Nat.zero_le _ | decide | omega | (dsimp only; omega), by first | exact Nat.zero_le _ | decide | omega | (dsimp only; omega)⟩) (fun r u H locs hr1 hW => ?_)
  have hW : KW D k A s [(ma, .inr (1, [.ref se, .ref nu, .ref nx, .ref ac, .ref gr, .ref fn, .ref tl, .int (nI ((nq en 256 (0, SE, fun _ => 0, AC)).1))])), (se, .inl (k 0, 257, .inl (aN ((nq en 256 (0, SE, fun _ => 0, AC)).2.1)))), (nu, .inl (k 0, 257, .inl (aM ((nq en 256 (0, SE, fun _ => 0, AC)).2.2.1)))), (nx, .inl (k 0, 1028, .inl (aN NX))), (ac, .inl (k 0, 257, .inl (aN ((nq en 256 (0, SE, fun _ => 0, AC)).2.2.2)))), (gr, .inl (k 0, 257, .inl (aN GR))), (fn, .inl (k 0, 257, .inl (aN FN))), (tl, .inl (k 1, 7967, .inr (.inl (aL TL)))), (h, .inr (0, [.ref f, .ref g, .int (nI en), .int (nI n)])), (f, .inl (k 0, 9, .inl (aN FO))), (g, .inl (k 0, 4, .inl (aN SP)))] H locs := hW
  clear hr1
  have hm1 : MI (nq en 256 (0, SE, fun _ => 0, AC)) := MI_nq (MI_0 hA) (by decide)
  unfold bld at ho
  generalize nq en 256 (0, SE, fun _ => 0, AC) = m1 at hW hm1 ho
  refine lv_pop hX.1 hX.2.1 d_Ma_build_21 rfl ?_
  refine lv_iconst (v := nI 0) hX.1 hX.2.1 d_Ma_build_22 (by decide) ?_
  refine lv_istore_n (lv' := [(2, .int (nI 0)), (0, .ref ma), (1, .ref h)]) hX.1 hX.2.1 d_Ma_build_23 rfl hl (by decide) rfl (fun ls hl => ?_)
  have lp : ∀ (fu : Nat) (q : Nat) (m1 : MZ) (NX : Nat → Nat) (H : Heap) (locs : List Loc) (ls : Array Slot), (q ≤ 257) → (257 < q + fu) → (bo FO SP en (257 - q) q m1 NX = o) → (MI m1) → (NI NX) →  KW D k A s [(ma, .inr (1, [.ref se, .ref nu, .ref nx, .ref ac, .ref gr, .ref fn, .ref tl, .int (nI ((m1).1))])), (se, .inl (k 0, 257, .inl (aN ((m1).2.1)))), (nu, .inl (k 0, 257, .inl (aM ((m1).2.2.1)))), (nx, .inl (k 0, 1028, .inl (aN NX))), (ac, .inl (k 0, 257, .inl (aN ((m1).2.2.2)))), (gr, .inl (k 0, 257, .inl (aN GR))), (fn, .inl (k 0, 257, .inl (aN FN))), (tl, .inl (k 1, 7967, .inr (.inl (aL TL)))), (h, .inr (0, [.ref f, .ref g, .int (nI en), .int (nI n)])), (f, .inl (k 0, 9, .inl (aN FO))), (g, .inl (k 0, 4, .inl (aN SP)))] H locs → lv_has ls 6 [(2, .int (nI q)), (1, .ref h), (0, .ref ma)] → W p l e ({ frames := 2, cells := 0, slots := 0, locals := 43 } : Room) s m [.ref ma, .ref h].toArray below meth c H locs 0 0 Q (F0 m 24 ls []) := by
    intro fu
    induction fu with
    | zero => intro q m1 NX H locs ls lp1 lp2 hb hm hN hW hl; exfalso; omega
    | succ fu ih =>
      intro q m1 NX H locs ls lp1 lp2 hb hm hN hW hl
      obtain ⟨z, SE, NU, AC⟩ := m1
      have hW : KW D k A s [(ma, .inr (1, [.ref se, .ref nu, .ref nx, .ref ac, .ref gr, .ref fn, .ref tl, .int (nI z)])), (se, .inl (k 0, 257, .inl (aN SE))), (nu, .inl (k 0, 257, .inl (aM NU))), (nx, .inl (k 0, 1028, .inl (aN NX))), (ac, .inl (k 0, 257, .inl (aN AC))), (gr, .inl (k 0, 257, .inl (aN GR))), (fn, .inl (k 0, 257, .inl (aN FN))), (tl, .inl (k 1, 7967, .inr (.inl (aL TL)))), (h, .inr (0, [.ref f, .ref g, .int (nI en), .int (nI n)])), (f, .inl (k 0, 9, .inl (aN FO))), (g, .inl (k 0, 4, .inl (aN SP)))] H locs := hW
      have hz := hm.1
      refine lv_iload_n hX.1 hX.2.1 d_Ma_build_24 rfl (lv_at hl 0 rfl) ?_
      refine lv_aload_n hX.1 hX.2.1 d_Ma_build_25 rfl (lv_at hl 2 rfl) ?_
      refine kget hX hW i_Ma 0 rfl rfl 7 (by decide) f_Ma_36 rfl rfl d_Ma_build_26 ?_
      refine kge hX (tgt := 100) (by omega) (by omega) d_Ma_build_29 (by decide) (fun h1 => ?_) (fun h1 => ?_)
      · have hb2 : ((z, SE, NU, AC), NX) = o := by rw [← hb]; cases 257 - q with | zero => rfl | succ r => rw [bo, if_neg (by show ¬ q < z; omega)]
        subst hb2
        exact kvret hX hr hlocks hQ () (hW) (trivial) d_Ma_build_100
      · refine lv_iload_n hX.1 hX.2.1 d_Ma_build_32 rfl (lv_at hl 0 rfl) ?_
        refine lv_sipush (v := nI 257) hX.1 hX.2.1 d_Ma_build_33 (by decide) ?_
        refine kge hX (tgt := 100) (by omega) (by omega) d_Ma_build_36 (by decide) (fun h2 => ?_) (fun h2 => ?_)
        · omega
        · have hsq := (hm.2.1 q h1).1
          refine lv_aload_n hX.1 hX.2.1 d_Ma_build_39 rfl (lv_at hl 1 rfl) ?_
          refine lv_aload_n hX.1 hX.2.1 d_Ma_build_40 rfl (lv_at hl 2 rfl) ?_
          refine kget hX hW i_Ma 0 rfl rfl 0 (by decide) f_Ma_13 rfl rfl d_Ma_build_41 ?_
          refine lv_iload_n hX.1 hX.2.1 d_Ma_build_44 rfl (lv_at hl 0 rfl) ?_
          refine kiald hX hW 1 rfl (by omega) (by first | decide | omega) d_Ma_build_45 ?_
          refine kCi (wc := [(h, .inr (0, [.ref f, .ref g, .int (nI en), .int (nI n)])), (f, .inl (k 0, 9, .inl (aN FO))), (g, .inl (k 0, 4, .inl (aN SP)))]) hW [8, 9, 10] (by rfl) (by intro _; rfl) (kRunV (n := 1) (As := [.int (nI (SE q))]) (rest := []) hX hml hW (ok_Ex_onward l D k H.size h f g FO SP en n (SE q) (by omega)) m_Ma_50 im_Ex_onward se_Ex_onward in_Ex cd_Ex_onward [8, 9, 10] rfl rfl rfl rfl (by decide +kernel) ⟨rfl, rfl, by decide, by decide⟩ rfl hl.1 rfl (Nat.le_of_ble_eq_true rfl) d_Ma_build_46 ⟨by first | exact Nat.zero_le _ | decide | omega | (dsimp only; omega), by first | exact Nat.zero_le _ | decide | omega | (dsimp only; omega)⟩) (fun r u H locs hr1 hW => ?_)
          have hW : KW D k A s [(ma, .inr (1, [.ref se, .ref nu, .ref nx, .ref ac, .ref gr, .ref fn, .ref tl, .int (nI z)])), (se, .inl (k 0, 257, .inl (aN SE))), (nu, .inl (k 0, 257, .inl (aM NU))), (nx, .inl (k 0, 1028, .inl (aN NX))), (ac, .inl (k 0, 257, .inl (aN AC))), (gr, .inl (k 0, 257, .inl (aN GR))), (fn, .inl (k 0, 257, .inl (aN FN))), (tl, .inl (k 1, 7967, .inr (.inl (aL TL)))), (h, .inr (0, [.ref f, .ref g, .int (nI en), .int (nI n)])), (f, .inl (k 0, 9, .inl (aN FO))), (g, .inl (k 0, 4, .inl (aN SP)))] H locs := hW
          subst hr1
          have hoo := onw_lt (S := SE q) hF 9 (Nat.le_refl _)
          rw [show 257 - q = (257 - (q + 1)) + 1 by omega, bo, if_pos h1] at hb
          have hb : bo FO SP en (257 - (q + 1)) (q + 1) (bi SP en (onw FO (SE q) 9) q (z, SE, NU, AC) NX 4).1 (bi SP en (onw FO (SE q) 9) q (z, SE, NU, AC) NX 4).2 = o := hb
          generalize onw FO (SE q) 9 = oo at hoo hb ⊢
          refine lv_istore_n (lv' := [(3, .int (nI oo)), (2, .int (nI q)), (1, .ref h), (0, .ref ma)]) hX.1 hX.2.1 d_Ma_build_49 rfl hl (by decide) rfl (fun ls hl => ?_)
          refine lv_iconst (v := nI 0) hX.1 hX.2.1 d_Ma_build_50 (by decide) ?_
          refine lv_istore (lv' := [(4, .int (nI 0)), (3, .int (nI oo)), (2, .int (nI q)), (1, .ref h), (0, .ref ma)]) hX.1 hX.2.1 d_Ma_build_51 hl (by decide) rfl (fun ls hl => ?_)
          have ih0 := ih
          have lq : ∀ (fu : Nat) (a : Nat) (m2 : MZ) (N2 : Nat → Nat) (H : Heap) (locs : List Loc) (ls : Array Slot), (a ≤ 4) → (4 < a + fu) → (bi SP en oo q (z, SE, NU, AC) NX a = (m2, N2)) → (MI m2) → (NI N2) →  KW D k A s [(ma, .inr (1, [.ref se, .ref nu, .ref nx, .ref ac, .ref gr, .ref fn, .ref tl, .int (nI ((m2).1))])), (se, .inl (k 0, 257, .inl (aN ((m2).2.1)))), (nu, .inl (k 0, 257, .inl (aM ((m2).2.2.1)))), (nx, .inl (k 0, 1028, .inl (aN N2))), (ac, .inl (k 0, 257, .inl (aN ((m2).2.2.2)))), (gr, .inl (k 0, 257, .inl (aN GR))), (fn, .inl (k 0, 257, .inl (aN FN))), (tl, .inl (k 1, 7967, .inr (.inl (aL TL)))), (h, .inr (0, [.ref f, .ref g, .int (nI en), .int (nI n)])), (f, .inl (k 0, 9, .inl (aN FO))), (g, .inl (k 0, 4, .inl (aN SP)))] H locs → lv_has ls 6 [(4, .int (nI a)), (3, .int (nI oo)), (2, .int (nI q)), (1, .ref h), (0, .ref ma)] → W p l e ({ frames := 2, cells := 0, slots := 0, locals := 43 } : Room) s m [.ref ma, .ref h].toArray below meth c H locs 0 0 Q (F0 m 53 ls []) := by
            intro fu
            induction fu with
            | zero => intro a m2 N2 H locs ls lq1 lq2 hi hm2 hN2 hW hl; exfalso; omega
            | succ fu ih =>
              intro a m2 N2 H locs ls lq1 lq2 hi hm2 hN2 hW hl
              obtain ⟨z2, SE2, NU2, AC2⟩ := m2
              have hW : KW D k A s [(ma, .inr (1, [.ref se, .ref nu, .ref nx, .ref ac, .ref gr, .ref fn, .ref tl, .int (nI z2)])), (se, .inl (k 0, 257, .inl (aN SE2))), (nu, .inl (k 0, 257, .inl (aM NU2))), (nx, .inl (k 0, 1028, .inl (aN N2))), (ac, .inl (k 0, 257, .inl (aN AC2))), (gr, .inl (k 0, 257, .inl (aN GR))), (fn, .inl (k 0, 257, .inl (aN FN))), (tl, .inl (k 1, 7967, .inr (.inl (aL TL)))), (h, .inr (0, [.ref f, .ref g, .int (nI en), .int (nI n)])), (f, .inl (k 0, 9, .inl (aN FO))), (g, .inl (k 0, 4, .inl (aN SP)))] H locs := hW
              refine lv_iload hX.1 hX.2.1 d_Ma_build_53 (lv_at hl 0 rfl) ?_
              refine lv_iconst (v := nI 4) hX.1 hX.2.1 d_Ma_build_55 (by decide) ?_
              refine kge hX (tgt := 94) (by omega) (by omega) d_Ma_build_56 (by decide) (fun h3 => ?_) (fun h3 => ?_)
              · have e4 : a = 4 := by omega
                subst e4
                rw [hi] at hb
                refine lv_iinc (v := nI (q + 1)) (lv' := [(2, .int (nI (q + 1))), (4, .int (nI 4)), (3, .int (nI oo)), (1, .ref h), (0, .ref ma)]) hX.1 hX.2.1 d_Ma_build_94 hl (k := 2) rfl (kn_inc _) (by decide) rfl (fun ls hl => ?_)
                refine lv_goto (tgt := 24) hX.1 hX.2.1 d_Ma_build_97 (by decide) ?_
                exact ih0 (q + 1) (z2, SE2, NU2, AC2) N2 H locs ls (by omega) (by omega) hb hm2 hN2 hW (lv_sub hl [0, 3, 4] rfl)
              · have hS : oo &&& SP a < 257 := by have := Nat.and_le_left (n := oo) (m := SP a); omega
                refine lv_iload_n hX.1 hX.2.1 d_Ma_build_59 rfl (lv_at hl 1 rfl) ?_
                refine lv_aload_n hX.1 hX.2.1 d_Ma_build_60 rfl (lv_at hl 3 rfl) ?_
                refine kget hX hW i_Ex 8 rfl rfl 1 (by decide) f_Ma_54 rfl rfl d_Ma_build_61 ?_
                refine lv_iload hX.1 hX.2.1 d_Ma_build_64 (lv_at hl 0 rfl) ?_
                refine kiald hX hW 10 rfl (by omega) (by first | decide | omega) d_Ma_build_66 ?_
                refine lv_iand hX.1 hX.2.1 d_Ma_build_67 ?_
                refine tpi (y := nI (oo &&& SP a)) (kn_and _ _) ?_
                refine lv_istore (lv' := [(5, .int (nI (oo &&& SP a))), (4, .int (nI a)), (3, .int (nI oo)), (2, .int (nI q)), (1, .ref h), (0, .ref ma)]) hX.1 hX.2.1 d_Ma_build_68 hl (by decide) rfl (fun ls hl => ?_)
                refine lv_aload_n hX.1 hX.2.1 d_Ma_build_70 rfl (lv_at hl 5 rfl) ?_
                refine kget hX hW i_Ma 0 rfl rfl 2 (by decide) f_Ma_20 rfl rfl d_Ma_build_71 ?_
                refine lv_iload_n hX.1 hX.2.1 d_Ma_build_74 rfl (lv_at hl 3 rfl) ?_
                refine lv_iconst (v := nI 4) hX.1 hX.2.1 d_Ma_build_75 (by decide) ?_
                refine lv_imul hX.1 hX.2.1 d_Ma_build_76 ?_
                refine tpi (y := nI (q * 4)) (pk_mul _ _) ?_
                refine lv_iload hX.1 hX.2.1 d_Ma_build_77 (lv_at hl 1 rfl) ?_
                refine lv_iadd hX.1 hX.2.1 d_Ma_build_79 ?_
                refine tpi (y := nI (q * 4 + a)) (nI_add _ _) ?_
                refine lv_aload_n hX.1 hX.2.1 d_Ma_build_80 rfl (lv_at hl 5 rfl) ?_
                refine lv_iload hX.1 hX.2.1 d_Ma_build_81 (lv_at hl 0 rfl) ?_
                refine lv_aload_n hX.1 hX.2.1 d_Ma_build_83 rfl (lv_at hl 4 rfl) ?_
                refine kCi (wc := [(ma, .inr (1, [.ref se, .ref nu, .ref nx, .ref ac, .ref gr, .ref fn, .ref tl, .int (nI z2)])), (se, .inl (k 0, 257, .inl (aN SE2))), (nu, .inl (k 0, 257, .inl (aM NU2))), (nx, .inl (k 0, 1028, .inl (aN N2))), (ac, .inl (k 0, 257, .inl (aN AC2))), (gr, .inl (k 0, 257, .inl (aN GR))), (fn, .inl (k 0, 257, .inl (aN FN))), (tl, .inl (k 1, 7967, .inr (.inl (aL TL)))), (h, .inr (0, [.ref f, .ref g, .int (nI en), .int (nI n)])), (f, .inl (k 0, 9, .inl (aN FO))), (g, .inl (k 0, 4, .inl (aN SP)))]) hW [0, 1, 2, 3, 4, 5, 6, 7, 8, 9, 10] (by rfl) (by intro _; rfl) (kRunV (n := 2) (As := [.int (nI (oo &&& SP a)), .ref h]) (rest := [.int (nI (q * 4 + a)), .ref nx]) hX hml hW (ok_Ma_numberOf l D k H.size ma se nu nx ac gr fn tl SE2 NU2 N2 AC2 GR FN TL z2 h f g FO SP en n (oo &&& SP a) hS he hm2) m_Ma_46 im_Ma_numberOf se_Ma_numberOf in_Ma cd_Ma_numberOf [0, 1, 2, 3, 4, 5, 6, 7, 8, 9, 10] rfl rfl rfl rfl (by decide +kernel) ⟨rfl, rfl, by decide, by decide⟩ rfl hl.1 rfl (Nat.le_of_ble_eq_true rfl) d_Ma_build_84 ⟨by first | exact Nat.zero_le _ | decide | omega | (dsimp only; omega), by first | exact Nat.zero_le _ | decide | omega | (dsimp only; omega)⟩) (fun r u H locs hr1 hW => ?_)
                have hW : KW D k A s [(ma, .inr (1, [.ref se, .ref nu, .ref nx, .ref ac, .ref gr, .ref fn, .ref tl, .int (nI ((nq en (oo &&& SP a) (z2, SE2, NU2, AC2)).1))])), (se, .inl (k 0, 257, .inl (aN ((nq en (oo &&& SP a) (z2, SE2, NU2, AC2)).2.1)))), (nu, .inl (k 0, 257, .inl (aM ((nq en (oo &&& SP a) (z2, SE2, NU2, AC2)).2.2.1)))), (nx, .inl (k 0, 1028, .inl (aN N2))), (ac, .inl (k 0, 257, .inl (aN ((nq en (oo &&& SP a) (z2, SE2, NU2, AC2)).2.2.2)))), (gr, .inl (k 0, 257, .inl (aN GR))), (fn, .inl (k 0, 257, .inl (aN FN))), (tl, .inl (k 1, 7967, .inr (.inl (aL TL)))), (h, .inr (0, [.ref f, .ref g, .int (nI en), .int (nI n)])), (f, .inl (k 0, 9, .inl (aN FO))), (g, .inl (k 0, 4, .inl (aN SP)))] H locs := hW
                subst hr1
                have hn3 := MI_nq (en := en) hm2 hS
                have hn4 := nq_at (en := en) hm2 hS
                refine kiast hX hW 3 rfl (by omega) (by first | decide | omega) d_Ma_build_87 (fun H locs hW => ?_)
                have hW : KW D k A s [(ma, .inr (1, [.ref se, .ref nu, .ref nx, .ref ac, .ref gr, .ref fn, .ref tl, .int (nI ((nq en (oo &&& SP a) (z2, SE2, NU2, AC2)).1))])), (se, .inl (k 0, 257, .inl (aN ((nq en (oo &&& SP a) (z2, SE2, NU2, AC2)).2.1)))), (nu, .inl (k 0, 257, .inl (aM ((nq en (oo &&& SP a) (z2, SE2, NU2, AC2)).2.2.1)))), (nx, .inl (k 0, 1028, .inl (aN (va_up N2 (q * 4 + a) ((nq en (oo &&& SP a) (z2, SE2, NU2, AC2)).2.2.1 (oo &&& SP a) - 1))))), (ac, .inl (k 0, 257, .inl (aN ((nq en (oo &&& SP a) (z2, SE2, NU2, AC2)).2.2.2)))), (gr, .inl (k 0, 257, .inl (aN GR))), (fn, .inl (k 0, 257, .inl (aN FN))), (tl, .inl (k 1, 7967, .inr (.inl (aL TL)))), (h, .inr (0, [.ref f, .ref g, .int (nI en), .int (nI n)])), (f, .inl (k 0, 9, .inl (aN FO))), (g, .inl (k 0, 4, .inl (aN SP)))] H locs := hW
                refine lv_iinc (v := nI (a + 1)) (lv' := [(4, .int (nI (a + 1))), (5, .int (nI (oo &&& SP a))), (3, .int (nI oo)), (2, .int (nI q)), (1, .ref h), (0, .ref ma)]) hX.1 hX.2.1 d_Ma_build_88 hl (k := 1) rfl (kn_inc _) (by decide) rfl (fun ls hl => ?_)
                refine lv_goto (tgt := 53) hX.1 hX.2.1 d_Ma_build_91 (by decide) ?_
                have hi2 : bi SP en oo q (z, SE, NU, AC) NX (a + 1) = (nq en (oo &&& SP a) (z2, SE2, NU2, AC2), va_up N2 (q * 4 + a) ((nq en (oo &&& SP a) (z2, SE2, NU2, AC2)).2.2.1 (oo &&& SP a) - 1)) := by rw [bi, hi]
                exact ih (a + 1) _ _ H locs ls (by omega) (by omega) hi2 hn3 (by intro x hx; by_cases e : x = q * 4 + a; (subst e; rw [va_up_self]; exact hn4); (rw [va_up_ne _ _ e]; exact hN2 x hx)) (hW) (lv_sub hl [0, 2, 3, 4, 5] rfl)
          exact lq 5 0 (z, SE, NU, AC) NX H locs ls (by omega) (by omega) rfl hm hN (hW) (lv_sub hl [0, 1, 2, 3, 4] rfl)
  exact lp 258 0 m1 NX H locs ls (by omega) (by omega) ho hm1 hN (hW) (lv_sub hl [0, 2, 1] rfl)
