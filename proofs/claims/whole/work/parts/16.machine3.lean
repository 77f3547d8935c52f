/-! THE MACHINE: numbering, building -/
theorem aM_upI (F : Nat → Nat) (k v : Nat) : upd (aM F) k (nI v) = aM (va_up F k (v + 1)) := by rw [← nM_s]; exact aM_up F k (v + 1)
/-- an injective row of n numbers below m -/
theorem pigeon : ∀ (m n : Nat) (f : Nat → Nat), (∀ i, i < n → f i < m) → (∀ i j, i < n → j < n → f i = f j → i = j) → n ≤ m := by
  intro m
  induction m with
  | zero =>
    intro n f h1 _
    rcases Nat.eq_zero_or_pos n with h | h
    · omega
    · exact absurd (h1 0 h) (Nat.not_lt_zero _)
  | succ m ih =>
    intro n f h1 h2
    by_cases hx : ∃ i, i < n ∧ f i = m
    · obtain ⟨i0, hi0, hf0⟩ := hx
      have h3 := ih (n - 1) (fun j => if j < i0 then f j else f (j + 1)) (by
        intro j hj
        show (if j < i0 then f j else f (j + 1)) < m
        split
        · have a := h1 j (by omega)
          have b : f j ≠ m := fun e => by have := h2 j i0 (by omega) hi0 (by rw [e, hf0]); omega
          omega
        · have a := h1 (j + 1) (by omega)
          have b : f (j + 1) ≠ m := fun e => by have := h2 (j + 1) i0 (by omega) hi0 (by rw [e, hf0]); omega
          omega) (by
        intro i j hi hj e
        have e : (if i < i0 then f i else f (i + 1)) = (if j < i0 then f j else f (j + 1)) := e
        split at e <;> split at e
        · exact h2 i j (by omega) (by omega) e
        · have := h2 i (j + 1) (by omega) (by omega) e; omega
        · have := h2 (i + 1) j (by omega) (by omega) e; omega
        · have := h2 (i + 1) (j + 1) (by omega) (by omega) e; omega)
      omega
    · have h3 := ih n f (fun i hi => by
        have a := h1 i hi
        have b : f i ≠ m := fun e => hx ⟨i, hi, e⟩
        omega) h2
      omega
/-- how many states, which sets, their numbers and one, which accept -/
abbrev MZ : Type := Nat × (Nat → Nat) × (Nat → Nat) × (Nat → Nat)
def nq (en S : Nat) : MZ → MZ
  | (z, SE, NU, AC) => if NU S = 0 then (z + 1, va_up SE z S, va_up NU S (z + 1), va_up AC z (if S &&& en = 0 then 0 else 1)) else (z, SE, NU, AC)
def MI : MZ → Prop
  | (z, SE, NU, AC) => z ≤ 257 ∧ (∀ j, j < z → SE j < 257 ∧ NU (SE j) = j + 1) ∧ (∀ S, S < 257 → NU S ≠ 0 → NU S ≤ z ∧ SE (NU S - 1) = S) ∧ ∀ x, x < 257 → AC x < 1000
theorem MI_new {z : Nat} {SE NU AC : Nat → Nat} (h : MI (z, SE, NU, AC)) {S : Nat} (hS : S < 257) (h0 : NU S = 0) : z < 257 := by
  obtain ⟨h1, h2, h3, -⟩ := h
  have := pigeon 257 (z + 1) (va_up SE z S) (by
    intro i hi
    by_cases e : i = z
    · subst e; rw [va_up_self]; exact hS
    · rw [va_up_ne _ _ e]; exact (h2 i (by omega)).1) (by
    intro i j hi hj e
    by_cases ei : i = z <;> by_cases ej : j = z
    · omega
    · subst ei; rw [va_up_self, va_up_ne _ _ ej] at e
      have := (h2 j (by omega)).2; rw [← e, h0] at this; omega
    · subst ej; rw [va_up_self, va_up_ne _ _ ei] at e
      have := (h2 i (by omega)).2; rw [e, h0] at this; omega
    · rw [va_up_ne _ _ ei, va_up_ne _ _ ej] at e
      have a := (h2 i (by omega)).2
      have b := (h2 j (by omega)).2
      rw [e] at a; omega)
  omega
theorem MI_nq {en S : Nat} {m : MZ} (h : MI m) (hS : S < 257) : MI (nq en S m) := by
  obtain ⟨z, SE, NU, AC⟩ := m
  rw [nq]
  split
  · rename_i h0
    have hz := MI_new h hS h0
    obtain ⟨h1, h2, h3, h4⟩ := h
    refine ⟨by omega, fun j hj => ?_, fun T hT hN => ?_, fun x hx => ?_⟩
    · by_cases e : j = z
      · subst e; rw [va_up_self, va_up_self]; exact ⟨hS, rfl⟩
      · rw [va_up_ne _ _ e]
        have a := h2 j (by omega)
        refine ⟨a.1, ?_⟩
        rw [va_up_ne]
        · exact a.2
        · intro e2; rw [e2, h0] at a; omega
    · by_cases e : T = S
      · subst e; rw [va_up_self]; exact ⟨Nat.le_refl _, by rw [Nat.add_sub_cancel, va_up_self]⟩
      · rw [va_up_ne _ _ e] at hN ⊢
        have a := h3 T hT hN
        refine ⟨by omega, ?_⟩
        rw [va_up_ne _ _ (by omega)]; exact a.2
    · by_cases e : x = z
      · subst e; rw [va_up_self]; split <;> omega
      · rw [va_up_ne _ _ e]; exact h4 x hx
  · exact h
/-- the first a letters of state q, whose onward set is o -/
def bi (SP : Nat → Nat) (en o q : Nat) (m : MZ) (NX : Nat → Nat) : Nat → MZ × (Nat → Nat)
  | 0 => (m, NX)
  | a + 1 => (nq en (o &&& SP a) (bi SP en o q m NX a).1, va_up (bi SP en o q m NX a).2 (q * 4 + a) ((nq en (o &&& SP a) (bi SP en o q m NX a).1).2.2.1 (o &&& SP a) - 1))
def bo (FO SP : Nat → Nat) (en : Nat) : Nat → Nat → MZ → (Nat → Nat) → MZ × (Nat → Nat)
  | 0, _, m, NX => (m, NX)
  | r + 1, q, m, NX => if q < m.1 then bo FO SP en r (q + 1) (bi SP en (onw FO (m.2.1 q) 9) q m NX 4).1 (bi SP en (onw FO (m.2.1 q) 9) q m NX 4).2 else (m, NX)
/-- the machine of an expression -/
def bld (FO SP : Nat → Nat) (en : Nat) (SE AC NX : Nat → Nat) : MZ × (Nat → Nat) := bo FO SP en 257 0 (nq en 256 (0, SE, fun _ => 0, AC)) NX
set_option maxHeartbeats 4000000 in
set_option maxRecDepth 100000 in
/-- numberOf(S), a new set -/
theorem ok_Ma_numNew (l : Launch) (D : va_G) (k : Nat → ClassId) (sz : Nat) (ma se nu nx ac gr fn tl : Nat) (SE NU NX AC GR FN TL : Nat → Nat) (z : Nat) (h f g : Nat) (FO SP : Nat → Nat) (en n : Nat) (S : Nat) (hS : S < 257) (he : en < 512) (hz : z < 257) (h0 : NU S = 0) : Met l y_Ma_numberOf (.code y_Ma_numberOf c_Ma_numberOf 3 (some .int) :: wsU) ({ frames := 1, cells := 0, slots := 0, locals := 21 } : Room) (kPre D k [.ref ma, .int (nI S), .ref h] [(ma, .inr (1, [.ref se, .ref nu, .ref nx, .ref ac, .ref gr, .ref fn, .ref tl, .int (nI z)])), (se, .inl (k 0, 257, .inl (aN SE))), (nu, .inl (k 0, 257, .inl (aM NU))), (nx, .inl (k 0, 1028, .inl (aN NX))), (ac, .inl (k 0, 257, .inl (aN AC))), (gr, .inl (k 0, 257, .inl (aN GR))), (fn, .inl (k 0, 257, .inl (aN FN))), (tl, .inl (k 1, 7967, .inr (.inl (aL TL)))), (h, .inr (0, [.ref f, .ref g, .int (nI en), .int (nI n)])), (f, .inl (k 0, 9, .inl (aN FO))), (g, .inl (k 0, 4, .inl (aN SP)))] sz) (va_Qi (fun (r : Int32) (_ : Unit) => r = nI z) (kB D k (fun _ : Unit => [(ma, .inr (1, [.ref se, .ref nu, .ref nx, .ref ac, .ref gr, .ref fn, .ref tl, .int (nI (z + 1))])), (se, .inl (k 0, 257, .inl (aN (va_up SE z S)))), (nu, .inl (k 0, 257, .inl (aM (va_up NU S (z + 1))))), (nx, .inl (k 0, 1028, .inl (aN NX))), (ac, .inl (k 0, 257, .inl (aN (va_up AC z (if S &&& en = 0 then 0 else 1))))), (gr, .inl (k 0, 257, .inl (aN GR))), (fn, .inl (k 0, 257, .inl (aN FN))), (tl, .inl (k 1, 7967, .inr (.inl (aL TL)))), (h, .inr (0, [.ref f, .ref g, .int (nI en), .int (nI n)])), (f, .inl (k 0, 9, .inl (aN FO))), (g, .inl (k 0, 4, .inl (aN SP)))]) (va_A [(ma, .inr (1, [.ref se, .ref nu, .ref nx, .ref ac, .ref gr, .ref fn, .ref tl, .int (nI z)])), (se, .inl (k 0, 257, .inl (aN SE))), (nu, .inl (k 0, 257, .inl (aM NU))), (nx, .inl (k 0, 1028, .inl (aN NX))), (ac, .inl (k 0, 257, .inl (aN AC))), (gr, .inl (k 0, 257, .inl (aN GR))), (fn, .inl (k 0, 257, .inl (aN FN))), (tl, .inl (k 1, 7967, .inr (.inl (aL TL)))), (h, .inr (0, [.ref f, .ref g, .int (nI en), .int (nI n)])), (f, .inl (k 0, 9, .inl (aN FO))), (g, .inl (k 0, 4, .inl (aN SP)))] sz)) (va_A [(ma, .inr (1, [.ref se, .ref nu, .ref nx, .ref ac, .ref gr, .ref fn, .ref tl, .int (nI z)])), (se, .inl (k 0, 257, .inl (aN SE))), (nu, .inl (k 0, 257, .inl (aM NU))), (nx, .inl (k 0, 1028, .inl (aN NX))), (ac, .inl (k 0, 257, .inl (aN AC))), (gr, .inl (k 0, 257, .inl (aN GR))), (fn, .inl (k 0, 257, .inl (aN FN))), (tl, .inl (k 1, 7967, .inr (.inl (aL TL)))), (h, .inr (0, [.ref f, .ref g, .int (nI en), .int (nI n)])), (f, .inl (k 0, 9, .inl (aN FO))), (g, .inl (k 0, 4, .inl (aN SP)))] sz)) 0 0 (va_A [(ma, .inr (1, [.ref se, .ref nu, .ref nx, .ref ac, .ref gr, .ref fn, .ref tl, .int (nI z)])), (se, .inl (k 0, 257, .inl (aN SE))), (nu, .inl (k 0, 257, .inl (aM NU))), (nx, .inl (k 0, 1028, .inl (aN NX))), (ac, .inl (k 0, 257, .inl (aN AC))), (gr, .inl (k 0, 257, .inl (aN GR))), (fn, .inl (k 0, 257, .inl (aN FN))), (tl, .inl (k 1, 7967, .inr (.inl (aL TL)))), (h, .inr (0, [.ref f, .ref g, .int (nI en), .int (nI n)])), (f, .inl (k 0, 9, .inl (aN FO))), (g, .inl (k 0, 4, .inl (aN SP)))] sz) := by
  refine kMet (by decide) (Nat.le_of_ble_eq_true rfl) ?_
  intro p e s m below meth c ls hX hml hr hlocks hin hsz hW hl Q hQ
  generalize hAe : va_A [(ma, .inr (1, [.ref se, .ref nu, .ref nx, .ref ac, .ref gr, .ref fn, .ref tl, .int (nI z)])), (se, .inl (k 0, 257, .inl (aN SE))), (nu, .inl (k 0, 257, .inl (aM NU))), (nx, .inl (k 0, 1028, .inl (aN NX))), (ac, .inl (k 0, 257, .inl (aN AC))), (gr, .inl (k 0, 257, .inl (aN GR))), (fn, .inl (k 0, 257, .inl (aN FN))), (tl, .inl (k 1, 7967, .inr (.inl (aL TL)))), (h, .inr (0, [.ref f, .ref g, .int (nI en), .int (nI n)])), (f, .inl (k 0, 9, .inl (aN FO))), (g, .inl (k 0, 4, .inl (aN SP)))] sz = A at hW hQ
  generalize hH0 : s.heap = H at hW ⊢
  generalize hl0 : ([] : List Loc) = locs at hW ⊢
  have hX : FX p s m c [.ref ma, .int (nI S), .ref h].toArray c_Ma_numberOf R_Ma := hX
  have hl : lv_has ls 3 [(0, .ref ma), (1, .int (nI S)), (2, .ref h)] := hl
  refine lv_aload_n hX.1 hX.2.1 d_Ma_numberOf_0 rfl (lv_at hl 0 rfl) ?_
  refine kget hX hW i_Ma 0 rfl rfl 1 (by decide) f_Ma_17 rfl rfl d_Ma_numberOf_1 ?_
  refine lv_iload_n hX.1 hX.2.1 d_Ma_numberOf_4 rfl (lv_at hl 1 rfl) ?_
  refine kriald hX hW 2 rfl (by omega) (by first | decide | omega) d_Ma_numberOf_5 ?_
  refine tpi (y := nM (NU S)) (rfl) ?_
  refine kgeM hX (tgt := 61) (by omega) d_Ma_numberOf_6 (by decide) (fun h1 => ?_) (fun h1 => ?_)
  · omega
  · refine lv_aload_n hX.1 hX.2.1 d_Ma_numberOf_9 rfl (lv_at hl 0 rfl) ?_
    refine kget hX hW i_Ma 0 rfl rfl 1 (by decide) f_Ma_17 rfl rfl d_Ma_numberOf_10 ?_
    refine lv_iload_n hX.1 hX.2.1 d_Ma_numberOf_13 rfl (lv_at hl 1 rfl) ?_
    refine lv_aload_n hX.1 hX.2.1 d_Ma_numberOf_14 rfl (lv_at hl 0 rfl) ?_
    refine kget hX hW i_Ma 0 rfl rfl 7 (by decide) f_Ma_36 rfl rfl d_Ma_numberOf_15 ?_
    refine kriast hX hW 2 rfl (by omega) (by first | decide | omega) d_Ma_numberOf_18 (fun H locs hW => ?_)
    have hW : KW D k A s [(ma, .inr (1, [.ref se, .ref nu, .ref nx, .ref ac, .ref gr, .ref fn, .ref tl, .int (nI z)])), (se, .inl (k 0, 257, .inl (aN SE))), (nu, .inl (k 0, 257, .inl (upd (aM NU) S (nI z)))), (nx, .inl (k 0, 1028, .inl (aN NX))), (ac, .inl (k 0, 257, .inl (aN AC))), (gr, .inl (k 0, 257, .inl (aN GR))), (fn, .inl (k 0, 257, .inl (aN FN))), (tl, .inl (k 1, 7967, .inr (.inl (aL TL)))), (h, .inr (0, [.ref f, .ref g, .int (nI en), .int (nI n)])), (f, .inl (k 0, 9, .inl (aN FO))), (g, .inl (k 0, 4, .inl (aN SP)))] H locs := hW
    rw [aM_upI] at hW
    refine lv_aload_n hX.1 hX.2.1 d_Ma_numberOf_19 rfl (lv_at hl 0 rfl) ?_
    refine kget hX hW i_Ma 0 rfl rfl 0 (by decide) f_Ma_13 rfl rfl d_Ma_numberOf_20 ?_
    refine lv_aload_n hX.1 hX.2.1 d_Ma_numberOf_23 rfl (lv_at hl 0 rfl) ?_
    refine kget hX hW i_Ma 0 rfl rfl 7 (by decide) f_Ma_36 rfl rfl d_Ma_numberOf_24 ?_
    refine lv_iload_n hX.1 hX.2.1 d_Ma_numberOf_27 rfl (lv_at hl 1 rfl) ?_
    refine kiast hX hW 1 rfl (by omega) (by first | decide | omega) d_Ma_numberOf_28 (fun H locs hW => ?_)
    have hW : KW D k A s [(ma, .inr (1, [.ref se, .ref nu, .ref nx, .ref ac, .ref gr, .ref fn, .ref tl, .int (nI z)])), (se, .inl (k 0, 257, .inl (aN (va_up SE z S)))), (nu, .inl (k 0, 257, .inl (aM (va_up NU S (z + 1))))), (nx, .inl (k 0, 1028, .inl (aN NX))), (ac, .inl (k 0, 257, .inl (aN AC))), (gr, .inl (k 0, 257, .inl (aN GR))), (fn, .inl (k 0, 257, .inl (aN FN))), (tl, .inl (k 1, 7967, .inr (.inl (aL TL)))), (h, .inr (0, [.ref f, .ref g, .int (nI en), .int (nI n)])), (f, .inl (k 0, 9, .inl (aN FO))), (g, .inl (k 0, 4, .inl (aN SP)))] H locs := hW
    refine lv_aload_n hX.1 hX.2.1 d_Ma_numberOf_29 rfl (lv_at hl 0 rfl) ?_
    refine kget hX hW i_Ma 0 rfl rfl 3 (by decide) f_Ma_23 rfl rfl d_Ma_numberOf_30 ?_
    refine lv_aload_n hX.1 hX.2.1 d_Ma_numberOf_33 rfl (lv_at hl 0 rfl) ?_
    refine kget hX hW i_Ma 0 rfl rfl 7 (by decide) f_Ma_36 rfl rfl d_Ma_numberOf_34 ?_
    refine lv_aload_n hX.1 hX.2.1 d_Ma_numberOf_37 rfl (lv_at hl 2 rfl) ?_
    refine lv_iload_n hX.1 hX.2.1 d_Ma_numberOf_38 rfl (lv_at hl 1 rfl) ?_
    refine kCi (wc := [(h, .inr (0, [.ref f, .ref g, .int (nI en), .int (nI n)])), (f, .inl (k 0, 9, .inl (aN FO))), (g, .inl (k 0, 4, .inl (aN SP)))]) hW [8, 9, 10] (by rfl) (by intro _; rfl) (kRunV (n := 1) (As := [.int (nI S)]) (rest := [.int (nI z), .ref ac]) hX hml hW (ok_Ex_accepts l D k H.size h f g FO SP en n S (by omega) he) m_Ma_57 im_Ex_accepts se_Ex_accepts in_Ex cd_Ex_accepts [8, 9, 10] rfl rfl rfl rfl (by decide +kernel) ⟨rfl, rfl, by decide, by decide⟩ rfl hl.1 rfl (Nat.le_of_ble_eq_true rfl) d_Ma_numberOf_39 ⟨by first | exact Nat.zero_le _ | decide | omega | (dsimp only; omega), by first | exact Nat.zero_le _ | decide | omega | (dsimp only; omega)⟩) (fun r u H locs hr1 hW => ?_)
    have hW : KW D k A s [(ma, .inr (1, [.ref se, .ref nu, .ref nx, .ref ac, .ref gr, .ref fn, .ref tl, .int (nI z)])), (se, .inl (k 0, 257, .inl (aN (va_up SE z S)))), (nu, .inl (k 0, 257, .inl (aM (va_up NU S (z + 1))))), (nx, .inl (k 0, 1028, .inl (aN NX))), (ac, .inl (k 0, 257, .inl (aN AC))), (gr, .inl (k 0, 257, .inl (aN GR))), (fn, .inl (k 0, 257, .inl (aN FN))), (tl, .inl (k 1, 7967, .inr (.inl (aL TL)))), (h, .inr (0, [.ref f, .ref g, .int (nI en), .int (nI n)])), (f, .inl (k 0, 9, .inl (aN FO))), (g, .inl (k 0, 4, .inl (aN SP)))] H locs := hW
    subst hr1
    have k50 : ∀ (v : Nat), v = (if S &&& en = 0 then 0 else 1) → W p l e ({ frames := 1, cells := 0, slots := 0, locals := 21 } : Room) s m [.ref ma, .int (nI S), .ref h].toArray below meth c H locs 0 0 Q (F0 m 50 ls [.int (nI v), .int (nI z), .ref ac]) := by
      intro v hv
      subst hv
      refine kiast hX hW 4 rfl (by omega) (by first | decide | omega) d_Ma_numberOf_50 (fun H locs hW => ?_)
      have hW : KW D k A s [(ma, .inr (1, [.ref se, .ref nu, .ref nx, .ref ac, .ref gr, .ref fn, .ref tl, .int (nI z)])), (se, .inl (k 0, 257, .inl (aN (va_up SE z S)))), (nu, .inl (k 0, 257, .inl (aM (va_up NU S (z + 1))))), (nx, .inl (k 0, 1028, .inl (aN NX))), (ac, .inl (k 0, 257, .inl (aN (va_up AC z (if S &&& en = 0 then 0 else 1))))), (gr, .inl (k 0, 257, .inl (aN GR))), (fn, .inl (k 0, 257, .inl (aN FN))), (tl, .inl (k 1, 7967, .inr (.inl (aL TL)))), (h, .inr (0, [.ref f, .ref g, .int (nI en), .int (nI n)])), (f, .inl (k 0, 9, .inl (aN FO))), (g, .inl (k 0, 4, .inl (aN SP)))] H locs := hW
      refine lv_aload_n hX.1 hX.2.1 d_Ma_numberOf_51 rfl (lv_at hl 0 rfl) ?_
      refine lv_dup hX.1 hX.2.1 d_Ma_numberOf_52 rfl ?_
      refine kget hX hW i_Ma 0 rfl rfl 7 (by decide) f_Ma_36 rfl rfl d_Ma_numberOf_53 ?_
      refine lv_iconst (v := nI 1) hX.1 hX.2.1 d_Ma_numberOf_56 (by decide) ?_
      refine lv_iadd hX.1 hX.2.1 d_Ma_numberOf_57 ?_
      refine tpi (y := nI (z + 1)) (nI_1 _) ?_
      refine kput hX hW i_Ma t_Ma t_Ma_ok n_Ma 0 rfl rfl 7 (by decide) f_Ma_36 rfl rfl (rfl) (rfl) (Nat.le_of_ble_eq_true rfl) d_Ma_numberOf_58 (fun H locs hW => ?_)
      have hW : KW D k A s [(ma, .inr (1, [.ref se, .ref nu, .ref nx, .ref ac, .ref gr, .ref fn, .ref tl, .int (nI (z + 1))])), (se, .inl (k 0, 257, .inl (aN (va_up SE z S)))), (nu, .inl (k 0, 257, .inl (aM (va_up NU S (z + 1))))), (nx, .inl (k 0, 1028, .inl (aN NX))), (ac, .inl (k 0, 257, .inl (aN (va_up AC z (if S &&& en = 0 then 0 else 1))))), (gr, .inl (k 0, 257, .inl (aN GR))), (fn, .inl (k 0, 257, .inl (aN FN))), (tl, .inl (k 1, 7967, .inr (.inl (aL TL)))), (h, .inr (0, [.ref f, .ref g, .int (nI en), .int (nI n)])), (f, .inl (k 0, 9, .inl (aN FO))), (g, .inl (k 0, 4, .inl (aN SP)))] H locs := hW
      refine lv_aload_n hX.1 hX.2.1 d_Ma_numberOf_61 rfl (lv_at hl 0 rfl) ?_
      refine kget hX hW i_Ma 0 rfl rfl 1 (by decide) f_Ma_17 rfl rfl d_Ma_numberOf_62 ?_
      refine lv_iload_n hX.1 hX.2.1 d_Ma_numberOf_65 rfl (lv_at hl 1 rfl) ?_
      refine kriald hX hW 2 rfl (by omega) (by first | decide | omega) d_Ma_numberOf_66 ?_
      refine tpi (y := nM (va_up NU S (z + 1) S)) (rfl) ?_
      exact kiret hX hr hlocks hQ () (hW) (by rw [va_up_self, nM_s]) d_Ma_numberOf_67
    refine kz hX (tgt := 49) (by split <;> decide) d_Ma_numberOf_42 (by decide) (fun h2 => ?_) (fun h2 => ?_)
    · refine lv_iconst (v := nI 0) hX.1 hX.2.1 d_Ma_numberOf_49 (by decide) ?_
      exact k50 _ (by rw [h2])
    · refine lv_iconst (v := nI 1) hX.1 hX.2.1 d_Ma_numberOf_45 (by decide) ?_
      refine lv_goto (tgt := 50) hX.1 hX.2.1 d_Ma_numberOf_46 (by decide) ?_
      exact k50 _ (by split at h2 <;> simp_all)
set_option maxHeartbeats 4000000 in
set_option maxRecDepth 100000 in
/-- numberOf(S), a known set -/
theorem ok_Ma_numOld (l : Launch) (D : va_G) (k : Nat → ClassId) (sz : Nat) (ma se nu nx ac gr fn tl : Nat) (SE NU NX AC GR FN TL : Nat → Nat) (z : Nat) (h f g : Nat) (FO SP : Nat → Nat) (en n : Nat) (S : Nat) (hS : S < 257) (i : Nat) (h0 : NU S = i + 1) (hi : i < 257) : Met l y_Ma_numberOf (.code y_Ma_numberOf c_Ma_numberOf 3 (some .int) :: wsU) ({ frames := 1, cells := 0, slots := 0, locals := 21 } : Room) (kPre D k [.ref ma, .int (nI S), .ref h] [(ma, .inr (1, [.ref se, .ref nu, .ref nx, .ref ac, .ref gr, .ref fn, .ref tl, .int (nI z)])), (se, .inl (k 0, 257, .inl (aN SE))), (nu, .inl (k 0, 257, .inl (aM NU))), (nx, .inl (k 0, 1028, .inl (aN NX))), (ac, .inl (k 0, 257, .inl (aN AC))), (gr, .inl (k 0, 257, .inl (aN GR))), (fn, .inl (k 0, 257, .inl (aN FN))), (tl, .inl (k 1, 7967, .inr (.inl (aL TL)))), (h, .inr (0, [.ref f, .ref g, .int (nI en), .int (nI n)])), (f, .inl (k 0, 9, .inl (aN FO))), (g, .inl (k 0, 4, .inl (aN SP)))] sz) (va_Qi (fun (r : Int32) (_ : Unit) => r = nI i) (kB D k (fun _ : Unit => [(ma, .inr (1, [.ref se, .ref nu, .ref nx, .ref ac, .ref gr, .ref fn, .ref tl, .int (nI z)])), (se, .inl (k 0, 257, .inl (aN SE))), (nu, .inl (k 0, 257, .inl (aM NU))), (nx, .inl (k 0, 1028, .inl (aN NX))), (ac, .inl (k 0, 257, .inl (aN AC))), (gr, .inl (k 0, 257, .inl (aN GR))), (fn, .inl (k 0, 257, .inl (aN FN))), (tl, .inl (k 1, 7967, .inr (.inl (aL TL)))), (h, .inr (0, [.ref f, .ref g, .int (nI en), .int (nI n)])), (f, .inl (k 0, 9, .inl (aN FO))), (g, .inl (k 0, 4, .inl (aN SP)))]) (va_A [(ma, .inr (1, [.ref se, .ref nu, .ref nx, .ref ac, .ref gr, .ref fn, .ref tl, .int (nI z)])), (se, .inl (k 0, 257, .inl (aN SE))), (nu, .inl (k 0, 257, .inl (aM NU))), (nx, .inl (k 0, 1028, .inl (aN NX))), (ac, .inl (k 0, 257, .inl (aN AC))), (gr, .inl (k 0, 257, .inl (aN GR))), (fn, .inl (k 0, 257, .inl (aN FN))), (tl, .inl (k 1, 7967, .inr (.inl (aL TL)))), (h, .inr (0, [.ref f, .ref g, .int (nI en), .int (nI n)])), (f, .inl (k 0, 9, .inl (aN FO))), (g, .inl (k 0, 4, .inl (aN SP)))] sz)) (va_A [(ma, .inr (1, [.ref se, .ref nu, .ref nx, .ref ac, .ref gr, .ref fn, .ref tl, .int (nI z)])), (se, .inl (k 0, 257, .inl (aN SE))), (nu, .inl (k 0, 257, .inl (aM NU))), (nx, .inl (k 0, 1028, .inl (aN NX))), (ac, .inl (k 0, 257, .inl (aN AC))), (gr, .inl (k 0, 257, .inl (aN GR))), (fn, .inl (k 0, 257, .inl (aN FN))), (tl, .inl (k 1, 7967, .inr (.inl (aL TL)))), (h, .inr (0, [.ref f, .ref g, .int (nI en), .int (nI n)])), (f, .inl (k 0, 9, .inl (aN FO))), (g, .inl (k 0, 4, .inl (aN SP)))] sz)) 0 0 (va_A [(ma, .inr (1, [.ref se, .ref nu, .ref nx, .ref ac, .ref gr, .ref fn, .ref tl, .int (nI z)])), (se, .inl (k 0, 257, .inl (aN SE))), (nu, .inl (k 0, 257, .inl (aM NU))), (nx, .inl (k 0, 1028, .inl (aN NX))), (ac, .inl (k 0, 257, .inl (aN AC))), (gr, .inl (k 0, 257, .inl (aN GR))), (fn, .inl (k 0, 257, .inl (aN FN))), (tl, .inl (k 1, 7967, .inr (.inl (aL TL)))), (h, .inr (0, [.ref f, .ref g, .int (nI en), .int (nI n)])), (f, .inl (k 0, 9, .inl (aN FO))), (g, .inl (k 0, 4, .inl (aN SP)))] sz) := by
  refine kMet (by decide) (Nat.le_of_ble_eq_true rfl) ?_
  intro p e s m below meth c ls hX hml hr hlocks hin hsz hW hl Q hQ
  generalize hAe : va_A [(ma, .inr (1, [.ref se, .ref nu, .ref nx, .ref ac, .ref gr, .ref fn, .ref tl, .int (nI z)])), (se, .inl (k 0, 257, .inl (aN SE))), (nu, .inl (k 0, 257, .inl (aM NU))), (nx, .inl (k 0, 1028, .inl (aN NX))), (ac, .inl (k 0, 257, .inl (aN AC))), (gr, .inl (k 0, 257, .inl (aN GR))), (fn, .inl (k 0, 257, .inl (aN FN))), (tl, .inl (k 1, 7967, .inr (.inl (aL TL)))), (h, .inr (0, [.ref f, .ref g, .int (nI en), .int (nI n)])), (f, .inl (k 0, 9, .inl (aN FO))), (g, .inl (k 0, 4, .inl (aN SP)))] sz = A at hW hQ
  generalize hH0 : s.heap = H at hW ⊢
  generalize hl0 : ([] : List Loc) = locs at hW ⊢
  have hX : FX p s m c [.ref ma, .int (nI S), .ref h].toArray c_Ma_numberOf R_Ma := hX
  have hl : lv_has ls 3 [(0, .ref ma), (1, .int (nI S)), (2, .ref h)] := hl
  refine lv_aload_n hX.1 hX.2.1 d_Ma_numberOf_0 rfl (lv_at hl 0 rfl) ?_
  refine kget hX hW i_Ma 0 rfl rfl 1 (by decide) f_Ma_17 rfl rfl d_Ma_numberOf_1 ?_
  refine lv_iload_n hX.1 hX.2.1 d_Ma_numberOf_4 rfl (lv_at hl 1 rfl) ?_
  refine kriald hX hW 2 rfl (by omega) (by first | decide | omega) d_Ma_numberOf_5 ?_
  refine tpi (y := nM (NU S)) (rfl) ?_
  refine kgeM hX (tgt := 61) (by omega) d_Ma_numberOf_6 (by decide) (fun h1 => ?_) (fun h1 => ?_)
  · refine lv_aload_n hX.1 hX.2.1 d_Ma_numberOf_61 rfl (lv_at hl 0 rfl) ?_
    refine kget hX hW i_Ma 0 rfl rfl 1 (by decide) f_Ma_17 rfl rfl d_Ma_numberOf_62 ?_
    refine lv_iload_n hX.1 hX.2.1 d_Ma_numberOf_65 rfl (lv_at hl 1 rfl) ?_
    refine kriald hX hW 2 rfl (by omega) (by first | decide | omega) d_Ma_numberOf_66 ?_
    refine tpi (y := nM (NU S)) (rfl) ?_
    exact kiret hX hr hlocks hQ () (hW) (by rw [h0, nM_s]) d_Ma_numberOf_67
  · omega
