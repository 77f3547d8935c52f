/-! THE JDK's own methods: Arrays.fill of ints and of longs -/
def fil {α : Type} (f : Nat → α) (x : α) (i : Nat) : Nat → α := fun j => if j < i then x else f j
theorem fil_0 {α : Type} (f : Nat → α) (x : α) : fil f x 0 = f := by funext j; simp [fil]
theorem fil_s (f : Nat → Int32) (x : Int32) (i : Nat) : upd (fil f x i) i x = fil f x (i + 1) := by
  funext j
  by_cases h : j = i
  · subst h; rw [pk_us]; simp [fil]
  · rw [pk_un h]; simp only [fil]; by_cases h2 : j < i
    · rw [if_pos h2, if_pos (by omega)]
    · rw [if_neg h2, if_neg (by omega)]
theorem fil_sL (f : Nat → Int64) (x : Int64) (i : Nat) : vp_updL (fil f x i) i x = fil f x (i + 1) := by
  funext j
  by_cases h : j = i
  · subst h; rw [pk_uLs]; simp [fil]
  · rw [pk_uLn h]; simp only [fil]; by_cases h2 : j < i
    · rw [if_pos h2, if_pos (by omega)]
    · rw [if_neg h2, if_neg (by omega)]
theorem kcongL {D : va_G} {k : Nat → ClassId} {A : Nat → Prop} {s : State} {ws : va_W} {H : Heap} {locs : List Loc} (h : KW D k A s ws H locs) (q0 : Nat) {a n : Nat} {cA : ClassId} {f f' : Nat → Int64} (he : ws[q0]? = some (a, .inl (cA, n, .inr (.inl f)))) (hf : ∀ j, j < n → f j = f' j) : KW D k A s (ws.set q0 (a, .inl (cA, n, .inr (.inl f')))) H locs := by
  obtain ⟨hP, hD, hS, hK, hA⟩ := h
  have h0 := hP q0 _ he
  refine ⟨hP.set hD he ?_ (fun _ _ => rfl), hD.set he, hS, hK, hA⟩
  have e1 : H[a]? = some (vp_cell cA (n, .inr (.inl f))) := h0
  show H[a]? = some (vp_cell cA (n, .inr (.inl f')))
  rw [e1]
  have : arrV cA n (fun j => Value.long (f j)) = arrV cA n (fun j => Value.long (f' j)) := by
    unfold arrV
    congr 1
    apply Array.ext
    · simp
    · intro i h1 h2
      simp at h1 ⊢
      exact hf i h1
  show some (arrV cA n (fun j => Value.long (f j))) = some (arrV cA n (fun j => Value.long (f' j)))
  rw [this]
set_option maxHeartbeats 4000000 in
set_option maxRecDepth 100000 in
/-- fill(a, x) -/
theorem ok_Ar_fillI (l : Launch) (D : va_G) (k : Nat → ClassId) (sz : Nat) (a n : Nat) (f : Nat → Int32) (x : Int32) (hn : n < 2 ^ 31) : Met l y_Ar_fillI (.code y_Ar_fillI c_Ar_fillI 4 none :: wsU) ({ frames := 0, cells := 0, slots := 0, locals := 0 } : Room) (kPre D k [.ref a, .int x] [(a, .inl (k 0, n, .inl f))] sz) (va_Qv (fun (_ : Unit) => True) (kB D k (fun _ : Unit => [(a, .inl (k 0, n, .inl (fun _ => x)))]) (va_A [(a, .inl (k 0, n, .inl f))] sz)) (va_A [(a, .inl (k 0, n, .inl f))] sz)) 0 0 (va_A [(a, .inl (k 0, n, .inl f))] sz) := by
  refine kMet (by decide) (Nat.le_of_ble_eq_true rfl) ?_
  intro p e s m below meth c ls hX hml hr hlocks hin hsz hW hl Q hQ
  generalize hAe : va_A [(a, .inl (k 0, n, .inl f))] sz = A at hW hQ
  generalize hH0 : s.heap = H at hW ⊢
  generalize hl0 : ([] : List Loc) = locs at hW ⊢
  have hX : FX p s m c [.ref a, .int x].toArray c_Ar_fillI R_Ar := hX
  have hl : lv_has ls 4 [(0, .ref a), (1, .int x)] := hl
  refine lv_iconst (v := nI 0) hX.1 hX.2.1 d_Ar_fillI_0 (by decide) ?_
  refine lv_istore_n (lv' := [(2, .int (nI 0)), (0, .ref a), (1, .int x)]) hX.1 hX.2.1 d_Ar_fillI_1 rfl hl (by decide) rfl (fun ls hl => ?_)
  refine lv_aload_n hX.1 hX.2.1 d_Ar_fillI_2 rfl (lv_at hl 1 rfl) ?_
  refine kalen hX hW 0 0 rfl rfl d_Ar_fillI_3 ?_
  refine lv_istore_n (lv' := [(3, .int (nI n)), (2, .int (nI 0)), (0, .ref a), (1, .int x)]) hX.1 hX.2.1 d_Ar_fillI_4 rfl hl (by decide) rfl (fun ls hl => ?_)
  rw [← fil_0 f x] at hW
  have lp : ∀ (fu : Nat) (i : Nat) (H : Heap) (locs : List Loc) (ls : Array Slot), i ≤ n → n < i + fu →  KW D k A s [(a, .inl (k 0, n, .inl (fil f x i)))] H locs → lv_has ls 4 [(3, .int (nI n)), (2, .int (nI i)), (1, .int x), (0, .ref a)] → W p l e ({ frames := 0, cells := 0, slots := 0, locals := 0 } : Room) s m [.ref a, .int x].toArray below meth c H locs 0 0 Q (F0 m 5 ls []) := by
    intro fu
    induction fu with
    | zero => intro i H locs ls h1 h2 hW hl; exfalso; omega
    | succ fu ih =>
      intro i H locs ls h1 h2 hW hl
      refine lv_iload_n hX.1 hX.2.1 d_Ar_fillI_5 rfl (lv_at hl 1 rfl) ?_
      refine lv_iload_n hX.1 hX.2.1 d_Ar_fillI_6 rfl (lv_at hl 0 rfl) ?_
      refine kge hX (tgt := 20) (by omega) (by omega) d_Ar_fillI_7 (by decide) (fun h3 => ?_) (fun h3 => ?_)
      · have h4 : i = n := by omega
        subst h4
        have hW := kcong (f' := fun _ => x) hW 0 rfl (fun j hj => by simp [fil, hj])
        have hW : KW D k A s [(a, .inl (k 0, i, .inl (fun _ => x)))] H locs := hW
        exact kvret hX hr hlocks hQ () (hW) (trivial) d_Ar_fillI_20
      · refine lv_aload_n hX.1 hX.2.1 d_Ar_fillI_10 rfl (lv_at hl 3 rfl) ?_
        refine lv_iload_n hX.1 hX.2.1 d_Ar_fillI_11 rfl (lv_at hl 1 rfl) ?_
        refine lv_iload_n hX.1 hX.2.1 d_Ar_fillI_12 rfl (lv_at hl 2 rfl) ?_
        refine kriast hX hW 0 rfl (by omega) (by first | decide | omega) d_Ar_fillI_13 (fun H locs hW => ?_)
        have hW : KW D k A s [(a, .inl (k 0, n, .inl (upd (fil f x i) i x)))] H locs := hW
        rw [fil_s] at hW
        refine lv_iinc (v := nI (i + 1)) (lv' := [(2, .int (nI (i + 1))), (3, .int (nI n)), (1, .int x), (0, .ref a)]) hX.1 hX.2.1 d_Ar_fillI_14 hl (k := 1) rfl (kn_inc _) (by decide) rfl (fun ls hl => ?_)
        refine lv_goto (tgt := 5) hX.1 hX.2.1 d_Ar_fillI_17 (by decide) ?_
        exact ih (i + 1) H locs ls (by omega) (by omega) (hW) (lv_sub hl [1, 0, 2, 3] rfl)
  exact lp (n + 1) 0 H locs ls (by omega) (by omega) (hW) (lv_sub hl [0, 1, 3, 2] rfl)
set_option maxHeartbeats 4000000 in
set_option maxRecDepth 100000 in
/-- fill(a, x) -/
theorem ok_Ar_fillL (l : Launch) (D : va_G) (k : Nat → ClassId) (sz : Nat) (a n : Nat) (f : Nat → Int64) (x : Int64) (hn : n < 2 ^ 31) : Met l y_Ar_fillL (.code y_Ar_fillL c_Ar_fillL 5 none :: wsU) ({ frames := 0, cells := 0, slots := 0, locals := 0 } : Room) (kPre D k [.ref a, .long x] [(a, .inl (k 1, n, .inr (.inl f)))] sz) (va_Qv (fun (_ : Unit) => True) (kB D k (fun _ : Unit => [(a, .inl (k 1, n, .inr (.inl (fun _ => x))))]) (va_A [(a, .inl (k 1, n, .inr (.inl f)))] sz)) (va_A [(a, .inl (k 1, n, .inr (.inl f)))] sz)) 0 0 (va_A [(a, .inl (k 1, n, .inr (.inl f)))] sz) := by
  refine kMet (by decide) (Nat.le_of_ble_eq_true rfl) ?_
  intro p e s m below meth c ls hX hml hr hlocks hin hsz hW hl Q hQ
  generalize hAe : va_A [(a, .inl (k 1, n, .inr (.inl f)))] sz = A at hW hQ
  generalize hH0 : s.heap = H at hW ⊢
  generalize hl0 : ([] : List Loc) = locs at hW ⊢
  have hX : FX p s m c [.ref a, .long x].toArray c_Ar_fillL R_Ar := hX
  have hl : lv_has ls 5 [(0, .ref a), (1, .long x)] := hl
  refine lv_iconst (v := nI 0) hX.1 hX.2.1 d_Ar_fillL_0 (by decide) ?_
  refine lv_istore_n (lv' := [(3, .int (nI 0)), (0, .ref a), (1, .long x)]) hX.1 hX.2.1 d_Ar_fillL_1 rfl hl (by decide) rfl (fun ls hl => ?_)
  refine lv_aload_n hX.1 hX.2.1 d_Ar_fillL_2 rfl (lv_at hl 1 rfl) ?_
  refine kalen hX hW 0 1 rfl rfl d_Ar_fillL_3 ?_
  refine lv_istore (lv' := [(4, .int (nI n)), (3, .int (nI 0)), (0, .ref a), (1, .long x)]) hX.1 hX.2.1 d_Ar_fillL_4 hl (by decide) rfl (fun ls hl => ?_)
  rw [← fil_0 f x] at hW
  have lp : ∀ (fu : Nat) (i : Nat) (H : Heap) (locs : List Loc) (ls : Array Slot), i ≤ n → n < i + fu →  KW D k A s [(a, .inl (k 1, n, .inr (.inl (fil f x i))))] H locs → lv_has ls 5 [(4, .int (nI n)), (3, .int (nI i)), (1, .long x), (0, .ref a)] → W p l e ({ frames := 0, cells := 0, slots := 0, locals := 0 } : Room) s m [.ref a, .long x].toArray below meth c H locs 0 0 Q (F0 m 6 ls []) := by
    intro fu
    induction fu with
    | zero => intro i H locs ls h1 h2 hW hl; exfalso; omega
    | succ fu ih =>
      intro i H locs ls h1 h2 hW hl
      refine lv_iload_n hX.1 hX.2.1 d_Ar_fillL_6 rfl (lv_at hl 1 rfl) ?_
      refine lv_iload hX.1 hX.2.1 d_Ar_fillL_7 (lv_at hl 0 rfl) ?_
      refine kge hX (tgt := 22) (by omega) (by omega) d_Ar_fillL_9 (by decide) (fun h3 => ?_) (fun h3 => ?_)
      · have h4 : i = n := by omega
        subst h4
        have hW := kcongL (f' := fun _ => x) hW 0 rfl (fun j hj => by simp [fil, hj])
        have hW : KW D k A s [(a, .inl (k 1, i, .inr (.inl (fun _ => x))))] H locs := hW
        exact kvret hX hr hlocks hQ () (hW) (trivial) d_Ar_fillL_22
      · refine lv_aload_n hX.1 hX.2.1 d_Ar_fillL_12 rfl (lv_at hl 3 rfl) ?_
        refine lv_iload_n hX.1 hX.2.1 d_Ar_fillL_13 rfl (lv_at hl 1 rfl) ?_
        refine lv_lload_n hX.1 hX.2.1 d_Ar_fillL_14 rfl (lv_at hl 2 rfl) ?_
        refine krlast hX hW 0 rfl (by omega) (by first | decide | omega) d_Ar_fillL_15 (fun H locs hW => ?_)
        have hW : KW D k A s [(a, .inl (k 1, n, .inr (.inl (vp_updL (fil f x i) i x))))] H locs := hW
        rw [fil_sL] at hW
        refine lv_iinc (v := nI (i + 1)) (lv' := [(3, .int (nI (i + 1))), (4, .int (nI n)), (1, .long x), (0, .ref a)]) hX.1 hX.2.1 d_Ar_fillL_16 hl (k := 1) rfl (kn_inc _) (by decide) rfl (fun ls hl => ?_)
        refine lv_goto (tgt := 6) hX.1 hX.2.1 d_Ar_fillL_19 (by decide) ?_
        exact ih (i + 1) H locs ls (by omega) (by omega) (hW) (lv_sub hl [1, 0, 2, 3] rfl)
  exact lp (n + 1) 0 H locs ls (by omega) (by omega) (hW) (lv_sub hl [0, 1, 3, 2] rfl)
