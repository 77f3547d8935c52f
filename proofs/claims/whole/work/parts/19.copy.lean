/-! Math.min, Arrays.copyOf, Search.whoAlone -/
theorem kmin {p : Program} {l : Launch} {e : Env} {R : Room} {s : State} {m : MethodId} {args : Array Value} {below : List Frame} {meth : Method} {c : Code} {H : Heap} {locs : List Loc} {cells slots : Nat} {Q : State → Prop} {cc : ByteArray} {pc : Nat} {ls : Array Slot} {rest : List Value} (hX : FX p s m c args cc R_Ar) (hml : c.maxLocals = ls.size) (hf : 1 ≤ R.frames) (hlo : (rest.map fun v => v.category).sum + 13 ≤ R.locals) (hc : cells ≤ R.cells) (hs : slots ≤ R.slots) {a b : Nat} (ha : a < 2 ^ 31) (hb : b < 2 ^ 31) (hdg : decode cc pc = .ok (.invokestatic 304, 3))
    (kk : W p l e R s m args below meth c H locs cells slots Q (F0 m (pc + 3) ls (.int (nI (min a b)) :: rest))) : W p l e R s m args below meth c H locs cells slots Q (F0 m pc ls (.int (nI b) :: .int (nI a) :: rest)) := by
  obtain ⟨hx, hb0, hown, hts⟩ := hX
  refine va_mmin hx hb0 hml hown (hts _ m_Ar_304) (hts _ sm_Mt_min) (hts _ in_Mt) (hts _ cd_Mt_min) hf hlo hc hs hdg ?_
  have e : (if nI b < nI a then nI b else nI a) = nI (min a b) := by
    by_cases h : b < a
    · rw [if_pos ((nI_ltI hb ha).mpr h), Nat.min_eq_right (by omega)]
    · rw [if_neg (fun q => h ((nI_ltI hb ha).mp q)), Nat.min_eq_left (by omega)]
  rw [e]
  exact kk
set_option maxHeartbeats 4000000 in
set_option maxRecDepth 100000 in
/-- copyOf(a, n), n above its length -/
theorem ok_Ar_copyI (l : Launch) (D : va_G) (k : Nat → ClassId) (sz : Nat) (a cp : Nat) (F : Nat → Nat) (n : Nat) (hcp : cp < n) (hn : n < 2 ^ 20) : Met l y_Ar_copyI (.code y_Ar_copyI c_Ar_copyI 3 (some (.array .int)) :: wsU) ({ frames := 1, cells := 1, slots := n, locals := 21 } : Room) (kPre D k [.ref a, .int (nI n)] [(a, .inl (k 0, cp, .inl (aN F)))] sz) (va_Qr (fun _ : Unit => True) (fun _ ra t => kB D k (fun u : Nat => [(a, .inl (k 0, cp, .inl (aN F)))] ++ [(u, .inl (k 0, n, .inl (aN (cpz F (fun _ => 0) cp))))]) (va_A [(a, .inl (k 0, cp, .inl (aN F)))] sz) ra t) (va_A [(a, .inl (k 0, cp, .inl (aN F)))] sz)) 1 n (va_A [(a, .inl (k 0, cp, .inl (aN F)))] sz) := by
  refine kMet (by decide) (Nat.le_of_ble_eq_true rfl) ?_
  intro p e s m below meth c ls hX hml hr hlocks hin hsz hW hl Q hQ
  generalize hAe : va_A [(a, .inl (k 0, cp, .inl (aN F)))] sz = A at hW hQ
  generalize hH0 : s.heap = H at hW ⊢
  generalize hl0 : ([] : List Loc) = locs at hW ⊢
  have hX : FX p s m c [.ref a, .int (nI n)].toArray c_Ar_copyI R_Ar := hX
  have hl : lv_has ls 3 [(0, .ref a), (1, .int (nI n))] := hl
  refine lv_iload_n hX.1 hX.2.1 d_Ar_copyI_0 rfl (lv_at hl 1 rfl) ?_
  refine lv_aload_n hX.1 hX.2.1 d_Ar_copyI_1 rfl (lv_at hl 0 rfl) ?_
  refine kalen hX hW 0 0 rfl rfl d_Ar_copyI_2 ?_
  refine kne hX (tgt := 14) (by omega) (by omega) d_Ar_copyI_3 (by decide) (fun h1 => ?_) (fun h1 => ?_)
  · refine lv_iload_n hX.1 hX.2.1 d_Ar_copyI_14 rfl (lv_at hl 1 rfl) ?_
    refine knewI hX hW (by first | decide | omega) (by first | decide | omega | (dsimp only; omega)) (by first | decide | omega | (dsimp only; omega)) d_Ar_copyI_15 (fun q15 H hW => ?_)
    have hW : KW D k A s [(a, .inl (k 0, cp, .inl (aN F))), (q15, .inl (k 0, n, .inl (aN (fun _ => 0))))] H locs := hW
    refine lv_astore_n (lv' := [(2, .ref q15), (0, .ref a), (1, .int (nI n))]) hX.1 hX.2.1 d_Ar_copyI_17 rfl hl (by decide) rfl (fun ls hl => ?_)
    refine lv_aload_n hX.1 hX.2.1 d_Ar_copyI_18 rfl (lv_at hl 1 rfl) ?_
    refine lv_iconst (v := nI 0) hX.1 hX.2.1 d_Ar_copyI_19 (by decide) ?_
    refine lv_aload_n hX.1 hX.2.1 d_Ar_copyI_20 rfl (lv_at hl 0 rfl) ?_
    refine lv_iconst (v := nI 0) hX.1 hX.2.1 d_Ar_copyI_21 (by decide) ?_
    refine lv_aload_n hX.1 hX.2.1 d_Ar_copyI_22 rfl (lv_at hl 1 rfl) ?_
    refine kalen hX hW 0 0 rfl rfl d_Ar_copyI_23 ?_
    refine lv_iload_n hX.1 hX.2.1 d_Ar_copyI_24 rfl (lv_at hl 2 rfl) ?_
    refine kmin hX (hml.trans hl.1.symm) (Nat.le_of_ble_eq_true rfl) (Nat.le_of_ble_eq_true rfl) (by dsimp only; omega) (by dsimp only; omega) (by omega) (by omega) d_Ar_copyI_25 ?_
    rw [Nat.min_eq_left (by omega)]
    refine kcopy (sp := 0) (dp := 0) (n := cp) hX (hml.trans hl.1.symm) hW m_Ar_150 0 1 rfl rfl (by omega) (by omega) (by omega) (by omega) (Nat.le_of_ble_eq_true rfl) (Nat.le_of_ble_eq_true rfl) d_Ar_copyI_28 (fun H locs hW => ?_)
    rw [cpz_aN] at hW
    have hW : KW D k A s [(a, .inl (k 0, cp, .inl (aN F))), (q15, .inl (k 0, n, .inl (aN (cpz F (fun _ => 0) cp))))] H locs := hW
    refine lv_aload_n hX.1 hX.2.1 d_Ar_copyI_31 rfl (lv_at hl 0 rfl) ?_
    refine W.widen (k := 1) (n := n) (by omega) (by omega) ?_
    exact karet hX hr (Or.inr ⟨_, rfl⟩) hlocks hQ hW d_Ar_copyI_32
  · omega
set_option maxHeartbeats 4000000 in
set_option maxRecDepth 100000 in
/-- whoAlone(x, y) -/
theorem ok_Se_whoAlone (l : Launch) (D : va_G) (k : Nat → ClassId) (sz : Nat) (x y : Bool) : Met l y_Se_whoAlone (.code y_Se_whoAlone c_Se_whoAlone 2 (some .int) :: wsU) ({ frames := 0, cells := 0, slots := 0, locals := 0 } : Room) (kPre D k [.int (nI x.toNat), .int (nI y.toNat)] [] sz) (va_Qi (fun (r : Int32) (_ : Unit) => r = nI (if x = y then 0 else if x then 1 else 2)) (kB D k (fun _ : Unit => []) (va_A [] sz)) (va_A [] sz)) 0 0 (va_A [] sz) := by
  refine kMet (by decide) (Nat.le_of_ble_eq_true rfl) ?_
  intro p e s m below meth c ls hX hml hr hlocks hin hsz hW hl Q hQ
  generalize hAe : va_A [] sz = A at hW hQ
  generalize hH0 : s.heap = H at hW ⊢
  generalize hl0 : ([] : List Loc) = locs at hW ⊢
  have hX : FX p s m c [.int (nI x.toNat), .int (nI y.toNat)].toArray c_Se_whoAlone R_Se := hX
  have hl : lv_has ls 2 [(0, .int (nI x.toNat)), (1, .int (nI y.toNat))] := hl
  refine lv_iload_n hX.1 hX.2.1 d_Se_whoAlone_0 rfl (lv_at hl 0 rfl) ?_
  refine lv_iload_n hX.1 hX.2.1 d_Se_whoAlone_1 rfl (lv_at hl 1 rfl) ?_
  refine kne hX (tgt := 7) (bT _) (bT _) d_Se_whoAlone_2 (by decide) (fun h1 => ?_) (fun h1 => ?_)
  · have hne : ¬ x = y := fun e => h1 (by rw [e])
    refine lv_iload_n hX.1 hX.2.1 d_Se_whoAlone_7 rfl (lv_at hl 0 rfl) ?_
    refine kz hX (tgt := 15) (bT _) d_Se_whoAlone_8 (by decide) (fun h2 => ?_) (fun h2 => ?_)
    · refine lv_iconst (v := nI 2) hX.1 hX.2.1 d_Se_whoAlone_15 (by decide) ?_
      exact kiret hX hr hlocks hQ () (hW) (by rw [if_neg hne, bT_0 h2]; rfl) d_Se_whoAlone_16
    · refine lv_iconst (v := nI 1) hX.1 hX.2.1 d_Se_whoAlone_11 (by decide) ?_
      refine lv_goto (tgt := 16) hX.1 hX.2.1 d_Se_whoAlone_12 (by decide) ?_
      exact kiret hX hr hlocks hQ () (hW) (by rw [if_neg hne, bT_1 h2]; rfl) d_Se_whoAlone_16
  · have he : x = y := by cases x <;> cases y <;> simp_all
    refine lv_iconst (v := nI 0) hX.1 hX.2.1 d_Se_whoAlone_5 (by decide) ?_
    exact kiret hX hr hlocks hQ () (hW) (by rw [if_pos he]) d_Se_whoAlone_6
