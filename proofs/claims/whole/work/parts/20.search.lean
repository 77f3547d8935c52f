/-! THE SEARCH: marks, the queue -/
theorem ln_and (a b : Nat) : lN a &&& lN b = lN (a &&& b) := by
  apply Int64.toBitVec_inj.mp
  show BitVec.ofNat 64 a &&& BitVec.ofNat 64 b = BitVec.ofNat 64 (a &&& b)
  simp
theorem ln_or (a b : Nat) : lN a ||| lN b = lN (a ||| b) := by
  apply Int64.toBitVec_inj.mp
  show BitVec.ofNat 64 a ||| BitVec.ofNat 64 b = BitVec.ofNat 64 (a ||| b)
  simp
theorem ln_shl1 {j : Nat} (h : j < 64) : lN 1 <<< ((nI j).toInt64 &&& 63) = lN (2 ^ j) := by
  have : ∀ j : Fin 64, lN 1 <<< ((nI j.val).toInt64 &&& 63) = lN (2 ^ j.val) := by decide +kernel
  exact this ⟨j, h⟩
theorem ln_inj {a b : Nat} (ha : a < 2 ^ 64) (hb : b < 2 ^ 64) (h : lN a = lN b) : a = b := by
  have h1 : (lN a).toBitVec.toNat = (lN b).toBitVec.toNat := by rw [h]
  have h2 : ∀ n, n < 2 ^ 64 → (lN n).toBitVec.toNat = n := fun n hn => by
    show (BitVec.ofNat 64 n).toNat = n
    rw [BitVec.toNat_ofNat]; exact Nat.mod_eq_of_lt hn
  rw [h2 a ha, h2 b hb] at h1
  exact h1
theorem lg_cmp_0 {x y : Int64} : lg_cmp x y = 0 ↔ x = y := by
  unfold lg_cmp
  by_cases h1 : x > y
  · rw [if_pos h1]
    refine ⟨fun h => absurd h (by decide), fun h => ?_⟩
    subst h
    exact absurd h1 (by simp [Int64.lt_iff_toInt_lt])
  · rw [if_neg h1]
    by_cases h2 : x = y
    · rw [if_pos h2]; exact ⟨fun _ => h2, fun _ => rfl⟩
    · rw [if_neg h2]; exact ⟨fun h => absurd h (by decide), fun h => absurd h h2⟩
theorem pair_or {x y : Nat} (hy : y < 256) : x * 256 ||| y = x * 256 + y := by
  have := Nat.two_pow_add_eq_or_of_lt (i := 8) hy x
  rw [show x * 256 = 2 ^ 8 * x by omega]
  exact this.symm
theorem kn_shl8 {x : Nat} (h : x < 256) : nI x <<< (nI 8 &&& 31) = nI (x * 256) := pk_shlN _ 8 (by decide +kernel) (by omega)
theorem kn_shr6 {x : Nat} (h : x < 2 ^ 31) : nI x >>> (nI 6 &&& 31) = nI (x / 64) := pk_shrN h _ 6 (by decide +kernel)
theorem kn_63 (x : Nat) : nI x &&& nI 63 = nI (x % 64) := by rw [kn_and]; congr 1; exact Nat.and_two_pow_sub_one_eq_mod x 6
theorem and_pw (a j : Nat) : a &&& 2 ^ j = (a.testBit j).toNat * 2 ^ j := by
  apply Nat.eq_of_testBit_eq
  intro i
  rw [Nat.testBit_and]
  by_cases h : j = i
  · subst h
    cases hb : a.testBit j
    · simp
    · simp [Nat.testBit_two_pow_self]
  · rw [Nat.testBit_two_pow_of_ne h]
    cases hb : a.testBit j
    · simp
    · simp [Nat.testBit_two_pow_of_ne h]
/-- a pair's mark -/
def sb (SN : Nat → Nat) (p : Nat) : Bool := (SN (p / 64)).testBit (p % 64)
def sbs (SN : Nat → Nat) (p : Nat) : Nat → Nat := va_up SN (p / 64) (SN (p / 64) ||| 2 ^ (p % 64))
section KB5
variable {p : Program} {l : Launch} {e : Env} {R : Room} {s : State} {m : MethodId} {args : Array Value} {below : List Frame} {meth : Method} {c : Code} {H : Heap} {locs : List Loc} {cells slots : Nat} {Q : State → Prop}
variable {cc : ByteArray} {pc : Nat} {ls : Array Slot} {rest : List Value} {own : String}
theorem klcmp_ne (hX : FX p s m c args cc own) {a b : Nat} {off : Int} {tgt : Nat} (ha : a < 2 ^ 64) (hb : b < 2 ^ 64) (hd1 : decode cc pc = .ok (.lcmp, 1)) (hd2 : decode cc (pc + 1) = .ok (.ifCond .ne off, 3)) (ht : ((pc + 1 : Nat) : Int) + off = (tgt : Int))
    (kt : a ≠ b → W p l e R s m args below meth c H locs cells slots Q (F0 m tgt ls rest)) (kf : a = b → W p l e R s m args below meth c H locs cells slots Q (F0 m (pc + 1 + 3) ls rest)) : W p l e R s m args below meth c H locs cells slots Q (F0 m pc ls (.long (lN b) :: .long (lN a) :: rest)) :=
  W.lcmp hX.1 hX.2.1 hd1 (lv_if_ne hX.1 hX.2.1 hd2 ht (fun h => kt (fun q => h (lg_cmp_0.mpr (by rw [q])))) (fun h => kf (ln_inj ha hb (lg_cmp_0.mp h))))
end KB5
set_option maxHeartbeats 4000000 in
set_option maxRecDepth 100000 in
/-- markIfNew(x, y) -/
theorem ok_Se_mark (l : Launch) (D : va_G) (k : Nat → ClassId) (sz : Nat) (se sn fi sc og : Nat) (SN FI SC OG : Nat → Nat) (z cp : Nat) (x y : Nat) (hx : x < 256) (hy : y < 256) (hSN : ∀ w, w < 1024 → SN w < 2 ^ 64) : Met l y_Se_markIfNew (.code y_Se_markIfNew c_Se_markIfNew 7 (some .boolean) :: wsU) ({ frames := 0, cells := 0, slots := 0, locals := 0 } : Room) (kPre D k [.ref se, .int (nI x), .int (nI y)] [(se, .inr (4, [.ref sn, .ref fi, .ref sc, .ref og, .int (nI z)])), (sn, .inl (k 1, 1024, .inr (.inl (aL SN)))), (fi, .inl (k 0, cp, .inl (aN FI))), (sc, .inl (k 0, cp, .inl (aN SC))), (og, .inl (k 0, cp, .inl (aN OG)))] sz) (va_Qi (fun (r : Int32) (_ : Unit) => r = nI (!sb SN (x * 256 + y)).toNat) (kB D k (fun _ : Unit => [(se, .inr (4, [.ref sn, .ref fi, .ref sc, .ref og, .int (nI z)])), (sn, .inl (k 1, 1024, .inr (.inl (aL (sbs SN (x * 256 + y)))))), (fi, .inl (k 0, cp, .inl (aN FI))), (sc, .inl (k 0, cp, .inl (aN SC))), (og, .inl (k 0, cp, .inl (aN OG)))]) (va_A [(se, .inr (4, [.ref sn, .ref fi, .ref sc, .ref og, .int (nI z)])), (sn, .inl (k 1, 1024, .inr (.inl (aL SN)))), (fi, .inl (k 0, cp, .inl (aN FI))), (sc, .inl (k 0, cp, .inl (aN SC))), (og, .inl (k 0, cp, .inl (aN OG)))] sz)) (va_A [(se, .inr (4, [.ref sn, .ref fi, .ref sc, .ref og, .int (nI z)])), (sn, .inl (k 1, 1024, .inr (.inl (aL SN)))), (fi, .inl (k 0, cp, .inl (aN FI))), (sc, .inl (k 0, cp, .inl (aN SC))), (og, .inl (k 0, cp, .inl (aN OG)))] sz)) 0 0 (va_A [(se, .inr (4, [.ref sn, .ref fi, .ref sc, .ref og, .int (nI z)])), (sn, .inl (k 1, 1024, .inr (.inl (aL SN)))), (fi, .inl (k 0, cp, .inl (aN FI))), (sc, .inl (k 0, cp, .inl (aN SC))), (og, .inl (k 0, cp, .inl (aN OG)))] sz) := by
  refine kMet (by decide) (Nat.le_of_ble_eq_true rfl) ?_
  intro p e s m below meth c ls hX hml hr hlocks hin hsz hW hl Q hQ
  generalize hAe : va_A [(se, .inr (4, [.ref sn, .ref fi, .ref sc, .ref og, .int (nI z)])), (sn, .inl (k 1, 1024, .inr (.inl (aL SN)))), (fi, .inl (k 0, cp, .inl (aN FI))), (sc, .inl (k 0, cp, .inl (aN SC))), (og, .inl (k 0, cp, .inl (aN OG)))] sz = A at hW hQ
  generalize hH0 : s.heap = H at hW ⊢
  generalize hl0 : ([] : List Loc) = locs at hW ⊢
  have hX : FX p s m c [.ref se, .int (nI x), .int (nI y)].toArray c_Se_markIfNew R_Se := hX
  have hl : lv_has ls 7 [(0, .ref se), (1, .int (nI x)), (2, .int (nI y))] := hl
  refine lv_iload_n hX.1 hX.2.1 d_Se_markIfNew_0 rfl (lv_at hl 1 rfl) ?_
  refine lv_bipush (v := nI 8) hX.1 hX.2.1 d_Se_markIfNew_1 (by decide) ?_
  refine lv_ishl hX.1 hX.2.1 d_Se_markIfNew_3 ?_
  refine tpi (y := nI (x * 256)) (kn_shl8 hx) ?_
  refine lv_iload_n hX.1 hX.2.1 d_Se_markIfNew_4 rfl (lv_at hl 2 rfl) ?_
  refine lv_ior hX.1 hX.2.1 d_Se_markIfNew_5 ?_
  refine tpi (y := nI (x * 256 + y)) ((kn_or _ _).trans (by rw [pair_or hy])) ?_
  obtain ⟨pr, hpr⟩ : ∃ pr, x * 256 + y = pr := ⟨_, rfl⟩
  rw [hpr] at hQ ⊢
  have hp : pr < 65536 := by omega
  have hs := hSN (pr / 64) (by omega)
  have ha : SN (pr / 64) &&& 2 ^ (pr % 64) < 2 ^ 64 := Nat.lt_of_le_of_lt Nat.and_le_left hs
  refine lv_istore_n (lv' := [(3, .int (nI pr)), (0, .ref se), (1, .int (nI x)), (2, .int (nI y))]) hX.1 hX.2.1 d_Se_markIfNew_6 rfl hl (by decide) rfl (fun ls hl => ?_)
  refine lv_lconst (v := lN 1) hX.1 hX.2.1 d_Se_markIfNew_7 (by decide) ?_
  refine lv_iload_n hX.1 hX.2.1 d_Se_markIfNew_8 rfl (lv_at hl 0 rfl) ?_
  refine lv_bipush (v := nI 63) hX.1 hX.2.1 d_Se_markIfNew_9 (by decide) ?_
  refine lv_iand hX.1 hX.2.1 d_Se_markIfNew_11 ?_
  refine tpi (y := nI (pr % 64)) (kn_63 _) ?_
  refine lv_lshl (v := lN (2 ^ (pr % 64))) hX.1 hX.2.1 d_Se_markIfNew_12 (ln_shl1 (by omega)) ?_
  refine lv_lstore (lv' := [(4, .long (lN (2 ^ (pr % 64)))), (3, .int (nI pr)), (0, .ref se), (1, .int (nI x)), (2, .int (nI y))]) hX.1 hX.2.1 d_Se_markIfNew_13 hl (by decide) rfl (fun ls hl => ?_)
  refine lv_aload_n hX.1 hX.2.1 d_Se_markIfNew_15 rfl (lv_at hl 2 rfl) ?_
  refine kget hX hW i_Se 0 rfl rfl 0 (by decide) f_Se_9 rfl rfl d_Se_markIfNew_16 ?_
  refine lv_iload_n hX.1 hX.2.1 d_Se_markIfNew_19 rfl (lv_at hl 1 rfl) ?_
  refine lv_bipush (v := nI 6) hX.1 hX.2.1 d_Se_markIfNew_20 (by decide) ?_
  refine lv_ishr hX.1 hX.2.1 d_Se_markIfNew_22 ?_
  refine tpi (y := nI (pr / 64)) (kn_shr6 (by omega)) ?_
  refine klald hX hW 1 rfl (by omega) (by first | decide | omega) d_Se_markIfNew_23 ?_
  refine lv_lload hX.1 hX.2.1 d_Se_markIfNew_24 (lv_at hl 0 rfl) ?_
  refine lv_land hX.1 hX.2.1 d_Se_markIfNew_26 ?_
  refine tpl (y := lN (SN (pr / 64) &&& 2 ^ (pr % 64))) (ln_and _ _) ?_
  refine lv_lconst (v := lN 0) hX.1 hX.2.1 d_Se_markIfNew_27 (by decide) ?_
  have k37 : ∀ (v : Nat), v = (!sb SN pr).toNat → W p l e ({ frames := 0, cells := 0, slots := 0, locals := 0 } : Room) s m [.ref se, .int (nI x), .int (nI y)].toArray below meth c H locs 0 0 Q (F0 m 37 ls [.int (nI v)]) := by
    intro v hv
    refine lv_istore (lv' := [(6, .int (nI v)), (4, .long (lN (2 ^ (pr % 64)))), (3, .int (nI pr)), (0, .ref se), (1, .int (nI x)), (2, .int (nI y))]) hX.1 hX.2.1 d_Se_markIfNew_37 hl (by decide) rfl (fun ls hl => ?_)
    refine lv_aload_n hX.1 hX.2.1 d_Se_markIfNew_39 rfl (lv_at hl 3 rfl) ?_
    refine kget hX hW i_Se 0 rfl rfl 0 (by decide) f_Se_9 rfl rfl d_Se_markIfNew_40 ?_
    refine lv_iload_n hX.1 hX.2.1 d_Se_markIfNew_43 rfl (lv_at hl 2 rfl) ?_
    refine lv_bipush (v := nI 6) hX.1 hX.2.1 d_Se_markIfNew_44 (by decide) ?_
    refine lv_ishr hX.1 hX.2.1 d_Se_markIfNew_46 ?_
    refine tpi (y := nI (pr / 64)) (kn_shr6 (by omega)) ?_
    refine lv_dup2_11 hX.1 hX.2.1 d_Se_markIfNew_47 rfl rfl ?_
    refine klald hX hW 1 rfl (by omega) (by first | decide | omega) d_Se_markIfNew_48 ?_
    refine lv_lload hX.1 hX.2.1 d_Se_markIfNew_49 (lv_at hl 1 rfl) ?_
    refine lv_lor hX.1 hX.2.1 d_Se_markIfNew_51 ?_
    refine tpl (y := lN (SN (pr / 64) ||| 2 ^ (pr % 64))) (ln_or _ _) ?_
    refine klast hX hW 1 rfl (by omega) (by first | decide | omega) d_Se_markIfNew_52 (fun H locs hW => ?_)
    have hW : KW D k A s [(se, .inr (4, [.ref sn, .ref fi, .ref sc, .ref og, .int (nI z)])), (sn, .inl (k 1, 1024, .inr (.inl (aL (va_up SN (pr / 64) (SN (pr / 64) ||| 2 ^ (pr % 64))))))), (fi, .inl (k 0, cp, .inl (aN FI))), (sc, .inl (k 0, cp, .inl (aN SC))), (og, .inl (k 0, cp, .inl (aN OG)))] H locs := hW
    refine lv_iload hX.1 hX.2.1 d_Se_markIfNew_53 (lv_at hl 0 rfl) ?_
    subst hv
    exact kzret hX hr hlocks hQ () (hW) (rfl) (bT_r _) d_Se_markIfNew_55
  have hand : SN (pr / 64) &&& 2 ^ (pr % 64) = (sb SN pr).toNat * 2 ^ (pr % 64) := and_pw _ _
  refine klcmp_ne hX (tgt := 36) ha (by decide) d_Se_markIfNew_28 d_Se_markIfNew_29 (by decide) (fun h3 => ?_) (fun h3 => ?_)
  · refine lv_iconst (v := nI 0) hX.1 hX.2.1 d_Se_markIfNew_36 (by decide) ?_
    exact k37 _ (by cases hb : sb SN pr with | false => rw [hand, hb] at h3; simp at h3 | true => rfl)
  · refine lv_iconst (v := nI 1) hX.1 hX.2.1 d_Se_markIfNew_32 (by decide) ?_
    refine lv_goto (tgt := 37) hX.1 hX.2.1 d_Se_markIfNew_33 (by decide) ?_
    exact k37 _ (by cases hb : sb SN pr with | false => rfl | true => rw [hand, hb] at h3; simp at h3)
set_option maxHeartbeats 4000000 in
set_option maxRecDepth 100000 in
/-- append(x, y, o), there is room -/
theorem ok_Se_appendS (l : Launch) (D : va_G) (k : Nat → ClassId) (sz : Nat) (se sn fi sc og : Nat) (SN FI SC OG : Nat → Nat) (z cp : Nat) (x y o : Nat) (hz : z < cp) (hcp : cp < 2 ^ 19) : Met l y_Se_append (.code y_Se_append c_Se_append 4 none :: wsU) ({ frames := 2, cells := 0, slots := 0, locals := 64 } : Room) (kPre D k [.ref se, .int (nI x), .int (nI y), .int (nI o)] [(se, .inr (4, [.ref sn, .ref fi, .ref sc, .ref og, .int (nI z)])), (sn, .inl (k 1, 1024, .inr (.inl (aL SN)))), (fi, .inl (k 0, cp, .inl (aN FI))), (sc, .inl (k 0, cp, .inl (aN SC))), (og, .inl (k 0, cp, .inl (aN OG)))] sz) (va_Qv (fun (_ : Unit) => True) (kB D k (fun _ : Unit => [(se, .inr (4, [.ref sn, .ref fi, .ref sc, .ref og, .int (nI (z + 1))])), (sn, .inl (k 1, 1024, .inr (.inl (aL SN)))), (fi, .inl (k 0, cp, .inl (aN (va_up FI z x)))), (sc, .inl (k 0, cp, .inl (aN (va_up SC z y)))), (og, .inl (k 0, cp, .inl (aN (va_up OG z o))))]) (va_A [(se, .inr (4, [.ref sn, .ref fi, .ref sc, .ref og, .int (nI z)])), (sn, .inl (k 1, 1024, .inr (.inl (aL SN)))), (fi, .inl (k 0, cp, .inl (aN FI))), (sc, .inl (k 0, cp, .inl (aN SC))), (og, .inl (k 0, cp, .inl (aN OG)))] sz)) (va_A [(se, .inr (4, [.ref sn, .ref fi, .ref sc, .ref og, .int (nI z)])), (sn, .inl (k 1, 1024, .inr (.inl (aL SN)))), (fi, .inl (k 0, cp, .inl (aN FI))), (sc, .inl (k 0, cp, .inl (aN SC))), (og, .inl (k 0, cp, .inl (aN OG)))] sz)) 0 0 (va_A [(se, .inr (4, [.ref sn, .ref fi, .ref sc, .ref og, .int (nI z)])), (sn, .inl (k 1, 1024, .inr (.inl (aL SN)))), (fi, .inl (k 0, cp, .inl (aN FI))), (sc, .inl (k 0, cp, .inl (aN SC))), (og, .inl (k 0, cp, .inl (aN OG)))] sz) := by
  refine kMet (by decide) (Nat.le_of_ble_eq_true rfl) ?_
  intro p e s m below meth c ls hX hml hr hlocks hin hsz hW hl Q hQ
  generalize hAe : va_A [(se, .inr (4, [.ref sn, .ref fi, .ref sc, .ref og, .int (nI z)])), (sn, .inl (k 1, 1024, .inr (.inl (aL SN)))), (fi, .inl (k 0, cp, .inl (aN FI))), (sc, .inl (k 0, cp, .inl (aN SC))), (og, .inl (k 0, cp, .inl (aN OG)))] sz = A at hW hQ
  generalize hH0 : s.heap = H at hW ⊢
  generalize hl0 : ([] : List Loc) = locs at hW ⊢
  have hX : FX p s m c [.ref se, .int (nI x), .int (nI y), .int (nI o)].toArray c_Se_append R_Se := hX
  have hl : lv_has ls 4 [(0, .ref se), (1, .int (nI x)), (2, .int (nI y)), (3, .int (nI o))] := hl
  refine lv_aload_n hX.1 hX.2.1 d_Se_append_0 rfl (lv_at hl 0 rfl) ?_
  refine kget hX hW i_Se 0 rfl rfl 4 (by decide) f_Se_25 rfl rfl d_Se_append_1 ?_
  refine lv_aload_n hX.1 hX.2.1 d_Se_append_4 rfl (lv_at hl 0 rfl) ?_
  refine kget hX hW i_Se 0 rfl rfl 1 (by decide) f_Se_15 rfl rfl d_Se_append_5 ?_
  refine kalen hX hW 2 0 rfl rfl d_Se_append_8 ?_
  refine klt hX (tgt := 63) (by omega) (by omega) d_Se_append_9 (by decide) (fun h1 => ?_) (fun h1 => ?_)
  · refine lv_aload_n hX.1 hX.2.1 d_Se_append_63 rfl (lv_at hl 0 rfl) ?_
    refine kget hX hW i_Se 0 rfl rfl 1 (by decide) f_Se_15 rfl rfl d_Se_append_64 ?_
    refine lv_aload_n hX.1 hX.2.1 d_Se_append_67 rfl (lv_at hl 0 rfl) ?_
    refine kget hX hW i_Se 0 rfl rfl 4 (by decide) f_Se_25 rfl rfl d_Se_append_68 ?_
    refine lv_iload_n hX.1 hX.2.1 d_Se_append_71 rfl (lv_at hl 1 rfl) ?_
    refine kiast hX hW 2 rfl (by omega) (by first | decide | omega) d_Se_append_72 (fun H locs hW => ?_)
    have hW : KW D k A s [(se, .inr (4, [.ref sn, .ref fi, .ref sc, .ref og, .int (nI z)])), (sn, .inl (k 1, 1024, .inr (.inl (aL SN)))), (fi, .inl (k 0, cp, .inl (aN (va_up FI z x)))), (sc, .inl (k 0, cp, .inl (aN SC))), (og, .inl (k 0, cp, .inl (aN OG)))] H locs := hW
    refine lv_aload_n hX.1 hX.2.1 d_Se_append_73 rfl (lv_at hl 0 rfl) ?_
    refine kget hX hW i_Se 0 rfl rfl 2 (by decide) f_Se_19 rfl rfl d_Se_append_74 ?_
    refine lv_aload_n hX.1 hX.2.1 d_Se_append_77 rfl (lv_at hl 0 rfl) ?_
    refine kget hX hW i_Se 0 rfl rfl 4 (by decide) f_Se_25 rfl rfl d_Se_append_78 ?_
    refine lv_iload_n hX.1 hX.2.1 d_Se_append_81 rfl (lv_at hl 2 rfl) ?_
    refine kiast hX hW 3 rfl (by omega) (by first | decide | omega) d_Se_append_82 (fun H locs hW => ?_)
    have hW : KW D k A s [(se, .inr (4, [.ref sn, .ref fi, .ref sc, .ref og, .int (nI z)])), (sn, .inl (k 1, 1024, .inr (.inl (aL SN)))), (fi, .inl (k 0, cp, .inl (aN (va_up FI z x)))), (sc, .inl (k 0, cp, .inl (aN (va_up SC z y)))), (og, .inl (k 0, cp, .inl (aN OG)))] H locs := hW
    refine lv_aload_n hX.1 hX.2.1 d_Se_append_83 rfl (lv_at hl 0 rfl) ?_
    refine kget hX hW i_Se 0 rfl rfl 3 (by decide) f_Se_22 rfl rfl d_Se_append_84 ?_
    refine lv_aload_n hX.1 hX.2.1 d_Se_append_87 rfl (lv_at hl 0 rfl) ?_
    refine kget hX hW i_Se 0 rfl rfl 4 (by decide) f_Se_25 rfl rfl d_Se_append_88 ?_
    refine lv_iload_n hX.1 hX.2.1 d_Se_append_91 rfl (lv_at hl 3 rfl) ?_
    refine kiast hX hW 4 rfl (by omega) (by first | decide | omega) d_Se_append_92 (fun H locs hW => ?_)
    have hW : KW D k A s [(se, .inr (4, [.ref sn, .ref fi, .ref sc, .ref og, .int (nI z)])), (sn, .inl (k 1, 1024, .inr (.inl (aL SN)))), (fi, .inl (k 0, cp, .inl (aN (va_up FI z x)))), (sc, .inl (k 0, cp, .inl (aN (va_up SC z y)))), (og, .inl (k 0, cp, .inl (aN (va_up OG z o))))] H locs := hW
    refine lv_aload_n hX.1 hX.2.1 d_Se_append_93 rfl (lv_at hl 0 rfl) ?_
    refine lv_dup hX.1 hX.2.1 d_Se_append_94 rfl ?_
    refine kget hX hW i_Se 0 rfl rfl 4 (by decide) f_Se_25 rfl rfl d_Se_append_95 ?_
    refine lv_iconst (v := nI 1) hX.1 hX.2.1 d_Se_append_98 (by decide) ?_
    refine lv_iadd hX.1 hX.2.1 d_Se_append_99 ?_
    refine tpi (y := nI (z + 1)) (nI_1 _) ?_
    refine kput hX hW i_Se t_Se t_Se_ok n_Se 0 rfl rfl 4 (by decide) f_Se_25 rfl rfl (rfl) (rfl) (Nat.le_of_ble_eq_true rfl) d_Se_append_100 (fun H locs hW => ?_)
    have hW : KW D k A s [(se, .inr (4, [.ref sn, .ref fi, .ref sc, .ref og, .int (nI (z + 1))])), (sn, .inl (k 1, 1024, .inr (.inl (aL SN)))), (fi, .inl (k 0, cp, .inl (aN (va_up FI z x)))), (sc, .inl (k 0, cp, .inl (aN (va_up SC z y)))), (og, .inl (k 0, cp, .inl (aN (va_up OG z o))))] H locs := hW
    exact kvret hX hr hlocks hQ () (hW) (trivial) d_Se_append_103
  · omega
set_option maxHeartbeats 4000000 in
set_option maxRecDepth 100000 in
/-- append(x, y, o), the rows grow -/
theorem ok_Se_appendG (l : Launch) (D : va_G) (k : Nat → ClassId) (sz : Nat) (se sn fi sc og : Nat) (SN FI SC OG : Nat → Nat) (cp : Nat) (x y o : Nat) (h0 : 0 < cp) (hcp : cp < 2 ^ 18) : Met l y_Se_append (.code y_Se_append c_Se_append 4 none :: wsU) ({ frames := 2, cells := 3, slots := (3 * (2 * cp)), locals := 64 } : Room) (kPre D k [.ref se, .int (nI x), .int (nI y), .int (nI o)] [(se, .inr (4, [.ref sn, .ref fi, .ref sc, .ref og, .int (nI cp)])), (sn, .inl (k 1, 1024, .inr (.inl (aL SN)))), (fi, .inl (k 0, cp, .inl (aN FI))), (sc, .inl (k 0, cp, .inl (aN SC))), (og, .inl (k 0, cp, .inl (aN OG)))] sz) (va_Qv (fun (_ : Nat × Nat × Nat) => True) (kB D k (fun u : Nat × Nat × Nat => [(se, .inr (4, [.ref sn, .ref u.1, .ref u.2.1, .ref u.2.2, .int (nI (cp + 1))])), (sn, .inl (k 1, 1024, .inr (.inl (aL SN)))), (u.1, .inl (k 0, (2 * cp), .inl (aN (va_up (cpz FI (fun _ => 0) cp) cp x)))), (u.2.1, .inl (k 0, (2 * cp), .inl (aN (va_up (cpz SC (fun _ => 0) cp) cp y)))), (u.2.2, .inl (k 0, (2 * cp), .inl (aN (va_up (cpz OG (fun _ => 0) cp) cp o))))]) (va_A [(se, .inr (4, [.ref sn, .ref fi, .ref sc, .ref og, .int (nI cp)])), (sn, .inl (k 1, 1024, .inr (.inl (aL SN)))), (fi, .inl (k 0, cp, .inl (aN FI))), (sc, .inl (k 0, cp, .inl (aN SC))), (og, .inl (k 0, cp, .inl (aN OG)))] sz)) (va_A [(se, .inr (4, [.ref sn, .ref fi, .ref sc, .ref og, .int (nI cp)])), (sn, .inl (k 1, 1024, .inr (.inl (aL SN)))), (fi, .inl (k 0, cp, .inl (aN FI))), (sc, .inl (k 0, cp, .inl (aN SC))), (og, .inl (k 0, cp, .inl (aN OG)))] sz)) 3 (3 * (2 * cp)) (va_A [(se, .inr (4, [.ref sn, .ref fi, .ref sc, .ref og, .int (nI cp)])), (sn, .inl (k 1, 1024, .inr (.inl (aL SN)))), (fi, .inl (k 0, cp, .inl (aN FI))), (sc, .inl (k 0, cp, .inl (aN SC))), (og, .inl (k 0, cp, .inl (aN OG)))] sz) := by
  refine kMet (by decide) (Nat.le_of_ble_eq_true rfl) ?_
  intro p e s m below meth c ls hX hml hr hlocks hin hsz hW hl Q hQ
  generalize hAe : va_A [(se, .inr (4, [.ref sn, .ref fi, .ref sc, .ref og, .int (nI cp)])), (sn, .inl (k 1, 1024, .inr (.inl (aL SN)))), (fi, .inl (k 0, cp, .inl (aN FI))), (sc, .inl (k 0, cp, .inl (aN SC))), (og, .inl (k 0, cp, .inl (aN OG)))] sz = A at hW hQ
  generalize hH0 : s.heap = H at hW ⊢
  generalize hl0 : ([] : List Loc) = locs at hW ⊢
  have hX : FX p s m c [.ref se, .int (nI x), .int (nI y), .int (nI o)].toArray c_Se_append R_Se := hX
  have hl : lv_has ls 4 [(0, .ref se), (1, .int (nI x)), (2, .int (nI y)), (3, .int (nI o))] := hl
  refine lv_aload_n hX.1 hX.2.1 d_Se_append_0 rfl (lv_at hl 0 rfl) ?_
  refine kget hX hW i_Se 0 rfl rfl 4 (by decide) f_Se_25 rfl rfl d_Se_append_1 ?_
  refine lv_aload_n hX.1 hX.2.1 d_Se_append_4 rfl (lv_at hl 0 rfl) ?_
  refine kget hX hW i_Se 0 rfl rfl 1 (by decide) f_Se_15 rfl rfl d_Se_append_5 ?_
  refine kalen hX hW 2 0 rfl rfl d_Se_append_8 ?_
  refine klt hX (tgt := 63) (by omega) (by omega) d_Se_append_9 (by decide) (fun h1 => ?_) (fun h1 => ?_)
  · omega
  · refine lv_aload_n hX.1 hX.2.1 d_Se_append_12 rfl (lv_at hl 0 rfl) ?_
    refine lv_aload_n hX.1 hX.2.1 d_Se_append_13 rfl (lv_at hl 0 rfl) ?_
    refine kget hX hW i_Se 0 rfl rfl 1 (by decide) f_Se_15 rfl rfl d_Se_append_14 ?_
    refine lv_iconst (v := nI 2) hX.1 hX.2.1 d_Se_append_17 (by decide) ?_
    refine lv_aload_n hX.1 hX.2.1 d_Se_append_18 rfl (lv_at hl 0 rfl) ?_
    refine kget hX hW i_Se 0 rfl rfl 4 (by decide) f_Se_25 rfl rfl d_Se_append_19 ?_
    refine lv_imul hX.1 hX.2.1 d_Se_append_22 ?_
    refine tpi (y := nI (2 * cp)) (pk_mul _ _) ?_
    refine kCrN (wc := [(fi, .inl (k 0, cp, .inl (aN FI)))]) hW [2] (by rfl) (by intro _; rfl) (kRunS (n := 2) (As := [.ref fi, .int (nI (2 * cp))]) (rest := [.ref se]) hX hml hW (ok_Ar_copyI l D k H.size fi cp FI (2 * cp) (by omega) (by omega)) m_Se_75 sm_Ar_copyI in_Ar cd_Ar_copyI [2] rfl rfl (by decide +kernel) ⟨rfl, rfl, Nat.le_of_ble_eq_true rfl, Nat.le_of_ble_eq_true rfl⟩ rfl hl.1 rfl (Nat.le_of_ble_eq_true rfl) d_Se_append_23 ⟨by dsimp only; omega, by dsimp only; omega⟩) (fun q_fi H locs hW => ?_)
    have hW : KW D k A s [(se, .inr (4, [.ref sn, .ref fi, .ref sc, .ref og, .int (nI cp)])), (sn, .inl (k 1, 1024, .inr (.inl (aL SN)))), (fi, .inl (k 0, cp, .inl (aN FI))), (sc, .inl (k 0, cp, .inl (aN SC))), (og, .inl (k 0, cp, .inl (aN OG))), (q_fi, .inl (k 0, (2 * cp), .inl (aN (cpz FI (fun _ => 0) cp))))] H locs := hW
    refine kput hX hW i_Se t_Se t_Se_ok n_Se 0 rfl rfl 1 (by decide) f_Se_15 rfl rfl (rfl) (rfl) (Nat.le_of_ble_eq_true rfl) d_Se_append_26 (fun H locs hW => ?_)
    have hW : KW D k A s [(se, .inr (4, [.ref sn, .ref q_fi, .ref sc, .ref og, .int (nI cp)])), (sn, .inl (k 1, 1024, .inr (.inl (aL SN)))), (fi, .inl (k 0, cp, .inl (aN FI))), (sc, .inl (k 0, cp, .inl (aN SC))), (og, .inl (k 0, cp, .inl (aN OG))), (q_fi, .inl (k 0, (2 * cp), .inl (aN (cpz FI (fun _ => 0) cp))))] H locs := hW
    refine lv_aload_n hX.1 hX.2.1 d_Se_append_29 rfl (lv_at hl 0 rfl) ?_
    refine lv_aload_n hX.1 hX.2.1 d_Se_append_30 rfl (lv_at hl 0 rfl) ?_
    refine kget hX hW i_Se 0 rfl rfl 2 (by decide) f_Se_19 rfl rfl d_Se_append_31 ?_
    refine lv_iconst (v := nI 2) hX.1 hX.2.1 d_Se_append_34 (by decide) ?_
    refine lv_aload_n hX.1 hX.2.1 d_Se_append_35 rfl (lv_at hl 0 rfl) ?_
    refine kget hX hW i_Se 0 rfl rfl 4 (by decide) f_Se_25 rfl rfl d_Se_append_36 ?_
    refine lv_imul hX.1 hX.2.1 d_Se_append_39 ?_
    refine tpi (y := nI (2 * cp)) (pk_mul _ _) ?_
    refine kCrN (wc := [(sc, .inl (k 0, cp, .inl (aN SC)))]) hW [3] (by rfl) (by intro _; rfl) (kRunS (n := 2) (As := [.ref sc, .int (nI (2 * cp))]) (rest := [.ref se]) hX hml hW (ok_Ar_copyI l D k H.size sc cp SC (2 * cp) (by omega) (by omega)) m_Se_75 sm_Ar_copyI in_Ar cd_Ar_copyI [3] rfl rfl (by decide +kernel) ⟨rfl, rfl, Nat.le_of_ble_eq_true rfl, Nat.le_of_ble_eq_true rfl⟩ rfl hl.1 rfl (Nat.le_of_ble_eq_true rfl) d_Se_append_40 ⟨by dsimp only; omega, by dsimp only; omega⟩) (fun q_sc H locs hW => ?_)
    have hW : KW D k A s [(se, .inr (4, [.ref sn, .ref q_fi, .ref sc, .ref og, .int (nI cp)])), (sn, .inl (k 1, 1024, .inr (.inl (aL SN)))), (fi, .inl (k 0, cp, .inl (aN FI))), (sc, .inl (k 0, cp, .inl (aN SC))), (og, .inl (k 0, cp, .inl (aN OG))), (q_fi, .inl (k 0, (2 * cp), .inl (aN (cpz FI (fun _ => 0) cp)))), (q_sc, .inl (k 0, (2 * cp), .inl (aN (cpz SC (fun _ => 0) cp))))] H locs := hW
    refine kput hX hW i_Se t_Se t_Se_ok n_Se 0 rfl rfl 2 (by decide) f_Se_19 rfl rfl (rfl) (rfl) (Nat.le_of_ble_eq_true rfl) d_Se_append_43 (fun H locs hW => ?_)
    have hW : KW D k A s [(se, .inr (4, [.ref sn, .ref q_fi, .ref q_sc, .ref og, .int (nI cp)])), (sn, .inl (k 1, 1024, .inr (.inl (aL SN)))), (fi, .inl (k 0, cp, .inl (aN FI))), (sc, .inl (k 0, cp, .inl (aN SC))), (og, .inl (k 0, cp, .inl (aN OG))), (q_fi, .inl (k 0, (2 * cp), .inl (aN (cpz FI (fun _ => 0) cp)))), (q_sc, .inl (k 0, (2 * cp), .inl (aN (cpz SC (fun _ => 0) cp))))] H locs := hW
    refine lv_aload_n hX.1 hX.2.1 d_Se_append_46 rfl (lv_at hl 0 rfl) ?_
    refine lv_aload_n hX.1 hX.2.1 d_Se_append_47 rfl (lv_at hl 0 rfl) ?_
    refine kget hX hW i_Se 0 rfl rfl 3 (by decide) f_Se_22 rfl rfl d_Se_append_48 ?_
    refine lv_iconst (v := nI 2) hX.1 hX.2.1 d_Se_append_51 (by decide) ?_
    refine lv_aload_n hX.1 hX.2.1 d_Se_append_52 rfl (lv_at hl 0 rfl) ?_
    refine kget hX hW i_Se 0 rfl rfl 4 (by decide) f_Se_25 rfl rfl d_Se_append_53 ?_
    refine lv_imul hX.1 hX.2.1 d_Se_append_56 ?_
    refine tpi (y := nI (2 * cp)) (pk_mul _ _) ?_
    refine kCrN (wc := [(og, .inl (k 0, cp, .inl (aN OG)))]) hW [4] (by rfl) (by intro _; rfl) (kRunS (n := 2) (As := [.ref og, .int (nI (2 * cp))]) (rest := [.ref se]) hX hml hW (ok_Ar_copyI l D k H.size og cp OG (2 * cp) (by omega) (by omega)) m_Se_75 sm_Ar_copyI in_Ar cd_Ar_copyI [4] rfl rfl (by decide +kernel) ⟨rfl, rfl, Nat.le_of_ble_eq_true rfl, Nat.le_of_ble_eq_true rfl⟩ rfl hl.1 rfl (Nat.le_of_ble_eq_true rfl) d_Se_append_57 ⟨by dsimp only; omega, by dsimp only; omega⟩) (fun q_og H locs hW => ?_)
    have hW : KW D k A s [(se, .inr (4, [.ref sn, .ref q_fi, .ref q_sc, .ref og, .int (nI cp)])), (sn, .inl (k 1, 1024, .inr (.inl (aL SN)))), (fi, .inl (k 0, cp, .inl (aN FI))), (sc, .inl (k 0, cp, .inl (aN SC))), (og, .inl (k 0, cp, .inl (aN OG))), (q_fi, .inl (k 0, (2 * cp), .inl (aN (cpz FI (fun _ => 0) cp)))), (q_sc, .inl (k 0, (2 * cp), .inl (aN (cpz SC (fun _ => 0) cp)))), (q_og, .inl (k 0, (2 * cp), .inl (aN (cpz OG (fun _ => 0) cp))))] H locs := hW
    refine kput hX hW i_Se t_Se t_Se_ok n_Se 0 rfl rfl 3 (by decide) f_Se_22 rfl rfl (rfl) (rfl) (Nat.le_of_ble_eq_true rfl) d_Se_append_60 (fun H locs hW => ?_)
    have hW : KW D k A s [(se, .inr (4, [.ref sn, .ref q_fi, .ref q_sc, .ref q_og, .int (nI cp)])), (sn, .inl (k 1, 1024, .inr (.inl (aL SN)))), (fi, .inl (k 0, cp, .inl (aN FI))), (sc, .inl (k 0, cp, .inl (aN SC))), (og, .inl (k 0, cp, .inl (aN OG))), (q_fi, .inl (k 0, (2 * cp), .inl (aN (cpz FI (fun _ => 0) cp)))), (q_sc, .inl (k 0, (2 * cp), .inl (aN (cpz SC (fun _ => 0) cp)))), (q_og, .inl (k 0, (2 * cp), .inl (aN (cpz OG (fun _ => 0) cp))))] H locs := hW
    refine lv_aload_n hX.1 hX.2.1 d_Se_append_63 rfl (lv_at hl 0 rfl) ?_
    refine kget hX hW i_Se 0 rfl rfl 1 (by decide) f_Se_15 rfl rfl d_Se_append_64 ?_
    refine lv_aload_n hX.1 hX.2.1 d_Se_append_67 rfl (lv_at hl 0 rfl) ?_
    refine kget hX hW i_Se 0 rfl rfl 4 (by decide) f_Se_25 rfl rfl d_Se_append_68 ?_
    refine lv_iload_n hX.1 hX.2.1 d_Se_append_71 rfl (lv_at hl 1 rfl) ?_
    refine kiast hX hW 5 rfl (by omega) (by first | decide | omega) d_Se_append_72 (fun H locs hW => ?_)
    have hW : KW D k A s [(se, .inr (4, [.ref sn, .ref q_fi, .ref q_sc, .ref q_og, .int (nI cp)])), (sn, .inl (k 1, 1024, .inr (.inl (aL SN)))), (fi, .inl (k 0, cp, .inl (aN FI))), (sc, .inl (k 0, cp, .inl (aN SC))), (og, .inl (k 0, cp, .inl (aN OG))), (q_fi, .inl (k 0, (2 * cp), .inl (aN (va_up (cpz FI (fun _ => 0) cp) cp x)))), (q_sc, .inl (k 0, (2 * cp), .inl (aN (cpz SC (fun _ => 0) cp)))), (q_og, .inl (k 0, (2 * cp), .inl (aN (cpz OG (fun _ => 0) cp))))] H locs := hW
    refine lv_aload_n hX.1 hX.2.1 d_Se_append_73 rfl (lv_at hl 0 rfl) ?_
    refine kget hX hW i_Se 0 rfl rfl 2 (by decide) f_Se_19 rfl rfl d_Se_append_74 ?_
    refine lv_aload_n hX.1 hX.2.1 d_Se_append_77 rfl (lv_at hl 0 rfl) ?_
    refine kget hX hW i_Se 0 rfl rfl 4 (by decide) f_Se_25 rfl rfl d_Se_append_78 ?_
    refine lv_iload_n hX.1 hX.2.1 d_Se_append_81 rfl (lv_at hl 2 rfl) ?_
    refine kiast hX hW 6 rfl (by omega) (by first | decide | omega) d_Se_append_82 (fun H locs hW => ?_)
    have hW : KW D k A s [(se, .inr (4, [.ref sn, .ref q_fi, .ref q_sc, .ref q_og, .int (nI cp)])), (sn, .inl (k 1, 1024, .inr (.inl (aL SN)))), (fi, .inl (k 0, cp, .inl (aN FI))), (sc, .inl (k 0, cp, .inl (aN SC))), (og, .inl (k 0, cp, .inl (aN OG))), (q_fi, .inl (k 0, (2 * cp), .inl (aN (va_up (cpz FI (fun _ => 0) cp) cp x)))), (q_sc, .inl (k 0, (2 * cp), .inl (aN (va_up (cpz SC (fun _ => 0) cp) cp y)))), (q_og, .inl (k 0, (2 * cp), .inl (aN (cpz OG (fun _ => 0) cp))))] H locs := hW
    refine lv_aload_n hX.1 hX.2.1 d_Se_append_83 rfl (lv_at hl 0 rfl) ?_
    refine kget hX hW i_Se 0 rfl rfl 3 (by decide) f_Se_22 rfl rfl d_Se_append_84 ?_
    refine lv_aload_n hX.1 hX.2.1 d_Se_append_87 rfl (lv_at hl 0 rfl) ?_
    refine kget hX hW i_Se 0 rfl rfl 4 (by decide) f_Se_25 rfl rfl d_Se_append_88 ?_
    refine lv_iload_n hX.1 hX.2.1 d_Se_append_91 rfl (lv_at hl 3 rfl) ?_
    refine kiast hX hW 7 rfl (by omega) (by first | decide | omega) d_Se_append_92 (fun H locs hW => ?_)
    have hW : KW D k A s [(se, .inr (4, [.ref sn, .ref q_fi, .ref q_sc, .ref q_og, .int (nI cp)])), (sn, .inl (k 1, 1024, .inr (.inl (aL SN)))), (fi, .inl (k 0, cp, .inl (aN FI))), (sc, .inl (k 0, cp, .inl (aN SC))), (og, .inl (k 0, cp, .inl (aN OG))), (q_fi, .inl (k 0, (2 * cp), .inl (aN (va_up (cpz FI (fun _ => 0) cp) cp x)))), (q_sc, .inl (k 0, (2 * cp), .inl (aN (va_up (cpz SC (fun _ => 0) cp) cp y)))), (q_og, .inl (k 0, (2 * cp), .inl (aN (va_up (cpz OG (fun _ => 0) cp) cp o))))] H locs := hW
    refine lv_aload_n hX.1 hX.2.1 d_Se_append_93 rfl (lv_at hl 0 rfl) ?_
    refine lv_dup hX.1 hX.2.1 d_Se_append_94 rfl ?_
    refine kget hX hW i_Se 0 rfl rfl 4 (by decide) f_Se_25 rfl rfl d_Se_append_95 ?_
    refine lv_iconst (v := nI 1) hX.1 hX.2.1 d_Se_append_98 (by decide) ?_
    refine lv_iadd hX.1 hX.2.1 d_Se_append_99 ?_
    refine tpi (y := nI (cp + 1)) (nI_1 _) ?_
    refine kput hX hW i_Se t_Se t_Se_ok n_Se 0 rfl rfl 4 (by decide) f_Se_25 rfl rfl (rfl) (rfl) (Nat.le_of_ble_eq_true rfl) d_Se_append_100 (fun H locs hW => ?_)
    have hW : KW D k A s [(se, .inr (4, [.ref sn, .ref q_fi, .ref q_sc, .ref q_og, .int (nI (cp + 1))])), (sn, .inl (k 1, 1024, .inr (.inl (aL SN)))), (fi, .inl (k 0, cp, .inl (aN FI))), (sc, .inl (k 0, cp, .inl (aN SC))), (og, .inl (k 0, cp, .inl (aN OG))), (q_fi, .inl (k 0, (2 * cp), .inl (aN (va_up (cpz FI (fun _ => 0) cp) cp x)))), (q_sc, .inl (k 0, (2 * cp), .inl (aN (va_up (cpz SC (fun _ => 0) cp) cp y)))), (q_og, .inl (k 0, (2 * cp), .inl (aN (va_up (cpz OG (fun _ => 0) cp) cp o))))] H locs := hW
    refine W.widen (k := 3) (n := 3 * (2 * cp)) (by omega) (by omega) ?_
    exact kvret hX hr hlocks hQ (q_fi, q_sc, q_og) (hW.sub [0, 1, 5, 6, 7] rfl rfl) (trivial) d_Se_append_103
