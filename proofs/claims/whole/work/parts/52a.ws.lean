/-! WORDSETS: the calls that are not refused -/
section KB8
variable {p : Program} {l : Launch} {e : Env} {R : Room} {s : State} {m : MethodId} {args : Array Value} {below : List Frame} {meth : Method} {c : Code} {H : Heap} {locs : List Loc} {cells slots : Nat} {Q : State → Prop}
variable {cc : ByteArray} {pc : Nat} {ls : Array Slot} {rest : List Value} {own : String}
theorem klcmp_g0 (hX : FX p s m c args cc own) {x : Int64} {off : Int} {tgt : Nat} (hd1 : decode cc pc = .ok (.lcmp, 1)) (hd2 : decode cc (pc + 1) = .ok (.ifCond .ge off, 3)) (ht : ((pc + 1 : Nat) : Int) + off = (tgt : Int))
    (kt : lN 0 ≤ x → W p l e R s m args below meth c H locs cells slots Q (F0 m tgt ls rest)) (kf : x < lN 0 → W p l e R s m args below meth c H locs cells slots Q (F0 m (pc + 1 + 3) ls rest)) : W p l e R s m args below meth c H locs cells slots Q (F0 m pc ls (.long (lN 0) :: .long x :: rest)) :=
  W.lcmp hX.1 hX.2.1 hd1 (lv_if_ge hX.1 hX.2.1 hd2 ht (fun h => kt ((lg_cmp_ge x (lN 0)).mp h)) (fun h => kf (Int64.not_le.mp (fun q => h ((lg_cmp_ge x (lN 0)).mpr q)))))
end KB8
/-- where a word leads -/
def chs (FO SP B : Nat → Nat) : Nat → Nat
  | 0 => 256
  | i + 1 => onw FO (chs FO SP B i) 9 &&& SP (B i - 97)
theorem MI_z {m : MZ} (h : MI m) : m.1 ≤ 257 := by
  obtain ⟨z, SE, NU, AC⟩ := m
  exact h.1
theorem MI_ac {m : MZ} (h : MI m) : ∀ x, x < 257 → m.2.2.2 x < 1000 := by
  obtain ⟨z, SE, NU, AC⟩ := m
  exact h.2.2.2
theorem chs_lt {FO SP B : Nat → Nat} (h : ∀ i, i < 9 → FO i < 256) : ∀ i, chs FO SP B i < 512 := by
  intro i
  cases i with
  | zero => show (256 : Nat) < 512; decide
  | succ i =>
    rw [chs]
    have h1 := onw_lt (S := chs FO SP B i) h 9 (by decide)
    exact Nat.lt_of_le_of_lt Nat.and_le_left (by omega)
theorem isw_at {B : Nat → Nat} : ∀ n, isw B n = true → ∀ i, i < n → 97 ≤ B i ∧ B i ≤ 100 := by
  intro n
  induction n with
  | zero => intro _ i hi; omega
  | succ n ih =>
    intro h i hi
    rw [isw, Bool.and_eq_true, Bool.and_eq_true, decide_eq_true_eq, decide_eq_true_eq] at h
    by_cases e : i = n
    · subst e; exact h.2
    · exact ih h.1 i (by omega)
set_option maxHeartbeats 4000000 in
set_option maxRecDepth 100000 in
/-- place() -/
theorem ok_Ws_place (l : Launch) (D : va_G) (k : Nat → ClassId) (sz : Nat) (wz ta sv no pr ma se wo sp1 wa : Nat) : Met l y_Ws_place (.code y_Ws_place c_Ws_place 1 (some .int) :: wsU) ({ frames := 0, cells := 0, slots := 0, locals := 0 } : Room) (kPre D k [.ref wz] [(wz, .inr (7, [.ref ta, .ref sv, .ref no, .ref pr, .ref ma, .ref se, .ref wo, .ref sp1, .int (nM wa)]))] sz) (va_Qi (fun (r : Int32) (_ : Unit) => r = nM wa) (kB D k (fun _ : Unit => [(wz, .inr (7, [.ref ta, .ref sv, .ref no, .ref pr, .ref ma, .ref se, .ref wo, .ref sp1, .int (nM wa)]))]) (va_A [(wz, .inr (7, [.ref ta, .ref sv, .ref no, .ref pr, .ref ma, .ref se, .ref wo, .ref sp1, .int (nM wa)]))] sz)) (va_A [(wz, .inr (7, [.ref ta, .ref sv, .ref no, .ref pr, .ref ma, .ref se, .ref wo, .ref sp1, .int (nM wa)]))] sz)) 0 0 (va_A [(wz, .inr (7, [.ref ta, .ref sv, .ref no, .ref pr, .ref ma, .ref se, .ref wo, .ref sp1, .int (nM wa)]))] sz) := by
  refine kMet (by decide) (Nat.le_of_ble_eq_true rfl) ?_
  intro p e s m below meth c ls hX hml hr hlocks hin hsz hW hl Q hQ
  generalize hAe : va_A [(wz, .inr (7, [.ref ta, .ref sv, .ref no, .ref pr, .ref ma, .ref se, .ref wo, .ref sp1, .int (nM wa)]))] sz = A at hW hQ
  generalize hH0 : s.heap = H at hW ⊢
  generalize hl0 : ([] : List Loc) = locs at hW ⊢
  have hX : FX p s m c [.ref wz].toArray c_Ws_place R_Ws := hX
  have hl : lv_has ls 1 [(0, .ref wz)] := hl
  refine lv_aload_n hX.1 hX.2.1 d_Ws_place_0 rfl (lv_at hl 0 rfl) ?_
  refine kget hX hW i_Ws 0 rfl rfl 8 (by decide) f_Ws_58 rfl rfl d_Ws_place_1 ?_
  exact kiret hX hr hlocks hQ () (hW) (rfl) d_Ws_place_4
set_option maxHeartbeats 4000000 in
set_option maxRecDepth 100000 in
/-- size() -/
theorem ok_Ws_size (l : Launch) (D : va_G) (k : Nat → ClassId) (sz : Nat) (wz ta sv no pr ma se wo sp1 wa : Nat) (wl y cp : Nat) (L : Nat → Nat) : Met l y_Ws_size (.code y_Ws_size c_Ws_size 1 (some .int) :: wsU) ({ frames := 0, cells := 0, slots := 0, locals := 0 } : Room) (kPre D k [.ref wz] [(wz, .inr (7, [.ref ta, .ref sv, .ref no, .ref pr, .ref ma, .ref se, .ref wo, .ref sp1, .int (nM wa)])), (wo, .inr (6, [.ref wl, .int (nI y)])), (wl, .inl (k 0, cp, .inl (aN L)))] sz) (va_Qi (fun (r : Int32) (_ : Unit) => r = nI y) (kB D k (fun _ : Unit => [(wz, .inr (7, [.ref ta, .ref sv, .ref no, .ref pr, .ref ma, .ref se, .ref wo, .ref sp1, .int (nM wa)])), (wo, .inr (6, [.ref wl, .int (nI y)])), (wl, .inl (k 0, cp, .inl (aN L)))]) (va_A [(wz, .inr (7, [.ref ta, .ref sv, .ref no, .ref pr, .ref ma, .ref se, .ref wo, .ref sp1, .int (nM wa)])), (wo, .inr (6, [.ref wl, .int (nI y)])), (wl, .inl (k 0, cp, .inl (aN L)))] sz)) (va_A [(wz, .inr (7, [.ref ta, .ref sv, .ref no, .ref pr, .ref ma, .ref se, .ref wo, .ref sp1, .int (nM wa)])), (wo, .inr (6, [.ref wl, .int (nI y)])), (wl, .inl (k 0, cp, .inl (aN L)))] sz)) 0 0 (va_A [(wz, .inr (7, [.ref ta, .ref sv, .ref no, .ref pr, .ref ma, .ref se, .ref wo, .ref sp1, .int (nM wa)])), (wo, .inr (6, [.ref wl, .int (nI y)])), (wl, .inl (k 0, cp, .inl (aN L)))] sz) := by
  refine kMet (by decide) (Nat.le_of_ble_eq_true rfl) ?_
  intro p e s m below meth c ls hX hml hr hlocks hin hsz hW hl Q hQ
  generalize hAe : va_A [(wz, .inr (7, [.ref ta, .ref sv, .ref no, .ref pr, .ref ma, .ref se, .ref wo, .ref sp1, .int (nM wa)])), (wo, .inr (6, [.ref wl, .int (nI y)])), (wl, .inl (k 0, cp, .inl (aN L)))] sz = A at hW hQ
  generalize hH0 : s.heap = H at hW ⊢
  generalize hl0 : ([] : List Loc) = locs at hW ⊢
  have hX : FX p s m c [.ref wz].toArray c_Ws_size R_Ws := hX
  have hl : lv_has ls 1 [(0, .ref wz)] := hl
  refine lv_aload_n hX.1 hX.2.1 d_Ws_size_0 rfl (lv_at hl 0 rfl) ?_
  refine kget hX hW i_Ws 0 rfl rfl 6 (by decide) f_Ws_51 rfl rfl d_Ws_size_1 ?_
  refine kget hX hW i_Wo 1 rfl rfl 1 (by decide) f_Ws_122 rfl rfl d_Ws_size_4 ?_
  exact kiret hX hr hlocks hQ () (hW) (rfl) d_Ws_size_7
set_option maxHeartbeats 4000000 in
set_option maxRecDepth 100000 in
/-- letter(k) -/
theorem ok_Ws_letter (l : Launch) (D : va_G) (k : Nat → ClassId) (sz : Nat) (wz ta sv no pr ma se wo sp1 wa : Nat) (wl y cp : Nat) (L : Nat → Nat) (kx : Nat) (hk : kx < y) (hy : y ≤ cp) (hcp : cp < 2 ^ 20) : Met l y_Ws_letter (.code y_Ws_letter c_Ws_letter 2 (some .int) :: wsU) ({ frames := 0, cells := 0, slots := 0, locals := 0 } : Room) (kPre D k [.ref wz, .int (nI kx)] [(wz, .inr (7, [.ref ta, .ref sv, .ref no, .ref pr, .ref ma, .ref se, .ref wo, .ref sp1, .int (nM wa)])), (wo, .inr (6, [.ref wl, .int (nI y)])), (wl, .inl (k 0, cp, .inl (aN L)))] sz) (va_Qi (fun (r : Int32) (_ : Unit) => r = nI (L kx)) (kB D k (fun _ : Unit => [(wz, .inr (7, [.ref ta, .ref sv, .ref no, .ref pr, .ref ma, .ref se, .ref wo, .ref sp1, .int (nM wa)])), (wo, .inr (6, [.ref wl, .int (nI y)])), (wl, .inl (k 0, cp, .inl (aN L)))]) (va_A [(wz, .inr (7, [.ref ta, .ref sv, .ref no, .ref pr, .ref ma, .ref se, .ref wo, .ref sp1, .int (nM wa)])), (wo, .inr (6, [.ref wl, .int (nI y)])), (wl, .inl (k 0, cp, .inl (aN L)))] sz)) (va_A [(wz, .inr (7, [.ref ta, .ref sv, .ref no, .ref pr, .ref ma, .ref se, .ref wo, .ref sp1, .int (nM wa)])), (wo, .inr (6, [.ref wl, .int (nI y)])), (wl, .inl (k 0, cp, .inl (aN L)))] sz)) 0 0 (va_A [(wz, .inr (7, [.ref ta, .ref sv, .ref no, .ref pr, .ref ma, .ref se, .ref wo, .ref sp1, .int (nM wa)])), (wo, .inr (6, [.ref wl, .int (nI y)])), (wl, .inl (k 0, cp, .inl (aN L)))] sz) := by
  refine kMet (by decide) (Nat.le_of_ble_eq_true rfl) ?_
  intro p e s m below meth c ls hX hml hr hlocks hin hsz hW hl Q hQ
  generalize hAe : va_A [(wz, .inr (7, [.ref ta, .ref sv, .ref no, .ref pr, .ref ma, .ref se, .ref wo, .ref sp1, .int (nM wa)])), (wo, .inr (6, [.ref wl, .int (nI y)])), (wl, .inl (k 0, cp, .inl (aN L)))] sz = A at hW hQ
  generalize hH0 : s.heap = H at hW ⊢
  generalize hl0 : ([] : List Loc) = locs at hW ⊢
  have hX : FX p s m c [.ref wz, .int (nI kx)].toArray c_Ws_letter R_Ws := hX
  have hl : lv_has ls 2 [(0, .ref wz), (1, .int (nI kx))] := hl
  refine lv_iload_n hX.1 hX.2.1 d_Ws_letter_0 rfl (lv_at hl 1 rfl) ?_
  refine kltN hX (tgt := 15) (by omega) d_Ws_letter_1 (by decide) ?_
  refine lv_iload_n hX.1 hX.2.1 d_Ws_letter_4 rfl (lv_at hl 1 rfl) ?_
  refine lv_aload_n hX.1 hX.2.1 d_Ws_letter_5 rfl (lv_at hl 0 rfl) ?_
  refine kget hX hW i_Ws 0 rfl rfl 6 (by decide) f_Ws_51 rfl rfl d_Ws_letter_6 ?_
  refine kget hX hW i_Wo 1 rfl rfl 1 (by decide) f_Ws_122 rfl rfl d_Ws_letter_9 ?_
  refine klt hX (tgt := 25) (by omega) (by omega) d_Ws_letter_12 (by decide) (fun h1 => ?_) (fun h1 => ?_)
  · refine lv_aload_n hX.1 hX.2.1 d_Ws_letter_25 rfl (lv_at hl 0 rfl) ?_
    refine kget hX hW i_Ws 0 rfl rfl 6 (by decide) f_Ws_51 rfl rfl d_Ws_letter_26 ?_
    refine kget hX hW i_Wo 1 rfl rfl 0 (by decide) f_Ws_154 rfl rfl d_Ws_letter_29 ?_
    refine lv_iload_n hX.1 hX.2.1 d_Ws_letter_32 rfl (lv_at hl 1 rfl) ?_
    refine kiald hX hW 2 rfl (by omega) (by first | decide | omega) d_Ws_letter_33 ?_
    exact kiret hX hr hlocks hQ () (hW) (rfl) d_Ws_letter_34
  · omega
set_option maxHeartbeats 4000000 in
set_option maxRecDepth 100000 in
/-- checkSlot(slot) -/
theorem ok_Ws_checkSlot (l : Launch) (D : va_G) (k : Nat → ClassId) (sz : Nat) (sl : Nat) (hsl : sl < 4) : Met l y_Ws_checkSlot (.code y_Ws_checkSlot c_Ws_checkSlot 1 none :: wsU) ({ frames := 0, cells := 0, slots := 0, locals := 0 } : Room) (kPre D k [.int (nI sl)] [] sz) (va_Qv (fun (_ : Unit) => True) (kB D k (fun _ : Unit => []) (va_A [] sz)) (va_A [] sz)) 0 0 (va_A [] sz) := by
  refine kMet (by decide) (Nat.le_of_ble_eq_true rfl) ?_
  intro p e s m below meth c ls hX hml hr hlocks hin hsz hW hl Q hQ
  generalize hAe : va_A [] sz = A at hW hQ
  generalize hH0 : s.heap = H at hW ⊢
  generalize hl0 : ([] : List Loc) = locs at hW ⊢
  have hX : FX p s m c [.int (nI sl)].toArray c_Ws_checkSlot R_Ws := hX
  have hl : lv_has ls 1 [(0, .int (nI sl))] := hl
  refine lv_iload_n hX.1 hX.2.1 d_Ws_checkSlot_0 rfl (lv_at hl 0 rfl) ?_
  refine kltN hX (tgt := 9) (by omega) d_Ws_checkSlot_1 (by decide) ?_
  refine lv_iload_n hX.1 hX.2.1 d_Ws_checkSlot_4 rfl (lv_at hl 0 rfl) ?_
  refine lv_iconst (v := nI 4) hX.1 hX.2.1 d_Ws_checkSlot_5 (by decide) ?_
  refine klt hX (tgt := 19) (by omega) (by omega) d_Ws_checkSlot_6 (by decide) (fun h1 => ?_) (fun h1 => ?_)
  · exact kvret hX hr hlocks hQ () (hW) (trivial) d_Ws_checkSlot_19
  · omega
set_option maxHeartbeats 4000000 in
set_option maxRecDepth 100000 in
/-- checkLength(length) -/
theorem ok_Ws_checkLength (l : Launch) (D : va_G) (k : Nat → ClassId) (sz : Nat) (sl : Nat) (hsl : sl ≤ 30) : Met l y_Ws_checkLength (.code y_Ws_checkLength c_Ws_checkLength 1 none :: wsU) ({ frames := 0, cells := 0, slots := 0, locals := 0 } : Room) (kPre D k [.int (nI sl)] [] sz) (va_Qv (fun (_ : Unit) => True) (kB D k (fun _ : Unit => []) (va_A [] sz)) (va_A [] sz)) 0 0 (va_A [] sz) := by
  refine kMet (by decide) (Nat.le_of_ble_eq_true rfl) ?_
  intro p e s m below meth c ls hX hml hr hlocks hin hsz hW hl Q hQ
  generalize hAe : va_A [] sz = A at hW hQ
  generalize hH0 : s.heap = H at hW ⊢
  generalize hl0 : ([] : List Loc) = locs at hW ⊢
  have hX : FX p s m c [.int (nI sl)].toArray c_Ws_checkLength R_Ws := hX
  have hl : lv_has ls 1 [(0, .int (nI sl))] := hl
  refine lv_iload_n hX.1 hX.2.1 d_Ws_checkLength_0 rfl (lv_at hl 0 rfl) ?_
  refine kltN hX (tgt := 10) (by omega) d_Ws_checkLength_1 (by decide) ?_
  refine lv_iload_n hX.1 hX.2.1 d_Ws_checkLength_4 rfl (lv_at hl 0 rfl) ?_
  refine lv_bipush (v := nI 30) hX.1 hX.2.1 d_Ws_checkLength_5 (by decide) ?_
  refine kle hX (tgt := 20) (by omega) (by omega) d_Ws_checkLength_7 (by decide) (fun h1 => ?_) (fun h1 => ?_)
  · exact kvret hX hr hlocks hQ () (hW) (trivial) d_Ws_checkLength_20
  · omega
set_option maxHeartbeats 4000000 in
set_option maxRecDepth 100000 in
/-- feed(bytes, n) -/
theorem ok_Ws_feed (l : Launch) (D : va_G) (k : Nat → ClassId) (sz : Nat) (wz ta sv no pr ma se wo sp1 wa : Nat) (tb ts : Nat) (B : Nat → Nat) (x : Int64) (n : Nat) (h1n : 1 ≤ n) (hn : n ≤ 8) (hts : ts + n ≤ 80) : Met l y_Ws_feed (.code y_Ws_feed c_Ws_feed 4 (some .int) :: wsU) ({ frames := 1, cells := 0, slots := 0, locals := 30 } : Room) (kPre D k [.ref wz, .long x, .int (nI n)] [(wz, .inr (7, [.ref ta, .ref sv, .ref no, .ref pr, .ref ma, .ref se, .ref wo, .ref sp1, .int (nM wa)])), (ta, .inr (5, [.ref tb, .int (nI ts)])), (tb, .inl (k 0, 80, .inl (aN B)))] sz) (va_Qi (fun (r : Int32) (_ : Unit) => r = nI (ts + n)) (kB D k (fun _ : Unit => [(wz, .inr (7, [.ref ta, .ref sv, .ref no, .ref pr, .ref ma, .ref se, .ref wo, .ref sp1, .int (nM wa)])), (ta, .inr (5, [.ref tb, .int (nI (ts + n))])), (tb, .inl (k 0, 80, .inl (aN (tpw B ts x n n))))]) (va_A [(wz, .inr (7, [.ref ta, .ref sv, .ref no, .ref pr, .ref ma, .ref se, .ref wo, .ref sp1, .int (nM wa)])), (ta, .inr (5, [.ref tb, .int (nI ts)])), (tb, .inl (k 0, 80, .inl (aN B)))] sz)) (va_A [(wz, .inr (7, [.ref ta, .ref sv, .ref no, .ref pr, .ref ma, .ref se, .ref wo, .ref sp1, .int (nM wa)])), (ta, .inr (5, [.ref tb, .int (nI ts)])), (tb, .inl (k 0, 80, .inl (aN B)))] sz)) 0 0 (va_A [(wz, .inr (7, [.ref ta, .ref sv, .ref no, .ref pr, .ref ma, .ref se, .ref wo, .ref sp1, .int (nM wa)])), (ta, .inr (5, [.ref tb, .int (nI ts)])), (tb, .inl (k 0, 80, .inl (aN B)))] sz) := by
  refine kMet (by decide) (Nat.le_of_ble_eq_true rfl) ?_
  intro p e s m below meth c ls hX hml hr hlocks hin hsz hW hl Q hQ
  generalize hAe : va_A [(wz, .inr (7, [.ref ta, .ref sv, .ref no, .ref pr, .ref ma, .ref se, .ref wo, .ref sp1, .int (nM wa)])), (ta, .inr (5, [.ref tb, .int (nI ts)])), (tb, .inl (k 0, 80, .inl (aN B)))] sz = A at hW hQ
  generalize hH0 : s.heap = H at hW ⊢
  generalize hl0 : ([] : List Loc) = locs at hW ⊢
  have hX : FX p s m c [.ref wz, .long x, .int (nI n)].toArray c_Ws_feed R_Ws := hX
  have hl : lv_has ls 4 [(0, .ref wz), (1, .long x), (3, .int (nI n))] := hl
  refine lv_iload_n hX.1 hX.2.1 d_Ws_feed_0 rfl (lv_at hl 2 rfl) ?_
  refine lv_iconst (v := nI 1) hX.1 hX.2.1 d_Ws_feed_1 (by decide) ?_
  refine klt hX (tgt := 11) (by omega) (by omega) d_Ws_feed_2 (by decide) (fun h1 => ?_) (fun h1 => ?_)
  · omega
  · refine lv_iload_n hX.1 hX.2.1 d_Ws_feed_5 rfl (lv_at hl 2 rfl) ?_
    refine lv_bipush (v := nI 8) hX.1 hX.2.1 d_Ws_feed_6 (by decide) ?_
    refine kle hX (tgt := 21) (by omega) (by omega) d_Ws_feed_8 (by decide) (fun h2 => ?_) (fun h2 => ?_)
    · refine lv_aload_n hX.1 hX.2.1 d_Ws_feed_21 rfl (lv_at hl 0 rfl) ?_
      refine kget hX hW i_Ws 0 rfl rfl 0 (by decide) f_Ws_10 rfl rfl d_Ws_feed_22 ?_
      refine lv_lload_n hX.1 hX.2.1 d_Ws_feed_25 rfl (lv_at hl 1 rfl) ?_
      refine lv_iload_n hX.1 hX.2.1 d_Ws_feed_26 rfl (lv_at hl 2 rfl) ?_
      refine kCi (wc := [(ta, .inr (5, [.ref tb, .int (nI ts)])), (tb, .inl (k 0, 80, .inl (aN B)))]) hW [1, 2] (by rfl) (by intro _; exact (rfl : (2 : Nat) = 2)) (kRunV (n := 2) (As := [.long x, .int (nI n)]) (rest := []) hX hml hW (ok_Ta_append l D k H.size ta tb B ts x n h1n hn (by omega)) m_Ws_69 im_Ta_append se_Ta_append in_Ta cd_Ta_append [1, 2] rfl rfl rfl rfl (by decide +kernel) ⟨rfl, rfl, Nat.le_of_ble_eq_true rfl, Nat.le_of_ble_eq_true rfl⟩ rfl hl.1 rfl (Nat.le_of_ble_eq_true rfl) d_Ws_feed_27 ⟨by first | exact Nat.zero_le _ | decide | omega | (dsimp only; omega), by first | exact Nat.zero_le _ | decide | omega | (dsimp only; omega)⟩) (fun r u H locs hr1 hW => ?_)
      have hW : KW D k A s [(wz, .inr (7, [.ref ta, .ref sv, .ref no, .ref pr, .ref ma, .ref se, .ref wo, .ref sp1, .int (nM wa)])), (ta, .inr (5, [.ref tb, .int (nI (if ts + n ≤ 80 then ts + n else ts))])), (tb, .inl (k 0, 80, .inl (aN (if ts + n ≤ 80 then tpw B ts x n n else B))))] H locs := hW
      rw [decide_eq_true hts] at hr1
      subst hr1
      rw [if_pos hts, if_pos hts] at hW
      have hW : KW D k A s [(wz, .inr (7, [.ref ta, .ref sv, .ref no, .ref pr, .ref ma, .ref se, .ref wo, .ref sp1, .int (nM wa)])), (ta, .inr (5, [.ref tb, .int (nI (ts + n))])), (tb, .inl (k 0, 80, .inl (aN (tpw B ts x n n))))] H locs := hW
      refine knz hX (tgt := 43) (by decide) d_Ws_feed_30 (by decide) (fun h3 => ?_) (fun h3 => ?_)
      · refine lv_aload_n hX.1 hX.2.1 d_Ws_feed_43 rfl (lv_at hl 0 rfl) ?_
        refine kget hX hW i_Ws 0 rfl rfl 0 (by decide) f_Ws_10 rfl rfl d_Ws_feed_44 ?_
        refine kget hX hW i_Ta 1 rfl rfl 1 (by decide) f_Ws_78 rfl rfl d_Ws_feed_47 ?_
        exact kiret hX hr hlocks hQ () (hW) (rfl) d_Ws_feed_50
      · exact absurd h3 (by decide)
    · omega
set_option maxHeartbeats 4000000 in
set_option maxRecDepth 100000 in
/-- putSpare(slot) -/
theorem ok_Ws_putSpare (l : Launch) (D : va_G) (k : Nat → ClassId) (sz : Nat) (wz ta sv no pr ma se wo sp1 wa : Nat) (VF : Nat → Option Nat) (f g en n : Nat) (sl h0 : Nat) (hsl : sl < 4) (hh0 : VF sl = some h0) : Met l y_Ws_putSpare (.code y_Ws_putSpare c_Ws_putSpare 3 none :: wsU) ({ frames := 0, cells := 0, slots := 0, locals := 0 } : Room) (kPre D k [.ref wz, .int (nI sl)] [(wz, .inr (7, [.ref ta, .ref sv, .ref no, .ref pr, .ref ma, .ref se, .ref wo, .ref sp1, .int (nM wa)])), (sv, .inl (k 3, 4, .inr (.inr (.inr (.inr VF))))), (sp1, .inr (0, [.ref f, .ref g, .int (nI en), .int (nI n)]))] sz) (va_Qv (fun (_ : Unit) => True) (kB D k (fun _ : Unit => [(wz, .inr (7, [.ref ta, .ref sv, .ref no, .ref pr, .ref ma, .ref se, .ref wo, .ref h0, .int (nM wa)])), (sv, .inl (k 3, 4, .inr (.inr (.inr (.inr (va_up VF sl (some sp1))))))), (sp1, .inr (0, [.ref f, .ref g, .int (nI en), .int (nI n)]))]) (va_A [(wz, .inr (7, [.ref ta, .ref sv, .ref no, .ref pr, .ref ma, .ref se, .ref wo, .ref sp1, .int (nM wa)])), (sv, .inl (k 3, 4, .inr (.inr (.inr (.inr VF))))), (sp1, .inr (0, [.ref f, .ref g, .int (nI en), .int (nI n)]))] sz)) (va_A [(wz, .inr (7, [.ref ta, .ref sv, .ref no, .ref pr, .ref ma, .ref se, .ref wo, .ref sp1, .int (nM wa)])), (sv, .inl (k 3, 4, .inr (.inr (.inr (.inr VF))))), (sp1, .inr (0, [.ref f, .ref g, .int (nI en), .int (nI n)]))] sz)) 0 0 (va_A [(wz, .inr (7, [.ref ta, .ref sv, .ref no, .ref pr, .ref ma, .ref se, .ref wo, .ref sp1, .int (nM wa)])), (sv, .inl (k 3, 4, .inr (.inr (.inr (.inr VF))))), (sp1, .inr (0, [.ref f, .ref g, .int (nI en), .int (nI n)]))] sz) := by
  refine kMet (by decide) (Nat.le_of_ble_eq_true rfl) ?_
  intro p e s m below meth c ls hX hml hr hlocks hin hsz hW hl Q hQ
  generalize hAe : va_A [(wz, .inr (7, [.ref ta, .ref sv, .ref no, .ref pr, .ref ma, .ref se, .ref wo, .ref sp1, .int (nM wa)])), (sv, .inl (k 3, 4, .inr (.inr (.inr (.inr VF))))), (sp1, .inr (0, [.ref f, .ref g, .int (nI en), .int (nI n)]))] sz = A at hW hQ
  generalize hH0 : s.heap = H at hW ⊢
  generalize hl0 : ([] : List Loc) = locs at hW ⊢
  have hX : FX p s m c [.ref wz, .int (nI sl)].toArray c_Ws_putSpare R_Ws := hX
  have hl : lv_has ls 3 [(0, .ref wz), (1, .int (nI sl))] := hl
  refine lv_aload_n hX.1 hX.2.1 d_Ws_putSpare_0 rfl (lv_at hl 0 rfl) ?_
  refine kget hX hW i_Ws 0 rfl rfl 1 (by decide) f_Ws_18 rfl rfl d_Ws_putSpare_1 ?_
  refine lv_iload_n hX.1 hX.2.1 d_Ws_putSpare_4 rfl (lv_at hl 1 rfl) ?_
  refine kaald hX hW 1 3 rfl rfl (hsl) (by first | decide | omega) (hh0) d_Ws_putSpare_5 ?_
  refine lv_astore_n (lv' := [(2, .ref h0), (0, .ref wz), (1, .int (nI sl))]) hX.1 hX.2.1 d_Ws_putSpare_6 rfl hl (by decide) rfl (fun ls hl => ?_)
  refine lv_aload_n hX.1 hX.2.1 d_Ws_putSpare_7 rfl (lv_at hl 1 rfl) ?_
  refine kget hX hW i_Ws 0 rfl rfl 1 (by decide) f_Ws_18 rfl rfl d_Ws_putSpare_8 ?_
  refine lv_iload_n hX.1 hX.2.1 d_Ws_putSpare_11 rfl (lv_at hl 2 rfl) ?_
  refine lv_aload_n hX.1 hX.2.1 d_Ws_putSpare_12 rfl (lv_at hl 1 rfl) ?_
  refine kget hX hW i_Ws 0 rfl rfl 7 (by decide) f_Ws_55 rfl rfl d_Ws_putSpare_13 ?_
  refine kaast hX hW 1 3 2 0 rfl rfl rfl rfl hsl (by decide) d_Ws_putSpare_16 (fun H locs hW => ?_)
  have hW : KW D k A s [(wz, .inr (7, [.ref ta, .ref sv, .ref no, .ref pr, .ref ma, .ref se, .ref wo, .ref sp1, .int (nM wa)])), (sv, .inl (k 3, 4, .inr (.inr (.inr (.inr (va_up VF sl (some sp1))))))), (sp1, .inr (0, [.ref f, .ref g, .int (nI en), .int (nI n)]))] H locs := hW
  refine lv_aload_n hX.1 hX.2.1 d_Ws_putSpare_17 rfl (lv_at hl 1 rfl) ?_
  refine lv_aload_n hX.1 hX.2.1 d_Ws_putSpare_18 rfl (lv_at hl 0 rfl) ?_
  refine kput hX hW i_Ws t_Ws t_Ws_ok n_Ws 0 rfl rfl 7 (by decide) f_Ws_55 rfl rfl (rfl) (rfl) (Nat.le_of_ble_eq_true rfl) d_Ws_putSpare_19 (fun H locs hW => ?_)
  have hW : KW D k A s [(wz, .inr (7, [.ref ta, .ref sv, .ref no, .ref pr, .ref ma, .ref se, .ref wo, .ref h0, .int (nM wa)])), (sv, .inl (k 3, 4, .inr (.inr (.inr (.inr (va_up VF sl (some sp1))))))), (sp1, .inr (0, [.ref f, .ref g, .int (nI en), .int (nI n)]))] H locs := hW
  exact kvret hX hr hlocks hQ () (hW) (trivial) d_Ws_putSpare_22
