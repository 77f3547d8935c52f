/-! THE REFERENCE: feed, letter, spell -/
theorem in_no {x lo hi : Int32} (h : ¬ (lo ≤ x ∧ x ≤ hi)) : decide (lo ≤ x ∧ x ≤ hi) = false := decide_eq_false h
theorem in_n {a b d : Nat} (ha : a < 2 ^ 31) (hb : b < 2 ^ 31) (hd : d < 2 ^ 31) (h1 : b ≤ a) (h2 : a ≤ d) : decide (nI b ≤ nI a ∧ nI a ≤ nI d) = true := decide_eq_true ⟨nI_le h1 ha, nI_le h2 hd⟩
/-- how many steps lead from the pair x to the first one (fuel r), the origins and one -/
def ml (FR : Nat → Nat) : Nat → Nat → Nat
  | 0, _ => 0
  | r + 1, x => if FR x = 0 then 0 else 1 + ml FR r (FR x - 1)
def mf (FR BY : Nat → Nat) : Nat → Nat → (Nat → Nat) → Nat → Nat
  | 0, _, L => L
  | i + 1, x, L => mf FR BY i (FR x - 1) (va_up L i (BY x))
set_option maxHeartbeats 4000000 in
set_option maxRecDepth 100000 in
/-- feed(x, n), n is not 1 to 8 -/
theorem ok_Md_feedBad (l : Launch) (D : va_G) (k : Nat → ClassId) (sz : Nat) (md : Nat) (ad : Nat → Nat) (th tp pl si at1 wr dp pa le : Nat) (TP : Nat → Nat) (x : Int64) (n0 : Int32) (hn : ¬ (nI 1 ≤ n0 ∧ n0 ≤ nI 8)) : Met l y_Md_feed (.code y_Md_feed c_Md_feed 5 (some .int) :: wsU) ({ frames := 1, cells := 0, slots := 0, locals := 22 } : Room) (kPre D k [.ref md, .long x, .int n0] [(md, .inr (8, [.int (nI th), .int (nI tp), .ref (ad 2), .int (nM pl), .ref (ad 4), .ref (ad 5), .ref (ad 6), .ref (ad 7), .ref (ad 8), .ref (ad 9), .int (nI si), .ref (ad 11), .int (nI at1), .int (nM wr), .int (nI dp), .int (nI pa), .ref (ad 16), .ref (ad 17), .ref (ad 18), .int (nI le), .ref (ad 20), .ref (ad 21), .ref (ad 22), .ref (ad 23), .ref (ad 24), .ref (ad 25), .ref (ad 26), .ref (ad 27), .ref (ad 28), .ref (ad 29), .ref (ad 30)])), (ad 2, .inl (k 0, 80, .inl (aN TP)))] sz) (va_Qi (fun (r : Int32) (_ : Unit) => r = nI 0) (kB D k (fun _ : Unit => [(md, .inr (8, [.int (nI 1), .int (nI tp), .ref (ad 2), .int (nM pl), .ref (ad 4), .ref (ad 5), .ref (ad 6), .ref (ad 7), .ref (ad 8), .ref (ad 9), .int (nI si), .ref (ad 11), .int (nI at1), .int (nM wr), .int (nI dp), .int (nI pa), .ref (ad 16), .ref (ad 17), .ref (ad 18), .int (nI le), .ref (ad 20), .ref (ad 21), .ref (ad 22), .ref (ad 23), .ref (ad 24), .ref (ad 25), .ref (ad 26), .ref (ad 27), .ref (ad 28), .ref (ad 29), .ref (ad 30)])), (ad 2, .inl (k 0, 80, .inl (aN TP)))]) (va_A [(md, .inr (8, [.int (nI th), .int (nI tp), .ref (ad 2), .int (nM pl), .ref (ad 4), .ref (ad 5), .ref (ad 6), .ref (ad 7), .ref (ad 8), .ref (ad 9), .int (nI si), .ref (ad 11), .int (nI at1), .int (nM wr), .int (nI dp), .int (nI pa), .ref (ad 16), .ref (ad 17), .ref (ad 18), .int (nI le), .ref (ad 20), .ref (ad 21), .ref (ad 22), .ref (ad 23), .ref (ad 24), .ref (ad 25), .ref (ad 26), .ref (ad 27), .ref (ad 28), .ref (ad 29), .ref (ad 30)])), (ad 2, .inl (k 0, 80, .inl (aN TP)))] sz)) (va_A [(md, .inr (8, [.int (nI th), .int (nI tp), .ref (ad 2), .int (nM pl), .ref (ad 4), .ref (ad 5), .ref (ad 6), .ref (ad 7), .ref (ad 8), .ref (ad 9), .int (nI si), .ref (ad 11), .int (nI at1), .int (nM wr), .int (nI dp), .int (nI pa), .ref (ad 16), .ref (ad 17), .ref (ad 18), .int (nI le), .ref (ad 20), .ref (ad 21), .ref (ad 22), .ref (ad 23), .ref (ad 24), .ref (ad 25), .ref (ad 26), .ref (ad 27), .ref (ad 28), .ref (ad 29), .ref (ad 30)])), (ad 2, .inl (k 0, 80, .inl (aN TP)))] sz)) 0 0 (va_A [(md, .inr (8, [.int (nI th), .int (nI tp), .ref (ad 2), .int (nM pl), .ref (ad 4), .ref (ad 5), .ref (ad 6), .ref (ad 7), .ref (ad 8), .ref (ad 9), .int (nI si), .ref (ad 11), .int (nI at1), .int (nM wr), .int (nI dp), .int (nI pa), .ref (ad 16), .ref (ad 17), .ref (ad 18), .int (nI le), .ref (ad 20), .ref (ad 21), .ref (ad 22), .ref (ad 23), .ref (ad 24), .ref (ad 25), .ref (ad 26), .ref (ad 27), .ref (ad 28), .ref (ad 29), .ref (ad 30)])), (ad 2, .inl (k 0, 80, .inl (aN TP)))] sz) := by
  refine kMet (by decide) (Nat.le_of_ble_eq_true rfl) ?_
  intro p e s m below meth c ls hX hml hr hlocks hin hsz hW hl Q hQ
  generalize hAe : va_A [(md, .inr (8, [.int (nI th), .int (nI tp), .ref (ad 2), .int (nM pl), .ref (ad 4), .ref (ad 5), .ref (ad 6), .ref (ad 7), .ref (ad 8), .ref (ad 9), .int (nI si), .ref (ad 11), .int (nI at1), .int (nM wr), .int (nI dp), .int (nI pa), .ref (ad 16), .ref (ad 17), .ref (ad 18), .int (nI le), .ref (ad 20), .ref (ad 21), .ref (ad 22), .ref (ad 23), .ref (ad 24), .ref (ad 25), .ref (ad 26), .ref (ad 27), .ref (ad 28), .ref (ad 29), .ref (ad 30)])), (ad 2, .inl (k 0, 80, .inl (aN TP)))] sz = A at hW hQ
  generalize hH0 : s.heap = H at hW ⊢
  generalize hl0 : ([] : List Loc) = locs at hW ⊢
  have hX : FX p s m c [.ref md, .long x, .int n0].toArray c_Md_feed R_Md := hX
  have hl : lv_has ls 5 [(0, .ref md), (1, .long x), (3, .int n0)] := hl
  refine lv_aload_n hX.1 hX.2.1 d_Md_feed_0 rfl (lv_at hl 0 rfl) ?_
  refine lv_iload_n hX.1 hX.2.1 d_Md_feed_1 rfl (lv_at hl 2 rfl) ?_
  refine lv_iconst (v := nI 1) hX.1 hX.2.1 d_Md_feed_2 (by decide) ?_
  refine lv_bipush (v := nI 8) hX.1 hX.2.1 d_Md_feed_3 (by decide) ?_
  refine kCi (wc := []) hW [] (by rfl) (by intro _; rfl) (kRunS (n := 3) (As := [.int n0, .int (nI 1), .int (nI 8)]) (rest := [.ref md]) hX hml hW (ok_Md_in l D k H.size n0 (nI 1) (nI 8)) m_Md_86 sm_Md_in in_Md cd_Md_in [] rfl rfl (by decide +kernel) ⟨rfl, rfl, Nat.le_of_ble_eq_true rfl, Nat.le_of_ble_eq_true rfl⟩ rfl hl.1 rfl (Nat.le_of_ble_eq_true rfl) d_Md_feed_5 ⟨by first | exact Nat.zero_le _ | decide | omega | (dsimp only; omega), by first | exact Nat.zero_le _ | decide | omega | (dsimp only; omega)⟩) (fun r u H locs hr1 hW => ?_)
  have hW : KW D k A s [(md, .inr (8, [.int (nI th), .int (nI tp), .ref (ad 2), .int (nM pl), .ref (ad 4), .ref (ad 5), .ref (ad 6), .ref (ad 7), .ref (ad 8), .ref (ad 9), .int (nI si), .ref (ad 11), .int (nI at1), .int (nM wr), .int (nI dp), .int (nI pa), .ref (ad 16), .ref (ad 17), .ref (ad 18), .int (nI le), .ref (ad 20), .ref (ad 21), .ref (ad 22), .ref (ad 23), .ref (ad 24), .ref (ad 25), .ref (ad 26), .ref (ad 27), .ref (ad 28), .ref (ad 29), .ref (ad 30)])), (ad 2, .inl (k 0, 80, .inl (aN TP)))] H locs := hW
  rw [in_no hn] at hr1
  subst hr1
  refine knz hX (tgt := 15) (by decide) d_Md_feed_8 (by decide) (fun h1 => ?_) (fun h1 => ?_)
  · exact absurd rfl h1
  · refine lv_iconst (v := nI 1) hX.1 hX.2.1 d_Md_feed_11 (by decide) ?_
    refine lv_goto (tgt := 31) hX.1 hX.2.1 d_Md_feed_12 (by decide) ?_
    refine kput hX hW i_Md t_Md t_Md_ok n_Md 0 rfl rfl 0 (by decide) f_Md_83 rfl rfl (rfl) (rfl) (Nat.le_of_ble_eq_true rfl) d_Md_feed_31 (fun H locs hW => ?_)
    have hW : KW D k A s [(md, .inr (8, [.int (nI 1), .int (nI tp), .ref (ad 2), .int (nM pl), .ref (ad 4), .ref (ad 5), .ref (ad 6), .ref (ad 7), .ref (ad 8), .ref (ad 9), .int (nI si), .ref (ad 11), .int (nI at1), .int (nM wr), .int (nI dp), .int (nI pa), .ref (ad 16), .ref (ad 17), .ref (ad 18), .int (nI le), .ref (ad 20), .ref (ad 21), .ref (ad 22), .ref (ad 23), .ref (ad 24), .ref (ad 25), .ref (ad 26), .ref (ad 27), .ref (ad 28), .ref (ad 29), .ref (ad 30)])), (ad 2, .inl (k 0, 80, .inl (aN TP)))] H locs := hW
    refine lv_aload_n hX.1 hX.2.1 d_Md_feed_34 rfl (lv_at hl 0 rfl) ?_
    refine kget hX hW i_Md 0 rfl rfl 0 (by decide) f_Md_83 rfl rfl d_Md_feed_35 ?_
    refine kleN hX (tgt := 43) (by decide) d_Md_feed_38 (by decide) (fun h2 => ?_) (fun h2 => ?_)
    · omega
    · refine lv_iconst (v := nI 0) hX.1 hX.2.1 d_Md_feed_41 (by decide) ?_
      exact kiret hX hr hlocks hQ () (hW) (rfl) d_Md_feed_42
set_option maxHeartbeats 4000000 in
set_option maxRecDepth 100000 in
/-- feed(x, n), more than 80 -/
theorem ok_Md_feedFull (l : Launch) (D : va_G) (k : Nat → ClassId) (sz : Nat) (md : Nat) (ad : Nat → Nat) (th tp pl si at1 wr dp pa le : Nat) (TP : Nat → Nat) (x : Int64) (n : Nat) (h1n : 1 ≤ n) (hn : n ≤ 8) (htp : tp ≤ 80) (hf : 80 < tp + n) : Met l y_Md_feed (.code y_Md_feed c_Md_feed 5 (some .int) :: wsU) ({ frames := 1, cells := 0, slots := 0, locals := 22 } : Room) (kPre D k [.ref md, .long x, .int (nI n)] [(md, .inr (8, [.int (nI th), .int (nI tp), .ref (ad 2), .int (nM pl), .ref (ad 4), .ref (ad 5), .ref (ad 6), .ref (ad 7), .ref (ad 8), .ref (ad 9), .int (nI si), .ref (ad 11), .int (nI at1), .int (nM wr), .int (nI dp), .int (nI pa), .ref (ad 16), .ref (ad 17), .ref (ad 18), .int (nI le), .ref (ad 20), .ref (ad 21), .ref (ad 22), .ref (ad 23), .ref (ad 24), .ref (ad 25), .ref (ad 26), .ref (ad 27), .ref (ad 28), .ref (ad 29), .ref (ad 30)])), (ad 2, .inl (k 0, 80, .inl (aN TP)))] sz) (va_Qi (fun (r : Int32) (_ : Unit) => r = nI 0) (kB D k (fun _ : Unit => [(md, .inr (8, [.int (nI 2), .int (nI tp), .ref (ad 2), .int (nM pl), .ref (ad 4), .ref (ad 5), .ref (ad 6), .ref (ad 7), .ref (ad 8), .ref (ad 9), .int (nI si), .ref (ad 11), .int (nI at1), .int (nM wr), .int (nI dp), .int (nI pa), .ref (ad 16), .ref (ad 17), .ref (ad 18), .int (nI le), .ref (ad 20), .ref (ad 21), .ref (ad 22), .ref (ad 23), .ref (ad 24), .ref (ad 25), .ref (ad 26), .ref (ad 27), .ref (ad 28), .ref (ad 29), .ref (ad 30)])), (ad 2, .inl (k 0, 80, .inl (aN TP)))]) (va_A [(md, .inr (8, [.int (nI th), .int (nI tp), .ref (ad 2), .int (nM pl), .ref (ad 4), .ref (ad 5), .ref (ad 6), .ref (ad 7), .ref (ad 8), .ref (ad 9), .int (nI si), .ref (ad 11), .int (nI at1), .int (nM wr), .int (nI dp), .int (nI pa), .ref (ad 16), .ref (ad 17), .ref (ad 18), .int (nI le), .ref (ad 20), .ref (ad 21), .ref (ad 22), .ref (ad 23), .ref (ad 24), .ref (ad 25), .ref (ad 26), .ref (ad 27), .ref (ad 28), .ref (ad 29), .ref (ad 30)])), (ad 2, .inl (k 0, 80, .inl (aN TP)))] sz)) (va_A [(md, .inr (8, [.int (nI th), .int (nI tp), .ref (ad 2), .int (nM pl), .ref (ad 4), .ref (ad 5), .ref (ad 6), .ref (ad 7), .ref (ad 8), .ref (ad 9), .int (nI si), .ref (ad 11), .int (nI at1), .int (nM wr), .int (nI dp), .int (nI pa), .ref (ad 16), .ref (ad 17), .ref (ad 18), .int (nI le), .ref (ad 20), .ref (ad 21), .ref (ad 22), .ref (ad 23), .ref (ad 24), .ref (ad 25), .ref (ad 26), .ref (ad 27), .ref (ad 28), .ref (ad 29), .ref (ad 30)])), (ad 2, .inl (k 0, 80, .inl (aN TP)))] sz)) 0 0 (va_A [(md, .inr (8, [.int (nI th), .int (nI tp), .ref (ad 2), .int (nM pl), .ref (ad 4), .ref (ad 5), .ref (ad 6), .ref (ad 7), .ref (ad 8), .ref (ad 9), .int (nI si), .ref (ad 11), .int (nI at1), .int (nM wr), .int (nI dp), .int (nI pa), .ref (ad 16), .ref (ad 17), .ref (ad 18), .int (nI le), .ref (ad 20), .ref (ad 21), .ref (ad 22), .ref (ad 23), .ref (ad 24), .ref (ad 25), .ref (ad 26), .ref (ad 27), .ref (ad 28), .ref (ad 29), .ref (ad 30)])), (ad 2, .inl (k 0, 80, .inl (aN TP)))] sz) := by
  refine kMet (by decide) (Nat.le_of_ble_eq_true rfl) ?_
  intro p e s m below meth c ls hX hml hr hlocks hin hsz hW hl Q hQ
  generalize hAe : va_A [(md, .inr (8, [.int (nI th), .int (nI tp), .ref (ad 2), .int (nM pl), .ref (ad 4), .ref (ad 5), .ref (ad 6), .ref (ad 7), .ref (ad 8), .ref (ad 9), .int (nI si), .ref (ad 11), .int (nI at1), .int (nM wr), .int (nI dp), .int (nI pa), .ref (ad 16), .ref (ad 17), .ref (ad 18), .int (nI le), .ref (ad 20), .ref (ad 21), .ref (ad 22), .ref (ad 23), .ref (ad 24), .ref (ad 25), .ref (ad 26), .ref (ad 27), .ref (ad 28), .ref (ad 29), .ref (ad 30)])), (ad 2, .inl (k 0, 80, .inl (aN TP)))] sz = A at hW hQ
  generalize hH0 : s.heap = H at hW ⊢
  generalize hl0 : ([] : List Loc) = locs at hW ⊢
  have hX : FX p s m c [.ref md, .long x, .int (nI n)].toArray c_Md_feed R_Md := hX
  have hl : lv_has ls 5 [(0, .ref md), (1, .long x), (3, .int (nI n))] := hl
  refine lv_aload_n hX.1 hX.2.1 d_Md_feed_0 rfl (lv_at hl 0 rfl) ?_
  refine lv_iload_n hX.1 hX.2.1 d_Md_feed_1 rfl (lv_at hl 2 rfl) ?_
  refine lv_iconst (v := nI 1) hX.1 hX.2.1 d_Md_feed_2 (by decide) ?_
  refine lv_bipush (v := nI 8) hX.1 hX.2.1 d_Md_feed_3 (by decide) ?_
  refine kCi (wc := []) hW [] (by rfl) (by intro _; rfl) (kRunS (n := 3) (As := [.int (nI n), .int (nI 1), .int (nI 8)]) (rest := [.ref md]) hX hml hW (ok_Md_in l D k H.size (nI n) (nI 1) (nI 8)) m_Md_86 sm_Md_in in_Md cd_Md_in [] rfl rfl (by decide +kernel) ⟨rfl, rfl, Nat.le_of_ble_eq_true rfl, Nat.le_of_ble_eq_true rfl⟩ rfl hl.1 rfl (Nat.le_of_ble_eq_true rfl) d_Md_feed_5 ⟨by first | exact Nat.zero_le _ | decide | omega | (dsimp only; omega), by first | exact Nat.zero_le _ | decide | omega | (dsimp only; omega)⟩) (fun r u H locs hr1 hW => ?_)
  have hW : KW D k A s [(md, .inr (8, [.int (nI th), .int (nI tp), .ref (ad 2), .int (nM pl), .ref (ad 4), .ref (ad 5), .ref (ad 6), .ref (ad 7), .ref (ad 8), .ref (ad 9), .int (nI si), .ref (ad 11), .int (nI at1), .int (nM wr), .int (nI dp), .int (nI pa), .ref (ad 16), .ref (ad 17), .ref (ad 18), .int (nI le), .ref (ad 20), .ref (ad 21), .ref (ad 22), .ref (ad 23), .ref (ad 24), .ref (ad 25), .ref (ad 26), .ref (ad 27), .ref (ad 28), .ref (ad 29), .ref (ad 30)])), (ad 2, .inl (k 0, 80, .inl (aN TP)))] H locs := hW
  rw [in_n (by omega) (by decide) (by decide) h1n hn] at hr1
  subst hr1
  refine knz hX (tgt := 15) (by decide) d_Md_feed_8 (by decide) (fun h1 => ?_) (fun h1 => ?_)
  · refine lv_aload_n hX.1 hX.2.1 d_Md_feed_15 rfl (lv_at hl 0 rfl) ?_
    refine kget hX hW i_Md 0 rfl rfl 1 (by decide) f_Md_90 rfl rfl d_Md_feed_16 ?_
    refine lv_iload_n hX.1 hX.2.1 d_Md_feed_19 rfl (lv_at hl 2 rfl) ?_
    refine lv_iadd hX.1 hX.2.1 d_Md_feed_20 ?_
    refine tpi (y := nI (tp + n)) (nI_add _ _) ?_
    refine lv_bipush (v := nI 80) hX.1 hX.2.1 d_Md_feed_21 (by decide) ?_
    refine kle hX (tgt := 30) (by omega) (by omega) d_Md_feed_23 (by decide) (fun h2 => ?_) (fun h2 => ?_)
    · omega
    · refine lv_iconst (v := nI 2) hX.1 hX.2.1 d_Md_feed_26 (by decide) ?_
      refine lv_goto (tgt := 31) hX.1 hX.2.1 d_Md_feed_27 (by decide) ?_
      refine kput hX hW i_Md t_Md t_Md_ok n_Md 0 rfl rfl 0 (by decide) f_Md_83 rfl rfl (rfl) (rfl) (Nat.le_of_ble_eq_true rfl) d_Md_feed_31 (fun H locs hW => ?_)
      have hW : KW D k A s [(md, .inr (8, [.int (nI 2), .int (nI tp), .ref (ad 2), .int (nM pl), .ref (ad 4), .ref (ad 5), .ref (ad 6), .ref (ad 7), .ref (ad 8), .ref (ad 9), .int (nI si), .ref (ad 11), .int (nI at1), .int (nM wr), .int (nI dp), .int (nI pa), .ref (ad 16), .ref (ad 17), .ref (ad 18), .int (nI le), .ref (ad 20), .ref (ad 21), .ref (ad 22), .ref (ad 23), .ref (ad 24), .ref (ad 25), .ref (ad 26), .ref (ad 27), .ref (ad 28), .ref (ad 29), .ref (ad 30)])), (ad 2, .inl (k 0, 80, .inl (aN TP)))] H locs := hW
      refine lv_aload_n hX.1 hX.2.1 d_Md_feed_34 rfl (lv_at hl 0 rfl) ?_
      refine kget hX hW i_Md 0 rfl rfl 0 (by decide) f_Md_83 rfl rfl d_Md_feed_35 ?_
      refine kleN hX (tgt := 43) (by decide) d_Md_feed_38 (by decide) (fun h3 => ?_) (fun h3 => ?_)
      · omega
      · refine lv_iconst (v := nI 0) hX.1 hX.2.1 d_Md_feed_41 (by decide) ?_
        exact kiret hX hr hlocks hQ () (hW) (rfl) d_Md_feed_42
  · exact absurd h1 (by decide)
set_option maxHeartbeats 4000000 in
set_option maxRecDepth 100000 in
/-- feed(x, n) -/
theorem ok_Md_feed (l : Launch) (D : va_G) (k : Nat → ClassId) (sz : Nat) (md : Nat) (ad : Nat → Nat) (th tp pl si at1 wr dp pa le : Nat) (TP : Nat → Nat) (x : Int64) (n : Nat) (h1n : 1 ≤ n) (hn : n ≤ 8) (htp : tp ≤ 80) (hf : tp + n ≤ 80) : Met l y_Md_feed (.code y_Md_feed c_Md_feed 5 (some .int) :: wsU) ({ frames := 1, cells := 0, slots := 0, locals := 22 } : Room) (kPre D k [.ref md, .long x, .int (nI n)] [(md, .inr (8, [.int (nI th), .int (nI tp), .ref (ad 2), .int (nM pl), .ref (ad 4), .ref (ad 5), .ref (ad 6), .ref (ad 7), .ref (ad 8), .ref (ad 9), .int (nI si), .ref (ad 11), .int (nI at1), .int (nM wr), .int (nI dp), .int (nI pa), .ref (ad 16), .ref (ad 17), .ref (ad 18), .int (nI le), .ref (ad 20), .ref (ad 21), .ref (ad 22), .ref (ad 23), .ref (ad 24), .ref (ad 25), .ref (ad 26), .ref (ad 27), .ref (ad 28), .ref (ad 29), .ref (ad 30)])), (ad 2, .inl (k 0, 80, .inl (aN TP)))] sz) (va_Qi (fun (r : Int32) (_ : Unit) => r = nI (tp + n)) (kB D k (fun _ : Unit => [(md, .inr (8, [.int (nI 0), .int (nI (tp + n)), .ref (ad 2), .int (nM pl), .ref (ad 4), .ref (ad 5), .ref (ad 6), .ref (ad 7), .ref (ad 8), .ref (ad 9), .int (nI si), .ref (ad 11), .int (nI at1), .int (nM wr), .int (nI dp), .int (nI pa), .ref (ad 16), .ref (ad 17), .ref (ad 18), .int (nI le), .ref (ad 20), .ref (ad 21), .ref (ad 22), .ref (ad 23), .ref (ad 24), .ref (ad 25), .ref (ad 26), .ref (ad 27), .ref (ad 28), .ref (ad 29), .ref (ad 30)])), (ad 2, .inl (k 0, 80, .inl (aN (tpw TP tp x n n))))]) (va_A [(md, .inr (8, [.int (nI th), .int (nI tp), .ref (ad 2), .int (nM pl), .ref (ad 4), .ref (ad 5), .ref (ad 6), .ref (ad 7), .ref (ad 8), .ref (ad 9), .int (nI si), .ref (ad 11), .int (nI at1), .int (nM wr), .int (nI dp), .int (nI pa), .ref (ad 16), .ref (ad 17), .ref (ad 18), .int (nI le), .ref (ad 20), .ref (ad 21), .ref (ad 22), .ref (ad 23), .ref (ad 24), .ref (ad 25), .ref (ad 26), .ref (ad 27), .ref (ad 28), .ref (ad 29), .ref (ad 30)])), (ad 2, .inl (k 0, 80, .inl (aN TP)))] sz)) (va_A [(md, .inr (8, [.int (nI th), .int (nI tp), .ref (ad 2), .int (nM pl), .ref (ad 4), .ref (ad 5), .ref (ad 6), .ref (ad 7), .ref (ad 8), .ref (ad 9), .int (nI si), .ref (ad 11), .int (nI at1), .int (nM wr), .int (nI dp), .int (nI pa), .ref (ad 16), .ref (ad 17), .ref (ad 18), .int (nI le), .ref (ad 20), .ref (ad 21), .ref (ad 22), .ref (ad 23), .ref (ad 24), .ref (ad 25), .ref (ad 26), .ref (ad 27), .ref (ad 28), .ref (ad 29), .ref (ad 30)])), (ad 2, .inl (k 0, 80, .inl (aN TP)))] sz)) 0 0 (va_A [(md, .inr (8, [.int (nI th), .int (nI tp), .ref (ad 2), .int (nM pl), .ref (ad 4), .ref (ad 5), .ref (ad 6), .ref (ad 7), .ref (ad 8), .ref (ad 9), .int (nI si), .ref (ad 11), .int (nI at1), .int (nM wr), .int (nI dp), .int (nI pa), .ref (ad 16), .ref (ad 17), .ref (ad 18), .int (nI le), .ref (ad 20), .ref (ad 21), .ref (ad 22), .ref (ad 23), .ref (ad 24), .ref (ad 25), .ref (ad 26), .ref (ad 27), .ref (ad 28), .ref (ad 29), .ref (ad 30)])), (ad 2, .inl (k 0, 80, .inl (aN TP)))] sz) := by
  refine kMet (by decide) (Nat.le_of_ble_eq_true rfl) ?_
  intro p e s m below meth c ls hX hml hr hlocks hin hsz hW hl Q hQ
  generalize hAe : va_A [(md, .inr (8, [.int (nI th), .int (nI tp), .ref (ad 2), .int (nM pl), .ref (ad 4), .ref (ad 5), .ref (ad 6), .ref (ad 7), .ref (ad 8), .ref (ad 9), .int (nI si), .ref (ad 11), .int (nI at1), .int (nM wr), .int (nI dp), .int (nI pa), .ref (ad 16), .ref (ad 17), .ref (ad 18), .int (nI le), .ref (ad 20), .ref (ad 21), .ref (ad 22), .ref (ad 23), .ref (ad 24), .ref (ad 25), .ref (ad 26), .ref (ad 27), .ref (ad 28), .ref (ad 29), .ref (ad 30)])), (ad 2, .inl (k 0, 80, .inl (aN TP)))] sz = A at hW hQ
  generalize hH0 : s.heap = H at hW ⊢
  generalize hl0 : ([] : List Loc) = locs at hW ⊢
  have hX : FX p s m c [.ref md, .long x, .int (nI n)].toArray c_Md_feed R_Md := hX
  have hl : lv_has ls 5 [(0, .ref md), (1, .long x), (3, .int (nI n))] := hl
  refine lv_aload_n hX.1 hX.2.1 d_Md_feed_0 rfl (lv_at hl 0 rfl) ?_
  refine lv_iload_n hX.1 hX.2.1 d_Md_feed_1 rfl (lv_at hl 2 rfl) ?_
  refine lv_iconst (v := nI 1) hX.1 hX.2.1 d_Md_feed_2 (by decide) ?_
  refine lv_bipush (v := nI 8) hX.1 hX.2.1 d_Md_feed_3 (by decide) ?_
  refine kCi (wc := []) hW [] (by rfl) (by intro _; rfl) (kRunS (n := 3) (As := [.int (nI n), .int (nI 1), .int (nI 8)]) (rest := [.ref md]) hX hml hW (ok_Md_in l D k H.size (nI n) (nI 1) (nI 8)) m_Md_86 sm_Md_in in_Md cd_Md_in [] rfl rfl (by decide +kernel) ⟨rfl, rfl, Nat.le_of_ble_eq_true rfl, Nat.le_of_ble_eq_true rfl⟩ rfl hl.1 rfl (Nat.le_of_ble_eq_true rfl) d_Md_feed_5 ⟨by first | exact Nat.zero_le _ | decide | omega | (dsimp only; omega), by first | exact Nat.zero_le _ | decide | omega | (dsimp only; omega)⟩) (fun r u H locs hr1 hW => ?_)
  have hW : KW D k A s [(md, .inr (8, [.int (nI th), .int (nI tp), .ref (ad 2), .int (nM pl), .ref (ad 4), .ref (ad 5), .ref (ad 6), .ref (ad 7), .ref (ad 8), .ref (ad 9), .int (nI si), .ref (ad 11), .int (nI at1), .int (nM wr), .int (nI dp), .int (nI pa), .ref (ad 16), .ref (ad 17), .ref (ad 18), .int (nI le), .ref (ad 20), .ref (ad 21), .ref (ad 22), .ref (ad 23), .ref (ad 24), .ref (ad 25), .ref (ad 26), .ref (ad 27), .ref (ad 28), .ref (ad 29), .ref (ad 30)])), (ad 2, .inl (k 0, 80, .inl (aN TP)))] H locs := hW
  rw [in_n (by omega) (by decide) (by decide) h1n hn] at hr1
  subst hr1
  refine knz hX (tgt := 15) (by decide) d_Md_feed_8 (by decide) (fun h1 => ?_) (fun h1 => ?_)
  · refine lv_aload_n hX.1 hX.2.1 d_Md_feed_15 rfl (lv_at hl 0 rfl) ?_
    refine kget hX hW i_Md 0 rfl rfl 1 (by decide) f_Md_90 rfl rfl d_Md_feed_16 ?_
    refine lv_iload_n hX.1 hX.2.1 d_Md_feed_19 rfl (lv_at hl 2 rfl) ?_
    refine lv_iadd hX.1 hX.2.1 d_Md_feed_20 ?_
    refine tpi (y := nI (tp + n)) (nI_add _ _) ?_
    refine lv_bipush (v := nI 80) hX.1 hX.2.1 d_Md_feed_21 (by decide) ?_
    refine kle hX (tgt := 30) (by omega) (by omega) d_Md_feed_23 (by decide) (fun h2 => ?_) (fun h2 => ?_)
    · refine lv_iconst (v := nI 0) hX.1 hX.2.1 d_Md_feed_30 (by decide) ?_
      refine kput hX hW i_Md t_Md t_Md_ok n_Md 0 rfl rfl 0 (by decide) f_Md_83 rfl rfl (rfl) (rfl) (Nat.le_of_ble_eq_true rfl) d_Md_feed_31 (fun H locs hW => ?_)
      have hW : KW D k A s [(md, .inr (8, [.int (nI 0), .int (nI tp), .ref (ad 2), .int (nM pl), .ref (ad 4), .ref (ad 5), .ref (ad 6), .ref (ad 7), .ref (ad 8), .ref (ad 9), .int (nI si), .ref (ad 11), .int (nI at1), .int (nM wr), .int (nI dp), .int (nI pa), .ref (ad 16), .ref (ad 17), .ref (ad 18), .int (nI le), .ref (ad 20), .ref (ad 21), .ref (ad 22), .ref (ad 23), .ref (ad 24), .ref (ad 25), .ref (ad 26), .ref (ad 27), .ref (ad 28), .ref (ad 29), .ref (ad 30)])), (ad 2, .inl (k 0, 80, .inl (aN TP)))] H locs := hW
      refine lv_aload_n hX.1 hX.2.1 d_Md_feed_34 rfl (lv_at hl 0 rfl) ?_
      refine kget hX hW i_Md 0 rfl rfl 0 (by decide) f_Md_83 rfl rfl d_Md_feed_35 ?_
      refine kleN hX (tgt := 43) (by decide) d_Md_feed_38 (by decide) (fun h3 => ?_) (fun h3 => ?_)
      · refine lv_iload_n hX.1 hX.2.1 d_Md_feed_43 rfl (lv_at hl 2 rfl) ?_
        refine lv_iconst (v := nI 1) hX.1 hX.2.1 d_Md_feed_44 (by decide) ?_
        refine lv_isub hX.1 hX.2.1 d_Md_feed_45 ?_
        refine tpi (y := nM n) (rfl) ?_
        refine lv_istore (lv' := [(4, .int (nM n)), (0, .ref md), (1, .long x), (3, .int (nI n))]) hX.1 hX.2.1 d_Md_feed_46 hl (by decide) rfl (fun ls hl => ?_)
        have lp : ∀ (fu : Nat) (j0 : Nat) (mm : Nat) (H : Heap) (locs : List Loc) (ls : Array Slot), (j0 + mm = n) → (j0 < fu) →  KW D k A s [(md, .inr (8, [.int (nI 0), .int (nI (tp + mm)), .ref (ad 2), .int (nM pl), .ref (ad 4), .ref (ad 5), .ref (ad 6), .ref (ad 7), .ref (ad 8), .ref (ad 9), .int (nI si), .ref (ad 11), .int (nI at1), .int (nM wr), .int (nI dp), .int (nI pa), .ref (ad 16), .ref (ad 17), .ref (ad 18), .int (nI le), .ref (ad 20), .ref (ad 21), .ref (ad 22), .ref (ad 23), .ref (ad 24), .ref (ad 25), .ref (ad 26), .ref (ad 27), .ref (ad 28), .ref (ad 29), .ref (ad 30)])), (ad 2, .inl (k 0, 80, .inl (aN (tpw TP tp x n mm))))] H locs → lv_has ls 5 [(4, .int (nM j0)), (3, .int (nI n)), (1, .long x), (0, .ref md)] → W p l e ({ frames := 1, cells := 0, slots := 0, locals := 22 } : Room) s m [.ref md, .long x, .int (nI n)].toArray below meth c H locs 0 0 Q (F0 m 48 ls []) := by
          intro fu
          induction fu with
          | zero => intro j0 mm H locs ls lp1 lp2 hW hl; exfalso; omega
          | succ fu ih =>
            intro j0 mm H locs ls lp1 lp2 hW hl
            refine lv_iload hX.1 hX.2.1 d_Md_feed_48 (lv_at hl 0 rfl) ?_
            refine kltM hX (tgt := 90) (by omega) d_Md_feed_50 (by decide) (fun h4 => ?_) (fun h4 => ?_)
            · have e3 : n = mm := by omega
              subst h4
              subst e3
              refine lv_aload_n hX.1 hX.2.1 d_Md_feed_90 rfl (lv_at hl 3 rfl) ?_
              refine kget hX hW i_Md 0 rfl rfl 1 (by decide) f_Md_90 rfl rfl d_Md_feed_91 ?_
              exact kiret hX hr hlocks hQ () (hW) (rfl) d_Md_feed_94
            · obtain ⟨j, rfl⟩ : ∃ j, j0 = j + 1 := ⟨j0 - 1, by omega⟩
              rw [nM_s] at hl
              refine lv_aload_n hX.1 hX.2.1 d_Md_feed_53 rfl (lv_at hl 3 rfl) ?_
              refine kget hX hW i_Md 0 rfl rfl 2 (by decide) f_Md_9 rfl rfl d_Md_feed_54 ?_
              refine lv_aload_n hX.1 hX.2.1 d_Md_feed_57 rfl (lv_at hl 3 rfl) ?_
              refine kget hX hW i_Md 0 rfl rfl 1 (by decide) f_Md_90 rfl rfl d_Md_feed_58 ?_
              refine lv_lload_n hX.1 hX.2.1 d_Md_feed_61 rfl (lv_at hl 2 rfl) ?_
              refine lv_bipush (v := nI 8) hX.1 hX.2.1 d_Md_feed_62 (by decide) ?_
              refine lv_iload hX.1 hX.2.1 d_Md_feed_64 (lv_at hl 0 rfl) ?_
              refine lv_imul hX.1 hX.2.1 d_Md_feed_66 ?_
              refine tpi (y := nI (8 * j)) (pk_mul _ _) ?_
              refine lv_lshr (v := x >>> ((nI (8 * j)).toInt64 &&& 63)) hX.1 hX.2.1 d_Md_feed_67 (rfl) ?_
              refine lv_l2i (v := (x >>> ((nI (8 * j)).toInt64 &&& 63)).toInt32) hX.1 hX.2.1 d_Md_feed_68 (rfl) ?_
              refine lv_sipush (v := nI 255) hX.1 hX.2.1 d_Md_feed_69 (by decide) ?_
              refine lv_iand hX.1 hX.2.1 d_Md_feed_72 ?_
              refine tpi (y := nI (byt x j)) (byt_s (by omega)) ?_
              refine kiast hX hW 1 rfl (by omega) (by first | decide | omega) d_Md_feed_73 (fun H locs hW => ?_)
              have hW : KW D k A s [(md, .inr (8, [.int (nI 0), .int (nI (tp + mm)), .ref (ad 2), .int (nM pl), .ref (ad 4), .ref (ad 5), .ref (ad 6), .ref (ad 7), .ref (ad 8), .ref (ad 9), .int (nI si), .ref (ad 11), .int (nI at1), .int (nM wr), .int (nI dp), .int (nI pa), .ref (ad 16), .ref (ad 17), .ref (ad 18), .int (nI le), .ref (ad 20), .ref (ad 21), .ref (ad 22), .ref (ad 23), .ref (ad 24), .ref (ad 25), .ref (ad 26), .ref (ad 27), .ref (ad 28), .ref (ad 29), .ref (ad 30)])), (ad 2, .inl (k 0, 80, .inl (aN (va_up (tpw TP tp x n mm) (tp + mm) (byt x j)))))] H locs := hW
              refine lv_aload_n hX.1 hX.2.1 d_Md_feed_74 rfl (lv_at hl 3 rfl) ?_
              refine lv_dup hX.1 hX.2.1 d_Md_feed_75 rfl ?_
              refine kget hX hW i_Md 0 rfl rfl 1 (by decide) f_Md_90 rfl rfl d_Md_feed_76 ?_
              refine lv_iconst (v := nI 1) hX.1 hX.2.1 d_Md_feed_79 (by decide) ?_
              refine lv_iadd hX.1 hX.2.1 d_Md_feed_80 ?_
              refine tpi (y := nI (tp + mm + 1)) (nI_1 _) ?_
              refine kput hX hW i_Md t_Md t_Md_ok n_Md 0 rfl rfl 1 (by decide) f_Md_90 rfl rfl (rfl) (rfl) (Nat.le_of_ble_eq_true rfl) d_Md_feed_81 (fun H locs hW => ?_)
              have hW : KW D k A s [(md, .inr (8, [.int (nI 0), .int (nI (tp + mm + 1)), .ref (ad 2), .int (nM pl), .ref (ad 4), .ref (ad 5), .ref (ad 6), .ref (ad 7), .ref (ad 8), .ref (ad 9), .int (nI si), .ref (ad 11), .int (nI at1), .int (nM wr), .int (nI dp), .int (nI pa), .ref (ad 16), .ref (ad 17), .ref (ad 18), .int (nI le), .ref (ad 20), .ref (ad 21), .ref (ad 22), .ref (ad 23), .ref (ad 24), .ref (ad 25), .ref (ad 26), .ref (ad 27), .ref (ad 28), .ref (ad 29), .ref (ad 30)])), (ad 2, .inl (k 0, 80, .inl (aN (va_up (tpw TP tp x n mm) (tp + mm) (byt x j)))))] H locs := hW
              refine lv_iinc (v := nM j) (lv' := [(4, .int (nM j)), (3, .int (nI n)), (1, .long x), (0, .ref md)]) hX.1 hX.2.1 d_Md_feed_84 hl (k := 0) rfl (kn_dec j) (by decide) rfl (fun ls hl => ?_)
              refine lv_goto (tgt := 48) hX.1 hX.2.1 d_Md_feed_87 (by decide) ?_
              have e1 : n - 1 - mm = j := by omega
              have hW : KW D k A s [(md, .inr (8, [.int (nI 0), .int (nI (tp + (mm + 1))), .ref (ad 2), .int (nM pl), .ref (ad 4), .ref (ad 5), .ref (ad 6), .ref (ad 7), .ref (ad 8), .ref (ad 9), .int (nI si), .ref (ad 11), .int (nI at1), .int (nM wr), .int (nI dp), .int (nI pa), .ref (ad 16), .ref (ad 17), .ref (ad 18), .int (nI le), .ref (ad 20), .ref (ad 21), .ref (ad 22), .ref (ad 23), .ref (ad 24), .ref (ad 25), .ref (ad 26), .ref (ad 27), .ref (ad 28), .ref (ad 29), .ref (ad 30)])), (ad 2, .inl (k 0, 80, .inl (aN (tpw TP tp x n (mm + 1)))))] H locs := by rw [tpw, e1]; exact hW
              exact ih j (mm + 1) H locs ls (by omega) (by omega) hW (lv_sub hl [0, 1, 2, 3] rfl)
        exact lp (n + 1) n 0 H locs ls (by omega) (by omega) hW (lv_sub hl [0, 3, 2, 1] rfl)
      · omega
    · omega
  · exact absurd h1 (by decide)
set_option maxHeartbeats 4000000 in
set_option maxRecDepth 100000 in
/-- letter(x), none such -/
theorem ok_Md_letterBad (l : Launch) (D : va_G) (k : Nat → ClassId) (sz : Nat) (md : Nat) (ad : Nat → Nat) (th tp pl si at1 wr dp pa le : Nat) (WD : Nat → Nat) (x0 : Int32) (hx : ¬ (nI 0 ≤ x0 ∧ x0 ≤ nM si)) : Met l y_Md_letter (.code y_Md_letter c_Md_letter 2 (some .int) :: wsU) ({ frames := 1, cells := 0, slots := 0, locals := 22 } : Room) (kPre D k [.ref md, .int x0] [(md, .inr (8, [.int (nI th), .int (nI tp), .ref (ad 2), .int (nM pl), .ref (ad 4), .ref (ad 5), .ref (ad 6), .ref (ad 7), .ref (ad 8), .ref (ad 9), .int (nI si), .ref (ad 11), .int (nI at1), .int (nM wr), .int (nI dp), .int (nI pa), .ref (ad 16), .ref (ad 17), .ref (ad 18), .int (nI le), .ref (ad 20), .ref (ad 21), .ref (ad 22), .ref (ad 23), .ref (ad 24), .ref (ad 25), .ref (ad 26), .ref (ad 27), .ref (ad 28), .ref (ad 29), .ref (ad 30)])), (ad 11, .inl (k 0, 2400, .inl (aN WD)))] sz) (va_Qi (fun (r : Int32) (_ : Unit) => r = nI 0) (kB D k (fun _ : Unit => [(md, .inr (8, [.int (nI 1), .int (nI tp), .ref (ad 2), .int (nM pl), .ref (ad 4), .ref (ad 5), .ref (ad 6), .ref (ad 7), .ref (ad 8), .ref (ad 9), .int (nI si), .ref (ad 11), .int (nI at1), .int (nM wr), .int (nI dp), .int (nI pa), .ref (ad 16), .ref (ad 17), .ref (ad 18), .int (nI le), .ref (ad 20), .ref (ad 21), .ref (ad 22), .ref (ad 23), .ref (ad 24), .ref (ad 25), .ref (ad 26), .ref (ad 27), .ref (ad 28), .ref (ad 29), .ref (ad 30)])), (ad 11, .inl (k 0, 2400, .inl (aN WD)))]) (va_A [(md, .inr (8, [.int (nI th), .int (nI tp), .ref (ad 2), .int (nM pl), .ref (ad 4), .ref (ad 5), .ref (ad 6), .ref (ad 7), .ref (ad 8), .ref (ad 9), .int (nI si), .ref (ad 11), .int (nI at1), .int (nM wr), .int (nI dp), .int (nI pa), .ref (ad 16), .ref (ad 17), .ref (ad 18), .int (nI le), .ref (ad 20), .ref (ad 21), .ref (ad 22), .ref (ad 23), .ref (ad 24), .ref (ad 25), .ref (ad 26), .ref (ad 27), .ref (ad 28), .ref (ad 29), .ref (ad 30)])), (ad 11, .inl (k 0, 2400, .inl (aN WD)))] sz)) (va_A [(md, .inr (8, [.int (nI th), .int (nI tp), .ref (ad 2), .int (nM pl), .ref (ad 4), .ref (ad 5), .ref (ad 6), .ref (ad 7), .ref (ad 8), .ref (ad 9), .int (nI si), .ref (ad 11), .int (nI at1), .int (nM wr), .int (nI dp), .int (nI pa), .ref (ad 16), .ref (ad 17), .ref (ad 18), .int (nI le), .ref (ad 20), .ref (ad 21), .ref (ad 22), .ref (ad 23), .ref (ad 24), .ref (ad 25), .ref (ad 26), .ref (ad 27), .ref (ad 28), .ref (ad 29), .ref (ad 30)])), (ad 11, .inl (k 0, 2400, .inl (aN WD)))] sz)) 0 0 (va_A [(md, .inr (8, [.int (nI th), .int (nI tp), .ref (ad 2), .int (nM pl), .ref (ad 4), .ref (ad 5), .ref (ad 6), .ref (ad 7), .ref (ad 8), .ref (ad 9), .int (nI si), .ref (ad 11), .int (nI at1), .int (nM wr), .int (nI dp), .int (nI pa), .ref (ad 16), .ref (ad 17), .ref (ad 18), .int (nI le), .ref (ad 20), .ref (ad 21), .ref (ad 22), .ref (ad 23), .ref (ad 24), .ref (ad 25), .ref (ad 26), .ref (ad 27), .ref (ad 28), .ref (ad 29), .ref (ad 30)])), (ad 11, .inl (k 0, 2400, .inl (aN WD)))] sz) := by
  refine kMet (by decide) (Nat.le_of_ble_eq_true rfl) ?_
  intro p e s m below meth c ls hX hml hr hlocks hin hsz hW hl Q hQ
  generalize hAe : va_A [(md, .inr (8, [.int (nI th), .int (nI tp), .ref (ad 2), .int (nM pl), .ref (ad 4), .ref (ad 5), .ref (ad 6), .ref (ad 7), .ref (ad 8), .ref (ad 9), .int (nI si), .ref (ad 11), .int (nI at1), .int (nM wr), .int (nI dp), .int (nI pa), .ref (ad 16), .ref (ad 17), .ref (ad 18), .int (nI le), .ref (ad 20), .ref (ad 21), .ref (ad 22), .ref (ad 23), .ref (ad 24), .ref (ad 25), .ref (ad 26), .ref (ad 27), .ref (ad 28), .ref (ad 29), .ref (ad 30)])), (ad 11, .inl (k 0, 2400, .inl (aN WD)))] sz = A at hW hQ
  generalize hH0 : s.heap = H at hW ⊢
  generalize hl0 : ([] : List Loc) = locs at hW ⊢
  have hX : FX p s m c [.ref md, .int x0].toArray c_Md_letter R_Md := hX
  have hl : lv_has ls 2 [(0, .ref md), (1, .int x0)] := hl
  refine lv_aload_n hX.1 hX.2.1 d_Md_letter_0 rfl (lv_at hl 0 rfl) ?_
  refine lv_iload_n hX.1 hX.2.1 d_Md_letter_1 rfl (lv_at hl 1 rfl) ?_
  refine lv_iconst (v := nI 0) hX.1 hX.2.1 d_Md_letter_2 (by decide) ?_
  refine lv_aload_n hX.1 hX.2.1 d_Md_letter_3 rfl (lv_at hl 0 rfl) ?_
  refine kget hX hW i_Md 0 rfl rfl 10 (by decide) f_Md_154 rfl rfl d_Md_letter_4 ?_
  refine lv_iconst (v := nI 1) hX.1 hX.2.1 d_Md_letter_7 (by decide) ?_
  refine lv_isub hX.1 hX.2.1 d_Md_letter_8 ?_
  refine tpi (y := nM si) (rfl) ?_
  refine kCi (wc := []) hW [] (by rfl) (by intro _; rfl) (kRunS (n := 3) (As := [.int x0, .int (nI 0), .int (nM si)]) (rest := [.ref md]) hX hml hW (ok_Md_in l D k H.size x0 (nI 0) (nM si)) m_Md_86 sm_Md_in in_Md cd_Md_in [] rfl rfl (by decide +kernel) ⟨rfl, rfl, Nat.le_of_ble_eq_true rfl, Nat.le_of_ble_eq_true rfl⟩ rfl hl.1 rfl (Nat.le_of_ble_eq_true rfl) d_Md_letter_9 ⟨by first | exact Nat.zero_le _ | decide | omega | (dsimp only; omega), by first | exact Nat.zero_le _ | decide | omega | (dsimp only; omega)⟩) (fun r u H locs hr1 hW => ?_)
  have hW : KW D k A s [(md, .inr (8, [.int (nI th), .int (nI tp), .ref (ad 2), .int (nM pl), .ref (ad 4), .ref (ad 5), .ref (ad 6), .ref (ad 7), .ref (ad 8), .ref (ad 9), .int (nI si), .ref (ad 11), .int (nI at1), .int (nM wr), .int (nI dp), .int (nI pa), .ref (ad 16), .ref (ad 17), .ref (ad 18), .int (nI le), .ref (ad 20), .ref (ad 21), .ref (ad 22), .ref (ad 23), .ref (ad 24), .ref (ad 25), .ref (ad 26), .ref (ad 27), .ref (ad 28), .ref (ad 29), .ref (ad 30)])), (ad 11, .inl (k 0, 2400, .inl (aN WD)))] H locs := hW
  rw [in_no hx] at hr1
  subst hr1
  refine kz hX (tgt := 19) (by decide) d_Md_letter_12 (by decide) (fun h1 => ?_) (fun h1 => ?_)
  · refine lv_iconst (v := nI 1) hX.1 hX.2.1 d_Md_letter_19 (by decide) ?_
    refine kput hX hW i_Md t_Md t_Md_ok n_Md 0 rfl rfl 0 (by decide) f_Md_83 rfl rfl (rfl) (rfl) (Nat.le_of_ble_eq_true rfl) d_Md_letter_20 (fun H locs hW => ?_)
    have hW : KW D k A s [(md, .inr (8, [.int (nI 1), .int (nI tp), .ref (ad 2), .int (nM pl), .ref (ad 4), .ref (ad 5), .ref (ad 6), .ref (ad 7), .ref (ad 8), .ref (ad 9), .int (nI si), .ref (ad 11), .int (nI at1), .int (nM wr), .int (nI dp), .int (nI pa), .ref (ad 16), .ref (ad 17), .ref (ad 18), .int (nI le), .ref (ad 20), .ref (ad 21), .ref (ad 22), .ref (ad 23), .ref (ad 24), .ref (ad 25), .ref (ad 26), .ref (ad 27), .ref (ad 28), .ref (ad 29), .ref (ad 30)])), (ad 11, .inl (k 0, 2400, .inl (aN WD)))] H locs := hW
    refine lv_aload_n hX.1 hX.2.1 d_Md_letter_23 rfl (lv_at hl 0 rfl) ?_
    refine kget hX hW i_Md 0 rfl rfl 0 (by decide) f_Md_83 rfl rfl d_Md_letter_24 ?_
    refine kleN hX (tgt := 34) (by decide) d_Md_letter_27 (by decide) (fun h2 => ?_) (fun h2 => ?_)
    · omega
    · refine lv_iconst (v := nI 0) hX.1 hX.2.1 d_Md_letter_30 (by decide) ?_
      refine lv_goto (tgt := 40) hX.1 hX.2.1 d_Md_letter_31 (by decide) ?_
      exact kiret hX hr hlocks hQ () (hW) (rfl) d_Md_letter_40
  · exact absurd rfl h1
set_option maxHeartbeats 4000000 in
set_option maxRecDepth 100000 in
/-- letter(j) -/
theorem ok_Md_letter (l : Launch) (D : va_G) (k : Nat → ClassId) (sz : Nat) (md : Nat) (ad : Nat → Nat) (th tp pl si at1 wr dp pa le : Nat) (WD : Nat → Nat) (j : Nat) (hj : j < si) (hsi : si ≤ 2400) : Met l y_Md_letter (.code y_Md_letter c_Md_letter 2 (some .int) :: wsU) ({ frames := 1, cells := 0, slots := 0, locals := 22 } : Room) (kPre D k [.ref md, .int (nI j)] [(md, .inr (8, [.int (nI th), .int (nI tp), .ref (ad 2), .int (nM pl), .ref (ad 4), .ref (ad 5), .ref (ad 6), .ref (ad 7), .ref (ad 8), .ref (ad 9), .int (nI si), .ref (ad 11), .int (nI at1), .int (nM wr), .int (nI dp), .int (nI pa), .ref (ad 16), .ref (ad 17), .ref (ad 18), .int (nI le), .ref (ad 20), .ref (ad 21), .ref (ad 22), .ref (ad 23), .ref (ad 24), .ref (ad 25), .ref (ad 26), .ref (ad 27), .ref (ad 28), .ref (ad 29), .ref (ad 30)])), (ad 11, .inl (k 0, 2400, .inl (aN WD)))] sz) (va_Qi (fun (r : Int32) (_ : Unit) => r = nI (WD j)) (kB D k (fun _ : Unit => [(md, .inr (8, [.int (nI 0), .int (nI tp), .ref (ad 2), .int (nM pl), .ref (ad 4), .ref (ad 5), .ref (ad 6), .ref (ad 7), .ref (ad 8), .ref (ad 9), .int (nI si), .ref (ad 11), .int (nI at1), .int (nM wr), .int (nI dp), .int (nI pa), .ref (ad 16), .ref (ad 17), .ref (ad 18), .int (nI le), .ref (ad 20), .ref (ad 21), .ref (ad 22), .ref (ad 23), .ref (ad 24), .ref (ad 25), .ref (ad 26), .ref (ad 27), .ref (ad 28), .ref (ad 29), .ref (ad 30)])), (ad 11, .inl (k 0, 2400, .inl (aN WD)))]) (va_A [(md, .inr (8, [.int (nI th), .int (nI tp), .ref (ad 2), .int (nM pl), .ref (ad 4), .ref (ad 5), .ref (ad 6), .ref (ad 7), .ref (ad 8), .ref (ad 9), .int (nI si), .ref (ad 11), .int (nI at1), .int (nM wr), .int (nI dp), .int (nI pa), .ref (ad 16), .ref (ad 17), .ref (ad 18), .int (nI le), .ref (ad 20), .ref (ad 21), .ref (ad 22), .ref (ad 23), .ref (ad 24), .ref (ad 25), .ref (ad 26), .ref (ad 27), .ref (ad 28), .ref (ad 29), .ref (ad 30)])), (ad 11, .inl (k 0, 2400, .inl (aN WD)))] sz)) (va_A [(md, .inr (8, [.int (nI th), .int (nI tp), .ref (ad 2), .int (nM pl), .ref (ad 4), .ref (ad 5), .ref (ad 6), .ref (ad 7), .ref (ad 8), .ref (ad 9), .int (nI si), .ref (ad 11), .int (nI at1), .int (nM wr), .int (nI dp), .int (nI pa), .ref (ad 16), .ref (ad 17), .ref (ad 18), .int (nI le), .ref (ad 20), .ref (ad 21), .ref (ad 22), .ref (ad 23), .ref (ad 24), .ref (ad 25), .ref (ad 26), .ref (ad 27), .ref (ad 28), .ref (ad 29), .ref (ad 30)])), (ad 11, .inl (k 0, 2400, .inl (aN WD)))] sz)) 0 0 (va_A [(md, .inr (8, [.int (nI th), .int (nI tp), .ref (ad 2), .int (nM pl), .ref (ad 4), .ref (ad 5), .ref (ad 6), .ref (ad 7), .ref (ad 8), .ref (ad 9), .int (nI si), .ref (ad 11), .int (nI at1), .int (nM wr), .int (nI dp), .int (nI pa), .ref (ad 16), .ref (ad 17), .ref (ad 18), .int (nI le), .ref (ad 20), .ref (ad 21), .ref (ad 22), .ref (ad 23), .ref (ad 24), .ref (ad 25), .ref (ad 26), .ref (ad 27), .ref (ad 28), .ref (ad 29), .ref (ad 30)])), (ad 11, .inl (k 0, 2400, .inl (aN WD)))] sz) := by
  refine kMet (by decide) (Nat.le_of_ble_eq_true rfl) ?_
  intro p e s m below meth c ls hX hml hr hlocks hin hsz hW hl Q hQ
  generalize hAe : va_A [(md, .inr (8, [.int (nI th), .int (nI tp), .ref (ad 2), .int (nM pl), .ref (ad 4), .ref (ad 5), .ref (ad 6), .ref (ad 7), .ref (ad 8), .ref (ad 9), .int (nI si), .ref (ad 11), .int (nI at1), .int (nM wr), .int (nI dp), .int (nI pa), .ref (ad 16), .ref (ad 17), .ref (ad 18), .int (nI le), .ref (ad 20), .ref (ad 21), .ref (ad 22), .ref (ad 23), .ref (ad 24), .ref (ad 25), .ref (ad 26), .ref (ad 27), .ref (ad 28), .ref (ad 29), .ref (ad 30)])), (ad 11, .inl (k 0, 2400, .inl (aN WD)))] sz = A at hW hQ
  generalize hH0 : s.heap = H at hW ⊢
  generalize hl0 : ([] : List Loc) = locs at hW ⊢
  have hX : FX p s m c [.ref md, .int (nI j)].toArray c_Md_letter R_Md := hX
  have hl : lv_has ls 2 [(0, .ref md), (1, .int (nI j))] := hl
  refine lv_aload_n hX.1 hX.2.1 d_Md_letter_0 rfl (lv_at hl 0 rfl) ?_
  refine lv_iload_n hX.1 hX.2.1 d_Md_letter_1 rfl (lv_at hl 1 rfl) ?_
  refine lv_iconst (v := nI 0) hX.1 hX.2.1 d_Md_letter_2 (by decide) ?_
  refine lv_aload_n hX.1 hX.2.1 d_Md_letter_3 rfl (lv_at hl 0 rfl) ?_
  refine kget hX hW i_Md 0 rfl rfl 10 (by decide) f_Md_154 rfl rfl d_Md_letter_4 ?_
  refine lv_iconst (v := nI 1) hX.1 hX.2.1 d_Md_letter_7 (by decide) ?_
  refine lv_isub hX.1 hX.2.1 d_Md_letter_8 ?_
  refine tpi (y := nM si) (rfl) ?_
  obtain ⟨s9, hs9⟩ : ∃ s9, si = s9 + 1 := ⟨si - 1, by omega⟩
  refine kCi (wc := []) hW [] (by rfl) (by intro _; rfl) (kRunS (n := 3) (As := [.int (nI j), .int (nI 0), .int (nM si)]) (rest := [.ref md]) hX hml hW (ok_Md_in l D k H.size (nI j) (nI 0) (nM si)) m_Md_86 sm_Md_in in_Md cd_Md_in [] rfl rfl (by decide +kernel) ⟨rfl, rfl, Nat.le_of_ble_eq_true rfl, Nat.le_of_ble_eq_true rfl⟩ rfl hl.1 rfl (Nat.le_of_ble_eq_true rfl) d_Md_letter_9 ⟨by first | exact Nat.zero_le _ | decide | omega | (dsimp only; omega), by first | exact Nat.zero_le _ | decide | omega | (dsimp only; omega)⟩) (fun r u H locs hr1 hW => ?_)
  have hW : KW D k A s [(md, .inr (8, [.int (nI th), .int (nI tp), .ref (ad 2), .int (nM pl), .ref (ad 4), .ref (ad 5), .ref (ad 6), .ref (ad 7), .ref (ad 8), .ref (ad 9), .int (nI si), .ref (ad 11), .int (nI at1), .int (nM wr), .int (nI dp), .int (nI pa), .ref (ad 16), .ref (ad 17), .ref (ad 18), .int (nI le), .ref (ad 20), .ref (ad 21), .ref (ad 22), .ref (ad 23), .ref (ad 24), .ref (ad 25), .ref (ad 26), .ref (ad 27), .ref (ad 28), .ref (ad 29), .ref (ad 30)])), (ad 11, .inl (k 0, 2400, .inl (aN WD)))] H locs := hW
  rw [hs9, nM_s, in_n (by omega) (by decide) (by omega) (Nat.zero_le _) (by omega)] at hr1
  subst hr1
  refine kz hX (tgt := 19) (by decide) d_Md_letter_12 (by decide) (fun h1 => ?_) (fun h1 => ?_)
  · exact absurd h1 (by decide)
  · refine lv_iconst (v := nI 0) hX.1 hX.2.1 d_Md_letter_15 (by decide) ?_
    refine lv_goto (tgt := 20) hX.1 hX.2.1 d_Md_letter_16 (by decide) ?_
    refine kput hX hW i_Md t_Md t_Md_ok n_Md 0 rfl rfl 0 (by decide) f_Md_83 rfl rfl (rfl) (rfl) (Nat.le_of_ble_eq_true rfl) d_Md_letter_20 (fun H locs hW => ?_)
    have hW : KW D k A s [(md, .inr (8, [.int (nI 0), .int (nI tp), .ref (ad 2), .int (nM pl), .ref (ad 4), .ref (ad 5), .ref (ad 6), .ref (ad 7), .ref (ad 8), .ref (ad 9), .int (nI si), .ref (ad 11), .int (nI at1), .int (nM wr), .int (nI dp), .int (nI pa), .ref (ad 16), .ref (ad 17), .ref (ad 18), .int (nI le), .ref (ad 20), .ref (ad 21), .ref (ad 22), .ref (ad 23), .ref (ad 24), .ref (ad 25), .ref (ad 26), .ref (ad 27), .ref (ad 28), .ref (ad 29), .ref (ad 30)])), (ad 11, .inl (k 0, 2400, .inl (aN WD)))] H locs := hW
    refine lv_aload_n hX.1 hX.2.1 d_Md_letter_23 rfl (lv_at hl 0 rfl) ?_
    refine kget hX hW i_Md 0 rfl rfl 0 (by decide) f_Md_83 rfl rfl d_Md_letter_24 ?_
    refine kleN hX (tgt := 34) (by decide) d_Md_letter_27 (by decide) (fun h2 => ?_) (fun h2 => ?_)
    · refine lv_aload_n hX.1 hX.2.1 d_Md_letter_34 rfl (lv_at hl 0 rfl) ?_
      refine kget hX hW i_Md 0 rfl rfl 11 (by decide) f_Md_36 rfl rfl d_Md_letter_35 ?_
      refine lv_iload_n hX.1 hX.2.1 d_Md_letter_38 rfl (lv_at hl 1 rfl) ?_
      refine kiald hX hW 1 rfl (by omega) (by first | decide | omega) d_Md_letter_39 ?_
      exact kiret hX hr hlocks hQ () (hW) (rfl) d_Md_letter_40
    · omega
