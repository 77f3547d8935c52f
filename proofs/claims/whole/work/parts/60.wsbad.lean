/-! WORDSETS: the calls that are refused -/
theorem xb1 : ∀ w ∈ xA1.filter (fun w => !goodWord w), w ∈ xB := fun w h => List.mem_append_left _ h
theorem xb2 : ∀ w ∈ xA2.filter (fun w => !goodWord w), w ∈ xB := fun w h => List.mem_append_right _ (List.mem_append_left _ h)
theorem xb3 : ∀ w ∈ xA3.filter (fun w => !goodWord w), w ∈ xB := fun w h => List.mem_append_right _ (List.mem_append_right _ h)
theorem i32_r {x : Int32} {hi : Nat} (hh : hi < 2 ^ 31) (h1 : ¬ x < 0) (h2 : x ≤ nI hi) : ∃ a, a ≤ hi ∧ x = nI a := nI_of2 (nI_toInt hh) h1 h2
theorem isl_nat {x : Int32} (h : isl x = true) : ∃ a, a < 4 ∧ x = nI a := by
  obtain ⟨h1, h2⟩ := of_decide_eq_true h
  obtain ⟨a, ha, e⟩ := i32_r (hi := 3) (by decide) (Int32.not_lt.mpr h1) h2
  exact ⟨a, by omega, e⟩
theorem len_nat {x : Int32} (h : decide (nI 0 ≤ x ∧ x ≤ nI 30) = true) : ∃ a, a ≤ 30 ∧ x = nI a := by
  obtain ⟨h1, h2⟩ := of_decide_eq_true h
  exact i32_r (hi := 30) (by decide) (Int32.not_lt.mpr h1) h2
theorem i32_lt4 {x : Int32} (h1 : ¬ x < 0) (h2 : x < nI 4) : isl x = true := by
  obtain ⟨a, ha, e⟩ := i32_r (hi := 4) (by decide) h1 (Int32.le_of_lt h2)
  subst e
  have : a < 4 := (nI_ltI (by omega) (by decide)).mp h2
  exact isl_n this
set_option maxHeartbeats 4000000 in
set_option maxRecDepth 100000 in
/-- checkSlot, refused -/
theorem ok_Ws_checkSlotBad (l : Launch) (hl0 : l.stackTraces = false) (D : va_G) (k : Nat → ClassId) (sz : Nat) (x : Int32) (hx : isl x = false) : vx_Met l y_Ws_checkSlot (.code y_Ws_checkSlot c_Ws_checkSlot 1 none :: wsU) ({ frames := 6, cells := 1, slots := 6, locals := 82 } : Room) (kPreX D k [.int x] [] sz) noQ (xC D k xIA [] (va_A [] sz)) 1 6 (va_A [] sz) := by
  refine kMetX (by decide) (Nat.le_of_ble_eq_true rfl) ?_
  intro p e s m below meth c ls hO hZ hout hX hml hr hlocks hsz hW hl
  generalize hAe : va_A [] sz = A at hW hZ ⊢
  have hS0 : s.heap.size = sz := hsz
  have hX : FX p s m c [.int x].toArray c_Ws_checkSlot R_Ws := hX
  have hl : lv_has ls 1 [(0, .int x)] := hl
  have hW : KW D k A s [] s.heap [] := hW
  generalize hQe : vx_MQ below noQ (xC D k xIA [] A) [.int x].toArray s 1 6 A = Q
  have hthrow := hQe
  generalize hH0 : s.heap = H at hW ⊢
  generalize hl1 : ([] : List Loc) = locs at hW ⊢
  refine lv_iload_n hX.1 hX.2.1 d_Ws_checkSlot_0 rfl (lv_at hl 0 rfl) ?_
  refine lv_if_lt (tgt := 9) hX.1 hX.2.1 d_Ws_checkSlot_1 (by decide) (fun h1 => ?_) (fun h1 => ?_)
  · rw [← hthrow]
    exact kthrow (L := xA1) (text := "no such slot") rfl hl0 hX hO hZ hW hout (hml.trans hl.1.symm) hlocks (by decide) k_Ws_62 xk2 xg1 xb1 xo1 (hO.2.2.2.2.2.2.2.1) d_Ws_checkSlot_9 d_Ws_checkSlot_12 d_Ws_checkSlot_13 d_Ws_checkSlot_15 d_Ws_checkSlot_18 (by decide) (by decide) (by first | decide | omega) (by first | decide | omega) (by first | decide | omega) (by first | decide | omega)
  · refine lv_iload_n hX.1 hX.2.1 d_Ws_checkSlot_4 rfl (lv_at hl 0 rfl) ?_
    refine lv_iconst (v := nI 4) hX.1 hX.2.1 d_Ws_checkSlot_5 (by decide) ?_
    refine lv_icmp_lt (tgt := 19) hX.1 hX.2.1 d_Ws_checkSlot_6 (by decide) (fun h2 => ?_) (fun h2 => ?_)
    · exact absurd (i32_lt4 h1 h2) (by rw [hx]; decide)
    · rw [← hthrow]
      exact kthrow (L := xA1) (text := "no such slot") rfl hl0 hX hO hZ hW hout (hml.trans hl.1.symm) hlocks (by decide) k_Ws_62 xk2 xg1 xb1 xo1 (hO.2.2.2.2.2.2.2.1) d_Ws_checkSlot_9 d_Ws_checkSlot_12 d_Ws_checkSlot_13 d_Ws_checkSlot_15 d_Ws_checkSlot_18 (by decide) (by decide) (by first | decide | omega) (by first | decide | omega) (by first | decide | omega) (by first | decide | omega)
set_option maxHeartbeats 4000000 in
set_option maxRecDepth 100000 in
/-- checkLength, refused -/
theorem ok_Ws_checkLengthBad (l : Launch) (hl0 : l.stackTraces = false) (D : va_G) (k : Nat → ClassId) (sz : Nat) (x : Int32) (hx : decide (nI 0 ≤ x ∧ x ≤ nI 30) = false) : vx_Met l y_Ws_checkLength (.code y_Ws_checkLength c_Ws_checkLength 1 none :: wsU) ({ frames := 6, cells := 1, slots := 6, locals := 82 } : Room) (kPreX D k [.int x] [] sz) noQ (xC D k xIA [] (va_A [] sz)) 1 6 (va_A [] sz) := by
  refine kMetX (by decide) (Nat.le_of_ble_eq_true rfl) ?_
  intro p e s m below meth c ls hO hZ hout hX hml hr hlocks hsz hW hl
  generalize hAe : va_A [] sz = A at hW hZ ⊢
  have hS0 : s.heap.size = sz := hsz
  have hX : FX p s m c [.int x].toArray c_Ws_checkLength R_Ws := hX
  have hl : lv_has ls 1 [(0, .int x)] := hl
  have hW : KW D k A s [] s.heap [] := hW
  generalize hQe : vx_MQ below noQ (xC D k xIA [] A) [.int x].toArray s 1 6 A = Q
  have hthrow := hQe
  generalize hH0 : s.heap = H at hW ⊢
  generalize hl1 : ([] : List Loc) = locs at hW ⊢
  refine lv_iload_n hX.1 hX.2.1 d_Ws_checkLength_0 rfl (lv_at hl 0 rfl) ?_
  refine lv_if_lt (tgt := 10) hX.1 hX.2.1 d_Ws_checkLength_1 (by decide) (fun h1 => ?_) (fun h1 => ?_)
  · rw [← hthrow]
    exact kthrow (L := xA1) (text := "no such length") rfl hl0 hX hO hZ hW hout (hml.trans hl.1.symm) hlocks (by decide) k_Ws_62 xk2 xg1 xb1 xo1 (hO.2.2.2.2.2.2.2.2.1) d_Ws_checkLength_10 d_Ws_checkLength_13 d_Ws_checkLength_14 d_Ws_checkLength_16 d_Ws_checkLength_19 (by decide) (by decide) (by first | decide | omega) (by first | decide | omega) (by first | decide | omega) (by first | decide | omega)
  · refine lv_iload_n hX.1 hX.2.1 d_Ws_checkLength_4 rfl (lv_at hl 0 rfl) ?_
    refine lv_bipush (v := nI 30) hX.1 hX.2.1 d_Ws_checkLength_5 (by decide) ?_
    refine lv_icmp_le (tgt := 20) hX.1 hX.2.1 d_Ws_checkLength_7 (by decide) (fun h2 => ?_) (fun h2 => ?_)
    · exact absurd (⟨Int32.not_lt.mp h1, h2⟩ : nI 0 ≤ x ∧ x ≤ nI 30) (of_decide_eq_false hx)
    · rw [← hthrow]
      exact kthrow (L := xA1) (text := "no such length") rfl hl0 hX hO hZ hW hout (hml.trans hl.1.symm) hlocks (by decide) k_Ws_62 xk2 xg1 xb1 xo1 (hO.2.2.2.2.2.2.2.2.1) d_Ws_checkLength_10 d_Ws_checkLength_13 d_Ws_checkLength_14 d_Ws_checkLength_16 d_Ws_checkLength_19 (by decide) (by decide) (by first | decide | omega) (by first | decide | omega) (by first | decide | omega) (by first | decide | omega)
set_option maxHeartbeats 4000000 in
set_option maxRecDepth 100000 in
/-- least, refused -/
theorem ok_Ws_leastBad (l : Launch) (hl0 : l.stackTraces = false) (D : va_G) (k : Nat → ClassId) (sz : Nat) (wz ta sv no pr ma se wo sp1 wa : Nat) (x : Int32) (hx : isl x = false) : vx_Met l y_Ws_least (.code y_Ws_least c_Ws_least 3 (some .int) :: wsU) ({ frames := 7, cells := 1, slots := 6, locals := 140 } : Room) (kPreX D k [.ref wz, .int x] [(wz, .inr (7, [.ref ta, .ref sv, .ref no, .ref pr, .ref ma, .ref se, .ref wo, .ref sp1, .int (nM wa)]))] sz) noQ (xC D k xIA [(wz, .inr (7, [.ref ta, .ref sv, .ref no, .ref pr, .ref ma, .ref se, .ref wo, .ref sp1, .int (nM wa)]))] (va_A [(wz, .inr (7, [.ref ta, .ref sv, .ref no, .ref pr, .ref ma, .ref se, .ref wo, .ref sp1, .int (nM wa)]))] sz)) 1 6 (va_A [(wz, .inr (7, [.ref ta, .ref sv, .ref no, .ref pr, .ref ma, .ref se, .ref wo, .ref sp1, .int (nM wa)]))] sz) := by
  refine kMetX (by decide) (Nat.le_of_ble_eq_true rfl) ?_
  intro p e s m below meth c ls hO hZ hout hX hml hr hlocks hsz hW hl
  generalize hAe : va_A [(wz, .inr (7, [.ref ta, .ref sv, .ref no, .ref pr, .ref ma, .ref se, .ref wo, .ref sp1, .int (nM wa)]))] sz = A at hW hZ ⊢
  have hS0 : s.heap.size = sz := hsz
  have hX : FX p s m c [.ref wz, .int x].toArray c_Ws_least R_Ws := hX
  have hl : lv_has ls 3 [(0, .ref wz), (1, .int x)] := hl
  have hW : KW D k A s [(wz, .inr (7, [.ref ta, .ref sv, .ref no, .ref pr, .ref ma, .ref se, .ref wo, .ref sp1, .int (nM wa)]))] s.heap [] := hW
  generalize hQe : vx_MQ below noQ (xC D k xIA [(wz, .inr (7, [.ref ta, .ref sv, .ref no, .ref pr, .ref ma, .ref se, .ref wo, .ref sp1, .int (nM wa)]))] A) [.ref wz, .int x].toArray s 1 6 A = Q
  have hthrow := hQe
  generalize hH0 : s.heap = H at hW ⊢
  generalize hl1 : ([] : List Loc) = locs at hW ⊢
  refine lv_iload_n hX.1 hX.2.1 d_Ws_least_0 rfl (lv_at hl 1 rfl) ?_
  rw [← hthrow]
  exact kxgo (w1 := []) (wc := []) (E0 := xIA) hW [] rfl rfl (kxRunS (n := 1) (As := [.int x]) (rest := []) hX hO hZ hml hW (ok_Ws_checkSlotBad l hl0 D k H.size x hx) m_Ws_85 sm_Ws_checkSlot in_Ws cd_Ws_checkSlot [] rfl rfl (by decide +kernel) ⟨rfl, rfl, Nat.le_of_ble_eq_true rfl, Nat.le_of_ble_eq_true rfl⟩ rfl hl.1 rfl (Nat.le_of_ble_eq_true rfl) d_Ws_least_1 ⟨by first | decide | omega, by first | decide | omega⟩) (fun ce q9 H locs hW hc1 hc2 hc3 => kxout hout hlocks hW hc1 hc2 hc3 (by first | decide | omega) (by first | decide | omega))
set_option maxHeartbeats 4000000 in
set_option maxRecDepth 100000 in
/-- states, refused -/
theorem ok_Ws_statesBad (l : Launch) (hl0 : l.stackTraces = false) (D : va_G) (k : Nat → ClassId) (sz : Nat) (wz ta sv no pr ma se wo sp1 wa : Nat) (x : Int32) (hx : isl x = false) : vx_Met l y_Ws_states (.code y_Ws_states c_Ws_states 2 (some .int) :: wsU) ({ frames := 7, cells := 1, slots := 6, locals := 140 } : Room) (kPreX D k [.ref wz, .int x] [(wz, .inr (7, [.ref ta, .ref sv, .ref no, .ref pr, .ref ma, .ref se, .ref wo, .ref sp1, .int (nM wa)]))] sz) noQ (xC D k xIA [(wz, .inr (7, [.ref ta, .ref sv, .ref no, .ref pr, .ref ma, .ref se, .ref wo, .ref sp1, .int (nM wa)]))] (va_A [(wz, .inr (7, [.ref ta, .ref sv, .ref no, .ref pr, .ref ma, .ref se, .ref wo, .ref sp1, .int (nM wa)]))] sz)) 1 6 (va_A [(wz, .inr (7, [.ref ta, .ref sv, .ref no, .ref pr, .ref ma, .ref se, .ref wo, .ref sp1, .int (nM wa)]))] sz) := by
  refine kMetX (by decide) (Nat.le_of_ble_eq_true rfl) ?_
  intro p e s m below meth c ls hO hZ hout hX hml hr hlocks hsz hW hl
  generalize hAe : va_A [(wz, .inr (7, [.ref ta, .ref sv, .ref no, .ref pr, .ref ma, .ref se, .ref wo, .ref sp1, .int (nM wa)]))] sz = A at hW hZ ⊢
  have hS0 : s.heap.size = sz := hsz
  have hX : FX p s m c [.ref wz, .int x].toArray c_Ws_states R_Ws := hX
  have hl : lv_has ls 2 [(0, .ref wz), (1, .int x)] := hl
  have hW : KW D k A s [(wz, .inr (7, [.ref ta, .ref sv, .ref no, .ref pr, .ref ma, .ref se, .ref wo, .ref sp1, .int (nM wa)]))] s.heap [] := hW
  generalize hQe : vx_MQ below noQ (xC D k xIA [(wz, .inr (7, [.ref ta, .ref sv, .ref no, .ref pr, .ref ma, .ref se, .ref wo, .ref sp1, .int (nM wa)]))] A) [.ref wz, .int x].toArray s 1 6 A = Q
  have hthrow := hQe
  generalize hH0 : s.heap = H at hW ⊢
  generalize hl1 : ([] : List Loc) = locs at hW ⊢
  refine lv_iload_n hX.1 hX.2.1 d_Ws_states_0 rfl (lv_at hl 1 rfl) ?_
  rw [← hthrow]
  exact kxgo (w1 := []) (wc := []) (E0 := xIA) hW [] rfl rfl (kxRunS (n := 1) (As := [.int x]) (rest := []) hX hO hZ hml hW (ok_Ws_checkSlotBad l hl0 D k H.size x hx) m_Ws_85 sm_Ws_checkSlot in_Ws cd_Ws_checkSlot [] rfl rfl (by decide +kernel) ⟨rfl, rfl, Nat.le_of_ble_eq_true rfl, Nat.le_of_ble_eq_true rfl⟩ rfl hl.1 rfl (Nat.le_of_ble_eq_true rfl) d_Ws_states_1 ⟨by first | decide | omega, by first | decide | omega⟩) (fun ce q9 H locs hW hc1 hc2 hc3 => kxout hout hlocks hW hc1 hc2 hc3 (by first | decide | omega) (by first | decide | omega))
set_option maxHeartbeats 4000000 in
set_option maxRecDepth 100000 in
/-- compare, refused -/
theorem ok_Ws_compareBad (l : Launch) (hl0 : l.stackTraces = false) (D : va_G) (k : Nat → ClassId) (sz : Nat) (wz ta sv no pr ma se wo sp1 wa : Nat) (x y : Int32) (hx : (isl x && isl y) = false) : vx_Met l y_Ws_compare (.code y_Ws_compare c_Ws_compare 3 (some .int) :: wsU) ({ frames := 7, cells := 1, slots := 6, locals := 140 } : Room) (kPreX D k [.ref wz, .int x, .int y] [(wz, .inr (7, [.ref ta, .ref sv, .ref no, .ref pr, .ref ma, .ref se, .ref wo, .ref sp1, .int (nM wa)]))] sz) noQ (xC D k xIA [(wz, .inr (7, [.ref ta, .ref sv, .ref no, .ref pr, .ref ma, .ref se, .ref wo, .ref sp1, .int (nM wa)]))] (va_A [(wz, .inr (7, [.ref ta, .ref sv, .ref no, .ref pr, .ref ma, .ref se, .ref wo, .ref sp1, .int (nM wa)]))] sz)) 1 6 (va_A [(wz, .inr (7, [.ref ta, .ref sv, .ref no, .ref pr, .ref ma, .ref se, .ref wo, .ref sp1, .int (nM wa)]))] sz) := by
  refine kMetX (by decide) (Nat.le_of_ble_eq_true rfl) ?_
  intro p e s m below meth c ls hO hZ hout hX hml hr hlocks hsz hW hl
  generalize hAe : va_A [(wz, .inr (7, [.ref ta, .ref sv, .ref no, .ref pr, .ref ma, .ref se, .ref wo, .ref sp1, .int (nM wa)]))] sz = A at hW hZ ⊢
  have hS0 : s.heap.size = sz := hsz
  have hX : FX p s m c [.ref wz, .int x, .int y].toArray c_Ws_compare R_Ws := hX
  have hl : lv_has ls 3 [(0, .ref wz), (1, .int x), (2, .int y)] := hl
  have hW : KW D k A s [(wz, .inr (7, [.ref ta, .ref sv, .ref no, .ref pr, .ref ma, .ref se, .ref wo, .ref sp1, .int (nM wa)]))] s.heap [] := hW
  generalize hQe : vx_MQ below noQ (xC D k xIA [(wz, .inr (7, [.ref ta, .ref sv, .ref no, .ref pr, .ref ma, .ref se, .ref wo, .ref sp1, .int (nM wa)]))] A) [.ref wz, .int x, .int y].toArray s 1 6 A = Q
  have hthrow := hQe
  generalize hH0 : s.heap = H at hW ⊢
  generalize hl1 : ([] : List Loc) = locs at hW ⊢
  refine lv_iload_n hX.1 hX.2.1 d_Ws_compare_0 rfl (lv_at hl 1 rfl) ?_
  cases hb : isl x with
  | false =>
    rw [← hthrow]
    exact kxgo (w1 := []) (wc := []) (E0 := xIA) hW [] rfl rfl (kxRunS (n := 1) (As := [.int x]) (rest := []) hX hO hZ hml hW (ok_Ws_checkSlotBad l hl0 D k H.size x hb) m_Ws_85 sm_Ws_checkSlot in_Ws cd_Ws_checkSlot [] rfl rfl (by decide +kernel) ⟨rfl, rfl, Nat.le_of_ble_eq_true rfl, Nat.le_of_ble_eq_true rfl⟩ rfl hl.1 rfl (Nat.le_of_ble_eq_true rfl) d_Ws_compare_1 ⟨by first | decide | omega, by first | decide | omega⟩) (fun ce q9 H locs hW hc1 hc2 hc3 => kxout hout hlocks hW hc1 hc2 hc3 (by first | decide | omega) (by first | decide | omega))
  | true =>
    obtain ⟨sl, hsl, e1⟩ := isl_nat hb
    have hy : isl y = false := by rw [hb] at hx; exact hx
    subst e1
    have hX : FX p s m c [.ref wz, .int (nI sl), .int y].toArray c_Ws_compare R_Ws := hX
    refine kCv (wc := []) hW [] (by rfl) (by intro _; exact (rfl : (0 : Nat) = 0)) (kRunS (n := 1) (As := [.int (nI sl)]) (rest := []) hX hml hW (ok_Ws_checkSlot l D k H.size sl hsl) m_Ws_85 sm_Ws_checkSlot in_Ws cd_Ws_checkSlot [] rfl rfl (by decide +kernel) ⟨rfl, rfl, Nat.le_of_ble_eq_true rfl, Nat.le_of_ble_eq_true rfl⟩ rfl hl.1 rfl (Nat.le_of_ble_eq_true rfl) d_Ws_compare_1 ⟨by first | exact Nat.zero_le _ | decide | omega | (dsimp only; omega), by first | exact Nat.zero_le _ | decide | omega | (dsimp only; omega)⟩) (fun u H locs _ hW => ?_)
    have hW : KW D k A s [(wz, .inr (7, [.ref ta, .ref sv, .ref no, .ref pr, .ref ma, .ref se, .ref wo, .ref sp1, .int (nM wa)]))] H locs := hW
    refine lv_iload_n hX.1 hX.2.1 d_Ws_compare_4 rfl (lv_at hl 2 rfl) ?_
    rw [← hthrow]
    exact kxgo (w1 := []) (wc := []) (E0 := xIA) hW [] rfl rfl (kxRunS (n := 1) (As := [.int y]) (rest := []) hX hO hZ hml hW (ok_Ws_checkSlotBad l hl0 D k H.size y hy) m_Ws_85 sm_Ws_checkSlot in_Ws cd_Ws_checkSlot [] rfl rfl (by decide +kernel) ⟨rfl, rfl, Nat.le_of_ble_eq_true rfl, Nat.le_of_ble_eq_true rfl⟩ rfl hl.1 rfl (Nat.le_of_ble_eq_true rfl) d_Ws_compare_5 ⟨by first | decide | omega, by first | decide | omega⟩) (fun ce q9 H locs hW hc1 hc2 hc3 => kxout hout hlocks hW hc1 hc2 hc3 (by first | decide | omega) (by first | decide | omega))
set_option maxHeartbeats 4000000 in
set_option maxRecDepth 100000 in
/-- contains, refused -/
theorem ok_Ws_containsBad (l : Launch) (hl0 : l.stackTraces = false) (D : va_G) (k : Nat → ClassId) (sz : Nat) (wz ta sv no pr ma se wo sp1 wa : Nat) (x y : Int32) (hx : (isl x && isl y) = false) : vx_Met l y_Ws_contains (.code y_Ws_contains c_Ws_contains 3 (some .boolean) :: wsU) ({ frames := 7, cells := 1, slots := 6, locals := 140 } : Room) (kPreX D k [.ref wz, .int x, .int y] [(wz, .inr (7, [.ref ta, .ref sv, .ref no, .ref pr, .ref ma, .ref se, .ref wo, .ref sp1, .int (nM wa)]))] sz) noQ (xC D k xIA [(wz, .inr (7, [.ref ta, .ref sv, .ref no, .ref pr, .ref ma, .ref se, .ref wo, .ref sp1, .int (nM wa)]))] (va_A [(wz, .inr (7, [.ref ta, .ref sv, .ref no, .ref pr, .ref ma, .ref se, .ref wo, .ref sp1, .int (nM wa)]))] sz)) 1 6 (va_A [(wz, .inr (7, [.ref ta, .ref sv, .ref no, .ref pr, .ref ma, .ref se, .ref wo, .ref sp1, .int (nM wa)]))] sz) := by
  refine kMetX (by decide) (Nat.le_of_ble_eq_true rfl) ?_
  intro p e s m below meth c ls hO hZ hout hX hml hr hlocks hsz hW hl
  generalize hAe : va_A [(wz, .inr (7, [.ref ta, .ref sv, .ref no, .ref pr, .ref ma, .ref se, .ref wo, .ref sp1, .int (nM wa)]))] sz = A at hW hZ ⊢
  have hS0 : s.heap.size = sz := hsz
  have hX : FX p s m c [.ref wz, .int x, .int y].toArray c_Ws_contains R_Ws := hX
  have hl : lv_has ls 3 [(0, .ref wz), (1, .int x), (2, .int y)] := hl
  have hW : KW D k A s [(wz, .inr (7, [.ref ta, .ref sv, .ref no, .ref pr, .ref ma, .ref se, .ref wo, .ref sp1, .int (nM wa)]))] s.heap [] := hW
  generalize hQe : vx_MQ below noQ (xC D k xIA [(wz, .inr (7, [.ref ta, .ref sv, .ref no, .ref pr, .ref ma, .ref se, .ref wo, .ref sp1, .int (nM wa)]))] A) [.ref wz, .int x, .int y].toArray s 1 6 A = Q
  have hthrow := hQe
  generalize hH0 : s.heap = H at hW ⊢
  generalize hl1 : ([] : List Loc) = locs at hW ⊢
  refine lv_iload_n hX.1 hX.2.1 d_Ws_contains_0 rfl (lv_at hl 1 rfl) ?_
  cases hb : isl x with
  | false =>
    rw [← hthrow]
    exact kxgo (w1 := []) (wc := []) (E0 := xIA) hW [] rfl rfl (kxRunS (n := 1) (As := [.int x]) (rest := []) hX hO hZ hml hW (ok_Ws_checkSlotBad l hl0 D k H.size x hb) m_Ws_85 sm_Ws_checkSlot in_Ws cd_Ws_checkSlot [] rfl rfl (by decide +kernel) ⟨rfl, rfl, Nat.le_of_ble_eq_true rfl, Nat.le_of_ble_eq_true rfl⟩ rfl hl.1 rfl (Nat.le_of_ble_eq_true rfl) d_Ws_contains_1 ⟨by first | decide | omega, by first | decide | omega⟩) (fun ce q9 H locs hW hc1 hc2 hc3 => kxout hout hlocks hW hc1 hc2 hc3 (by first | decide | omega) (by first | decide | omega))
  | true =>
    obtain ⟨sl, hsl, e1⟩ := isl_nat hb
    have hy : isl y = false := by rw [hb] at hx; exact hx
    subst e1
    have hX : FX p s m c [.ref wz, .int (nI sl), .int y].toArray c_Ws_contains R_Ws := hX
    refine kCv (wc := []) hW [] (by rfl) (by intro _; exact (rfl : (0 : Nat) = 0)) (kRunS (n := 1) (As := [.int (nI sl)]) (rest := []) hX hml hW (ok_Ws_checkSlot l D k H.size sl hsl) m_Ws_85 sm_Ws_checkSlot in_Ws cd_Ws_checkSlot [] rfl rfl (by decide +kernel) ⟨rfl, rfl, Nat.le_of_ble_eq_true rfl, Nat.le_of_ble_eq_true rfl⟩ rfl hl.1 rfl (Nat.le_of_ble_eq_true rfl) d_Ws_contains_1 ⟨by first | exact Nat.zero_le _ | decide | omega | (dsimp only; omega), by first | exact Nat.zero_le _ | decide | omega | (dsimp only; omega)⟩) (fun u H locs _ hW => ?_)
    have hW : KW D k A s [(wz, .inr (7, [.ref ta, .ref sv, .ref no, .ref pr, .ref ma, .ref se, .ref wo, .ref sp1, .int (nM wa)]))] H locs := hW
    refine lv_iload_n hX.1 hX.2.1 d_Ws_contains_4 rfl (lv_at hl 2 rfl) ?_
    rw [← hthrow]
    exact kxgo (w1 := []) (wc := []) (E0 := xIA) hW [] rfl rfl (kxRunS (n := 1) (As := [.int y]) (rest := []) hX hO hZ hml hW (ok_Ws_checkSlotBad l hl0 D k H.size y hy) m_Ws_85 sm_Ws_checkSlot in_Ws cd_Ws_checkSlot [] rfl rfl (by decide +kernel) ⟨rfl, rfl, Nat.le_of_ble_eq_true rfl, Nat.le_of_ble_eq_true rfl⟩ rfl hl.1 rfl (Nat.le_of_ble_eq_true rfl) d_Ws_contains_5 ⟨by first | decide | omega, by first | decide | omega⟩) (fun ce q9 H locs hW hc1 hc2 hc3 => kxout hout hlocks hW hc1 hc2 hc3 (by first | decide | omega) (by first | decide | omega))
set_option maxHeartbeats 4000000 in
set_option maxRecDepth 100000 in
/-- turn, refused -/
theorem ok_Ws_turnBad (l : Launch) (hl0 : l.stackTraces = false) (D : va_G) (k : Nat → ClassId) (sz : Nat) (wz ta sv no pr ma se wo sp1 wa : Nat) (x y : Int32) (hx : (isl x && isl y) = false) : vx_Met l y_Ws_turn (.code y_Ws_turn c_Ws_turn 3 none :: wsU) ({ frames := 7, cells := 1, slots := 6, locals := 140 } : Room) (kPreX D k [.ref wz, .int x, .int y] [(wz, .inr (7, [.ref ta, .ref sv, .ref no, .ref pr, .ref ma, .ref se, .ref wo, .ref sp1, .int (nM wa)]))] sz) noQ (xC D k xIA [(wz, .inr (7, [.ref ta, .ref sv, .ref no, .ref pr, .ref ma, .ref se, .ref wo, .ref sp1, .int (nM wa)]))] (va_A [(wz, .inr (7, [.ref ta, .ref sv, .ref no, .ref pr, .ref ma, .ref se, .ref wo, .ref sp1, .int (nM wa)]))] sz)) 1 6 (va_A [(wz, .inr (7, [.ref ta, .ref sv, .ref no, .ref pr, .ref ma, .ref se, .ref wo, .ref sp1, .int (nM wa)]))] sz) := by
  refine kMetX (by decide) (Nat.le_of_ble_eq_true rfl) ?_
  intro p e s m below meth c ls hO hZ hout hX hml hr hlocks hsz hW hl
  generalize hAe : va_A [(wz, .inr (7, [.ref ta, .ref sv, .ref no, .ref pr, .ref ma, .ref se, .ref wo, .ref sp1, .int (nM wa)]))] sz = A at hW hZ ⊢
  have hS0 : s.heap.size = sz := hsz
  have hX : FX p s m c [.ref wz, .int x, .int y].toArray c_Ws_turn R_Ws := hX
  have hl : lv_has ls 3 [(0, .ref wz), (1, .int x), (2, .int y)] := hl
  have hW : KW D k A s [(wz, .inr (7, [.ref ta, .ref sv, .ref no, .ref pr, .ref ma, .ref se, .ref wo, .ref sp1, .int (nM wa)]))] s.heap [] := hW
  generalize hQe : vx_MQ below noQ (xC D k xIA [(wz, .inr (7, [.ref ta, .ref sv, .ref no, .ref pr, .ref ma, .ref se, .ref wo, .ref sp1, .int (nM wa)]))] A) [.ref wz, .int x, .int y].toArray s 1 6 A = Q
  have hthrow := hQe
  generalize hH0 : s.heap = H at hW ⊢
  generalize hl1 : ([] : List Loc) = locs at hW ⊢
  refine lv_iload_n hX.1 hX.2.1 d_Ws_turn_0 rfl (lv_at hl 1 rfl) ?_
  cases hb : isl x with
  | false =>
    rw [← hthrow]
    exact kxgo (w1 := []) (wc := []) (E0 := xIA) hW [] rfl rfl (kxRunS (n := 1) (As := [.int x]) (rest := []) hX hO hZ hml hW (ok_Ws_checkSlotBad l hl0 D k H.size x hb) m_Ws_85 sm_Ws_checkSlot in_Ws cd_Ws_checkSlot [] rfl rfl (by decide +kernel) ⟨rfl, rfl, Nat.le_of_ble_eq_true rfl, Nat.le_of_ble_eq_true rfl⟩ rfl hl.1 rfl (Nat.le_of_ble_eq_true rfl) d_Ws_turn_1 ⟨by first | decide | omega, by first | decide | omega⟩) (fun ce q9 H locs hW hc1 hc2 hc3 => kxout hout hlocks hW hc1 hc2 hc3 (by first | decide | omega) (by first | decide | omega))
  | true =>
    obtain ⟨sl, hsl, e1⟩ := isl_nat hb
    have hy : isl y = false := by rw [hb] at hx; exact hx
    subst e1
    have hX : FX p s m c [.ref wz, .int (nI sl), .int y].toArray c_Ws_turn R_Ws := hX
    refine kCv (wc := []) hW [] (by rfl) (by intro _; exact (rfl : (0 : Nat) = 0)) (kRunS (n := 1) (As := [.int (nI sl)]) (rest := []) hX hml hW (ok_Ws_checkSlot l D k H.size sl hsl) m_Ws_85 sm_Ws_checkSlot in_Ws cd_Ws_checkSlot [] rfl rfl (by decide +kernel) ⟨rfl, rfl, Nat.le_of_ble_eq_true rfl, Nat.le_of_ble_eq_true rfl⟩ rfl hl.1 rfl (Nat.le_of_ble_eq_true rfl) d_Ws_turn_1 ⟨by first | exact Nat.zero_le _ | decide | omega | (dsimp only; omega), by first | exact Nat.zero_le _ | decide | omega | (dsimp only; omega)⟩) (fun u H locs _ hW => ?_)
    have hW : KW D k A s [(wz, .inr (7, [.ref ta, .ref sv, .ref no, .ref pr, .ref ma, .ref se, .ref wo, .ref sp1, .int (nM wa)]))] H locs := hW
    refine lv_iload_n hX.1 hX.2.1 d_Ws_turn_4 rfl (lv_at hl 2 rfl) ?_
    rw [← hthrow]
    exact kxgo (w1 := []) (wc := []) (E0 := xIA) hW [] rfl rfl (kxRunS (n := 1) (As := [.int y]) (rest := []) hX hO hZ hml hW (ok_Ws_checkSlotBad l hl0 D k H.size y hy) m_Ws_85 sm_Ws_checkSlot in_Ws cd_Ws_checkSlot [] rfl rfl (by decide +kernel) ⟨rfl, rfl, Nat.le_of_ble_eq_true rfl, Nat.le_of_ble_eq_true rfl⟩ rfl hl.1 rfl (Nat.le_of_ble_eq_true rfl) d_Ws_turn_5 ⟨by first | decide | omega, by first | decide | omega⟩) (fun ce q9 H locs hW hc1 hc2 hc3 => kxout hout hlocks hW hc1 hc2 hc3 (by first | decide | omega) (by first | decide | omega))
set_option maxHeartbeats 4000000 in
set_option maxRecDepth 100000 in
/-- count, refused -/
theorem ok_Ws_countBad (l : Launch) (hl0 : l.stackTraces = false) (D : va_G) (k : Nat → ClassId) (sz : Nat) (wz ta sv no pr ma se wo sp1 wa : Nat) (x y : Int32) (hx : (isl x && decide (nI 0 ≤ y ∧ y ≤ nI 30)) = false) : vx_Met l y_Ws_count (.code y_Ws_count c_Ws_count 3 (some .long) :: wsU) ({ frames := 7, cells := 1, slots := 6, locals := 140 } : Room) (kPreX D k [.ref wz, .int x, .int y] [(wz, .inr (7, [.ref ta, .ref sv, .ref no, .ref pr, .ref ma, .ref se, .ref wo, .ref sp1, .int (nM wa)]))] sz) noQ (xC D k xIA [(wz, .inr (7, [.ref ta, .ref sv, .ref no, .ref pr, .ref ma, .ref se, .ref wo, .ref sp1, .int (nM wa)]))] (va_A [(wz, .inr (7, [.ref ta, .ref sv, .ref no, .ref pr, .ref ma, .ref se, .ref wo, .ref sp1, .int (nM wa)]))] sz)) 1 6 (va_A [(wz, .inr (7, [.ref ta, .ref sv, .ref no, .ref pr, .ref ma, .ref se, .ref wo, .ref sp1, .int (nM wa)]))] sz) := by
  refine kMetX (by decide) (Nat.le_of_ble_eq_true rfl) ?_
  intro p e s m below meth c ls hO hZ hout hX hml hr hlocks hsz hW hl
  generalize hAe : va_A [(wz, .inr (7, [.ref ta, .ref sv, .ref no, .ref pr, .ref ma, .ref se, .ref wo, .ref sp1, .int (nM wa)]))] sz = A at hW hZ ⊢
  have hS0 : s.heap.size = sz := hsz
  have hX : FX p s m c [.ref wz, .int x, .int y].toArray c_Ws_count R_Ws := hX
  have hl : lv_has ls 3 [(0, .ref wz), (1, .int x), (2, .int y)] := hl
  have hW : KW D k A s [(wz, .inr (7, [.ref ta, .ref sv, .ref no, .ref pr, .ref ma, .ref se, .ref wo, .ref sp1, .int (nM wa)]))] s.heap [] := hW
  generalize hQe : vx_MQ below noQ (xC D k xIA [(wz, .inr (7, [.ref ta, .ref sv, .ref no, .ref pr, .ref ma, .ref se, .ref wo, .ref sp1, .int (nM wa)]))] A) [.ref wz, .int x, .int y].toArray s 1 6 A = Q
  have hthrow := hQe
  generalize hH0 : s.heap = H at hW ⊢
  generalize hl1 : ([] : List Loc) = locs at hW ⊢
  refine lv_iload_n hX.1 hX.2.1 d_Ws_count_0 rfl (lv_at hl 1 rfl) ?_
  cases hb : isl x with
  | false =>
    rw [← hthrow]
    exact kxgo (w1 := []) (wc := []) (E0 := xIA) hW [] rfl rfl (kxRunS (n := 1) (As := [.int x]) (rest := []) hX hO hZ hml hW (ok_Ws_checkSlotBad l hl0 D k H.size x hb) m_Ws_85 sm_Ws_checkSlot in_Ws cd_Ws_checkSlot [] rfl rfl (by decide +kernel) ⟨rfl, rfl, Nat.le_of_ble_eq_true rfl, Nat.le_of_ble_eq_true rfl⟩ rfl hl.1 rfl (Nat.le_of_ble_eq_true rfl) d_Ws_count_1 ⟨by first | decide | omega, by first | decide | omega⟩) (fun ce q9 H locs hW hc1 hc2 hc3 => kxout hout hlocks hW hc1 hc2 hc3 (by first | decide | omega) (by first | decide | omega))
  | true =>
    obtain ⟨sl, hsl, e1⟩ := isl_nat hb
    have hy : decide (nI 0 ≤ y ∧ y ≤ nI 30) = false := by rw [hb] at hx; exact hx
    subst e1
    have hX : FX p s m c [.ref wz, .int (nI sl), .int y].toArray c_Ws_count R_Ws := hX
    refine kCv (wc := []) hW [] (by rfl) (by intro _; exact (rfl : (0 : Nat) = 0)) (kRunS (n := 1) (As := [.int (nI sl)]) (rest := []) hX hml hW (ok_Ws_checkSlot l D k H.size sl hsl) m_Ws_85 sm_Ws_checkSlot in_Ws cd_Ws_checkSlot [] rfl rfl (by decide +kernel) ⟨rfl, rfl, Nat.le_of_ble_eq_true rfl, Nat.le_of_ble_eq_true rfl⟩ rfl hl.1 rfl (Nat.le_of_ble_eq_true rfl) d_Ws_count_1 ⟨by first | exact Nat.zero_le _ | decide | omega | (dsimp only; omega), by first | exact Nat.zero_le _ | decide | omega | (dsimp only; omega)⟩) (fun u H locs _ hW => ?_)
    have hW : KW D k A s [(wz, .inr (7, [.ref ta, .ref sv, .ref no, .ref pr, .ref ma, .ref se, .ref wo, .ref sp1, .int (nM wa)]))] H locs := hW
    refine lv_iload_n hX.1 hX.2.1 d_Ws_count_4 rfl (lv_at hl 2 rfl) ?_
    rw [← hthrow]
    exact kxgo (w1 := []) (wc := []) (E0 := xIA) hW [] rfl rfl (kxRunS (n := 1) (As := [.int y]) (rest := []) hX hO hZ hml hW (ok_Ws_checkLengthBad l hl0 D k H.size y hy) m_Ws_123 sm_Ws_checkLength in_Ws cd_Ws_checkLength [] rfl rfl (by decide +kernel) ⟨rfl, rfl, Nat.le_of_ble_eq_true rfl, Nat.le_of_ble_eq_true rfl⟩ rfl hl.1 rfl (Nat.le_of_ble_eq_true rfl) d_Ws_count_5 ⟨by first | decide | omega, by first | decide | omega⟩) (fun ce q9 H locs hW hc1 hc2 hc3 => kxout hout hlocks hW hc1 hc2 hc3 (by first | decide | omega) (by first | decide | omega))
set_option maxHeartbeats 4000000 in
set_option maxRecDepth 100000 in
/-- word, refused -/
theorem ok_Ws_wordBad (l : Launch) (hl0 : l.stackTraces = false) (D : va_G) (k : Nat → ClassId) (sz : Nat) (wz ta sv no pr ma se wo sp1 wa : Nat) (x y : Int32) (kx : Int64) (hx : (isl x && (decide (nI 0 ≤ y ∧ y ≤ nI 30) && decide (lN 0 ≤ kx))) = false) : vx_Met l y_Ws_word (.code y_Ws_word c_Ws_word 5 (some .boolean) :: wsU) ({ frames := 7, cells := 1, slots := 6, locals := 140 } : Room) (kPreX D k [.ref wz, .int x, .int y, .long kx] [(wz, .inr (7, [.ref ta, .ref sv, .ref no, .ref pr, .ref ma, .ref se, .ref wo, .ref sp1, .int (nM wa)]))] sz) noQ (xC D k xIA [(wz, .inr (7, [.ref ta, .ref sv, .ref no, .ref pr, .ref ma, .ref se, .ref wo, .ref sp1, .int (nM wa)]))] (va_A [(wz, .inr (7, [.ref ta, .ref sv, .ref no, .ref pr, .ref ma, .ref se, .ref wo, .ref sp1, .int (nM wa)]))] sz)) 1 6 (va_A [(wz, .inr (7, [.ref ta, .ref sv, .ref no, .ref pr, .ref ma, .ref se, .ref wo, .ref sp1, .int (nM wa)]))] sz) := by
  refine kMetX (by decide) (Nat.le_of_ble_eq_true rfl) ?_
  intro p e s m below meth c ls hO hZ hout hX hml hr hlocks hsz hW hl
  generalize hAe : va_A [(wz, .inr (7, [.ref ta, .ref sv, .ref no, .ref pr, .ref ma, .ref se, .ref wo, .ref sp1, .int (nM wa)]))] sz = A at hW hZ ⊢
  have hS0 : s.heap.size = sz := hsz
  have hX : FX p s m c [.ref wz, .int x, .int y, .long kx].toArray c_Ws_word R_Ws := hX
  have hl : lv_has ls 5 [(0, .ref wz), (1, .int x), (2, .int y), (3, .long kx)] := hl
  have hW : KW D k A s [(wz, .inr (7, [.ref ta, .ref sv, .ref no, .ref pr, .ref ma, .ref se, .ref wo, .ref sp1, .int (nM wa)]))] s.heap [] := hW
  generalize hQe : vx_MQ below noQ (xC D k xIA [(wz, .inr (7, [.ref ta, .ref sv, .ref no, .ref pr, .ref ma, .ref se, .ref wo, .ref sp1, .int (nM wa)]))] A) [.ref wz, .int x, .int y, .long kx].toArray s 1 6 A = Q
  have hthrow := hQe
  generalize hH0 : s.heap = H at hW ⊢
  generalize hl1 : ([] : List Loc) = locs at hW ⊢
  refine lv_iload_n hX.1 hX.2.1 d_Ws_word_0 rfl (lv_at hl 1 rfl) ?_
  cases hb : isl x with
  | false =>
    rw [← hthrow]
    exact kxgo (w1 := []) (wc := []) (E0 := xIA) hW [] rfl rfl (kxRunS (n := 1) (As := [.int x]) (rest := []) hX hO hZ hml hW (ok_Ws_checkSlotBad l hl0 D k H.size x hb) m_Ws_85 sm_Ws_checkSlot in_Ws cd_Ws_checkSlot [] rfl rfl (by decide +kernel) ⟨rfl, rfl, Nat.le_of_ble_eq_true rfl, Nat.le_of_ble_eq_true rfl⟩ rfl hl.1 rfl (Nat.le_of_ble_eq_true rfl) d_Ws_word_1 ⟨by first | decide | omega, by first | decide | omega⟩) (fun ce q9 H locs hW hc1 hc2 hc3 => kxout hout hlocks hW hc1 hc2 hc3 (by first | decide | omega) (by first | decide | omega))
  | true =>
    obtain ⟨sl, hsl, e1⟩ := isl_nat hb
    have hx2 : (decide (nI 0 ≤ y ∧ y ≤ nI 30) && decide (lN 0 ≤ kx)) = false := by rw [hb] at hx; exact hx
    subst e1
    have hX : FX p s m c [.ref wz, .int (nI sl), .int y, .long kx].toArray c_Ws_word R_Ws := hX
    refine kCv (wc := []) hW [] (by rfl) (by intro _; exact (rfl : (0 : Nat) = 0)) (kRunS (n := 1) (As := [.int (nI sl)]) (rest := []) hX hml hW (ok_Ws_checkSlot l D k H.size sl hsl) m_Ws_85 sm_Ws_checkSlot in_Ws cd_Ws_checkSlot [] rfl rfl (by decide +kernel) ⟨rfl, rfl, Nat.le_of_ble_eq_true rfl, Nat.le_of_ble_eq_true rfl⟩ rfl hl.1 rfl (Nat.le_of_ble_eq_true rfl) d_Ws_word_1 ⟨by first | exact Nat.zero_le _ | decide | omega | (dsimp only; omega), by first | exact Nat.zero_le _ | decide | omega | (dsimp only; omega)⟩) (fun u H locs _ hW => ?_)
    have hW : KW D k A s [(wz, .inr (7, [.ref ta, .ref sv, .ref no, .ref pr, .ref ma, .ref se, .ref wo, .ref sp1, .int (nM wa)]))] H locs := hW
    refine lv_iload_n hX.1 hX.2.1 d_Ws_word_4 rfl (lv_at hl 2 rfl) ?_
    cases hc9 : decide (nI 0 ≤ y ∧ y ≤ nI 30) with
    | false =>
      rw [← hthrow]
      exact kxgo (w1 := []) (wc := []) (E0 := xIA) hW [] rfl rfl (kxRunS (n := 1) (As := [.int y]) (rest := []) hX hO hZ hml hW (ok_Ws_checkLengthBad l hl0 D k H.size y hc9) m_Ws_123 sm_Ws_checkLength in_Ws cd_Ws_checkLength [] rfl rfl (by decide +kernel) ⟨rfl, rfl, Nat.le_of_ble_eq_true rfl, Nat.le_of_ble_eq_true rfl⟩ rfl hl.1 rfl (Nat.le_of_ble_eq_true rfl) d_Ws_word_5 ⟨by first | decide | omega, by first | decide | omega⟩) (fun ce q9 H locs hW hc1 hc2 hc3 => kxout hout hlocks hW hc1 hc2 hc3 (by first | decide | omega) (by first | decide | omega))
    | true =>
      obtain ⟨len, hlen, e2⟩ := len_nat hc9
      have hk9 : ¬ lN 0 ≤ kx := by rw [hc9] at hx2; exact of_decide_eq_false hx2
      subst e2
      have hX : FX p s m c [.ref wz, .int (nI sl), .int (nI len), .long kx].toArray c_Ws_word R_Ws := hX
      refine kCv (wc := []) hW [] (by rfl) (by intro _; exact (rfl : (0 : Nat) = 0)) (kRunS (n := 1) (As := [.int (nI len)]) (rest := []) hX hml hW (ok_Ws_checkLength l D k H.size len hlen) m_Ws_123 sm_Ws_checkLength in_Ws cd_Ws_checkLength [] rfl rfl (by decide +kernel) ⟨rfl, rfl, Nat.le_of_ble_eq_true rfl, Nat.le_of_ble_eq_true rfl⟩ rfl hl.1 rfl (Nat.le_of_ble_eq_true rfl) d_Ws_word_5 ⟨by first | exact Nat.zero_le _ | decide | omega | (dsimp only; omega), by first | exact Nat.zero_le _ | decide | omega | (dsimp only; omega)⟩) (fun u H locs _ hW => ?_)
      have hW : KW D k A s [(wz, .inr (7, [.ref ta, .ref sv, .ref no, .ref pr, .ref ma, .ref se, .ref wo, .ref sp1, .int (nM wa)]))] H locs := hW
      refine lv_lload_n hX.1 hX.2.1 d_Ws_word_8 rfl (lv_at hl 3 rfl) ?_
      refine lv_lconst (v := lN 0) hX.1 hX.2.1 d_Ws_word_9 (by decide) ?_
      refine klcmp_g0 hX (tgt := 24) d_Ws_word_10 d_Ws_word_11 (by decide) (fun h1 => absurd h1 hk9) (fun h1 => ?_)
      rw [← hthrow]
      exact kthrow (L := xA1) (text := "k is below 0") rfl hl0 hX hO hZ hW hout (hml.trans hl.1.symm) hlocks (by decide) k_Ws_62 xk2 xg1 xb1 xo1 (hO.2.2.2.2.2.1) d_Ws_word_14 d_Ws_word_17 d_Ws_word_18 d_Ws_word_20 d_Ws_word_23 (by decide) (by decide) (by first | decide | omega) (by first | decide | omega) (by first | decide | omega) (by first | decide | omega)
theorem lt_nM {x : Int32} {y : Nat} (hy : y < 2 ^ 20) (h1 : ¬ x < 0) (h2 : x < nI y) : nI 0 ≤ x ∧ x ≤ nM y := by
  obtain ⟨a, ha, e⟩ := nI_of h1
  subst e
  have h3 : a < y := (nI_ltI (by omega) (by omega)).mp h2
  obtain ⟨z, rfl⟩ : ∃ z, y = z + 1 := ⟨y - 1, by omega⟩
  rw [nM_s]
  exact ⟨Int32.not_lt.mp h1, nI_le (by omega) (by omega)⟩
set_option maxHeartbeats 4000000 in
set_option maxRecDepth 100000 in
/-- letter, refused -/
theorem ok_Ws_letterBad (l : Launch) (hl0 : l.stackTraces = false) (D : va_G) (k : Nat → ClassId) (sz : Nat) (wz ta sv no pr ma se wo sp1 wa : Nat) (wl y cp : Nat) (L : Nat → Nat) (x : Int32) (hy : y < 2 ^ 20) (hx : ¬ (nI 0 ≤ x ∧ x ≤ nM y)) : vx_Met l y_Ws_letter (.code y_Ws_letter c_Ws_letter 2 (some .int) :: wsU) ({ frames := 7, cells := 1, slots := 6, locals := 140 } : Room) (kPreX D k [.ref wz, .int x] [(wz, .inr (7, [.ref ta, .ref sv, .ref no, .ref pr, .ref ma, .ref se, .ref wo, .ref sp1, .int (nM wa)])), (wo, .inr (6, [.ref wl, .int (nI y)])), (wl, .inl (k 0, cp, .inl (aN L)))] sz) noQ (xC D k xIO [(wz, .inr (7, [.ref ta, .ref sv, .ref no, .ref pr, .ref ma, .ref se, .ref wo, .ref sp1, .int (nM wa)])), (wo, .inr (6, [.ref wl, .int (nI y)])), (wl, .inl (k 0, cp, .inl (aN L)))] (va_A [(wz, .inr (7, [.ref ta, .ref sv, .ref no, .ref pr, .ref ma, .ref se, .ref wo, .ref sp1, .int (nM wa)])), (wo, .inr (6, [.ref wl, .int (nI y)])), (wl, .inl (k 0, cp, .inl (aN L)))] sz)) 1 6 (va_A [(wz, .inr (7, [.ref ta, .ref sv, .ref no, .ref pr, .ref ma, .ref se, .ref wo, .ref sp1, .int (nM wa)])), (wo, .inr (6, [.ref wl, .int (nI y)])), (wl, .inl (k 0, cp, .inl (aN L)))] sz) := by
  refine kMetX (by decide) (Nat.le_of_ble_eq_true rfl) ?_
  intro p e s m below meth c ls hO hZ hout hX hml hr hlocks hsz hW hl
  generalize hAe : va_A [(wz, .inr (7, [.ref ta, .ref sv, .ref no, .ref pr, .ref ma, .ref se, .ref wo, .ref sp1, .int (nM wa)])), (wo, .inr (6, [.ref wl, .int (nI y)])), (wl, .inl (k 0, cp, .inl (aN L)))] sz = A at hW hZ ⊢
  have hS0 : s.heap.size = sz := hsz
  have hX : FX p s m c [.ref wz, .int x].toArray c_Ws_letter R_Ws := hX
  have hl : lv_has ls 2 [(0, .ref wz), (1, .int x)] := hl
  have hW : KW D k A s [(wz, .inr (7, [.ref ta, .ref sv, .ref no, .ref pr, .ref ma, .ref se, .ref wo, .ref sp1, .int (nM wa)])), (wo, .inr (6, [.ref wl, .int (nI y)])), (wl, .inl (k 0, cp, .inl (aN L)))] s.heap [] := hW
  generalize hQe : vx_MQ below noQ (xC D k xIO [(wz, .inr (7, [.ref ta, .ref sv, .ref no, .ref pr, .ref ma, .ref se, .ref wo, .ref sp1, .int (nM wa)])), (wo, .inr (6, [.ref wl, .int (nI y)])), (wl, .inl (k 0, cp, .inl (aN L)))] A) [.ref wz, .int x].toArray s 1 6 A = Q
  have hthrow := hQe
  generalize hH0 : s.heap = H at hW ⊢
  generalize hl1 : ([] : List Loc) = locs at hW ⊢
  refine lv_iload_n hX.1 hX.2.1 d_Ws_letter_0 rfl (lv_at hl 1 rfl) ?_
  refine lv_if_lt (tgt := 15) hX.1 hX.2.1 d_Ws_letter_1 (by decide) (fun h1 => ?_) (fun h1 => ?_)
  · rw [← hthrow]
    exact kthrow (L := xA3) (text := "no such letter") rfl hl0 hX hO hZ hW hout (hml.trans hl.1.symm) hlocks (by decide) k_Ws_149 xk4 xg3 xb3 xo3 (hO.2.2.2.2.2.2.1) d_Ws_letter_15 d_Ws_letter_18 d_Ws_letter_19 d_Ws_letter_21 d_Ws_letter_24 (by decide) (by decide) (by first | decide | omega) (by first | decide | omega) (by first | decide | omega) (by first | decide | omega)
  · refine lv_iload_n hX.1 hX.2.1 d_Ws_letter_4 rfl (lv_at hl 1 rfl) ?_
    refine lv_aload_n hX.1 hX.2.1 d_Ws_letter_5 rfl (lv_at hl 0 rfl) ?_
    refine kget hX hW i_Ws 0 rfl rfl 6 (by decide) f_Ws_51 rfl rfl d_Ws_letter_6 ?_
    refine kget hX hW i_Wo 1 rfl rfl 1 (by decide) f_Ws_122 rfl rfl d_Ws_letter_9 ?_
    refine lv_icmp_lt (tgt := 25) hX.1 hX.2.1 d_Ws_letter_12 (by decide) (fun h2 => ?_) (fun h2 => ?_)
    · exact absurd (lt_nM hy h1 h2) hx
    · rw [← hthrow]
      exact kthrow (L := xA3) (text := "no such letter") rfl hl0 hX hO hZ hW hout (hml.trans hl.1.symm) hlocks (by decide) k_Ws_149 xk4 xg3 xb3 xo3 (hO.2.2.2.2.2.2.1) d_Ws_letter_15 d_Ws_letter_18 d_Ws_letter_19 d_Ws_letter_21 d_Ws_letter_24 (by decide) (by decide) (by first | decide | omega) (by first | decide | omega) (by first | decide | omega) (by first | decide | omega)
