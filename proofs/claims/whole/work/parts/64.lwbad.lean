/-! THE LAW'S HELPERS -/
set_option maxHeartbeats 4000000 in
set_option maxRecDepth 100000 in
/-- feed, refused -/
theorem ok_Lw_feedBad (l : Launch) (hl0 : l.stackTraces = false) (D : va_G) (k : Nat → ClassId) (sz : Nat) (wz ta sv no pr ma se wo sp1 wa : Nat) (ou : Nat) (OU : Nat → Int64) (x : Int64) (n0 : Int32) (hn : ¬ (nI 1 ≤ n0 ∧ n0 ≤ nI 8)) : vx_Met l y_Lw_feed (.codeWith y_Lw_feed c_Lw_feed 6 (some .int) [(0, 11, 14, 13), (0, 11, 18, 15)] :: wsU) ({ frames := 8, cells := 1, slots := 6, locals := 220 } : Room) (kPreX D k [.ref wz, .long x, .int n0, .ref ou] [(wz, .inr (7, [.ref ta, .ref sv, .ref no, .ref pr, .ref ma, .ref se, .ref wo, .ref sp1, .int (nM wa)])), (ou, .inl (k 1, 1, .inr (.inl OU)))] sz) (va_Qi (fun (r : Int32) (_ : Unit) => r = nI 1) (kB D k (fun _ : Unit => [(wz, .inr (7, [.ref ta, .ref sv, .ref no, .ref pr, .ref ma, .ref se, .ref wo, .ref sp1, .int (nM wa)])), (ou, .inl (k 1, 1, .inr (.inl OU)))]) (va_A [(wz, .inr (7, [.ref ta, .ref sv, .ref no, .ref pr, .ref ma, .ref se, .ref wo, .ref sp1, .int (nM wa)])), (ou, .inl (k 1, 1, .inr (.inl OU)))] sz)) (va_A [(wz, .inr (7, [.ref ta, .ref sv, .ref no, .ref pr, .ref ma, .ref se, .ref wo, .ref sp1, .int (nM wa)])), (ou, .inl (k 1, 1, .inr (.inl OU)))] sz)) noX 1 6 (va_A [(wz, .inr (7, [.ref ta, .ref sv, .ref no, .ref pr, .ref ma, .ref se, .ref wo, .ref sp1, .int (nM wa)])), (ou, .inl (k 1, 1, .inr (.inl OU)))] sz) := by
  refine kMetH (by decide) (Nat.le_of_ble_eq_true rfl) ?_
  intro p e s m below meth c ls hO hZ htab hX hml hr hlocks hsz hW hl Q hQ
  generalize hAe : va_A [(wz, .inr (7, [.ref ta, .ref sv, .ref no, .ref pr, .ref ma, .ref se, .ref wo, .ref sp1, .int (nM wa)])), (ou, .inl (k 1, 1, .inr (.inl OU)))] sz = A at hW hZ hQ
  generalize hH0 : s.heap = H at hW ⊢
  generalize hl1 : ([] : List Loc) = locs at hW ⊢
  have hX : FX p s m c [.ref wz, .long x, .int n0, .ref ou].toArray c_Lw_feed R_Lw := hX
  have hl : lv_has ls 6 [(0, .ref wz), (1, .long x), (3, .int n0), (4, .ref ou)] := hl
  refine lv_aload hX.1 hX.2.1 d_Lw_feed_0 (lv_at hl 3 rfl) ?_
  refine lv_iconst (v := nI 0) hX.1 hX.2.1 d_Lw_feed_2 (by decide) ?_
  refine lv_aload_n hX.1 hX.2.1 d_Lw_feed_3 rfl (lv_at hl 0 rfl) ?_
  refine lv_lload_n hX.1 hX.2.1 d_Lw_feed_4 rfl (lv_at hl 1 rfl) ?_
  refine lv_iload_n hX.1 hX.2.1 d_Lw_feed_5 rfl (lv_at hl 2 rfl) ?_
  refine kxgo (wc := [(wz, .inr (7, [.ref ta, .ref sv, .ref no, .ref pr, .ref ma, .ref se, .ref wo, .ref sp1, .int (nM wa)]))]) (E0 := xIA) (w1 := [(wz, .inr (7, [.ref ta, .ref sv, .ref no, .ref pr, .ref ma, .ref se, .ref wo, .ref sp1, .int (nM wa)]))]) hW [0] (by rfl) (by exact (rfl : (1 : Nat) = 1)) (kxRunV (n := 2) (As := [.long x, .int n0]) (rest := [.int (nI 0), .ref ou]) hX hO hZ hml hW (ok_Ws_feedBad l hl0 D k H.size wz ta sv no pr ma se wo sp1 wa x n0 hn) m_Lw_7 im_Ws_feed se_Ws_feed in_Ws cd_Ws_feed [0] rfl rfl rfl rfl (by decide +kernel) ⟨rfl, rfl, Nat.le_of_ble_eq_true rfl, Nat.le_of_ble_eq_true rfl⟩ rfl hl.1 rfl (Nat.le_of_ble_eq_true rfl) d_Lw_feed_6 ⟨by first | decide | omega, by first | decide | omega⟩) (fun ce q9 H locs hW hc1 hc2 hc3 => ?_)
  simp only [setAll, List.set_cons_zero, List.set_cons_succ] at hW
  have hW : KW D k A s [(wz, .inr (7, [.ref ta, .ref sv, .ref no, .ref pr, .ref ma, .ref se, .ref wo, .ref sp1, .int (nM wa)])), (ou, .inl (k 1, 1, .inr (.inl OU)))] H locs := hW
  refine kcatch hX hO htab (by decide) (by decide) (by decide) xcA k_Lw_13 hc1 hc2 hc3 ?_
  refine lv_astore (lv' := [(5, .ref q9), (0, .ref wz), (1, .long x), (3, .int n0), (4, .ref ou)]) hX.1 hX.2.1 d_Lw_feed_14 hl (by decide) rfl (fun ls hl => ?_)
  refine lv_iconst (v := nI 1) hX.1 hX.2.1 d_Lw_feed_16 (by decide) ?_
  refine W.widen (k := 1) (n := 6) (by omega) (by omega) ?_
  exact kiret hX hr hlocks hQ () (hW) (rfl) d_Lw_feed_17
set_option maxHeartbeats 4000000 in
set_option maxRecDepth 100000 in
/-- feed, refused -/
theorem ok_Lw_feedFull (l : Launch) (hl0 : l.stackTraces = false) (D : va_G) (k : Nat → ClassId) (sz : Nat) (wz ta sv no pr ma se wo sp1 wa : Nat) (ou : Nat) (OU : Nat → Int64) (tb ts : Nat) (B : Nat → Nat) (x : Int64) (n : Nat) (h1n : 1 ≤ n) (hn : n ≤ 8) (hts : ts ≤ 80) (hf : 80 < ts + n) : vx_Met l y_Lw_feed (.codeWith y_Lw_feed c_Lw_feed 6 (some .int) [(0, 11, 14, 13), (0, 11, 18, 15)] :: wsU) ({ frames := 8, cells := 1, slots := 6, locals := 220 } : Room) (kPreX D k [.ref wz, .long x, .int (nI n), .ref ou] [(wz, .inr (7, [.ref ta, .ref sv, .ref no, .ref pr, .ref ma, .ref se, .ref wo, .ref sp1, .int (nM wa)])), (ta, .inr (5, [.ref tb, .int (nI ts)])), (tb, .inl (k 0, 80, .inl (aN B))), (ou, .inl (k 1, 1, .inr (.inl OU)))] sz) (va_Qi (fun (r : Int32) (_ : Unit) => r = nI 2) (kB D k (fun _ : Unit => [(wz, .inr (7, [.ref ta, .ref sv, .ref no, .ref pr, .ref ma, .ref se, .ref wo, .ref sp1, .int (nM wa)])), (ta, .inr (5, [.ref tb, .int (nI ts)])), (tb, .inl (k 0, 80, .inl (aN B))), (ou, .inl (k 1, 1, .inr (.inl OU)))]) (va_A [(wz, .inr (7, [.ref ta, .ref sv, .ref no, .ref pr, .ref ma, .ref se, .ref wo, .ref sp1, .int (nM wa)])), (ta, .inr (5, [.ref tb, .int (nI ts)])), (tb, .inl (k 0, 80, .inl (aN B))), (ou, .inl (k 1, 1, .inr (.inl OU)))] sz)) (va_A [(wz, .inr (7, [.ref ta, .ref sv, .ref no, .ref pr, .ref ma, .ref se, .ref wo, .ref sp1, .int (nM wa)])), (ta, .inr (5, [.ref tb, .int (nI ts)])), (tb, .inl (k 0, 80, .inl (aN B))), (ou, .inl (k 1, 1, .inr (.inl OU)))] sz)) noX 1 6 (va_A [(wz, .inr (7, [.ref ta, .ref sv, .ref no, .ref pr, .ref ma, .ref se, .ref wo, .ref sp1, .int (nM wa)])), (ta, .inr (5, [.ref tb, .int (nI ts)])), (tb, .inl (k 0, 80, .inl (aN B))), (ou, .inl (k 1, 1, .inr (.inl OU)))] sz) := by
  refine kMetH (by decide) (Nat.le_of_ble_eq_true rfl) ?_
  intro p e s m below meth c ls hO hZ htab hX hml hr hlocks hsz hW hl Q hQ
  generalize hAe : va_A [(wz, .inr (7, [.ref ta, .ref sv, .ref no, .ref pr, .ref ma, .ref se, .ref wo, .ref sp1, .int (nM wa)])), (ta, .inr (5, [.ref tb, .int (nI ts)])), (tb, .inl (k 0, 80, .inl (aN B))), (ou, .inl (k 1, 1, .inr (.inl OU)))] sz = A at hW hZ hQ
  generalize hH0 : s.heap = H at hW ⊢
  generalize hl1 : ([] : List Loc) = locs at hW ⊢
  have hX : FX p s m c [.ref wz, .long x, .int (nI n), .ref ou].toArray c_Lw_feed R_Lw := hX
  have hl : lv_has ls 6 [(0, .ref wz), (1, .long x), (3, .int (nI n)), (4, .ref ou)] := hl
  refine lv_aload hX.1 hX.2.1 d_Lw_feed_0 (lv_at hl 3 rfl) ?_
  refine lv_iconst (v := nI 0) hX.1 hX.2.1 d_Lw_feed_2 (by decide) ?_
  refine lv_aload_n hX.1 hX.2.1 d_Lw_feed_3 rfl (lv_at hl 0 rfl) ?_
  refine lv_lload_n hX.1 hX.2.1 d_Lw_feed_4 rfl (lv_at hl 1 rfl) ?_
  refine lv_iload_n hX.1 hX.2.1 d_Lw_feed_5 rfl (lv_at hl 2 rfl) ?_
  refine kxgo (wc := [(wz, .inr (7, [.ref ta, .ref sv, .ref no, .ref pr, .ref ma, .ref se, .ref wo, .ref sp1, .int (nM wa)])), (ta, .inr (5, [.ref tb, .int (nI ts)])), (tb, .inl (k 0, 80, .inl (aN B)))]) (E0 := xIS) (w1 := [(wz, .inr (7, [.ref ta, .ref sv, .ref no, .ref pr, .ref ma, .ref se, .ref wo, .ref sp1, .int (nM wa)])), (ta, .inr (5, [.ref tb, .int (nI ts)])), (tb, .inl (k 0, 80, .inl (aN B)))]) hW [0, 1, 2] (by rfl) (by exact (rfl : (3 : Nat) = 3)) (kxRunV (n := 2) (As := [.long x, .int (nI n)]) (rest := [.int (nI 0), .ref ou]) hX hO hZ hml hW (ok_Ws_feedFull l hl0 D k H.size wz ta sv no pr ma se wo sp1 wa tb ts B x n h1n hn hts hf) m_Lw_7 im_Ws_feed se_Ws_feed in_Ws cd_Ws_feed [0, 1, 2] rfl rfl rfl rfl (by decide +kernel) ⟨rfl, rfl, Nat.le_of_ble_eq_true rfl, Nat.le_of_ble_eq_true rfl⟩ rfl hl.1 rfl (Nat.le_of_ble_eq_true rfl) d_Lw_feed_6 ⟨by first | decide | omega, by first | decide | omega⟩) (fun ce q9 H locs hW hc1 hc2 hc3 => ?_)
  simp only [setAll, List.set_cons_zero, List.set_cons_succ] at hW
  have hW : KW D k A s [(wz, .inr (7, [.ref ta, .ref sv, .ref no, .ref pr, .ref ma, .ref se, .ref wo, .ref sp1, .int (nM wa)])), (ta, .inr (5, [.ref tb, .int (nI ts)])), (tb, .inl (k 0, 80, .inl (aN B))), (ou, .inl (k 1, 1, .inr (.inl OU)))] H locs := hW
  refine kcatch2 (E1 := xIA) hX hO htab (by decide) (by decide) (by decide) (by decide) xcS k_Lw_15 k_Lw_13 hO.2.2.2.2.2.2.2.2.2 hc1 hc2 hc3 ?_
  refine lv_astore (lv' := [(5, .ref q9), (0, .ref wz), (1, .long x), (3, .int (nI n)), (4, .ref ou)]) hX.1 hX.2.1 d_Lw_feed_18 hl (by decide) rfl (fun ls hl => ?_)
  refine lv_iconst (v := nI 2) hX.1 hX.2.1 d_Lw_feed_20 (by decide) ?_
  refine W.widen (k := 1) (n := 6) (by omega) (by omega) ?_
  exact kiret hX hr hlocks hQ () (hW) (rfl) d_Lw_feed_21
set_option maxHeartbeats 4000000 in
set_option maxRecDepth 100000 in
/-- least, refused -/
theorem ok_Lw_leastBad (l : Launch) (hl0 : l.stackTraces = false) (D : va_G) (k : Nat → ClassId) (sz : Nat) (wz ta sv no pr ma se wo sp1 wa : Nat) (ou : Nat) (OU : Nat → Int64) (x : Int32) (hx : isl x = false) : vx_Met l y_Lw_least (.codeWith y_Lw_least c_Lw_least 4 (some .int) [(0, 9, 12, 13)] :: wsU) ({ frames := 8, cells := 1, slots := 6, locals := 220 } : Room) (kPreX D k [.ref wz, .int x, .ref ou] [(wz, .inr (7, [.ref ta, .ref sv, .ref no, .ref pr, .ref ma, .ref se, .ref wo, .ref sp1, .int (nM wa)])), (ou, .inl (k 1, 1, .inr (.inl OU)))] sz) (va_Qi (fun (r : Int32) (_ : Unit) => r = nI 1) (kB D k (fun _ : Unit => [(wz, .inr (7, [.ref ta, .ref sv, .ref no, .ref pr, .ref ma, .ref se, .ref wo, .ref sp1, .int (nM wa)])), (ou, .inl (k 1, 1, .inr (.inl OU)))]) (va_A [(wz, .inr (7, [.ref ta, .ref sv, .ref no, .ref pr, .ref ma, .ref se, .ref wo, .ref sp1, .int (nM wa)])), (ou, .inl (k 1, 1, .inr (.inl OU)))] sz)) (va_A [(wz, .inr (7, [.ref ta, .ref sv, .ref no, .ref pr, .ref ma, .ref se, .ref wo, .ref sp1, .int (nM wa)])), (ou, .inl (k 1, 1, .inr (.inl OU)))] sz)) noX 1 6 (va_A [(wz, .inr (7, [.ref ta, .ref sv, .ref no, .ref pr, .ref ma, .ref se, .ref wo, .ref sp1, .int (nM wa)])), (ou, .inl (k 1, 1, .inr (.inl OU)))] sz) := by
  refine kMetH (by decide) (Nat.le_of_ble_eq_true rfl) ?_
  intro p e s m below meth c ls hO hZ htab hX hml hr hlocks hsz hW hl Q hQ
  generalize hAe : va_A [(wz, .inr (7, [.ref ta, .ref sv, .ref no, .ref pr, .ref ma, .ref se, .ref wo, .ref sp1, .int (nM wa)])), (ou, .inl (k 1, 1, .inr (.inl OU)))] sz = A at hW hZ hQ
  generalize hH0 : s.heap = H at hW ⊢
  generalize hl1 : ([] : List Loc) = locs at hW ⊢
  have hX : FX p s m c [.ref wz, .int x, .ref ou].toArray c_Lw_least R_Lw := hX
  have hl : lv_has ls 4 [(0, .ref wz), (1, .int x), (2, .ref ou)] := hl
  refine lv_aload_n hX.1 hX.2.1 d_Lw_least_0 rfl (lv_at hl 2 rfl) ?_
  refine lv_iconst (v := nI 0) hX.1 hX.2.1 d_Lw_least_1 (by decide) ?_
  refine lv_aload_n hX.1 hX.2.1 d_Lw_least_2 rfl (lv_at hl 0 rfl) ?_
  refine lv_iload_n hX.1 hX.2.1 d_Lw_least_3 rfl (lv_at hl 1 rfl) ?_
  refine kxgo (wc := [(wz, .inr (7, [.ref ta, .ref sv, .ref no, .ref pr, .ref ma, .ref se, .ref wo, .ref sp1, .int (nM wa)]))]) (E0 := xIA) (w1 := [(wz, .inr (7, [.ref ta, .ref sv, .ref no, .ref pr, .ref ma, .ref se, .ref wo, .ref sp1, .int (nM wa)]))]) hW [0] (by rfl) (by exact (rfl : (1 : Nat) = 1)) (kxRunV (n := 1) (As := [.int x]) (rest := [.int (nI 0), .ref ou]) hX hO hZ hml hW (ok_Ws_leastBad l hl0 D k H.size wz ta sv no pr ma se wo sp1 wa x hx) m_Lw_33 im_Ws_least se_Ws_least in_Ws cd_Ws_least [0] rfl rfl rfl rfl (by decide +kernel) ⟨rfl, rfl, Nat.le_of_ble_eq_true rfl, Nat.le_of_ble_eq_true rfl⟩ rfl hl.1 rfl (Nat.le_of_ble_eq_true rfl) d_Lw_least_4 ⟨by first | decide | omega, by first | decide | omega⟩) (fun ce q9 H locs hW hc1 hc2 hc3 => ?_)
  simp only [setAll, List.set_cons_zero, List.set_cons_succ] at hW
  have hW : KW D k A s [(wz, .inr (7, [.ref ta, .ref sv, .ref no, .ref pr, .ref ma, .ref se, .ref wo, .ref sp1, .int (nM wa)])), (ou, .inl (k 1, 1, .inr (.inl OU)))] H locs := hW
  refine kcatch hX hO htab (by decide) (by decide) (by decide) xcA k_Lw_13 hc1 hc2 hc3 ?_
  refine lv_astore_n (lv' := [(3, .ref q9), (0, .ref wz), (1, .int x), (2, .ref ou)]) hX.1 hX.2.1 d_Lw_least_12 rfl hl (by decide) rfl (fun ls hl => ?_)
  refine lv_iconst (v := nI 1) hX.1 hX.2.1 d_Lw_least_13 (by decide) ?_
  refine W.widen (k := 1) (n := 6) (by omega) (by omega) ?_
  exact kiret hX hr hlocks hQ () (hW) (rfl) d_Lw_least_14
set_option maxHeartbeats 4000000 in
set_option maxRecDepth 100000 in
/-- states, refused -/
theorem ok_Lw_statesBad (l : Launch) (hl0 : l.stackTraces = false) (D : va_G) (k : Nat → ClassId) (sz : Nat) (wz ta sv no pr ma se wo sp1 wa : Nat) (ou : Nat) (OU : Nat → Int64) (x : Int32) (hx : isl x = false) : vx_Met l y_Lw_states (.codeWith y_Lw_states c_Lw_states 4 (some .int) [(0, 9, 12, 13)] :: wsU) ({ frames := 8, cells := 1, slots := 6, locals := 220 } : Room) (kPreX D k [.ref wz, .int x, .ref ou] [(wz, .inr (7, [.ref ta, .ref sv, .ref no, .ref pr, .ref ma, .ref se, .ref wo, .ref sp1, .int (nM wa)])), (ou, .inl (k 1, 1, .inr (.inl OU)))] sz) (va_Qi (fun (r : Int32) (_ : Unit) => r = nI 1) (kB D k (fun _ : Unit => [(wz, .inr (7, [.ref ta, .ref sv, .ref no, .ref pr, .ref ma, .ref se, .ref wo, .ref sp1, .int (nM wa)])), (ou, .inl (k 1, 1, .inr (.inl OU)))]) (va_A [(wz, .inr (7, [.ref ta, .ref sv, .ref no, .ref pr, .ref ma, .ref se, .ref wo, .ref sp1, .int (nM wa)])), (ou, .inl (k 1, 1, .inr (.inl OU)))] sz)) (va_A [(wz, .inr (7, [.ref ta, .ref sv, .ref no, .ref pr, .ref ma, .ref se, .ref wo, .ref sp1, .int (nM wa)])), (ou, .inl (k 1, 1, .inr (.inl OU)))] sz)) noX 1 6 (va_A [(wz, .inr (7, [.ref ta, .ref sv, .ref no, .ref pr, .ref ma, .ref se, .ref wo, .ref sp1, .int (nM wa)])), (ou, .inl (k 1, 1, .inr (.inl OU)))] sz) := by
  refine kMetH (by decide) (Nat.le_of_ble_eq_true rfl) ?_
  intro p e s m below meth c ls hO hZ htab hX hml hr hlocks hsz hW hl Q hQ
  generalize hAe : va_A [(wz, .inr (7, [.ref ta, .ref sv, .ref no, .ref pr, .ref ma, .ref se, .ref wo, .ref sp1, .int (nM wa)])), (ou, .inl (k 1, 1, .inr (.inl OU)))] sz = A at hW hZ hQ
  generalize hH0 : s.heap = H at hW ⊢
  generalize hl1 : ([] : List Loc) = locs at hW ⊢
  have hX : FX p s m c [.ref wz, .int x, .ref ou].toArray c_Lw_states R_Lw := hX
  have hl : lv_has ls 4 [(0, .ref wz), (1, .int x), (2, .ref ou)] := hl
  refine lv_aload_n hX.1 hX.2.1 d_Lw_states_0 rfl (lv_at hl 2 rfl) ?_
  refine lv_iconst (v := nI 0) hX.1 hX.2.1 d_Lw_states_1 (by decide) ?_
  refine lv_aload_n hX.1 hX.2.1 d_Lw_states_2 rfl (lv_at hl 0 rfl) ?_
  refine lv_iload_n hX.1 hX.2.1 d_Lw_states_3 rfl (lv_at hl 1 rfl) ?_
  refine kxgo (wc := [(wz, .inr (7, [.ref ta, .ref sv, .ref no, .ref pr, .ref ma, .ref se, .ref wo, .ref sp1, .int (nM wa)]))]) (E0 := xIA) (w1 := [(wz, .inr (7, [.ref ta, .ref sv, .ref no, .ref pr, .ref ma, .ref se, .ref wo, .ref sp1, .int (nM wa)]))]) hW [0] (by rfl) (by exact (rfl : (1 : Nat) = 1)) (kxRunV (n := 1) (As := [.int x]) (rest := [.int (nI 0), .ref ou]) hX hO hZ hml hW (ok_Ws_statesBad l hl0 D k H.size wz ta sv no pr ma se wo sp1 wa x hx) m_Lw_44 im_Ws_states se_Ws_states in_Ws cd_Ws_states [0] rfl rfl rfl rfl (by decide +kernel) ⟨rfl, rfl, Nat.le_of_ble_eq_true rfl, Nat.le_of_ble_eq_true rfl⟩ rfl hl.1 rfl (Nat.le_of_ble_eq_true rfl) d_Lw_states_4 ⟨by first | decide | omega, by first | decide | omega⟩) (fun ce q9 H locs hW hc1 hc2 hc3 => ?_)
  simp only [setAll, List.set_cons_zero, List.set_cons_succ] at hW
  have hW : KW D k A s [(wz, .inr (7, [.ref ta, .ref sv, .ref no, .ref pr, .ref ma, .ref se, .ref wo, .ref sp1, .int (nM wa)])), (ou, .inl (k 1, 1, .inr (.inl OU)))] H locs := hW
  refine kcatch hX hO htab (by decide) (by decide) (by decide) xcA k_Lw_13 hc1 hc2 hc3 ?_
  refine lv_astore_n (lv' := [(3, .ref q9), (0, .ref wz), (1, .int x), (2, .ref ou)]) hX.1 hX.2.1 d_Lw_states_12 rfl hl (by decide) rfl (fun ls hl => ?_)
  refine lv_iconst (v := nI 1) hX.1 hX.2.1 d_Lw_states_13 (by decide) ?_
  refine W.widen (k := 1) (n := 6) (by omega) (by omega) ?_
  exact kiret hX hr hlocks hQ () (hW) (rfl) d_Lw_states_14
set_option maxHeartbeats 4000000 in
set_option maxRecDepth 100000 in
/-- compare, refused -/
theorem ok_Lw_compareBad (l : Launch) (hl0 : l.stackTraces = false) (D : va_G) (k : Nat → ClassId) (sz : Nat) (wz ta sv no pr ma se wo sp1 wa : Nat) (ou : Nat) (OU : Nat → Int64) (x y : Int32) (hx : (isl x && isl y) = false) : vx_Met l y_Lw_compare (.codeWith y_Lw_compare c_Lw_compare 5 (some .int) [(0, 10, 13, 13)] :: wsU) ({ frames := 8, cells := 1, slots := 6, locals := 220 } : Room) (kPreX D k [.ref wz, .int x, .int y, .ref ou] [(wz, .inr (7, [.ref ta, .ref sv, .ref no, .ref pr, .ref ma, .ref se, .ref wo, .ref sp1, .int (nM wa)])), (ou, .inl (k 1, 1, .inr (.inl OU)))] sz) (va_Qi (fun (r : Int32) (_ : Unit) => r = nI 1) (kB D k (fun _ : Unit => [(wz, .inr (7, [.ref ta, .ref sv, .ref no, .ref pr, .ref ma, .ref se, .ref wo, .ref sp1, .int (nM wa)])), (ou, .inl (k 1, 1, .inr (.inl OU)))]) (va_A [(wz, .inr (7, [.ref ta, .ref sv, .ref no, .ref pr, .ref ma, .ref se, .ref wo, .ref sp1, .int (nM wa)])), (ou, .inl (k 1, 1, .inr (.inl OU)))] sz)) (va_A [(wz, .inr (7, [.ref ta, .ref sv, .ref no, .ref pr, .ref ma, .ref se, .ref wo, .ref sp1, .int (nM wa)])), (ou, .inl (k 1, 1, .inr (.inl OU)))] sz)) noX 1 6 (va_A [(wz, .inr (7, [.ref ta, .ref sv, .ref no, .ref pr, .ref ma, .ref se, .ref wo, .ref sp1, .int (nM wa)])), (ou, .inl (k 1, 1, .inr (.inl OU)))] sz) := by
  refine kMetH (by decide) (Nat.le_of_ble_eq_true rfl) ?_
  intro p e s m below meth c ls hO hZ htab hX hml hr hlocks hsz hW hl Q hQ
  generalize hAe : va_A [(wz, .inr (7, [.ref ta, .ref sv, .ref no, .ref pr, .ref ma, .ref se, .ref wo, .ref sp1, .int (nM wa)])), (ou, .inl (k 1, 1, .inr (.inl OU)))] sz = A at hW hZ hQ
  generalize hH0 : s.heap = H at hW ⊢
  generalize hl1 : ([] : List Loc) = locs at hW ⊢
  have hX : FX p s m c [.ref wz, .int x, .int y, .ref ou].toArray c_Lw_compare R_Lw := hX
  have hl : lv_has ls 5 [(0, .ref wz), (1, .int x), (2, .int y), (3, .ref ou)] := hl
  refine lv_aload_n hX.1 hX.2.1 d_Lw_compare_0 rfl (lv_at hl 3 rfl) ?_
  refine lv_iconst (v := nI 0) hX.1 hX.2.1 d_Lw_compare_1 (by decide) ?_
  refine lv_aload_n hX.1 hX.2.1 d_Lw_compare_2 rfl (lv_at hl 0 rfl) ?_
  refine lv_iload_n hX.1 hX.2.1 d_Lw_compare_3 rfl (lv_at hl 1 rfl) ?_
  refine lv_iload_n hX.1 hX.2.1 d_Lw_compare_4 rfl (lv_at hl 2 rfl) ?_
  refine kxgo (wc := [(wz, .inr (7, [.ref ta, .ref sv, .ref no, .ref pr, .ref ma, .ref se, .ref wo, .ref sp1, .int (nM wa)]))]) (E0 := xIA) (w1 := [(wz, .inr (7, [.ref ta, .ref sv, .ref no, .ref pr, .ref ma, .ref se, .ref wo, .ref sp1, .int (nM wa)]))]) hW [0] (by rfl) (by exact (rfl : (1 : Nat) = 1)) (kxRunV (n := 2) (As := [.int x, .int y]) (rest := [.int (nI 0), .ref ou]) hX hO hZ hml hW (ok_Ws_compareBad l hl0 D k H.size wz ta sv no pr ma se wo sp1 wa x y hx) m_Lw_25 im_Ws_compare se_Ws_compare in_Ws cd_Ws_compare [0] rfl rfl rfl rfl (by decide +kernel) ⟨rfl, rfl, Nat.le_of_ble_eq_true rfl, Nat.le_of_ble_eq_true rfl⟩ rfl hl.1 rfl (Nat.le_of_ble_eq_true rfl) d_Lw_compare_5 ⟨by first | decide | omega, by first | decide | omega⟩) (fun ce q9 H locs hW hc1 hc2 hc3 => ?_)
  simp only [setAll, List.set_cons_zero, List.set_cons_succ] at hW
  have hW : KW D k A s [(wz, .inr (7, [.ref ta, .ref sv, .ref no, .ref pr, .ref ma, .ref se, .ref wo, .ref sp1, .int (nM wa)])), (ou, .inl (k 1, 1, .inr (.inl OU)))] H locs := hW
  refine kcatch hX hO htab (by decide) (by decide) (by decide) xcA k_Lw_13 hc1 hc2 hc3 ?_
  refine lv_astore (lv' := [(4, .ref q9), (0, .ref wz), (1, .int x), (2, .int y), (3, .ref ou)]) hX.1 hX.2.1 d_Lw_compare_13 hl (by decide) rfl (fun ls hl => ?_)
  refine lv_iconst (v := nI 1) hX.1 hX.2.1 d_Lw_compare_15 (by decide) ?_
  refine W.widen (k := 1) (n := 6) (by omega) (by omega) ?_
  exact kiret hX hr hlocks hQ () (hW) (rfl) d_Lw_compare_16
set_option maxHeartbeats 4000000 in
set_option maxRecDepth 100000 in
/-- contains, refused -/
theorem ok_Lw_containsBad (l : Launch) (hl0 : l.stackTraces = false) (D : va_G) (k : Nat → ClassId) (sz : Nat) (wz ta sv no pr ma se wo sp1 wa : Nat) (ou : Nat) (OU : Nat → Int64) (x y : Int32) (hx : (isl x && isl y) = false) : vx_Met l y_Lw_contains (.codeWith y_Lw_contains c_Lw_contains 5 (some .int) [(0, 17, 20, 13)] :: wsU) ({ frames := 8, cells := 1, slots := 6, locals := 220 } : Room) (kPreX D k [.ref wz, .int x, .int y, .ref ou] [(wz, .inr (7, [.ref ta, .ref sv, .ref no, .ref pr, .ref ma, .ref se, .ref wo, .ref sp1, .int (nM wa)])), (ou, .inl (k 1, 1, .inr (.inl OU)))] sz) (va_Qi (fun (r : Int32) (_ : Unit) => r = nI 1) (kB D k (fun _ : Unit => [(wz, .inr (7, [.ref ta, .ref sv, .ref no, .ref pr, .ref ma, .ref se, .ref wo, .ref sp1, .int (nM wa)])), (ou, .inl (k 1, 1, .inr (.inl OU)))]) (va_A [(wz, .inr (7, [.ref ta, .ref sv, .ref no, .ref pr, .ref ma, .ref se, .ref wo, .ref sp1, .int (nM wa)])), (ou, .inl (k 1, 1, .inr (.inl OU)))] sz)) (va_A [(wz, .inr (7, [.ref ta, .ref sv, .ref no, .ref pr, .ref ma, .ref se, .ref wo, .ref sp1, .int (nM wa)])), (ou, .inl (k 1, 1, .inr (.inl OU)))] sz)) noX 1 6 (va_A [(wz, .inr (7, [.ref ta, .ref sv, .ref no, .ref pr, .ref ma, .ref se, .ref wo, .ref sp1, .int (nM wa)])), (ou, .inl (k 1, 1, .inr (.inl OU)))] sz) := by
  refine kMetH (by decide) (Nat.le_of_ble_eq_true rfl) ?_
  intro p e s m below meth c ls hO hZ htab hX hml hr hlocks hsz hW hl Q hQ
  generalize hAe : va_A [(wz, .inr (7, [.ref ta, .ref sv, .ref no, .ref pr, .ref ma, .ref se, .ref wo, .ref sp1, .int (nM wa)])), (ou, .inl (k 1, 1, .inr (.inl OU)))] sz = A at hW hZ hQ
  generalize hH0 : s.heap = H at hW ⊢
  generalize hl1 : ([] : List Loc) = locs at hW ⊢
  have hX : FX p s m c [.ref wz, .int x, .int y, .ref ou].toArray c_Lw_contains R_Lw := hX
  have hl : lv_has ls 5 [(0, .ref wz), (1, .int x), (2, .int y), (3, .ref ou)] := hl
  refine lv_aload_n hX.1 hX.2.1 d_Lw_contains_0 rfl (lv_at hl 3 rfl) ?_
  refine lv_iconst (v := nI 0) hX.1 hX.2.1 d_Lw_contains_1 (by decide) ?_
  refine lv_aload_n hX.1 hX.2.1 d_Lw_contains_2 rfl (lv_at hl 0 rfl) ?_
  refine lv_iload_n hX.1 hX.2.1 d_Lw_contains_3 rfl (lv_at hl 1 rfl) ?_
  refine lv_iload_n hX.1 hX.2.1 d_Lw_contains_4 rfl (lv_at hl 2 rfl) ?_
  refine kxgo (wc := [(wz, .inr (7, [.ref ta, .ref sv, .ref no, .ref pr, .ref ma, .ref se, .ref wo, .ref sp1, .int (nM wa)]))]) (E0 := xIA) (w1 := [(wz, .inr (7, [.ref ta, .ref sv, .ref no, .ref pr, .ref ma, .ref se, .ref wo, .ref sp1, .int (nM wa)]))]) hW [0] (by rfl) (by exact (rfl : (1 : Nat) = 1)) (kxRunV (n := 2) (As := [.int x, .int y]) (rest := [.int (nI 0), .ref ou]) hX hO hZ hml hW (ok_Ws_containsBad l hl0 D k H.size wz ta sv no pr ma se wo sp1 wa x y hx) m_Lw_29 im_Ws_contains se_Ws_contains in_Ws cd_Ws_contains [0] rfl rfl rfl rfl (by decide +kernel) ⟨rfl, rfl, Nat.le_of_ble_eq_true rfl, Nat.le_of_ble_eq_true rfl⟩ rfl hl.1 rfl (Nat.le_of_ble_eq_true rfl) d_Lw_contains_5 ⟨by first | decide | omega, by first | decide | omega⟩) (fun ce q9 H locs hW hc1 hc2 hc3 => ?_)
  simp only [setAll, List.set_cons_zero, List.set_cons_succ] at hW
  have hW : KW D k A s [(wz, .inr (7, [.ref ta, .ref sv, .ref no, .ref pr, .ref ma, .ref se, .ref wo, .ref sp1, .int (nM wa)])), (ou, .inl (k 1, 1, .inr (.inl OU)))] H locs := hW
  refine kcatch hX hO htab (by decide) (by decide) (by decide) xcA k_Lw_13 hc1 hc2 hc3 ?_
  refine lv_astore (lv' := [(4, .ref q9), (0, .ref wz), (1, .int x), (2, .int y), (3, .ref ou)]) hX.1 hX.2.1 d_Lw_contains_20 hl (by decide) rfl (fun ls hl => ?_)
  refine lv_iconst (v := nI 1) hX.1 hX.2.1 d_Lw_contains_22 (by decide) ?_
  refine W.widen (k := 1) (n := 6) (by omega) (by omega) ?_
  exact kiret hX hr hlocks hQ () (hW) (rfl) d_Lw_contains_23
set_option maxHeartbeats 4000000 in
set_option maxRecDepth 100000 in
/-- turn, refused -/
theorem ok_Lw_turnBad (l : Launch) (hl0 : l.stackTraces = false) (D : va_G) (k : Nat → ClassId) (sz : Nat) (wz ta sv no pr ma se wo sp1 wa : Nat) (ou : Nat) (OU : Nat → Int64) (x y : Int32) (hx : (isl x && isl y) = false) : vx_Met l y_Lw_turn (.codeWith y_Lw_turn c_Lw_turn 4 (some .int) [(0, 6, 9, 13)] :: wsU) ({ frames := 8, cells := 1, slots := 6, locals := 220 } : Room) (kPreX D k [.ref wz, .int x, .int y] [(wz, .inr (7, [.ref ta, .ref sv, .ref no, .ref pr, .ref ma, .ref se, .ref wo, .ref sp1, .int (nM wa)])), (ou, .inl (k 1, 1, .inr (.inl OU)))] sz) (va_Qi (fun (r : Int32) (_ : Unit) => r = nI 1) (kB D k (fun _ : Unit => [(wz, .inr (7, [.ref ta, .ref sv, .ref no, .ref pr, .ref ma, .ref se, .ref wo, .ref sp1, .int (nM wa)])), (ou, .inl (k 1, 1, .inr (.inl OU)))]) (va_A [(wz, .inr (7, [.ref ta, .ref sv, .ref no, .ref pr, .ref ma, .ref se, .ref wo, .ref sp1, .int (nM wa)])), (ou, .inl (k 1, 1, .inr (.inl OU)))] sz)) (va_A [(wz, .inr (7, [.ref ta, .ref sv, .ref no, .ref pr, .ref ma, .ref se, .ref wo, .ref sp1, .int (nM wa)])), (ou, .inl (k 1, 1, .inr (.inl OU)))] sz)) noX 1 6 (va_A [(wz, .inr (7, [.ref ta, .ref sv, .ref no, .ref pr, .ref ma, .ref se, .ref wo, .ref sp1, .int (nM wa)])), (ou, .inl (k 1, 1, .inr (.inl OU)))] sz) := by
  refine kMetH (by decide) (Nat.le_of_ble_eq_true rfl) ?_
  intro p e s m below meth c ls hO hZ htab hX hml hr hlocks hsz hW hl Q hQ
  generalize hAe : va_A [(wz, .inr (7, [.ref ta, .ref sv, .ref no, .ref pr, .ref ma, .ref se, .ref wo, .ref sp1, .int (nM wa)])), (ou, .inl (k 1, 1, .inr (.inl OU)))] sz = A at hW hZ hQ
  generalize hH0 : s.heap = H at hW ⊢
  generalize hl1 : ([] : List Loc) = locs at hW ⊢
  have hX : FX p s m c [.ref wz, .int x, .int y].toArray c_Lw_turn R_Lw := hX
  have hl : lv_has ls 4 [(0, .ref wz), (1, .int x), (2, .int y)] := hl
  refine lv_aload_n hX.1 hX.2.1 d_Lw_turn_0 rfl (lv_at hl 0 rfl) ?_
  refine lv_iload_n hX.1 hX.2.1 d_Lw_turn_1 rfl (lv_at hl 1 rfl) ?_
  refine lv_iload_n hX.1 hX.2.1 d_Lw_turn_2 rfl (lv_at hl 2 rfl) ?_
  refine kxgo (wc := [(wz, .inr (7, [.ref ta, .ref sv, .ref no, .ref pr, .ref ma, .ref se, .ref wo, .ref sp1, .int (nM wa)]))]) (E0 := xIA) (w1 := [(wz, .inr (7, [.ref ta, .ref sv, .ref no, .ref pr, .ref ma, .ref se, .ref wo, .ref sp1, .int (nM wa)]))]) hW [0] (by rfl) (by exact (rfl : (1 : Nat) = 1)) (kxRunV (n := 2) (As := [.int x, .int y]) (rest := []) hX hO hZ hml hW (ok_Ws_turnBad l hl0 D k H.size wz ta sv no pr ma se wo sp1 wa x y hx) m_Lw_47 im_Ws_turn se_Ws_turn in_Ws cd_Ws_turn [0] rfl rfl rfl rfl (by decide +kernel) ⟨rfl, rfl, Nat.le_of_ble_eq_true rfl, Nat.le_of_ble_eq_true rfl⟩ rfl hl.1 rfl (Nat.le_of_ble_eq_true rfl) d_Lw_turn_3 ⟨by first | decide | omega, by first | decide | omega⟩) (fun ce q9 H locs hW hc1 hc2 hc3 => ?_)
  simp only [setAll, List.set_cons_zero, List.set_cons_succ] at hW
  have hW : KW D k A s [(wz, .inr (7, [.ref ta, .ref sv, .ref no, .ref pr, .ref ma, .ref se, .ref wo, .ref sp1, .int (nM wa)])), (ou, .inl (k 1, 1, .inr (.inl OU)))] H locs := hW
  refine kcatch hX hO htab (by decide) (by decide) (by decide) xcA k_Lw_13 hc1 hc2 hc3 ?_
  refine lv_astore_n (lv' := [(3, .ref q9), (0, .ref wz), (1, .int x), (2, .int y)]) hX.1 hX.2.1 d_Lw_turn_9 rfl hl (by decide) rfl (fun ls hl => ?_)
  refine lv_iconst (v := nI 1) hX.1 hX.2.1 d_Lw_turn_10 (by decide) ?_
  refine W.widen (k := 1) (n := 6) (by omega) (by omega) ?_
  exact kiret hX hr hlocks hQ () (hW) (rfl) d_Lw_turn_11
set_option maxHeartbeats 4000000 in
set_option maxRecDepth 100000 in
/-- count, refused -/
theorem ok_Lw_countBad (l : Launch) (hl0 : l.stackTraces = false) (D : va_G) (k : Nat → ClassId) (sz : Nat) (wz ta sv no pr ma se wo sp1 wa : Nat) (ou : Nat) (OU : Nat → Int64) (x y : Int32) (hx : (isl x && decide (nI 0 ≤ y ∧ y ≤ nI 30)) = false) : vx_Met l y_Lw_count (.codeWith y_Lw_count c_Lw_count 5 (some .int) [(0, 9, 12, 13)] :: wsU) ({ frames := 8, cells := 1, slots := 6, locals := 220 } : Room) (kPreX D k [.ref wz, .int x, .int y, .ref ou] [(wz, .inr (7, [.ref ta, .ref sv, .ref no, .ref pr, .ref ma, .ref se, .ref wo, .ref sp1, .int (nM wa)])), (ou, .inl (k 1, 1, .inr (.inl OU)))] sz) (va_Qi (fun (r : Int32) (_ : Unit) => r = nI 1) (kB D k (fun _ : Unit => [(wz, .inr (7, [.ref ta, .ref sv, .ref no, .ref pr, .ref ma, .ref se, .ref wo, .ref sp1, .int (nM wa)])), (ou, .inl (k 1, 1, .inr (.inl OU)))]) (va_A [(wz, .inr (7, [.ref ta, .ref sv, .ref no, .ref pr, .ref ma, .ref se, .ref wo, .ref sp1, .int (nM wa)])), (ou, .inl (k 1, 1, .inr (.inl OU)))] sz)) (va_A [(wz, .inr (7, [.ref ta, .ref sv, .ref no, .ref pr, .ref ma, .ref se, .ref wo, .ref sp1, .int (nM wa)])), (ou, .inl (k 1, 1, .inr (.inl OU)))] sz)) noX 1 6 (va_A [(wz, .inr (7, [.ref ta, .ref sv, .ref no, .ref pr, .ref ma, .ref se, .ref wo, .ref sp1, .int (nM wa)])), (ou, .inl (k 1, 1, .inr (.inl OU)))] sz) := by
  refine kMetH (by decide) (Nat.le_of_ble_eq_true rfl) ?_
  intro p e s m below meth c ls hO hZ htab hX hml hr hlocks hsz hW hl Q hQ
  generalize hAe : va_A [(wz, .inr (7, [.ref ta, .ref sv, .ref no, .ref pr, .ref ma, .ref se, .ref wo, .ref sp1, .int (nM wa)])), (ou, .inl (k 1, 1, .inr (.inl OU)))] sz = A at hW hZ hQ
  generalize hH0 : s.heap = H at hW ⊢
  generalize hl1 : ([] : List Loc) = locs at hW ⊢
  have hX : FX p s m c [.ref wz, .int x, .int y, .ref ou].toArray c_Lw_count R_Lw := hX
  have hl : lv_has ls 5 [(0, .ref wz), (1, .int x), (2, .int y), (3, .ref ou)] := hl
  refine lv_aload_n hX.1 hX.2.1 d_Lw_count_0 rfl (lv_at hl 3 rfl) ?_
  refine lv_iconst (v := nI 0) hX.1 hX.2.1 d_Lw_count_1 (by decide) ?_
  refine lv_aload_n hX.1 hX.2.1 d_Lw_count_2 rfl (lv_at hl 0 rfl) ?_
  refine lv_iload_n hX.1 hX.2.1 d_Lw_count_3 rfl (lv_at hl 1 rfl) ?_
  refine lv_iload_n hX.1 hX.2.1 d_Lw_count_4 rfl (lv_at hl 2 rfl) ?_
  refine kxgo (wc := [(wz, .inr (7, [.ref ta, .ref sv, .ref no, .ref pr, .ref ma, .ref se, .ref wo, .ref sp1, .int (nM wa)]))]) (E0 := xIA) (w1 := [(wz, .inr (7, [.ref ta, .ref sv, .ref no, .ref pr, .ref ma, .ref se, .ref wo, .ref sp1, .int (nM wa)]))]) hW [0] (by rfl) (by exact (rfl : (1 : Nat) = 1)) (kxRunV (n := 2) (As := [.int x, .int y]) (rest := [.int (nI 0), .ref ou]) hX hO hZ hml hW (ok_Ws_countBad l hl0 D k H.size wz ta sv no pr ma se wo sp1 wa x y hx) m_Lw_36 im_Ws_count se_Ws_count in_Ws cd_Ws_count [0] rfl rfl rfl rfl (by decide +kernel) ⟨rfl, rfl, Nat.le_of_ble_eq_true rfl, Nat.le_of_ble_eq_true rfl⟩ rfl hl.1 rfl (Nat.le_of_ble_eq_true rfl) d_Lw_count_5 ⟨by first | decide | omega, by first | decide | omega⟩) (fun ce q9 H locs hW hc1 hc2 hc3 => ?_)
  simp only [setAll, List.set_cons_zero, List.set_cons_succ] at hW
  have hW : KW D k A s [(wz, .inr (7, [.ref ta, .ref sv, .ref no, .ref pr, .ref ma, .ref se, .ref wo, .ref sp1, .int (nM wa)])), (ou, .inl (k 1, 1, .inr (.inl OU)))] H locs := hW
  refine kcatch hX hO htab (by decide) (by decide) (by decide) xcA k_Lw_13 hc1 hc2 hc3 ?_
  refine lv_astore (lv' := [(4, .ref q9), (0, .ref wz), (1, .int x), (2, .int y), (3, .ref ou)]) hX.1 hX.2.1 d_Lw_count_12 hl (by decide) rfl (fun ls hl => ?_)
  refine lv_iconst (v := nI 1) hX.1 hX.2.1 d_Lw_count_14 (by decide) ?_
  refine W.widen (k := 1) (n := 6) (by omega) (by omega) ?_
  exact kiret hX hr hlocks hQ () (hW) (rfl) d_Lw_count_15
set_option maxHeartbeats 4000000 in
set_option maxRecDepth 100000 in
/-- word, refused -/
theorem ok_Lw_wordBad (l : Launch) (hl0 : l.stackTraces = false) (D : va_G) (k : Nat → ClassId) (sz : Nat) (wz ta sv no pr ma se wo sp1 wa : Nat) (ou : Nat) (OU : Nat → Int64) (x y : Int32) (kx : Int64) (hx : (isl x && (decide (nI 0 ≤ y ∧ y ≤ nI 30) && decide (lN 0 ≤ kx))) = false) : vx_Met l y_Lw_word (.codeWith y_Lw_word c_Lw_word 7 (some .int) [(0, 19, 22, 13)] :: wsU) ({ frames := 8, cells := 1, slots := 6, locals := 220 } : Room) (kPreX D k [.ref wz, .int x, .int y, .long kx, .ref ou] [(wz, .inr (7, [.ref ta, .ref sv, .ref no, .ref pr, .ref ma, .ref se, .ref wo, .ref sp1, .int (nM wa)])), (ou, .inl (k 1, 1, .inr (.inl OU)))] sz) (va_Qi (fun (r : Int32) (_ : Unit) => r = nI 1) (kB D k (fun _ : Unit => [(wz, .inr (7, [.ref ta, .ref sv, .ref no, .ref pr, .ref ma, .ref se, .ref wo, .ref sp1, .int (nM wa)])), (ou, .inl (k 1, 1, .inr (.inl OU)))]) (va_A [(wz, .inr (7, [.ref ta, .ref sv, .ref no, .ref pr, .ref ma, .ref se, .ref wo, .ref sp1, .int (nM wa)])), (ou, .inl (k 1, 1, .inr (.inl OU)))] sz)) (va_A [(wz, .inr (7, [.ref ta, .ref sv, .ref no, .ref pr, .ref ma, .ref se, .ref wo, .ref sp1, .int (nM wa)])), (ou, .inl (k 1, 1, .inr (.inl OU)))] sz)) noX 1 6 (va_A [(wz, .inr (7, [.ref ta, .ref sv, .ref no, .ref pr, .ref ma, .ref se, .ref wo, .ref sp1, .int (nM wa)])), (ou, .inl (k 1, 1, .inr (.inl OU)))] sz) := by
  refine kMetH (by decide) (Nat.le_of_ble_eq_true rfl) ?_
  intro p e s m below meth c ls hO hZ htab hX hml hr hlocks hsz hW hl Q hQ
  generalize hAe : va_A [(wz, .inr (7, [.ref ta, .ref sv, .ref no, .ref pr, .ref ma, .ref se, .ref wo, .ref sp1, .int (nM wa)])), (ou, .inl (k 1, 1, .inr (.inl OU)))] sz = A at hW hZ hQ
  generalize hH0 : s.heap = H at hW ⊢
  generalize hl1 : ([] : List Loc) = locs at hW ⊢
  have hX : FX p s m c [.ref wz, .int x, .int y, .long kx, .ref ou].toArray c_Lw_word R_Lw := hX
  have hl : lv_has ls 7 [(0, .ref wz), (1, .int x), (2, .int y), (3, .long kx), (5, .ref ou)] := hl
  refine lv_aload hX.1 hX.2.1 d_Lw_word_0 (lv_at hl 4 rfl) ?_
  refine lv_iconst (v := nI 0) hX.1 hX.2.1 d_Lw_word_2 (by decide) ?_
  refine lv_aload_n hX.1 hX.2.1 d_Lw_word_3 rfl (lv_at hl 0 rfl) ?_
  refine lv_iload_n hX.1 hX.2.1 d_Lw_word_4 rfl (lv_at hl 1 rfl) ?_
  refine lv_iload_n hX.1 hX.2.1 d_Lw_word_5 rfl (lv_at hl 2 rfl) ?_
  refine lv_lload_n hX.1 hX.2.1 d_Lw_word_6 rfl (lv_at hl 3 rfl) ?_
  refine kxgo (wc := [(wz, .inr (7, [.ref ta, .ref sv, .ref no, .ref pr, .ref ma, .ref se, .ref wo, .ref sp1, .int (nM wa)]))]) (E0 := xIA) (w1 := [(wz, .inr (7, [.ref ta, .ref sv, .ref no, .ref pr, .ref ma, .ref se, .ref wo, .ref sp1, .int (nM wa)]))]) hW [0] (by rfl) (by exact (rfl : (1 : Nat) = 1)) (kxRunV (n := 3) (As := [.int x, .int y, .long kx]) (rest := [.int (nI 0), .ref ou]) hX hO hZ hml hW (ok_Ws_wordBad l hl0 D k H.size wz ta sv no pr ma se wo sp1 wa x y kx hx) m_Lw_40 im_Ws_word se_Ws_word in_Ws cd_Ws_word [0] rfl rfl rfl rfl (by decide +kernel) ⟨rfl, rfl, Nat.le_of_ble_eq_true rfl, Nat.le_of_ble_eq_true rfl⟩ rfl hl.1 rfl (Nat.le_of_ble_eq_true rfl) d_Lw_word_7 ⟨by first | decide | omega, by first | decide | omega⟩) (fun ce q9 H locs hW hc1 hc2 hc3 => ?_)
  simp only [setAll, List.set_cons_zero, List.set_cons_succ] at hW
  have hW : KW D k A s [(wz, .inr (7, [.ref ta, .ref sv, .ref no, .ref pr, .ref ma, .ref se, .ref wo, .ref sp1, .int (nM wa)])), (ou, .inl (k 1, 1, .inr (.inl OU)))] H locs := hW
  refine kcatch hX hO htab (by decide) (by decide) (by decide) xcA k_Lw_13 hc1 hc2 hc3 ?_
  refine lv_astore (lv' := [(6, .ref q9), (0, .ref wz), (1, .int x), (2, .int y), (3, .long kx), (5, .ref ou)]) hX.1 hX.2.1 d_Lw_word_22 hl (by decide) rfl (fun ls hl => ?_)
  refine lv_iconst (v := nI 1) hX.1 hX.2.1 d_Lw_word_24 (by decide) ?_
  refine W.widen (k := 1) (n := 6) (by omega) (by omega) ?_
  exact kiret hX hr hlocks hQ () (hW) (rfl) d_Lw_word_25
set_option maxHeartbeats 4000000 in
set_option maxRecDepth 100000 in
/-- letter, refused -/
theorem ok_Lw_letterBad (l : Launch) (hl0 : l.stackTraces = false) (D : va_G) (k : Nat → ClassId) (sz : Nat) (wz ta sv no pr ma se wo sp1 wa : Nat) (ou : Nat) (OU : Nat → Int64) (wl y cp : Nat) (L : Nat → Nat) (x : Int32) (hy : y < 2 ^ 20) (hx : ¬ (nI 0 ≤ x ∧ x ≤ nM y)) : vx_Met l y_Lw_letter (.codeWith y_Lw_letter c_Lw_letter 4 (some .int) [(0, 9, 12, 54)] :: wsU) ({ frames := 8, cells := 1, slots := 6, locals := 220 } : Room) (kPreX D k [.ref wz, .int x, .ref ou] [(wz, .inr (7, [.ref ta, .ref sv, .ref no, .ref pr, .ref ma, .ref se, .ref wo, .ref sp1, .int (nM wa)])), (wo, .inr (6, [.ref wl, .int (nI y)])), (wl, .inl (k 0, cp, .inl (aN L))), (ou, .inl (k 1, 1, .inr (.inl OU)))] sz) (va_Qi (fun (r : Int32) (_ : Unit) => r = nI 1) (kB D k (fun _ : Unit => [(wz, .inr (7, [.ref ta, .ref sv, .ref no, .ref pr, .ref ma, .ref se, .ref wo, .ref sp1, .int (nM wa)])), (wo, .inr (6, [.ref wl, .int (nI y)])), (wl, .inl (k 0, cp, .inl (aN L))), (ou, .inl (k 1, 1, .inr (.inl OU)))]) (va_A [(wz, .inr (7, [.ref ta, .ref sv, .ref no, .ref pr, .ref ma, .ref se, .ref wo, .ref sp1, .int (nM wa)])), (wo, .inr (6, [.ref wl, .int (nI y)])), (wl, .inl (k 0, cp, .inl (aN L))), (ou, .inl (k 1, 1, .inr (.inl OU)))] sz)) (va_A [(wz, .inr (7, [.ref ta, .ref sv, .ref no, .ref pr, .ref ma, .ref se, .ref wo, .ref sp1, .int (nM wa)])), (wo, .inr (6, [.ref wl, .int (nI y)])), (wl, .inl (k 0, cp, .inl (aN L))), (ou, .inl (k 1, 1, .inr (.inl OU)))] sz)) noX 1 6 (va_A [(wz, .inr (7, [.ref ta, .ref sv, .ref no, .ref pr, .ref ma, .ref se, .ref wo, .ref sp1, .int (nM wa)])), (wo, .inr (6, [.ref wl, .int (nI y)])), (wl, .inl (k 0, cp, .inl (aN L))), (ou, .inl (k 1, 1, .inr (.inl OU)))] sz) := by
  refine kMetH (by decide) (Nat.le_of_ble_eq_true rfl) ?_
  intro p e s m below meth c ls hO hZ htab hX hml hr hlocks hsz hW hl Q hQ
  generalize hAe : va_A [(wz, .inr (7, [.ref ta, .ref sv, .ref no, .ref pr, .ref ma, .ref se, .ref wo, .ref sp1, .int (nM wa)])), (wo, .inr (6, [.ref wl, .int (nI y)])), (wl, .inl (k 0, cp, .inl (aN L))), (ou, .inl (k 1, 1, .inr (.inl OU)))] sz = A at hW hZ hQ
  generalize hH0 : s.heap = H at hW ⊢
  generalize hl1 : ([] : List Loc) = locs at hW ⊢
  have hX : FX p s m c [.ref wz, .int x, .ref ou].toArray c_Lw_letter R_Lw := hX
  have hl : lv_has ls 4 [(0, .ref wz), (1, .int x), (2, .ref ou)] := hl
  refine lv_aload_n hX.1 hX.2.1 d_Lw_letter_0 rfl (lv_at hl 2 rfl) ?_
  refine lv_iconst (v := nI 0) hX.1 hX.2.1 d_Lw_letter_1 (by decide) ?_
  refine lv_aload_n hX.1 hX.2.1 d_Lw_letter_2 rfl (lv_at hl 0 rfl) ?_
  refine lv_iload_n hX.1 hX.2.1 d_Lw_letter_3 rfl (lv_at hl 1 rfl) ?_
  refine kxgo (wc := [(wz, .inr (7, [.ref ta, .ref sv, .ref no, .ref pr, .ref ma, .ref se, .ref wo, .ref sp1, .int (nM wa)])), (wo, .inr (6, [.ref wl, .int (nI y)])), (wl, .inl (k 0, cp, .inl (aN L)))]) (E0 := xIO) (w1 := [(wz, .inr (7, [.ref ta, .ref sv, .ref no, .ref pr, .ref ma, .ref se, .ref wo, .ref sp1, .int (nM wa)])), (wo, .inr (6, [.ref wl, .int (nI y)])), (wl, .inl (k 0, cp, .inl (aN L)))]) hW [0, 1, 2] (by rfl) (by exact (rfl : (3 : Nat) = 3)) (kxRunV (n := 1) (As := [.int x]) (rest := [.int (nI 0), .ref ou]) hX hO hZ hml hW (ok_Ws_letterBad l hl0 D k H.size wz ta sv no pr ma se wo sp1 wa wl y cp L x hy hx) m_Lw_51 im_Ws_letter se_Ws_letter in_Ws cd_Ws_letter [0, 1, 2] rfl rfl rfl rfl (by decide +kernel) ⟨rfl, rfl, Nat.le_of_ble_eq_true rfl, Nat.le_of_ble_eq_true rfl⟩ rfl hl.1 rfl (Nat.le_of_ble_eq_true rfl) d_Lw_letter_4 ⟨by first | decide | omega, by first | decide | omega⟩) (fun ce q9 H locs hW hc1 hc2 hc3 => ?_)
  simp only [setAll, List.set_cons_zero, List.set_cons_succ] at hW
  have hW : KW D k A s [(wz, .inr (7, [.ref ta, .ref sv, .ref no, .ref pr, .ref ma, .ref se, .ref wo, .ref sp1, .int (nM wa)])), (wo, .inr (6, [.ref wl, .int (nI y)])), (wl, .inl (k 0, cp, .inl (aN L))), (ou, .inl (k 1, 1, .inr (.inl OU)))] H locs := hW
  refine kcatch hX hO htab (by decide) (by decide) (by decide) xcO k_Lw_54 hc1 hc2 hc3 ?_
  refine lv_astore_n (lv' := [(3, .ref q9), (0, .ref wz), (1, .int x), (2, .ref ou)]) hX.1 hX.2.1 d_Lw_letter_12 rfl hl (by decide) rfl (fun ls hl => ?_)
  refine lv_iconst (v := nI 1) hX.1 hX.2.1 d_Lw_letter_13 (by decide) ?_
  refine W.widen (k := 1) (n := 6) (by omega) (by omega) ?_
  exact kiret hX hr hlocks hQ () (hW) (rfl) d_Lw_letter_14
set_option maxHeartbeats 4000000 in
set_option maxRecDepth 100000 in
/-- read, refused -/
theorem ok_Lw_readBad (l : Launch) (hl0 : l.stackTraces = false) (D : va_G) (k : Nat → ClassId) (sz : Nat) (wz ta sv no pr ma se wo sp1 wa : Nat) (ou : Nat) (OU : Nat → Int64) (tb ts : Nat) (B : Nat → Nat) (x : Int32) (hx : isl x = false) : vx_Met l y_Lw_read (.codeWith y_Lw_read c_Lw_read 4 (some .int) [(0, 9, 12, 13)] :: wsU) ({ frames := 8, cells := 1, slots := 6, locals := 220 } : Room) (kPreX D k [.ref wz, .int x, .ref ou] [(wz, .inr (7, [.ref ta, .ref sv, .ref no, .ref pr, .ref ma, .ref se, .ref wo, .ref sp1, .int (nM wa)])), (ta, .inr (5, [.ref tb, .int (nI ts)])), (tb, .inl (k 0, 80, .inl (aN B))), (ou, .inl (k 1, 1, .inr (.inl OU)))] sz) (va_Qi (fun (r : Int32) (_ : Unit) => r = nI 1) (kB D k (fun _ : Unit => [(wz, .inr (7, [.ref ta, .ref sv, .ref no, .ref pr, .ref ma, .ref se, .ref wo, .ref sp1, .int (nM wa)])), (ta, .inr (5, [.ref tb, .int (nI 0)])), (tb, .inl (k 0, 80, .inl (aN B))), (ou, .inl (k 1, 1, .inr (.inl OU)))]) (va_A [(wz, .inr (7, [.ref ta, .ref sv, .ref no, .ref pr, .ref ma, .ref se, .ref wo, .ref sp1, .int (nM wa)])), (ta, .inr (5, [.ref tb, .int (nI ts)])), (tb, .inl (k 0, 80, .inl (aN B))), (ou, .inl (k 1, 1, .inr (.inl OU)))] sz)) (va_A [(wz, .inr (7, [.ref ta, .ref sv, .ref no, .ref pr, .ref ma, .ref se, .ref wo, .ref sp1, .int (nM wa)])), (ta, .inr (5, [.ref tb, .int (nI ts)])), (tb, .inl (k 0, 80, .inl (aN B))), (ou, .inl (k 1, 1, .inr (.inl OU)))] sz)) noX 1 6 (va_A [(wz, .inr (7, [.ref ta, .ref sv, .ref no, .ref pr, .ref ma, .ref se, .ref wo, .ref sp1, .int (nM wa)])), (ta, .inr (5, [.ref tb, .int (nI ts)])), (tb, .inl (k 0, 80, .inl (aN B))), (ou, .inl (k 1, 1, .inr (.inl OU)))] sz) := by
  refine kMetH (by decide) (Nat.le_of_ble_eq_true rfl) ?_
  intro p e s m below meth c ls hO hZ htab hX hml hr hlocks hsz hW hl Q hQ
  generalize hAe : va_A [(wz, .inr (7, [.ref ta, .ref sv, .ref no, .ref pr, .ref ma, .ref se, .ref wo, .ref sp1, .int (nM wa)])), (ta, .inr (5, [.ref tb, .int (nI ts)])), (tb, .inl (k 0, 80, .inl (aN B))), (ou, .inl (k 1, 1, .inr (.inl OU)))] sz = A at hW hZ hQ
  generalize hH0 : s.heap = H at hW ⊢
  generalize hl1 : ([] : List Loc) = locs at hW ⊢
  have hX : FX p s m c [.ref wz, .int x, .ref ou].toArray c_Lw_read R_Lw := hX
  have hl : lv_has ls 4 [(0, .ref wz), (1, .int x), (2, .ref ou)] := hl
  refine lv_aload_n hX.1 hX.2.1 d_Lw_read_0 rfl (lv_at hl 2 rfl) ?_
  refine lv_iconst (v := nI 0) hX.1 hX.2.1 d_Lw_read_1 (by decide) ?_
  refine lv_aload_n hX.1 hX.2.1 d_Lw_read_2 rfl (lv_at hl 0 rfl) ?_
  refine lv_iload_n hX.1 hX.2.1 d_Lw_read_3 rfl (lv_at hl 1 rfl) ?_
  refine kxgo (wc := [(wz, .inr (7, [.ref ta, .ref sv, .ref no, .ref pr, .ref ma, .ref se, .ref wo, .ref sp1, .int (nM wa)])), (ta, .inr (5, [.ref tb, .int (nI ts)])), (tb, .inl (k 0, 80, .inl (aN B)))]) (E0 := xIA) (w1 := [(wz, .inr (7, [.ref ta, .ref sv, .ref no, .ref pr, .ref ma, .ref se, .ref wo, .ref sp1, .int (nM wa)])), (ta, .inr (5, [.ref tb, .int (nI 0)])), (tb, .inl (k 0, 80, .inl (aN B)))]) hW [0, 1, 2] (by rfl) (by exact (rfl : (3 : Nat) = 3)) (kxRunV (n := 1) (As := [.int x]) (rest := [.int (nI 0), .ref ou]) hX hO hZ hml hW (ok_Ws_readBad l hl0 D k H.size wz ta sv no pr ma se wo sp1 wa tb ts B x hx) m_Lw_17 im_Ws_read se_Ws_read in_Ws cd_Ws_read [0, 1, 2] rfl rfl rfl rfl (by decide +kernel) ⟨rfl, rfl, Nat.le_of_ble_eq_true rfl, Nat.le_of_ble_eq_true rfl⟩ rfl hl.1 rfl (Nat.le_of_ble_eq_true rfl) d_Lw_read_4 ⟨by first | decide | omega, by first | decide | omega⟩) (fun ce q9 H locs hW hc1 hc2 hc3 => ?_)
  simp only [setAll, List.set_cons_zero, List.set_cons_succ] at hW
  have hW : KW D k A s [(wz, .inr (7, [.ref ta, .ref sv, .ref no, .ref pr, .ref ma, .ref se, .ref wo, .ref sp1, .int (nM wa)])), (ta, .inr (5, [.ref tb, .int (nI 0)])), (tb, .inl (k 0, 80, .inl (aN B))), (ou, .inl (k 1, 1, .inr (.inl OU)))] H locs := hW
  refine kcatch hX hO htab (by decide) (by decide) (by decide) xcA k_Lw_13 hc1 hc2 hc3 ?_
  refine lv_astore_n (lv' := [(3, .ref q9), (0, .ref wz), (1, .int x), (2, .ref ou)]) hX.1 hX.2.1 d_Lw_read_12 rfl hl (by decide) rfl (fun ls hl => ?_)
  refine lv_iconst (v := nI 1) hX.1 hX.2.1 d_Lw_read_13 (by decide) ?_
  refine W.widen (k := 1) (n := 6) (by omega) (by omega) ?_
  exact kiret hX hr hlocks hQ () (hW) (rfl) d_Lw_read_14
set_option maxHeartbeats 4000000 in
set_option maxRecDepth 100000 in
/-- has, refused -/
theorem ok_Lw_hasBad (l : Launch) (hl0 : l.stackTraces = false) (D : va_G) (k : Nat → ClassId) (sz : Nat) (wz ta sv no pr ma se wo sp1 wa : Nat) (ou : Nat) (OU : Nat → Int64) (tb ts : Nat) (B : Nat → Nat) (x : Int32) (hx : isl x = false) : vx_Met l y_Lw_has (.codeWith y_Lw_has c_Lw_has 4 (some .int) [(0, 16, 19, 13)] :: wsU) ({ frames := 8, cells := 1, slots := 6, locals := 220 } : Room) (kPreX D k [.ref wz, .int x, .ref ou] [(wz, .inr (7, [.ref ta, .ref sv, .ref no, .ref pr, .ref ma, .ref se, .ref wo, .ref sp1, .int (nM wa)])), (ta, .inr (5, [.ref tb, .int (nI ts)])), (tb, .inl (k 0, 80, .inl (aN B))), (ou, .inl (k 1, 1, .inr (.inl OU)))] sz) (va_Qi (fun (r : Int32) (_ : Unit) => r = nI 1) (kB D k (fun _ : Unit => [(wz, .inr (7, [.ref ta, .ref sv, .ref no, .ref pr, .ref ma, .ref se, .ref wo, .ref sp1, .int (nM wa)])), (ta, .inr (5, [.ref tb, .int (nI 0)])), (tb, .inl (k 0, 80, .inl (aN B))), (ou, .inl (k 1, 1, .inr (.inl OU)))]) (va_A [(wz, .inr (7, [.ref ta, .ref sv, .ref no, .ref pr, .ref ma, .ref se, .ref wo, .ref sp1, .int (nM wa)])), (ta, .inr (5, [.ref tb, .int (nI ts)])), (tb, .inl (k 0, 80, .inl (aN B))), (ou, .inl (k 1, 1, .inr (.inl OU)))] sz)) (va_A [(wz, .inr (7, [.ref ta, .ref sv, .ref no, .ref pr, .ref ma, .ref se, .ref wo, .ref sp1, .int (nM wa)])), (ta, .inr (5, [.ref tb, .int (nI ts)])), (tb, .inl (k 0, 80, .inl (aN B))), (ou, .inl (k 1, 1, .inr (.inl OU)))] sz)) noX 1 6 (va_A [(wz, .inr (7, [.ref ta, .ref sv, .ref no, .ref pr, .ref ma, .ref se, .ref wo, .ref sp1, .int (nM wa)])), (ta, .inr (5, [.ref tb, .int (nI ts)])), (tb, .inl (k 0, 80, .inl (aN B))), (ou, .inl (k 1, 1, .inr (.inl OU)))] sz) := by
  refine kMetH (by decide) (Nat.le_of_ble_eq_true rfl) ?_
  intro p e s m below meth c ls hO hZ htab hX hml hr hlocks hsz hW hl Q hQ
  generalize hAe : va_A [(wz, .inr (7, [.ref ta, .ref sv, .ref no, .ref pr, .ref ma, .ref se, .ref wo, .ref sp1, .int (nM wa)])), (ta, .inr (5, [.ref tb, .int (nI ts)])), (tb, .inl (k 0, 80, .inl (aN B))), (ou, .inl (k 1, 1, .inr (.inl OU)))] sz = A at hW hZ hQ
  generalize hH0 : s.heap = H at hW ⊢
  generalize hl1 : ([] : List Loc) = locs at hW ⊢
  have hX : FX p s m c [.ref wz, .int x, .ref ou].toArray c_Lw_has R_Lw := hX
  have hl : lv_has ls 4 [(0, .ref wz), (1, .int x), (2, .ref ou)] := hl
  refine lv_aload_n hX.1 hX.2.1 d_Lw_has_0 rfl (lv_at hl 2 rfl) ?_
  refine lv_iconst (v := nI 0) hX.1 hX.2.1 d_Lw_has_1 (by decide) ?_
  refine lv_aload_n hX.1 hX.2.1 d_Lw_has_2 rfl (lv_at hl 0 rfl) ?_
  refine lv_iload_n hX.1 hX.2.1 d_Lw_has_3 rfl (lv_at hl 1 rfl) ?_
  refine kxgo (wc := [(wz, .inr (7, [.ref ta, .ref sv, .ref no, .ref pr, .ref ma, .ref se, .ref wo, .ref sp1, .int (nM wa)])), (ta, .inr (5, [.ref tb, .int (nI ts)])), (tb, .inl (k 0, 80, .inl (aN B)))]) (E0 := xIA) (w1 := [(wz, .inr (7, [.ref ta, .ref sv, .ref no, .ref pr, .ref ma, .ref se, .ref wo, .ref sp1, .int (nM wa)])), (ta, .inr (5, [.ref tb, .int (nI 0)])), (tb, .inl (k 0, 80, .inl (aN B)))]) hW [0, 1, 2] (by rfl) (by exact (rfl : (3 : Nat) = 3)) (kxRunV (n := 1) (As := [.int x]) (rest := [.int (nI 0), .ref ou]) hX hO hZ hml hW (ok_Ws_hasBad l hl0 D k H.size wz ta sv no pr ma se wo sp1 wa tb ts B x hx) m_Lw_21 im_Ws_has se_Ws_has in_Ws cd_Ws_has [0, 1, 2] rfl rfl rfl rfl (by decide +kernel) ⟨rfl, rfl, Nat.le_of_ble_eq_true rfl, Nat.le_of_ble_eq_true rfl⟩ rfl hl.1 rfl (Nat.le_of_ble_eq_true rfl) d_Lw_has_4 ⟨by first | decide | omega, by first | decide | omega⟩) (fun ce q9 H locs hW hc1 hc2 hc3 => ?_)
  simp only [setAll, List.set_cons_zero, List.set_cons_succ] at hW
  have hW : KW D k A s [(wz, .inr (7, [.ref ta, .ref sv, .ref no, .ref pr, .ref ma, .ref se, .ref wo, .ref sp1, .int (nM wa)])), (ta, .inr (5, [.ref tb, .int (nI 0)])), (tb, .inl (k 0, 80, .inl (aN B))), (ou, .inl (k 1, 1, .inr (.inl OU)))] H locs := hW
  refine kcatch hX hO htab (by decide) (by decide) (by decide) xcA k_Lw_13 hc1 hc2 hc3 ?_
  refine lv_astore_n (lv' := [(3, .ref q9), (0, .ref wz), (1, .int x), (2, .ref ou)]) hX.1 hX.2.1 d_Lw_has_19 rfl hl (by decide) rfl (fun ls hl => ?_)
  refine lv_iconst (v := nI 1) hX.1 hX.2.1 d_Lw_has_20 (by decide) ?_
  refine W.widen (k := 1) (n := 6) (by omega) (by omega) ?_
  exact kiret hX hr hlocks hQ () (hW) (rfl) d_Lw_has_21
set_option maxHeartbeats 4000000 in
set_option maxRecDepth 100000 in
/-- has, refused -/
theorem ok_Lw_hasNo (l : Launch) (hl0 : l.stackTraces = false) (D : va_G) (k : Nat → ClassId) (sz : Nat) (wz ta sv no pr ma se wo sp1 wa : Nat) (ou : Nat) (OU : Nat → Int64) (tb ts : Nat) (B : Nat → Nat) (sl : Nat) (hsl : sl < 4) (hts : ts ≤ 80) (hB : ∀ i, i < 80 → B i < 256) (hw : isw B ts = false) : vx_Met l y_Lw_has (.codeWith y_Lw_has c_Lw_has 4 (some .int) [(0, 16, 19, 13)] :: wsU) ({ frames := 8, cells := 1, slots := 6, locals := 220 } : Room) (kPreX D k [.ref wz, .int (nI sl), .ref ou] [(wz, .inr (7, [.ref ta, .ref sv, .ref no, .ref pr, .ref ma, .ref se, .ref wo, .ref sp1, .int (nM wa)])), (ta, .inr (5, [.ref tb, .int (nI ts)])), (tb, .inl (k 0, 80, .inl (aN B))), (ou, .inl (k 1, 1, .inr (.inl OU)))] sz) (va_Qi (fun (r : Int32) (_ : Unit) => r = nI 1) (kB D k (fun _ : Unit => [(wz, .inr (7, [.ref ta, .ref sv, .ref no, .ref pr, .ref ma, .ref se, .ref wo, .ref sp1, .int (nM wa)])), (ta, .inr (5, [.ref tb, .int (nI 0)])), (tb, .inl (k 0, 80, .inl (aN B))), (ou, .inl (k 1, 1, .inr (.inl OU)))]) (va_A [(wz, .inr (7, [.ref ta, .ref sv, .ref no, .ref pr, .ref ma, .ref se, .ref wo, .ref sp1, .int (nM wa)])), (ta, .inr (5, [.ref tb, .int (nI ts)])), (tb, .inl (k 0, 80, .inl (aN B))), (ou, .inl (k 1, 1, .inr (.inl OU)))] sz)) (va_A [(wz, .inr (7, [.ref ta, .ref sv, .ref no, .ref pr, .ref ma, .ref se, .ref wo, .ref sp1, .int (nM wa)])), (ta, .inr (5, [.ref tb, .int (nI ts)])), (tb, .inl (k 0, 80, .inl (aN B))), (ou, .inl (k 1, 1, .inr (.inl OU)))] sz)) noX 1 6 (va_A [(wz, .inr (7, [.ref ta, .ref sv, .ref no, .ref pr, .ref ma, .ref se, .ref wo, .ref sp1, .int (nM wa)])), (ta, .inr (5, [.ref tb, .int (nI ts)])), (tb, .inl (k 0, 80, .inl (aN B))), (ou, .inl (k 1, 1, .inr (.inl OU)))] sz) := by
  refine kMetH (by decide) (Nat.le_of_ble_eq_true rfl) ?_
  intro p e s m below meth c ls hO hZ htab hX hml hr hlocks hsz hW hl Q hQ
  generalize hAe : va_A [(wz, .inr (7, [.ref ta, .ref sv, .ref no, .ref pr, .ref ma, .ref se, .ref wo, .ref sp1, .int (nM wa)])), (ta, .inr (5, [.ref tb, .int (nI ts)])), (tb, .inl (k 0, 80, .inl (aN B))), (ou, .inl (k 1, 1, .inr (.inl OU)))] sz = A at hW hZ hQ
  generalize hH0 : s.heap = H at hW ⊢
  generalize hl1 : ([] : List Loc) = locs at hW ⊢
  have hX : FX p s m c [.ref wz, .int (nI sl), .ref ou].toArray c_Lw_has R_Lw := hX
  have hl : lv_has ls 4 [(0, .ref wz), (1, .int (nI sl)), (2, .ref ou)] := hl
  refine lv_aload_n hX.1 hX.2.1 d_Lw_has_0 rfl (lv_at hl 2 rfl) ?_
  refine lv_iconst (v := nI 0) hX.1 hX.2.1 d_Lw_has_1 (by decide) ?_
  refine lv_aload_n hX.1 hX.2.1 d_Lw_has_2 rfl (lv_at hl 0 rfl) ?_
  refine lv_iload_n hX.1 hX.2.1 d_Lw_has_3 rfl (lv_at hl 1 rfl) ?_
  refine kxgo (wc := [(wz, .inr (7, [.ref ta, .ref sv, .ref no, .ref pr, .ref ma, .ref se, .ref wo, .ref sp1, .int (nM wa)])), (ta, .inr (5, [.ref tb, .int (nI ts)])), (tb, .inl (k 0, 80, .inl (aN B)))]) (E0 := xIA) (w1 := [(wz, .inr (7, [.ref ta, .ref sv, .ref no, .ref pr, .ref ma, .ref se, .ref wo, .ref sp1, .int (nM wa)])), (ta, .inr (5, [.ref tb, .int (nI 0)])), (tb, .inl (k 0, 80, .inl (aN B)))]) hW [0, 1, 2] (by rfl) (by exact (rfl : (3 : Nat) = 3)) (kxRunV (n := 1) (As := [.int (nI sl)]) (rest := [.int (nI 0), .ref ou]) hX hO hZ hml hW (ok_Ws_hasNo l hl0 D k H.size wz ta sv no pr ma se wo sp1 wa tb ts B sl hsl hts hB hw) m_Lw_21 im_Ws_has se_Ws_has in_Ws cd_Ws_has [0, 1, 2] rfl rfl rfl rfl (by decide +kernel) ⟨rfl, rfl, Nat.le_of_ble_eq_true rfl, Nat.le_of_ble_eq_true rfl⟩ rfl hl.1 rfl (Nat.le_of_ble_eq_true rfl) d_Lw_has_4 ⟨by first | decide | omega, by first | decide | omega⟩) (fun ce q9 H locs hW hc1 hc2 hc3 => ?_)
  simp only [setAll, List.set_cons_zero, List.set_cons_succ] at hW
  have hW : KW D k A s [(wz, .inr (7, [.ref ta, .ref sv, .ref no, .ref pr, .ref ma, .ref se, .ref wo, .ref sp1, .int (nM wa)])), (ta, .inr (5, [.ref tb, .int (nI 0)])), (tb, .inl (k 0, 80, .inl (aN B))), (ou, .inl (k 1, 1, .inr (.inl OU)))] H locs := hW
  refine kcatch hX hO htab (by decide) (by decide) (by decide) xcA k_Lw_13 hc1 hc2 hc3 ?_
  refine lv_astore_n (lv' := [(3, .ref q9), (0, .ref wz), (1, .int (nI sl)), (2, .ref ou)]) hX.1 hX.2.1 d_Lw_has_19 rfl hl (by decide) rfl (fun ls hl => ?_)
  refine lv_iconst (v := nI 1) hX.1 hX.2.1 d_Lw_has_20 (by decide) ?_
  refine W.widen (k := 1) (n := 6) (by omega) (by omega) ?_
  exact kiret hX hr hlocks hQ () (hW) (rfl) d_Lw_has_21
set_option maxHeartbeats 4000000 in
set_option maxRecDepth 100000 in
/-- read, refused -/
theorem ok_Lw_readNo (l : Launch) (hl0 : l.stackTraces = false) (D : va_G) (k : Nat → ClassId) (sz : Nat) (wz ta sv no pr ma se wo sp1 wa : Nat) (ou : Nat) (OU : Nat → Int64) (sa ra fc : Nat) (sq rq : Nat → Nat) (fw : Bool) (dp : Nat) (F : PT) (S Rw : Nat → PT) (f g : Nat) (FO SP : Nat → Nat) (en n : Nat) (tb ts : Nat) (B : Nat → Nat) (sl : Nat) (hsl : sl < 4) (hts : ts ≤ 80) (hB : ∀ i, i < 80 → B i < 256) (hF1 : F.1 < 256) (hF2 : F.2.1 < 256) (o : Nat × Nat × PZ) (hoo : prs B ts ts 0 (pz0 F S Rw) = o) (ho : o.1 ≠ 0) (hol : o.1 < 2 ^ 31) : vx_Met l y_Lw_read (.codeWith y_Lw_read c_Lw_read 4 (some .int) [(0, 9, 12, 13)] :: wsU) ({ frames := 8, cells := 1, slots := 6, locals := 220 } : Room) (kPreX D k [.ref wz, .int (nI sl), .ref ou] [(wz, .inr (7, [.ref ta, .ref sv, .ref no, .ref pr, .ref ma, .ref se, .ref wo, .ref sp1, .int (nM wa)])), (pr, .inr (2, [.ref sa, .ref ra, .ref fc, .int (nI fw.toNat), .int (nI dp)])), (sa, .inl (k 4, 9, .inr (.inr (.inr (.inr (fun j => some (sq j))))))), (ra, .inl (k 4, 9, .inr (.inr (.inr (.inr (fun j => some (rq j))))))), (fc, ptE F), (sq 0, ptE (S 0)), (sq 1, ptE (S 1)), (sq 2, ptE (S 2)), (sq 3, ptE (S 3)), (sq 4, ptE (S 4)), (sq 5, ptE (S 5)), (sq 6, ptE (S 6)), (sq 7, ptE (S 7)), (sq 8, ptE (S 8)), (rq 0, ptE (Rw 0)), (rq 1, ptE (Rw 1)), (rq 2, ptE (Rw 2)), (rq 3, ptE (Rw 3)), (rq 4, ptE (Rw 4)), (rq 5, ptE (Rw 5)), (rq 6, ptE (Rw 6)), (rq 7, ptE (Rw 7)), (rq 8, ptE (Rw 8)), (sp1, .inr (0, [.ref f, .ref g, .int (nI en), .int (nI n)])), (f, .inl (k 0, 9, .inl (aN FO))), (g, .inl (k 0, 4, .inl (aN SP))), (ta, .inr (5, [.ref tb, .int (nI ts)])), (tb, .inl (k 0, 80, .inl (aN B))), (ou, .inl (k 1, 1, .inr (.inl OU)))] sz) (va_Qi (fun (r : Int32) (_ : Unit) => r = nI 1) (kB D k (fun _ : Unit => [(wz, .inr (7, [.ref ta, .ref sv, .ref no, .ref pr, .ref ma, .ref se, .ref wo, .ref sp1, .int (nM o.1)])), (pr, .inr (2, [.ref sa, .ref ra, .ref fc, .int (nI o.2.2.1.toNat), .int (nI o.2.2.2.1)])), (sa, .inl (k 4, 9, .inr (.inr (.inr (.inr (fun j => some (sq j))))))), (ra, .inl (k 4, 9, .inr (.inr (.inr (.inr (fun j => some (rq j))))))), (fc, ptE o.2.2.2.2.1), (sq 0, ptE (o.2.2.2.2.2.1 0)), (sq 1, ptE (o.2.2.2.2.2.1 1)), (sq 2, ptE (o.2.2.2.2.2.1 2)), (sq 3, ptE (o.2.2.2.2.2.1 3)), (sq 4, ptE (o.2.2.2.2.2.1 4)), (sq 5, ptE (o.2.2.2.2.2.1 5)), (sq 6, ptE (o.2.2.2.2.2.1 6)), (sq 7, ptE (o.2.2.2.2.2.1 7)), (sq 8, ptE (o.2.2.2.2.2.1 8)), (rq 0, ptE (o.2.2.2.2.2.2.1 0)), (rq 1, ptE (o.2.2.2.2.2.2.1 1)), (rq 2, ptE (o.2.2.2.2.2.2.1 2)), (rq 3, ptE (o.2.2.2.2.2.2.1 3)), (rq 4, ptE (o.2.2.2.2.2.2.1 4)), (rq 5, ptE (o.2.2.2.2.2.2.1 5)), (rq 6, ptE (o.2.2.2.2.2.2.1 6)), (rq 7, ptE (o.2.2.2.2.2.2.1 7)), (rq 8, ptE (o.2.2.2.2.2.2.1 8)), (sp1, .inr (0, [.ref f, .ref g, .int (nI o.2.1), .int (nI o.2.2.2.2.2.2.2.2.2)])), (f, .inl (k 0, 9, .inl (aN o.2.2.2.2.2.2.2.1))), (g, .inl (k 0, 4, .inl (aN o.2.2.2.2.2.2.2.2.1))), (ta, .inr (5, [.ref tb, .int (nI 0)])), (tb, .inl (k 0, 80, .inl (aN B))), (ou, .inl (k 1, 1, .inr (.inl OU)))]) (va_A [(wz, .inr (7, [.ref ta, .ref sv, .ref no, .ref pr, .ref ma, .ref se, .ref wo, .ref sp1, .int (nM wa)])), (pr, .inr (2, [.ref sa, .ref ra, .ref fc, .int (nI fw.toNat), .int (nI dp)])), (sa, .inl (k 4, 9, .inr (.inr (.inr (.inr (fun j => some (sq j))))))), (ra, .inl (k 4, 9, .inr (.inr (.inr (.inr (fun j => some (rq j))))))), (fc, ptE F), (sq 0, ptE (S 0)), (sq 1, ptE (S 1)), (sq 2, ptE (S 2)), (sq 3, ptE (S 3)), (sq 4, ptE (S 4)), (sq 5, ptE (S 5)), (sq 6, ptE (S 6)), (sq 7, ptE (S 7)), (sq 8, ptE (S 8)), (rq 0, ptE (Rw 0)), (rq 1, ptE (Rw 1)), (rq 2, ptE (Rw 2)), (rq 3, ptE (Rw 3)), (rq 4, ptE (Rw 4)), (rq 5, ptE (Rw 5)), (rq 6, ptE (Rw 6)), (rq 7, ptE (Rw 7)), (rq 8, ptE (Rw 8)), (sp1, .inr (0, [.ref f, .ref g, .int (nI en), .int (nI n)])), (f, .inl (k 0, 9, .inl (aN FO))), (g, .inl (k 0, 4, .inl (aN SP))), (ta, .inr (5, [.ref tb, .int (nI ts)])), (tb, .inl (k 0, 80, .inl (aN B))), (ou, .inl (k 1, 1, .inr (.inl OU)))] sz)) (va_A [(wz, .inr (7, [.ref ta, .ref sv, .ref no, .ref pr, .ref ma, .ref se, .ref wo, .ref sp1, .int (nM wa)])), (pr, .inr (2, [.ref sa, .ref ra, .ref fc, .int (nI fw.toNat), .int (nI dp)])), (sa, .inl (k 4, 9, .inr (.inr (.inr (.inr (fun j => some (sq j))))))), (ra, .inl (k 4, 9, .inr (.inr (.inr (.inr (fun j => some (rq j))))))), (fc, ptE F), (sq 0, ptE (S 0)), (sq 1, ptE (S 1)), (sq 2, ptE (S 2)), (sq 3, ptE (S 3)), (sq 4, ptE (S 4)), (sq 5, ptE (S 5)), (sq 6, ptE (S 6)), (sq 7, ptE (S 7)), (sq 8, ptE (S 8)), (rq 0, ptE (Rw 0)), (rq 1, ptE (Rw 1)), (rq 2, ptE (Rw 2)), (rq 3, ptE (Rw 3)), (rq 4, ptE (Rw 4)), (rq 5, ptE (Rw 5)), (rq 6, ptE (Rw 6)), (rq 7, ptE (Rw 7)), (rq 8, ptE (Rw 8)), (sp1, .inr (0, [.ref f, .ref g, .int (nI en), .int (nI n)])), (f, .inl (k 0, 9, .inl (aN FO))), (g, .inl (k 0, 4, .inl (aN SP))), (ta, .inr (5, [.ref tb, .int (nI ts)])), (tb, .inl (k 0, 80, .inl (aN B))), (ou, .inl (k 1, 1, .inr (.inl OU)))] sz)) noX 1 6 (va_A [(wz, .inr (7, [.ref ta, .ref sv, .ref no, .ref pr, .ref ma, .ref se, .ref wo, .ref sp1, .int (nM wa)])), (pr, .inr (2, [.ref sa, .ref ra, .ref fc, .int (nI fw.toNat), .int (nI dp)])), (sa, .inl (k 4, 9, .inr (.inr (.inr (.inr (fun j => some (sq j))))))), (ra, .inl (k 4, 9, .inr (.inr (.inr (.inr (fun j => some (rq j))))))), (fc, ptE F), (sq 0, ptE (S 0)), (sq 1, ptE (S 1)), (sq 2, ptE (S 2)), (sq 3, ptE (S 3)), (sq 4, ptE (S 4)), (sq 5, ptE (S 5)), (sq 6, ptE (S 6)), (sq 7, ptE (S 7)), (sq 8, ptE (S 8)), (rq 0, ptE (Rw 0)), (rq 1, ptE (Rw 1)), (rq 2, ptE (Rw 2)), (rq 3, ptE (Rw 3)), (rq 4, ptE (Rw 4)), (rq 5, ptE (Rw 5)), (rq 6, ptE (Rw 6)), (rq 7, ptE (Rw 7)), (rq 8, ptE (Rw 8)), (sp1, .inr (0, [.ref f, .ref g, .int (nI en), .int (nI n)])), (f, .inl (k 0, 9, .inl (aN FO))), (g, .inl (k 0, 4, .inl (aN SP))), (ta, .inr (5, [.ref tb, .int (nI ts)])), (tb, .inl (k 0, 80, .inl (aN B))), (ou, .inl (k 1, 1, .inr (.inl OU)))] sz) := by
  refine kMetH (by decide) (Nat.le_of_ble_eq_true rfl) ?_
  intro p e s m below meth c ls hO hZ htab hX hml hr hlocks hsz hW hl Q hQ
  generalize hAe : va_A [(wz, .inr (7, [.ref ta, .ref sv, .ref no, .ref pr, .ref ma, .ref se, .ref wo, .ref sp1, .int (nM wa)])), (pr, .inr (2, [.ref sa, .ref ra, .ref fc, .int (nI fw.toNat), .int (nI dp)])), (sa, .inl (k 4, 9, .inr (.inr (.inr (.inr (fun j => some (sq j))))))), (ra, .inl (k 4, 9, .inr (.inr (.inr (.inr (fun j => some (rq j))))))), (fc, ptE F), (sq 0, ptE (S 0)), (sq 1, ptE (S 1)), (sq 2, ptE (S 2)), (sq 3, ptE (S 3)), (sq 4, ptE (S 4)), (sq 5, ptE (S 5)), (sq 6, ptE (S 6)), (sq 7, ptE (S 7)), (sq 8, ptE (S 8)), (rq 0, ptE (Rw 0)), (rq 1, ptE (Rw 1)), (rq 2, ptE (Rw 2)), (rq 3, ptE (Rw 3)), (rq 4, ptE (Rw 4)), (rq 5, ptE (Rw 5)), (rq 6, ptE (Rw 6)), (rq 7, ptE (Rw 7)), (rq 8, ptE (Rw 8)), (sp1, .inr (0, [.ref f, .ref g, .int (nI en), .int (nI n)])), (f, .inl (k 0, 9, .inl (aN FO))), (g, .inl (k 0, 4, .inl (aN SP))), (ta, .inr (5, [.ref tb, .int (nI ts)])), (tb, .inl (k 0, 80, .inl (aN B))), (ou, .inl (k 1, 1, .inr (.inl OU)))] sz = A at hW hZ hQ
  generalize hH0 : s.heap = H at hW ⊢
  generalize hl1 : ([] : List Loc) = locs at hW ⊢
  have hX : FX p s m c [.ref wz, .int (nI sl), .ref ou].toArray c_Lw_read R_Lw := hX
  have hl : lv_has ls 4 [(0, .ref wz), (1, .int (nI sl)), (2, .ref ou)] := hl
  refine lv_aload_n hX.1 hX.2.1 d_Lw_read_0 rfl (lv_at hl 2 rfl) ?_
  refine lv_iconst (v := nI 0) hX.1 hX.2.1 d_Lw_read_1 (by decide) ?_
  refine lv_aload_n hX.1 hX.2.1 d_Lw_read_2 rfl (lv_at hl 0 rfl) ?_
  refine lv_iload_n hX.1 hX.2.1 d_Lw_read_3 rfl (lv_at hl 1 rfl) ?_
  refine kxgo (wc := [(wz, .inr (7, [.ref ta, .ref sv, .ref no, .ref pr, .ref ma, .ref se, .ref wo, .ref sp1, .int (nM wa)])), (pr, .inr (2, [.ref sa, .ref ra, .ref fc, .int (nI fw.toNat), .int (nI dp)])), (sa, .inl (k 4, 9, .inr (.inr (.inr (.inr (fun j => some (sq j))))))), (ra, .inl (k 4, 9, .inr (.inr (.inr (.inr (fun j => some (rq j))))))), (fc, ptE F), (sq 0, ptE (S 0)), (sq 1, ptE (S 1)), (sq 2, ptE (S 2)), (sq 3, ptE (S 3)), (sq 4, ptE (S 4)), (sq 5, ptE (S 5)), (sq 6, ptE (S 6)), (sq 7, ptE (S 7)), (sq 8, ptE (S 8)), (rq 0, ptE (Rw 0)), (rq 1, ptE (Rw 1)), (rq 2, ptE (Rw 2)), (rq 3, ptE (Rw 3)), (rq 4, ptE (Rw 4)), (rq 5, ptE (Rw 5)), (rq 6, ptE (Rw 6)), (rq 7, ptE (Rw 7)), (rq 8, ptE (Rw 8)), (sp1, .inr (0, [.ref f, .ref g, .int (nI en), .int (nI n)])), (f, .inl (k 0, 9, .inl (aN FO))), (g, .inl (k 0, 4, .inl (aN SP))), (ta, .inr (5, [.ref tb, .int (nI ts)])), (tb, .inl (k 0, 80, .inl (aN B)))]) (E0 := xIA) (w1 := [(wz, .inr (7, [.ref ta, .ref sv, .ref no, .ref pr, .ref ma, .ref se, .ref wo, .ref sp1, .int (nM o.1)])), (pr, .inr (2, [.ref sa, .ref ra, .ref fc, .int (nI o.2.2.1.toNat), .int (nI o.2.2.2.1)])), (sa, .inl (k 4, 9, .inr (.inr (.inr (.inr (fun j => some (sq j))))))), (ra, .inl (k 4, 9, .inr (.inr (.inr (.inr (fun j => some (rq j))))))), (fc, ptE o.2.2.2.2.1), (sq 0, ptE (o.2.2.2.2.2.1 0)), (sq 1, ptE (o.2.2.2.2.2.1 1)), (sq 2, ptE (o.2.2.2.2.2.1 2)), (sq 3, ptE (o.2.2.2.2.2.1 3)), (sq 4, ptE (o.2.2.2.2.2.1 4)), (sq 5, ptE (o.2.2.2.2.2.1 5)), (sq 6, ptE (o.2.2.2.2.2.1 6)), (sq 7, ptE (o.2.2.2.2.2.1 7)), (sq 8, ptE (o.2.2.2.2.2.1 8)), (rq 0, ptE (o.2.2.2.2.2.2.1 0)), (rq 1, ptE (o.2.2.2.2.2.2.1 1)), (rq 2, ptE (o.2.2.2.2.2.2.1 2)), (rq 3, ptE (o.2.2.2.2.2.2.1 3)), (rq 4, ptE (o.2.2.2.2.2.2.1 4)), (rq 5, ptE (o.2.2.2.2.2.2.1 5)), (rq 6, ptE (o.2.2.2.2.2.2.1 6)), (rq 7, ptE (o.2.2.2.2.2.2.1 7)), (rq 8, ptE (o.2.2.2.2.2.2.1 8)), (sp1, .inr (0, [.ref f, .ref g, .int (nI o.2.1), .int (nI o.2.2.2.2.2.2.2.2.2)])), (f, .inl (k 0, 9, .inl (aN o.2.2.2.2.2.2.2.1))), (g, .inl (k 0, 4, .inl (aN o.2.2.2.2.2.2.2.2.1))), (ta, .inr (5, [.ref tb, .int (nI 0)])), (tb, .inl (k 0, 80, .inl (aN B)))]) hW [0, 1, 2, 3, 4, 5, 6, 7, 8, 9, 10, 11, 12, 13, 14, 15, 16, 17, 18, 19, 20, 21, 22, 23, 24, 25, 26, 27] (by rfl) (by exact (rfl : (28 : Nat) = 28)) (kxRunV (n := 1) (As := [.int (nI sl)]) (rest := [.int (nI 0), .ref ou]) hX hO hZ hml hW (ok_Ws_readNo l hl0 D k H.size wz ta sv no pr ma se wo sp1 wa sa ra fc sq rq fw dp F S Rw f g FO SP en n tb ts B sl hsl hts hB hF1 hF2 o hoo ho hol) m_Lw_17 im_Ws_read se_Ws_read in_Ws cd_Ws_read [0, 1, 2, 3, 4, 5, 6, 7, 8, 9, 10, 11, 12, 13, 14, 15, 16, 17, 18, 19, 20, 21, 22, 23, 24, 25, 26, 27] rfl rfl rfl rfl (by decide +kernel) ⟨rfl, rfl, Nat.le_of_ble_eq_true rfl, Nat.le_of_ble_eq_true rfl⟩ rfl hl.1 rfl (Nat.le_of_ble_eq_true rfl) d_Lw_read_4 ⟨by first | decide | omega, by first | decide | omega⟩) (fun ce q9 H locs hW hc1 hc2 hc3 => ?_)
  simp only [setAll, List.set_cons_zero, List.set_cons_succ] at hW
  have hW : KW D k A s [(wz, .inr (7, [.ref ta, .ref sv, .ref no, .ref pr, .ref ma, .ref se, .ref wo, .ref sp1, .int (nM o.1)])), (pr, .inr (2, [.ref sa, .ref ra, .ref fc, .int (nI o.2.2.1.toNat), .int (nI o.2.2.2.1)])), (sa, .inl (k 4, 9, .inr (.inr (.inr (.inr (fun j => some (sq j))))))), (ra, .inl (k 4, 9, .inr (.inr (.inr (.inr (fun j => some (rq j))))))), (fc, ptE o.2.2.2.2.1), (sq 0, ptE (o.2.2.2.2.2.1 0)), (sq 1, ptE (o.2.2.2.2.2.1 1)), (sq 2, ptE (o.2.2.2.2.2.1 2)), (sq 3, ptE (o.2.2.2.2.2.1 3)), (sq 4, ptE (o.2.2.2.2.2.1 4)), (sq 5, ptE (o.2.2.2.2.2.1 5)), (sq 6, ptE (o.2.2.2.2.2.1 6)), (sq 7, ptE (o.2.2.2.2.2.1 7)), (sq 8, ptE (o.2.2.2.2.2.1 8)), (rq 0, ptE (o.2.2.2.2.2.2.1 0)), (rq 1, ptE (o.2.2.2.2.2.2.1 1)), (rq 2, ptE (o.2.2.2.2.2.2.1 2)), (rq 3, ptE (o.2.2.2.2.2.2.1 3)), (rq 4, ptE (o.2.2.2.2.2.2.1 4)), (rq 5, ptE (o.2.2.2.2.2.2.1 5)), (rq 6, ptE (o.2.2.2.2.2.2.1 6)), (rq 7, ptE (o.2.2.2.2.2.2.1 7)), (rq 8, ptE (o.2.2.2.2.2.2.1 8)), (sp1, .inr (0, [.ref f, .ref g, .int (nI o.2.1), .int (nI o.2.2.2.2.2.2.2.2.2)])), (f, .inl (k 0, 9, .inl (aN o.2.2.2.2.2.2.2.1))), (g, .inl (k 0, 4, .inl (aN o.2.2.2.2.2.2.2.2.1))), (ta, .inr (5, [.ref tb, .int (nI 0)])), (tb, .inl (k 0, 80, .inl (aN B))), (ou, .inl (k 1, 1, .inr (.inl OU)))] H locs := hW
  refine kcatch hX hO htab (by decide) (by decide) (by decide) xcA k_Lw_13 hc1 hc2 hc3 ?_
  refine lv_astore_n (lv' := [(3, .ref q9), (0, .ref wz), (1, .int (nI sl)), (2, .ref ou)]) hX.1 hX.2.1 d_Lw_read_12 rfl hl (by decide) rfl (fun ls hl => ?_)
  refine lv_iconst (v := nI 1) hX.1 hX.2.1 d_Lw_read_13 (by decide) ?_
  refine W.widen (k := 1) (n := 6) (by omega) (by omega) ?_
  exact kiret hX hr hlocks hQ () (hW) (rfl) d_Lw_read_14
