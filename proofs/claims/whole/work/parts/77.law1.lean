/-! THE LAW: place, size, letter, feed -/
set_option maxHeartbeats 4000000 in
set_option maxRecDepth 100000 in
/-- place -/
theorem lc_place {p : Program} {l : Launch} {e : Env} {s : State} {m : MethodId} {below : List Frame} {meth : Method} {c : Code} {b L : Nat} {xs : Nat → Int32} {Q : State → Prop} {D : va_G} {k : Nat → ClassId} {Y : va_W} {H : Heap} {locs : List Loc} {ls : Array Slot} {cells slots i : Nat} (C : LC p l s m meth c b L xs) (hi : i + 5 ≤ L) (wz ou md : Nat) (ad : Nat → Nat) (OU : Nat → Int64) (ta sv no pr ma se wo sp1 wa : Nat) (th at1 wr dp pa le : Nat) (ts y : Nat) (hcs : cells + 140000 ≤ 601024) (hss : slots + 900000 ≤ 7293034) (hW : KW D k (AL s) s ((wz, .inr (7, [.ref ta, .ref sv, .ref no, .ref pr, .ref ma, .ref se, .ref wo, .ref sp1, .int (nM wa)])) :: (md, .inr (8, [.int (nI th), .int (nI ts), .ref (ad 2), .int (nM wa), .ref (ad 4), .ref (ad 5), .ref (ad 6), .ref (ad 7), .ref (ad 8), .ref (ad 9), .int (nI y), .ref (ad 11), .int (nI at1), .int (nM wr), .int (nI dp), .int (nI pa), .ref (ad 16), .ref (ad 17), .ref (ad 18), .int (nI le), .ref (ad 20), .ref (ad 21), .ref (ad 22), .ref (ad 23), .ref (ad 24), .ref (ad 25), .ref (ad 26), .ref (ad 27), .ref (ad 28), .ref (ad 29), .ref (ad 30)])) :: (ou, .inl (k 1, 1, .inr (.inl OU))) :: Y) H locs) (hl : lv_has ls 8 [(4, .int (nI i)), (3, .ref ou), (2, .ref md), (1, .ref wz), (0, .ref b)]) (kont : ∀ (th : Nat) (OU : Nat → Int64) (H : Heap) (locs : List Loc) (ls : Array Slot) (cells2 slots2 : Nat), cells2 ≤ cells + 2 → slots2 ≤ slots + 2100 → KW D k (AL s) s ((wz, .inr (7, [.ref ta, .ref sv, .ref no, .ref pr, .ref ma, .ref se, .ref wo, .ref sp1, .int (nM wa)])) :: (md, .inr (8, [.int (nI th), .int (nI ts), .ref (ad 2), .int (nM wa), .ref (ad 4), .ref (ad 5), .ref (ad 6), .ref (ad 7), .ref (ad 8), .ref (ad 9), .int (nI y), .ref (ad 11), .int (nI at1), .int (nM wr), .int (nI dp), .int (nI pa), .ref (ad 16), .ref (ad 17), .ref (ad 18), .int (nI le), .ref (ad 20), .ref (ad 21), .ref (ad 22), .ref (ad 23), .ref (ad 24), .ref (ad 25), .ref (ad 26), .ref (ad 27), .ref (ad 28), .ref (ad 29), .ref (ad 30)])) :: (ou, .inl (k 1, 1, .inr (.inl OU))) :: Y) H locs → lv_has ls 8 [(4, .int (nI i)), (3, .ref ou), (2, .ref md), (1, .ref wz), (0, .ref b)] → W p l e room_1 s m #[Value.ref b] below meth c H locs cells2 slots2 Q (F0 m 894 ls [])) : W p l e room_1 s m #[Value.ref b] below meth c H locs cells slots Q (F0 m 260 ls []) := by
  obtain ⟨hl0, hX, hml, hO, hZ, hXs, hbl, hL⟩ := C
  have hbA : ¬ AL s b := Nat.not_le.mpr hbl
  have hrc : room_1.cells = 601024 := rfl
  have hrs : room_1.slots = 7293034 := rfl
  generalize hA0 : AL s = A at hW hZ hbA kont
  refine lv_aload_n hX.1 hX.2.1 d_law_260 rfl (lv_at hl 3 rfl) ?_
  refine kCi (wc := [(wz, .inr (7, [.ref ta, .ref sv, .ref no, .ref pr, .ref ma, .ref se, .ref wo, .ref sp1, .int (nM wa)]))]) hW [0] (by rfl) (by intro _; exact (rfl : (1 : Nat) = 1)) (kRunV (n := 0) (As := []) (rest := []) hX hml hW (ok_Ws_place l D k H.size wz ta sv no pr ma se wo sp1 wa) m_Lw_76 im_Ws_place se_Ws_place in_Ws cd_Ws_place [0] rfl rfl rfl rfl (by decide +kernel) ⟨rfl, rfl, Nat.le_of_ble_eq_true rfl, Nat.le_of_ble_eq_true rfl⟩ rfl hl.1 rfl (Nat.le_of_ble_eq_true rfl) d_law_261 ⟨by first | exact Nat.zero_le _ | decide | omega | (dsimp only; omega), by first | exact Nat.zero_le _ | decide | omega | (dsimp only; omega)⟩) (fun r u H locs hr1 hW => ?_)
  simp only [setAll, List.set_cons_zero, List.set_cons_succ] at hW
  have hW : KW D k A s ((wz, .inr (7, [.ref ta, .ref sv, .ref no, .ref pr, .ref ma, .ref se, .ref wo, .ref sp1, .int (nM wa)])) :: (md, .inr (8, [.int (nI th), .int (nI ts), .ref (ad 2), .int (nM wa), .ref (ad 4), .ref (ad 5), .ref (ad 6), .ref (ad 7), .ref (ad 8), .ref (ad 9), .int (nI y), .ref (ad 11), .int (nI at1), .int (nM wr), .int (nI dp), .int (nI pa), .ref (ad 16), .ref (ad 17), .ref (ad 18), .int (nI le), .ref (ad 20), .ref (ad 21), .ref (ad 22), .ref (ad 23), .ref (ad 24), .ref (ad 25), .ref (ad 26), .ref (ad 27), .ref (ad 28), .ref (ad 29), .ref (ad 30)])) :: (ou, .inl (k 1, 1, .inr (.inl OU))) :: Y) H locs := hW
  subst hr1
  refine lv_aload_n hX.1 hX.2.1 d_law_264 rfl (lv_at hl 2 rfl) ?_
  refine kCi (wc := [(md, .inr (8, [.int (nI th), .int (nI ts), .ref (ad 2), .int (nM wa), .ref (ad 4), .ref (ad 5), .ref (ad 6), .ref (ad 7), .ref (ad 8), .ref (ad 9), .int (nI y), .ref (ad 11), .int (nI at1), .int (nM wr), .int (nI dp), .int (nI pa), .ref (ad 16), .ref (ad 17), .ref (ad 18), .int (nI le), .ref (ad 20), .ref (ad 21), .ref (ad 22), .ref (ad 23), .ref (ad 24), .ref (ad 25), .ref (ad 26), .ref (ad 27), .ref (ad 28), .ref (ad 29), .ref (ad 30)]))]) hW [1] (by rfl) (by intro _; exact (rfl : (1 : Nat) = 1)) (kRunV (n := 0) (As := []) (rest := [.int (nM wa)]) hX hml hW (ok_Md_place l D k H.size md ad th ts wa y at1 wr dp pa le) m_Lw_79 im_Md_place se_Md_place in_Md cd_Md_place [1] rfl rfl rfl rfl (by decide +kernel) ⟨rfl, rfl, Nat.le_of_ble_eq_true rfl, Nat.le_of_ble_eq_true rfl⟩ rfl hl.1 rfl (Nat.le_of_ble_eq_true rfl) d_law_265 ⟨by first | exact Nat.zero_le _ | decide | omega | (dsimp only; omega), by first | exact Nat.zero_le _ | decide | omega | (dsimp only; omega)⟩) (fun r _ H locs hr2 hW => ?_)
  simp only [setAll, List.set_cons_zero, List.set_cons_succ] at hW
  have hW : KW D k A s ((wz, .inr (7, [.ref ta, .ref sv, .ref no, .ref pr, .ref ma, .ref se, .ref wo, .ref sp1, .int (nM wa)])) :: (md, .inr (8, [.int (nI 0), .int (nI ts), .ref (ad 2), .int (nM wa), .ref (ad 4), .ref (ad 5), .ref (ad 6), .ref (ad 7), .ref (ad 8), .ref (ad 9), .int (nI y), .ref (ad 11), .int (nI at1), .int (nM wr), .int (nI dp), .int (nI pa), .ref (ad 16), .ref (ad 17), .ref (ad 18), .int (nI le), .ref (ad 20), .ref (ad 21), .ref (ad 22), .ref (ad 23), .ref (ad 24), .ref (ad 25), .ref (ad 26), .ref (ad 27), .ref (ad 28), .ref (ad 29), .ref (ad 30)])) :: (ou, .inl (k 1, 1, .inr (.inl OU))) :: Y) H locs := hW
  subst hr2
  refine kicmp_same hX (tgt := 894) rfl d_law_268 (by decide) ?_
  exact kont 0 (OU) H locs ls _ _  (by first | omega | (dsimp only; omega)) (by first | omega | (dsimp only; omega)) hW (lv_sub hl [0, 1, 2, 3, 4] rfl)
set_option maxHeartbeats 4000000 in
set_option maxRecDepth 100000 in
/-- size -/
theorem lc_size {p : Program} {l : Launch} {e : Env} {s : State} {m : MethodId} {below : List Frame} {meth : Method} {c : Code} {b L : Nat} {xs : Nat → Int32} {Q : State → Prop} {D : va_G} {k : Nat → ClassId} {Y : va_W} {H : Heap} {locs : List Loc} {ls : Array Slot} {cells slots i : Nat} (C : LC p l s m meth c b L xs) (hi : i + 5 ≤ L) (wz ou md : Nat) (ad : Nat → Nat) (OU : Nat → Int64) (ta sv no pr ma se wo sp1 wa : Nat) (th at1 wr dp pa le : Nat) (ts y : Nat) (wl cw : Nat) (WL : Nat → Nat) (hcs : cells + 140000 ≤ 601024) (hss : slots + 900000 ≤ 7293034) (hW : KW D k (AL s) s ((wz, .inr (7, [.ref ta, .ref sv, .ref no, .ref pr, .ref ma, .ref se, .ref wo, .ref sp1, .int (nM wa)])) :: (wo, .inr (6, [.ref wl, .int (nI y)])) :: (wl, .inl (k 0, cw, .inl (aN WL))) :: (md, .inr (8, [.int (nI th), .int (nI ts), .ref (ad 2), .int (nM wa), .ref (ad 4), .ref (ad 5), .ref (ad 6), .ref (ad 7), .ref (ad 8), .ref (ad 9), .int (nI y), .ref (ad 11), .int (nI at1), .int (nM wr), .int (nI dp), .int (nI pa), .ref (ad 16), .ref (ad 17), .ref (ad 18), .int (nI le), .ref (ad 20), .ref (ad 21), .ref (ad 22), .ref (ad 23), .ref (ad 24), .ref (ad 25), .ref (ad 26), .ref (ad 27), .ref (ad 28), .ref (ad 29), .ref (ad 30)])) :: (ou, .inl (k 1, 1, .inr (.inl OU))) :: Y) H locs) (hl : lv_has ls 8 [(4, .int (nI i)), (3, .ref ou), (2, .ref md), (1, .ref wz), (0, .ref b)]) (kont : ∀ (th : Nat) (OU : Nat → Int64) (H : Heap) (locs : List Loc) (ls : Array Slot) (cells2 slots2 : Nat), cells2 ≤ cells + 2 → slots2 ≤ slots + 2100 → KW D k (AL s) s ((wz, .inr (7, [.ref ta, .ref sv, .ref no, .ref pr, .ref ma, .ref se, .ref wo, .ref sp1, .int (nM wa)])) :: (wo, .inr (6, [.ref wl, .int (nI y)])) :: (wl, .inl (k 0, cw, .inl (aN WL))) :: (md, .inr (8, [.int (nI th), .int (nI ts), .ref (ad 2), .int (nM wa), .ref (ad 4), .ref (ad 5), .ref (ad 6), .ref (ad 7), .ref (ad 8), .ref (ad 9), .int (nI y), .ref (ad 11), .int (nI at1), .int (nM wr), .int (nI dp), .int (nI pa), .ref (ad 16), .ref (ad 17), .ref (ad 18), .int (nI le), .ref (ad 20), .ref (ad 21), .ref (ad 22), .ref (ad 23), .ref (ad 24), .ref (ad 25), .ref (ad 26), .ref (ad 27), .ref (ad 28), .ref (ad 29), .ref (ad 30)])) :: (ou, .inl (k 1, 1, .inr (.inl OU))) :: Y) H locs → lv_has ls 8 [(4, .int (nI i)), (3, .ref ou), (2, .ref md), (1, .ref wz), (0, .ref b)] → W p l e room_1 s m #[Value.ref b] below meth c H locs cells2 slots2 Q (F0 m 894 ls [])) : W p l e room_1 s m #[Value.ref b] below meth c H locs cells slots Q (F0 m 825 ls []) := by
  obtain ⟨hl0, hX, hml, hO, hZ, hXs, hbl, hL⟩ := C
  have hbA : ¬ AL s b := Nat.not_le.mpr hbl
  have hrc : room_1.cells = 601024 := rfl
  have hrs : room_1.slots = 7293034 := rfl
  generalize hA0 : AL s = A at hW hZ hbA kont
  refine lv_aload_n hX.1 hX.2.1 d_law_825 rfl (lv_at hl 3 rfl) ?_
  refine kCi (wc := [(wz, .inr (7, [.ref ta, .ref sv, .ref no, .ref pr, .ref ma, .ref se, .ref wo, .ref sp1, .int (nM wa)])), (wo, .inr (6, [.ref wl, .int (nI y)])), (wl, .inl (k 0, cw, .inl (aN WL)))]) hW [0, 1, 2] (by rfl) (by intro _; exact (rfl : (3 : Nat) = 3)) (kRunV (n := 0) (As := []) (rest := []) hX hml hW (ok_Ws_size l D k H.size wz ta sv no pr ma se wo sp1 wa wl y cw WL) m_Lw_107 im_Ws_size se_Ws_size in_Ws cd_Ws_size [0, 1, 2] rfl rfl rfl rfl (by decide +kernel) ⟨rfl, rfl, Nat.le_of_ble_eq_true rfl, Nat.le_of_ble_eq_true rfl⟩ rfl hl.1 rfl (Nat.le_of_ble_eq_true rfl) d_law_826 ⟨by first | exact Nat.zero_le _ | decide | omega | (dsimp only; omega), by first | exact Nat.zero_le _ | decide | omega | (dsimp only; omega)⟩) (fun r u H locs hr1 hW => ?_)
  simp only [setAll, List.set_cons_zero, List.set_cons_succ] at hW
  have hW : KW D k A s ((wz, .inr (7, [.ref ta, .ref sv, .ref no, .ref pr, .ref ma, .ref se, .ref wo, .ref sp1, .int (nM wa)])) :: (wo, .inr (6, [.ref wl, .int (nI y)])) :: (wl, .inl (k 0, cw, .inl (aN WL))) :: (md, .inr (8, [.int (nI th), .int (nI ts), .ref (ad 2), .int (nM wa), .ref (ad 4), .ref (ad 5), .ref (ad 6), .ref (ad 7), .ref (ad 8), .ref (ad 9), .int (nI y), .ref (ad 11), .int (nI at1), .int (nM wr), .int (nI dp), .int (nI pa), .ref (ad 16), .ref (ad 17), .ref (ad 18), .int (nI le), .ref (ad 20), .ref (ad 21), .ref (ad 22), .ref (ad 23), .ref (ad 24), .ref (ad 25), .ref (ad 26), .ref (ad 27), .ref (ad 28), .ref (ad 29), .ref (ad 30)])) :: (ou, .inl (k 1, 1, .inr (.inl OU))) :: Y) H locs := hW
  subst hr1
  refine lv_aload_n hX.1 hX.2.1 d_law_829 rfl (lv_at hl 2 rfl) ?_
  refine kCi (wc := [(md, .inr (8, [.int (nI th), .int (nI ts), .ref (ad 2), .int (nM wa), .ref (ad 4), .ref (ad 5), .ref (ad 6), .ref (ad 7), .ref (ad 8), .ref (ad 9), .int (nI y), .ref (ad 11), .int (nI at1), .int (nM wr), .int (nI dp), .int (nI pa), .ref (ad 16), .ref (ad 17), .ref (ad 18), .int (nI le), .ref (ad 20), .ref (ad 21), .ref (ad 22), .ref (ad 23), .ref (ad 24), .ref (ad 25), .ref (ad 26), .ref (ad 27), .ref (ad 28), .ref (ad 29), .ref (ad 30)]))]) hW [3] (by rfl) (by intro _; exact (rfl : (1 : Nat) = 1)) (kRunV (n := 0) (As := []) (rest := [.int (nI y)]) hX hml hW (ok_Md_size l D k H.size md ad th ts wa y at1 wr dp pa le) m_Lw_110 im_Md_size se_Md_size in_Md cd_Md_size [3] rfl rfl rfl rfl (by decide +kernel) ⟨rfl, rfl, Nat.le_of_ble_eq_true rfl, Nat.le_of_ble_eq_true rfl⟩ rfl hl.1 rfl (Nat.le_of_ble_eq_true rfl) d_law_830 ⟨by first | exact Nat.zero_le _ | decide | omega | (dsimp only; omega), by first | exact Nat.zero_le _ | decide | omega | (dsimp only; omega)⟩) (fun r _ H locs hr2 hW => ?_)
  simp only [setAll, List.set_cons_zero, List.set_cons_succ] at hW
  have hW : KW D k A s ((wz, .inr (7, [.ref ta, .ref sv, .ref no, .ref pr, .ref ma, .ref se, .ref wo, .ref sp1, .int (nM wa)])) :: (wo, .inr (6, [.ref wl, .int (nI y)])) :: (wl, .inl (k 0, cw, .inl (aN WL))) :: (md, .inr (8, [.int (nI 0), .int (nI ts), .ref (ad 2), .int (nM wa), .ref (ad 4), .ref (ad 5), .ref (ad 6), .ref (ad 7), .ref (ad 8), .ref (ad 9), .int (nI y), .ref (ad 11), .int (nI at1), .int (nM wr), .int (nI dp), .int (nI pa), .ref (ad 16), .ref (ad 17), .ref (ad 18), .int (nI le), .ref (ad 20), .ref (ad 21), .ref (ad 22), .ref (ad 23), .ref (ad 24), .ref (ad 25), .ref (ad 26), .ref (ad 27), .ref (ad 28), .ref (ad 29), .ref (ad 30)])) :: (ou, .inl (k 1, 1, .inr (.inl OU))) :: Y) H locs := hW
  subst hr2
  refine kicmp_same hX (tgt := 894) rfl d_law_833 (by decide) ?_
  exact kont 0 (OU) H locs ls _ _  (by first | omega | (dsimp only; omega)) (by first | omega | (dsimp only; omega)) hW (lv_sub hl [0, 1, 2, 3, 4] rfl)
theorem le_nM {x : Int32} {y : Nat} (hy : y < 2 ^ 20) (h : nI 0 ≤ x ∧ x ≤ nM y) : ∃ kx, kx < y ∧ x = nI kx := by
  cases y with
  | zero => exact absurd (Int32.le_trans h.1 h.2) (by decide +kernel)
  | succ y =>
    rw [nM_s] at h
    obtain ⟨a, ha, e⟩ := i32_r (hi := y) (by omega) (Int32.not_lt.mpr h.1) h.2
    exact ⟨a, by omega, e⟩
set_option maxHeartbeats 4000000 in
set_option maxRecDepth 100000 in
/-- letter -/
theorem lc_letter {p : Program} {l : Launch} {e : Env} {s : State} {m : MethodId} {below : List Frame} {meth : Method} {c : Code} {b L : Nat} {xs : Nat → Int32} {Q : State → Prop} {D : va_G} {k : Nat → ClassId} {Y : va_W} {H : Heap} {locs : List Loc} {ls : Array Slot} {cells slots i : Nat} (C : LC p l s m meth c b L xs) (hi : i + 5 ≤ L) (wz ou md : Nat) (ad : Nat → Nat) (OU : Nat → Int64) (ta sv no pr ma se wo sp1 wa : Nat) (th at1 wr dp pa le : Nat) (ts y : Nat) (wl cw : Nat) (WL WD : Nat → Nat) (hyc : y ≤ cw) (hcw : cw ≤ 2400) (hWW : ∀ q, q < y → WD q = WL q) (hcs : cells + 140000 ≤ 601024) (hss : slots + 900000 ≤ 7293034) (hW : KW D k (AL s) s ((wz, .inr (7, [.ref ta, .ref sv, .ref no, .ref pr, .ref ma, .ref se, .ref wo, .ref sp1, .int (nM wa)])) :: (wo, .inr (6, [.ref wl, .int (nI y)])) :: (wl, .inl (k 0, cw, .inl (aN WL))) :: (md, .inr (8, [.int (nI th), .int (nI ts), .ref (ad 2), .int (nM wa), .ref (ad 4), .ref (ad 5), .ref (ad 6), .ref (ad 7), .ref (ad 8), .ref (ad 9), .int (nI y), .ref (ad 11), .int (nI at1), .int (nM wr), .int (nI dp), .int (nI pa), .ref (ad 16), .ref (ad 17), .ref (ad 18), .int (nI le), .ref (ad 20), .ref (ad 21), .ref (ad 22), .ref (ad 23), .ref (ad 24), .ref (ad 25), .ref (ad 26), .ref (ad 27), .ref (ad 28), .ref (ad 29), .ref (ad 30)])) :: (ad 11, .inl (k 0, 2400, .inl (aN WD))) :: (ou, .inl (k 1, 1, .inr (.inl OU))) :: Y) H locs) (hl : lv_has ls 8 [(4, .int (nI i)), (3, .ref ou), (2, .ref md), (1, .ref wz), (0, .ref b)]) (kont : ∀ (th : Nat) (OU : Nat → Int64) (H : Heap) (locs : List Loc) (ls : Array Slot) (cells2 slots2 : Nat), cells2 ≤ cells + 2 → slots2 ≤ slots + 2100 → KW D k (AL s) s ((wz, .inr (7, [.ref ta, .ref sv, .ref no, .ref pr, .ref ma, .ref se, .ref wo, .ref sp1, .int (nM wa)])) :: (wo, .inr (6, [.ref wl, .int (nI y)])) :: (wl, .inl (k 0, cw, .inl (aN WL))) :: (md, .inr (8, [.int (nI th), .int (nI ts), .ref (ad 2), .int (nM wa), .ref (ad 4), .ref (ad 5), .ref (ad 6), .ref (ad 7), .ref (ad 8), .ref (ad 9), .int (nI y), .ref (ad 11), .int (nI at1), .int (nM wr), .int (nI dp), .int (nI pa), .ref (ad 16), .ref (ad 17), .ref (ad 18), .int (nI le), .ref (ad 20), .ref (ad 21), .ref (ad 22), .ref (ad 23), .ref (ad 24), .ref (ad 25), .ref (ad 26), .ref (ad 27), .ref (ad 28), .ref (ad 29), .ref (ad 30)])) :: (ad 11, .inl (k 0, 2400, .inl (aN WD))) :: (ou, .inl (k 1, 1, .inr (.inl OU))) :: Y) H locs → lv_has ls 8 [(4, .int (nI i)), (3, .ref ou), (2, .ref md), (1, .ref wz), (0, .ref b)] → W p l e room_1 s m #[Value.ref b] below meth c H locs cells2 slots2 Q (F0 m 894 ls [])) : W p l e room_1 s m #[Value.ref b] below meth c H locs cells slots Q (F0 m 838 ls []) := by
  obtain ⟨hl0, hX, hml, hO, hZ, hXs, hbl, hL⟩ := C
  have hbA : ¬ AL s b := Nat.not_le.mpr hbl
  have hrc : room_1.cells = 601024 := rfl
  have hrs : room_1.slots = 7293034 := rfl
  generalize hA0 : AL s = A at hW hZ hbA kont
  refine lv_aload_n hX.1 hX.2.1 d_law_838 rfl (lv_at hl 3 rfl) ?_
  refine lv_aload_n hX.1 hX.2.1 d_law_839 rfl (lv_at hl 4 rfl) ?_
  refine lv_iload hX.1 hX.2.1 d_law_840 (lv_at hl 0 rfl) ?_
  refine lv_iconst (v := nI 1) hX.1 hX.2.1 d_law_842 (by decide) ?_
  refine lv_iadd hX.1 hX.2.1 d_law_843 ?_
  refine tpi (y := nI (i + 1)) (nI_add _ _) ?_
  refine ksld hX hXs hbl hbA hW (i := i + 1) (by omega) hL d_law_844 ?_
  refine lv_aload_n hX.1 hX.2.1 d_law_845 rfl (lv_at hl 1 rfl) ?_
  rcases Classical.em (nI 0 ≤ xs (i + 1) ∧ xs (i + 1) ≤ nM y) with hg | hg
  · obtain ⟨kx, hkx, ekx⟩ : ∃ kx, kx < y ∧ xs (i + 1) = nI kx := le_nM (by omega) hg
    rw [ekx]
    refine kCi (wc := [(wz, .inr (7, [.ref ta, .ref sv, .ref no, .ref pr, .ref ma, .ref se, .ref wo, .ref sp1, .int (nM wa)])), (wo, .inr (6, [.ref wl, .int (nI y)])), (wl, .inl (k 0, cw, .inl (aN WL))), (ou, .inl (k 1, 1, .inr (.inl OU)))]) hW [0, 1, 2, 5] (by rfl) (by intro _; exact (rfl : (4 : Nat) = 4)) (kRunH (n := 3) (As := [.ref wz, .int (nI kx), .ref ou]) (rest := []) hX hO hZ hml hW (ok_Lw_letter l D k H.size wz ta sv no pr ma se wo sp1 wa ou OU wl y cw WL kx hkx hyc (by omega)) m_Lw_111 sm_Lw_letter in_Lw cw_Lw_letter [0, 1, 2, 5] rfl rfl (by decide +kernel) ⟨rfl, rfl, Nat.le_of_ble_eq_true rfl, Nat.le_of_ble_eq_true rfl⟩ rfl hl.1 rfl (Nat.le_of_ble_eq_true rfl) d_law_846 ⟨by first | omega | (dsimp only; omega), by first | omega | (dsimp only; omega)⟩) (fun r u H locs hr1 hW => ?_)
    simp only [setAll, List.set_cons_zero, List.set_cons_succ] at hW
    have hW : KW D k A s ((wz, .inr (7, [.ref ta, .ref sv, .ref no, .ref pr, .ref ma, .ref se, .ref wo, .ref sp1, .int (nM wa)])) :: (wo, .inr (6, [.ref wl, .int (nI y)])) :: (wl, .inl (k 0, cw, .inl (aN WL))) :: (md, .inr (8, [.int (nI th), .int (nI ts), .ref (ad 2), .int (nM wa), .ref (ad 4), .ref (ad 5), .ref (ad 6), .ref (ad 7), .ref (ad 8), .ref (ad 9), .int (nI y), .ref (ad 11), .int (nI at1), .int (nM wr), .int (nI dp), .int (nI pa), .ref (ad 16), .ref (ad 17), .ref (ad 18), .int (nI le), .ref (ad 20), .ref (ad 21), .ref (ad 22), .ref (ad 23), .ref (ad 24), .ref (ad 25), .ref (ad 26), .ref (ad 27), .ref (ad 28), .ref (ad 29), .ref (ad 30)])) :: (ad 11, .inl (k 0, 2400, .inl (aN WD))) :: (ou, .inl (k 1, 1, .inr (.inl (vp_updL OU 0 ((nI (WL kx)).toInt64))))) :: Y) H locs := hW
    subst hr1
    refine lv_istore (lv' := [(5, .int (nI 0)), (4, .int (nI i)), (3, .ref ou), (2, .ref md), (1, .ref wz), (0, .ref b)]) hX.1 hX.2.1 d_law_849 hl (by decide) rfl (fun ls hl => ?_)
    refine lv_aload_n hX.1 hX.2.1 d_law_851 rfl (lv_at hl 3 rfl) ?_
    refine lv_aload_n hX.1 hX.2.1 d_law_852 rfl (lv_at hl 5 rfl) ?_
    refine lv_iload hX.1 hX.2.1 d_law_853 (lv_at hl 1 rfl) ?_
    refine lv_iconst (v := nI 1) hX.1 hX.2.1 d_law_855 (by decide) ?_
    refine lv_iadd hX.1 hX.2.1 d_law_856 ?_
    refine tpi (y := nI (i + 1)) (nI_add _ _) ?_
    refine ksld hX hXs hbl hbA hW (i := i + 1) (by omega) hL d_law_857 ?_
    rw [ekx]
    refine kCi (wc := [(md, .inr (8, [.int (nI th), .int (nI ts), .ref (ad 2), .int (nM wa), .ref (ad 4), .ref (ad 5), .ref (ad 6), .ref (ad 7), .ref (ad 8), .ref (ad 9), .int (nI y), .ref (ad 11), .int (nI at1), .int (nM wr), .int (nI dp), .int (nI pa), .ref (ad 16), .ref (ad 17), .ref (ad 18), .int (nI le), .ref (ad 20), .ref (ad 21), .ref (ad 22), .ref (ad 23), .ref (ad 24), .ref (ad 25), .ref (ad 26), .ref (ad 27), .ref (ad 28), .ref (ad 29), .ref (ad 30)])), (ad 11, .inl (k 0, 2400, .inl (aN WD)))]) hW [3, 4] (by rfl) (by intro _; exact (rfl : (2 : Nat) = 2)) (kRunV (n := 1) (As := [.int (nI kx)]) (rest := []) hX hml hW (ok_Md_letter l D k H.size md ad th ts wa y at1 wr dp pa le WD kx hkx (by omega)) m_Lw_113 im_Md_letter se_Md_letter in_Md cd_Md_letter [3, 4] rfl rfl rfl rfl (by decide +kernel) ⟨rfl, rfl, Nat.le_of_ble_eq_true rfl, Nat.le_of_ble_eq_true rfl⟩ rfl hl.1 rfl (Nat.le_of_ble_eq_true rfl) d_law_858 ⟨by first | exact Nat.zero_le _ | decide | omega | (dsimp only; omega), by first | exact Nat.zero_le _ | decide | omega | (dsimp only; omega)⟩) (fun r _ H locs hr2 hW => ?_)
    simp only [setAll, List.set_cons_zero, List.set_cons_succ] at hW
    have hW : KW D k A s ((wz, .inr (7, [.ref ta, .ref sv, .ref no, .ref pr, .ref ma, .ref se, .ref wo, .ref sp1, .int (nM wa)])) :: (wo, .inr (6, [.ref wl, .int (nI y)])) :: (wl, .inl (k 0, cw, .inl (aN WL))) :: (md, .inr (8, [.int (nI 0), .int (nI ts), .ref (ad 2), .int (nM wa), .ref (ad 4), .ref (ad 5), .ref (ad 6), .ref (ad 7), .ref (ad 8), .ref (ad 9), .int (nI y), .ref (ad 11), .int (nI at1), .int (nM wr), .int (nI dp), .int (nI pa), .ref (ad 16), .ref (ad 17), .ref (ad 18), .int (nI le), .ref (ad 20), .ref (ad 21), .ref (ad 22), .ref (ad 23), .ref (ad 24), .ref (ad 25), .ref (ad 26), .ref (ad 27), .ref (ad 28), .ref (ad 29), .ref (ad 30)])) :: (ad 11, .inl (k 0, 2400, .inl (aN WD))) :: (ou, .inl (k 1, 1, .inr (.inl (vp_updL OU 0 ((nI (WL kx)).toInt64))))) :: Y) H locs := hW
    rw [hWW kx hkx] at hr2
    subst hr2
    refine lv_istore (lv' := [(6, .int (nI (WL kx))), (5, .int (nI 0)), (4, .int (nI i)), (3, .ref ou), (2, .ref md), (1, .ref wz), (0, .ref b)]) hX.1 hX.2.1 d_law_861 hl (by decide) rfl (fun ls hl => ?_)
    refine lv_aload_n hX.1 hX.2.1 d_law_863 rfl (lv_at hl 4 rfl) ?_
    refine kCi (wc := [(md, .inr (8, [.int (nI 0), .int (nI ts), .ref (ad 2), .int (nM wa), .ref (ad 4), .ref (ad 5), .ref (ad 6), .ref (ad 7), .ref (ad 8), .ref (ad 9), .int (nI y), .ref (ad 11), .int (nI at1), .int (nM wr), .int (nI dp), .int (nI pa), .ref (ad 16), .ref (ad 17), .ref (ad 18), .int (nI le), .ref (ad 20), .ref (ad 21), .ref (ad 22), .ref (ad 23), .ref (ad 24), .ref (ad 25), .ref (ad 26), .ref (ad 27), .ref (ad 28), .ref (ad 29), .ref (ad 30)]))]) hW [3] (by rfl) (by intro _; exact (rfl : (1 : Nat) = 1)) (kRunV (n := 0) (As := []) (rest := []) hX hml hW (ok_Md_thrown l D k H.size md ad 0 ts wa y at1 wr dp pa le) m_Lw_68 im_Md_thrown se_Md_thrown in_Md cd_Md_thrown [3] rfl rfl rfl rfl (by decide +kernel) ⟨rfl, rfl, Nat.le_of_ble_eq_true rfl, Nat.le_of_ble_eq_true rfl⟩ rfl hl.1 rfl (Nat.le_of_ble_eq_true rfl) d_law_864 ⟨by first | exact Nat.zero_le _ | decide | omega | (dsimp only; omega), by first | exact Nat.zero_le _ | decide | omega | (dsimp only; omega)⟩) (fun r _ H locs hr9 hW => ?_)
    simp only [setAll, List.set_cons_zero, List.set_cons_succ] at hW
    have hW : KW D k A s ((wz, .inr (7, [.ref ta, .ref sv, .ref no, .ref pr, .ref ma, .ref se, .ref wo, .ref sp1, .int (nM wa)])) :: (wo, .inr (6, [.ref wl, .int (nI y)])) :: (wl, .inl (k 0, cw, .inl (aN WL))) :: (md, .inr (8, [.int (nI 0), .int (nI ts), .ref (ad 2), .int (nM wa), .ref (ad 4), .ref (ad 5), .ref (ad 6), .ref (ad 7), .ref (ad 8), .ref (ad 9), .int (nI y), .ref (ad 11), .int (nI at1), .int (nM wr), .int (nI dp), .int (nI pa), .ref (ad 16), .ref (ad 17), .ref (ad 18), .int (nI le), .ref (ad 20), .ref (ad 21), .ref (ad 22), .ref (ad 23), .ref (ad 24), .ref (ad 25), .ref (ad 26), .ref (ad 27), .ref (ad 28), .ref (ad 29), .ref (ad 30)])) :: (ad 11, .inl (k 0, 2400, .inl (aN WD))) :: (ou, .inl (k 1, 1, .inr (.inl (vp_updL OU 0 ((nI (WL kx)).toInt64))))) :: Y) H locs := hW
    subst hr9
    refine lv_iload hX.1 hX.2.1 d_law_867 (lv_at hl 1 rfl) ?_
    refine kicmp_same hX (tgt := 874) rfl d_law_869 (by decide) ?_
    refine lv_iload hX.1 hX.2.1 d_law_874 (lv_at hl 1 rfl) ?_
    refine knz hX (tgt := 891) (by decide) d_law_876 (by decide) (fun h => absurd rfl h) (fun _ => ?_)
    refine lv_aload_n hX.1 hX.2.1 d_law_879 rfl (lv_at hl 3 rfl) ?_
    refine lv_iconst (v := nI 0) hX.1 hX.2.1 d_law_880 (by decide) ?_
    refine krlald hX hW 5 rfl (by decide) (by decide) d_law_881 ?_
    refine tpl (y := ((nI (WL kx)).toInt64)) (by unfold vp_updL; rw [if_pos rfl]) ?_
    refine lv_iload hX.1 hX.2.1 d_law_882 (lv_at hl 0 rfl) ?_
    refine lv_i2l (v := (nI (WL kx)).toInt64) hX.1 hX.2.1 d_law_884 (rfl) ?_
    refine klcmp_same hX (tgt := 891) (rfl) d_law_885 d_law_886 (by decide) ?_
    refine lv_goto (tgt := 894) hX.1 hX.2.1 d_law_891 (by decide) ?_
    exact kont 0 (vp_updL OU 0 ((nI (WL kx)).toInt64)) H locs ls _ _  (by first | omega | (dsimp only; omega)) (by first | omega | (dsimp only; omega)) hW (lv_sub hl [2, 3, 4, 5, 6] rfl)
  · refine kCi (wc := [(wz, .inr (7, [.ref ta, .ref sv, .ref no, .ref pr, .ref ma, .ref se, .ref wo, .ref sp1, .int (nM wa)])), (wo, .inr (6, [.ref wl, .int (nI y)])), (wl, .inl (k 0, cw, .inl (aN WL))), (ou, .inl (k 1, 1, .inr (.inl OU)))]) hW [0, 1, 2, 5] (by rfl) (by intro _; exact (rfl : (4 : Nat) = 4)) (kRunH (n := 3) (As := [.ref wz, .int (xs (i + 1)), .ref ou]) (rest := []) hX hO hZ hml hW (ok_Lw_letterBad l hl0 D k H.size wz ta sv no pr ma se wo sp1 wa ou OU wl y cw WL (xs (i + 1)) (by omega) hg) m_Lw_111 sm_Lw_letter in_Lw cw_Lw_letter [0, 1, 2, 5] rfl rfl (by decide +kernel) ⟨rfl, rfl, Nat.le_of_ble_eq_true rfl, Nat.le_of_ble_eq_true rfl⟩ rfl hl.1 rfl (Nat.le_of_ble_eq_true rfl) d_law_846 ⟨by first | omega | (dsimp only; omega), by first | omega | (dsimp only; omega)⟩) (fun r u H locs hr1 hW => ?_)
    simp only [setAll, List.set_cons_zero, List.set_cons_succ] at hW
    have hW : KW D k A s ((wz, .inr (7, [.ref ta, .ref sv, .ref no, .ref pr, .ref ma, .ref se, .ref wo, .ref sp1, .int (nM wa)])) :: (wo, .inr (6, [.ref wl, .int (nI y)])) :: (wl, .inl (k 0, cw, .inl (aN WL))) :: (md, .inr (8, [.int (nI th), .int (nI ts), .ref (ad 2), .int (nM wa), .ref (ad 4), .ref (ad 5), .ref (ad 6), .ref (ad 7), .ref (ad 8), .ref (ad 9), .int (nI y), .ref (ad 11), .int (nI at1), .int (nM wr), .int (nI dp), .int (nI pa), .ref (ad 16), .ref (ad 17), .ref (ad 18), .int (nI le), .ref (ad 20), .ref (ad 21), .ref (ad 22), .ref (ad 23), .ref (ad 24), .ref (ad 25), .ref (ad 26), .ref (ad 27), .ref (ad 28), .ref (ad 29), .ref (ad 30)])) :: (ad 11, .inl (k 0, 2400, .inl (aN WD))) :: (ou, .inl (k 1, 1, .inr (.inl OU))) :: Y) H locs := hW
    subst hr1
    refine lv_istore (lv' := [(5, .int (nI 1)), (4, .int (nI i)), (3, .ref ou), (2, .ref md), (1, .ref wz), (0, .ref b)]) hX.1 hX.2.1 d_law_849 hl (by decide) rfl (fun ls hl => ?_)
    refine lv_aload_n hX.1 hX.2.1 d_law_851 rfl (lv_at hl 3 rfl) ?_
    refine lv_aload_n hX.1 hX.2.1 d_law_852 rfl (lv_at hl 5 rfl) ?_
    refine lv_iload hX.1 hX.2.1 d_law_853 (lv_at hl 1 rfl) ?_
    refine lv_iconst (v := nI 1) hX.1 hX.2.1 d_law_855 (by decide) ?_
    refine lv_iadd hX.1 hX.2.1 d_law_856 ?_
    refine tpi (y := nI (i + 1)) (nI_add _ _) ?_
    refine ksld hX hXs hbl hbA hW (i := i + 1) (by omega) hL d_law_857 ?_
    refine kCi (wc := [(md, .inr (8, [.int (nI th), .int (nI ts), .ref (ad 2), .int (nM wa), .ref (ad 4), .ref (ad 5), .ref (ad 6), .ref (ad 7), .ref (ad 8), .ref (ad 9), .int (nI y), .ref (ad 11), .int (nI at1), .int (nM wr), .int (nI dp), .int (nI pa), .ref (ad 16), .ref (ad 17), .ref (ad 18), .int (nI le), .ref (ad 20), .ref (ad 21), .ref (ad 22), .ref (ad 23), .ref (ad 24), .ref (ad 25), .ref (ad 26), .ref (ad 27), .ref (ad 28), .ref (ad 29), .ref (ad 30)])), (ad 11, .inl (k 0, 2400, .inl (aN WD)))]) hW [3, 4] (by rfl) (by intro _; exact (rfl : (2 : Nat) = 2)) (kRunV (n := 1) (As := [.int (xs (i + 1))]) (rest := []) hX hml hW (ok_Md_letterBad l D k H.size md ad th ts wa y at1 wr dp pa le WD (xs (i + 1)) hg) m_Lw_113 im_Md_letter se_Md_letter in_Md cd_Md_letter [3, 4] rfl rfl rfl rfl (by decide +kernel) ⟨rfl, rfl, Nat.le_of_ble_eq_true rfl, Nat.le_of_ble_eq_true rfl⟩ rfl hl.1 rfl (Nat.le_of_ble_eq_true rfl) d_law_858 ⟨by first | exact Nat.zero_le _ | decide | omega | (dsimp only; omega), by first | exact Nat.zero_le _ | decide | omega | (dsimp only; omega)⟩) (fun r _ H locs hr2 hW => ?_)
    simp only [setAll, List.set_cons_zero, List.set_cons_succ] at hW
    have hW : KW D k A s ((wz, .inr (7, [.ref ta, .ref sv, .ref no, .ref pr, .ref ma, .ref se, .ref wo, .ref sp1, .int (nM wa)])) :: (wo, .inr (6, [.ref wl, .int (nI y)])) :: (wl, .inl (k 0, cw, .inl (aN WL))) :: (md, .inr (8, [.int (nI 1), .int (nI ts), .ref (ad 2), .int (nM wa), .ref (ad 4), .ref (ad 5), .ref (ad 6), .ref (ad 7), .ref (ad 8), .ref (ad 9), .int (nI y), .ref (ad 11), .int (nI at1), .int (nM wr), .int (nI dp), .int (nI pa), .ref (ad 16), .ref (ad 17), .ref (ad 18), .int (nI le), .ref (ad 20), .ref (ad 21), .ref (ad 22), .ref (ad 23), .ref (ad 24), .ref (ad 25), .ref (ad 26), .ref (ad 27), .ref (ad 28), .ref (ad 29), .ref (ad 30)])) :: (ad 11, .inl (k 0, 2400, .inl (aN WD))) :: (ou, .inl (k 1, 1, .inr (.inl OU))) :: Y) H locs := hW
    refine lv_istore (lv' := [(6, .int r), (5, .int (nI 1)), (4, .int (nI i)), (3, .ref ou), (2, .ref md), (1, .ref wz), (0, .ref b)]) hX.1 hX.2.1 d_law_861 hl (by decide) rfl (fun ls hl => ?_)
    refine lv_aload_n hX.1 hX.2.1 d_law_863 rfl (lv_at hl 4 rfl) ?_
    refine kCi (wc := [(md, .inr (8, [.int (nI 1), .int (nI ts), .ref (ad 2), .int (nM wa), .ref (ad 4), .ref (ad 5), .ref (ad 6), .ref (ad 7), .ref (ad 8), .ref (ad 9), .int (nI y), .ref (ad 11), .int (nI at1), .int (nM wr), .int (nI dp), .int (nI pa), .ref (ad 16), .ref (ad 17), .ref (ad 18), .int (nI le), .ref (ad 20), .ref (ad 21), .ref (ad 22), .ref (ad 23), .ref (ad 24), .ref (ad 25), .ref (ad 26), .ref (ad 27), .ref (ad 28), .ref (ad 29), .ref (ad 30)]))]) hW [3] (by rfl) (by intro _; exact (rfl : (1 : Nat) = 1)) (kRunV (n := 0) (As := []) (rest := []) hX hml hW (ok_Md_thrown l D k H.size md ad 1 ts wa y at1 wr dp pa le) m_Lw_68 im_Md_thrown se_Md_thrown in_Md cd_Md_thrown [3] rfl rfl rfl rfl (by decide +kernel) ⟨rfl, rfl, Nat.le_of_ble_eq_true rfl, Nat.le_of_ble_eq_true rfl⟩ rfl hl.1 rfl (Nat.le_of_ble_eq_true rfl) d_law_864 ⟨by first | exact Nat.zero_le _ | decide | omega | (dsimp only; omega), by first | exact Nat.zero_le _ | decide | omega | (dsimp only; omega)⟩) (fun r _ H locs hr9 hW => ?_)
    simp only [setAll, List.set_cons_zero, List.set_cons_succ] at hW
    have hW : KW D k A s ((wz, .inr (7, [.ref ta, .ref sv, .ref no, .ref pr, .ref ma, .ref se, .ref wo, .ref sp1, .int (nM wa)])) :: (wo, .inr (6, [.ref wl, .int (nI y)])) :: (wl, .inl (k 0, cw, .inl (aN WL))) :: (md, .inr (8, [.int (nI 1), .int (nI ts), .ref (ad 2), .int (nM wa), .ref (ad 4), .ref (ad 5), .ref (ad 6), .ref (ad 7), .ref (ad 8), .ref (ad 9), .int (nI y), .ref (ad 11), .int (nI at1), .int (nM wr), .int (nI dp), .int (nI pa), .ref (ad 16), .ref (ad 17), .ref (ad 18), .int (nI le), .ref (ad 20), .ref (ad 21), .ref (ad 22), .ref (ad 23), .ref (ad 24), .ref (ad 25), .ref (ad 26), .ref (ad 27), .ref (ad 28), .ref (ad 29), .ref (ad 30)])) :: (ad 11, .inl (k 0, 2400, .inl (aN WD))) :: (ou, .inl (k 1, 1, .inr (.inl OU))) :: Y) H locs := hW
    subst hr9
    refine lv_iload hX.1 hX.2.1 d_law_867 (lv_at hl 1 rfl) ?_
    refine kicmp_same hX (tgt := 874) rfl d_law_869 (by decide) ?_
    refine lv_iload hX.1 hX.2.1 d_law_874 (lv_at hl 1 rfl) ?_
    refine knz hX (tgt := 891) (by decide) d_law_876 (by decide) (fun _ => ?_) (fun h => absurd h (by decide))
    refine lv_goto (tgt := 894) hX.1 hX.2.1 d_law_891 (by decide) ?_
    exact kont 1 (OU) H locs ls _ _  (by first | omega | (dsimp only; omega)) (by first | omega | (dsimp only; omega)) hW (lv_sub hl [2, 3, 4, 5, 6] rfl)
theorem in_18 {x : Int32} (h : nI 1 ≤ x ∧ x ≤ nI 8) : ∃ nn, 1 ≤ nn ∧ nn ≤ 8 ∧ x = nI nn := by
  have h0 : ¬ x < 0 := fun q => absurd (Int32.lt_of_le_of_lt h.1 q) (by decide +kernel)
  obtain ⟨a, ha, e⟩ := i32_r (hi := 8) (by decide) h0 h.2
  subst e
  exact ⟨a, (nI_leI (by decide) (by omega)).mp h.1, ha, rfl⟩
theorem tpw_256 {B : Nat → Nat} {z : Nat} {x : Int64} {n : Nat} (h : ∀ q, B q < 256) : ∀ m q, tpw B z x n m q < 256 := by
  intro m
  induction m with
  | zero => exact h
  | succ m ih =>
    intro q
    rw [tpw]
    by_cases e : q = z + m
    · subst e; rw [va_up_self]; exact byt_lt _ _
    · rw [va_up_ne _ _ e]; exact ih q
set_option maxHeartbeats 4000000 in
set_option maxRecDepth 100000 in
/-- feed -/
theorem lc_feed {p : Program} {l : Launch} {e : Env} {s : State} {m : MethodId} {below : List Frame} {meth : Method} {c : Code} {b L : Nat} {xs : Nat → Int32} {Q : State → Prop} {D : va_G} {k : Nat → ClassId} {Y : va_W} {H : Heap} {locs : List Loc} {ls : Array Slot} {cells slots i : Nat} (C : LC p l s m meth c b L xs) (hi : i + 5 ≤ L) (wz ou md : Nat) (ad : Nat → Nat) (OU : Nat → Int64) (ta sv no pr ma se wo sp1 wa : Nat) (th at1 wr dp pa le : Nat) (ts y tb : Nat) (B : Nat → Nat) (hts : ts ≤ 80) (hB : ∀ q, B q < 256) (hcs : cells + 140000 ≤ 601024) (hss : slots + 900000 ≤ 7293034) (hW : KW D k (AL s) s ((wz, .inr (7, [.ref ta, .ref sv, .ref no, .ref pr, .ref ma, .ref se, .ref wo, .ref sp1, .int (nM wa)])) :: (ta, .inr (5, [.ref tb, .int (nI ts)])) :: (tb, .inl (k 0, 80, .inl (aN B))) :: (md, .inr (8, [.int (nI th), .int (nI ts), .ref (ad 2), .int (nM wa), .ref (ad 4), .ref (ad 5), .ref (ad 6), .ref (ad 7), .ref (ad 8), .ref (ad 9), .int (nI y), .ref (ad 11), .int (nI at1), .int (nM wr), .int (nI dp), .int (nI pa), .ref (ad 16), .ref (ad 17), .ref (ad 18), .int (nI le), .ref (ad 20), .ref (ad 21), .ref (ad 22), .ref (ad 23), .ref (ad 24), .ref (ad 25), .ref (ad 26), .ref (ad 27), .ref (ad 28), .ref (ad 29), .ref (ad 30)])) :: (ad 2, .inl (k 0, 80, .inl (aN B))) :: (ou, .inl (k 1, 1, .inr (.inl OU))) :: Y) H locs) (hl : lv_has ls 8 [(4, .int (nI i)), (3, .ref ou), (2, .ref md), (1, .ref wz), (0, .ref b)]) (kont : ∀ (t2 : Nat) (B2 : Nat → Nat) (th : Nat) (OU : Nat → Int64) (H : Heap) (locs : List Loc) (ls : Array Slot) (cells2 slots2 : Nat), t2 ≤ 80 → (∀ q, B2 q < 256) → cells2 ≤ cells + 2 → slots2 ≤ slots + 2100 → KW D k (AL s) s ((wz, .inr (7, [.ref ta, .ref sv, .ref no, .ref pr, .ref ma, .ref se, .ref wo, .ref sp1, .int (nM wa)])) :: (ta, .inr (5, [.ref tb, .int (nI t2)])) :: (tb, .inl (k 0, 80, .inl (aN B2))) :: (md, .inr (8, [.int (nI th), .int (nI t2), .ref (ad 2), .int (nM wa), .ref (ad 4), .ref (ad 5), .ref (ad 6), .ref (ad 7), .ref (ad 8), .ref (ad 9), .int (nI y), .ref (ad 11), .int (nI at1), .int (nM wr), .int (nI dp), .int (nI pa), .ref (ad 16), .ref (ad 17), .ref (ad 18), .int (nI le), .ref (ad 20), .ref (ad 21), .ref (ad 22), .ref (ad 23), .ref (ad 24), .ref (ad 25), .ref (ad 26), .ref (ad 27), .ref (ad 28), .ref (ad 29), .ref (ad 30)])) :: (ad 2, .inl (k 0, 80, .inl (aN B2))) :: (ou, .inl (k 1, 1, .inr (.inl OU))) :: Y) H locs → lv_has ls 8 [(4, .int (nI i)), (3, .ref ou), (2, .ref md), (1, .ref wz), (0, .ref b)] → W p l e room_1 s m #[Value.ref b] below meth c H locs cells2 slots2 Q (F0 m 894 ls [])) : W p l e room_1 s m #[Value.ref b] below meth c H locs cells slots Q (F0 m 104 ls []) := by
  obtain ⟨hl0, hX, hml, hO, hZ, hXs, hbl, hL⟩ := C
  have hbA : ¬ AL s b := Nat.not_le.mpr hbl
  have hrc : room_1.cells = 601024 := rfl
  have hrs : room_1.slots = 7293034 := rfl
  generalize hA0 : AL s = A at hW hZ hbA kont
  refine lv_aload_n hX.1 hX.2.1 d_law_104 rfl (lv_at hl 3 rfl) ?_
  refine lv_aload_n hX.1 hX.2.1 d_law_105 rfl (lv_at hl 4 rfl) ?_
  refine lv_iload hX.1 hX.2.1 d_law_106 (lv_at hl 0 rfl) ?_
  refine lv_iconst (v := nI 1) hX.1 hX.2.1 d_law_108 (by decide) ?_
  refine lv_iadd hX.1 hX.2.1 d_law_109 ?_
  refine tpi (y := nI (i + 1)) (nI_add _ _) ?_
  refine ksld hX hXs hbl hbA hW (i := i + 1) (by omega) hL d_law_110 ?_
  refine lv_i2l (v := (xs (i + 1)).toInt64) hX.1 hX.2.1 d_law_111 (rfl) ?_
  refine lv_bipush (v := nI 32) hX.1 hX.2.1 d_law_112 (by decide) ?_
  refine lv_lshl (v := ((xs (i + 1)).toInt64) <<< ((nI 32).toInt64 &&& 63)) hX.1 hX.2.1 d_law_114 (rfl) ?_
  refine lv_aload_n hX.1 hX.2.1 d_law_115 rfl (lv_at hl 4 rfl) ?_
  refine lv_iload hX.1 hX.2.1 d_law_116 (lv_at hl 0 rfl) ?_
  refine lv_iconst (v := nI 2) hX.1 hX.2.1 d_law_118 (by decide) ?_
  refine lv_iadd hX.1 hX.2.1 d_law_119 ?_
  refine tpi (y := nI (i + 2)) (nI_add _ _) ?_
  refine ksld hX hXs hbl hbA hW (i := i + 2) (by omega) hL d_law_120 ?_
  refine lv_i2l (v := (xs (i + 2)).toInt64) hX.1 hX.2.1 d_law_121 (rfl) ?_
  refine lv_ldc2 hX.1 hX.2.1 hX.2.2.1 (hX.2.2.2 _ co_Lw_60) d_law_122 ?_
  refine lv_land hX.1 hX.2.1 d_law_125 ?_
  refine tpl (y := ((xs (i + 2)).toInt64) &&& 4294967295) (rfl) ?_
  refine lv_lor hX.1 hX.2.1 d_law_126 ?_
  refine tpl (y := sxx (xs (i + 1)) (xs (i + 2))) (rfl) ?_
  refine lv_aload_n hX.1 hX.2.1 d_law_127 rfl (lv_at hl 4 rfl) ?_
  refine lv_iload hX.1 hX.2.1 d_law_128 (lv_at hl 0 rfl) ?_
  refine lv_iconst (v := nI 3) hX.1 hX.2.1 d_law_130 (by decide) ?_
  refine lv_iadd hX.1 hX.2.1 d_law_131 ?_
  refine tpi (y := nI (i + 3)) (nI_add _ _) ?_
  refine ksld hX hXs hbl hbA hW (i := i + 3) (by omega) hL d_law_132 ?_
  refine lv_aload_n hX.1 hX.2.1 d_law_133 rfl (lv_at hl 1 rfl) ?_
  rcases Classical.em (nI 1 ≤ xs (i + 3) ∧ xs (i + 3) ≤ nI 8) with hg | hg
  · obtain ⟨nn, hn1, hn8, enn⟩ : ∃ nn, 1 ≤ nn ∧ nn ≤ 8 ∧ xs (i + 3) = nI nn := in_18 hg
    rw [enn]
    rcases Nat.lt_or_ge 80 (ts + nn) with hf | hf
    · refine kCi (wc := [(wz, .inr (7, [.ref ta, .ref sv, .ref no, .ref pr, .ref ma, .ref se, .ref wo, .ref sp1, .int (nM wa)])), (ta, .inr (5, [.ref tb, .int (nI ts)])), (tb, .inl (k 0, 80, .inl (aN B))), (ou, .inl (k 1, 1, .inr (.inl OU)))]) hW [0, 1, 2, 5] (by rfl) (by intro _; exact (rfl : (4 : Nat) = 4)) (kRunH (n := 4) (As := [.ref wz, .long (sxx (xs (i + 1)) (xs (i + 2))), .int (nI nn), .ref ou]) (rest := []) hX hO hZ hml hW (ok_Lw_feedFull l hl0 D k H.size wz ta sv no pr ma se wo sp1 wa ou OU tb ts B (sxx (xs (i + 1)) (xs (i + 2))) nn hn1 hn8 hts hf) m_Lw_62 sm_Lw_feed in_Lw cw_Lw_feed [0, 1, 2, 5] rfl rfl (by decide +kernel) ⟨rfl, rfl, Nat.le_of_ble_eq_true rfl, Nat.le_of_ble_eq_true rfl⟩ rfl hl.1 rfl (Nat.le_of_ble_eq_true rfl) d_law_134 ⟨by first | omega | (dsimp only; omega), by first | omega | (dsimp only; omega)⟩) (fun r u H locs hr1 hW => ?_)
      simp only [setAll, List.set_cons_zero, List.set_cons_succ] at hW
      have hW : KW D k A s ((wz, .inr (7, [.ref ta, .ref sv, .ref no, .ref pr, .ref ma, .ref se, .ref wo, .ref sp1, .int (nM wa)])) :: (ta, .inr (5, [.ref tb, .int (nI ts)])) :: (tb, .inl (k 0, 80, .inl (aN B))) :: (md, .inr (8, [.int (nI th), .int (nI ts), .ref (ad 2), .int (nM wa), .ref (ad 4), .ref (ad 5), .ref (ad 6), .ref (ad 7), .ref (ad 8), .ref (ad 9), .int (nI y), .ref (ad 11), .int (nI at1), .int (nM wr), .int (nI dp), .int (nI pa), .ref (ad 16), .ref (ad 17), .ref (ad 18), .int (nI le), .ref (ad 20), .ref (ad 21), .ref (ad 22), .ref (ad 23), .ref (ad 24), .ref (ad 25), .ref (ad 26), .ref (ad 27), .ref (ad 28), .ref (ad 29), .ref (ad 30)])) :: (ad 2, .inl (k 0, 80, .inl (aN B))) :: (ou, .inl (k 1, 1, .inr (.inl OU))) :: Y) H locs := hW
      subst hr1
      refine lv_istore (lv' := [(5, .int (nI 2)), (4, .int (nI i)), (3, .ref ou), (2, .ref md), (1, .ref wz), (0, .ref b)]) hX.1 hX.2.1 d_law_137 hl (by decide) rfl (fun ls hl => ?_)
      refine lv_aload_n hX.1 hX.2.1 d_law_139 rfl (lv_at hl 3 rfl) ?_
      refine lv_aload_n hX.1 hX.2.1 d_law_140 rfl (lv_at hl 5 rfl) ?_
      refine lv_iload hX.1 hX.2.1 d_law_141 (lv_at hl 1 rfl) ?_
      refine lv_iconst (v := nI 1) hX.1 hX.2.1 d_law_143 (by decide) ?_
      refine lv_iadd hX.1 hX.2.1 d_law_144 ?_
      refine tpi (y := nI (i + 1)) (nI_add _ _) ?_
      refine ksld hX hXs hbl hbA hW (i := i + 1) (by omega) hL d_law_145 ?_
      refine lv_i2l (v := (xs (i + 1)).toInt64) hX.1 hX.2.1 d_law_146 (rfl) ?_
      refine lv_bipush (v := nI 32) hX.1 hX.2.1 d_law_147 (by decide) ?_
      refine lv_lshl (v := ((xs (i + 1)).toInt64) <<< ((nI 32).toInt64 &&& 63)) hX.1 hX.2.1 d_law_149 (rfl) ?_
      refine lv_aload_n hX.1 hX.2.1 d_law_150 rfl (lv_at hl 5 rfl) ?_
      refine lv_iload hX.1 hX.2.1 d_law_151 (lv_at hl 1 rfl) ?_
      refine lv_iconst (v := nI 2) hX.1 hX.2.1 d_law_153 (by decide) ?_
      refine lv_iadd hX.1 hX.2.1 d_law_154 ?_
      refine tpi (y := nI (i + 2)) (nI_add _ _) ?_
      refine ksld hX hXs hbl hbA hW (i := i + 2) (by omega) hL d_law_155 ?_
      refine lv_i2l (v := (xs (i + 2)).toInt64) hX.1 hX.2.1 d_law_156 (rfl) ?_
      refine lv_ldc2 hX.1 hX.2.1 hX.2.2.1 (hX.2.2.2 _ co_Lw_60) d_law_157 ?_
      refine lv_land hX.1 hX.2.1 d_law_160 ?_
      refine tpl (y := ((xs (i + 2)).toInt64) &&& 4294967295) (rfl) ?_
      refine lv_lor hX.1 hX.2.1 d_law_161 ?_
      refine tpl (y := sxx (xs (i + 1)) (xs (i + 2))) (rfl) ?_
      refine lv_aload_n hX.1 hX.2.1 d_law_162 rfl (lv_at hl 5 rfl) ?_
      refine lv_iload hX.1 hX.2.1 d_law_163 (lv_at hl 1 rfl) ?_
      refine lv_iconst (v := nI 3) hX.1 hX.2.1 d_law_165 (by decide) ?_
      refine lv_iadd hX.1 hX.2.1 d_law_166 ?_
      refine tpi (y := nI (i + 3)) (nI_add _ _) ?_
      refine ksld hX hXs hbl hbA hW (i := i + 3) (by omega) hL d_law_167 ?_
      rw [enn]
      refine kCi (wc := [(md, .inr (8, [.int (nI th), .int (nI ts), .ref (ad 2), .int (nM wa), .ref (ad 4), .ref (ad 5), .ref (ad 6), .ref (ad 7), .ref (ad 8), .ref (ad 9), .int (nI y), .ref (ad 11), .int (nI at1), .int (nM wr), .int (nI dp), .int (nI pa), .ref (ad 16), .ref (ad 17), .ref (ad 18), .int (nI le), .ref (ad 20), .ref (ad 21), .ref (ad 22), .ref (ad 23), .ref (ad 24), .ref (ad 25), .ref (ad 26), .ref (ad 27), .ref (ad 28), .ref (ad 29), .ref (ad 30)])), (ad 2, .inl (k 0, 80, .inl (aN B)))]) hW [3, 4] (by rfl) (by intro _; exact (rfl : (2 : Nat) = 2)) (kRunV (n := 2) (As := [.long (sxx (xs (i + 1)) (xs (i + 2))), .int (nI nn)]) (rest := []) hX hml hW (ok_Md_feedFull l D k H.size md ad th ts wa y at1 wr dp pa le B (sxx (xs (i + 1)) (xs (i + 2))) nn hn1 hn8 hts hf) m_Lw_67 im_Md_feed se_Md_feed in_Md cd_Md_feed [3, 4] rfl rfl rfl rfl (by decide +kernel) ⟨rfl, rfl, Nat.le_of_ble_eq_true rfl, Nat.le_of_ble_eq_true rfl⟩ rfl hl.1 rfl (Nat.le_of_ble_eq_true rfl) d_law_168 ⟨by first | exact Nat.zero_le _ | decide | omega | (dsimp only; omega), by first | exact Nat.zero_le _ | decide | omega | (dsimp only; omega)⟩) (fun r _ H locs hr2 hW => ?_)
      simp only [setAll, List.set_cons_zero, List.set_cons_succ] at hW
      have hW : KW D k A s ((wz, .inr (7, [.ref ta, .ref sv, .ref no, .ref pr, .ref ma, .ref se, .ref wo, .ref sp1, .int (nM wa)])) :: (ta, .inr (5, [.ref tb, .int (nI ts)])) :: (tb, .inl (k 0, 80, .inl (aN B))) :: (md, .inr (8, [.int (nI 2), .int (nI ts), .ref (ad 2), .int (nM wa), .ref (ad 4), .ref (ad 5), .ref (ad 6), .ref (ad 7), .ref (ad 8), .ref (ad 9), .int (nI y), .ref (ad 11), .int (nI at1), .int (nM wr), .int (nI dp), .int (nI pa), .ref (ad 16), .ref (ad 17), .ref (ad 18), .int (nI le), .ref (ad 20), .ref (ad 21), .ref (ad 22), .ref (ad 23), .ref (ad 24), .ref (ad 25), .ref (ad 26), .ref (ad 27), .ref (ad 28), .ref (ad 29), .ref (ad 30)])) :: (ad 2, .inl (k 0, 80, .inl (aN B))) :: (ou, .inl (k 1, 1, .inr (.inl OU))) :: Y) H locs := hW
      refine lv_istore (lv' := [(6, .int r), (5, .int (nI 2)), (4, .int (nI i)), (3, .ref ou), (2, .ref md), (1, .ref wz), (0, .ref b)]) hX.1 hX.2.1 d_law_171 hl (by decide) rfl (fun ls hl => ?_)
      refine lv_aload_n hX.1 hX.2.1 d_law_173 rfl (lv_at hl 4 rfl) ?_
      refine kCi (wc := [(md, .inr (8, [.int (nI 2), .int (nI ts), .ref (ad 2), .int (nM wa), .ref (ad 4), .ref (ad 5), .ref (ad 6), .ref (ad 7), .ref (ad 8), .ref (ad 9), .int (nI y), .ref (ad 11), .int (nI at1), .int (nM wr), .int (nI dp), .int (nI pa), .ref (ad 16), .ref (ad 17), .ref (ad 18), .int (nI le), .ref (ad 20), .ref (ad 21), .ref (ad 22), .ref (ad 23), .ref (ad 24), .ref (ad 25), .ref (ad 26), .ref (ad 27), .ref (ad 28), .ref (ad 29), .ref (ad 30)]))]) hW [3] (by rfl) (by intro _; exact (rfl : (1 : Nat) = 1)) (kRunV (n := 0) (As := []) (rest := []) hX hml hW (ok_Md_thrown l D k H.size md ad 2 ts wa y at1 wr dp pa le) m_Lw_68 im_Md_thrown se_Md_thrown in_Md cd_Md_thrown [3] rfl rfl rfl rfl (by decide +kernel) ⟨rfl, rfl, Nat.le_of_ble_eq_true rfl, Nat.le_of_ble_eq_true rfl⟩ rfl hl.1 rfl (Nat.le_of_ble_eq_true rfl) d_law_174 ⟨by first | exact Nat.zero_le _ | decide | omega | (dsimp only; omega), by first | exact Nat.zero_le _ | decide | omega | (dsimp only; omega)⟩) (fun r _ H locs hr9 hW => ?_)
      simp only [setAll, List.set_cons_zero, List.set_cons_succ] at hW
      have hW : KW D k A s ((wz, .inr (7, [.ref ta, .ref sv, .ref no, .ref pr, .ref ma, .ref se, .ref wo, .ref sp1, .int (nM wa)])) :: (ta, .inr (5, [.ref tb, .int (nI ts)])) :: (tb, .inl (k 0, 80, .inl (aN B))) :: (md, .inr (8, [.int (nI 2), .int (nI ts), .ref (ad 2), .int (nM wa), .ref (ad 4), .ref (ad 5), .ref (ad 6), .ref (ad 7), .ref (ad 8), .ref (ad 9), .int (nI y), .ref (ad 11), .int (nI at1), .int (nM wr), .int (nI dp), .int (nI pa), .ref (ad 16), .ref (ad 17), .ref (ad 18), .int (nI le), .ref (ad 20), .ref (ad 21), .ref (ad 22), .ref (ad 23), .ref (ad 24), .ref (ad 25), .ref (ad 26), .ref (ad 27), .ref (ad 28), .ref (ad 29), .ref (ad 30)])) :: (ad 2, .inl (k 0, 80, .inl (aN B))) :: (ou, .inl (k 1, 1, .inr (.inl OU))) :: Y) H locs := hW
      subst hr9
      refine lv_iload hX.1 hX.2.1 d_law_177 (lv_at hl 1 rfl) ?_
      refine kicmp_same hX (tgt := 184) rfl d_law_179 (by decide) ?_
      refine lv_iload hX.1 hX.2.1 d_law_184 (lv_at hl 1 rfl) ?_
      refine knz hX (tgt := 201) (by decide) d_law_186 (by decide) (fun _ => ?_) (fun h => absurd h (by decide))
      refine lv_goto (tgt := 894) hX.1 hX.2.1 d_law_201 (by decide) ?_
      exact kont ts B 2 (OU) H locs ls _ _ hts hB (by first | omega | (dsimp only; omega)) (by first | omega | (dsimp only; omega)) hW (lv_sub hl [2, 3, 4, 5, 6] rfl)
    · refine kCi (wc := [(wz, .inr (7, [.ref ta, .ref sv, .ref no, .ref pr, .ref ma, .ref se, .ref wo, .ref sp1, .int (nM wa)])), (ta, .inr (5, [.ref tb, .int (nI ts)])), (tb, .inl (k 0, 80, .inl (aN B))), (ou, .inl (k 1, 1, .inr (.inl OU)))]) hW [0, 1, 2, 5] (by rfl) (by intro _; exact (rfl : (4 : Nat) = 4)) (kRunH (n := 4) (As := [.ref wz, .long (sxx (xs (i + 1)) (xs (i + 2))), .int (nI nn), .ref ou]) (rest := []) hX hO hZ hml hW (ok_Lw_feed l D k H.size wz ta sv no pr ma se wo sp1 wa ou OU tb ts B (sxx (xs (i + 1)) (xs (i + 2))) nn hn1 hn8 hf) m_Lw_62 sm_Lw_feed in_Lw cw_Lw_feed [0, 1, 2, 5] rfl rfl (by decide +kernel) ⟨rfl, rfl, Nat.le_of_ble_eq_true rfl, Nat.le_of_ble_eq_true rfl⟩ rfl hl.1 rfl (Nat.le_of_ble_eq_true rfl) d_law_134 ⟨by first | omega | (dsimp only; omega), by first | omega | (dsimp only; omega)⟩) (fun r u H locs hr1 hW => ?_)
      simp only [setAll, List.set_cons_zero, List.set_cons_succ] at hW
      have hW : KW D k A s ((wz, .inr (7, [.ref ta, .ref sv, .ref no, .ref pr, .ref ma, .ref se, .ref wo, .ref sp1, .int (nM wa)])) :: (ta, .inr (5, [.ref tb, .int (nI (ts + nn))])) :: (tb, .inl (k 0, 80, .inl (aN (tpw B ts (sxx (xs (i + 1)) (xs (i + 2))) nn nn)))) :: (md, .inr (8, [.int (nI th), .int (nI ts), .ref (ad 2), .int (nM wa), .ref (ad 4), .ref (ad 5), .ref (ad 6), .ref (ad 7), .ref (ad 8), .ref (ad 9), .int (nI y), .ref (ad 11), .int (nI at1), .int (nM wr), .int (nI dp), .int (nI pa), .ref (ad 16), .ref (ad 17), .ref (ad 18), .int (nI le), .ref (ad 20), .ref (ad 21), .ref (ad 22), .ref (ad 23), .ref (ad 24), .ref (ad 25), .ref (ad 26), .ref (ad 27), .ref (ad 28), .ref (ad 29), .ref (ad 30)])) :: (ad 2, .inl (k 0, 80, .inl (aN B))) :: (ou, .inl (k 1, 1, .inr (.inl (vp_updL OU 0 ((nI (ts + nn)).toInt64))))) :: Y) H locs := hW
      subst hr1
      refine lv_istore (lv' := [(5, .int (nI 0)), (4, .int (nI i)), (3, .ref ou), (2, .ref md), (1, .ref wz), (0, .ref b)]) hX.1 hX.2.1 d_law_137 hl (by decide) rfl (fun ls hl => ?_)
      refine lv_aload_n hX.1 hX.2.1 d_law_139 rfl (lv_at hl 3 rfl) ?_
      refine lv_aload_n hX.1 hX.2.1 d_law_140 rfl (lv_at hl 5 rfl) ?_
      refine lv_iload hX.1 hX.2.1 d_law_141 (lv_at hl 1 rfl) ?_
      refine lv_iconst (v := nI 1) hX.1 hX.2.1 d_law_143 (by decide) ?_
      refine lv_iadd hX.1 hX.2.1 d_law_144 ?_
      refine tpi (y := nI (i + 1)) (nI_add _ _) ?_
      refine ksld hX hXs hbl hbA hW (i := i + 1) (by omega) hL d_law_145 ?_
      refine lv_i2l (v := (xs (i + 1)).toInt64) hX.1 hX.2.1 d_law_146 (rfl) ?_
      refine lv_bipush (v := nI 32) hX.1 hX.2.1 d_law_147 (by decide) ?_
      refine lv_lshl (v := ((xs (i + 1)).toInt64) <<< ((nI 32).toInt64 &&& 63)) hX.1 hX.2.1 d_law_149 (rfl) ?_
      refine lv_aload_n hX.1 hX.2.1 d_law_150 rfl (lv_at hl 5 rfl) ?_
      refine lv_iload hX.1 hX.2.1 d_law_151 (lv_at hl 1 rfl) ?_
      refine lv_iconst (v := nI 2) hX.1 hX.2.1 d_law_153 (by decide) ?_
      refine lv_iadd hX.1 hX.2.1 d_law_154 ?_
      refine tpi (y := nI (i + 2)) (nI_add _ _) ?_
      refine ksld hX hXs hbl hbA hW (i := i + 2) (by omega) hL d_law_155 ?_
      refine lv_i2l (v := (xs (i + 2)).toInt64) hX.1 hX.2.1 d_law_156 (rfl) ?_
      refine lv_ldc2 hX.1 hX.2.1 hX.2.2.1 (hX.2.2.2 _ co_Lw_60) d_law_157 ?_
      refine lv_land hX.1 hX.2.1 d_law_160 ?_
      refine tpl (y := ((xs (i + 2)).toInt64) &&& 4294967295) (rfl) ?_
      refine lv_lor hX.1 hX.2.1 d_law_161 ?_
      refine tpl (y := sxx (xs (i + 1)) (xs (i + 2))) (rfl) ?_
      refine lv_aload_n hX.1 hX.2.1 d_law_162 rfl (lv_at hl 5 rfl) ?_
      refine lv_iload hX.1 hX.2.1 d_law_163 (lv_at hl 1 rfl) ?_
      refine lv_iconst (v := nI 3) hX.1 hX.2.1 d_law_165 (by decide) ?_
      refine lv_iadd hX.1 hX.2.1 d_law_166 ?_
      refine tpi (y := nI (i + 3)) (nI_add _ _) ?_
      refine ksld hX hXs hbl hbA hW (i := i + 3) (by omega) hL d_law_167 ?_
      rw [enn]
      refine kCi (wc := [(md, .inr (8, [.int (nI th), .int (nI ts), .ref (ad 2), .int (nM wa), .ref (ad 4), .ref (ad 5), .ref (ad 6), .ref (ad 7), .ref (ad 8), .ref (ad 9), .int (nI y), .ref (ad 11), .int (nI at1), .int (nM wr), .int (nI dp), .int (nI pa), .ref (ad 16), .ref (ad 17), .ref (ad 18), .int (nI le), .ref (ad 20), .ref (ad 21), .ref (ad 22), .ref (ad 23), .ref (ad 24), .ref (ad 25), .ref (ad 26), .ref (ad 27), .ref (ad 28), .ref (ad 29), .ref (ad 30)])), (ad 2, .inl (k 0, 80, .inl (aN B)))]) hW [3, 4] (by rfl) (by intro _; exact (rfl : (2 : Nat) = 2)) (kRunV (n := 2) (As := [.long (sxx (xs (i + 1)) (xs (i + 2))), .int (nI nn)]) (rest := []) hX hml hW (ok_Md_feed l D k H.size md ad th ts wa y at1 wr dp pa le B (sxx (xs (i + 1)) (xs (i + 2))) nn hn1 hn8 hts hf) m_Lw_67 im_Md_feed se_Md_feed in_Md cd_Md_feed [3, 4] rfl rfl rfl rfl (by decide +kernel) ⟨rfl, rfl, Nat.le_of_ble_eq_true rfl, Nat.le_of_ble_eq_true rfl⟩ rfl hl.1 rfl (Nat.le_of_ble_eq_true rfl) d_law_168 ⟨by first | exact Nat.zero_le _ | decide | omega | (dsimp only; omega), by first | exact Nat.zero_le _ | decide | omega | (dsimp only; omega)⟩) (fun r _ H locs hr2 hW => ?_)
      simp only [setAll, List.set_cons_zero, List.set_cons_succ] at hW
      have hW : KW D k A s ((wz, .inr (7, [.ref ta, .ref sv, .ref no, .ref pr, .ref ma, .ref se, .ref wo, .ref sp1, .int (nM wa)])) :: (ta, .inr (5, [.ref tb, .int (nI (ts + nn))])) :: (tb, .inl (k 0, 80, .inl (aN (tpw B ts (sxx (xs (i + 1)) (xs (i + 2))) nn nn)))) :: (md, .inr (8, [.int (nI 0), .int (nI (ts + nn)), .ref (ad 2), .int (nM wa), .ref (ad 4), .ref (ad 5), .ref (ad 6), .ref (ad 7), .ref (ad 8), .ref (ad 9), .int (nI y), .ref (ad 11), .int (nI at1), .int (nM wr), .int (nI dp), .int (nI pa), .ref (ad 16), .ref (ad 17), .ref (ad 18), .int (nI le), .ref (ad 20), .ref (ad 21), .ref (ad 22), .ref (ad 23), .ref (ad 24), .ref (ad 25), .ref (ad 26), .ref (ad 27), .ref (ad 28), .ref (ad 29), .ref (ad 30)])) :: (ad 2, .inl (k 0, 80, .inl (aN (tpw B ts (sxx (xs (i + 1)) (xs (i + 2))) nn nn)))) :: (ou, .inl (k 1, 1, .inr (.inl (vp_updL OU 0 ((nI (ts + nn)).toInt64))))) :: Y) H locs := hW
      subst hr2
      refine lv_istore (lv' := [(6, .int (nI (ts + nn))), (5, .int (nI 0)), (4, .int (nI i)), (3, .ref ou), (2, .ref md), (1, .ref wz), (0, .ref b)]) hX.1 hX.2.1 d_law_171 hl (by decide) rfl (fun ls hl => ?_)
      refine lv_aload_n hX.1 hX.2.1 d_law_173 rfl (lv_at hl 4 rfl) ?_
      refine kCi (wc := [(md, .inr (8, [.int (nI 0), .int (nI (ts + nn)), .ref (ad 2), .int (nM wa), .ref (ad 4), .ref (ad 5), .ref (ad 6), .ref (ad 7), .ref (ad 8), .ref (ad 9), .int (nI y), .ref (ad 11), .int (nI at1), .int (nM wr), .int (nI dp), .int (nI pa), .ref (ad 16), .ref (ad 17), .ref (ad 18), .int (nI le), .ref (ad 20), .ref (ad 21), .ref (ad 22), .ref (ad 23), .ref (ad 24), .ref (ad 25), .ref (ad 26), .ref (ad 27), .ref (ad 28), .ref (ad 29), .ref (ad 30)]))]) hW [3] (by rfl) (by intro _; exact (rfl : (1 : Nat) = 1)) (kRunV (n := 0) (As := []) (rest := []) hX hml hW (ok_Md_thrown l D k H.size md ad 0 (ts + nn) wa y at1 wr dp pa le) m_Lw_68 im_Md_thrown se_Md_thrown in_Md cd_Md_thrown [3] rfl rfl rfl rfl (by decide +kernel) ⟨rfl, rfl, Nat.le_of_ble_eq_true rfl, Nat.le_of_ble_eq_true rfl⟩ rfl hl.1 rfl (Nat.le_of_ble_eq_true rfl) d_law_174 ⟨by first | exact Nat.zero_le _ | decide | omega | (dsimp only; omega), by first | exact Nat.zero_le _ | decide | omega | (dsimp only; omega)⟩) (fun r _ H locs hr9 hW => ?_)
      simp only [setAll, List.set_cons_zero, List.set_cons_succ] at hW
      have hW : KW D k A s ((wz, .inr (7, [.ref ta, .ref sv, .ref no, .ref pr, .ref ma, .ref se, .ref wo, .ref sp1, .int (nM wa)])) :: (ta, .inr (5, [.ref tb, .int (nI (ts + nn))])) :: (tb, .inl (k 0, 80, .inl (aN (tpw B ts (sxx (xs (i + 1)) (xs (i + 2))) nn nn)))) :: (md, .inr (8, [.int (nI 0), .int (nI (ts + nn)), .ref (ad 2), .int (nM wa), .ref (ad 4), .ref (ad 5), .ref (ad 6), .ref (ad 7), .ref (ad 8), .ref (ad 9), .int (nI y), .ref (ad 11), .int (nI at1), .int (nM wr), .int (nI dp), .int (nI pa), .ref (ad 16), .ref (ad 17), .ref (ad 18), .int (nI le), .ref (ad 20), .ref (ad 21), .ref (ad 22), .ref (ad 23), .ref (ad 24), .ref (ad 25), .ref (ad 26), .ref (ad 27), .ref (ad 28), .ref (ad 29), .ref (ad 30)])) :: (ad 2, .inl (k 0, 80, .inl (aN (tpw B ts (sxx (xs (i + 1)) (xs (i + 2))) nn nn)))) :: (ou, .inl (k 1, 1, .inr (.inl (vp_updL OU 0 ((nI (ts + nn)).toInt64))))) :: Y) H locs := hW
      subst hr9
      refine lv_iload hX.1 hX.2.1 d_law_177 (lv_at hl 1 rfl) ?_
      refine kicmp_same hX (tgt := 184) rfl d_law_179 (by decide) ?_
      refine lv_iload hX.1 hX.2.1 d_law_184 (lv_at hl 1 rfl) ?_
      refine knz hX (tgt := 201) (by decide) d_law_186 (by decide) (fun h => absurd rfl h) (fun _ => ?_)
      refine lv_aload_n hX.1 hX.2.1 d_law_189 rfl (lv_at hl 3 rfl) ?_
      refine lv_iconst (v := nI 0) hX.1 hX.2.1 d_law_190 (by decide) ?_
      refine krlald hX hW 5 rfl (by decide) (by decide) d_law_191 ?_
      refine tpl (y := ((nI (ts + nn)).toInt64)) (by unfold vp_updL; rw [if_pos rfl]) ?_
      refine lv_iload hX.1 hX.2.1 d_law_192 (lv_at hl 0 rfl) ?_
      refine lv_i2l (v := (nI (ts + nn)).toInt64) hX.1 hX.2.1 d_law_194 (rfl) ?_
      refine klcmp_same hX (tgt := 201) (rfl) d_law_195 d_law_196 (by decide) ?_
      refine lv_goto (tgt := 894) hX.1 hX.2.1 d_law_201 (by decide) ?_
      exact kont (ts + nn) _ 0 (vp_updL OU 0 ((nI (ts + nn)).toInt64)) H locs ls _ _ hf (tpw_256 hB nn) (by first | omega | (dsimp only; omega)) (by first | omega | (dsimp only; omega)) hW (lv_sub hl [2, 3, 4, 5, 6] rfl)
  · refine kCi (wc := [(wz, .inr (7, [.ref ta, .ref sv, .ref no, .ref pr, .ref ma, .ref se, .ref wo, .ref sp1, .int (nM wa)])), (ou, .inl (k 1, 1, .inr (.inl OU)))]) hW [0, 5] (by rfl) (by intro _; exact (rfl : (2 : Nat) = 2)) (kRunH (n := 4) (As := [.ref wz, .long (sxx (xs (i + 1)) (xs (i + 2))), .int (xs (i + 3)), .ref ou]) (rest := []) hX hO hZ hml hW (ok_Lw_feedBad l hl0 D k H.size wz ta sv no pr ma se wo sp1 wa ou OU (sxx (xs (i + 1)) (xs (i + 2))) (xs (i + 3)) hg) m_Lw_62 sm_Lw_feed in_Lw cw_Lw_feed [0, 5] rfl rfl (by decide +kernel) ⟨rfl, rfl, Nat.le_of_ble_eq_true rfl, Nat.le_of_ble_eq_true rfl⟩ rfl hl.1 rfl (Nat.le_of_ble_eq_true rfl) d_law_134 ⟨by first | omega | (dsimp only; omega), by first | omega | (dsimp only; omega)⟩) (fun r u H locs hr1 hW => ?_)
    simp only [setAll, List.set_cons_zero, List.set_cons_succ] at hW
    have hW : KW D k A s ((wz, .inr (7, [.ref ta, .ref sv, .ref no, .ref pr, .ref ma, .ref se, .ref wo, .ref sp1, .int (nM wa)])) :: (ta, .inr (5, [.ref tb, .int (nI ts)])) :: (tb, .inl (k 0, 80, .inl (aN B))) :: (md, .inr (8, [.int (nI th), .int (nI ts), .ref (ad 2), .int (nM wa), .ref (ad 4), .ref (ad 5), .ref (ad 6), .ref (ad 7), .ref (ad 8), .ref (ad 9), .int (nI y), .ref (ad 11), .int (nI at1), .int (nM wr), .int (nI dp), .int (nI pa), .ref (ad 16), .ref (ad 17), .ref (ad 18), .int (nI le), .ref (ad 20), .ref (ad 21), .ref (ad 22), .ref (ad 23), .ref (ad 24), .ref (ad 25), .ref (ad 26), .ref (ad 27), .ref (ad 28), .ref (ad 29), .ref (ad 30)])) :: (ad 2, .inl (k 0, 80, .inl (aN B))) :: (ou, .inl (k 1, 1, .inr (.inl OU))) :: Y) H locs := hW
    subst hr1
    refine lv_istore (lv' := [(5, .int (nI 1)), (4, .int (nI i)), (3, .ref ou), (2, .ref md), (1, .ref wz), (0, .ref b)]) hX.1 hX.2.1 d_law_137 hl (by decide) rfl (fun ls hl => ?_)
    refine lv_aload_n hX.1 hX.2.1 d_law_139 rfl (lv_at hl 3 rfl) ?_
    refine lv_aload_n hX.1 hX.2.1 d_law_140 rfl (lv_at hl 5 rfl) ?_
    refine lv_iload hX.1 hX.2.1 d_law_141 (lv_at hl 1 rfl) ?_
    refine lv_iconst (v := nI 1) hX.1 hX.2.1 d_law_143 (by decide) ?_
    refine lv_iadd hX.1 hX.2.1 d_law_144 ?_
    refine tpi (y := nI (i + 1)) (nI_add _ _) ?_
    refine ksld hX hXs hbl hbA hW (i := i + 1) (by omega) hL d_law_145 ?_
    refine lv_i2l (v := (xs (i + 1)).toInt64) hX.1 hX.2.1 d_law_146 (rfl) ?_
    refine lv_bipush (v := nI 32) hX.1 hX.2.1 d_law_147 (by decide) ?_
    refine lv_lshl (v := ((xs (i + 1)).toInt64) <<< ((nI 32).toInt64 &&& 63)) hX.1 hX.2.1 d_law_149 (rfl) ?_
    refine lv_aload_n hX.1 hX.2.1 d_law_150 rfl (lv_at hl 5 rfl) ?_
    refine lv_iload hX.1 hX.2.1 d_law_151 (lv_at hl 1 rfl) ?_
    refine lv_iconst (v := nI 2) hX.1 hX.2.1 d_law_153 (by decide) ?_
    refine lv_iadd hX.1 hX.2.1 d_law_154 ?_
    refine tpi (y := nI (i + 2)) (nI_add _ _) ?_
    refine ksld hX hXs hbl hbA hW (i := i + 2) (by omega) hL d_law_155 ?_
    refine lv_i2l (v := (xs (i + 2)).toInt64) hX.1 hX.2.1 d_law_156 (rfl) ?_
    refine lv_ldc2 hX.1 hX.2.1 hX.2.2.1 (hX.2.2.2 _ co_Lw_60) d_law_157 ?_
    refine lv_land hX.1 hX.2.1 d_law_160 ?_
    refine tpl (y := ((xs (i + 2)).toInt64) &&& 4294967295) (rfl) ?_
    refine lv_lor hX.1 hX.2.1 d_law_161 ?_
    refine tpl (y := sxx (xs (i + 1)) (xs (i + 2))) (rfl) ?_
    refine lv_aload_n hX.1 hX.2.1 d_law_162 rfl (lv_at hl 5 rfl) ?_
    refine lv_iload hX.1 hX.2.1 d_law_163 (lv_at hl 1 rfl) ?_
    refine lv_iconst (v := nI 3) hX.1 hX.2.1 d_law_165 (by decide) ?_
    refine lv_iadd hX.1 hX.2.1 d_law_166 ?_
    refine tpi (y := nI (i + 3)) (nI_add _ _) ?_
    refine ksld hX hXs hbl hbA hW (i := i + 3) (by omega) hL d_law_167 ?_
    refine kCi (wc := [(md, .inr (8, [.int (nI th), .int (nI ts), .ref (ad 2), .int (nM wa), .ref (ad 4), .ref (ad 5), .ref (ad 6), .ref (ad 7), .ref (ad 8), .ref (ad 9), .int (nI y), .ref (ad 11), .int (nI at1), .int (nM wr), .int (nI dp), .int (nI pa), .ref (ad 16), .ref (ad 17), .ref (ad 18), .int (nI le), .ref (ad 20), .ref (ad 21), .ref (ad 22), .ref (ad 23), .ref (ad 24), .ref (ad 25), .ref (ad 26), .ref (ad 27), .ref (ad 28), .ref (ad 29), .ref (ad 30)])), (ad 2, .inl (k 0, 80, .inl (aN B)))]) hW [3, 4] (by rfl) (by intro _; exact (rfl : (2 : Nat) = 2)) (kRunV (n := 2) (As := [.long (sxx (xs (i + 1)) (xs (i + 2))), .int (xs (i + 3))]) (rest := []) hX hml hW (ok_Md_feedBad l D k H.size md ad th ts wa y at1 wr dp pa le B (sxx (xs (i + 1)) (xs (i + 2))) (xs (i + 3)) hg) m_Lw_67 im_Md_feed se_Md_feed in_Md cd_Md_feed [3, 4] rfl rfl rfl rfl (by decide +kernel) ⟨rfl, rfl, Nat.le_of_ble_eq_true rfl, Nat.le_of_ble_eq_true rfl⟩ rfl hl.1 rfl (Nat.le_of_ble_eq_true rfl) d_law_168 ⟨by first | exact Nat.zero_le _ | decide | omega | (dsimp only; omega), by first | exact Nat.zero_le _ | decide | omega | (dsimp only; omega)⟩) (fun r _ H locs hr2 hW => ?_)
    simp only [setAll, List.set_cons_zero, List.set_cons_succ] at hW
    have hW : KW D k A s ((wz, .inr (7, [.ref ta, .ref sv, .ref no, .ref pr, .ref ma, .ref se, .ref wo, .ref sp1, .int (nM wa)])) :: (ta, .inr (5, [.ref tb, .int (nI ts)])) :: (tb, .inl (k 0, 80, .inl (aN B))) :: (md, .inr (8, [.int (nI 1), .int (nI ts), .ref (ad 2), .int (nM wa), .ref (ad 4), .ref (ad 5), .ref (ad 6), .ref (ad 7), .ref (ad 8), .ref (ad 9), .int (nI y), .ref (ad 11), .int (nI at1), .int (nM wr), .int (nI dp), .int (nI pa), .ref (ad 16), .ref (ad 17), .ref (ad 18), .int (nI le), .ref (ad 20), .ref (ad 21), .ref (ad 22), .ref (ad 23), .ref (ad 24), .ref (ad 25), .ref (ad 26), .ref (ad 27), .ref (ad 28), .ref (ad 29), .ref (ad 30)])) :: (ad 2, .inl (k 0, 80, .inl (aN B))) :: (ou, .inl (k 1, 1, .inr (.inl OU))) :: Y) H locs := hW
    refine lv_istore (lv' := [(6, .int r), (5, .int (nI 1)), (4, .int (nI i)), (3, .ref ou), (2, .ref md), (1, .ref wz), (0, .ref b)]) hX.1 hX.2.1 d_law_171 hl (by decide) rfl (fun ls hl => ?_)
    refine lv_aload_n hX.1 hX.2.1 d_law_173 rfl (lv_at hl 4 rfl) ?_
    refine kCi (wc := [(md, .inr (8, [.int (nI 1), .int (nI ts), .ref (ad 2), .int (nM wa), .ref (ad 4), .ref (ad 5), .ref (ad 6), .ref (ad 7), .ref (ad 8), .ref (ad 9), .int (nI y), .ref (ad 11), .int (nI at1), .int (nM wr), .int (nI dp), .int (nI pa), .ref (ad 16), .ref (ad 17), .ref (ad 18), .int (nI le), .ref (ad 20), .ref (ad 21), .ref (ad 22), .ref (ad 23), .ref (ad 24), .ref (ad 25), .ref (ad 26), .ref (ad 27), .ref (ad 28), .ref (ad 29), .ref (ad 30)]))]) hW [3] (by rfl) (by intro _; exact (rfl : (1 : Nat) = 1)) (kRunV (n := 0) (As := []) (rest := []) hX hml hW (ok_Md_thrown l D k H.size md ad 1 ts wa y at1 wr dp pa le) m_Lw_68 im_Md_thrown se_Md_thrown in_Md cd_Md_thrown [3] rfl rfl rfl rfl (by decide +kernel) ⟨rfl, rfl, Nat.le_of_ble_eq_true rfl, Nat.le_of_ble_eq_true rfl⟩ rfl hl.1 rfl (Nat.le_of_ble_eq_true rfl) d_law_174 ⟨by first | exact Nat.zero_le _ | decide | omega | (dsimp only; omega), by first | exact Nat.zero_le _ | decide | omega | (dsimp only; omega)⟩) (fun r _ H locs hr9 hW => ?_)
    simp only [setAll, List.set_cons_zero, List.set_cons_succ] at hW
    have hW : KW D k A s ((wz, .inr (7, [.ref ta, .ref sv, .ref no, .ref pr, .ref ma, .ref se, .ref wo, .ref sp1, .int (nM wa)])) :: (ta, .inr (5, [.ref tb, .int (nI ts)])) :: (tb, .inl (k 0, 80, .inl (aN B))) :: (md, .inr (8, [.int (nI 1), .int (nI ts), .ref (ad 2), .int (nM wa), .ref (ad 4), .ref (ad 5), .ref (ad 6), .ref (ad 7), .ref (ad 8), .ref (ad 9), .int (nI y), .ref (ad 11), .int (nI at1), .int (nM wr), .int (nI dp), .int (nI pa), .ref (ad 16), .ref (ad 17), .ref (ad 18), .int (nI le), .ref (ad 20), .ref (ad 21), .ref (ad 22), .ref (ad 23), .ref (ad 24), .ref (ad 25), .ref (ad 26), .ref (ad 27), .ref (ad 28), .ref (ad 29), .ref (ad 30)])) :: (ad 2, .inl (k 0, 80, .inl (aN B))) :: (ou, .inl (k 1, 1, .inr (.inl OU))) :: Y) H locs := hW
    subst hr9
    refine lv_iload hX.1 hX.2.1 d_law_177 (lv_at hl 1 rfl) ?_
    refine kicmp_same hX (tgt := 184) rfl d_law_179 (by decide) ?_
    refine lv_iload hX.1 hX.2.1 d_law_184 (lv_at hl 1 rfl) ?_
    refine knz hX (tgt := 201) (by decide) d_law_186 (by decide) (fun _ => ?_) (fun h => absurd h (by decide))
    refine lv_goto (tgt := 894) hX.1 hX.2.1 d_law_201 (by decide) ?_
    exact kont ts B 1 (OU) H locs ls _ _ hts hB (by first | omega | (dsimp only; omega)) (by first | omega | (dsimp only; omega)) hW (lv_sub hl [2, 3, 4, 5, 6] rfl)
