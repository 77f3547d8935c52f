/-! THE PARSER: opening, closing, letters, signs -/
set_option maxHeartbeats 4000000 in
set_option maxRecDepth 100000 in
/-- acceptOpening(), not too deep -/
theorem ok_Pr_openT (l : Launch) (D : va_G) (k : Nat → ClassId) (sz : Nat) (pr sa ra fc : Nat) (sq rq : Nat → Nat) (fw : Bool) (dp : Nat) (F : PT) (S Rw : Nat → PT) (Y : va_W) (hdp : dp < 8) : Met l y_Pr_acceptOpening (.code y_Pr_acceptOpening c_Pr_acceptOpening 1 (some .boolean) :: wsU) ({ frames := 2, cells := 0, slots := 0, locals := 43 } : Room) (kPre D k [.ref pr] (prW k pr sa ra fc sq rq fw dp F S Rw Y) sz) (va_Qi (fun (r : Int32) (_ : Unit) => r = nI 1) (kB D k (fun _ : Unit => (prW k pr sa ra fc sq rq fw (dp + 1) F (va_up S (dp + 1) (0, 0, false)) (va_up Rw (dp + 1) (0, 0, true)) Y)) (va_A (prW k pr sa ra fc sq rq fw dp F S Rw Y) sz)) (va_A (prW k pr sa ra fc sq rq fw dp F S Rw Y) sz)) 0 0 (va_A (prW k pr sa ra fc sq rq fw dp F S Rw Y) sz) := by
  refine kMet (by decide) (Nat.le_of_ble_eq_true rfl) ?_
  intro p e s m below meth c ls hX hml hr hlocks hin hsz hW hl Q hQ
  generalize hAe : va_A (prW k pr sa ra fc sq rq fw dp F S Rw Y) sz = A at hW hQ
  generalize hH0 : s.heap = H at hW ⊢
  generalize hl0 : ([] : List Loc) = locs at hW ⊢
  have hX : FX p s m c [.ref pr].toArray c_Pr_acceptOpening R_Pr := hX
  have hl : lv_has ls 1 [(0, .ref pr)] := hl
  refine lv_aload_n hX.1 hX.2.1 d_Pr_acceptOpening_0 rfl (lv_at hl 0 rfl) ?_
  refine kget hX hW i_Pr 0 rfl rfl 4 (by decide) f_Pr_29 rfl rfl d_Pr_acceptOpening_1 ?_
  refine lv_bipush (v := nI 8) hX.1 hX.2.1 d_Pr_acceptOpening_4 (by decide) ?_
  refine klt hX (tgt := 11) (by omega) (by omega) d_Pr_acceptOpening_6 (by decide) (fun h1 => ?_) (fun h1 => ?_)
  · refine lv_aload_n hX.1 hX.2.1 d_Pr_acceptOpening_11 rfl (lv_at hl 0 rfl) ?_
    refine lv_dup hX.1 hX.2.1 d_Pr_acceptOpening_12 rfl ?_
    refine kget hX hW i_Pr 0 rfl rfl 4 (by decide) f_Pr_29 rfl rfl d_Pr_acceptOpening_13 ?_
    refine lv_iconst (v := nI 1) hX.1 hX.2.1 d_Pr_acceptOpening_16 (by decide) ?_
    refine lv_iadd hX.1 hX.2.1 d_Pr_acceptOpening_17 ?_
    refine tpi (y := nI (dp + 1)) (nI_1 _) ?_
    refine kput hX hW i_Pr t_Pr t_Pr_ok n_Pr 0 rfl rfl 4 (by decide) f_Pr_29 rfl rfl (rfl) (rfl) (Nat.le_of_ble_eq_true rfl) d_Pr_acceptOpening_18 (fun H locs hW => ?_)
    have hW : KW D k A s (prW k pr sa ra fc sq rq fw (dp + 1) F S Rw Y) H locs := hW
    refine lv_aload_n hX.1 hX.2.1 d_Pr_acceptOpening_21 rfl (lv_at hl 0 rfl) ?_
    refine kWv hW (kRunW (n := 0) (As := []) (rest := []) hX hml hW (ok_Pr_beginSum l D k H.size pr sa ra fc sq rq fw (dp + 1) F S Rw Y (by omega)) m_Pr_38 im_Pr_beginSum se_Pr_beginSum in_Pr cd_Pr_beginSum 0 rfl rfl (by decide +kernel) ⟨rfl, rfl, by decide, by decide⟩ rfl hl.1 rfl (by decide) d_Pr_acceptOpening_22 ⟨by decide, by decide⟩) (fun u H locs _ hW => ?_)
    have hW : KW D k A s (prW k pr sa ra fc sq rq fw (dp + 1) F (va_up S (dp + 1) (0, 0, false)) (va_up Rw (dp + 1) (0, 0, true)) Y) H locs := hW
    refine lv_iconst (v := nI 1) hX.1 hX.2.1 d_Pr_acceptOpening_25 (by decide) ?_
    exact kzret hX hr hlocks hQ () (hW) (rfl) (Or.inr rfl) d_Pr_acceptOpening_26
  · omega
set_option maxHeartbeats 4000000 in
set_option maxRecDepth 100000 in
/-- acceptOpening(), too deep -/
theorem ok_Pr_openF (l : Launch) (D : va_G) (k : Nat → ClassId) (sz : Nat) (pr sa ra fc : Nat) (sq rq : Nat → Nat) (fw : Bool) (dp : Nat) (F : PT) (S Rw : Nat → PT) (Y : va_W) (hdp : 8 ≤ dp) (hdp2 : dp ≤ 8) : Met l y_Pr_acceptOpening (.code y_Pr_acceptOpening c_Pr_acceptOpening 1 (some .boolean) :: wsU) ({ frames := 2, cells := 0, slots := 0, locals := 43 } : Room) (kPre D k [.ref pr] (prW k pr sa ra fc sq rq fw dp F S Rw Y) sz) (va_Qi (fun (r : Int32) (_ : Unit) => r = nI 0) (kB D k (fun _ : Unit => (prW k pr sa ra fc sq rq fw dp F S Rw Y)) (va_A (prW k pr sa ra fc sq rq fw dp F S Rw Y) sz)) (va_A (prW k pr sa ra fc sq rq fw dp F S Rw Y) sz)) 0 0 (va_A (prW k pr sa ra fc sq rq fw dp F S Rw Y) sz) := by
  refine kMet (by decide) (Nat.le_of_ble_eq_true rfl) ?_
  intro p e s m below meth c ls hX hml hr hlocks hin hsz hW hl Q hQ
  generalize hAe : va_A (prW k pr sa ra fc sq rq fw dp F S Rw Y) sz = A at hW hQ
  generalize hH0 : s.heap = H at hW ⊢
  generalize hl0 : ([] : List Loc) = locs at hW ⊢
  have hX : FX p s m c [.ref pr].toArray c_Pr_acceptOpening R_Pr := hX
  have hl : lv_has ls 1 [(0, .ref pr)] := hl
  refine lv_aload_n hX.1 hX.2.1 d_Pr_acceptOpening_0 rfl (lv_at hl 0 rfl) ?_
  refine kget hX hW i_Pr 0 rfl rfl 4 (by decide) f_Pr_29 rfl rfl d_Pr_acceptOpening_1 ?_
  refine lv_bipush (v := nI 8) hX.1 hX.2.1 d_Pr_acceptOpening_4 (by decide) ?_
  refine klt hX (tgt := 11) (by omega) (by omega) d_Pr_acceptOpening_6 (by decide) (fun h1 => ?_) (fun h1 => ?_)
  · omega
  · refine lv_iconst (v := nI 0) hX.1 hX.2.1 d_Pr_acceptOpening_9 (by decide) ?_
    exact kzret hX hr hlocks hQ () (hW) (rfl) (Or.inl rfl) d_Pr_acceptOpening_10
set_option maxHeartbeats 4000000 in
set_option maxRecDepth 100000 in
/-- acceptClosing(), within brackets -/
theorem ok_Pr_closeT (l : Launch) (D : va_G) (k : Nat → ClassId) (sz : Nat) (pr sa ra fc : Nat) (sq rq : Nat → Nat) (fw : Bool) (dp : Nat) (F : PT) (S Rw : Nat → PT) (Y : va_W) (hdp : dp < 8) : Met l y_Pr_acceptClosing (.code y_Pr_acceptClosing c_Pr_acceptClosing 2 (some .boolean) :: wsU) ({ frames := 3, cells := 0, slots := 0, locals := 64 } : Room) (kPre D k [.ref pr] (prW k pr sa ra fc sq rq fw (dp + 1) F S Rw Y) sz) (va_Qi (fun (r : Int32) (_ : Unit) => r = nI 1) (kB D k (fun _ : Unit => (prW k pr sa ra fc sq rq true dp (alt (S (dp + 1)) (Rw (dp + 1))) (va_up S (dp + 1) (alt (S (dp + 1)) (Rw (dp + 1)))) (va_up Rw (dp + 1) (0, 0, true)) Y)) (va_A (prW k pr sa ra fc sq rq fw (dp + 1) F S Rw Y) sz)) (va_A (prW k pr sa ra fc sq rq fw (dp + 1) F S Rw Y) sz)) 0 0 (va_A (prW k pr sa ra fc sq rq fw (dp + 1) F S Rw Y) sz) := by
  refine kMet (by decide) (Nat.le_of_ble_eq_true rfl) ?_
  intro p e s m below meth c ls hX hml hr hlocks hin hsz hW hl Q hQ
  generalize hAe : va_A (prW k pr sa ra fc sq rq fw (dp + 1) F S Rw Y) sz = A at hW hQ
  generalize hH0 : s.heap = H at hW ⊢
  generalize hl0 : ([] : List Loc) = locs at hW ⊢
  have hX : FX p s m c [.ref pr].toArray c_Pr_acceptClosing R_Pr := hX
  have hl : lv_has ls 2 [(0, .ref pr)] := hl
  refine lv_aload_n hX.1 hX.2.1 d_Pr_acceptClosing_0 rfl (lv_at hl 0 rfl) ?_
  refine kget hX hW i_Pr 0 rfl rfl 4 (by decide) f_Pr_29 rfl rfl d_Pr_acceptClosing_1 ?_
  refine kgtN hX (tgt := 9) (by omega) d_Pr_acceptClosing_4 (by decide) (fun h1 => ?_) (fun h1 => ?_)
  · refine lv_aload_n hX.1 hX.2.1 d_Pr_acceptClosing_9 rfl (lv_at hl 0 rfl) ?_
    refine kWv hW (kRunW (n := 0) (As := []) (rest := []) hX hml hW (ok_Pr_endRow l D k H.size pr sa ra fc sq rq fw (dp + 1) F S Rw Y (by omega)) m_Pr_49 im_Pr_endRow se_Pr_endRow in_Pr cd_Pr_endRow 0 rfl rfl (by decide +kernel) ⟨rfl, rfl, by decide, by decide⟩ rfl hl.1 rfl (by decide) d_Pr_acceptClosing_10 ⟨by decide, by decide⟩) (fun u H locs _ hW => ?_)
    have hW : KW D k A s (prW k pr sa ra fc sq rq fw (dp + 1) F (va_up S (dp + 1) (alt (S (dp + 1)) (Rw (dp + 1)))) (va_up Rw (dp + 1) (0, 0, true)) Y) H locs := hW
    refine lv_aload_n hX.1 hX.2.1 d_Pr_acceptClosing_13 rfl (lv_at hl 0 rfl) ?_
    refine kget hX hW i_Pr 0 rfl rfl 0 (by decide) f_Pr_11 rfl rfl d_Pr_acceptClosing_14 ?_
    refine lv_aload_n hX.1 hX.2.1 d_Pr_acceptClosing_17 rfl (lv_at hl 0 rfl) ?_
    refine kget hX hW i_Pr 0 rfl rfl 4 (by decide) f_Pr_29 rfl rfl d_Pr_acceptClosing_18 ?_
    refine kaald (b := sq (dp + 1)) hX hW 1 4 rfl rfl (by omega) (by decide) rfl d_Pr_acceptClosing_21 ?_
    refine lv_astore_n (lv' := [(1, .ref (sq (dp + 1))), (0, .ref pr)]) hX.1 hX.2.1 d_Pr_acceptClosing_22 rfl hl (by decide) rfl (fun ls hl => ?_)
    refine lv_aload_n hX.1 hX.2.1 d_Pr_acceptClosing_23 rfl (lv_at hl 1 rfl) ?_
    refine lv_dup hX.1 hX.2.1 d_Pr_acceptClosing_24 rfl ?_
    refine kget hX hW i_Pr 0 rfl rfl 4 (by decide) f_Pr_29 rfl rfl d_Pr_acceptClosing_25 ?_
    refine lv_iconst (v := nI 1) hX.1 hX.2.1 d_Pr_acceptClosing_28 (by decide) ?_
    refine lv_isub hX.1 hX.2.1 d_Pr_acceptClosing_29 ?_
    refine tpi (y := nI dp) (nI_pred dp) ?_
    refine kput hX hW i_Pr t_Pr t_Pr_ok n_Pr 0 rfl rfl 4 (by decide) f_Pr_29 rfl rfl (rfl) (rfl) (Nat.le_of_ble_eq_true rfl) d_Pr_acceptClosing_30 (fun H locs hW => ?_)
    have hW : KW D k A s (prW k pr sa ra fc sq rq fw dp F (va_up S (dp + 1) (alt (S (dp + 1)) (Rw (dp + 1)))) (va_up Rw (dp + 1) (0, 0, true)) Y) H locs := hW
    refine lv_aload_n hX.1 hX.2.1 d_Pr_acceptClosing_33 rfl (lv_at hl 1 rfl) ?_
    refine lv_aload_n hX.1 hX.2.1 d_Pr_acceptClosing_34 rfl (lv_at hl 0 rfl) ?_
    refine kget hX hW i_Pt (4 + (dp + 1)) (prW_s (by omega)) rfl 0 (by decide) f_Pr_84 rfl rfl d_Pr_acceptClosing_35 ?_
    refine lv_aload_n hX.1 hX.2.1 d_Pr_acceptClosing_38 rfl (lv_at hl 0 rfl) ?_
    refine kget hX hW i_Pt (4 + (dp + 1)) (prW_s (by omega)) rfl 1 (by decide) f_Pr_87 rfl rfl d_Pr_acceptClosing_39 ?_
    refine lv_aload_n hX.1 hX.2.1 d_Pr_acceptClosing_42 rfl (lv_at hl 0 rfl) ?_
    refine kget hX hW i_Pt (4 + (dp + 1)) (prW_s (by omega)) rfl 2 (by decide) f_Pr_90 rfl rfl d_Pr_acceptClosing_43 ?_
    refine kWv hW (kRunW (n := 3) (As := [.int (nI (((va_up S (dp + 1) (alt (S (dp + 1)) (Rw (dp + 1)))) (dp + 1)).1)), .int (nI (((va_up S (dp + 1) (alt (S (dp + 1)) (Rw (dp + 1)))) (dp + 1)).2.1)), .int (nI (((va_up S (dp + 1) (alt (S (dp + 1)) (Rw (dp + 1)))) (dp + 1)).2.2.toNat))]) (rest := []) hX hml hW (ok_Pr_setFactor l D k H.size pr sa ra fc sq rq fw dp F (va_up S (dp + 1) (alt (S (dp + 1)) (Rw (dp + 1)))) (va_up Rw (dp + 1) (0, 0, true)) Y _ _ _) m_Pr_62 im_Pr_setFactor se_Pr_setFactor in_Pr cd_Pr_setFactor 0 rfl rfl (by decide +kernel) ⟨rfl, rfl, by decide, by decide⟩ rfl hl.1 rfl (by decide) d_Pr_acceptClosing_46 ⟨by decide, by decide⟩) (fun u H locs _ hW => ?_)
    have hW : KW D k A s (prW k pr sa ra fc sq rq true dp (alt (S (dp + 1)) (Rw (dp + 1))) (va_up S (dp + 1) (alt (S (dp + 1)) (Rw (dp + 1)))) (va_up Rw (dp + 1) (0, 0, true)) Y) H locs := by simp only [va_up_self] at hW; exact hW
    refine lv_iconst (v := nI 1) hX.1 hX.2.1 d_Pr_acceptClosing_49 (by decide) ?_
    exact kzret hX hr hlocks hQ () (hW) (rfl) (Or.inr rfl) d_Pr_acceptClosing_50
  · omega
set_option maxHeartbeats 4000000 in
set_option maxRecDepth 100000 in
/-- acceptClosing(), no bracket open -/
theorem ok_Pr_closeF (l : Launch) (D : va_G) (k : Nat → ClassId) (sz : Nat) (pr sa ra fc : Nat) (sq rq : Nat → Nat) (fw : Bool) (F : PT) (S Rw : Nat → PT) (Y : va_W) : Met l y_Pr_acceptClosing (.code y_Pr_acceptClosing c_Pr_acceptClosing 2 (some .boolean) :: wsU) ({ frames := 3, cells := 0, slots := 0, locals := 64 } : Room) (kPre D k [.ref pr] (prW k pr sa ra fc sq rq fw 0 F S Rw Y) sz) (va_Qi (fun (r : Int32) (_ : Unit) => r = nI 0) (kB D k (fun _ : Unit => (prW k pr sa ra fc sq rq fw 0 F S Rw Y)) (va_A (prW k pr sa ra fc sq rq fw 0 F S Rw Y) sz)) (va_A (prW k pr sa ra fc sq rq fw 0 F S Rw Y) sz)) 0 0 (va_A (prW k pr sa ra fc sq rq fw 0 F S Rw Y) sz) := by
  refine kMet (by decide) (Nat.le_of_ble_eq_true rfl) ?_
  intro p e s m below meth c ls hX hml hr hlocks hin hsz hW hl Q hQ
  generalize hAe : va_A (prW k pr sa ra fc sq rq fw 0 F S Rw Y) sz = A at hW hQ
  generalize hH0 : s.heap = H at hW ⊢
  generalize hl0 : ([] : List Loc) = locs at hW ⊢
  have hX : FX p s m c [.ref pr].toArray c_Pr_acceptClosing R_Pr := hX
  have hl : lv_has ls 2 [(0, .ref pr)] := hl
  refine lv_aload_n hX.1 hX.2.1 d_Pr_acceptClosing_0 rfl (lv_at hl 0 rfl) ?_
  refine kget hX hW i_Pr 0 rfl rfl 4 (by decide) f_Pr_29 rfl rfl d_Pr_acceptClosing_1 ?_
  refine kgtN hX (tgt := 9) (by decide) d_Pr_acceptClosing_4 (by decide) (fun h1 => ?_) (fun h1 => ?_)
  · omega
  · refine lv_iconst (v := nI 0) hX.1 hX.2.1 d_Pr_acceptClosing_7 (by decide) ?_
    exact kzret hX hr hlocks hQ () (hW) (rfl) (Or.inl rfl) d_Pr_acceptClosing_8
set_option maxHeartbeats 4000000 in
set_option maxRecDepth 100000 in
/-- acceptLetter(a), room for it -/
theorem ok_Pr_letterT (l : Launch) (D : va_G) (k : Nat → ClassId) (sz : Nat) (pr sa ra fc : Nat) (sq rq : Nat → Nat) (fw : Bool) (dp : Nat) (F : PT) (S Rw : Nat → PT) (h f g : Nat) (FO SP : Nat → Nat) (en n : Nat) (Yr : va_W) (a : Nat) (ha : a < 4) (hn : n < 8) : Met l y_Pr_acceptLetter (.code y_Pr_acceptLetter c_Pr_acceptLetter 4 (some .boolean) :: wsU) ({ frames := 2, cells := 0, slots := 0, locals := 46 } : Room) (kPre D k [.ref pr, .int (nI a), .ref h] (prW k pr sa ra fc sq rq fw dp F S Rw ((h, .inr (0, [.ref f, .ref g, .int (nI en), .int (nI n)])) :: (f, .inl (k 0, 9, .inl (aN FO))) :: (g, .inl (k 0, 4, .inl (aN SP))) :: Yr)) sz) (va_Qi (fun (r : Int32) (_ : Unit) => r = nI 1) (kB D k (fun _ : Unit => (prW k pr sa ra fc sq rq true dp (2 ^ n, 2 ^ n, false) S Rw ((h, .inr (0, [.ref f, .ref g, .int (nI en), .int (nI (n + 1))])) :: (f, .inl (k 0, 9, .inl (aN FO))) :: (g, .inl (k 0, 4, .inl (aN (va_up SP a (SP a ||| 2 ^ n))))) :: Yr))) (va_A (prW k pr sa ra fc sq rq fw dp F S Rw ((h, .inr (0, [.ref f, .ref g, .int (nI en), .int (nI n)])) :: (f, .inl (k 0, 9, .inl (aN FO))) :: (g, .inl (k 0, 4, .inl (aN SP))) :: Yr)) sz)) (va_A (prW k pr sa ra fc sq rq fw dp F S Rw ((h, .inr (0, [.ref f, .ref g, .int (nI en), .int (nI n)])) :: (f, .inl (k 0, 9, .inl (aN FO))) :: (g, .inl (k 0, 4, .inl (aN SP))) :: Yr)) sz)) 0 0 (va_A (prW k pr sa ra fc sq rq fw dp F S Rw ((h, .inr (0, [.ref f, .ref g, .int (nI en), .int (nI n)])) :: (f, .inl (k 0, 9, .inl (aN FO))) :: (g, .inl (k 0, 4, .inl (aN SP))) :: Yr)) sz) := by
  refine kMet (by decide) (Nat.le_of_ble_eq_true rfl) ?_
  intro p e s m below meth c ls hX hml hr hlocks hin hsz hW hl Q hQ
  generalize hAe : va_A (prW k pr sa ra fc sq rq fw dp F S Rw ((h, .inr (0, [.ref f, .ref g, .int (nI en), .int (nI n)])) :: (f, .inl (k 0, 9, .inl (aN FO))) :: (g, .inl (k 0, 4, .inl (aN SP))) :: Yr)) sz = A at hW hQ
  generalize hH0 : s.heap = H at hW ⊢
  generalize hl0 : ([] : List Loc) = locs at hW ⊢
  have hX : FX p s m c [.ref pr, .int (nI a), .ref h].toArray c_Pr_acceptLetter R_Pr := hX
  have hl : lv_has ls 4 [(0, .ref pr), (1, .int (nI a)), (2, .ref h)] := hl
  refine lv_aload_n hX.1 hX.2.1 d_Pr_acceptLetter_0 rfl (lv_at hl 2 rfl) ?_
  refine kget hX hW i_Ex (22 + 0) (prW_y 0) rfl 3 (by decide) f_Pr_77 rfl rfl d_Pr_acceptLetter_1 ?_
  refine lv_bipush (v := nI 8) hX.1 hX.2.1 d_Pr_acceptLetter_4 (by decide) ?_
  refine klt hX (tgt := 11) (by omega) (by omega) d_Pr_acceptLetter_6 (by decide) (fun h1 => ?_) (fun h1 => ?_)
  · refine lv_aload_n hX.1 hX.2.1 d_Pr_acceptLetter_11 rfl (lv_at hl 2 rfl) ?_
    refine lv_iload_n hX.1 hX.2.1 d_Pr_acceptLetter_12 rfl (lv_at hl 1 rfl) ?_
    refine kCi (wc := [(h, .inr (0, [.ref f, .ref g, .int (nI en), .int (nI n)])), (f, .inl (k 0, 9, .inl (aN FO))), (g, .inl (k 0, 4, .inl (aN SP)))]) hW [22 + 0, 22 + 1, 22 + 2] (by simp only [List.map_cons, List.map_nil]; rw [prW_y 0, prW_y 1, prW_y 2]; rfl) (by intro _; rfl) (kRunV (n := 1) (As := [.int (nI a)]) (rest := []) hX hml hW (ok_Ex_addLetter l D k H.size h f g FO SP en n a ha hn) m_Pr_80 im_Ex_addLetter se_Ex_addLetter in_Ex cd_Ex_addLetter [22 + 0, 22 + 1, 22 + 2] (by rfl) (by simp only [List.map_cons, List.map_nil]; rw [prW_y 0, prW_y 1, prW_y 2]; rfl) rfl rfl (by decide +kernel) ⟨rfl, rfl, by decide, by decide⟩ rfl hl.1 rfl (by decide) d_Pr_acceptLetter_13 ⟨by decide, by decide⟩) (fun r u H locs hr1 hW => ?_)
    subst hr1
    simp only [setAll] at hW
    rw [prW_setY 0, prW_setY 1, prW_setY 2] at hW
    have hW : KW D k A s (prW k pr sa ra fc sq rq fw dp F S Rw ((h, .inr (0, [.ref f, .ref g, .int (nI en), .int (nI (n + 1))])) :: (f, .inl (k 0, 9, .inl (aN FO))) :: (g, .inl (k 0, 4, .inl (aN (va_up SP a (SP a ||| 2 ^ n))))) :: Yr)) H locs := hW
    refine lv_istore_n (lv' := [(3, .int (nI (2 ^ n))), (0, .ref pr), (1, .int (nI a)), (2, .ref h)]) hX.1 hX.2.1 d_Pr_acceptLetter_16 rfl hl (by decide) rfl (fun ls hl => ?_)
    refine lv_aload_n hX.1 hX.2.1 d_Pr_acceptLetter_17 rfl (lv_at hl 1 rfl) ?_
    refine lv_iload_n hX.1 hX.2.1 d_Pr_acceptLetter_18 rfl (lv_at hl 0 rfl) ?_
    refine lv_iload_n hX.1 hX.2.1 d_Pr_acceptLetter_19 rfl (lv_at hl 0 rfl) ?_
    refine lv_iconst (v := nI 0) hX.1 hX.2.1 d_Pr_acceptLetter_20 (by decide) ?_
    refine kWv hW (kRunW (n := 3) (As := [.int (nI (2 ^ n)), .int (nI (2 ^ n)), .int (nI 0)]) (rest := []) hX hml hW (ok_Pr_setFactor l D k H.size pr sa ra fc sq rq fw dp F S Rw ((h, .inr (0, [.ref f, .ref g, .int (nI en), .int (nI (n + 1))])) :: (f, .inl (k 0, 9, .inl (aN FO))) :: (g, .inl (k 0, 4, .inl (aN (va_up SP a (SP a ||| 2 ^ n))))) :: Yr) (2 ^ n) (2 ^ n) false) m_Pr_62 im_Pr_setFactor se_Pr_setFactor in_Pr cd_Pr_setFactor 0 rfl rfl (by decide +kernel) ⟨rfl, rfl, by decide, by decide⟩ rfl hl.1 rfl (by decide) d_Pr_acceptLetter_21 ⟨by decide, by decide⟩) (fun u H locs _ hW => ?_)
    have hW : KW D k A s (prW k pr sa ra fc sq rq true dp (2 ^ n, 2 ^ n, false) S Rw ((h, .inr (0, [.ref f, .ref g, .int (nI en), .int (nI (n + 1))])) :: (f, .inl (k 0, 9, .inl (aN FO))) :: (g, .inl (k 0, 4, .inl (aN (va_up SP a (SP a ||| 2 ^ n))))) :: Yr)) H locs := hW
    refine lv_iconst (v := nI 1) hX.1 hX.2.1 d_Pr_acceptLetter_24 (by decide) ?_
    exact kzret hX hr hlocks hQ () (hW) (rfl) (Or.inr rfl) d_Pr_acceptLetter_25
  · omega
set_option maxHeartbeats 4000000 in
set_option maxRecDepth 100000 in
/-- acceptLetter(a), a ninth -/
theorem ok_Pr_letterF (l : Launch) (D : va_G) (k : Nat → ClassId) (sz : Nat) (pr sa ra fc : Nat) (sq rq : Nat → Nat) (fw : Bool) (dp : Nat) (F : PT) (S Rw : Nat → PT) (h f g : Nat) (FO SP : Nat → Nat) (en n : Nat) (Yr : va_W) (a : Nat) (hn : 8 ≤ n) (hn2 : n ≤ 8) : Met l y_Pr_acceptLetter (.code y_Pr_acceptLetter c_Pr_acceptLetter 4 (some .boolean) :: wsU) ({ frames := 2, cells := 0, slots := 0, locals := 46 } : Room) (kPre D k [.ref pr, .int (nI a), .ref h] (prW k pr sa ra fc sq rq fw dp F S Rw ((h, .inr (0, [.ref f, .ref g, .int (nI en), .int (nI n)])) :: (f, .inl (k 0, 9, .inl (aN FO))) :: (g, .inl (k 0, 4, .inl (aN SP))) :: Yr)) sz) (va_Qi (fun (r : Int32) (_ : Unit) => r = nI 0) (kB D k (fun _ : Unit => (prW k pr sa ra fc sq rq fw dp F S Rw ((h, .inr (0, [.ref f, .ref g, .int (nI en), .int (nI n)])) :: (f, .inl (k 0, 9, .inl (aN FO))) :: (g, .inl (k 0, 4, .inl (aN SP))) :: Yr))) (va_A (prW k pr sa ra fc sq rq fw dp F S Rw ((h, .inr (0, [.ref f, .ref g, .int (nI en), .int (nI n)])) :: (f, .inl (k 0, 9, .inl (aN FO))) :: (g, .inl (k 0, 4, .inl (aN SP))) :: Yr)) sz)) (va_A (prW k pr sa ra fc sq rq fw dp F S Rw ((h, .inr (0, [.ref f, .ref g, .int (nI en), .int (nI n)])) :: (f, .inl (k 0, 9, .inl (aN FO))) :: (g, .inl (k 0, 4, .inl (aN SP))) :: Yr)) sz)) 0 0 (va_A (prW k pr sa ra fc sq rq fw dp F S Rw ((h, .inr (0, [.ref f, .ref g, .int (nI en), .int (nI n)])) :: (f, .inl (k 0, 9, .inl (aN FO))) :: (g, .inl (k 0, 4, .inl (aN SP))) :: Yr)) sz) := by
  refine kMet (by decide) (Nat.le_of_ble_eq_true rfl) ?_
  intro p e s m below meth c ls hX hml hr hlocks hin hsz hW hl Q hQ
  generalize hAe : va_A (prW k pr sa ra fc sq rq fw dp F S Rw ((h, .inr (0, [.ref f, .ref g, .int (nI en), .int (nI n)])) :: (f, .inl (k 0, 9, .inl (aN FO))) :: (g, .inl (k 0, 4, .inl (aN SP))) :: Yr)) sz = A at hW hQ
  generalize hH0 : s.heap = H at hW ⊢
  generalize hl0 : ([] : List Loc) = locs at hW ⊢
  have hX : FX p s m c [.ref pr, .int (nI a), .ref h].toArray c_Pr_acceptLetter R_Pr := hX
  have hl : lv_has ls 4 [(0, .ref pr), (1, .int (nI a)), (2, .ref h)] := hl
  refine lv_aload_n hX.1 hX.2.1 d_Pr_acceptLetter_0 rfl (lv_at hl 2 rfl) ?_
  refine kget hX hW i_Ex (22 + 0) (prW_y 0) rfl 3 (by decide) f_Pr_77 rfl rfl d_Pr_acceptLetter_1 ?_
  refine lv_bipush (v := nI 8) hX.1 hX.2.1 d_Pr_acceptLetter_4 (by decide) ?_
  refine klt hX (tgt := 11) (by omega) (by omega) d_Pr_acceptLetter_6 (by decide) (fun h1 => ?_) (fun h1 => ?_)
  · omega
  · refine lv_iconst (v := nI 0) hX.1 hX.2.1 d_Pr_acceptLetter_9 (by decide) ?_
    exact kzret hX hr hlocks hQ () (hW) (rfl) (Or.inl rfl) d_Pr_acceptLetter_10
set_option maxHeartbeats 4000000 in
set_option maxRecDepth 100000 in
/-- acceptRepeat(sign), behind a factor -/
theorem ok_Pr_repT (l : Launch) (D : va_G) (k : Nat → ClassId) (sz : Nat) (pr sa ra fc : Nat) (sq rq : Nat → Nat) (dp : Nat) (F : PT) (S Rw : Nat → PT) (h f g : Nat) (FO SP : Nat → Nat) (en n : Nat) (Yr : va_W) (sg : Nat) (hsg : sg < 256) (hla : F.2.1 < 512) : Met l y_Pr_acceptRepeat (.code y_Pr_acceptRepeat c_Pr_acceptRepeat 3 (some .boolean) :: wsU) ({ frames := 2, cells := 0, slots := 0, locals := 45 } : Room) (kPre D k [.ref pr, .int (nI sg), .ref h] (prW k pr sa ra fc sq rq true dp F S Rw ((h, .inr (0, [.ref f, .ref g, .int (nI en), .int (nI n)])) :: (f, .inl (k 0, 9, .inl (aN FO))) :: (g, .inl (k 0, 4, .inl (aN SP))) :: Yr)) sz) (va_Qi (fun (r : Int32) (_ : Unit) => r = nI 1) (kB D k (fun _ : Unit => (prW k pr sa ra fc sq rq true dp (F.1, F.2.1, F.2.2 || decide (sg ≠ 43)) S Rw ((h, .inr (0, [.ref f, .ref g, .int (nI en), .int (nI n)])) :: (f, .inl (k 0, 9, .inl (aN (if sg = 63 then FO else lnk FO F.2.1 F.1 9)))) :: (g, .inl (k 0, 4, .inl (aN SP))) :: Yr))) (va_A (prW k pr sa ra fc sq rq true dp F S Rw ((h, .inr (0, [.ref f, .ref g, .int (nI en), .int (nI n)])) :: (f, .inl (k 0, 9, .inl (aN FO))) :: (g, .inl (k 0, 4, .inl (aN SP))) :: Yr)) sz)) (va_A (prW k pr sa ra fc sq rq true dp F S Rw ((h, .inr (0, [.ref f, .ref g, .int (nI en), .int (nI n)])) :: (f, .inl (k 0, 9, .inl (aN FO))) :: (g, .inl (k 0, 4, .inl (aN SP))) :: Yr)) sz)) 0 0 (va_A (prW k pr sa ra fc sq rq true dp F S Rw ((h, .inr (0, [.ref f, .ref g, .int (nI en), .int (nI n)])) :: (f, .inl (k 0, 9, .inl (aN FO))) :: (g, .inl (k 0, 4, .inl (aN SP))) :: Yr)) sz) := by
  refine kMet (by decide) (Nat.le_of_ble_eq_true rfl) ?_
  intro p e s m below meth c ls hX hml hr hlocks hin hsz hW hl Q hQ
  generalize hAe : va_A (prW k pr sa ra fc sq rq true dp F S Rw ((h, .inr (0, [.ref f, .ref g, .int (nI en), .int (nI n)])) :: (f, .inl (k 0, 9, .inl (aN FO))) :: (g, .inl (k 0, 4, .inl (aN SP))) :: Yr)) sz = A at hW hQ
  generalize hH0 : s.heap = H at hW ⊢
  generalize hl0 : ([] : List Loc) = locs at hW ⊢
  have hX : FX p s m c [.ref pr, .int (nI sg), .ref h].toArray c_Pr_acceptRepeat R_Pr := hX
  have hl : lv_has ls 3 [(0, .ref pr), (1, .int (nI sg)), (2, .ref h)] := hl
  refine lv_aload_n hX.1 hX.2.1 d_Pr_acceptRepeat_0 rfl (lv_at hl 0 rfl) ?_
  refine kget hX hW i_Pr 0 rfl rfl 3 (by decide) f_Pr_25 rfl rfl d_Pr_acceptRepeat_1 ?_
  refine kz hX (tgt := 16) (by decide) d_Pr_acceptRepeat_4 (by decide) (fun h1 => ?_) (fun h1 => ?_)
  · exact absurd h1 (by decide)
  · have hnd : va_nd [3, 22 + 0, 22 + 1, 22 + 2] = true := by rfl
    refine lv_aload_n hX.1 hX.2.1 d_Pr_acceptRepeat_7 rfl (lv_at hl 0 rfl) ?_
    refine kget hX hW i_Pr 0 rfl rfl 2 (by decide) f_Pr_21 rfl rfl d_Pr_acceptRepeat_8 ?_
    refine lv_iload_n hX.1 hX.2.1 d_Pr_acceptRepeat_11 rfl (lv_at hl 1 rfl) ?_
    refine lv_aload_n hX.1 hX.2.1 d_Pr_acceptRepeat_12 rfl (lv_at hl 2 rfl) ?_
    refine kCv (wc := [(fc, .inr (3, [.int (nI F.1), .int (nI F.2.1), .int (nI F.2.2.toNat)]))] ++ [(h, .inr (0, [.ref f, .ref g, .int (nI en), .int (nI n)])), (f, .inl (k 0, 9, .inl (aN FO))), (g, .inl (k 0, 4, .inl (aN SP)))]) hW [3, 22 + 0, 22 + 1, 22 + 2] (by simp only [List.map_cons, List.map_nil]; rw [prW_y 0, prW_y 1, prW_y 2]; rfl) (by intro _; rfl) (kRunV (n := 2) (As := [.int (nI sg), .ref h]) (rest := []) hX hml hW (ok_Pt_repeat l D k H.size fc F.1 F.2.1 F.2.2 h f g FO SP en n sg hla hsg) m_Pr_73 im_Pt_repeat se_Pt_repeat in_Pt cd_Pt_repeat [3, 22 + 0, 22 + 1, 22 + 2] (hnd) (by simp only [List.map_cons, List.map_nil]; rw [prW_y 0, prW_y 1, prW_y 2]; rfl) rfl rfl (by decide +kernel) ⟨rfl, rfl, by decide, by decide⟩ rfl hl.1 rfl (by decide) d_Pr_acceptRepeat_13 ⟨by decide, by decide⟩) (fun u H locs _ hW => ?_)
    have e8 : ∀ (F2 : PT) (Y : va_W), (prW k pr sa ra fc sq rq true dp F S Rw Y).set 3 (fc, .inr (3, [.int (nI F2.1), .int (nI F2.2.1), .int (nI F2.2.2.toNat)])) = prW k pr sa ra fc sq rq true dp F2 S Rw Y := fun _ _ => rfl
    simp only [setAll] at hW
    rw [e8 (F.1, F.2.1, F.2.2 || decide (sg ≠ 43)), prW_setY 0, prW_setY 1, prW_setY 2] at hW
    have hW : KW D k A s (prW k pr sa ra fc sq rq true dp (F.1, F.2.1, F.2.2 || decide (sg ≠ 43)) S Rw ((h, .inr (0, [.ref f, .ref g, .int (nI en), .int (nI n)])) :: (f, .inl (k 0, 9, .inl (aN (if sg = 63 then FO else lnk FO F.2.1 F.1 9)))) :: (g, .inl (k 0, 4, .inl (aN SP))) :: Yr)) H locs := hW
    refine lv_aload_n hX.1 hX.2.1 d_Pr_acceptRepeat_16 rfl (lv_at hl 0 rfl) ?_
    refine kget hX hW i_Pr 0 rfl rfl 3 (by decide) f_Pr_25 rfl rfl d_Pr_acceptRepeat_17 ?_
    exact kzret hX hr hlocks hQ () (hW) (rfl) (Or.inr rfl) d_Pr_acceptRepeat_20
set_option maxHeartbeats 4000000 in
set_option maxRecDepth 100000 in
/-- acceptRepeat(sign), behind nothing -/
theorem ok_Pr_repF (l : Launch) (D : va_G) (k : Nat → ClassId) (sz : Nat) (pr sa ra fc : Nat) (sq rq : Nat → Nat) (dp : Nat) (F : PT) (S Rw : Nat → PT) (h f g : Nat) (FO SP : Nat → Nat) (en n : Nat) (Yr : va_W) (sg : Nat) : Met l y_Pr_acceptRepeat (.code y_Pr_acceptRepeat c_Pr_acceptRepeat 3 (some .boolean) :: wsU) ({ frames := 2, cells := 0, slots := 0, locals := 45 } : Room) (kPre D k [.ref pr, .int (nI sg), .ref h] (prW k pr sa ra fc sq rq false dp F S Rw ((h, .inr (0, [.ref f, .ref g, .int (nI en), .int (nI n)])) :: (f, .inl (k 0, 9, .inl (aN FO))) :: (g, .inl (k 0, 4, .inl (aN SP))) :: Yr)) sz) (va_Qi (fun (r : Int32) (_ : Unit) => r = nI 0) (kB D k (fun _ : Unit => (prW k pr sa ra fc sq rq false dp F S Rw ((h, .inr (0, [.ref f, .ref g, .int (nI en), .int (nI n)])) :: (f, .inl (k 0, 9, .inl (aN FO))) :: (g, .inl (k 0, 4, .inl (aN SP))) :: Yr))) (va_A (prW k pr sa ra fc sq rq false dp F S Rw ((h, .inr (0, [.ref f, .ref g, .int (nI en), .int (nI n)])) :: (f, .inl (k 0, 9, .inl (aN FO))) :: (g, .inl (k 0, 4, .inl (aN SP))) :: Yr)) sz)) (va_A (prW k pr sa ra fc sq rq false dp F S Rw ((h, .inr (0, [.ref f, .ref g, .int (nI en), .int (nI n)])) :: (f, .inl (k 0, 9, .inl (aN FO))) :: (g, .inl (k 0, 4, .inl (aN SP))) :: Yr)) sz)) 0 0 (va_A (prW k pr sa ra fc sq rq false dp F S Rw ((h, .inr (0, [.ref f, .ref g, .int (nI en), .int (nI n)])) :: (f, .inl (k 0, 9, .inl (aN FO))) :: (g, .inl (k 0, 4, .inl (aN SP))) :: Yr)) sz) := by
  refine kMet (by decide) (Nat.le_of_ble_eq_true rfl) ?_
  intro p e s m below meth c ls hX hml hr hlocks hin hsz hW hl Q hQ
  generalize hAe : va_A (prW k pr sa ra fc sq rq false dp F S Rw ((h, .inr (0, [.ref f, .ref g, .int (nI en), .int (nI n)])) :: (f, .inl (k 0, 9, .inl (aN FO))) :: (g, .inl (k 0, 4, .inl (aN SP))) :: Yr)) sz = A at hW hQ
  generalize hH0 : s.heap = H at hW ⊢
  generalize hl0 : ([] : List Loc) = locs at hW ⊢
  have hX : FX p s m c [.ref pr, .int (nI sg), .ref h].toArray c_Pr_acceptRepeat R_Pr := hX
  have hl : lv_has ls 3 [(0, .ref pr), (1, .int (nI sg)), (2, .ref h)] := hl
  refine lv_aload_n hX.1 hX.2.1 d_Pr_acceptRepeat_0 rfl (lv_at hl 0 rfl) ?_
  refine kget hX hW i_Pr 0 rfl rfl 3 (by decide) f_Pr_25 rfl rfl d_Pr_acceptRepeat_1 ?_
  refine kz hX (tgt := 16) (by decide) d_Pr_acceptRepeat_4 (by decide) (fun h1 => ?_) (fun h1 => ?_)
  · refine lv_aload_n hX.1 hX.2.1 d_Pr_acceptRepeat_16 rfl (lv_at hl 0 rfl) ?_
    refine kget hX hW i_Pr 0 rfl rfl 3 (by decide) f_Pr_25 rfl rfl d_Pr_acceptRepeat_17 ?_
    exact kzret hX hr hlocks hQ () (hW) (rfl) (Or.inl rfl) d_Pr_acceptRepeat_20
  · exact absurd rfl h1
