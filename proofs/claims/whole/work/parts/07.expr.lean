/-! THE EXPRESSION: step by step -/
def onw (FO : Nat → Nat) (S : Nat) : Nat → Nat
  | 0 => 0
  | p + 1 => onw FO S p ||| (if S.testBit p then FO p else 0)
def lnk (FO : Nat → Nat) (x y : Nat) : Nat → Nat → Nat
  | 0 => FO
  | p + 1 => if x.testBit p then va_up (lnk FO x y p) p (lnk FO x y p p ||| y) else lnk FO x y p
set_option maxHeartbeats 4000000 in
set_option maxRecDepth 100000 in
/-- accepts(S): whether S and ends have a position in common -/
theorem ok_Ex_accepts (l : Launch) (D : va_G) (k : Nat → ClassId) (sz : Nat) (h f g : Nat) (FO SP : Nat → Nat) (en n : Nat) (S : Nat) (hS : S < 512) (he : en < 512) : Met l y_Ex_accepts (.code y_Ex_accepts c_Ex_accepts 2 (some .boolean) :: wsU) ({ frames := 0, cells := 0, slots := 0, locals := 0 } : Room) (kPre D k [.ref h, .int (nI S)] [(h, .inr (0, [.ref f, .ref g, .int (nI en), .int (nI n)])), (f, .inl (k 0, 9, .inl (aN FO))), (g, .inl (k 0, 4, .inl (aN SP)))] sz) (va_Qi (fun (r : Int32) (_ : Unit) => r = nI (if S &&& en = 0 then 0 else 1)) (kB D k (fun _ : Unit => [(h, .inr (0, [.ref f, .ref g, .int (nI en), .int (nI n)])), (f, .inl (k 0, 9, .inl (aN FO))), (g, .inl (k 0, 4, .inl (aN SP)))]) (va_A [(h, .inr (0, [.ref f, .ref g, .int (nI en), .int (nI n)])), (f, .inl (k 0, 9, .inl (aN FO))), (g, .inl (k 0, 4, .inl (aN SP)))] sz)) (va_A [(h, .inr (0, [.ref f, .ref g, .int (nI en), .int (nI n)])), (f, .inl (k 0, 9, .inl (aN FO))), (g, .inl (k 0, 4, .inl (aN SP)))] sz)) 0 0 (va_A [(h, .inr (0, [.ref f, .ref g, .int (nI en), .int (nI n)])), (f, .inl (k 0, 9, .inl (aN FO))), (g, .inl (k 0, 4, .inl (aN SP)))] sz) := by
  refine kMet (by decide) (Nat.le_of_ble_eq_true rfl) ?_
  intro p e s m below meth c ls hX hml hr hlocks hin hsz hW hl Q hQ
  generalize hAe : va_A [(h, .inr (0, [.ref f, .ref g, .int (nI en), .int (nI n)])), (f, .inl (k 0, 9, .inl (aN FO))), (g, .inl (k 0, 4, .inl (aN SP)))] sz = A at hW hQ
  generalize hH0 : s.heap = H at hW ⊢
  generalize hl0 : ([] : List Loc) = locs at hW ⊢
  have hX : FX p s m c [.ref h, .int (nI S)].toArray c_Ex_accepts R_Ex := hX
  have hl : lv_has ls 2 [(0, .ref h), (1, .int (nI S))] := hl
  refine lv_iload_n hX.1 hX.2.1 d_Ex_accepts_0 rfl (lv_at hl 1 rfl) ?_
  refine lv_aload_n hX.1 hX.2.1 d_Ex_accepts_1 rfl (lv_at hl 0 rfl) ?_
  refine kget hX hW i_Ex 0 rfl rfl 2 (by decide) f_Ex_18 rfl rfl d_Ex_accepts_2 ?_
  refine lv_iand hX.1 hX.2.1 d_Ex_accepts_5 ?_
  refine tpi (y := nI (S &&& en)) (kn_and _ _) ?_
  have hlt : S &&& en < 512 := Nat.lt_of_le_of_lt Nat.and_le_left hS
  refine kz hX (tgt := 13) (by omega) d_Ex_accepts_6 (by decide) (fun h1 => ?_) (fun h1 => ?_)
  · refine lv_iconst (v := nI 0) hX.1 hX.2.1 d_Ex_accepts_13 (by decide) ?_
    exact kzret hX hr hlocks hQ () (hW) (by rw [if_pos h1]) (Or.inl rfl) d_Ex_accepts_14
  · refine lv_iconst (v := nI 1) hX.1 hX.2.1 d_Ex_accepts_9 (by decide) ?_
    refine lv_goto (tgt := 14) hX.1 hX.2.1 d_Ex_accepts_10 (by decide) ?_
    exact kzret hX hr hlocks hQ () (hW) (by rw [if_neg h1]) (Or.inr rfl) d_Ex_accepts_14
set_option maxHeartbeats 4000000 in
set_option maxRecDepth 100000 in
/-- onward(S): the positions that can come next -/
theorem ok_Ex_onward (l : Launch) (D : va_G) (k : Nat → ClassId) (sz : Nat) (h f g : Nat) (FO SP : Nat → Nat) (en n : Nat) (S : Nat) (hS : S < 512) : Met l y_Ex_onward (.code y_Ex_onward c_Ex_onward 4 (some .int) :: wsU) ({ frames := 0, cells := 0, slots := 0, locals := 0 } : Room) (kPre D k [.ref h, .int (nI S)] [(h, .inr (0, [.ref f, .ref g, .int (nI en), .int (nI n)])), (f, .inl (k 0, 9, .inl (aN FO))), (g, .inl (k 0, 4, .inl (aN SP)))] sz) (va_Qi (fun (r : Int32) (_ : Unit) => r = nI (onw FO S 9)) (kB D k (fun _ : Unit => [(h, .inr (0, [.ref f, .ref g, .int (nI en), .int (nI n)])), (f, .inl (k 0, 9, .inl (aN FO))), (g, .inl (k 0, 4, .inl (aN SP)))]) (va_A [(h, .inr (0, [.ref f, .ref g, .int (nI en), .int (nI n)])), (f, .inl (k 0, 9, .inl (aN FO))), (g, .inl (k 0, 4, .inl (aN SP)))] sz)) (va_A [(h, .inr (0, [.ref f, .ref g, .int (nI en), .int (nI n)])), (f, .inl (k 0, 9, .inl (aN FO))), (g, .inl (k 0, 4, .inl (aN SP)))] sz)) 0 0 (va_A [(h, .inr (0, [.ref f, .ref g, .int (nI en), .int (nI n)])), (f, .inl (k 0, 9, .inl (aN FO))), (g, .inl (k 0, 4, .inl (aN SP)))] sz) := by
  refine kMet (by decide) (Nat.le_of_ble_eq_true rfl) ?_
  intro p e s m below meth c ls hX hml hr hlocks hin hsz hW hl Q hQ
  generalize hAe : va_A [(h, .inr (0, [.ref f, .ref g, .int (nI en), .int (nI n)])), (f, .inl (k 0, 9, .inl (aN FO))), (g, .inl (k 0, 4, .inl (aN SP)))] sz = A at hW hQ
  generalize hH0 : s.heap = H at hW ⊢
  generalize hl0 : ([] : List Loc) = locs at hW ⊢
  have hX : FX p s m c [.ref h, .int (nI S)].toArray c_Ex_onward R_Ex := hX
  have hl : lv_has ls 4 [(0, .ref h), (1, .int (nI S))] := hl
  refine lv_iconst (v := nI 0) hX.1 hX.2.1 d_Ex_onward_0 (by decide) ?_
  refine lv_istore_n (lv' := [(2, .int (nI 0)), (0, .ref h), (1, .int (nI S))]) hX.1 hX.2.1 d_Ex_onward_1 rfl hl (by decide) rfl (fun ls hl => ?_)
  refine lv_iconst (v := nI 0) hX.1 hX.2.1 d_Ex_onward_2 (by decide) ?_
  refine lv_istore_n (lv' := [(3, .int (nI 0)), (2, .int (nI 0)), (0, .ref h), (1, .int (nI S))]) hX.1 hX.2.1 d_Ex_onward_3 rfl hl (by decide) rfl (fun ls hl => ?_)
  have lp : ∀ (fu : Nat) (i : Nat) (H : Heap) (locs : List Loc) (ls : Array Slot), i ≤ 9 → 9 < i + fu →  KW D k A s [(h, .inr (0, [.ref f, .ref g, .int (nI en), .int (nI n)])), (f, .inl (k 0, 9, .inl (aN FO))), (g, .inl (k 0, 4, .inl (aN SP)))] H locs → lv_has ls 4 [(3, .int (nI i)), (2, .int (nI (onw FO S i))), (1, .int (nI S)), (0, .ref h)] → W p l e ({ frames := 0, cells := 0, slots := 0, locals := 0 } : Room) s m [.ref h, .int (nI S)].toArray below meth c H locs 0 0 Q (F0 m 4 ls []) := by
    intro fu
    induction fu with
    | zero => intro i H locs ls h1 h2 hW hl; exfalso; omega
    | succ fu ih =>
      intro i H locs ls h1 h2 hW hl
      refine lv_iload_n hX.1 hX.2.1 d_Ex_onward_4 rfl (lv_at hl 0 rfl) ?_
      refine lv_bipush (v := nI 8) hX.1 hX.2.1 d_Ex_onward_5 (by decide) ?_
      refine kgt hX (tgt := 33) (by omega) (by omega) d_Ex_onward_7 (by decide) (fun h3 => ?_) (fun h3 => ?_)
      · have h4 : i = 9 := by omega
        subst h4
        refine lv_iload_n hX.1 hX.2.1 d_Ex_onward_33 rfl (lv_at hl 1 rfl) ?_
        exact kiret hX hr hlocks hQ () (hW) (rfl) d_Ex_onward_34
      · refine lv_iload_n hX.1 hX.2.1 d_Ex_onward_10 rfl (lv_at hl 2 rfl) ?_
        refine lv_iload_n hX.1 hX.2.1 d_Ex_onward_11 rfl (lv_at hl 0 rfl) ?_
        refine lv_ishr hX.1 hX.2.1 d_Ex_onward_12 ?_
        refine tpi (y := nI S >>> (nI i &&& 31)) (rfl) ?_
        refine lv_iconst (v := nI 1) hX.1 hX.2.1 d_Ex_onward_13 (by decide) ?_
        refine lv_iand hX.1 hX.2.1 d_Ex_onward_14 ?_
        refine tpi (y := nI (if S.testBit i then 1 else 0)) (kn_bit (by omega) (by omega)) ?_
        have h5 : i ≤ 8 := h3
        refine kz hX (tgt := 27) (by split <;> omega) d_Ex_onward_15 (by decide) (fun h4 => ?_) (fun h4 => ?_)
        · have h6 : S.testBit i = false := by cases hb : S.testBit i <;> simp [hb] at h4 ⊢
          have h7 : onw FO S (i + 1) = onw FO S i := by rw [onw, h6]; simp
          refine lv_iinc (v := nI (i + 1)) (lv' := [(3, .int (nI (i + 1))), (2, .int (nI (onw FO S i))), (1, .int (nI S)), (0, .ref h)]) hX.1 hX.2.1 d_Ex_onward_27 hl (k := 0) rfl (kn_inc _) (by decide) rfl (fun ls hl => ?_)
          refine lv_goto (tgt := 4) hX.1 hX.2.1 d_Ex_onward_30 (by decide) ?_
          rw [← h7] at hl
          exact ih (i + 1) H locs ls (by omega) (by omega) (hW) (lv_sub hl [0, 1, 2, 3] rfl)
        · have h6 : S.testBit i = true := by cases hb : S.testBit i <;> simp [hb] at h4 ⊢
          have h7 : onw FO S (i + 1) = onw FO S i ||| FO i := by rw [onw, h6]; simp
          refine lv_iload_n hX.1 hX.2.1 d_Ex_onward_18 rfl (lv_at hl 1 rfl) ?_
          refine lv_aload_n hX.1 hX.2.1 d_Ex_onward_19 rfl (lv_at hl 3 rfl) ?_
          refine kget hX hW i_Ex 0 rfl rfl 0 (by decide) f_Ex_11 rfl rfl d_Ex_onward_20 ?_
          refine lv_iload_n hX.1 hX.2.1 d_Ex_onward_23 rfl (lv_at hl 0 rfl) ?_
          refine kiald hX hW 1 rfl (by omega) (by first | decide | omega) d_Ex_onward_24 ?_
          refine lv_ior hX.1 hX.2.1 d_Ex_onward_25 ?_
          refine tpi (y := nI (onw FO S i ||| FO i)) (kn_or _ _) ?_
          refine lv_istore_n (lv' := [(2, .int (nI (onw FO S i ||| FO i))), (3, .int (nI i)), (1, .int (nI S)), (0, .ref h)]) hX.1 hX.2.1 d_Ex_onward_26 rfl hl (by decide) rfl (fun ls hl => ?_)
          refine lv_iinc (v := nI (i + 1)) (lv' := [(3, .int (nI (i + 1))), (2, .int (nI (onw FO S i ||| FO i))), (1, .int (nI S)), (0, .ref h)]) hX.1 hX.2.1 d_Ex_onward_27 hl (k := 1) rfl (kn_inc _) (by decide) rfl (fun ls hl => ?_)
          refine lv_goto (tgt := 4) hX.1 hX.2.1 d_Ex_onward_30 (by decide) ?_
          rw [← h7] at hl
          exact ih (i + 1) H locs ls (by omega) (by omega) (hW) (lv_sub hl [0, 1, 2, 3] rfl)
  exact lp 10 0 H locs ls (by omega) (by omega) (hW) (lv_sub hl [0, 1, 3, 2] rfl)
set_option maxHeartbeats 4000000 in
set_option maxRecDepth 100000 in
/-- step(S, a) -/
theorem ok_Ex_step (l : Launch) (D : va_G) (k : Nat → ClassId) (sz : Nat) (h f g : Nat) (FO SP : Nat → Nat) (en n : Nat) (S a : Nat) (hS : S < 512) (ha : a < 4) : Met l y_Ex_step (.code y_Ex_step c_Ex_step 3 (some .int) :: wsU) ({ frames := 1, cells := 0, slots := 0, locals := 30 } : Room) (kPre D k [.ref h, .int (nI S), .int (nI a)] [(h, .inr (0, [.ref f, .ref g, .int (nI en), .int (nI n)])), (f, .inl (k 0, 9, .inl (aN FO))), (g, .inl (k 0, 4, .inl (aN SP)))] sz) (va_Qi (fun (r : Int32) (_ : Unit) => r = nI (onw FO S 9 &&& SP a)) (kB D k (fun _ : Unit => [(h, .inr (0, [.ref f, .ref g, .int (nI en), .int (nI n)])), (f, .inl (k 0, 9, .inl (aN FO))), (g, .inl (k 0, 4, .inl (aN SP)))]) (va_A [(h, .inr (0, [.ref f, .ref g, .int (nI en), .int (nI n)])), (f, .inl (k 0, 9, .inl (aN FO))), (g, .inl (k 0, 4, .inl (aN SP)))] sz)) (va_A [(h, .inr (0, [.ref f, .ref g, .int (nI en), .int (nI n)])), (f, .inl (k 0, 9, .inl (aN FO))), (g, .inl (k 0, 4, .inl (aN SP)))] sz)) 0 0 (va_A [(h, .inr (0, [.ref f, .ref g, .int (nI en), .int (nI n)])), (f, .inl (k 0, 9, .inl (aN FO))), (g, .inl (k 0, 4, .inl (aN SP)))] sz) := by
  refine kMet (by decide) (Nat.le_of_ble_eq_true rfl) ?_
  intro p e s m below meth c ls hX hml hr hlocks hin hsz hW hl Q hQ
  generalize hAe : va_A [(h, .inr (0, [.ref f, .ref g, .int (nI en), .int (nI n)])), (f, .inl (k 0, 9, .inl (aN FO))), (g, .inl (k 0, 4, .inl (aN SP)))] sz = A at hW hQ
  generalize hH0 : s.heap = H at hW ⊢
  generalize hl0 : ([] : List Loc) = locs at hW ⊢
  have hX : FX p s m c [.ref h, .int (nI S), .int (nI a)].toArray c_Ex_step R_Ex := hX
  have hl : lv_has ls 3 [(0, .ref h), (1, .int (nI S)), (2, .int (nI a))] := hl
  refine lv_aload_n hX.1 hX.2.1 d_Ex_step_0 rfl (lv_at hl 0 rfl) ?_
  refine lv_iload_n hX.1 hX.2.1 d_Ex_step_1 rfl (lv_at hl 1 rfl) ?_
  refine kCi (wc := [(h, .inr (0, [.ref f, .ref g, .int (nI en), .int (nI n)])), (f, .inl (k 0, 9, .inl (aN FO))), (g, .inl (k 0, 4, .inl (aN SP)))]) hW [0, 1, 2] (by rfl) (by intro _; rfl) (kRunV (n := 1) (As := [.int (nI S)]) (rest := []) hX hml hW (ok_Ex_onward l D k H.size h f g FO SP en n S hS) m_Ex_43 im_Ex_onward se_Ex_onward in_Ex cd_Ex_onward [0, 1, 2] rfl rfl rfl rfl (by decide +kernel) ⟨rfl, rfl, by decide, by decide⟩ rfl hl.1 rfl (by decide) d_Ex_step_2 ⟨by first | exact Nat.zero_le _ | decide | omega, by first | exact Nat.zero_le _ | decide | omega⟩) (fun r u H locs hr1 hW => ?_)
  have hW : KW D k A s [(h, .inr (0, [.ref f, .ref g, .int (nI en), .int (nI n)])), (f, .inl (k 0, 9, .inl (aN FO))), (g, .inl (k 0, 4, .inl (aN SP)))] H locs := hW
  subst hr1
  refine lv_aload_n hX.1 hX.2.1 d_Ex_step_5 rfl (lv_at hl 0 rfl) ?_
  refine kget hX hW i_Ex 0 rfl rfl 1 (by decide) f_Ex_15 rfl rfl d_Ex_step_6 ?_
  refine lv_iload_n hX.1 hX.2.1 d_Ex_step_9 rfl (lv_at hl 2 rfl) ?_
  refine kiald hX hW 2 rfl (by omega) (by first | decide | omega) d_Ex_step_10 ?_
  refine lv_iand hX.1 hX.2.1 d_Ex_step_11 ?_
  refine tpi (y := nI (onw FO S 9 &&& SP a)) (kn_and _ _) ?_
  exact kiret hX hr hlocks hQ () (hW) (rfl) d_Ex_step_12
set_option maxHeartbeats 4000000 in
set_option maxRecDepth 100000 in
/-- link(x, y) -/
theorem ok_Ex_link (l : Launch) (D : va_G) (k : Nat → ClassId) (sz : Nat) (h f g : Nat) (FO SP : Nat → Nat) (en n : Nat) (x y : Nat) (hx : x < 512) : Met l y_Ex_link (.code y_Ex_link c_Ex_link 4 none :: wsU) ({ frames := 0, cells := 0, slots := 0, locals := 0 } : Room) (kPre D k [.ref h, .int (nI x), .int (nI y)] [(h, .inr (0, [.ref f, .ref g, .int (nI en), .int (nI n)])), (f, .inl (k 0, 9, .inl (aN FO))), (g, .inl (k 0, 4, .inl (aN SP)))] sz) (va_Qv (fun (_ : Unit) => True) (kB D k (fun _ : Unit => [(h, .inr (0, [.ref f, .ref g, .int (nI en), .int (nI n)])), (f, .inl (k 0, 9, .inl (aN (lnk FO x y 9)))), (g, .inl (k 0, 4, .inl (aN SP)))]) (va_A [(h, .inr (0, [.ref f, .ref g, .int (nI en), .int (nI n)])), (f, .inl (k 0, 9, .inl (aN FO))), (g, .inl (k 0, 4, .inl (aN SP)))] sz)) (va_A [(h, .inr (0, [.ref f, .ref g, .int (nI en), .int (nI n)])), (f, .inl (k 0, 9, .inl (aN FO))), (g, .inl (k 0, 4, .inl (aN SP)))] sz)) 0 0 (va_A [(h, .inr (0, [.ref f, .ref g, .int (nI en), .int (nI n)])), (f, .inl (k 0, 9, .inl (aN FO))), (g, .inl (k 0, 4, .inl (aN SP)))] sz) := by
  refine kMet (by decide) (Nat.le_of_ble_eq_true rfl) ?_
  intro p e s m below meth c ls hX hml hr hlocks hin hsz hW hl Q hQ
  generalize hAe : va_A [(h, .inr (0, [.ref f, .ref g, .int (nI en), .int (nI n)])), (f, .inl (k 0, 9, .inl (aN FO))), (g, .inl (k 0, 4, .inl (aN SP)))] sz = A at hW hQ
  generalize hH0 : s.heap = H at hW ⊢
  generalize hl0 : ([] : List Loc) = locs at hW ⊢
  have hX : FX p s m c [.ref h, .int (nI x), .int (nI y)].toArray c_Ex_link R_Ex := hX
  have hl : lv_has ls 4 [(0, .ref h), (1, .int (nI x)), (2, .int (nI y))] := hl
  refine lv_iconst (v := nI 0) hX.1 hX.2.1 d_Ex_link_0 (by decide) ?_
  refine lv_istore_n (lv' := [(3, .int (nI 0)), (0, .ref h), (1, .int (nI x)), (2, .int (nI y))]) hX.1 hX.2.1 d_Ex_link_1 rfl hl (by decide) rfl (fun ls hl => ?_)
  have hW : KW D k A s [(h, .inr (0, [.ref f, .ref g, .int (nI en), .int (nI n)])), (f, .inl (k 0, 9, .inl (aN (lnk FO x y 0)))), (g, .inl (k 0, 4, .inl (aN SP)))] H locs := hW
  have lp : ∀ (fu : Nat) (i : Nat) (H : Heap) (locs : List Loc) (ls : Array Slot), i ≤ 9 → 9 < i + fu →  KW D k A s [(h, .inr (0, [.ref f, .ref g, .int (nI en), .int (nI n)])), (f, .inl (k 0, 9, .inl (aN (lnk FO x y i)))), (g, .inl (k 0, 4, .inl (aN SP)))] H locs → lv_has ls 4 [(3, .int (nI i)), (2, .int (nI y)), (1, .int (nI x)), (0, .ref h)] → W p l e ({ frames := 0, cells := 0, slots := 0, locals := 0 } : Room) s m [.ref h, .int (nI x), .int (nI y)].toArray below meth c H locs 0 0 Q (F0 m 2 ls []) := by
    intro fu
    induction fu with
    | zero => intro i H locs ls h1 h2 hW hl; exfalso; omega
    | succ fu ih =>
      intro i H locs ls h1 h2 hW hl
      refine lv_iload_n hX.1 hX.2.1 d_Ex_link_2 rfl (lv_at hl 0 rfl) ?_
      refine lv_bipush (v := nI 8) hX.1 hX.2.1 d_Ex_link_3 (by decide) ?_
      refine kgt hX (tgt := 32) (by omega) (by omega) d_Ex_link_5 (by decide) (fun h3 => ?_) (fun h3 => ?_)
      · have h4 : i = 9 := by omega
        subst h4
        exact kvret hX hr hlocks hQ () (hW) (trivial) d_Ex_link_32
      · refine lv_iload_n hX.1 hX.2.1 d_Ex_link_8 rfl (lv_at hl 2 rfl) ?_
        refine lv_iload_n hX.1 hX.2.1 d_Ex_link_9 rfl (lv_at hl 0 rfl) ?_
        refine lv_ishr hX.1 hX.2.1 d_Ex_link_10 ?_
        refine tpi (y := nI x >>> (nI i &&& 31)) (rfl) ?_
        refine lv_iconst (v := nI 1) hX.1 hX.2.1 d_Ex_link_11 (by decide) ?_
        refine lv_iand hX.1 hX.2.1 d_Ex_link_12 ?_
        refine tpi (y := nI (if x.testBit i then 1 else 0)) (kn_bit (by omega) (by omega)) ?_
        have h5 : i ≤ 8 := h3
        refine kz hX (tgt := 26) (by split <;> omega) d_Ex_link_13 (by decide) (fun h4 => ?_) (fun h4 => ?_)
        · have h6 : x.testBit i = false := by cases hb : x.testBit i <;> simp [hb] at h4 ⊢
          have h7 : lnk FO x y (i + 1) = lnk FO x y i := by rw [lnk, h6]; simp
          refine lv_iinc (v := nI (i + 1)) (lv' := [(3, .int (nI (i + 1))), (2, .int (nI y)), (1, .int (nI x)), (0, .ref h)]) hX.1 hX.2.1 d_Ex_link_26 hl (k := 0) rfl (kn_inc _) (by decide) rfl (fun ls hl => ?_)
          refine lv_goto (tgt := 2) hX.1 hX.2.1 d_Ex_link_29 (by decide) ?_
          rw [← h7] at hW
          exact ih (i + 1) H locs ls (by omega) (by omega) (hW) (lv_sub hl [0, 1, 2, 3] rfl)
        · have h6 : x.testBit i = true := by cases hb : x.testBit i <;> simp [hb] at h4 ⊢
          have h7 : lnk FO x y (i + 1) = va_up (lnk FO x y i) i (lnk FO x y i i ||| y) := by rw [lnk, h6]; simp
          refine lv_aload_n hX.1 hX.2.1 d_Ex_link_16 rfl (lv_at hl 3 rfl) ?_
          refine kget hX hW i_Ex 0 rfl rfl 0 (by decide) f_Ex_11 rfl rfl d_Ex_link_17 ?_
          refine lv_iload_n hX.1 hX.2.1 d_Ex_link_20 rfl (lv_at hl 0 rfl) ?_
          refine lv_dup2_11 hX.1 hX.2.1 d_Ex_link_21 rfl rfl ?_
          refine kiald hX hW 1 rfl (by omega) (by first | decide | omega) d_Ex_link_22 ?_
          refine lv_iload_n hX.1 hX.2.1 d_Ex_link_23 rfl (lv_at hl 1 rfl) ?_
          refine lv_ior hX.1 hX.2.1 d_Ex_link_24 ?_
          refine tpi (y := nI (lnk FO x y i i ||| y)) (kn_or _ _) ?_
          refine kiast hX hW 1 rfl (by omega) (by first | decide | omega) d_Ex_link_25 (fun H locs hW => ?_)
          have hW : KW D k A s [(h, .inr (0, [.ref f, .ref g, .int (nI en), .int (nI n)])), (f, .inl (k 0, 9, .inl (aN (va_up (lnk FO x y i) i (lnk FO x y i i ||| y))))), (g, .inl (k 0, 4, .inl (aN SP)))] H locs := hW
          refine lv_iinc (v := nI (i + 1)) (lv' := [(3, .int (nI (i + 1))), (2, .int (nI y)), (1, .int (nI x)), (0, .ref h)]) hX.1 hX.2.1 d_Ex_link_26 hl (k := 0) rfl (kn_inc _) (by decide) rfl (fun ls hl => ?_)
          refine lv_goto (tgt := 2) hX.1 hX.2.1 d_Ex_link_29 (by decide) ?_
          rw [← h7] at hW
          exact ih (i + 1) H locs ls (by omega) (by omega) (hW) (lv_sub hl [0, 1, 2, 3] rfl)
  exact lp 10 0 H locs ls (by omega) (by omega) (hW) (lv_sub hl [0, 3, 2, 1] rfl)
