/-! Expression (the rest), Part, Tape, Word -/
theorem and_m257 {a : Nat} (h : a < 512) : nI a &&& (-257) = nI (a % 256) := by
  have : ∀ a : Fin 512, nI a.val &&& (-257) = nI (a.val % 256) := by decide +kernel
  exact this ⟨a, h⟩
/-- the links turned around, of the first p positions -/
def rvl (FO : Nat → Nat) : Nat → Nat → Nat
  | 0 => fun _ => 0
  | p + 1 => lnk (rvl FO p) (FO p) (2 ^ p) 9
def tpw (B : Nat → Nat) (z : Nat) (x : Int64) (n : Nat) : Nat → Nat → Nat
  | 0 => B
  | m + 1 => va_up (tpw B z x n m) (z + m) (byt x (n - 1 - m))
/-- the first i bytes are letters -/
def isw (B : Nat → Nat) : Nat → Bool
  | 0 => true
  | i + 1 => isw B i && (decide (97 ≤ B i) && decide (B i ≤ 100))
set_option maxHeartbeats 4000000 in
set_option maxRecDepth 100000 in
/-- Expression() -/
theorem ok_Ex_init (l : Launch) (D : va_G) (k : Nat → ClassId) (sz : Nat) (h : Nat) : Met l y_Ex_init (.code y_Ex_init c_Ex_init 1 none :: wsU) ({ frames := 1, cells := 2, slots := 13, locals := 12 } : Room) (kPre D k [.ref h] [(h, .inr (0, [.null, .null, .int (nI 0), .int (nI 0)]))] sz) (va_Qv (fun (_ : Nat × Nat) => True) (kB D k (fun u : Nat × Nat => [(h, .inr (0, [.ref u.1, .ref u.2, .int (nI 0), .int (nI 0)]))] ++ [(u.1, .inl (k 0, 9, .inl (aN (fun _ => 0)))), (u.2, .inl (k 0, 4, .inl (aN (fun _ => 0))))]) (va_A [(h, .inr (0, [.null, .null, .int (nI 0), .int (nI 0)]))] sz)) (va_A [(h, .inr (0, [.null, .null, .int (nI 0), .int (nI 0)]))] sz)) 2 13 (va_A [(h, .inr (0, [.null, .null, .int (nI 0), .int (nI 0)]))] sz) := by
  refine kMet (by decide) (Nat.le_of_ble_eq_true rfl) ?_
  intro p e s m below meth c ls hX hml hr hlocks hin hsz hW hl Q hQ
  generalize hAe : va_A [(h, .inr (0, [.null, .null, .int (nI 0), .int (nI 0)]))] sz = A at hW hQ
  generalize hH0 : s.heap = H at hW ⊢
  generalize hl0 : ([] : List Loc) = locs at hW ⊢
  have hX : FX p s m c [.ref h].toArray c_Ex_init R_Ex := hX
  have hl : lv_has ls 1 [(0, .ref h)] := hl
  refine lv_aload_n hX.1 hX.2.1 d_Ex_init_0 rfl (lv_at hl 0 rfl) ?_
  refine kobj hX (hml.trans hl.1.symm) m_Ex_5 (by decide) (by decide) d_Ex_init_1 ?_
  refine lv_aload_n hX.1 hX.2.1 d_Ex_init_4 rfl (lv_at hl 0 rfl) ?_
  refine lv_bipush (v := nI 9) hX.1 hX.2.1 d_Ex_init_5 (by decide) ?_
  refine knewI hX hW (by first | decide | omega) (by first | decide | omega) (by first | decide | omega) d_Ex_init_7 (fun q7 H hW => ?_)
  have hW : KW D k A s [(h, .inr (0, [.null, .null, .int (nI 0), .int (nI 0)])), (q7, .inl (k 0, 9, .inl (aN (fun _ => 0))))] H locs := hW
  refine kputF hX hW hin i_Ex t_Ex t_Ex_ok n_Ex 0 rfl rfl 0 (by decide) f_Ex_11 rfl rfl rfl (rfl) (rfl) (Nat.le_of_ble_eq_true rfl) d_Ex_init_9 (fun H locs hW => ?_)
  have hW : KW D k A s [(h, .inr (0, [.ref q7, .null, .int (nI 0), .int (nI 0)])), (q7, .inl (k 0, 9, .inl (aN (fun _ => 0))))] H locs := hW
  refine lv_aload_n hX.1 hX.2.1 d_Ex_init_12 rfl (lv_at hl 0 rfl) ?_
  refine lv_iconst (v := nI 4) hX.1 hX.2.1 d_Ex_init_13 (by decide) ?_
  refine knewI hX hW (by first | decide | omega) (by first | decide | omega) (by first | decide | omega) d_Ex_init_14 (fun q14 H hW => ?_)
  have hW : KW D k A s [(h, .inr (0, [.ref q7, .null, .int (nI 0), .int (nI 0)])), (q7, .inl (k 0, 9, .inl (aN (fun _ => 0)))), (q14, .inl (k 0, 4, .inl (aN (fun _ => 0))))] H locs := hW
  refine kputF hX hW hin i_Ex t_Ex t_Ex_ok n_Ex 0 rfl rfl 1 (by decide) f_Ex_15 rfl rfl rfl (rfl) (rfl) (Nat.le_of_ble_eq_true rfl) d_Ex_init_16 (fun H locs hW => ?_)
  have hW : KW D k A s [(h, .inr (0, [.ref q7, .ref q14, .int (nI 0), .int (nI 0)])), (q7, .inl (k 0, 9, .inl (aN (fun _ => 0)))), (q14, .inl (k 0, 4, .inl (aN (fun _ => 0))))] H locs := hW
  refine lv_aload_n hX.1 hX.2.1 d_Ex_init_19 rfl (lv_at hl 0 rfl) ?_
  refine lv_iconst (v := nI 0) hX.1 hX.2.1 d_Ex_init_20 (by decide) ?_
  refine kput hX hW i_Ex t_Ex t_Ex_ok n_Ex 0 rfl rfl 2 (by decide) f_Ex_18 rfl rfl (rfl) (rfl) (Nat.le_of_ble_eq_true rfl) d_Ex_init_21 (fun H locs hW => ?_)
  have hW : KW D k A s [(h, .inr (0, [.ref q7, .ref q14, .int (nI 0), .int (nI 0)])), (q7, .inl (k 0, 9, .inl (aN (fun _ => 0)))), (q14, .inl (k 0, 4, .inl (aN (fun _ => 0))))] H locs := hW
  refine lv_aload_n hX.1 hX.2.1 d_Ex_init_24 rfl (lv_at hl 0 rfl) ?_
  refine lv_iconst (v := nI 0) hX.1 hX.2.1 d_Ex_init_25 (by decide) ?_
  refine kput hX hW i_Ex t_Ex t_Ex_ok n_Ex 0 rfl rfl 3 (by decide) f_Ex_22 rfl rfl (rfl) (rfl) (Nat.le_of_ble_eq_true rfl) d_Ex_init_26 (fun H locs hW => ?_)
  have hW : KW D k A s [(h, .inr (0, [.ref q7, .ref q14, .int (nI 0), .int (nI 0)])), (q7, .inl (k 0, 9, .inl (aN (fun _ => 0)))), (q14, .inl (k 0, 4, .inl (aN (fun _ => 0))))] H locs := hW
  refine W.widen (k := 2) (n := 13) (by omega) (by omega) ?_
  exact kvret hX hr hlocks hQ (q7, q14) (hW) (trivial) d_Ex_init_29
set_option maxHeartbeats 4000000 in
set_option maxRecDepth 100000 in
/-- clear() -/
theorem ok_Ex_clear (l : Launch) (D : va_G) (k : Nat → ClassId) (sz : Nat) (h f g : Nat) (FO SP : Nat → Nat) (en n : Nat) : Met l y_Ex_clear (.code y_Ex_clear c_Ex_clear 1 none :: wsU) ({ frames := 1, cells := 0, slots := 0, locals := 23 } : Room) (kPre D k [.ref h] [(h, .inr (0, [.ref f, .ref g, .int (nI en), .int (nI n)])), (f, .inl (k 0, 9, .inl (aN FO))), (g, .inl (k 0, 4, .inl (aN SP)))] sz) (va_Qv (fun (_ : Unit) => True) (kB D k (fun _ : Unit => [(h, .inr (0, [.ref f, .ref g, .int (nI 0), .int (nI 0)])), (f, .inl (k 0, 9, .inl (aN (fun _ => 0)))), (g, .inl (k 0, 4, .inl (aN (fun _ => 0))))]) (va_A [(h, .inr (0, [.ref f, .ref g, .int (nI en), .int (nI n)])), (f, .inl (k 0, 9, .inl (aN FO))), (g, .inl (k 0, 4, .inl (aN SP)))] sz)) (va_A [(h, .inr (0, [.ref f, .ref g, .int (nI en), .int (nI n)])), (f, .inl (k 0, 9, .inl (aN FO))), (g, .inl (k 0, 4, .inl (aN SP)))] sz)) 0 0 (va_A [(h, .inr (0, [.ref f, .ref g, .int (nI en), .int (nI n)])), (f, .inl (k 0, 9, .inl (aN FO))), (g, .inl (k 0, 4, .inl (aN SP)))] sz) := by
  refine kMet (by decide) (Nat.le_of_ble_eq_true rfl) ?_
  intro p e s m below meth c ls hX hml hr hlocks hin hsz hW hl Q hQ
  generalize hAe : va_A [(h, .inr (0, [.ref f, .ref g, .int (nI en), .int (nI n)])), (f, .inl (k 0, 9, .inl (aN FO))), (g, .inl (k 0, 4, .inl (aN SP)))] sz = A at hW hQ
  generalize hH0 : s.heap = H at hW ⊢
  generalize hl0 : ([] : List Loc) = locs at hW ⊢
  have hX : FX p s m c [.ref h].toArray c_Ex_clear R_Ex := hX
  have hl : lv_has ls 1 [(0, .ref h)] := hl
  refine lv_aload_n hX.1 hX.2.1 d_Ex_clear_0 rfl (lv_at hl 0 rfl) ?_
  refine kget hX hW i_Ex 0 rfl rfl 0 (by decide) f_Ex_11 rfl rfl d_Ex_clear_1 ?_
  refine lv_iconst (v := nI 0) hX.1 hX.2.1 d_Ex_clear_4 (by decide) ?_
  refine kCv (wc := [(f, .inl (k 0, 9, .inl (aN FO)))]) hW [1] (by rfl) (by intro _; rfl) (kRunS (n := 2) (As := [.ref f, .int (nI 0)]) (rest := []) hX hml hW (ok_Ar_fillI l D k H.size f 9 (aN FO) (nI 0) (by decide)) m_Ex_25 sm_Ar_fillI in_Ar cd_Ar_fillI [1] rfl rfl (by decide +kernel) ⟨rfl, rfl, by decide, by decide⟩ rfl hl.1 rfl (by decide) d_Ex_clear_5 ⟨by first | exact Nat.zero_le _ | decide | omega, by first | exact Nat.zero_le _ | decide | omega⟩) (fun u H locs _ hW => ?_)
  have hW : KW D k A s [(h, .inr (0, [.ref f, .ref g, .int (nI en), .int (nI n)])), (f, .inl (k 0, 9, .inl (aN (fun _ => 0)))), (g, .inl (k 0, 4, .inl (aN SP)))] H locs := hW
  refine lv_aload_n hX.1 hX.2.1 d_Ex_clear_8 rfl (lv_at hl 0 rfl) ?_
  refine kget hX hW i_Ex 0 rfl rfl 1 (by decide) f_Ex_15 rfl rfl d_Ex_clear_9 ?_
  refine lv_iconst (v := nI 0) hX.1 hX.2.1 d_Ex_clear_12 (by decide) ?_
  refine kCv (wc := [(g, .inl (k 0, 4, .inl (aN SP)))]) hW [2] (by rfl) (by intro _; rfl) (kRunS (n := 2) (As := [.ref g, .int (nI 0)]) (rest := []) hX hml hW (ok_Ar_fillI l D k H.size g 4 (aN SP) (nI 0) (by decide)) m_Ex_25 sm_Ar_fillI in_Ar cd_Ar_fillI [2] rfl rfl (by decide +kernel) ⟨rfl, rfl, by decide, by decide⟩ rfl hl.1 rfl (by decide) d_Ex_clear_13 ⟨by first | exact Nat.zero_le _ | decide | omega, by first | exact Nat.zero_le _ | decide | omega⟩) (fun u H locs _ hW => ?_)
  have hW : KW D k A s [(h, .inr (0, [.ref f, .ref g, .int (nI en), .int (nI n)])), (f, .inl (k 0, 9, .inl (aN (fun _ => 0)))), (g, .inl (k 0, 4, .inl (aN (fun _ => 0))))] H locs := hW
  refine lv_aload_n hX.1 hX.2.1 d_Ex_clear_16 rfl (lv_at hl 0 rfl) ?_
  refine lv_iconst (v := nI 0) hX.1 hX.2.1 d_Ex_clear_17 (by decide) ?_
  refine kput hX hW i_Ex t_Ex t_Ex_ok n_Ex 0 rfl rfl 2 (by decide) f_Ex_18 rfl rfl (rfl) (rfl) (Nat.le_of_ble_eq_true rfl) d_Ex_clear_18 (fun H locs hW => ?_)
  have hW : KW D k A s [(h, .inr (0, [.ref f, .ref g, .int (nI 0), .int (nI n)])), (f, .inl (k 0, 9, .inl (aN (fun _ => 0)))), (g, .inl (k 0, 4, .inl (aN (fun _ => 0))))] H locs := hW
  refine lv_aload_n hX.1 hX.2.1 d_Ex_clear_21 rfl (lv_at hl 0 rfl) ?_
  refine lv_iconst (v := nI 0) hX.1 hX.2.1 d_Ex_clear_22 (by decide) ?_
  refine kput hX hW i_Ex t_Ex t_Ex_ok n_Ex 0 rfl rfl 3 (by decide) f_Ex_22 rfl rfl (rfl) (rfl) (Nat.le_of_ble_eq_true rfl) d_Ex_clear_23 (fun H locs hW => ?_)
  have hW : KW D k A s [(h, .inr (0, [.ref f, .ref g, .int (nI 0), .int (nI 0)])), (f, .inl (k 0, 9, .inl (aN (fun _ => 0)))), (g, .inl (k 0, 4, .inl (aN (fun _ => 0))))] H locs := hW
  exact kvret hX hr hlocks hQ () (hW) (trivial) d_Ex_clear_26
set_option maxHeartbeats 4000000 in
set_option maxRecDepth 100000 in
/-- addLetter(a) -/
theorem ok_Ex_addLetter (l : Launch) (D : va_G) (k : Nat → ClassId) (sz : Nat) (h f g : Nat) (FO SP : Nat → Nat) (en n : Nat) (a : Nat) (ha : a < 4) (hn : n < 8) : Met l y_Ex_addLetter (.code y_Ex_addLetter c_Ex_addLetter 3 (some .int) :: wsU) ({ frames := 0, cells := 0, slots := 0, locals := 0 } : Room) (kPre D k [.ref h, .int (nI a)] [(h, .inr (0, [.ref f, .ref g, .int (nI en), .int (nI n)])), (f, .inl (k 0, 9, .inl (aN FO))), (g, .inl (k 0, 4, .inl (aN SP)))] sz) (va_Qi (fun (r : Int32) (_ : Unit) => r = nI (2 ^ n)) (kB D k (fun _ : Unit => [(h, .inr (0, [.ref f, .ref g, .int (nI en), .int (nI (n + 1))])), (f, .inl (k 0, 9, .inl (aN FO))), (g, .inl (k 0, 4, .inl (aN (va_up SP a (SP a ||| 2 ^ n)))))]) (va_A [(h, .inr (0, [.ref f, .ref g, .int (nI en), .int (nI n)])), (f, .inl (k 0, 9, .inl (aN FO))), (g, .inl (k 0, 4, .inl (aN SP)))] sz)) (va_A [(h, .inr (0, [.ref f, .ref g, .int (nI en), .int (nI n)])), (f, .inl (k 0, 9, .inl (aN FO))), (g, .inl (k 0, 4, .inl (aN SP)))] sz)) 0 0 (va_A [(h, .inr (0, [.ref f, .ref g, .int (nI en), .int (nI n)])), (f, .inl (k 0, 9, .inl (aN FO))), (g, .inl (k 0, 4, .inl (aN SP)))] sz) := by
  refine kMet (by decide) (Nat.le_of_ble_eq_true rfl) ?_
  intro p e s m below meth c ls hX hml hr hlocks hin hsz hW hl Q hQ
  generalize hAe : va_A [(h, .inr (0, [.ref f, .ref g, .int (nI en), .int (nI n)])), (f, .inl (k 0, 9, .inl (aN FO))), (g, .inl (k 0, 4, .inl (aN SP)))] sz = A at hW hQ
  generalize hH0 : s.heap = H at hW ⊢
  generalize hl0 : ([] : List Loc) = locs at hW ⊢
  have hX : FX p s m c [.ref h, .int (nI a)].toArray c_Ex_addLetter R_Ex := hX
  have hl : lv_has ls 3 [(0, .ref h), (1, .int (nI a))] := hl
  refine lv_iconst (v := nI 1) hX.1 hX.2.1 d_Ex_addLetter_0 (by decide) ?_
  refine lv_aload_n hX.1 hX.2.1 d_Ex_addLetter_1 rfl (lv_at hl 0 rfl) ?_
  refine kget hX hW i_Ex 0 rfl rfl 3 (by decide) f_Ex_22 rfl rfl d_Ex_addLetter_2 ?_
  refine lv_ishl hX.1 hX.2.1 d_Ex_addLetter_5 ?_
  refine tpi (y := nI (2 ^ n)) (kn_shl1 (by omega)) ?_
  refine lv_istore_n (lv' := [(2, .int (nI (2 ^ n))), (0, .ref h), (1, .int (nI a))]) hX.1 hX.2.1 d_Ex_addLetter_6 rfl hl (by decide) rfl (fun ls hl => ?_)
  refine lv_aload_n hX.1 hX.2.1 d_Ex_addLetter_7 rfl (lv_at hl 1 rfl) ?_
  refine kget hX hW i_Ex 0 rfl rfl 1 (by decide) f_Ex_15 rfl rfl d_Ex_addLetter_8 ?_
  refine lv_iload_n hX.1 hX.2.1 d_Ex_addLetter_11 rfl (lv_at hl 2 rfl) ?_
  refine lv_dup2_11 hX.1 hX.2.1 d_Ex_addLetter_12 rfl rfl ?_
  refine kiald hX hW 2 rfl (by omega) (by first | decide | omega) d_Ex_addLetter_13 ?_
  refine lv_iload_n hX.1 hX.2.1 d_Ex_addLetter_14 rfl (lv_at hl 0 rfl) ?_
  refine lv_ior hX.1 hX.2.1 d_Ex_addLetter_15 ?_
  refine tpi (y := nI (SP a ||| 2 ^ n)) (kn_or _ _) ?_
  refine kiast hX hW 2 rfl (by omega) (by first | decide | omega) d_Ex_addLetter_16 (fun H locs hW => ?_)
  have hW : KW D k A s [(h, .inr (0, [.ref f, .ref g, .int (nI en), .int (nI n)])), (f, .inl (k 0, 9, .inl (aN FO))), (g, .inl (k 0, 4, .inl (aN (va_up SP a (SP a ||| 2 ^ n)))))] H locs := hW
  refine lv_aload_n hX.1 hX.2.1 d_Ex_addLetter_17 rfl (lv_at hl 1 rfl) ?_
  refine lv_dup hX.1 hX.2.1 d_Ex_addLetter_18 rfl ?_
  refine kget hX hW i_Ex 0 rfl rfl 3 (by decide) f_Ex_22 rfl rfl d_Ex_addLetter_19 ?_
  refine lv_iconst (v := nI 1) hX.1 hX.2.1 d_Ex_addLetter_22 (by decide) ?_
  refine lv_iadd hX.1 hX.2.1 d_Ex_addLetter_23 ?_
  refine tpi (y := nI (n + 1)) (nI_1 _) ?_
  refine kput hX hW i_Ex t_Ex t_Ex_ok n_Ex 0 rfl rfl 3 (by decide) f_Ex_22 rfl rfl (rfl) (rfl) (Nat.le_of_ble_eq_true rfl) d_Ex_addLetter_24 (fun H locs hW => ?_)
  have hW : KW D k A s [(h, .inr (0, [.ref f, .ref g, .int (nI en), .int (nI (n + 1))])), (f, .inl (k 0, 9, .inl (aN FO))), (g, .inl (k 0, 4, .inl (aN (va_up SP a (SP a ||| 2 ^ n)))))] H locs := hW
  refine lv_iload_n hX.1 hX.2.1 d_Ex_addLetter_27 rfl (lv_at hl 0 rfl) ?_
  exact kiret hX hr hlocks hQ () (hW) (rfl) d_Ex_addLetter_28
set_option maxHeartbeats 4000000 in
set_option maxRecDepth 100000 in
/-- setWhole(part) -/
theorem ok_Ex_setWhole (l : Launch) (D : va_G) (k : Nat → ClassId) (sz : Nat) (h f g : Nat) (FO SP : Nat → Nat) (en n : Nat) (pt fi la : Nat) (em : Bool) : Met l y_Ex_setWhole (.code y_Ex_setWhole c_Ex_setWhole 2 none :: wsU) ({ frames := 0, cells := 0, slots := 0, locals := 0 } : Room) (kPre D k [.ref h, .ref pt] [(h, .inr (0, [.ref f, .ref g, .int (nI en), .int (nI n)])), (f, .inl (k 0, 9, .inl (aN FO))), (g, .inl (k 0, 4, .inl (aN SP))), (pt, .inr (3, [.int (nI fi), .int (nI la), .int (nI em.toNat)]))] sz) (va_Qv (fun (_ : Unit) => True) (kB D k (fun _ : Unit => [(h, .inr (0, [.ref f, .ref g, .int (nI (if em then la ||| 256 else la)), .int (nI n)])), (f, .inl (k 0, 9, .inl (aN (va_up FO 8 fi)))), (g, .inl (k 0, 4, .inl (aN SP))), (pt, .inr (3, [.int (nI fi), .int (nI la), .int (nI em.toNat)]))]) (va_A [(h, .inr (0, [.ref f, .ref g, .int (nI en), .int (nI n)])), (f, .inl (k 0, 9, .inl (aN FO))), (g, .inl (k 0, 4, .inl (aN SP))), (pt, .inr (3, [.int (nI fi), .int (nI la), .int (nI em.toNat)]))] sz)) (va_A [(h, .inr (0, [.ref f, .ref g, .int (nI en), .int (nI n)])), (f, .inl (k 0, 9, .inl (aN FO))), (g, .inl (k 0, 4, .inl (aN SP))), (pt, .inr (3, [.int (nI fi), .int (nI la), .int (nI em.toNat)]))] sz)) 0 0 (va_A [(h, .inr (0, [.ref f, .ref g, .int (nI en), .int (nI n)])), (f, .inl (k 0, 9, .inl (aN FO))), (g, .inl (k 0, 4, .inl (aN SP))), (pt, .inr (3, [.int (nI fi), .int (nI la), .int (nI em.toNat)]))] sz) := by
  refine kMet (by decide) (Nat.le_of_ble_eq_true rfl) ?_
  intro p e s m below meth c ls hX hml hr hlocks hin hsz hW hl Q hQ
  generalize hAe : va_A [(h, .inr (0, [.ref f, .ref g, .int (nI en), .int (nI n)])), (f, .inl (k 0, 9, .inl (aN FO))), (g, .inl (k 0, 4, .inl (aN SP))), (pt, .inr (3, [.int (nI fi), .int (nI la), .int (nI em.toNat)]))] sz = A at hW hQ
  generalize hH0 : s.heap = H at hW ⊢
  generalize hl0 : ([] : List Loc) = locs at hW ⊢
  have hX : FX p s m c [.ref h, .ref pt].toArray c_Ex_setWhole R_Ex := hX
  have hl : lv_has ls 2 [(0, .ref h), (1, .ref pt)] := hl
  refine lv_aload_n hX.1 hX.2.1 d_Ex_setWhole_0 rfl (lv_at hl 0 rfl) ?_
  refine kget hX hW i_Ex 0 rfl rfl 0 (by decide) f_Ex_11 rfl rfl d_Ex_setWhole_1 ?_
  refine lv_bipush (v := nI 8) hX.1 hX.2.1 d_Ex_setWhole_4 (by decide) ?_
  refine lv_aload_n hX.1 hX.2.1 d_Ex_setWhole_6 rfl (lv_at hl 1 rfl) ?_
  refine kget hX hW i_Pt 3 rfl rfl 0 (by decide) f_Ex_31 rfl rfl d_Ex_setWhole_7 ?_
  refine kiast hX hW 1 rfl (by omega) (by first | decide | omega) d_Ex_setWhole_10 (fun H locs hW => ?_)
  have hW : KW D k A s [(h, .inr (0, [.ref f, .ref g, .int (nI en), .int (nI n)])), (f, .inl (k 0, 9, .inl (aN (va_up FO 8 fi)))), (g, .inl (k 0, 4, .inl (aN SP))), (pt, .inr (3, [.int (nI fi), .int (nI la), .int (nI em.toNat)]))] H locs := hW
  refine lv_aload_n hX.1 hX.2.1 d_Ex_setWhole_11 rfl (lv_at hl 0 rfl) ?_
  refine lv_aload_n hX.1 hX.2.1 d_Ex_setWhole_12 rfl (lv_at hl 1 rfl) ?_
  refine kget hX hW i_Pt 3 rfl rfl 2 (by decide) f_Ex_36 rfl rfl d_Ex_setWhole_13 ?_
  have k34 : ∀ (v : Nat), v = (if em then la ||| 256 else la) → W p l e ({ frames := 0, cells := 0, slots := 0, locals := 0 } : Room) s m [.ref h, .ref pt].toArray below meth c H locs 0 0 Q (F0 m 34 ls [.int (nI v), .ref h]) := by
    intro v hv
    refine kput hX hW i_Ex t_Ex t_Ex_ok n_Ex 0 rfl rfl 2 (by decide) f_Ex_18 rfl rfl (rfl) (rfl) (Nat.le_of_ble_eq_true rfl) d_Ex_setWhole_34 (fun H locs hW => ?_)
    have hW : KW D k A s [(h, .inr (0, [.ref f, .ref g, .int (nI v), .int (nI n)])), (f, .inl (k 0, 9, .inl (aN (va_up FO 8 fi)))), (g, .inl (k 0, 4, .inl (aN SP))), (pt, .inr (3, [.int (nI fi), .int (nI la), .int (nI em.toNat)]))] H locs := hW
    subst hv
    exact kvret hX hr hlocks hQ () (hW) (trivial) d_Ex_setWhole_37
  refine kz hX (tgt := 30) (bT _) d_Ex_setWhole_16 (by decide) (fun h1 => ?_) (fun h1 => ?_)
  · refine lv_aload_n hX.1 hX.2.1 d_Ex_setWhole_30 rfl (lv_at hl 1 rfl) ?_
    refine kget hX hW i_Pt 3 rfl rfl 1 (by decide) f_Ex_40 rfl rfl d_Ex_setWhole_31 ?_
    exact k34 _ (by rw [bT_0 h1]; rfl)
  · refine lv_aload_n hX.1 hX.2.1 d_Ex_setWhole_19 rfl (lv_at hl 1 rfl) ?_
    refine kget hX hW i_Pt 3 rfl rfl 1 (by decide) f_Ex_40 rfl rfl d_Ex_setWhole_20 ?_
    refine lv_sipush (v := nI 256) hX.1 hX.2.1 d_Ex_setWhole_23 (by decide) ?_
    refine lv_ior hX.1 hX.2.1 d_Ex_setWhole_26 ?_
    refine tpi (y := nI (la ||| 256)) (kn_or _ _) ?_
    refine lv_goto (tgt := 34) hX.1 hX.2.1 d_Ex_setWhole_27 (by decide) ?_
    exact k34 _ (by rw [bT_1 h1]; rfl)
set_option maxHeartbeats 4000000 in
set_option maxRecDepth 100000 in
/-- Part() -/
theorem ok_Pt_init (l : Launch) (D : va_G) (k : Nat → ClassId) (sz : Nat) (pt : Nat) : Met l y_Pt_init (.code y_Pt_init c_Pt_init 1 none :: wsU) ({ frames := 1, cells := 0, slots := 0, locals := 12 } : Room) (kPre D k [.ref pt] [(pt, .inr (3, [.int (nI 0), .int (nI 0), .int (nI 0)]))] sz) (va_Qv (fun (_ : Unit) => True) (kB D k (fun _ : Unit => [(pt, .inr (3, [.int (nI 0), .int (nI 0), .int (nI false.toNat)]))]) (va_A [(pt, .inr (3, [.int (nI 0), .int (nI 0), .int (nI 0)]))] sz)) (va_A [(pt, .inr (3, [.int (nI 0), .int (nI 0), .int (nI 0)]))] sz)) 0 0 (va_A [(pt, .inr (3, [.int (nI 0), .int (nI 0), .int (nI 0)]))] sz) := by
  refine kMet (by decide) (Nat.le_of_ble_eq_true rfl) ?_
  intro p e s m below meth c ls hX hml hr hlocks hin hsz hW hl Q hQ
  generalize hAe : va_A [(pt, .inr (3, [.int (nI 0), .int (nI 0), .int (nI 0)]))] sz = A at hW hQ
  generalize hH0 : s.heap = H at hW ⊢
  generalize hl0 : ([] : List Loc) = locs at hW ⊢
  have hX : FX p s m c [.ref pt].toArray c_Pt_init R_Pt := hX
  have hl : lv_has ls 1 [(0, .ref pt)] := hl
  refine lv_aload_n hX.1 hX.2.1 d_Pt_init_0 rfl (lv_at hl 0 rfl) ?_
  refine kobj hX (hml.trans hl.1.symm) m_Pt_1 (by decide) (by decide) d_Pt_init_1 ?_
  refine lv_aload_n hX.1 hX.2.1 d_Pt_init_4 rfl (lv_at hl 0 rfl) ?_
  refine lv_iconst (v := nI 0) hX.1 hX.2.1 d_Pt_init_5 (by decide) ?_
  refine kput hX hW i_Pt t_Pt t_Pt_ok n_Pt 0 rfl rfl 0 (by decide) f_Pt_7 rfl rfl (rfl) (rfl) (Nat.le_of_ble_eq_true rfl) d_Pt_init_6 (fun H locs hW => ?_)
  have hW : KW D k A s [(pt, .inr (3, [.int (nI 0), .int (nI 0), .int (nI 0)]))] H locs := hW
  refine lv_aload_n hX.1 hX.2.1 d_Pt_init_9 rfl (lv_at hl 0 rfl) ?_
  refine lv_iconst (v := nI 0) hX.1 hX.2.1 d_Pt_init_10 (by decide) ?_
  refine kput hX hW i_Pt t_Pt t_Pt_ok n_Pt 0 rfl rfl 1 (by decide) f_Pt_13 rfl rfl (rfl) (rfl) (Nat.le_of_ble_eq_true rfl) d_Pt_init_11 (fun H locs hW => ?_)
  have hW : KW D k A s [(pt, .inr (3, [.int (nI 0), .int (nI 0), .int (nI 0)]))] H locs := hW
  refine lv_aload_n hX.1 hX.2.1 d_Pt_init_14 rfl (lv_at hl 0 rfl) ?_
  refine lv_iconst (v := nI 0) hX.1 hX.2.1 d_Pt_init_15 (by decide) ?_
  refine kput hX hW i_Pt t_Pt t_Pt_ok n_Pt 0 rfl rfl 2 (by decide) f_Pt_16 rfl rfl (rfl) (rfl) (Nat.le_of_ble_eq_true rfl) d_Pt_init_16 (fun H locs hW => ?_)
  have hW : KW D k A s [(pt, .inr (3, [.int (nI 0), .int (nI 0), .int (nI 0)]))] H locs := hW
  exact kvret hX hr hlocks hQ () (hW) (trivial) d_Pt_init_19
set_option maxHeartbeats 4000000 in
set_option maxRecDepth 100000 in
/-- become(x, y, z) -/
theorem ok_Pt_become (l : Launch) (D : va_G) (k : Nat → ClassId) (sz : Nat) (pt fi la : Nat) (em : Bool) (x y : Nat) (z : Bool) : Met l y_Pt_become (.code y_Pt_become c_Pt_become 4 none :: wsU) ({ frames := 0, cells := 0, slots := 0, locals := 0 } : Room) (kPre D k [.ref pt, .int (nI x), .int (nI y), .int (nI z.toNat)] [(pt, .inr (3, [.int (nI fi), .int (nI la), .int (nI em.toNat)]))] sz) (va_Qv (fun (_ : Unit) => True) (kB D k (fun _ : Unit => [(pt, .inr (3, [.int (nI x), .int (nI y), .int (nI z.toNat)]))]) (va_A [(pt, .inr (3, [.int (nI fi), .int (nI la), .int (nI em.toNat)]))] sz)) (va_A [(pt, .inr (3, [.int (nI fi), .int (nI la), .int (nI em.toNat)]))] sz)) 0 0 (va_A [(pt, .inr (3, [.int (nI fi), .int (nI la), .int (nI em.toNat)]))] sz) := by
  refine kMet (by decide) (Nat.le_of_ble_eq_true rfl) ?_
  intro p e s m below meth c ls hX hml hr hlocks hin hsz hW hl Q hQ
  generalize hAe : va_A [(pt, .inr (3, [.int (nI fi), .int (nI la), .int (nI em.toNat)]))] sz = A at hW hQ
  generalize hH0 : s.heap = H at hW ⊢
  generalize hl0 : ([] : List Loc) = locs at hW ⊢
  have hX : FX p s m c [.ref pt, .int (nI x), .int (nI y), .int (nI z.toNat)].toArray c_Pt_become R_Pt := hX
  have hl : lv_has ls 4 [(0, .ref pt), (1, .int (nI x)), (2, .int (nI y)), (3, .int (nI z.toNat))] := hl
  refine lv_aload_n hX.1 hX.2.1 d_Pt_become_0 rfl (lv_at hl 0 rfl) ?_
  refine lv_iload_n hX.1 hX.2.1 d_Pt_become_1 rfl (lv_at hl 1 rfl) ?_
  refine kput hX hW i_Pt t_Pt t_Pt_ok n_Pt 0 rfl rfl 0 (by decide) f_Pt_7 rfl rfl (rfl) (rfl) (Nat.le_of_ble_eq_true rfl) d_Pt_become_2 (fun H locs hW => ?_)
  have hW : KW D k A s [(pt, .inr (3, [.int (nI x), .int (nI la), .int (nI em.toNat)]))] H locs := hW
  refine lv_aload_n hX.1 hX.2.1 d_Pt_become_5 rfl (lv_at hl 0 rfl) ?_
  refine lv_iload_n hX.1 hX.2.1 d_Pt_become_6 rfl (lv_at hl 2 rfl) ?_
  refine kput hX hW i_Pt t_Pt t_Pt_ok n_Pt 0 rfl rfl 1 (by decide) f_Pt_13 rfl rfl (rfl) (rfl) (Nat.le_of_ble_eq_true rfl) d_Pt_become_7 (fun H locs hW => ?_)
  have hW : KW D k A s [(pt, .inr (3, [.int (nI x), .int (nI y), .int (nI em.toNat)]))] H locs := hW
  refine lv_aload_n hX.1 hX.2.1 d_Pt_become_10 rfl (lv_at hl 0 rfl) ?_
  refine lv_iload_n hX.1 hX.2.1 d_Pt_become_11 rfl (lv_at hl 3 rfl) ?_
  refine kput hX hW i_Pt t_Pt t_Pt_ok n_Pt 0 rfl rfl 2 (by decide) f_Pt_16 rfl rfl (bT_n _) (bT_f _) (Nat.le_of_ble_eq_true rfl) d_Pt_become_12 (fun H locs hW => ?_)
  have hW : KW D k A s [(pt, .inr (3, [.int (nI x), .int (nI y), .int (nI z.toNat)]))] H locs := hW
  exact kvret hX hr hlocks hQ () (hW) (trivial) d_Pt_become_15
set_option maxHeartbeats 4000000 in
set_option maxRecDepth 100000 in
/-- addAlternative(other) -/
theorem ok_Pt_addAlternative (l : Launch) (D : va_G) (k : Nat → ClassId) (sz : Nat) (pt fi la : Nat) (em : Bool) (pu fj lb : Nat) (en : Bool) : Met l y_Pt_addAlternative (.code y_Pt_addAlternative c_Pt_addAlternative 2 none :: wsU) ({ frames := 1, cells := 0, slots := 0, locals := 23 } : Room) (kPre D k [.ref pt, .ref pu] [(pt, .inr (3, [.int (nI fi), .int (nI la), .int (nI em.toNat)])), (pu, .inr (3, [.int (nI fj), .int (nI lb), .int (nI en.toNat)]))] sz) (va_Qv (fun (_ : Unit) => True) (kB D k (fun _ : Unit => [(pt, .inr (3, [.int (nI (fi ||| fj)), .int (nI (la ||| lb)), .int (nI ((em || en).toNat))])), (pu, .inr (3, [.int (nI fj), .int (nI lb), .int (nI en.toNat)]))]) (va_A [(pt, .inr (3, [.int (nI fi), .int (nI la), .int (nI em.toNat)])), (pu, .inr (3, [.int (nI fj), .int (nI lb), .int (nI en.toNat)]))] sz)) (va_A [(pt, .inr (3, [.int (nI fi), .int (nI la), .int (nI em.toNat)])), (pu, .inr (3, [.int (nI fj), .int (nI lb), .int (nI en.toNat)]))] sz)) 0 0 (va_A [(pt, .inr (3, [.int (nI fi), .int (nI la), .int (nI em.toNat)])), (pu, .inr (3, [.int (nI fj), .int (nI lb), .int (nI en.toNat)]))] sz) := by
  refine kMet (by decide) (Nat.le_of_ble_eq_true rfl) ?_
  intro p e s m below meth c ls hX hml hr hlocks hin hsz hW hl Q hQ
  generalize hAe : va_A [(pt, .inr (3, [.int (nI fi), .int (nI la), .int (nI em.toNat)])), (pu, .inr (3, [.int (nI fj), .int (nI lb), .int (nI en.toNat)]))] sz = A at hW hQ
  generalize hH0 : s.heap = H at hW ⊢
  generalize hl0 : ([] : List Loc) = locs at hW ⊢
  have hX : FX p s m c [.ref pt, .ref pu].toArray c_Pt_addAlternative R_Pt := hX
  have hl : lv_has ls 2 [(0, .ref pt), (1, .ref pu)] := hl
  refine lv_aload_n hX.1 hX.2.1 d_Pt_addAlternative_0 rfl (lv_at hl 0 rfl) ?_
  refine lv_aload_n hX.1 hX.2.1 d_Pt_addAlternative_1 rfl (lv_at hl 0 rfl) ?_
  refine kget hX hW i_Pt 0 rfl rfl 0 (by decide) f_Pt_7 rfl rfl d_Pt_addAlternative_2 ?_
  refine lv_aload_n hX.1 hX.2.1 d_Pt_addAlternative_5 rfl (lv_at hl 1 rfl) ?_
  refine kget hX hW i_Pt 1 rfl rfl 0 (by decide) f_Pt_7 rfl rfl d_Pt_addAlternative_6 ?_
  refine lv_ior hX.1 hX.2.1 d_Pt_addAlternative_9 ?_
  refine tpi (y := nI (fi ||| fj)) (kn_or _ _) ?_
  refine lv_aload_n hX.1 hX.2.1 d_Pt_addAlternative_10 rfl (lv_at hl 0 rfl) ?_
  refine kget hX hW i_Pt 0 rfl rfl 1 (by decide) f_Pt_13 rfl rfl d_Pt_addAlternative_11 ?_
  refine lv_aload_n hX.1 hX.2.1 d_Pt_addAlternative_14 rfl (lv_at hl 1 rfl) ?_
  refine kget hX hW i_Pt 1 rfl rfl 1 (by decide) f_Pt_13 rfl rfl d_Pt_addAlternative_15 ?_
  refine lv_ior hX.1 hX.2.1 d_Pt_addAlternative_18 ?_
  refine tpi (y := nI (la ||| lb)) (kn_or _ _) ?_
  refine lv_aload_n hX.1 hX.2.1 d_Pt_addAlternative_19 rfl (lv_at hl 0 rfl) ?_
  refine kget hX hW i_Pt 0 rfl rfl 2 (by decide) f_Pt_16 rfl rfl d_Pt_addAlternative_20 ?_
  have k38 : ∀ (v : Nat), v = (em || en).toNat → W p l e ({ frames := 1, cells := 0, slots := 0, locals := 23 } : Room) s m [.ref pt, .ref pu].toArray below meth c H locs 0 0 Q (F0 m 38 ls [.int (nI v), .int (nI (la ||| lb)), .int (nI (fi ||| fj)), .ref pt]) := by
    intro v hv
    subst hv
    refine kCv (wc := [(pt, .inr (3, [.int (nI fi), .int (nI la), .int (nI em.toNat)]))]) hW [0] (by rfl) (by intro _; rfl) (kRunV (n := 3) (As := [.int (nI (fi ||| fj)), .int (nI (la ||| lb)), .int (nI ((em || en).toNat))]) (rest := []) hX hml hW (ok_Pt_become l D k H.size pt fi la em (fi ||| fj) (la ||| lb) (em || en)) m_Pt_20 im_Pt_become se_Pt_become in_Pt cd_Pt_become [0] rfl rfl rfl rfl (by decide +kernel) ⟨rfl, rfl, by decide, by decide⟩ rfl hl.1 rfl (by decide) d_Pt_addAlternative_38 ⟨by first | exact Nat.zero_le _ | decide | omega, by first | exact Nat.zero_le _ | decide | omega⟩) (fun u H locs _ hW => ?_)
    have hW : KW D k A s [(pt, .inr (3, [.int (nI (fi ||| fj)), .int (nI (la ||| lb)), .int (nI ((em || en).toNat))])), (pu, .inr (3, [.int (nI fj), .int (nI lb), .int (nI en.toNat)]))] H locs := hW
    exact kvret hX hr hlocks hQ () (hW) (trivial) d_Pt_addAlternative_41
  refine knz hX (tgt := 33) (bT _) d_Pt_addAlternative_23 (by decide) (fun h1 => ?_) (fun h1 => ?_)
  · refine lv_iconst (v := nI 1) hX.1 hX.2.1 d_Pt_addAlternative_33 (by decide) ?_
    refine lv_goto (tgt := 38) hX.1 hX.2.1 d_Pt_addAlternative_34 (by decide) ?_
    exact k38 _ (by rw [bT_1 h1]; rfl)
  · refine lv_aload_n hX.1 hX.2.1 d_Pt_addAlternative_26 rfl (lv_at hl 1 rfl) ?_
    refine kget hX hW i_Pt 1 rfl rfl 2 (by decide) f_Pt_16 rfl rfl d_Pt_addAlternative_27 ?_
    refine kz hX (tgt := 37) (bT _) d_Pt_addAlternative_30 (by decide) (fun h2 => ?_) (fun h2 => ?_)
    · refine lv_iconst (v := nI 0) hX.1 hX.2.1 d_Pt_addAlternative_37 (by decide) ?_
      exact k38 _ (by rw [bT_0 h1, bT_0 h2]; rfl)
    · refine lv_iconst (v := nI 1) hX.1 hX.2.1 d_Pt_addAlternative_33 (by decide) ?_
      refine lv_goto (tgt := 38) hX.1 hX.2.1 d_Pt_addAlternative_34 (by decide) ?_
      exact k38 _ (by rw [bT_0 h1, bT_1 h2]; rfl)
set_option maxHeartbeats 4000000 in
set_option maxRecDepth 100000 in
/-- addBehind(other, target) -/
theorem ok_Pt_addBehind (l : Launch) (D : va_G) (k : Nat → ClassId) (sz : Nat) (pt fi la : Nat) (em : Bool) (pu fj lb : Nat) (eo : Bool) (h f g : Nat) (FO SP : Nat → Nat) (en n : Nat) (hla : la < 512) : Met l y_Pt_addBehind (.code y_Pt_addBehind c_Pt_addBehind 5 none :: wsU) ({ frames := 1, cells := 0, slots := 0, locals := 23 } : Room) (kPre D k [.ref pt, .ref pu, .ref h] [(pt, .inr (3, [.int (nI fi), .int (nI la), .int (nI em.toNat)])), (pu, .inr (3, [.int (nI fj), .int (nI lb), .int (nI eo.toNat)])), (h, .inr (0, [.ref f, .ref g, .int (nI en), .int (nI n)])), (f, .inl (k 0, 9, .inl (aN FO))), (g, .inl (k 0, 4, .inl (aN SP)))] sz) (va_Qv (fun (_ : Unit) => True) (kB D k (fun _ : Unit => [(pt, .inr (3, [.int (nI (if em then fi ||| fj else fi)), .int (nI (if eo then la ||| lb else lb)), .int (nI ((em && eo).toNat))])), (pu, .inr (3, [.int (nI fj), .int (nI lb), .int (nI eo.toNat)])), (h, .inr (0, [.ref f, .ref g, .int (nI en), .int (nI n)])), (f, .inl (k 0, 9, .inl (aN (lnk FO la fj 9)))), (g, .inl (k 0, 4, .inl (aN SP)))]) (va_A [(pt, .inr (3, [.int (nI fi), .int (nI la), .int (nI em.toNat)])), (pu, .inr (3, [.int (nI fj), .int (nI lb), .int (nI eo.toNat)])), (h, .inr (0, [.ref f, .ref g, .int (nI en), .int (nI n)])), (f, .inl (k 0, 9, .inl (aN FO))), (g, .inl (k 0, 4, .inl (aN SP)))] sz)) (va_A [(pt, .inr (3, [.int (nI fi), .int (nI la), .int (nI em.toNat)])), (pu, .inr (3, [.int (nI fj), .int (nI lb), .int (nI eo.toNat)])), (h, .inr (0, [.ref f, .ref g, .int (nI en), .int (nI n)])), (f, .inl (k 0, 9, .inl (aN FO))), (g, .inl (k 0, 4, .inl (aN SP)))] sz)) 0 0 (va_A [(pt, .inr (3, [.int (nI fi), .int (nI la), .int (nI em.toNat)])), (pu, .inr (3, [.int (nI fj), .int (nI lb), .int (nI eo.toNat)])), (h, .inr (0, [.ref f, .ref g, .int (nI en), .int (nI n)])), (f, .inl (k 0, 9, .inl (aN FO))), (g, .inl (k 0, 4, .inl (aN SP)))] sz) := by
  refine kMet (by decide) (Nat.le_of_ble_eq_true rfl) ?_
  intro p e s m below meth c ls hX hml hr hlocks hin hsz hW hl Q hQ
  generalize hAe : va_A [(pt, .inr (3, [.int (nI fi), .int (nI la), .int (nI em.toNat)])), (pu, .inr (3, [.int (nI fj), .int (nI lb), .int (nI eo.toNat)])), (h, .inr (0, [.ref f, .ref g, .int (nI en), .int (nI n)])), (f, .inl (k 0, 9, .inl (aN FO))), (g, .inl (k 0, 4, .inl (aN SP)))] sz = A at hW hQ
  generalize hH0 : s.heap = H at hW ⊢
  generalize hl0 : ([] : List Loc) = locs at hW ⊢
  have hX : FX p s m c [.ref pt, .ref pu, .ref h].toArray c_Pt_addBehind R_Pt := hX
  have hl : lv_has ls 5 [(0, .ref pt), (1, .ref pu), (2, .ref h)] := hl
  refine lv_aload_n hX.1 hX.2.1 d_Pt_addBehind_0 rfl (lv_at hl 2 rfl) ?_
  refine lv_aload_n hX.1 hX.2.1 d_Pt_addBehind_1 rfl (lv_at hl 0 rfl) ?_
  refine kget hX hW i_Pt 0 rfl rfl 1 (by decide) f_Pt_13 rfl rfl d_Pt_addBehind_2 ?_
  refine lv_aload_n hX.1 hX.2.1 d_Pt_addBehind_5 rfl (lv_at hl 1 rfl) ?_
  refine kget hX hW i_Pt 1 rfl rfl 0 (by decide) f_Pt_7 rfl rfl d_Pt_addBehind_6 ?_
  refine kCv (wc := [(h, .inr (0, [.ref f, .ref g, .int (nI en), .int (nI n)])), (f, .inl (k 0, 9, .inl (aN FO))), (g, .inl (k 0, 4, .inl (aN SP)))]) hW [2, 3, 4] (by rfl) (by intro _; rfl) (kRunV (n := 2) (As := [.int (nI la), .int (nI fj)]) (rest := []) hX hml hW (ok_Ex_link l D k H.size h f g FO SP en n la fj hla) m_Pt_24 im_Ex_link se_Ex_link in_Ex cd_Ex_link [2, 3, 4] rfl rfl rfl rfl (by decide +kernel) ⟨rfl, rfl, by decide, by decide⟩ rfl hl.1 rfl (by decide) d_Pt_addBehind_9 ⟨by first | exact Nat.zero_le _ | decide | omega, by first | exact Nat.zero_le _ | decide | omega⟩) (fun u H locs _ hW => ?_)
  have hW : KW D k A s [(pt, .inr (3, [.int (nI fi), .int (nI la), .int (nI em.toNat)])), (pu, .inr (3, [.int (nI fj), .int (nI lb), .int (nI eo.toNat)])), (h, .inr (0, [.ref f, .ref g, .int (nI en), .int (nI n)])), (f, .inl (k 0, 9, .inl (aN (lnk FO la fj 9)))), (g, .inl (k 0, 4, .inl (aN SP)))] H locs := hW
  refine lv_aload_n hX.1 hX.2.1 d_Pt_addBehind_12 rfl (lv_at hl 0 rfl) ?_
  refine kget hX hW i_Pt 0 rfl rfl 2 (by decide) f_Pt_16 rfl rfl d_Pt_addBehind_13 ?_
  have k35 : ∀ (v : Nat), v = (if em then fi ||| fj else fi) → W p l e ({ frames := 1, cells := 0, slots := 0, locals := 23 } : Room) s m [.ref pt, .ref pu, .ref h].toArray below meth c H locs 0 0 Q (F0 m 35 ls [.int (nI v)]) := by
    intro v hv
    refine lv_istore_n (lv' := [(3, .int (nI v)), (0, .ref pt), (1, .ref pu), (2, .ref h)]) hX.1 hX.2.1 d_Pt_addBehind_35 rfl hl (by decide) rfl (fun ls hl => ?_)
    refine lv_aload_n hX.1 hX.2.1 d_Pt_addBehind_36 rfl (lv_at hl 2 rfl) ?_
    refine kget hX hW i_Pt 1 rfl rfl 2 (by decide) f_Pt_16 rfl rfl d_Pt_addBehind_37 ?_
    have k59 : ∀ (u : Nat), u = (if eo then la ||| lb else lb) → W p l e ({ frames := 1, cells := 0, slots := 0, locals := 23 } : Room) s m [.ref pt, .ref pu, .ref h].toArray below meth c H locs 0 0 Q (F0 m 59 ls [.int (nI u)]) := by
      intro u hu
      refine lv_istore (lv' := [(4, .int (nI u)), (3, .int (nI v)), (0, .ref pt), (1, .ref pu), (2, .ref h)]) hX.1 hX.2.1 d_Pt_addBehind_59 hl (by decide) rfl (fun ls hl => ?_)
      refine lv_aload_n hX.1 hX.2.1 d_Pt_addBehind_61 rfl (lv_at hl 2 rfl) ?_
      refine lv_iload_n hX.1 hX.2.1 d_Pt_addBehind_62 rfl (lv_at hl 1 rfl) ?_
      refine lv_iload hX.1 hX.2.1 d_Pt_addBehind_63 (lv_at hl 0 rfl) ?_
      refine lv_aload_n hX.1 hX.2.1 d_Pt_addBehind_65 rfl (lv_at hl 2 rfl) ?_
      refine kget hX hW i_Pt 0 rfl rfl 2 (by decide) f_Pt_16 rfl rfl d_Pt_addBehind_66 ?_
      have k84 : ∀ (z : Nat), z = (em && eo).toNat → W p l e ({ frames := 1, cells := 0, slots := 0, locals := 23 } : Room) s m [.ref pt, .ref pu, .ref h].toArray below meth c H locs 0 0 Q (F0 m 84 ls [.int (nI z), .int (nI u), .int (nI v), .ref pt]) := by
        intro z hz
        subst hz
        refine kCv (wc := [(pt, .inr (3, [.int (nI fi), .int (nI la), .int (nI em.toNat)]))]) hW [0] (by rfl) (by intro _; rfl) (kRunV (n := 3) (As := [.int (nI v), .int (nI u), .int (nI ((em && eo).toNat))]) (rest := []) hX hml hW (ok_Pt_become l D k H.size pt fi la em v u (em && eo)) m_Pt_20 im_Pt_become se_Pt_become in_Pt cd_Pt_become [0] rfl rfl rfl rfl (by decide +kernel) ⟨rfl, rfl, by decide, by decide⟩ rfl hl.1 rfl (by decide) d_Pt_addBehind_84 ⟨by first | exact Nat.zero_le _ | decide | omega, by first | exact Nat.zero_le _ | decide | omega⟩) (fun _ H locs _ hW => ?_)
        have hW : KW D k A s [(pt, .inr (3, [.int (nI v), .int (nI u), .int (nI ((em && eo).toNat))])), (pu, .inr (3, [.int (nI fj), .int (nI lb), .int (nI eo.toNat)])), (h, .inr (0, [.ref f, .ref g, .int (nI en), .int (nI n)])), (f, .inl (k 0, 9, .inl (aN (lnk FO la fj 9)))), (g, .inl (k 0, 4, .inl (aN SP)))] H locs := hW
        subst hv hu
        exact kvret hX hr hlocks hQ () (hW) (trivial) d_Pt_addBehind_87
      refine kz hX (tgt := 83) (bT _) d_Pt_addBehind_69 (by decide) (fun h1 => ?_) (fun h1 => ?_)
      · refine lv_iconst (v := nI 0) hX.1 hX.2.1 d_Pt_addBehind_83 (by decide) ?_
        exact k84 _ (by rw [bT_0 h1]; rfl)
      · refine lv_aload_n hX.1 hX.2.1 d_Pt_addBehind_72 rfl (lv_at hl 3 rfl) ?_
        refine kget hX hW i_Pt 1 rfl rfl 2 (by decide) f_Pt_16 rfl rfl d_Pt_addBehind_73 ?_
        refine kz hX (tgt := 83) (bT _) d_Pt_addBehind_76 (by decide) (fun h2 => ?_) (fun h2 => ?_)
        · refine lv_iconst (v := nI 0) hX.1 hX.2.1 d_Pt_addBehind_83 (by decide) ?_
          exact k84 _ (by rw [bT_0 h2]; cases em <;> rfl)
        · refine lv_iconst (v := nI 1) hX.1 hX.2.1 d_Pt_addBehind_79 (by decide) ?_
          refine lv_goto (tgt := 84) hX.1 hX.2.1 d_Pt_addBehind_80 (by decide) ?_
          exact k84 _ (by rw [bT_1 h1, bT_1 h2]; rfl)
    refine kz hX (tgt := 55) (bT _) d_Pt_addBehind_40 (by decide) (fun h1 => ?_) (fun h1 => ?_)
    · refine lv_aload_n hX.1 hX.2.1 d_Pt_addBehind_55 rfl (lv_at hl 2 rfl) ?_
      refine kget hX hW i_Pt 1 rfl rfl 1 (by decide) f_Pt_13 rfl rfl d_Pt_addBehind_56 ?_
      exact k59 _ (by rw [bT_0 h1]; rfl)
    · refine lv_aload_n hX.1 hX.2.1 d_Pt_addBehind_43 rfl (lv_at hl 1 rfl) ?_
      refine kget hX hW i_Pt 0 rfl rfl 1 (by decide) f_Pt_13 rfl rfl d_Pt_addBehind_44 ?_
      refine lv_aload_n hX.1 hX.2.1 d_Pt_addBehind_47 rfl (lv_at hl 2 rfl) ?_
      refine kget hX hW i_Pt 1 rfl rfl 1 (by decide) f_Pt_13 rfl rfl d_Pt_addBehind_48 ?_
      refine lv_ior hX.1 hX.2.1 d_Pt_addBehind_51 ?_
      refine tpi (y := nI (la ||| lb)) (kn_or _ _) ?_
      refine lv_goto (tgt := 59) hX.1 hX.2.1 d_Pt_addBehind_52 (by decide) ?_
      exact k59 _ (by rw [bT_1 h1]; rfl)
  refine kz hX (tgt := 31) (bT _) d_Pt_addBehind_16 (by decide) (fun h1 => ?_) (fun h1 => ?_)
  · refine lv_aload_n hX.1 hX.2.1 d_Pt_addBehind_31 rfl (lv_at hl 0 rfl) ?_
    refine kget hX hW i_Pt 0 rfl rfl 0 (by decide) f_Pt_7 rfl rfl d_Pt_addBehind_32 ?_
    exact k35 _ (by rw [bT_0 h1]; rfl)
  · refine lv_aload_n hX.1 hX.2.1 d_Pt_addBehind_19 rfl (lv_at hl 0 rfl) ?_
    refine kget hX hW i_Pt 0 rfl rfl 0 (by decide) f_Pt_7 rfl rfl d_Pt_addBehind_20 ?_
    refine lv_aload_n hX.1 hX.2.1 d_Pt_addBehind_23 rfl (lv_at hl 1 rfl) ?_
    refine kget hX hW i_Pt 1 rfl rfl 0 (by decide) f_Pt_7 rfl rfl d_Pt_addBehind_24 ?_
    refine lv_ior hX.1 hX.2.1 d_Pt_addBehind_27 ?_
    refine tpi (y := nI (fi ||| fj)) (kn_or _ _) ?_
    refine lv_goto (tgt := 35) hX.1 hX.2.1 d_Pt_addBehind_28 (by decide) ?_
    exact k35 _ (by rw [bT_1 h1]; rfl)
set_option maxHeartbeats 4000000 in
set_option maxRecDepth 100000 in
/-- repeat(sign, target) -/
theorem ok_Pt_repeat (l : Launch) (D : va_G) (k : Nat → ClassId) (sz : Nat) (pt fi la : Nat) (em : Bool) (h f g : Nat) (FO SP : Nat → Nat) (en n : Nat) (sg : Nat) (hla : la < 512) (hsg : sg < 256) : Met l y_Pt_repeat (.code y_Pt_repeat c_Pt_repeat 3 none :: wsU) ({ frames := 1, cells := 0, slots := 0, locals := 23 } : Room) (kPre D k [.ref pt, .int (nI sg), .ref h] [(pt, .inr (3, [.int (nI fi), .int (nI la), .int (nI em.toNat)])), (h, .inr (0, [.ref f, .ref g, .int (nI en), .int (nI n)])), (f, .inl (k 0, 9, .inl (aN FO))), (g, .inl (k 0, 4, .inl (aN SP)))] sz) (va_Qv (fun (_ : Unit) => True) (kB D k (fun _ : Unit => [(pt, .inr (3, [.int (nI fi), .int (nI la), .int (nI ((em || decide (sg ≠ 43)).toNat))])), (h, .inr (0, [.ref f, .ref g, .int (nI en), .int (nI n)])), (f, .inl (k 0, 9, .inl (aN (if sg = 63 then FO else lnk FO la fi 9)))), (g, .inl (k 0, 4, .inl (aN SP)))]) (va_A [(pt, .inr (3, [.int (nI fi), .int (nI la), .int (nI em.toNat)])), (h, .inr (0, [.ref f, .ref g, .int (nI en), .int (nI n)])), (f, .inl (k 0, 9, .inl (aN FO))), (g, .inl (k 0, 4, .inl (aN SP)))] sz)) (va_A [(pt, .inr (3, [.int (nI fi), .int (nI la), .int (nI em.toNat)])), (h, .inr (0, [.ref f, .ref g, .int (nI en), .int (nI n)])), (f, .inl (k 0, 9, .inl (aN FO))), (g, .inl (k 0, 4, .inl (aN SP)))] sz)) 0 0 (va_A [(pt, .inr (3, [.int (nI fi), .int (nI la), .int (nI em.toNat)])), (h, .inr (0, [.ref f, .ref g, .int (nI en), .int (nI n)])), (f, .inl (k 0, 9, .inl (aN FO))), (g, .inl (k 0, 4, .inl (aN SP)))] sz) := by
  refine kMet (by decide) (Nat.le_of_ble_eq_true rfl) ?_
  intro p e s m below meth c ls hX hml hr hlocks hin hsz hW hl Q hQ
  generalize hAe : va_A [(pt, .inr (3, [.int (nI fi), .int (nI la), .int (nI em.toNat)])), (h, .inr (0, [.ref f, .ref g, .int (nI en), .int (nI n)])), (f, .inl (k 0, 9, .inl (aN FO))), (g, .inl (k 0, 4, .inl (aN SP)))] sz = A at hW hQ
  generalize hH0 : s.heap = H at hW ⊢
  generalize hl0 : ([] : List Loc) = locs at hW ⊢
  have hX : FX p s m c [.ref pt, .int (nI sg), .ref h].toArray c_Pt_repeat R_Pt := hX
  have hl : lv_has ls 3 [(0, .ref pt), (1, .int (nI sg)), (2, .ref h)] := hl
  refine lv_iload_n hX.1 hX.2.1 d_Pt_repeat_0 rfl (lv_at hl 1 rfl) ?_
  refine lv_bipush (v := nI 63) hX.1 hX.2.1 d_Pt_repeat_1 (by decide) ?_
  have k18 : ∀ (FO1 : Nat → Nat) (H : Heap) (locs : List Loc), FO1 = (if sg = 63 then FO else lnk FO la fi 9) → KW D k A s [(pt, .inr (3, [.int (nI fi), .int (nI la), .int (nI em.toNat)])), (h, .inr (0, [.ref f, .ref g, .int (nI en), .int (nI n)])), (f, .inl (k 0, 9, .inl (aN FO1))), (g, .inl (k 0, 4, .inl (aN SP)))] H locs → W p l e ({ frames := 1, cells := 0, slots := 0, locals := 23 } : Room) s m [.ref pt, .int (nI sg), .ref h].toArray below meth c H locs 0 0 Q (F0 m 18 ls []) := by
    intro FO1 H locs hF hW
    refine lv_aload_n hX.1 hX.2.1 d_Pt_repeat_18 rfl (lv_at hl 0 rfl) ?_
    refine lv_aload_n hX.1 hX.2.1 d_Pt_repeat_19 rfl (lv_at hl 0 rfl) ?_
    refine kget hX hW i_Pt 0 rfl rfl 2 (by decide) f_Pt_16 rfl rfl d_Pt_repeat_20 ?_
    have k37 : ∀ (v : Nat), v = (em || decide (sg ≠ 43)).toNat → W p l e ({ frames := 1, cells := 0, slots := 0, locals := 23 } : Room) s m [.ref pt, .int (nI sg), .ref h].toArray below meth c H locs 0 0 Q (F0 m 37 ls [.int (nI v), .ref pt]) := by
      intro v hv
      subst hv
      refine kput hX hW i_Pt t_Pt t_Pt_ok n_Pt 0 rfl rfl 2 (by decide) f_Pt_16 rfl rfl (bT_n _) (bT_f _) (Nat.le_of_ble_eq_true rfl) d_Pt_repeat_37 (fun H locs hW => ?_)
      have hW : KW D k A s [(pt, .inr (3, [.int (nI fi), .int (nI la), .int (nI ((em || decide (sg ≠ 43)).toNat))])), (h, .inr (0, [.ref f, .ref g, .int (nI en), .int (nI n)])), (f, .inl (k 0, 9, .inl (aN FO1))), (g, .inl (k 0, 4, .inl (aN SP)))] H locs := hW
      subst hF
      exact kvret hX hr hlocks hQ () (hW) (trivial) d_Pt_repeat_40
    refine knz hX (tgt := 32) (bT _) d_Pt_repeat_23 (by decide) (fun h1 => ?_) (fun h1 => ?_)
    · refine lv_iconst (v := nI 1) hX.1 hX.2.1 d_Pt_repeat_32 (by decide) ?_
      refine lv_goto (tgt := 37) hX.1 hX.2.1 d_Pt_repeat_33 (by decide) ?_
      exact k37 _ (by rw [bT_1 h1]; rfl)
    · refine lv_iload_n hX.1 hX.2.1 d_Pt_repeat_26 rfl (lv_at hl 1 rfl) ?_
      refine lv_bipush (v := nI 43) hX.1 hX.2.1 d_Pt_repeat_27 (by decide) ?_
      refine keq hX (tgt := 36) (by omega) (by omega) d_Pt_repeat_29 (by decide) (fun h2 => ?_) (fun h2 => ?_)
      · refine lv_iconst (v := nI 0) hX.1 hX.2.1 d_Pt_repeat_36 (by decide) ?_
        exact k37 _ (by rw [bT_0 h1, h2]; rfl)
      · refine lv_iconst (v := nI 1) hX.1 hX.2.1 d_Pt_repeat_32 (by decide) ?_
        refine lv_goto (tgt := 37) hX.1 hX.2.1 d_Pt_repeat_33 (by decide) ?_
        exact k37 _ (by rw [bT_0 h1]; simp [h2])
  refine keq hX (tgt := 18) (by omega) (by omega) d_Pt_repeat_3 (by decide) (fun h1 => ?_) (fun h1 => ?_)
  · exact k18 FO H locs (by rw [if_pos h1]) hW
  · refine lv_aload_n hX.1 hX.2.1 d_Pt_repeat_6 rfl (lv_at hl 2 rfl) ?_
    refine lv_aload_n hX.1 hX.2.1 d_Pt_repeat_7 rfl (lv_at hl 0 rfl) ?_
    refine kget hX hW i_Pt 0 rfl rfl 1 (by decide) f_Pt_13 rfl rfl d_Pt_repeat_8 ?_
    refine lv_aload_n hX.1 hX.2.1 d_Pt_repeat_11 rfl (lv_at hl 0 rfl) ?_
    refine kget hX hW i_Pt 0 rfl rfl 0 (by decide) f_Pt_7 rfl rfl d_Pt_repeat_12 ?_
    refine kCv (wc := [(h, .inr (0, [.ref f, .ref g, .int (nI en), .int (nI n)])), (f, .inl (k 0, 9, .inl (aN FO))), (g, .inl (k 0, 4, .inl (aN SP)))]) hW [1, 2, 3] (by rfl) (by intro _; rfl) (kRunV (n := 2) (As := [.int (nI la), .int (nI fi)]) (rest := []) hX hml hW (ok_Ex_link l D k H.size h f g FO SP en n la fi hla) m_Pt_24 im_Ex_link se_Ex_link in_Ex cd_Ex_link [1, 2, 3] rfl rfl rfl rfl (by decide +kernel) ⟨rfl, rfl, by decide, by decide⟩ rfl hl.1 rfl (by decide) d_Pt_repeat_15 ⟨by first | exact Nat.zero_le _ | decide | omega, by first | exact Nat.zero_le _ | decide | omega⟩) (fun u H locs _ hW => ?_)
    have hW : KW D k A s [(pt, .inr (3, [.int (nI fi), .int (nI la), .int (nI em.toNat)])), (h, .inr (0, [.ref f, .ref g, .int (nI en), .int (nI n)])), (f, .inl (k 0, 9, .inl (aN (lnk FO la fi 9)))), (g, .inl (k 0, 4, .inl (aN SP)))] H locs := hW
    exact k18 (lnk FO la fi 9) H locs (by rw [if_neg h1]) hW
