/-! Expression.becomeReverse, Tape, Word -/
theorem kn_dec (j : Nat) : nI j + Int32.ofInt (-1) = nM j := by show nI j + (-1) = nI j - 1; rw [Int32.sub_eq_add_neg]
theorem isw_no (B : Nat → Nat) (i : Nat) : ∀ m, i < m → (decide (97 ≤ B i) && decide (B i ≤ 100)) = false → isw B m = false := by
  intro m
  induction m with
  | zero => intro h; omega
  | succ m ihm =>
    intro h hf
    rcases Nat.lt_or_ge i m with q | q
    · rw [isw, ihm q hf]; rfl
    · have : i = m := by omega
      subst this
      rw [isw, hf]; simp
set_option maxHeartbeats 4000000 in
set_option maxRecDepth 100000 in
/-- becomeReverse(other) -/
theorem ok_Ex_becomeReverse (l : Launch) (D : va_G) (k : Nat → ClassId) (sz : Nat) (h f g : Nat) (FO SP : Nat → Nat) (en n : Nat) (h2 f2 g2 : Nat) (FO2 SP2 : Nat → Nat) (e2 n2 : Nat) (hF : ∀ i, i < 8 → FO2 i < 512) (he2 : e2 < 512) : Met l y_Ex_becomeReverse (.code y_Ex_becomeReverse c_Ex_becomeReverse 3 none :: wsU) ({ frames := 2, cells := 0, slots := 0, locals := 43 } : Room) (kPre D k [.ref h, .ref h2] [(h, .inr (0, [.ref f, .ref g, .int (nI en), .int (nI n)])), (f, .inl (k 0, 9, .inl (aN FO))), (g, .inl (k 0, 4, .inl (aN SP))), (h2, .inr (0, [.ref f2, .ref g2, .int (nI e2), .int (nI n2)])), (f2, .inl (k 0, 9, .inl (aN FO2))), (g2, .inl (k 0, 4, .inl (aN SP2)))] sz) (va_Qv (fun (_ : Unit) => True) (kB D k (fun _ : Unit => [(h, .inr (0, [.ref f, .ref g, .int (nI (FO2 8 ||| (e2 &&& 256))), .int (nI n2)])), (f, .inl (k 0, 9, .inl (aN (va_up (rvl FO2 8) 8 (e2 % 256))))), (g, .inl (k 0, 4, .inl (aN SP2))), (h2, .inr (0, [.ref f2, .ref g2, .int (nI e2), .int (nI n2)])), (f2, .inl (k 0, 9, .inl (aN FO2))), (g2, .inl (k 0, 4, .inl (aN SP2)))]) (va_A [(h, .inr (0, [.ref f, .ref g, .int (nI en), .int (nI n)])), (f, .inl (k 0, 9, .inl (aN FO))), (g, .inl (k 0, 4, .inl (aN SP))), (h2, .inr (0, [.ref f2, .ref g2, .int (nI e2), .int (nI n2)])), (f2, .inl (k 0, 9, .inl (aN FO2))), (g2, .inl (k 0, 4, .inl (aN SP2)))] sz)) (va_A [(h, .inr (0, [.ref f, .ref g, .int (nI en), .int (nI n)])), (f, .inl (k 0, 9, .inl (aN FO))), (g, .inl (k 0, 4, .inl (aN SP))), (h2, .inr (0, [.ref f2, .ref g2, .int (nI e2), .int (nI n2)])), (f2, .inl (k 0, 9, .inl (aN FO2))), (g2, .inl (k 0, 4, .inl (aN SP2)))] sz)) 0 0 (va_A [(h, .inr (0, [.ref f, .ref g, .int (nI en), .int (nI n)])), (f, .inl (k 0, 9, .inl (aN FO))), (g, .inl (k 0, 4, .inl (aN SP))), (h2, .inr (0, [.ref f2, .ref g2, .int (nI e2), .int (nI n2)])), (f2, .inl (k 0, 9, .inl (aN FO2))), (g2, .inl (k 0, 4, .inl (aN SP2)))] sz) := by
  refine kMet (by decide) (Nat.le_of_ble_eq_true rfl) ?_
  intro p e s m below meth c ls hX hml hr hlocks hin hsz hW hl Q hQ
  generalize hAe : va_A [(h, .inr (0, [.ref f, .ref g, .int (nI en), .int (nI n)])), (f, .inl (k 0, 9, .inl (aN FO))), (g, .inl (k 0, 4, .inl (aN SP))), (h2, .inr (0, [.ref f2, .ref g2, .int (nI e2), .int (nI n2)])), (f2, .inl (k 0, 9, .inl (aN FO2))), (g2, .inl (k 0, 4, .inl (aN SP2)))] sz = A at hW hQ
  generalize hH0 : s.heap = H at hW ⊢
  generalize hl0 : ([] : List Loc) = locs at hW ⊢
  have hX : FX p s m c [.ref h, .ref h2].toArray c_Ex_becomeReverse R_Ex := hX
  have hl : lv_has ls 3 [(0, .ref h), (1, .ref h2)] := hl
  refine lv_aload_n hX.1 hX.2.1 d_Ex_becomeReverse_0 rfl (lv_at hl 0 rfl) ?_
  refine kCv (wc := [(h, .inr (0, [.ref f, .ref g, .int (nI en), .int (nI n)])), (f, .inl (k 0, 9, .inl (aN FO))), (g, .inl (k 0, 4, .inl (aN SP)))]) hW [0, 1, 2] (by rfl) (by intro _; rfl) (kRunV (n := 0) (As := []) (rest := []) hX hml hW (ok_Ex_clear l D k H.size h f g FO SP en n) m_Ex_47 im_Ex_clear se_Ex_clear in_Ex cd_Ex_clear [0, 1, 2] rfl rfl rfl rfl (by decide +kernel) ⟨rfl, rfl, by decide, by decide⟩ rfl hl.1 rfl (by decide) d_Ex_becomeReverse_1 ⟨by first | exact Nat.zero_le _ | decide | omega | (dsimp only; omega), by first | exact Nat.zero_le _ | decide | omega | (dsimp only; omega)⟩) (fun u H locs _ hW => ?_)
  have hW : KW D k A s [(h, .inr (0, [.ref f, .ref g, .int (nI 0), .int (nI 0)])), (f, .inl (k 0, 9, .inl (aN (fun _ => 0)))), (g, .inl (k 0, 4, .inl (aN (fun _ => 0)))), (h2, .inr (0, [.ref f2, .ref g2, .int (nI e2), .int (nI n2)])), (f2, .inl (k 0, 9, .inl (aN FO2))), (g2, .inl (k 0, 4, .inl (aN SP2)))] H locs := hW
  refine lv_iconst (v := nI 0) hX.1 hX.2.1 d_Ex_becomeReverse_4 (by decide) ?_
  refine lv_istore_n (lv' := [(2, .int (nI 0)), (0, .ref h), (1, .ref h2)]) hX.1 hX.2.1 d_Ex_becomeReverse_5 rfl hl (by decide) rfl (fun ls hl => ?_)
  have hW : KW D k A s [(h, .inr (0, [.ref f, .ref g, .int (nI 0), .int (nI 0)])), (f, .inl (k 0, 9, .inl (aN (rvl FO2 0)))), (g, .inl (k 0, 4, .inl (aN (fun _ => 0)))), (h2, .inr (0, [.ref f2, .ref g2, .int (nI e2), .int (nI n2)])), (f2, .inl (k 0, 9, .inl (aN FO2))), (g2, .inl (k 0, 4, .inl (aN SP2)))] H locs := hW
  have lp : ∀ (fu : Nat) (i : Nat) (H : Heap) (locs : List Loc) (ls : Array Slot), i ≤ 8 → 8 < i + fu →  KW D k A s [(h, .inr (0, [.ref f, .ref g, .int (nI 0), .int (nI 0)])), (f, .inl (k 0, 9, .inl (aN (rvl FO2 i)))), (g, .inl (k 0, 4, .inl (aN (fun _ => 0)))), (h2, .inr (0, [.ref f2, .ref g2, .int (nI e2), .int (nI n2)])), (f2, .inl (k 0, 9, .inl (aN FO2))), (g2, .inl (k 0, 4, .inl (aN SP2)))] H locs → lv_has ls 3 [(2, .int (nI i)), (1, .ref h2), (0, .ref h)] → W p l e ({ frames := 2, cells := 0, slots := 0, locals := 43 } : Room) s m [.ref h, .ref h2].toArray below meth c H locs 0 0 Q (F0 m 6 ls []) := by
    intro fu
    induction fu with
    | zero => intro i H locs ls lp1 lp2 hW hl; exfalso; omega
    | succ fu ih =>
      intro i H locs ls lp1 lp2 hW hl
      refine lv_iload_n hX.1 hX.2.1 d_Ex_becomeReverse_6 rfl (lv_at hl 0 rfl) ?_
      refine lv_bipush (v := nI 8) hX.1 hX.2.1 d_Ex_becomeReverse_7 (by decide) ?_
      refine kge hX (tgt := 31) (by omega) (by omega) d_Ex_becomeReverse_9 (by decide) (fun h3 => ?_) (fun h3 => ?_)
      · have h4 : i = 8 := by omega
        subst h4
        refine lv_aload_n hX.1 hX.2.1 d_Ex_becomeReverse_31 rfl (lv_at hl 2 rfl) ?_
        refine kget hX hW i_Ex 0 rfl rfl 0 (by decide) f_Ex_11 rfl rfl d_Ex_becomeReverse_32 ?_
        refine lv_bipush (v := nI 8) hX.1 hX.2.1 d_Ex_becomeReverse_35 (by decide) ?_
        refine lv_aload_n hX.1 hX.2.1 d_Ex_becomeReverse_37 rfl (lv_at hl 1 rfl) ?_
        refine kget hX hW i_Ex 3 rfl rfl 2 (by decide) f_Ex_18 rfl rfl d_Ex_becomeReverse_38 ?_
        refine lv_sipush (v := (-257)) hX.1 hX.2.1 d_Ex_becomeReverse_41 (by decide) ?_
        refine lv_iand hX.1 hX.2.1 d_Ex_becomeReverse_44 ?_
        refine tpi (y := nI (e2 % 256)) (and_m257 he2) ?_
        refine kiast hX hW 1 rfl (by omega) (by first | decide | omega) d_Ex_becomeReverse_45 (fun H locs hW => ?_)
        have hW : KW D k A s [(h, .inr (0, [.ref f, .ref g, .int (nI 0), .int (nI 0)])), (f, .inl (k 0, 9, .inl (aN (va_up (rvl FO2 8) 8 (e2 % 256))))), (g, .inl (k 0, 4, .inl (aN (fun _ => 0)))), (h2, .inr (0, [.ref f2, .ref g2, .int (nI e2), .int (nI n2)])), (f2, .inl (k 0, 9, .inl (aN FO2))), (g2, .inl (k 0, 4, .inl (aN SP2)))] H locs := hW
        refine lv_aload_n hX.1 hX.2.1 d_Ex_becomeReverse_46 rfl (lv_at hl 2 rfl) ?_
        refine lv_aload_n hX.1 hX.2.1 d_Ex_becomeReverse_47 rfl (lv_at hl 1 rfl) ?_
        refine kget hX hW i_Ex 3 rfl rfl 0 (by decide) f_Ex_11 rfl rfl d_Ex_becomeReverse_48 ?_
        refine lv_bipush (v := nI 8) hX.1 hX.2.1 d_Ex_becomeReverse_51 (by decide) ?_
        refine kiald hX hW 4 rfl (by omega) (by first | decide | omega) d_Ex_becomeReverse_53 ?_
        refine lv_aload_n hX.1 hX.2.1 d_Ex_becomeReverse_54 rfl (lv_at hl 1 rfl) ?_
        refine kget hX hW i_Ex 3 rfl rfl 2 (by decide) f_Ex_18 rfl rfl d_Ex_becomeReverse_55 ?_
        refine lv_sipush (v := nI 256) hX.1 hX.2.1 d_Ex_becomeReverse_58 (by decide) ?_
        refine lv_iand hX.1 hX.2.1 d_Ex_becomeReverse_61 ?_
        refine tpi (y := nI (e2 &&& 256)) (kn_and _ _) ?_
        refine lv_ior hX.1 hX.2.1 d_Ex_becomeReverse_62 ?_
        refine tpi (y := nI (FO2 8 ||| (e2 &&& 256))) (kn_or _ _) ?_
        refine kput hX hW i_Ex t_Ex t_Ex_ok n_Ex 0 rfl rfl 2 (by decide) f_Ex_18 rfl rfl (rfl) (rfl) (Nat.le_of_ble_eq_true rfl) d_Ex_becomeReverse_63 (fun H locs hW => ?_)
        have hW : KW D k A s [(h, .inr (0, [.ref f, .ref g, .int (nI (FO2 8 ||| (e2 &&& 256))), .int (nI 0)])), (f, .inl (k 0, 9, .inl (aN (va_up (rvl FO2 8) 8 (e2 % 256))))), (g, .inl (k 0, 4, .inl (aN (fun _ => 0)))), (h2, .inr (0, [.ref f2, .ref g2, .int (nI e2), .int (nI n2)])), (f2, .inl (k 0, 9, .inl (aN FO2))), (g2, .inl (k 0, 4, .inl (aN SP2)))] H locs := hW
        refine lv_aload_n hX.1 hX.2.1 d_Ex_becomeReverse_66 rfl (lv_at hl 1 rfl) ?_
        refine kget hX hW i_Ex 3 rfl rfl 1 (by decide) f_Ex_15 rfl rfl d_Ex_becomeReverse_67 ?_
        refine lv_iconst (v := nI 0) hX.1 hX.2.1 d_Ex_becomeReverse_70 (by decide) ?_
        refine lv_aload_n hX.1 hX.2.1 d_Ex_becomeReverse_71 rfl (lv_at hl 2 rfl) ?_
        refine kget hX hW i_Ex 0 rfl rfl 1 (by decide) f_Ex_15 rfl rfl d_Ex_becomeReverse_72 ?_
        refine lv_iconst (v := nI 0) hX.1 hX.2.1 d_Ex_becomeReverse_75 (by decide) ?_
        refine lv_iconst (v := nI 4) hX.1 hX.2.1 d_Ex_becomeReverse_76 (by decide) ?_
        refine kcopy (sp := 0) (dp := 0) (n := 4) hX (hml.trans hl.1.symm) hW m_Ex_54 5 2 rfl rfl (by decide) (by decide) (by decide) (by decide) (by decide) (by decide) d_Ex_becomeReverse_77 (fun H locs hW => ?_)
        have hW := kcong (f' := aN SP2) hW 2 rfl (fun j hj => sb_cpy0 hj)
        have hW : KW D k A s [(h, .inr (0, [.ref f, .ref g, .int (nI (FO2 8 ||| (e2 &&& 256))), .int (nI 0)])), (f, .inl (k 0, 9, .inl (aN (va_up (rvl FO2 8) 8 (e2 % 256))))), (g, .inl (k 0, 4, .inl (aN SP2))), (h2, .inr (0, [.ref f2, .ref g2, .int (nI e2), .int (nI n2)])), (f2, .inl (k 0, 9, .inl (aN FO2))), (g2, .inl (k 0, 4, .inl (aN SP2)))] H locs := hW
        refine lv_aload_n hX.1 hX.2.1 d_Ex_becomeReverse_80 rfl (lv_at hl 2 rfl) ?_
        refine lv_aload_n hX.1 hX.2.1 d_Ex_becomeReverse_81 rfl (lv_at hl 1 rfl) ?_
        refine kget hX hW i_Ex 3 rfl rfl 3 (by decide) f_Ex_22 rfl rfl d_Ex_becomeReverse_82 ?_
        refine kput hX hW i_Ex t_Ex t_Ex_ok n_Ex 0 rfl rfl 3 (by decide) f_Ex_22 rfl rfl (rfl) (rfl) (Nat.le_of_ble_eq_true rfl) d_Ex_becomeReverse_85 (fun H locs hW => ?_)
        have hW : KW D k A s [(h, .inr (0, [.ref f, .ref g, .int (nI (FO2 8 ||| (e2 &&& 256))), .int (nI n2)])), (f, .inl (k 0, 9, .inl (aN (va_up (rvl FO2 8) 8 (e2 % 256))))), (g, .inl (k 0, 4, .inl (aN SP2))), (h2, .inr (0, [.ref f2, .ref g2, .int (nI e2), .int (nI n2)])), (f2, .inl (k 0, 9, .inl (aN FO2))), (g2, .inl (k 0, 4, .inl (aN SP2)))] H locs := hW
        exact kvret hX hr hlocks hQ () (hW) (trivial) d_Ex_becomeReverse_88
      · refine lv_aload_n hX.1 hX.2.1 d_Ex_becomeReverse_12 rfl (lv_at hl 2 rfl) ?_
        refine lv_aload_n hX.1 hX.2.1 d_Ex_becomeReverse_13 rfl (lv_at hl 1 rfl) ?_
        refine kget hX hW i_Ex 3 rfl rfl 0 (by decide) f_Ex_11 rfl rfl d_Ex_becomeReverse_14 ?_
        refine lv_iload_n hX.1 hX.2.1 d_Ex_becomeReverse_17 rfl (lv_at hl 0 rfl) ?_
        refine kiald hX hW 4 rfl (by omega) (by first | decide | omega) d_Ex_becomeReverse_18 ?_
        refine lv_iconst (v := nI 1) hX.1 hX.2.1 d_Ex_becomeReverse_19 (by decide) ?_
        refine lv_iload_n hX.1 hX.2.1 d_Ex_becomeReverse_20 rfl (lv_at hl 0 rfl) ?_
        refine lv_ishl hX.1 hX.2.1 d_Ex_becomeReverse_21 ?_
        refine tpi (y := nI (2 ^ i)) (kn_shl1 (by omega)) ?_
        refine kCv (wc := [(h, .inr (0, [.ref f, .ref g, .int (nI 0), .int (nI 0)])), (f, .inl (k 0, 9, .inl (aN (rvl FO2 i)))), (g, .inl (k 0, 4, .inl (aN (fun _ => 0))))]) hW [0, 1, 2] (by rfl) (by intro _; rfl) (kRunV (n := 2) (As := [.int (nI (FO2 i)), .int (nI (2 ^ i))]) (rest := []) hX hml hW (ok_Ex_link l D k H.size h f g (rvl FO2 i) (fun _ => 0) 0 0 (FO2 i) (2 ^ i) (hF i h3)) m_Ex_50 im_Ex_link se_Ex_link in_Ex cd_Ex_link [0, 1, 2] rfl rfl rfl rfl (by decide +kernel) ⟨rfl, rfl, by decide, by decide⟩ rfl hl.1 rfl (by decide) d_Ex_becomeReverse_22 ⟨by first | exact Nat.zero_le _ | decide | omega | (dsimp only; omega), by first | exact Nat.zero_le _ | decide | omega | (dsimp only; omega)⟩) (fun u H locs _ hW => ?_)
        have hW : KW D k A s [(h, .inr (0, [.ref f, .ref g, .int (nI 0), .int (nI 0)])), (f, .inl (k 0, 9, .inl (aN (lnk (rvl FO2 i) (FO2 i) (2 ^ i) 9)))), (g, .inl (k 0, 4, .inl (aN (fun _ => 0)))), (h2, .inr (0, [.ref f2, .ref g2, .int (nI e2), .int (nI n2)])), (f2, .inl (k 0, 9, .inl (aN FO2))), (g2, .inl (k 0, 4, .inl (aN SP2)))] H locs := hW
        refine lv_iinc (v := nI (i + 1)) (lv' := [(2, .int (nI (i + 1))), (1, .ref h2), (0, .ref h)]) hX.1 hX.2.1 d_Ex_becomeReverse_25 hl (k := 0) rfl (kn_inc _) (by decide) rfl (fun ls hl => ?_)
        refine lv_goto (tgt := 6) hX.1 hX.2.1 d_Ex_becomeReverse_28 (by decide) ?_
        exact ih (i + 1) H locs ls (by omega) (by omega) hW (lv_sub hl [0, 1, 2] rfl)
  exact lp 9 0 H locs ls (by omega) (by omega) (hW) (lv_sub hl [0, 2, 1] rfl)
set_option maxHeartbeats 4000000 in
set_option maxRecDepth 100000 in
/-- Tape() -/
theorem ok_Ta_init (l : Launch) (D : va_G) (k : Nat → ClassId) (sz : Nat) (ta : Nat) : Met l y_Ta_init (.code y_Ta_init c_Ta_init 1 none :: wsU) ({ frames := 1, cells := 1, slots := 80, locals := 12 } : Room) (kPre D k [.ref ta] [(ta, .inr (5, [.null, .int (nI 0)]))] sz) (va_Qv (fun (_ : Nat) => True) (kB D k (fun u : Nat => [(ta, .inr (5, [.ref u, .int (nI 0)]))] ++ [(u, .inl (k 0, 80, .inl (aN (fun _ => 0))))]) (va_A [(ta, .inr (5, [.null, .int (nI 0)]))] sz)) (va_A [(ta, .inr (5, [.null, .int (nI 0)]))] sz)) 1 80 (va_A [(ta, .inr (5, [.null, .int (nI 0)]))] sz) := by
  refine kMet (by decide) (Nat.le_of_ble_eq_true rfl) ?_
  intro p e s m below meth c ls hX hml hr hlocks hin hsz hW hl Q hQ
  generalize hAe : va_A [(ta, .inr (5, [.null, .int (nI 0)]))] sz = A at hW hQ
  generalize hH0 : s.heap = H at hW ⊢
  generalize hl0 : ([] : List Loc) = locs at hW ⊢
  have hX : FX p s m c [.ref ta].toArray c_Ta_init R_Ta := hX
  have hl : lv_has ls 1 [(0, .ref ta)] := hl
  refine lv_aload_n hX.1 hX.2.1 d_Ta_init_0 rfl (lv_at hl 0 rfl) ?_
  refine kobj hX (hml.trans hl.1.symm) m_Ta_3 (by decide) (by decide) d_Ta_init_1 ?_
  refine lv_aload_n hX.1 hX.2.1 d_Ta_init_4 rfl (lv_at hl 0 rfl) ?_
  refine lv_bipush (v := nI 80) hX.1 hX.2.1 d_Ta_init_5 (by decide) ?_
  refine knewI hX hW (by first | decide | omega) (by first | decide | omega | (dsimp only; omega)) (by first | decide | omega | (dsimp only; omega)) d_Ta_init_7 (fun q7 H hW => ?_)
  have hW : KW D k A s [(ta, .inr (5, [.null, .int (nI 0)])), (q7, .inl (k 0, 80, .inl (aN (fun _ => 0))))] H locs := hW
  refine kputF hX hW hin i_Ta t_Ta t_Ta_ok n_Ta 0 rfl rfl 0 (by decide) f_Ta_9 rfl rfl rfl (rfl) (rfl) (Nat.le_of_ble_eq_true rfl) d_Ta_init_9 (fun H locs hW => ?_)
  have hW : KW D k A s [(ta, .inr (5, [.ref q7, .int (nI 0)])), (q7, .inl (k 0, 80, .inl (aN (fun _ => 0))))] H locs := hW
  refine lv_aload_n hX.1 hX.2.1 d_Ta_init_12 rfl (lv_at hl 0 rfl) ?_
  refine lv_iconst (v := nI 0) hX.1 hX.2.1 d_Ta_init_13 (by decide) ?_
  refine kput hX hW i_Ta t_Ta t_Ta_ok n_Ta 0 rfl rfl 1 (by decide) f_Ta_15 rfl rfl (rfl) (rfl) (Nat.le_of_ble_eq_true rfl) d_Ta_init_14 (fun H locs hW => ?_)
  have hW : KW D k A s [(ta, .inr (5, [.ref q7, .int (nI 0)])), (q7, .inl (k 0, 80, .inl (aN (fun _ => 0))))] H locs := hW
  refine W.widen (k := 1) (n := 80) (by omega) (by omega) ?_
  exact kvret hX hr hlocks hQ q7 (hW) (trivial) d_Ta_init_17
set_option maxHeartbeats 4000000 in
set_option maxRecDepth 100000 in
/-- useUp() -/
theorem ok_Ta_useUp (l : Launch) (D : va_G) (k : Nat → ClassId) (sz : Nat) (ta tb : Nat) (B : Nat → Nat) (z : Nat) : Met l y_Ta_useUp (.code y_Ta_useUp c_Ta_useUp 2 (some .int) :: wsU) ({ frames := 0, cells := 0, slots := 0, locals := 0 } : Room) (kPre D k [.ref ta] [(ta, .inr (5, [.ref tb, .int (nI z)])), (tb, .inl (k 0, 80, .inl (aN B)))] sz) (va_Qi (fun (r : Int32) (_ : Unit) => r = nI z) (kB D k (fun _ : Unit => [(ta, .inr (5, [.ref tb, .int (nI 0)])), (tb, .inl (k 0, 80, .inl (aN B)))]) (va_A [(ta, .inr (5, [.ref tb, .int (nI z)])), (tb, .inl (k 0, 80, .inl (aN B)))] sz)) (va_A [(ta, .inr (5, [.ref tb, .int (nI z)])), (tb, .inl (k 0, 80, .inl (aN B)))] sz)) 0 0 (va_A [(ta, .inr (5, [.ref tb, .int (nI z)])), (tb, .inl (k 0, 80, .inl (aN B)))] sz) := by
  refine kMet (by decide) (Nat.le_of_ble_eq_true rfl) ?_
  intro p e s m below meth c ls hX hml hr hlocks hin hsz hW hl Q hQ
  generalize hAe : va_A [(ta, .inr (5, [.ref tb, .int (nI z)])), (tb, .inl (k 0, 80, .inl (aN B)))] sz = A at hW hQ
  generalize hH0 : s.heap = H at hW ⊢
  generalize hl0 : ([] : List Loc) = locs at hW ⊢
  have hX : FX p s m c [.ref ta].toArray c_Ta_useUp R_Ta := hX
  have hl : lv_has ls 2 [(0, .ref ta)] := hl
  refine lv_aload_n hX.1 hX.2.1 d_Ta_useUp_0 rfl (lv_at hl 0 rfl) ?_
  refine kget hX hW i_Ta 0 rfl rfl 1 (by decide) f_Ta_15 rfl rfl d_Ta_useUp_1 ?_
  refine lv_istore_n (lv' := [(1, .int (nI z)), (0, .ref ta)]) hX.1 hX.2.1 d_Ta_useUp_4 rfl hl (by decide) rfl (fun ls hl => ?_)
  refine lv_aload_n hX.1 hX.2.1 d_Ta_useUp_5 rfl (lv_at hl 1 rfl) ?_
  refine lv_iconst (v := nI 0) hX.1 hX.2.1 d_Ta_useUp_6 (by decide) ?_
  refine kput hX hW i_Ta t_Ta t_Ta_ok n_Ta 0 rfl rfl 1 (by decide) f_Ta_15 rfl rfl (rfl) (rfl) (Nat.le_of_ble_eq_true rfl) d_Ta_useUp_7 (fun H locs hW => ?_)
  have hW : KW D k A s [(ta, .inr (5, [.ref tb, .int (nI 0)])), (tb, .inl (k 0, 80, .inl (aN B)))] H locs := hW
  refine lv_iload_n hX.1 hX.2.1 d_Ta_useUp_10 rfl (lv_at hl 0 rfl) ?_
  exact kiret hX hr hlocks hQ () (hW) (rfl) d_Ta_useUp_11
set_option maxHeartbeats 4000000 in
set_option maxRecDepth 100000 in
/-- isWord(n) -/
theorem ok_Ta_isWord (l : Launch) (D : va_G) (k : Nat → ClassId) (sz : Nat) (ta tb : Nat) (B : Nat → Nat) (z : Nat) (n : Nat) (hn : n ≤ 80) (hB : ∀ i, i < 80 → B i < 256) : Met l y_Ta_isWord (.code y_Ta_isWord c_Ta_isWord 3 (some .boolean) :: wsU) ({ frames := 0, cells := 0, slots := 0, locals := 0 } : Room) (kPre D k [.ref ta, .int (nI n)] [(ta, .inr (5, [.ref tb, .int (nI z)])), (tb, .inl (k 0, 80, .inl (aN B)))] sz) (va_Qi (fun (r : Int32) (_ : Unit) => r = nI (isw B n).toNat) (kB D k (fun _ : Unit => [(ta, .inr (5, [.ref tb, .int (nI z)])), (tb, .inl (k 0, 80, .inl (aN B)))]) (va_A [(ta, .inr (5, [.ref tb, .int (nI z)])), (tb, .inl (k 0, 80, .inl (aN B)))] sz)) (va_A [(ta, .inr (5, [.ref tb, .int (nI z)])), (tb, .inl (k 0, 80, .inl (aN B)))] sz)) 0 0 (va_A [(ta, .inr (5, [.ref tb, .int (nI z)])), (tb, .inl (k 0, 80, .inl (aN B)))] sz) := by
  refine kMet (by decide) (Nat.le_of_ble_eq_true rfl) ?_
  intro p e s m below meth c ls hX hml hr hlocks hin hsz hW hl Q hQ
  generalize hAe : va_A [(ta, .inr (5, [.ref tb, .int (nI z)])), (tb, .inl (k 0, 80, .inl (aN B)))] sz = A at hW hQ
  generalize hH0 : s.heap = H at hW ⊢
  generalize hl0 : ([] : List Loc) = locs at hW ⊢
  have hX : FX p s m c [.ref ta, .int (nI n)].toArray c_Ta_isWord R_Ta := hX
  have hl : lv_has ls 3 [(0, .ref ta), (1, .int (nI n))] := hl
  refine lv_iconst (v := nI 0) hX.1 hX.2.1 d_Ta_isWord_0 (by decide) ?_
  refine lv_istore_n (lv' := [(2, .int (nI 0)), (0, .ref ta), (1, .int (nI n))]) hX.1 hX.2.1 d_Ta_isWord_1 rfl hl (by decide) rfl (fun ls hl => ?_)
  have lp : ∀ (fu : Nat) (i : Nat) (H : Heap) (locs : List Loc) (ls : Array Slot), i ≤ n → n < i + fu → isw B n = (isw B i && isw B n) → isw B i = true →  KW D k A s [(ta, .inr (5, [.ref tb, .int (nI z)])), (tb, .inl (k 0, 80, .inl (aN B)))] H locs → lv_has ls 3 [(2, .int (nI i)), (1, .int (nI n)), (0, .ref ta)] → W p l e ({ frames := 0, cells := 0, slots := 0, locals := 0 } : Room) s m [.ref ta, .int (nI n)].toArray below meth c H locs 0 0 Q (F0 m 2 ls []) := by
    intro fu
    induction fu with
    | zero => intro i H locs ls h1 h2 h3 h3a hW hl; exfalso; omega
    | succ fu ih =>
      intro i H locs ls h1 h2 h3 h3a hW hl
      refine lv_iload_n hX.1 hX.2.1 d_Ta_isWord_2 rfl (lv_at hl 0 rfl) ?_
      refine lv_iload_n hX.1 hX.2.1 d_Ta_isWord_3 rfl (lv_at hl 1 rfl) ?_
      refine kge hX (tgt := 37) (by omega) (by omega) d_Ta_isWord_4 (by decide) (fun h4 => ?_) (fun h4 => ?_)
      · have h5 : i = n := by omega
        subst h5
        refine lv_iconst (v := nI 1) hX.1 hX.2.1 d_Ta_isWord_37 (by decide) ?_
        exact kzret hX hr hlocks hQ () (hW) (by rw [h3a]; rfl) (Or.inr rfl) d_Ta_isWord_38
      · have hBi := hB i (by omega)
        have hno := isw_no B i
        refine lv_aload_n hX.1 hX.2.1 d_Ta_isWord_7 rfl (lv_at hl 2 rfl) ?_
        refine kget hX hW i_Ta 0 rfl rfl 0 (by decide) f_Ta_9 rfl rfl d_Ta_isWord_8 ?_
        refine lv_iload_n hX.1 hX.2.1 d_Ta_isWord_11 rfl (lv_at hl 0 rfl) ?_
        refine kiald hX hW 1 rfl (by omega) (by first | decide | omega) d_Ta_isWord_12 ?_
        refine lv_bipush (v := nI 97) hX.1 hX.2.1 d_Ta_isWord_13 (by decide) ?_
        refine klt hX (tgt := 29) (by omega) (by omega) d_Ta_isWord_15 (by decide) (fun h6 => ?_) (fun h6 => ?_)
        · refine lv_iconst (v := nI 0) hX.1 hX.2.1 d_Ta_isWord_29 (by decide) ?_
          exact kzret hX hr hlocks hQ () (hW) (by rw [hno n (by omega) (by simp; omega)]; rfl) (Or.inl rfl) d_Ta_isWord_30
        · refine lv_aload_n hX.1 hX.2.1 d_Ta_isWord_18 rfl (lv_at hl 2 rfl) ?_
          refine kget hX hW i_Ta 0 rfl rfl 0 (by decide) f_Ta_9 rfl rfl d_Ta_isWord_19 ?_
          refine lv_iload_n hX.1 hX.2.1 d_Ta_isWord_22 rfl (lv_at hl 0 rfl) ?_
          refine kiald hX hW 1 rfl (by omega) (by first | decide | omega) d_Ta_isWord_23 ?_
          refine lv_bipush (v := nI 100) hX.1 hX.2.1 d_Ta_isWord_24 (by decide) ?_
          refine kle hX (tgt := 31) (by omega) (by omega) d_Ta_isWord_26 (by decide) (fun h7 => ?_) (fun h7 => ?_)
          · refine lv_iinc (v := nI (i + 1)) (lv' := [(2, .int (nI (i + 1))), (1, .int (nI n)), (0, .ref ta)]) hX.1 hX.2.1 d_Ta_isWord_31 hl (k := 0) rfl (kn_inc _) (by decide) rfl (fun ls hl => ?_)
            refine lv_goto (tgt := 2) hX.1 hX.2.1 d_Ta_isWord_34 (by decide) ?_
            exact ih (i + 1) H locs ls (by omega) (by omega) (by simp [isw, h3a, h6, h7]) (by simp [isw, h3a, h6, h7]) (hW) (lv_sub hl [0, 1, 2] rfl)
          · refine lv_iconst (v := nI 0) hX.1 hX.2.1 d_Ta_isWord_29 (by decide) ?_
            exact kzret hX hr hlocks hQ () (hW) (by rw [hno n (by omega) (by simp; omega)]; rfl) (Or.inl rfl) d_Ta_isWord_30
  exact lp (n + 1) 0 H locs ls (by omega) (by omega) (by simp [isw]) rfl (hW) (lv_sub hl [0, 2, 1] rfl)
set_option maxHeartbeats 4000000 in
set_option maxRecDepth 100000 in
/-- append(x, n) -/
theorem ok_Ta_append (l : Launch) (D : va_G) (k : Nat → ClassId) (sz : Nat) (ta tb : Nat) (B : Nat → Nat) (z : Nat) (x : Int64) (n : Nat) (h1n : 1 ≤ n) (hn : n ≤ 8) (hz : z ≤ 80) : Met l y_Ta_append (.code y_Ta_append c_Ta_append 5 (some .boolean) :: wsU) ({ frames := 0, cells := 0, slots := 0, locals := 0 } : Room) (kPre D k [.ref ta, .long x, .int (nI n)] [(ta, .inr (5, [.ref tb, .int (nI z)])), (tb, .inl (k 0, 80, .inl (aN B)))] sz) (va_Qi (fun (r : Int32) (_ : Unit) => r = nI (decide (z + n ≤ 80)).toNat) (kB D k (fun _ : Unit => [(ta, .inr (5, [.ref tb, .int (nI (if z + n ≤ 80 then z + n else z))])), (tb, .inl (k 0, 80, .inl (aN (if z + n ≤ 80 then tpw B z x n n else B))))]) (va_A [(ta, .inr (5, [.ref tb, .int (nI z)])), (tb, .inl (k 0, 80, .inl (aN B)))] sz)) (va_A [(ta, .inr (5, [.ref tb, .int (nI z)])), (tb, .inl (k 0, 80, .inl (aN B)))] sz)) 0 0 (va_A [(ta, .inr (5, [.ref tb, .int (nI z)])), (tb, .inl (k 0, 80, .inl (aN B)))] sz) := by
  refine kMet (by decide) (Nat.le_of_ble_eq_true rfl) ?_
  intro p e s m below meth c ls hX hml hr hlocks hin hsz hW hl Q hQ
  generalize hAe : va_A [(ta, .inr (5, [.ref tb, .int (nI z)])), (tb, .inl (k 0, 80, .inl (aN B)))] sz = A at hW hQ
  generalize hH0 : s.heap = H at hW ⊢
  generalize hl0 : ([] : List Loc) = locs at hW ⊢
  have hX : FX p s m c [.ref ta, .long x, .int (nI n)].toArray c_Ta_append R_Ta := hX
  have hl : lv_has ls 5 [(0, .ref ta), (1, .long x), (3, .int (nI n))] := hl
  refine lv_aload_n hX.1 hX.2.1 d_Ta_append_0 rfl (lv_at hl 0 rfl) ?_
  refine kget hX hW i_Ta 0 rfl rfl 1 (by decide) f_Ta_15 rfl rfl d_Ta_append_1 ?_
  refine lv_iload_n hX.1 hX.2.1 d_Ta_append_4 rfl (lv_at hl 2 rfl) ?_
  refine lv_iadd hX.1 hX.2.1 d_Ta_append_5 ?_
  refine tpi (y := nI (z + n)) (nI_add _ _) ?_
  refine lv_bipush (v := nI 80) hX.1 hX.2.1 d_Ta_append_6 (by decide) ?_
  refine kle hX (tgt := 13) (by omega) (by omega) d_Ta_append_8 (by decide) (fun h1 => ?_) (fun h1 => ?_)
  · refine lv_iload_n hX.1 hX.2.1 d_Ta_append_13 rfl (lv_at hl 2 rfl) ?_
    refine lv_iconst (v := nI 1) hX.1 hX.2.1 d_Ta_append_14 (by decide) ?_
    refine lv_isub hX.1 hX.2.1 d_Ta_append_15 ?_
    refine tpi (y := nM n) (rfl) ?_
    refine lv_istore (lv' := [(4, .int (nM n)), (0, .ref ta), (1, .long x), (3, .int (nI n))]) hX.1 hX.2.1 d_Ta_append_16 hl (by decide) rfl (fun ls hl => ?_)
    have lp : ∀ (fu : Nat) (j0 : Nat) (mm : Nat) (H : Heap) (locs : List Loc) (ls : Array Slot), j0 + mm = n → j0 < fu →  KW D k A s [(ta, .inr (5, [.ref tb, .int (nI (z + mm))])), (tb, .inl (k 0, 80, .inl (aN (tpw B z x n mm))))] H locs → lv_has ls 5 [(4, .int (nM j0)), (3, .int (nI n)), (1, .long x), (0, .ref ta)] → W p l e ({ frames := 0, cells := 0, slots := 0, locals := 0 } : Room) s m [.ref ta, .long x, .int (nI n)].toArray below meth c H locs 0 0 Q (F0 m 18 ls []) := by
      intro fu
      induction fu with
      | zero => intro j0 mm H locs ls g1 g2 hW hl; exfalso; omega
      | succ fu ih =>
        intro j0 mm H locs ls g1 g2 hW hl
        refine lv_iload hX.1 hX.2.1 d_Ta_append_18 (lv_at hl 0 rfl) ?_
        refine kltM hX (tgt := 60) (by omega) d_Ta_append_20 (by decide) (fun h2 => ?_) (fun h2 => ?_)
        · have h3 : mm = n := by omega
          subst h3
          subst h2
          refine lv_iconst (v := nI 1) hX.1 hX.2.1 d_Ta_append_60 (by decide) ?_
          exact kzret hX hr hlocks hQ () (by rw [if_pos h1, if_pos h1]; exact hW) (by simp [h1]) (Or.inr rfl) d_Ta_append_61
        · obtain ⟨j, rfl⟩ : ∃ j, j0 = j + 1 := ⟨j0 - 1, by omega⟩
          rw [nM_s] at hl
          refine lv_aload_n hX.1 hX.2.1 d_Ta_append_23 rfl (lv_at hl 3 rfl) ?_
          refine kget hX hW i_Ta 0 rfl rfl 0 (by decide) f_Ta_9 rfl rfl d_Ta_append_24 ?_
          refine lv_aload_n hX.1 hX.2.1 d_Ta_append_27 rfl (lv_at hl 3 rfl) ?_
          refine kget hX hW i_Ta 0 rfl rfl 1 (by decide) f_Ta_15 rfl rfl d_Ta_append_28 ?_
          refine lv_lload_n hX.1 hX.2.1 d_Ta_append_31 rfl (lv_at hl 2 rfl) ?_
          refine lv_bipush (v := nI 8) hX.1 hX.2.1 d_Ta_append_32 (by decide) ?_
          refine lv_iload hX.1 hX.2.1 d_Ta_append_34 (lv_at hl 0 rfl) ?_
          refine lv_imul hX.1 hX.2.1 d_Ta_append_36 ?_
          refine tpi (y := nI (8 * j)) (pk_mul _ _) ?_
          refine lv_lushr (v := (x.toUInt64 >>> ((nI (8 * j)).toInt64.toUInt64 &&& Int64.toUInt64 63)).toInt64) hX.1 hX.2.1 d_Ta_append_37 (rfl) ?_
          refine lv_l2i (v := ((x.toUInt64 >>> ((nI (8 * j)).toInt64.toUInt64 &&& Int64.toUInt64 63)).toInt64).toInt32) hX.1 hX.2.1 d_Ta_append_38 (rfl) ?_
          refine lv_sipush (v := nI 255) hX.1 hX.2.1 d_Ta_append_39 (by decide) ?_
          refine lv_iand hX.1 hX.2.1 d_Ta_append_42 ?_
          refine tpi (y := nI (byt x j)) (byt_u (by omega)) ?_
          refine kiast hX hW 1 rfl (by omega) (by first | decide | omega) d_Ta_append_43 (fun H locs hW => ?_)
          have hW : KW D k A s [(ta, .inr (5, [.ref tb, .int (nI (z + mm))])), (tb, .inl (k 0, 80, .inl (aN (va_up (tpw B z x n mm) (z + mm) (byt x j)))))] H locs := hW
          refine lv_aload_n hX.1 hX.2.1 d_Ta_append_44 rfl (lv_at hl 3 rfl) ?_
          refine lv_dup hX.1 hX.2.1 d_Ta_append_45 rfl ?_
          refine kget hX hW i_Ta 0 rfl rfl 1 (by decide) f_Ta_15 rfl rfl d_Ta_append_46 ?_
          refine lv_iconst (v := nI 1) hX.1 hX.2.1 d_Ta_append_49 (by decide) ?_
          refine lv_iadd hX.1 hX.2.1 d_Ta_append_50 ?_
          refine tpi (y := nI (z + mm + 1)) (nI_1 _) ?_
          refine kput hX hW i_Ta t_Ta t_Ta_ok n_Ta 0 rfl rfl 1 (by decide) f_Ta_15 rfl rfl (rfl) (rfl) (Nat.le_of_ble_eq_true rfl) d_Ta_append_51 (fun H locs hW => ?_)
          have hW : KW D k A s [(ta, .inr (5, [.ref tb, .int (nI (z + mm + 1))])), (tb, .inl (k 0, 80, .inl (aN (va_up (tpw B z x n mm) (z + mm) (byt x j)))))] H locs := hW
          refine lv_iinc (v := nM j) (lv' := [(4, .int (nM j)), (3, .int (nI n)), (1, .long x), (0, .ref ta)]) hX.1 hX.2.1 d_Ta_append_54 hl (k := 0) rfl (kn_dec j) (by decide) rfl (fun ls hl => ?_)
          refine lv_goto (tgt := 18) hX.1 hX.2.1 d_Ta_append_57 (by decide) ?_
          have e1 : n - 1 - mm = j := by omega
          have hW : KW D k A s [(ta, .inr (5, [.ref tb, .int (nI (z + (mm + 1)))])), (tb, .inl (k 0, 80, .inl (aN (tpw B z x n (mm + 1)))))] H locs := by rw [tpw, e1]; exact hW
          exact ih j (mm + 1) H locs ls (by omega) (by omega) (hW) (lv_sub hl [0, 1, 2, 3] rfl)
    exact lp (n + 1) n 0 H locs ls (by omega) (by omega) (hW) (lv_sub hl [0, 3, 2, 1] rfl)
  · refine lv_iconst (v := nI 0) hX.1 hX.2.1 d_Ta_append_11 (by decide) ?_
    exact kzret hX hr hlocks hQ () (by rw [if_neg (by omega), if_neg (by omega)]; exact hW) (by rw [show decide (z + n ≤ 80) = false by simp; omega]; rfl) (Or.inl rfl) d_Ta_append_12
set_option maxHeartbeats 4000000 in
set_option maxRecDepth 100000 in
/-- Word() -/
theorem ok_Wo_init (l : Launch) (D : va_G) (k : Nat → ClassId) (sz : Nat) (wo : Nat) : Met l y_Wo_init (.code y_Wo_init c_Wo_init 1 none :: wsU) ({ frames := 1, cells := 1, slots := 30, locals := 12 } : Room) (kPre D k [.ref wo] [(wo, .inr (6, [.null, .int (nI 0)]))] sz) (va_Qv (fun (_ : Nat) => True) (kB D k (fun u : Nat => [(wo, .inr (6, [.ref u, .int (nI 0)]))] ++ [(u, .inl (k 0, 30, .inl (aN (fun _ => 0))))]) (va_A [(wo, .inr (6, [.null, .int (nI 0)]))] sz)) (va_A [(wo, .inr (6, [.null, .int (nI 0)]))] sz)) 1 30 (va_A [(wo, .inr (6, [.null, .int (nI 0)]))] sz) := by
  refine kMet (by decide) (Nat.le_of_ble_eq_true rfl) ?_
  intro p e s m below meth c ls hX hml hr hlocks hin hsz hW hl Q hQ
  generalize hAe : va_A [(wo, .inr (6, [.null, .int (nI 0)]))] sz = A at hW hQ
  generalize hH0 : s.heap = H at hW ⊢
  generalize hl0 : ([] : List Loc) = locs at hW ⊢
  have hX : FX p s m c [.ref wo].toArray c_Wo_init R_Wo := hX
  have hl : lv_has ls 1 [(0, .ref wo)] := hl
  refine lv_aload_n hX.1 hX.2.1 d_Wo_init_0 rfl (lv_at hl 0 rfl) ?_
  refine kobj hX (hml.trans hl.1.symm) m_Wo_3 (by decide) (by decide) d_Wo_init_1 ?_
  refine lv_aload_n hX.1 hX.2.1 d_Wo_init_4 rfl (lv_at hl 0 rfl) ?_
  refine lv_bipush (v := nI 30) hX.1 hX.2.1 d_Wo_init_5 (by decide) ?_
  refine knewI hX hW (by first | decide | omega) (by first | decide | omega | (dsimp only; omega)) (by first | decide | omega | (dsimp only; omega)) d_Wo_init_7 (fun q7 H hW => ?_)
  have hW : KW D k A s [(wo, .inr (6, [.null, .int (nI 0)])), (q7, .inl (k 0, 30, .inl (aN (fun _ => 0))))] H locs := hW
  refine kput hX hW i_Wo t_Wo t_Wo_ok n_Wo 0 rfl rfl 0 (by decide) f_Wo_9 rfl rfl (rfl) (rfl) (Nat.le_of_ble_eq_true rfl) d_Wo_init_9 (fun H locs hW => ?_)
  have hW : KW D k A s [(wo, .inr (6, [.ref q7, .int (nI 0)])), (q7, .inl (k 0, 30, .inl (aN (fun _ => 0))))] H locs := hW
  refine lv_aload_n hX.1 hX.2.1 d_Wo_init_12 rfl (lv_at hl 0 rfl) ?_
  refine lv_iconst (v := nI 0) hX.1 hX.2.1 d_Wo_init_13 (by decide) ?_
  refine kput hX hW i_Wo t_Wo t_Wo_ok n_Wo 0 rfl rfl 1 (by decide) f_Wo_15 rfl rfl (rfl) (rfl) (Nat.le_of_ble_eq_true rfl) d_Wo_init_14 (fun H locs hW => ?_)
  have hW : KW D k A s [(wo, .inr (6, [.ref q7, .int (nI 0)])), (q7, .inl (k 0, 30, .inl (aN (fun _ => 0))))] H locs := hW
  refine W.widen (k := 1) (n := 30) (by omega) (by omega) ?_
  exact kvret hX hr hlocks hQ q7 (hW) (trivial) d_Wo_init_17
set_option maxHeartbeats 4000000 in
set_option maxRecDepth 100000 in
/-- resize(v) -/
theorem ok_Wo_resize (l : Launch) (D : va_G) (k : Nat → ClassId) (sz : Nat) (wo wl : Nat) (L : Nat → Nat) (z cp : Nat) (v : Nat) (hv : v < 2 ^ 20) (hc : cp < 2 ^ 20) : Met l y_Wo_resize (.code y_Wo_resize c_Wo_resize 2 none :: wsU) ({ frames := 0, cells := 1, slots := v, locals := 0 } : Room) (kPre D k [.ref wo, .int (nI v)] [(wo, .inr (6, [.ref wl, .int (nI z)])), (wl, .inl (k 0, cp, .inl (aN L)))] sz) (va_Qv (fun (_ : Nat) => True) (kB D k (fun u : Nat => [(wo, .inr (6, [.ref u, .int (nI v)])), (u, .inl (k 0, (if v ≤ cp then cp else v), .inl (aN (if v ≤ cp then L else fun _ => 0))))]) (va_A [(wo, .inr (6, [.ref wl, .int (nI z)])), (wl, .inl (k 0, cp, .inl (aN L)))] sz)) (va_A [(wo, .inr (6, [.ref wl, .int (nI z)])), (wl, .inl (k 0, cp, .inl (aN L)))] sz)) 1 v (va_A [(wo, .inr (6, [.ref wl, .int (nI z)])), (wl, .inl (k 0, cp, .inl (aN L)))] sz) := by
  refine kMet (by decide) (Nat.le_of_ble_eq_true rfl) ?_
  intro p e s m below meth c ls hX hml hr hlocks hin hsz hW hl Q hQ
  generalize hAe : va_A [(wo, .inr (6, [.ref wl, .int (nI z)])), (wl, .inl (k 0, cp, .inl (aN L)))] sz = A at hW hQ
  generalize hH0 : s.heap = H at hW ⊢
  generalize hl0 : ([] : List Loc) = locs at hW ⊢
  have hX : FX p s m c [.ref wo, .int (nI v)].toArray c_Wo_resize R_Wo := hX
  have hl : lv_has ls 2 [(0, .ref wo), (1, .int (nI v))] := hl
  refine lv_iload_n hX.1 hX.2.1 d_Wo_resize_0 rfl (lv_at hl 1 rfl) ?_
  refine lv_aload_n hX.1 hX.2.1 d_Wo_resize_1 rfl (lv_at hl 0 rfl) ?_
  refine kget hX hW i_Wo 0 rfl rfl 0 (by decide) f_Wo_9 rfl rfl d_Wo_resize_2 ?_
  refine kalen hX hW 1 0 rfl rfl d_Wo_resize_5 ?_
  refine kle hX (tgt := 16) (by omega) (by omega) d_Wo_resize_6 (by decide) (fun h1 => ?_) (fun h1 => ?_)
  · refine lv_aload_n hX.1 hX.2.1 d_Wo_resize_16 rfl (lv_at hl 0 rfl) ?_
    refine lv_iload_n hX.1 hX.2.1 d_Wo_resize_17 rfl (lv_at hl 1 rfl) ?_
    refine kput hX hW i_Wo t_Wo t_Wo_ok n_Wo 0 rfl rfl 1 (by decide) f_Wo_15 rfl rfl (rfl) (rfl) (Nat.le_of_ble_eq_true rfl) d_Wo_resize_18 (fun H locs hW => ?_)
    have hW : KW D k A s [(wo, .inr (6, [.ref wl, .int (nI v)])), (wl, .inl (k 0, cp, .inl (aN L)))] H locs := hW
    refine W.widen (k := 1) (n := v) (by omega) (by omega) ?_
    exact kvret hX hr hlocks hQ wl (by rw [if_pos h1, if_pos h1]; exact hW) (trivial) d_Wo_resize_21
  · refine lv_aload_n hX.1 hX.2.1 d_Wo_resize_9 rfl (lv_at hl 0 rfl) ?_
    refine lv_iload_n hX.1 hX.2.1 d_Wo_resize_10 rfl (lv_at hl 1 rfl) ?_
    refine knewI hX hW (by first | decide | omega) (by first | decide | omega | (dsimp only; omega)) (by first | decide | omega | (dsimp only; omega)) d_Wo_resize_11 (fun q11 H hW => ?_)
    have hW : KW D k A s [(wo, .inr (6, [.ref wl, .int (nI z)])), (wl, .inl (k 0, cp, .inl (aN L))), (q11, .inl (k 0, v, .inl (aN (fun _ => 0))))] H locs := hW
    refine kput hX hW i_Wo t_Wo t_Wo_ok n_Wo 0 rfl rfl 0 (by decide) f_Wo_9 rfl rfl (rfl) (rfl) (Nat.le_of_ble_eq_true rfl) d_Wo_resize_13 (fun H locs hW => ?_)
    have hW : KW D k A s [(wo, .inr (6, [.ref q11, .int (nI z)])), (wl, .inl (k 0, cp, .inl (aN L))), (q11, .inl (k 0, v, .inl (aN (fun _ => 0))))] H locs := hW
    refine lv_aload_n hX.1 hX.2.1 d_Wo_resize_16 rfl (lv_at hl 0 rfl) ?_
    refine lv_iload_n hX.1 hX.2.1 d_Wo_resize_17 rfl (lv_at hl 1 rfl) ?_
    refine kput hX hW i_Wo t_Wo t_Wo_ok n_Wo 0 rfl rfl 1 (by decide) f_Wo_15 rfl rfl (rfl) (rfl) (Nat.le_of_ble_eq_true rfl) d_Wo_resize_18 (fun H locs hW => ?_)
    have hW : KW D k A s [(wo, .inr (6, [.ref q11, .int (nI v)])), (wl, .inl (k 0, cp, .inl (aN L))), (q11, .inl (k 0, v, .inl (aN (fun _ => 0))))] H locs := hW
    refine W.widen (k := 1) (n := v) (by omega) (by omega) ?_
    exact kvret hX hr hlocks hQ q11 (by rw [if_neg (by omega), if_neg (by omega)]; exact hW.sub [0, 2] rfl rfl) (trivial) d_Wo_resize_21
