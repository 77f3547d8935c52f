/-! THE REFERENCE: parts of an expression -/
/-- a part by its number -/
def nd (PE PF PL : Nat → Nat) (j : Nat) : PT := (PF j, PL j, decide (PE j ≠ 0))
def pe (PE : Nat → Nat) (j : Nat) : Bool := decide (PE j ≠ 0)
theorem pe_1 {PE : Nat → Nat} {j : Nat} (h : PE j ≠ 0) : pe PE j = true := by simp [pe, h]
theorem pe_0 {PE : Nat → Nat} {j : Nat} (h : PE j = 0) : pe PE j = false := by simp [pe, h]
set_option maxHeartbeats 4000000 in
set_option maxRecDepth 100000 in
/-- either(-1, k) -/
theorem ok_Md_either0 (l : Launch) (D : va_G) (k : Nat → ClassId) (sz : Nat) (md : Nat) (ad : Nat → Nat) (th tp pl si at1 wr dp pa le : Nat) (PE PF PL : Nat → Nat) (kx : Nat) : Met l y_Md_either (.code y_Md_either c_Md_either 3 (some .int) :: wsU) ({ frames := 1, cells := 0, slots := 0, locals := 23 } : Room) (kPre D k [.ref md, .int (nM 0), .int (nI kx)] [(md, .inr (8, [.int (nI th), .int (nI tp), .ref (ad 2), .int (nM pl), .ref (ad 4), .ref (ad 5), .ref (ad 6), .ref (ad 7), .ref (ad 8), .ref (ad 9), .int (nI si), .ref (ad 11), .int (nI at1), .int (nM wr), .int (nI dp), .int (nI pa), .ref (ad 16), .ref (ad 17), .ref (ad 18), .int (nI le), .ref (ad 20), .ref (ad 21), .ref (ad 22), .ref (ad 23), .ref (ad 24), .ref (ad 25), .ref (ad 26), .ref (ad 27), .ref (ad 28), .ref (ad 29), .ref (ad 30)])), (ad 16, .inl (k 2, 400, .inl (aN PE))), (ad 17, .inl (k 0, 400, .inl (aN PF))), (ad 18, .inl (k 0, 400, .inl (aN PL)))] sz) (va_Qi (fun (r : Int32) (_ : Unit) => r = nI kx) (kB D k (fun _ : Unit => [(md, .inr (8, [.int (nI th), .int (nI tp), .ref (ad 2), .int (nM pl), .ref (ad 4), .ref (ad 5), .ref (ad 6), .ref (ad 7), .ref (ad 8), .ref (ad 9), .int (nI si), .ref (ad 11), .int (nI at1), .int (nM wr), .int (nI dp), .int (nI pa), .ref (ad 16), .ref (ad 17), .ref (ad 18), .int (nI le), .ref (ad 20), .ref (ad 21), .ref (ad 22), .ref (ad 23), .ref (ad 24), .ref (ad 25), .ref (ad 26), .ref (ad 27), .ref (ad 28), .ref (ad 29), .ref (ad 30)])), (ad 16, .inl (k 2, 400, .inl (aN PE))), (ad 17, .inl (k 0, 400, .inl (aN PF))), (ad 18, .inl (k 0, 400, .inl (aN PL)))]) (va_A [(md, .inr (8, [.int (nI th), .int (nI tp), .ref (ad 2), .int (nM pl), .ref (ad 4), .ref (ad 5), .ref (ad 6), .ref (ad 7), .ref (ad 8), .ref (ad 9), .int (nI si), .ref (ad 11), .int (nI at1), .int (nM wr), .int (nI dp), .int (nI pa), .ref (ad 16), .ref (ad 17), .ref (ad 18), .int (nI le), .ref (ad 20), .ref (ad 21), .ref (ad 22), .ref (ad 23), .ref (ad 24), .ref (ad 25), .ref (ad 26), .ref (ad 27), .ref (ad 28), .ref (ad 29), .ref (ad 30)])), (ad 16, .inl (k 2, 400, .inl (aN PE))), (ad 17, .inl (k 0, 400, .inl (aN PF))), (ad 18, .inl (k 0, 400, .inl (aN PL)))] sz)) (va_A [(md, .inr (8, [.int (nI th), .int (nI tp), .ref (ad 2), .int (nM pl), .ref (ad 4), .ref (ad 5), .ref (ad 6), .ref (ad 7), .ref (ad 8), .ref (ad 9), .int (nI si), .ref (ad 11), .int (nI at1), .int (nM wr), .int (nI dp), .int (nI pa), .ref (ad 16), .ref (ad 17), .ref (ad 18), .int (nI le), .ref (ad 20), .ref (ad 21), .ref (ad 22), .ref (ad 23), .ref (ad 24), .ref (ad 25), .ref (ad 26), .ref (ad 27), .ref (ad 28), .ref (ad 29), .ref (ad 30)])), (ad 16, .inl (k 2, 400, .inl (aN PE))), (ad 17, .inl (k 0, 400, .inl (aN PF))), (ad 18, .inl (k 0, 400, .inl (aN PL)))] sz)) 0 0 (va_A [(md, .inr (8, [.int (nI th), .int (nI tp), .ref (ad 2), .int (nM pl), .ref (ad 4), .ref (ad 5), .ref (ad 6), .ref (ad 7), .ref (ad 8), .ref (ad 9), .int (nI si), .ref (ad 11), .int (nI at1), .int (nM wr), .int (nI dp), .int (nI pa), .ref (ad 16), .ref (ad 17), .ref (ad 18), .int (nI le), .ref (ad 20), .ref (ad 21), .ref (ad 22), .ref (ad 23), .ref (ad 24), .ref (ad 25), .ref (ad 26), .ref (ad 27), .ref (ad 28), .ref (ad 29), .ref (ad 30)])), (ad 16, .inl (k 2, 400, .inl (aN PE))), (ad 17, .inl (k 0, 400, .inl (aN PF))), (ad 18, .inl (k 0, 400, .inl (aN PL)))] sz) := by
  refine kMet (by decide) (Nat.le_of_ble_eq_true rfl) ?_
  intro p e s m below meth c ls hX hml hr hlocks hin hsz hW hl Q hQ
  generalize hAe : va_A [(md, .inr (8, [.int (nI th), .int (nI tp), .ref (ad 2), .int (nM pl), .ref (ad 4), .ref (ad 5), .ref (ad 6), .ref (ad 7), .ref (ad 8), .ref (ad 9), .int (nI si), .ref (ad 11), .int (nI at1), .int (nM wr), .int (nI dp), .int (nI pa), .ref (ad 16), .ref (ad 17), .ref (ad 18), .int (nI le), .ref (ad 20), .ref (ad 21), .ref (ad 22), .ref (ad 23), .ref (ad 24), .ref (ad 25), .ref (ad 26), .ref (ad 27), .ref (ad 28), .ref (ad 29), .ref (ad 30)])), (ad 16, .inl (k 2, 400, .inl (aN PE))), (ad 17, .inl (k 0, 400, .inl (aN PF))), (ad 18, .inl (k 0, 400, .inl (aN PL)))] sz = A at hW hQ
  generalize hH0 : s.heap = H at hW ⊢
  generalize hl0 : ([] : List Loc) = locs at hW ⊢
  have hX : FX p s m c [.ref md, .int (nM 0), .int (nI kx)].toArray c_Md_either R_Md := hX
  have hl : lv_has ls 3 [(0, .ref md), (1, .int (nM 0)), (2, .int (nI kx))] := hl
  refine lv_iload_n hX.1 hX.2.1 d_Md_either_0 rfl (lv_at hl 1 rfl) ?_
  refine kgeM hX (tgt := 8) (by decide) d_Md_either_1 (by decide) (fun h1 => ?_) (fun h1 => ?_)
  · omega
  · refine lv_iload_n hX.1 hX.2.1 d_Md_either_4 rfl (lv_at hl 2 rfl) ?_
    refine lv_goto (tgt := 61) hX.1 hX.2.1 d_Md_either_5 (by decide) ?_
    exact kiret hX hr hlocks hQ () (hW) (rfl) d_Md_either_61
set_option maxHeartbeats 4000000 in
set_option maxRecDepth 100000 in
/-- either(n, k) -/
theorem ok_Md_either1 (l : Launch) (D : va_G) (k : Nat → ClassId) (sz : Nat) (md : Nat) (ad : Nat → Nat) (th tp pl si at1 wr dp pa le : Nat) (PE PF PL : Nat → Nat) (n kx : Nat) (hpa : pa < 400) (hn : n < pa) (hk : kx < pa) (hPE : ∀ j, j < pa → PE j ≤ 1) : Met l y_Md_either (.code y_Md_either c_Md_either 3 (some .int) :: wsU) ({ frames := 1, cells := 0, slots := 0, locals := 23 } : Room) (kPre D k [.ref md, .int (nI n), .int (nI kx)] [(md, .inr (8, [.int (nI th), .int (nI tp), .ref (ad 2), .int (nM pl), .ref (ad 4), .ref (ad 5), .ref (ad 6), .ref (ad 7), .ref (ad 8), .ref (ad 9), .int (nI si), .ref (ad 11), .int (nI at1), .int (nM wr), .int (nI dp), .int (nI pa), .ref (ad 16), .ref (ad 17), .ref (ad 18), .int (nI le), .ref (ad 20), .ref (ad 21), .ref (ad 22), .ref (ad 23), .ref (ad 24), .ref (ad 25), .ref (ad 26), .ref (ad 27), .ref (ad 28), .ref (ad 29), .ref (ad 30)])), (ad 16, .inl (k 2, 400, .inl (aN PE))), (ad 17, .inl (k 0, 400, .inl (aN PF))), (ad 18, .inl (k 0, 400, .inl (aN PL)))] sz) (va_Qi (fun (r : Int32) (_ : Unit) => r = nI pa) (kB D k (fun _ : Unit => [(md, .inr (8, [.int (nI th), .int (nI tp), .ref (ad 2), .int (nM pl), .ref (ad 4), .ref (ad 5), .ref (ad 6), .ref (ad 7), .ref (ad 8), .ref (ad 9), .int (nI si), .ref (ad 11), .int (nI at1), .int (nM wr), .int (nI dp), .int (nI (pa + 1)), .ref (ad 16), .ref (ad 17), .ref (ad 18), .int (nI le), .ref (ad 20), .ref (ad 21), .ref (ad 22), .ref (ad 23), .ref (ad 24), .ref (ad 25), .ref (ad 26), .ref (ad 27), .ref (ad 28), .ref (ad 29), .ref (ad 30)])), (ad 16, .inl (k 2, 400, .inl (aN (va_up PE pa (pe PE n || pe PE kx).toNat)))), (ad 17, .inl (k 0, 400, .inl (aN (va_up PF pa (PF n ||| PF kx))))), (ad 18, .inl (k 0, 400, .inl (aN (va_up PL pa (PL n ||| PL kx)))))]) (va_A [(md, .inr (8, [.int (nI th), .int (nI tp), .ref (ad 2), .int (nM pl), .ref (ad 4), .ref (ad 5), .ref (ad 6), .ref (ad 7), .ref (ad 8), .ref (ad 9), .int (nI si), .ref (ad 11), .int (nI at1), .int (nM wr), .int (nI dp), .int (nI pa), .ref (ad 16), .ref (ad 17), .ref (ad 18), .int (nI le), .ref (ad 20), .ref (ad 21), .ref (ad 22), .ref (ad 23), .ref (ad 24), .ref (ad 25), .ref (ad 26), .ref (ad 27), .ref (ad 28), .ref (ad 29), .ref (ad 30)])), (ad 16, .inl (k 2, 400, .inl (aN PE))), (ad 17, .inl (k 0, 400, .inl (aN PF))), (ad 18, .inl (k 0, 400, .inl (aN PL)))] sz)) (va_A [(md, .inr (8, [.int (nI th), .int (nI tp), .ref (ad 2), .int (nM pl), .ref (ad 4), .ref (ad 5), .ref (ad 6), .ref (ad 7), .ref (ad 8), .ref (ad 9), .int (nI si), .ref (ad 11), .int (nI at1), .int (nM wr), .int (nI dp), .int (nI pa), .ref (ad 16), .ref (ad 17), .ref (ad 18), .int (nI le), .ref (ad 20), .ref (ad 21), .ref (ad 22), .ref (ad 23), .ref (ad 24), .ref (ad 25), .ref (ad 26), .ref (ad 27), .ref (ad 28), .ref (ad 29), .ref (ad 30)])), (ad 16, .inl (k 2, 400, .inl (aN PE))), (ad 17, .inl (k 0, 400, .inl (aN PF))), (ad 18, .inl (k 0, 400, .inl (aN PL)))] sz)) 0 0 (va_A [(md, .inr (8, [.int (nI th), .int (nI tp), .ref (ad 2), .int (nM pl), .ref (ad 4), .ref (ad 5), .ref (ad 6), .ref (ad 7), .ref (ad 8), .ref (ad 9), .int (nI si), .ref (ad 11), .int (nI at1), .int (nM wr), .int (nI dp), .int (nI pa), .ref (ad 16), .ref (ad 17), .ref (ad 18), .int (nI le), .ref (ad 20), .ref (ad 21), .ref (ad 22), .ref (ad 23), .ref (ad 24), .ref (ad 25), .ref (ad 26), .ref (ad 27), .ref (ad 28), .ref (ad 29), .ref (ad 30)])), (ad 16, .inl (k 2, 400, .inl (aN PE))), (ad 17, .inl (k 0, 400, .inl (aN PF))), (ad 18, .inl (k 0, 400, .inl (aN PL)))] sz) := by
  refine kMet (by decide) (Nat.le_of_ble_eq_true rfl) ?_
  intro p e s m below meth c ls hX hml hr hlocks hin hsz hW hl Q hQ
  generalize hAe : va_A [(md, .inr (8, [.int (nI th), .int (nI tp), .ref (ad 2), .int (nM pl), .ref (ad 4), .ref (ad 5), .ref (ad 6), .ref (ad 7), .ref (ad 8), .ref (ad 9), .int (nI si), .ref (ad 11), .int (nI at1), .int (nM wr), .int (nI dp), .int (nI pa), .ref (ad 16), .ref (ad 17), .ref (ad 18), .int (nI le), .ref (ad 20), .ref (ad 21), .ref (ad 22), .ref (ad 23), .ref (ad 24), .ref (ad 25), .ref (ad 26), .ref (ad 27), .ref (ad 28), .ref (ad 29), .ref (ad 30)])), (ad 16, .inl (k 2, 400, .inl (aN PE))), (ad 17, .inl (k 0, 400, .inl (aN PF))), (ad 18, .inl (k 0, 400, .inl (aN PL)))] sz = A at hW hQ
  generalize hH0 : s.heap = H at hW ⊢
  generalize hl0 : ([] : List Loc) = locs at hW ⊢
  have hX : FX p s m c [.ref md, .int (nI n), .int (nI kx)].toArray c_Md_either R_Md := hX
  have hl : lv_has ls 3 [(0, .ref md), (1, .int (nI n)), (2, .int (nI kx))] := hl
  have b1 := hPE n hn
  have b2 := hPE kx hk
  refine lv_iload_n hX.1 hX.2.1 d_Md_either_0 rfl (lv_at hl 1 rfl) ?_
  refine kgeN hX (tgt := 8) (by omega) d_Md_either_1 (by decide) ?_
  refine lv_aload_n hX.1 hX.2.1 d_Md_either_8 rfl (lv_at hl 0 rfl) ?_
  refine lv_aload_n hX.1 hX.2.1 d_Md_either_9 rfl (lv_at hl 0 rfl) ?_
  refine kget hX hW i_Md 0 rfl rfl 16 (by decide) f_Md_39 rfl rfl d_Md_either_10 ?_
  refine lv_iload_n hX.1 hX.2.1 d_Md_either_13 rfl (lv_at hl 1 rfl) ?_
  refine kzald hX hW 1 rfl (by omega) (by first | decide | omega) d_Md_either_14 ?_
  have k32 : ∀ (v : Nat), v = (pe PE n || pe PE kx).toNat → W p l e ({ frames := 1, cells := 0, slots := 0, locals := 23 } : Room) s m [.ref md, .int (nI n), .int (nI kx)].toArray below meth c H locs 0 0 Q (F0 m 32 ls [.int (nI v), .ref md]) := by
    intro v hv
    subst hv
    refine lv_aload_n hX.1 hX.2.1 d_Md_either_32 rfl (lv_at hl 0 rfl) ?_
    refine kget hX hW i_Md 0 rfl rfl 17 (by decide) f_Md_42 rfl rfl d_Md_either_33 ?_
    refine lv_iload_n hX.1 hX.2.1 d_Md_either_36 rfl (lv_at hl 1 rfl) ?_
    refine kiald hX hW 2 rfl (by omega) (by first | decide | omega) d_Md_either_37 ?_
    refine lv_aload_n hX.1 hX.2.1 d_Md_either_38 rfl (lv_at hl 0 rfl) ?_
    refine kget hX hW i_Md 0 rfl rfl 17 (by decide) f_Md_42 rfl rfl d_Md_either_39 ?_
    refine lv_iload_n hX.1 hX.2.1 d_Md_either_42 rfl (lv_at hl 2 rfl) ?_
    refine kiald hX hW 2 rfl (by omega) (by first | decide | omega) d_Md_either_43 ?_
    refine lv_ior hX.1 hX.2.1 d_Md_either_44 ?_
    refine tpi (y := nI (PF n ||| PF kx)) (kn_or _ _) ?_
    refine lv_aload_n hX.1 hX.2.1 d_Md_either_45 rfl (lv_at hl 0 rfl) ?_
    refine kget hX hW i_Md 0 rfl rfl 18 (by decide) f_Md_45 rfl rfl d_Md_either_46 ?_
    refine lv_iload_n hX.1 hX.2.1 d_Md_either_49 rfl (lv_at hl 1 rfl) ?_
    refine kiald hX hW 3 rfl (by omega) (by first | decide | omega) d_Md_either_50 ?_
    refine lv_aload_n hX.1 hX.2.1 d_Md_either_51 rfl (lv_at hl 0 rfl) ?_
    refine kget hX hW i_Md 0 rfl rfl 18 (by decide) f_Md_45 rfl rfl d_Md_either_52 ?_
    refine lv_iload_n hX.1 hX.2.1 d_Md_either_55 rfl (lv_at hl 2 rfl) ?_
    refine kiald hX hW 3 rfl (by omega) (by first | decide | omega) d_Md_either_56 ?_
    refine lv_ior hX.1 hX.2.1 d_Md_either_57 ?_
    refine tpi (y := nI (PL n ||| PL kx)) (kn_or _ _) ?_
    refine kCi (wc := [(md, .inr (8, [.int (nI th), .int (nI tp), .ref (ad 2), .int (nM pl), .ref (ad 4), .ref (ad 5), .ref (ad 6), .ref (ad 7), .ref (ad 8), .ref (ad 9), .int (nI si), .ref (ad 11), .int (nI at1), .int (nM wr), .int (nI dp), .int (nI pa), .ref (ad 16), .ref (ad 17), .ref (ad 18), .int (nI le), .ref (ad 20), .ref (ad 21), .ref (ad 22), .ref (ad 23), .ref (ad 24), .ref (ad 25), .ref (ad 26), .ref (ad 27), .ref (ad 28), .ref (ad 29), .ref (ad 30)])), (ad 16, .inl (k 2, 400, .inl (aN PE))), (ad 17, .inl (k 0, 400, .inl (aN PF))), (ad 18, .inl (k 0, 400, .inl (aN PL)))]) hW [0, 1, 2, 3] (by rfl) (by intro _; rfl) (kRunV (n := 3) (As := [.int (nI ((pe PE n || pe PE kx).toNat)), .int (nI (PF n ||| PF kx)), .int (nI (PL n ||| PL kx))]) (rest := []) hX hml hW (ok_Md_part l D k H.size md ad th tp pl si at1 wr dp pa le PE PF PL (pe PE n || pe PE kx) (PF n ||| PF kx) (PL n ||| PL kx) hpa) m_Md_107 im_Md_part se_Md_part in_Md cd_Md_part [0, 1, 2, 3] rfl rfl rfl rfl (by decide +kernel) ⟨rfl, rfl, Nat.le_of_ble_eq_true rfl, Nat.le_of_ble_eq_true rfl⟩ rfl hl.1 rfl (Nat.le_of_ble_eq_true rfl) d_Md_either_58 ⟨by first | exact Nat.zero_le _ | decide | omega | (dsimp only; omega), by first | exact Nat.zero_le _ | decide | omega | (dsimp only; omega)⟩) (fun r u H locs hr1 hW => ?_)
    have hW : KW D k A s [(md, .inr (8, [.int (nI th), .int (nI tp), .ref (ad 2), .int (nM pl), .ref (ad 4), .ref (ad 5), .ref (ad 6), .ref (ad 7), .ref (ad 8), .ref (ad 9), .int (nI si), .ref (ad 11), .int (nI at1), .int (nM wr), .int (nI dp), .int (nI (pa + 1)), .ref (ad 16), .ref (ad 17), .ref (ad 18), .int (nI le), .ref (ad 20), .ref (ad 21), .ref (ad 22), .ref (ad 23), .ref (ad 24), .ref (ad 25), .ref (ad 26), .ref (ad 27), .ref (ad 28), .ref (ad 29), .ref (ad 30)])), (ad 16, .inl (k 2, 400, .inl (aN (va_up PE pa (pe PE n || pe PE kx).toNat)))), (ad 17, .inl (k 0, 400, .inl (aN (va_up PF pa (PF n ||| PF kx))))), (ad 18, .inl (k 0, 400, .inl (aN (va_up PL pa (PL n ||| PL kx)))))] H locs := hW
    subst hr1
    exact kiret hX hr hlocks hQ () (hW) (rfl) d_Md_either_61
  refine knz hX (tgt := 27) (by omega) d_Md_either_15 (by decide) (fun h1 => ?_) (fun h1 => ?_)
  · refine lv_iconst (v := nI 1) hX.1 hX.2.1 d_Md_either_27 (by decide) ?_
    refine lv_goto (tgt := 32) hX.1 hX.2.1 d_Md_either_28 (by decide) ?_
    exact k32 _ (by rw [pe_1 h1]; rfl)
  · refine lv_aload_n hX.1 hX.2.1 d_Md_either_18 rfl (lv_at hl 0 rfl) ?_
    refine kget hX hW i_Md 0 rfl rfl 16 (by decide) f_Md_39 rfl rfl d_Md_either_19 ?_
    refine lv_iload_n hX.1 hX.2.1 d_Md_either_22 rfl (lv_at hl 2 rfl) ?_
    refine kzald hX hW 1 rfl (by omega) (by first | decide | omega) d_Md_either_23 ?_
    refine kz hX (tgt := 31) (by omega) d_Md_either_24 (by decide) (fun h2 => ?_) (fun h2 => ?_)
    · refine lv_iconst (v := nI 0) hX.1 hX.2.1 d_Md_either_31 (by decide) ?_
      exact k32 _ (by rw [pe_0 h1, pe_0 h2]; rfl)
    · refine lv_iconst (v := nI 1) hX.1 hX.2.1 d_Md_either_27 (by decide) ?_
      refine lv_goto (tgt := 32) hX.1 hX.2.1 d_Md_either_28 (by decide) ?_
      exact k32 _ (by rw [pe_0 h1, pe_1 h2]; rfl)
set_option maxHeartbeats 4000000 in
set_option maxRecDepth 100000 in
/-- behind(-1, k) -/
theorem ok_Md_behind0 (l : Launch) (D : va_G) (k : Nat → ClassId) (sz : Nat) (md : Nat) (ad : Nat → Nat) (th tp pl si at1 wr dp pa le : Nat) (PE PF PL NF : Nat → Nat) (kx : Nat) : Met l y_Md_behind (.code y_Md_behind c_Md_behind 3 (some .int) :: wsU) ({ frames := 1, cells := 0, slots := 0, locals := 23 } : Room) (kPre D k [.ref md, .int (nM 0), .int (nI kx)] [(md, .inr (8, [.int (nI th), .int (nI tp), .ref (ad 2), .int (nM pl), .ref (ad 4), .ref (ad 5), .ref (ad 6), .ref (ad 7), .ref (ad 8), .ref (ad 9), .int (nI si), .ref (ad 11), .int (nI at1), .int (nM wr), .int (nI dp), .int (nI pa), .ref (ad 16), .ref (ad 17), .ref (ad 18), .int (nI le), .ref (ad 20), .ref (ad 21), .ref (ad 22), .ref (ad 23), .ref (ad 24), .ref (ad 25), .ref (ad 26), .ref (ad 27), .ref (ad 28), .ref (ad 29), .ref (ad 30)])), (ad 16, .inl (k 2, 400, .inl (aN PE))), (ad 17, .inl (k 0, 400, .inl (aN PF))), (ad 18, .inl (k 0, 400, .inl (aN PL))), (ad 21, .inl (k 0, 8, .inl (aN NF)))] sz) (va_Qi (fun (r : Int32) (_ : Unit) => r = nI kx) (kB D k (fun _ : Unit => [(md, .inr (8, [.int (nI th), .int (nI tp), .ref (ad 2), .int (nM pl), .ref (ad 4), .ref (ad 5), .ref (ad 6), .ref (ad 7), .ref (ad 8), .ref (ad 9), .int (nI si), .ref (ad 11), .int (nI at1), .int (nM wr), .int (nI dp), .int (nI pa), .ref (ad 16), .ref (ad 17), .ref (ad 18), .int (nI le), .ref (ad 20), .ref (ad 21), .ref (ad 22), .ref (ad 23), .ref (ad 24), .ref (ad 25), .ref (ad 26), .ref (ad 27), .ref (ad 28), .ref (ad 29), .ref (ad 30)])), (ad 16, .inl (k 2, 400, .inl (aN PE))), (ad 17, .inl (k 0, 400, .inl (aN PF))), (ad 18, .inl (k 0, 400, .inl (aN PL))), (ad 21, .inl (k 0, 8, .inl (aN NF)))]) (va_A [(md, .inr (8, [.int (nI th), .int (nI tp), .ref (ad 2), .int (nM pl), .ref (ad 4), .ref (ad 5), .ref (ad 6), .ref (ad 7), .ref (ad 8), .ref (ad 9), .int (nI si), .ref (ad 11), .int (nI at1), .int (nM wr), .int (nI dp), .int (nI pa), .ref (ad 16), .ref (ad 17), .ref (ad 18), .int (nI le), .ref (ad 20), .ref (ad 21), .ref (ad 22), .ref (ad 23), .ref (ad 24), .ref (ad 25), .ref (ad 26), .ref (ad 27), .ref (ad 28), .ref (ad 29), .ref (ad 30)])), (ad 16, .inl (k 2, 400, .inl (aN PE))), (ad 17, .inl (k 0, 400, .inl (aN PF))), (ad 18, .inl (k 0, 400, .inl (aN PL))), (ad 21, .inl (k 0, 8, .inl (aN NF)))] sz)) (va_A [(md, .inr (8, [.int (nI th), .int (nI tp), .ref (ad 2), .int (nM pl), .ref (ad 4), .ref (ad 5), .ref (ad 6), .ref (ad 7), .ref (ad 8), .ref (ad 9), .int (nI si), .ref (ad 11), .int (nI at1), .int (nM wr), .int (nI dp), .int (nI pa), .ref (ad 16), .ref (ad 17), .ref (ad 18), .int (nI le), .ref (ad 20), .ref (ad 21), .ref (ad 22), .ref (ad 23), .ref (ad 24), .ref (ad 25), .ref (ad 26), .ref (ad 27), .ref (ad 28), .ref (ad 29), .ref (ad 30)])), (ad 16, .inl (k 2, 400, .inl (aN PE))), (ad 17, .inl (k 0, 400, .inl (aN PF))), (ad 18, .inl (k 0, 400, .inl (aN PL))), (ad 21, .inl (k 0, 8, .inl (aN NF)))] sz)) 0 0 (va_A [(md, .inr (8, [.int (nI th), .int (nI tp), .ref (ad 2), .int (nM pl), .ref (ad 4), .ref (ad 5), .ref (ad 6), .ref (ad 7), .ref (ad 8), .ref (ad 9), .int (nI si), .ref (ad 11), .int (nI at1), .int (nM wr), .int (nI dp), .int (nI pa), .ref (ad 16), .ref (ad 17), .ref (ad 18), .int (nI le), .ref (ad 20), .ref (ad 21), .ref (ad 22), .ref (ad 23), .ref (ad 24), .ref (ad 25), .ref (ad 26), .ref (ad 27), .ref (ad 28), .ref (ad 29), .ref (ad 30)])), (ad 16, .inl (k 2, 400, .inl (aN PE))), (ad 17, .inl (k 0, 400, .inl (aN PF))), (ad 18, .inl (k 0, 400, .inl (aN PL))), (ad 21, .inl (k 0, 8, .inl (aN NF)))] sz) := by
  refine kMet (by decide) (Nat.le_of_ble_eq_true rfl) ?_
  intro p e s m below meth c ls hX hml hr hlocks hin hsz hW hl Q hQ
  generalize hAe : va_A [(md, .inr (8, [.int (nI th), .int (nI tp), .ref (ad 2), .int (nM pl), .ref (ad 4), .ref (ad 5), .ref (ad 6), .ref (ad 7), .ref (ad 8), .ref (ad 9), .int (nI si), .ref (ad 11), .int (nI at1), .int (nM wr), .int (nI dp), .int (nI pa), .ref (ad 16), .ref (ad 17), .ref (ad 18), .int (nI le), .ref (ad 20), .ref (ad 21), .ref (ad 22), .ref (ad 23), .ref (ad 24), .ref (ad 25), .ref (ad 26), .ref (ad 27), .ref (ad 28), .ref (ad 29), .ref (ad 30)])), (ad 16, .inl (k 2, 400, .inl (aN PE))), (ad 17, .inl (k 0, 400, .inl (aN PF))), (ad 18, .inl (k 0, 400, .inl (aN PL))), (ad 21, .inl (k 0, 8, .inl (aN NF)))] sz = A at hW hQ
  generalize hH0 : s.heap = H at hW ⊢
  generalize hl0 : ([] : List Loc) = locs at hW ⊢
  have hX : FX p s m c [.ref md, .int (nM 0), .int (nI kx)].toArray c_Md_behind R_Md := hX
  have hl : lv_has ls 3 [(0, .ref md), (1, .int (nM 0)), (2, .int (nI kx))] := hl
  refine lv_iload_n hX.1 hX.2.1 d_Md_behind_0 rfl (lv_at hl 1 rfl) ?_
  refine kgeM hX (tgt := 6) (by decide) d_Md_behind_1 (by decide) (fun h1 => ?_) (fun h1 => ?_)
  · omega
  · refine lv_iload_n hX.1 hX.2.1 d_Md_behind_4 rfl (lv_at hl 2 rfl) ?_
    exact kiret hX hr hlocks hQ () (hW) (rfl) d_Md_behind_5
set_option maxHeartbeats 4000000 in
set_option maxRecDepth 100000 in
/-- behind(n, k) -/
theorem ok_Md_behind1 (l : Launch) (D : va_G) (k : Nat → ClassId) (sz : Nat) (md : Nat) (ad : Nat → Nat) (th tp pl si at1 wr dp pa le : Nat) (PE PF PL NF : Nat → Nat) (n kx : Nat) (hpa : pa < 400) (hn : n < pa) (hk : kx < pa) (hPE : ∀ j, j < pa → PE j ≤ 1) (hla : PL n < 512) : Met l y_Md_behind (.code y_Md_behind c_Md_behind 3 (some .int) :: wsU) ({ frames := 1, cells := 0, slots := 0, locals := 23 } : Room) (kPre D k [.ref md, .int (nI n), .int (nI kx)] [(md, .inr (8, [.int (nI th), .int (nI tp), .ref (ad 2), .int (nM pl), .ref (ad 4), .ref (ad 5), .ref (ad 6), .ref (ad 7), .ref (ad 8), .ref (ad 9), .int (nI si), .ref (ad 11), .int (nI at1), .int (nM wr), .int (nI dp), .int (nI pa), .ref (ad 16), .ref (ad 17), .ref (ad 18), .int (nI le), .ref (ad 20), .ref (ad 21), .ref (ad 22), .ref (ad 23), .ref (ad 24), .ref (ad 25), .ref (ad 26), .ref (ad 27), .ref (ad 28), .ref (ad 29), .ref (ad 30)])), (ad 16, .inl (k 2, 400, .inl (aN PE))), (ad 17, .inl (k 0, 400, .inl (aN PF))), (ad 18, .inl (k 0, 400, .inl (aN PL))), (ad 21, .inl (k 0, 8, .inl (aN NF)))] sz) (va_Qi (fun (r : Int32) (_ : Unit) => r = nI pa) (kB D k (fun _ : Unit => [(md, .inr (8, [.int (nI th), .int (nI tp), .ref (ad 2), .int (nM pl), .ref (ad 4), .ref (ad 5), .ref (ad 6), .ref (ad 7), .ref (ad 8), .ref (ad 9), .int (nI si), .ref (ad 11), .int (nI at1), .int (nM wr), .int (nI dp), .int (nI (pa + 1)), .ref (ad 16), .ref (ad 17), .ref (ad 18), .int (nI le), .ref (ad 20), .ref (ad 21), .ref (ad 22), .ref (ad 23), .ref (ad 24), .ref (ad 25), .ref (ad 26), .ref (ad 27), .ref (ad 28), .ref (ad 29), .ref (ad 30)])), (ad 16, .inl (k 2, 400, .inl (aN (va_up PE pa (pe PE n && pe PE kx).toNat)))), (ad 17, .inl (k 0, 400, .inl (aN (va_up PF pa (PF n ||| (if pe PE n then PF kx else 0)))))), (ad 18, .inl (k 0, 400, .inl (aN (va_up PL pa (PL kx ||| (if pe PE kx then PL n else 0)))))), (ad 21, .inl (k 0, 8, .inl (aN (fol NF (PL n) (PF kx) 8))))]) (va_A [(md, .inr (8, [.int (nI th), .int (nI tp), .ref (ad 2), .int (nM pl), .ref (ad 4), .ref (ad 5), .ref (ad 6), .ref (ad 7), .ref (ad 8), .ref (ad 9), .int (nI si), .ref (ad 11), .int (nI at1), .int (nM wr), .int (nI dp), .int (nI pa), .ref (ad 16), .ref (ad 17), .ref (ad 18), .int (nI le), .ref (ad 20), .ref (ad 21), .ref (ad 22), .ref (ad 23), .ref (ad 24), .ref (ad 25), .ref (ad 26), .ref (ad 27), .ref (ad 28), .ref (ad 29), .ref (ad 30)])), (ad 16, .inl (k 2, 400, .inl (aN PE))), (ad 17, .inl (k 0, 400, .inl (aN PF))), (ad 18, .inl (k 0, 400, .inl (aN PL))), (ad 21, .inl (k 0, 8, .inl (aN NF)))] sz)) (va_A [(md, .inr (8, [.int (nI th), .int (nI tp), .ref (ad 2), .int (nM pl), .ref (ad 4), .ref (ad 5), .ref (ad 6), .ref (ad 7), .ref (ad 8), .ref (ad 9), .int (nI si), .ref (ad 11), .int (nI at1), .int (nM wr), .int (nI dp), .int (nI pa), .ref (ad 16), .ref (ad 17), .ref (ad 18), .int (nI le), .ref (ad 20), .ref (ad 21), .ref (ad 22), .ref (ad 23), .ref (ad 24), .ref (ad 25), .ref (ad 26), .ref (ad 27), .ref (ad 28), .ref (ad 29), .ref (ad 30)])), (ad 16, .inl (k 2, 400, .inl (aN PE))), (ad 17, .inl (k 0, 400, .inl (aN PF))), (ad 18, .inl (k 0, 400, .inl (aN PL))), (ad 21, .inl (k 0, 8, .inl (aN NF)))] sz)) 0 0 (va_A [(md, .inr (8, [.int (nI th), .int (nI tp), .ref (ad 2), .int (nM pl), .ref (ad 4), .ref (ad 5), .ref (ad 6), .ref (ad 7), .ref (ad 8), .ref (ad 9), .int (nI si), .ref (ad 11), .int (nI at1), .int (nM wr), .int (nI dp), .int (nI pa), .ref (ad 16), .ref (ad 17), .ref (ad 18), .int (nI le), .ref (ad 20), .ref (ad 21), .ref (ad 22), .ref (ad 23), .ref (ad 24), .ref (ad 25), .ref (ad 26), .ref (ad 27), .ref (ad 28), .ref (ad 29), .ref (ad 30)])), (ad 16, .inl (k 2, 400, .inl (aN PE))), (ad 17, .inl (k 0, 400, .inl (aN PF))), (ad 18, .inl (k 0, 400, .inl (aN PL))), (ad 21, .inl (k 0, 8, .inl (aN NF)))] sz) := by
  refine kMet (by decide) (Nat.le_of_ble_eq_true rfl) ?_
  intro p e s m below meth c ls hX hml hr hlocks hin hsz hW hl Q hQ
  generalize hAe : va_A [(md, .inr (8, [.int (nI th), .int (nI tp), .ref (ad 2), .int (nM pl), .ref (ad 4), .ref (ad 5), .ref (ad 6), .ref (ad 7), .ref (ad 8), .ref (ad 9), .int (nI si), .ref (ad 11), .int (nI at1), .int (nM wr), .int (nI dp), .int (nI pa), .ref (ad 16), .ref (ad 17), .ref (ad 18), .int (nI le), .ref (ad 20), .ref (ad 21), .ref (ad 22), .ref (ad 23), .ref (ad 24), .ref (ad 25), .ref (ad 26), .ref (ad 27), .ref (ad 28), .ref (ad 29), .ref (ad 30)])), (ad 16, .inl (k 2, 400, .inl (aN PE))), (ad 17, .inl (k 0, 400, .inl (aN PF))), (ad 18, .inl (k 0, 400, .inl (aN PL))), (ad 21, .inl (k 0, 8, .inl (aN NF)))] sz = A at hW hQ
  generalize hH0 : s.heap = H at hW ⊢
  generalize hl0 : ([] : List Loc) = locs at hW ⊢
  have hX : FX p s m c [.ref md, .int (nI n), .int (nI kx)].toArray c_Md_behind R_Md := hX
  have hl : lv_has ls 3 [(0, .ref md), (1, .int (nI n)), (2, .int (nI kx))] := hl
  have b1 := hPE n hn
  have b2 := hPE kx hk
  refine lv_iload_n hX.1 hX.2.1 d_Md_behind_0 rfl (lv_at hl 1 rfl) ?_
  refine kgeN hX (tgt := 6) (by omega) d_Md_behind_1 (by decide) ?_
  refine lv_aload_n hX.1 hX.2.1 d_Md_behind_6 rfl (lv_at hl 0 rfl) ?_
  refine lv_aload_n hX.1 hX.2.1 d_Md_behind_7 rfl (lv_at hl 0 rfl) ?_
  refine kget hX hW i_Md 0 rfl rfl 18 (by decide) f_Md_45 rfl rfl d_Md_behind_8 ?_
  refine lv_iload_n hX.1 hX.2.1 d_Md_behind_11 rfl (lv_at hl 1 rfl) ?_
  refine kiald hX hW 3 rfl (by omega) (by first | decide | omega) d_Md_behind_12 ?_
  refine lv_aload_n hX.1 hX.2.1 d_Md_behind_13 rfl (lv_at hl 0 rfl) ?_
  refine kget hX hW i_Md 0 rfl rfl 17 (by decide) f_Md_42 rfl rfl d_Md_behind_14 ?_
  refine lv_iload_n hX.1 hX.2.1 d_Md_behind_17 rfl (lv_at hl 2 rfl) ?_
  refine kiald hX hW 2 rfl (by omega) (by first | decide | omega) d_Md_behind_18 ?_
  refine kCv (wc := [(md, .inr (8, [.int (nI th), .int (nI tp), .ref (ad 2), .int (nM pl), .ref (ad 4), .ref (ad 5), .ref (ad 6), .ref (ad 7), .ref (ad 8), .ref (ad 9), .int (nI si), .ref (ad 11), .int (nI at1), .int (nM wr), .int (nI dp), .int (nI pa), .ref (ad 16), .ref (ad 17), .ref (ad 18), .int (nI le), .ref (ad 20), .ref (ad 21), .ref (ad 22), .ref (ad 23), .ref (ad 24), .ref (ad 25), .ref (ad 26), .ref (ad 27), .ref (ad 28), .ref (ad 29), .ref (ad 30)])), (ad 21, .inl (k 0, 8, .inl (aN NF)))]) hW [0, 4] (by rfl) (by intro _; rfl) (kRunV (n := 2) (As := [.int (nI (PL n)), .int (nI (PF kx))]) (rest := []) hX hml hW (ok_Md_follows l D k H.size md ad th tp pl si at1 wr dp pa le NF (PL n) (PF kx) hla) m_Md_114 im_Md_follows se_Md_follows in_Md cd_Md_follows [0, 4] rfl rfl rfl rfl (by decide +kernel) ⟨rfl, rfl, Nat.le_of_ble_eq_true rfl, Nat.le_of_ble_eq_true rfl⟩ rfl hl.1 rfl (Nat.le_of_ble_eq_true rfl) d_Md_behind_19 ⟨by first | exact Nat.zero_le _ | decide | omega | (dsimp only; omega), by first | exact Nat.zero_le _ | decide | omega | (dsimp only; omega)⟩) (fun u H locs _ hW => ?_)
  have hW : KW D k A s [(md, .inr (8, [.int (nI th), .int (nI tp), .ref (ad 2), .int (nM pl), .ref (ad 4), .ref (ad 5), .ref (ad 6), .ref (ad 7), .ref (ad 8), .ref (ad 9), .int (nI si), .ref (ad 11), .int (nI at1), .int (nM wr), .int (nI dp), .int (nI pa), .ref (ad 16), .ref (ad 17), .ref (ad 18), .int (nI le), .ref (ad 20), .ref (ad 21), .ref (ad 22), .ref (ad 23), .ref (ad 24), .ref (ad 25), .ref (ad 26), .ref (ad 27), .ref (ad 28), .ref (ad 29), .ref (ad 30)])), (ad 16, .inl (k 2, 400, .inl (aN PE))), (ad 17, .inl (k 0, 400, .inl (aN PF))), (ad 18, .inl (k 0, 400, .inl (aN PL))), (ad 21, .inl (k 0, 8, .inl (aN (fol NF (PL n) (PF kx) 8))))] H locs := hW
  refine lv_aload_n hX.1 hX.2.1 d_Md_behind_22 rfl (lv_at hl 0 rfl) ?_
  refine lv_aload_n hX.1 hX.2.1 d_Md_behind_23 rfl (lv_at hl 0 rfl) ?_
  refine kget hX hW i_Md 0 rfl rfl 16 (by decide) f_Md_39 rfl rfl d_Md_behind_24 ?_
  refine lv_iload_n hX.1 hX.2.1 d_Md_behind_27 rfl (lv_at hl 1 rfl) ?_
  refine kzald hX hW 1 rfl (by omega) (by first | decide | omega) d_Md_behind_28 ?_
  have k46 : ∀ (v : Nat), v = (pe PE n && pe PE kx).toNat → W p l e ({ frames := 1, cells := 0, slots := 0, locals := 23 } : Room) s m [.ref md, .int (nI n), .int (nI kx)].toArray below meth c H locs 0 0 Q (F0 m 46 ls [.int (nI v), .ref md]) := by
    intro v hv
    subst hv
    refine lv_aload_n hX.1 hX.2.1 d_Md_behind_46 rfl (lv_at hl 0 rfl) ?_
    refine kget hX hW i_Md 0 rfl rfl 17 (by decide) f_Md_42 rfl rfl d_Md_behind_47 ?_
    refine lv_iload_n hX.1 hX.2.1 d_Md_behind_50 rfl (lv_at hl 1 rfl) ?_
    refine kiald hX hW 2 rfl (by omega) (by first | decide | omega) d_Md_behind_51 ?_
    refine lv_aload_n hX.1 hX.2.1 d_Md_behind_52 rfl (lv_at hl 0 rfl) ?_
    refine kget hX hW i_Md 0 rfl rfl 16 (by decide) f_Md_39 rfl rfl d_Md_behind_53 ?_
    refine lv_iload_n hX.1 hX.2.1 d_Md_behind_56 rfl (lv_at hl 1 rfl) ?_
    refine kzald hX hW 1 rfl (by omega) (by first | decide | omega) d_Md_behind_57 ?_
    have k71 : ∀ (v : Nat), v = (if pe PE n then PF kx else 0) → W p l e ({ frames := 1, cells := 0, slots := 0, locals := 23 } : Room) s m [.ref md, .int (nI n), .int (nI kx)].toArray below meth c H locs 0 0 Q (F0 m 71 ls [.int (nI v), .int (nI (PF n)), .int (nI ((pe PE n && pe PE kx).toNat)), .ref md]) := by
      intro v hv
      refine lv_ior hX.1 hX.2.1 d_Md_behind_71 ?_
      refine tpi (y := nI (PF n ||| (if pe PE n then PF kx else 0))) (by rw [hv]; exact kn_or _ _) ?_
      refine lv_aload_n hX.1 hX.2.1 d_Md_behind_72 rfl (lv_at hl 0 rfl) ?_
      refine kget hX hW i_Md 0 rfl rfl 18 (by decide) f_Md_45 rfl rfl d_Md_behind_73 ?_
      refine lv_iload_n hX.1 hX.2.1 d_Md_behind_76 rfl (lv_at hl 2 rfl) ?_
      refine kiald hX hW 3 rfl (by omega) (by first | decide | omega) d_Md_behind_77 ?_
      refine lv_aload_n hX.1 hX.2.1 d_Md_behind_78 rfl (lv_at hl 0 rfl) ?_
      refine kget hX hW i_Md 0 rfl rfl 16 (by decide) f_Md_39 rfl rfl d_Md_behind_79 ?_
      refine lv_iload_n hX.1 hX.2.1 d_Md_behind_82 rfl (lv_at hl 2 rfl) ?_
      refine kzald hX hW 1 rfl (by omega) (by first | decide | omega) d_Md_behind_83 ?_
      have k97 : ∀ (x9 : Nat), x9 = (if pe PE kx then PL n else 0) → W p l e ({ frames := 1, cells := 0, slots := 0, locals := 23 } : Room) s m [.ref md, .int (nI n), .int (nI kx)].toArray below meth c H locs 0 0 Q (F0 m 97 ls [.int (nI x9), .int (nI (PL kx)), .int (nI (PF n ||| (if pe PE n then PF kx else 0))), .int (nI ((pe PE n && pe PE kx).toNat)), .ref md]) := by
        intro x9 hw
        refine lv_ior hX.1 hX.2.1 d_Md_behind_97 ?_
        refine tpi (y := nI (PL kx ||| (if pe PE kx then PL n else 0))) (by rw [hw]; exact kn_or _ _) ?_
        refine kCi (wc := [(md, .inr (8, [.int (nI th), .int (nI tp), .ref (ad 2), .int (nM pl), .ref (ad 4), .ref (ad 5), .ref (ad 6), .ref (ad 7), .ref (ad 8), .ref (ad 9), .int (nI si), .ref (ad 11), .int (nI at1), .int (nM wr), .int (nI dp), .int (nI pa), .ref (ad 16), .ref (ad 17), .ref (ad 18), .int (nI le), .ref (ad 20), .ref (ad 21), .ref (ad 22), .ref (ad 23), .ref (ad 24), .ref (ad 25), .ref (ad 26), .ref (ad 27), .ref (ad 28), .ref (ad 29), .ref (ad 30)])), (ad 16, .inl (k 2, 400, .inl (aN PE))), (ad 17, .inl (k 0, 400, .inl (aN PF))), (ad 18, .inl (k 0, 400, .inl (aN PL)))]) hW [0, 1, 2, 3] (by rfl) (by intro _; rfl) (kRunV (n := 3) (As := [.int (nI ((pe PE n && pe PE kx).toNat)), .int (nI (PF n ||| (if pe PE n then PF kx else 0))), .int (nI (PL kx ||| (if pe PE kx then PL n else 0)))]) (rest := []) hX hml hW (ok_Md_part l D k H.size md ad th tp pl si at1 wr dp pa le PE PF PL (pe PE n && pe PE kx) (PF n ||| (if pe PE n then PF kx else 0)) (PL kx ||| (if pe PE kx then PL n else 0)) hpa) m_Md_107 im_Md_part se_Md_part in_Md cd_Md_part [0, 1, 2, 3] rfl rfl rfl rfl (by decide +kernel) ⟨rfl, rfl, Nat.le_of_ble_eq_true rfl, Nat.le_of_ble_eq_true rfl⟩ rfl hl.1 rfl (Nat.le_of_ble_eq_true rfl) d_Md_behind_98 ⟨by first | exact Nat.zero_le _ | decide | omega | (dsimp only; omega), by first | exact Nat.zero_le _ | decide | omega | (dsimp only; omega)⟩) (fun r u H locs hr1 hW => ?_)
        have hW : KW D k A s [(md, .inr (8, [.int (nI th), .int (nI tp), .ref (ad 2), .int (nM pl), .ref (ad 4), .ref (ad 5), .ref (ad 6), .ref (ad 7), .ref (ad 8), .ref (ad 9), .int (nI si), .ref (ad 11), .int (nI at1), .int (nM wr), .int (nI dp), .int (nI (pa + 1)), .ref (ad 16), .ref (ad 17), .ref (ad 18), .int (nI le), .ref (ad 20), .ref (ad 21), .ref (ad 22), .ref (ad 23), .ref (ad 24), .ref (ad 25), .ref (ad 26), .ref (ad 27), .ref (ad 28), .ref (ad 29), .ref (ad 30)])), (ad 16, .inl (k 2, 400, .inl (aN (va_up PE pa (pe PE n && pe PE kx).toNat)))), (ad 17, .inl (k 0, 400, .inl (aN (va_up PF pa (PF n ||| (if pe PE n then PF kx else 0)))))), (ad 18, .inl (k 0, 400, .inl (aN (va_up PL pa (PL kx ||| (if pe PE kx then PL n else 0)))))), (ad 21, .inl (k 0, 8, .inl (aN (fol NF (PL n) (PF kx) 8))))] H locs := hW
        subst hr1
        exact kiret hX hr hlocks hQ () (hW) (rfl) d_Md_behind_101
      refine kz hX (tgt := 96) (by omega) d_Md_behind_84 (by decide) (fun h1 => ?_) (fun h1 => ?_)
      · refine lv_iconst (v := nI 0) hX.1 hX.2.1 d_Md_behind_96 (by decide) ?_
        exact k97 _ (by rw [pe_0 h1]; rfl)
      · refine lv_aload_n hX.1 hX.2.1 d_Md_behind_87 rfl (lv_at hl 0 rfl) ?_
        refine kget hX hW i_Md 0 rfl rfl 18 (by decide) f_Md_45 rfl rfl d_Md_behind_88 ?_
        refine lv_iload_n hX.1 hX.2.1 d_Md_behind_91 rfl (lv_at hl 1 rfl) ?_
        refine kiald hX hW 3 rfl (by omega) (by first | decide | omega) d_Md_behind_92 ?_
        refine lv_goto (tgt := 97) hX.1 hX.2.1 d_Md_behind_93 (by decide) ?_
        exact k97 _ (by rw [pe_1 h1]; rfl)
    refine kz hX (tgt := 70) (by omega) d_Md_behind_58 (by decide) (fun h1 => ?_) (fun h1 => ?_)
    · refine lv_iconst (v := nI 0) hX.1 hX.2.1 d_Md_behind_70 (by decide) ?_
      exact k71 _ (by rw [pe_0 h1]; rfl)
    · refine lv_aload_n hX.1 hX.2.1 d_Md_behind_61 rfl (lv_at hl 0 rfl) ?_
      refine kget hX hW i_Md 0 rfl rfl 17 (by decide) f_Md_42 rfl rfl d_Md_behind_62 ?_
      refine lv_iload_n hX.1 hX.2.1 d_Md_behind_65 rfl (lv_at hl 2 rfl) ?_
      refine kiald hX hW 2 rfl (by omega) (by first | decide | omega) d_Md_behind_66 ?_
      refine lv_goto (tgt := 71) hX.1 hX.2.1 d_Md_behind_67 (by decide) ?_
      exact k71 _ (by rw [pe_1 h1]; rfl)
  refine kz hX (tgt := 45) (by omega) d_Md_behind_29 (by decide) (fun h1 => ?_) (fun h1 => ?_)
  · refine lv_iconst (v := nI 0) hX.1 hX.2.1 d_Md_behind_45 (by decide) ?_
    exact k46 _ (by rw [pe_0 h1]; rfl)
  · refine lv_aload_n hX.1 hX.2.1 d_Md_behind_32 rfl (lv_at hl 0 rfl) ?_
    refine kget hX hW i_Md 0 rfl rfl 16 (by decide) f_Md_39 rfl rfl d_Md_behind_33 ?_
    refine lv_iload_n hX.1 hX.2.1 d_Md_behind_36 rfl (lv_at hl 2 rfl) ?_
    refine kzald hX hW 1 rfl (by omega) (by first | decide | omega) d_Md_behind_37 ?_
    refine kz hX (tgt := 45) (by omega) d_Md_behind_38 (by decide) (fun h2 => ?_) (fun h2 => ?_)
    · refine lv_iconst (v := nI 0) hX.1 hX.2.1 d_Md_behind_45 (by decide) ?_
      exact k46 _ (by rw [pe_0 h2]; simp)
    · refine lv_iconst (v := nI 1) hX.1 hX.2.1 d_Md_behind_41 (by decide) ?_
      refine lv_goto (tgt := 46) hX.1 hX.2.1 d_Md_behind_42 (by decide) ?_
      exact k46 _ (by rw [pe_1 h1, pe_1 h2]; rfl)
