/-! THE REFERENCE: turn -/
theorem isl_n {j : Nat} (h : j < 4) : isl (nI j) = true := decide_eq_true ⟨nI_le (Nat.zero_le _) (by omega), nI_le (by omega) (by decide)⟩
/-- the letters of b .. b + n - 1 go to the first n places -/
def cpn (F G : Nat → Nat) (b : Nat) : Nat → Nat → Nat
  | 0 => G
  | j + 1 => va_up (cpn F G b j) j (F (b + j))
/-- and back -/
def cpb (F G : Nat → Nat) (b : Nat) : Nat → Nat → Nat
  | 0 => G
  | j + 1 => va_up (cpb F G b j) (b + j) (F j)
def tin (FL C : Nat → Nat) (b kk : Nat) : Nat → Nat → Nat
  | 0 => va_up C kk 0
  | i + 1 => if (FL (b + i)).testBit kk then va_up (tin FL C b kk i) kk (tin FL C b kk i kk ||| 2 ^ i) else tin FL C b kk i
def tnf (FL NF : Nat → Nat) (b n : Nat) : Nat → Nat → Nat
  | 0 => NF
  | j + 1 => tin FL (tnf FL NF b n j) b j n
set_option maxHeartbeats 4000000 in
set_option maxRecDepth 100000 in
/-- turn(slot, to) -/
theorem ok_Md_turn (l : Launch) (D : va_G) (k : Nat → ClassId) (sz : Nat) (md : Nat) (ad : Nat → Nat) (th tp pl si at1 wr dp pa le : Nat) (MN LT FI LA FL EM NL NF : Nat → Nat) (sl to : Nat) (hsl : sl < 4) (hto : to < 4) (hmn : MN sl ≤ 8) (hfl : ∀ i, i < MN sl → FL (sl * 8 + i) < 256) (hem : EM sl ≤ 1) : Met l y_Md_turn (.code y_Md_turn c_Md_turn 9 none :: wsU) ({ frames := 2, cells := 0, slots := 0, locals := 42 } : Room) (kPre D k [.ref md, .int (nI sl), .int (nI to)] [(md, .inr (8, [.int (nI th), .int (nI tp), .ref (ad 2), .int (nM pl), .ref (ad 4), .ref (ad 5), .ref (ad 6), .ref (ad 7), .ref (ad 8), .ref (ad 9), .int (nI si), .ref (ad 11), .int (nI at1), .int (nM wr), .int (nI dp), .int (nI pa), .ref (ad 16), .ref (ad 17), .ref (ad 18), .int (nI le), .ref (ad 20), .ref (ad 21), .ref (ad 22), .ref (ad 23), .ref (ad 24), .ref (ad 25), .ref (ad 26), .ref (ad 27), .ref (ad 28), .ref (ad 29), .ref (ad 30)])), (ad 4, .inl (k 0, 4, .inl (aN MN))), (ad 5, .inl (k 0, 32, .inl (aN LT))), (ad 6, .inl (k 0, 4, .inl (aN FI))), (ad 7, .inl (k 0, 4, .inl (aN LA))), (ad 8, .inl (k 0, 32, .inl (aN FL))), (ad 9, .inl (k 2, 4, .inl (aN EM))), (ad 20, .inl (k 0, 8, .inl (aN NL))), (ad 21, .inl (k 0, 8, .inl (aN NF)))] sz) (va_Qv (fun (_ : Unit) => True) (kB D k (fun _ : Unit => [(md, .inr (8, [.int (nI 0), .int (nI tp), .ref (ad 2), .int (nM pl), .ref (ad 4), .ref (ad 5), .ref (ad 6), .ref (ad 7), .ref (ad 8), .ref (ad 9), .int (nI si), .ref (ad 11), .int (nI at1), .int (nM wr), .int (nI dp), .int (nI pa), .ref (ad 16), .ref (ad 17), .ref (ad 18), .int (nI le), .ref (ad 20), .ref (ad 21), .ref (ad 22), .ref (ad 23), .ref (ad 24), .ref (ad 25), .ref (ad 26), .ref (ad 27), .ref (ad 28), .ref (ad 29), .ref (ad 30)])), (ad 4, .inl (k 0, 4, .inl (aN (va_up MN to (MN sl))))), (ad 5, .inl (k 0, 32, .inl (aN (cpb (cpn LT NL (sl * 8) (MN sl)) LT (to * 8) (MN sl))))), (ad 6, .inl (k 0, 4, .inl (aN (va_up FI to (LA sl))))), (ad 7, .inl (k 0, 4, .inl (aN (va_up LA to (FI sl))))), (ad 8, .inl (k 0, 32, .inl (aN (cpb (tnf FL NF (sl * 8) (MN sl) (MN sl)) FL (to * 8) (MN sl))))), (ad 9, .inl (k 2, 4, .inl (aN (va_up EM to (EM sl))))), (ad 20, .inl (k 0, 8, .inl (aN (cpn LT NL (sl * 8) (MN sl))))), (ad 21, .inl (k 0, 8, .inl (aN (tnf FL NF (sl * 8) (MN sl) (MN sl)))))]) (va_A [(md, .inr (8, [.int (nI th), .int (nI tp), .ref (ad 2), .int (nM pl), .ref (ad 4), .ref (ad 5), .ref (ad 6), .ref (ad 7), .ref (ad 8), .ref (ad 9), .int (nI si), .ref (ad 11), .int (nI at1), .int (nM wr), .int (nI dp), .int (nI pa), .ref (ad 16), .ref (ad 17), .ref (ad 18), .int (nI le), .ref (ad 20), .ref (ad 21), .ref (ad 22), .ref (ad 23), .ref (ad 24), .ref (ad 25), .ref (ad 26), .ref (ad 27), .ref (ad 28), .ref (ad 29), .ref (ad 30)])), (ad 4, .inl (k 0, 4, .inl (aN MN))), (ad 5, .inl (k 0, 32, .inl (aN LT))), (ad 6, .inl (k 0, 4, .inl (aN FI))), (ad 7, .inl (k 0, 4, .inl (aN LA))), (ad 8, .inl (k 0, 32, .inl (aN FL))), (ad 9, .inl (k 2, 4, .inl (aN EM))), (ad 20, .inl (k 0, 8, .inl (aN NL))), (ad 21, .inl (k 0, 8, .inl (aN NF)))] sz)) (va_A [(md, .inr (8, [.int (nI th), .int (nI tp), .ref (ad 2), .int (nM pl), .ref (ad 4), .ref (ad 5), .ref (ad 6), .ref (ad 7), .ref (ad 8), .ref (ad 9), .int (nI si), .ref (ad 11), .int (nI at1), .int (nM wr), .int (nI dp), .int (nI pa), .ref (ad 16), .ref (ad 17), .ref (ad 18), .int (nI le), .ref (ad 20), .ref (ad 21), .ref (ad 22), .ref (ad 23), .ref (ad 24), .ref (ad 25), .ref (ad 26), .ref (ad 27), .ref (ad 28), .ref (ad 29), .ref (ad 30)])), (ad 4, .inl (k 0, 4, .inl (aN MN))), (ad 5, .inl (k 0, 32, .inl (aN LT))), (ad 6, .inl (k 0, 4, .inl (aN FI))), (ad 7, .inl (k 0, 4, .inl (aN LA))), (ad 8, .inl (k 0, 32, .inl (aN FL))), (ad 9, .inl (k 2, 4, .inl (aN EM))), (ad 20, .inl (k 0, 8, .inl (aN NL))), (ad 21, .inl (k 0, 8, .inl (aN NF)))] sz)) 0 0 (va_A [(md, .inr (8, [.int (nI th), .int (nI tp), .ref (ad 2), .int (nM pl), .ref (ad 4), .ref (ad 5), .ref (ad 6), .ref (ad 7), .ref (ad 8), .ref (ad 9), .int (nI si), .ref (ad 11), .int (nI at1), .int (nM wr), .int (nI dp), .int (nI pa), .ref (ad 16), .ref (ad 17), .ref (ad 18), .int (nI le), .ref (ad 20), .ref (ad 21), .ref (ad 22), .ref (ad 23), .ref (ad 24), .ref (ad 25), .ref (ad 26), .ref (ad 27), .ref (ad 28), .ref (ad 29), .ref (ad 30)])), (ad 4, .inl (k 0, 4, .inl (aN MN))), (ad 5, .inl (k 0, 32, .inl (aN LT))), (ad 6, .inl (k 0, 4, .inl (aN FI))), (ad 7, .inl (k 0, 4, .inl (aN LA))), (ad 8, .inl (k 0, 32, .inl (aN FL))), (ad 9, .inl (k 2, 4, .inl (aN EM))), (ad 20, .inl (k 0, 8, .inl (aN NL))), (ad 21, .inl (k 0, 8, .inl (aN NF)))] sz) := by
  refine kMet (by decide) (Nat.le_of_ble_eq_true rfl) ?_
  intro p e s m below meth c ls hX hml hr hlocks hin hsz hW hl Q hQ
  generalize hAe : va_A [(md, .inr (8, [.int (nI th), .int (nI tp), .ref (ad 2), .int (nM pl), .ref (ad 4), .ref (ad 5), .ref (ad 6), .ref (ad 7), .ref (ad 8), .ref (ad 9), .int (nI si), .ref (ad 11), .int (nI at1), .int (nM wr), .int (nI dp), .int (nI pa), .ref (ad 16), .ref (ad 17), .ref (ad 18), .int (nI le), .ref (ad 20), .ref (ad 21), .ref (ad 22), .ref (ad 23), .ref (ad 24), .ref (ad 25), .ref (ad 26), .ref (ad 27), .ref (ad 28), .ref (ad 29), .ref (ad 30)])), (ad 4, .inl (k 0, 4, .inl (aN MN))), (ad 5, .inl (k 0, 32, .inl (aN LT))), (ad 6, .inl (k 0, 4, .inl (aN FI))), (ad 7, .inl (k 0, 4, .inl (aN LA))), (ad 8, .inl (k 0, 32, .inl (aN FL))), (ad 9, .inl (k 2, 4, .inl (aN EM))), (ad 20, .inl (k 0, 8, .inl (aN NL))), (ad 21, .inl (k 0, 8, .inl (aN NF)))] sz = A at hW hQ
  generalize hH0 : s.heap = H at hW ⊢
  generalize hl0 : ([] : List Loc) = locs at hW ⊢
  have hX : FX p s m c [.ref md, .int (nI sl), .int (nI to)].toArray c_Md_turn R_Md := hX
  have hl : lv_has ls 9 [(0, .ref md), (1, .int (nI sl)), (2, .int (nI to))] := hl
  refine lv_aload_n hX.1 hX.2.1 d_Md_turn_0 rfl (lv_at hl 0 rfl) ?_
  refine lv_iload_n hX.1 hX.2.1 d_Md_turn_1 rfl (lv_at hl 1 rfl) ?_
  refine kCi (wc := []) hW [] (by rfl) (by intro _; rfl) (kRunS (n := 1) (As := [.int (nI sl)]) (rest := [.ref md]) hX hml hW (ok_Md_isSlot l D k H.size (nI sl)) m_Md_135 sm_Md_isSlot in_Md cd_Md_isSlot [] rfl rfl (by decide +kernel) ⟨rfl, rfl, Nat.le_of_ble_eq_true rfl, Nat.le_of_ble_eq_true rfl⟩ rfl hl.1 rfl (Nat.le_of_ble_eq_true rfl) d_Md_turn_2 ⟨by first | exact Nat.zero_le _ | decide | omega | (dsimp only; omega), by first | exact Nat.zero_le _ | decide | omega | (dsimp only; omega)⟩) (fun r u H locs hr9 hW => ?_)
  have hW : KW D k A s [(md, .inr (8, [.int (nI th), .int (nI tp), .ref (ad 2), .int (nM pl), .ref (ad 4), .ref (ad 5), .ref (ad 6), .ref (ad 7), .ref (ad 8), .ref (ad 9), .int (nI si), .ref (ad 11), .int (nI at1), .int (nM wr), .int (nI dp), .int (nI pa), .ref (ad 16), .ref (ad 17), .ref (ad 18), .int (nI le), .ref (ad 20), .ref (ad 21), .ref (ad 22), .ref (ad 23), .ref (ad 24), .ref (ad 25), .ref (ad 26), .ref (ad 27), .ref (ad 28), .ref (ad 29), .ref (ad 30)])), (ad 4, .inl (k 0, 4, .inl (aN MN))), (ad 5, .inl (k 0, 32, .inl (aN LT))), (ad 6, .inl (k 0, 4, .inl (aN FI))), (ad 7, .inl (k 0, 4, .inl (aN LA))), (ad 8, .inl (k 0, 32, .inl (aN FL))), (ad 9, .inl (k 2, 4, .inl (aN EM))), (ad 20, .inl (k 0, 8, .inl (aN NL))), (ad 21, .inl (k 0, 8, .inl (aN NF)))] H locs := hW
  rw [isl_n hsl] at hr9
  subst hr9
  refine kz hX (tgt := 19) (by decide) d_Md_turn_5 (by decide) (fun h1 => absurd h1 (by decide)) (fun _ => ?_)
  refine lv_iload_n hX.1 hX.2.1 d_Md_turn_8 rfl (lv_at hl 2 rfl) ?_
  refine kCi (wc := []) hW [] (by rfl) (by intro _; rfl) (kRunS (n := 1) (As := [.int (nI to)]) (rest := [.ref md]) hX hml hW (ok_Md_isSlot l D k H.size (nI to)) m_Md_135 sm_Md_isSlot in_Md cd_Md_isSlot [] rfl rfl (by decide +kernel) ⟨rfl, rfl, Nat.le_of_ble_eq_true rfl, Nat.le_of_ble_eq_true rfl⟩ rfl hl.1 rfl (Nat.le_of_ble_eq_true rfl) d_Md_turn_9 ⟨by first | exact Nat.zero_le _ | decide | omega | (dsimp only; omega), by first | exact Nat.zero_le _ | decide | omega | (dsimp only; omega)⟩) (fun r u H locs hr9 hW => ?_)
  have hW : KW D k A s [(md, .inr (8, [.int (nI th), .int (nI tp), .ref (ad 2), .int (nM pl), .ref (ad 4), .ref (ad 5), .ref (ad 6), .ref (ad 7), .ref (ad 8), .ref (ad 9), .int (nI si), .ref (ad 11), .int (nI at1), .int (nM wr), .int (nI dp), .int (nI pa), .ref (ad 16), .ref (ad 17), .ref (ad 18), .int (nI le), .ref (ad 20), .ref (ad 21), .ref (ad 22), .ref (ad 23), .ref (ad 24), .ref (ad 25), .ref (ad 26), .ref (ad 27), .ref (ad 28), .ref (ad 29), .ref (ad 30)])), (ad 4, .inl (k 0, 4, .inl (aN MN))), (ad 5, .inl (k 0, 32, .inl (aN LT))), (ad 6, .inl (k 0, 4, .inl (aN FI))), (ad 7, .inl (k 0, 4, .inl (aN LA))), (ad 8, .inl (k 0, 32, .inl (aN FL))), (ad 9, .inl (k 2, 4, .inl (aN EM))), (ad 20, .inl (k 0, 8, .inl (aN NL))), (ad 21, .inl (k 0, 8, .inl (aN NF)))] H locs := hW
  rw [isl_n hto] at hr9
  subst hr9
  refine kz hX (tgt := 19) (by decide) d_Md_turn_12 (by decide) (fun h1 => absurd h1 (by decide)) (fun _ => ?_)
  refine lv_iconst (v := nI 1) hX.1 hX.2.1 d_Md_turn_15 (by decide) ?_
  refine lv_goto (tgt := 20) hX.1 hX.2.1 d_Md_turn_16 (by decide) ?_
  show W p l e ({ frames := 2, cells := 0, slots := 0, locals := 42 } : Room) s m [.ref md, .int (nI sl), .int (nI to)].toArray below meth c H locs 0 0 Q (F0 m 20 ls [.int (nI true.toNat), .ref md])
  refine kCi (wc := [(md, .inr (8, [.int (nI th), .int (nI tp), .ref (ad 2), .int (nM pl), .ref (ad 4), .ref (ad 5), .ref (ad 6), .ref (ad 7), .ref (ad 8), .ref (ad 9), .int (nI si), .ref (ad 11), .int (nI at1), .int (nM wr), .int (nI dp), .int (nI pa), .ref (ad 16), .ref (ad 17), .ref (ad 18), .int (nI le), .ref (ad 20), .ref (ad 21), .ref (ad 22), .ref (ad 23), .ref (ad 24), .ref (ad 25), .ref (ad 26), .ref (ad 27), .ref (ad 28), .ref (ad 29), .ref (ad 30)]))]) hW [0] (by rfl) (by intro _; rfl) (kRunV (n := 1) (As := [.int (nI true.toNat)]) (rest := []) hX hml hW (ok_Md_says l D k H.size md ad th tp pl si at1 wr dp pa le true) m_Md_142 im_Md_says se_Md_says in_Md cd_Md_says [0] rfl rfl rfl rfl (by decide +kernel) ⟨rfl, rfl, Nat.le_of_ble_eq_true rfl, Nat.le_of_ble_eq_true rfl⟩ rfl hl.1 rfl (Nat.le_of_ble_eq_true rfl) d_Md_turn_20 ⟨by first | exact Nat.zero_le _ | decide | omega | (dsimp only; omega), by first | exact Nat.zero_le _ | decide | omega | (dsimp only; omega)⟩) (fun r u H locs hr9 hW => ?_)
  have hW : KW D k A s [(md, .inr (8, [.int (nI 0), .int (nI tp), .ref (ad 2), .int (nM pl), .ref (ad 4), .ref (ad 5), .ref (ad 6), .ref (ad 7), .ref (ad 8), .ref (ad 9), .int (nI si), .ref (ad 11), .int (nI at1), .int (nM wr), .int (nI dp), .int (nI pa), .ref (ad 16), .ref (ad 17), .ref (ad 18), .int (nI le), .ref (ad 20), .ref (ad 21), .ref (ad 22), .ref (ad 23), .ref (ad 24), .ref (ad 25), .ref (ad 26), .ref (ad 27), .ref (ad 28), .ref (ad 29), .ref (ad 30)])), (ad 4, .inl (k 0, 4, .inl (aN MN))), (ad 5, .inl (k 0, 32, .inl (aN LT))), (ad 6, .inl (k 0, 4, .inl (aN FI))), (ad 7, .inl (k 0, 4, .inl (aN LA))), (ad 8, .inl (k 0, 32, .inl (aN FL))), (ad 9, .inl (k 2, 4, .inl (aN EM))), (ad 20, .inl (k 0, 8, .inl (aN NL))), (ad 21, .inl (k 0, 8, .inl (aN NF)))] H locs := hW
  subst hr9
  refine knz hX (tgt := 27) (by decide) d_Md_turn_23 (by decide) (fun _ => ?_) (fun h1 => absurd h1 (by decide))
  refine lv_aload_n hX.1 hX.2.1 d_Md_turn_27 rfl (lv_at hl 0 rfl) ?_
  refine kget hX hW i_Md 0 rfl rfl 7 (by decide) f_Md_26 rfl rfl d_Md_turn_28 ?_
  refine lv_iload_n hX.1 hX.2.1 d_Md_turn_31 rfl (lv_at hl 1 rfl) ?_
  refine kiald hX hW 4 rfl (by omega) (by first | decide | omega) d_Md_turn_32 ?_
  refine lv_istore_n (lv' := [(3, .int (nI (LA sl))), (0, .ref md), (1, .int (nI sl)), (2, .int (nI to))]) hX.1 hX.2.1 d_Md_turn_33 rfl hl (by decide) rfl (fun ls hl => ?_)
  refine lv_aload_n hX.1 hX.2.1 d_Md_turn_34 rfl (lv_at hl 1 rfl) ?_
  refine kget hX hW i_Md 0 rfl rfl 6 (by decide) f_Md_23 rfl rfl d_Md_turn_35 ?_
  refine lv_iload_n hX.1 hX.2.1 d_Md_turn_38 rfl (lv_at hl 2 rfl) ?_
  refine kiald hX hW 3 rfl (by omega) (by first | decide | omega) d_Md_turn_39 ?_
  refine lv_istore (lv' := [(4, .int (nI (FI sl))), (3, .int (nI (LA sl))), (0, .ref md), (1, .int (nI sl)), (2, .int (nI to))]) hX.1 hX.2.1 d_Md_turn_40 hl (by decide) rfl (fun ls hl => ?_)
  refine lv_aload_n hX.1 hX.2.1 d_Md_turn_42 rfl (lv_at hl 2 rfl) ?_
  refine kget hX hW i_Md 0 rfl rfl 4 (by decide) f_Md_17 rfl rfl d_Md_turn_43 ?_
  refine lv_iload_n hX.1 hX.2.1 d_Md_turn_46 rfl (lv_at hl 3 rfl) ?_
  refine kiald hX hW 1 rfl (by omega) (by first | decide | omega) d_Md_turn_47 ?_
  refine lv_istore (lv' := [(5, .int (nI (MN sl))), (4, .int (nI (FI sl))), (3, .int (nI (LA sl))), (0, .ref md), (1, .int (nI sl)), (2, .int (nI to))]) hX.1 hX.2.1 d_Md_turn_48 hl (by decide) rfl (fun ls hl => ?_)
  refine lv_aload_n hX.1 hX.2.1 d_Md_turn_50 rfl (lv_at hl 3 rfl) ?_
  refine kget hX hW i_Md 0 rfl rfl 9 (by decide) f_Md_32 rfl rfl d_Md_turn_51 ?_
  refine lv_iload_n hX.1 hX.2.1 d_Md_turn_54 rfl (lv_at hl 4 rfl) ?_
  refine kzald hX hW 6 rfl (by omega) (by first | decide | omega) d_Md_turn_55 ?_
  refine lv_istore (lv' := [(6, .int (nI (EM sl))), (5, .int (nI (MN sl))), (4, .int (nI (FI sl))), (3, .int (nI (LA sl))), (0, .ref md), (1, .int (nI sl)), (2, .int (nI to))]) hX.1 hX.2.1 d_Md_turn_56 hl (by decide) rfl (fun ls hl => ?_)
  refine lv_iconst (v := nI 0) hX.1 hX.2.1 d_Md_turn_58 (by decide) ?_
  refine lv_istore (lv' := [(7, .int (nI 0)), (6, .int (nI (EM sl))), (5, .int (nI (MN sl))), (4, .int (nI (FI sl))), (3, .int (nI (LA sl))), (0, .ref md), (1, .int (nI sl)), (2, .int (nI to))]) hX.1 hX.2.1 d_Md_turn_59 hl (by decide) rfl (fun ls hl => ?_)
  have k157 : ∀ (x : Nat) (H : Heap) (locs : List Loc) (ls : Array Slot), KW D k A s [(md, .inr (8, [.int (nI 0), .int (nI tp), .ref (ad 2), .int (nM pl), .ref (ad 4), .ref (ad 5), .ref (ad 6), .ref (ad 7), .ref (ad 8), .ref (ad 9), .int (nI si), .ref (ad 11), .int (nI at1), .int (nM wr), .int (nI dp), .int (nI pa), .ref (ad 16), .ref (ad 17), .ref (ad 18), .int (nI le), .ref (ad 20), .ref (ad 21), .ref (ad 22), .ref (ad 23), .ref (ad 24), .ref (ad 25), .ref (ad 26), .ref (ad 27), .ref (ad 28), .ref (ad 29), .ref (ad 30)])), (ad 4, .inl (k 0, 4, .inl (aN MN))), (ad 5, .inl (k 0, 32, .inl (aN LT))), (ad 6, .inl (k 0, 4, .inl (aN FI))), (ad 7, .inl (k 0, 4, .inl (aN LA))), (ad 8, .inl (k 0, 32, .inl (aN FL))), (ad 9, .inl (k 2, 4, .inl (aN EM))), (ad 20, .inl (k 0, 8, .inl (aN (cpn LT NL (sl * 8) (MN sl))))), (ad 21, .inl (k 0, 8, .inl (aN (tnf FL NF (sl * 8) (MN sl) (MN sl)))))] H locs → lv_has ls 9 [(7, .int (nI x)), (6, .int (nI (EM sl))), (5, .int (nI (MN sl))), (4, .int (nI (FI sl))), (3, .int (nI (LA sl))), (2, .int (nI to)), (1, .int (nI sl)), (0, .ref md)] → W p l e ({ frames := 2, cells := 0, slots := 0, locals := 42 } : Room) s m [.ref md, .int (nI sl), .int (nI to)].toArray below meth c H locs 0 0 Q (F0 m 157 ls []) := by
    intro x H locs ls hW hl
    refine lv_aload_n hX.1 hX.2.1 d_Md_turn_157 rfl (lv_at hl 7 rfl) ?_
    refine kget hX hW i_Md 0 rfl rfl 4 (by decide) f_Md_17 rfl rfl d_Md_turn_158 ?_
    refine lv_iload_n hX.1 hX.2.1 d_Md_turn_161 rfl (lv_at hl 5 rfl) ?_
    refine lv_iload hX.1 hX.2.1 d_Md_turn_162 (lv_at hl 2 rfl) ?_
    refine kiast hX hW 1 rfl (by omega) (by first | decide | omega) d_Md_turn_164 (fun H locs hW => ?_)
    have hW : KW D k A s [(md, .inr (8, [.int (nI 0), .int (nI tp), .ref (ad 2), .int (nM pl), .ref (ad 4), .ref (ad 5), .ref (ad 6), .ref (ad 7), .ref (ad 8), .ref (ad 9), .int (nI si), .ref (ad 11), .int (nI at1), .int (nM wr), .int (nI dp), .int (nI pa), .ref (ad 16), .ref (ad 17), .ref (ad 18), .int (nI le), .ref (ad 20), .ref (ad 21), .ref (ad 22), .ref (ad 23), .ref (ad 24), .ref (ad 25), .ref (ad 26), .ref (ad 27), .ref (ad 28), .ref (ad 29), .ref (ad 30)])), (ad 4, .inl (k 0, 4, .inl (aN (va_up MN to (MN sl))))), (ad 5, .inl (k 0, 32, .inl (aN LT))), (ad 6, .inl (k 0, 4, .inl (aN FI))), (ad 7, .inl (k 0, 4, .inl (aN LA))), (ad 8, .inl (k 0, 32, .inl (aN FL))), (ad 9, .inl (k 2, 4, .inl (aN EM))), (ad 20, .inl (k 0, 8, .inl (aN (cpn LT NL (sl * 8) (MN sl))))), (ad 21, .inl (k 0, 8, .inl (aN (tnf FL NF (sl * 8) (MN sl) (MN sl)))))] H locs := hW
    refine lv_aload_n hX.1 hX.2.1 d_Md_turn_165 rfl (lv_at hl 7 rfl) ?_
    refine kget hX hW i_Md 0 rfl rfl 6 (by decide) f_Md_23 rfl rfl d_Md_turn_166 ?_
    refine lv_iload_n hX.1 hX.2.1 d_Md_turn_169 rfl (lv_at hl 5 rfl) ?_
    refine lv_iload_n hX.1 hX.2.1 d_Md_turn_170 rfl (lv_at hl 4 rfl) ?_
    refine kiast hX hW 3 rfl (by omega) (by first | decide | omega) d_Md_turn_171 (fun H locs hW => ?_)
    have hW : KW D k A s [(md, .inr (8, [.int (nI 0), .int (nI tp), .ref (ad 2), .int (nM pl), .ref (ad 4), .ref (ad 5), .ref (ad 6), .ref (ad 7), .ref (ad 8), .ref (ad 9), .int (nI si), .ref (ad 11), .int (nI at1), .int (nM wr), .int (nI dp), .int (nI pa), .ref (ad 16), .ref (ad 17), .ref (ad 18), .int (nI le), .ref (ad 20), .ref (ad 21), .ref (ad 22), .ref (ad 23), .ref (ad 24), .ref (ad 25), .ref (ad 26), .ref (ad 27), .ref (ad 28), .ref (ad 29), .ref (ad 30)])), (ad 4, .inl (k 0, 4, .inl (aN (va_up MN to (MN sl))))), (ad 5, .inl (k 0, 32, .inl (aN LT))), (ad 6, .inl (k 0, 4, .inl (aN (va_up FI to (LA sl))))), (ad 7, .inl (k 0, 4, .inl (aN LA))), (ad 8, .inl (k 0, 32, .inl (aN FL))), (ad 9, .inl (k 2, 4, .inl (aN EM))), (ad 20, .inl (k 0, 8, .inl (aN (cpn LT NL (sl * 8) (MN sl))))), (ad 21, .inl (k 0, 8, .inl (aN (tnf FL NF (sl * 8) (MN sl) (MN sl)))))] H locs := hW
    refine lv_aload_n hX.1 hX.2.1 d_Md_turn_172 rfl (lv_at hl 7 rfl) ?_
    refine kget hX hW i_Md 0 rfl rfl 7 (by decide) f_Md_26 rfl rfl d_Md_turn_173 ?_
    refine lv_iload_n hX.1 hX.2.1 d_Md_turn_176 rfl (lv_at hl 5 rfl) ?_
    refine lv_iload hX.1 hX.2.1 d_Md_turn_177 (lv_at hl 3 rfl) ?_
    refine kiast hX hW 4 rfl (by omega) (by first | decide | omega) d_Md_turn_179 (fun H locs hW => ?_)
    have hW : KW D k A s [(md, .inr (8, [.int (nI 0), .int (nI tp), .ref (ad 2), .int (nM pl), .ref (ad 4), .ref (ad 5), .ref (ad 6), .ref (ad 7), .ref (ad 8), .ref (ad 9), .int (nI si), .ref (ad 11), .int (nI at1), .int (nM wr), .int (nI dp), .int (nI pa), .ref (ad 16), .ref (ad 17), .ref (ad 18), .int (nI le), .ref (ad 20), .ref (ad 21), .ref (ad 22), .ref (ad 23), .ref (ad 24), .ref (ad 25), .ref (ad 26), .ref (ad 27), .ref (ad 28), .ref (ad 29), .ref (ad 30)])), (ad 4, .inl (k 0, 4, .inl (aN (va_up MN to (MN sl))))), (ad 5, .inl (k 0, 32, .inl (aN LT))), (ad 6, .inl (k 0, 4, .inl (aN (va_up FI to (LA sl))))), (ad 7, .inl (k 0, 4, .inl (aN (va_up LA to (FI sl))))), (ad 8, .inl (k 0, 32, .inl (aN FL))), (ad 9, .inl (k 2, 4, .inl (aN EM))), (ad 20, .inl (k 0, 8, .inl (aN (cpn LT NL (sl * 8) (MN sl))))), (ad 21, .inl (k 0, 8, .inl (aN (tnf FL NF (sl * 8) (MN sl) (MN sl)))))] H locs := hW
    refine lv_aload_n hX.1 hX.2.1 d_Md_turn_180 rfl (lv_at hl 7 rfl) ?_
    refine kget hX hW i_Md 0 rfl rfl 9 (by decide) f_Md_32 rfl rfl d_Md_turn_181 ?_
    refine lv_iload_n hX.1 hX.2.1 d_Md_turn_184 rfl (lv_at hl 5 rfl) ?_
    refine lv_iload hX.1 hX.2.1 d_Md_turn_185 (lv_at hl 1 rfl) ?_
    refine kzast hX hW 6 rfl (by omega) (by first | decide | omega) (hem) d_Md_turn_187 (fun H locs hW => ?_)
    have hW : KW D k A s [(md, .inr (8, [.int (nI 0), .int (nI tp), .ref (ad 2), .int (nM pl), .ref (ad 4), .ref (ad 5), .ref (ad 6), .ref (ad 7), .ref (ad 8), .ref (ad 9), .int (nI si), .ref (ad 11), .int (nI at1), .int (nM wr), .int (nI dp), .int (nI pa), .ref (ad 16), .ref (ad 17), .ref (ad 18), .int (nI le), .ref (ad 20), .ref (ad 21), .ref (ad 22), .ref (ad 23), .ref (ad 24), .ref (ad 25), .ref (ad 26), .ref (ad 27), .ref (ad 28), .ref (ad 29), .ref (ad 30)])), (ad 4, .inl (k 0, 4, .inl (aN (va_up MN to (MN sl))))), (ad 5, .inl (k 0, 32, .inl (aN LT))), (ad 6, .inl (k 0, 4, .inl (aN (va_up FI to (LA sl))))), (ad 7, .inl (k 0, 4, .inl (aN (va_up LA to (FI sl))))), (ad 8, .inl (k 0, 32, .inl (aN FL))), (ad 9, .inl (k 2, 4, .inl (aN (va_up EM to (EM sl))))), (ad 20, .inl (k 0, 8, .inl (aN (cpn LT NL (sl * 8) (MN sl))))), (ad 21, .inl (k 0, 8, .inl (aN (tnf FL NF (sl * 8) (MN sl) (MN sl)))))] H locs := hW
    refine lv_iconst (v := nI 0) hX.1 hX.2.1 d_Md_turn_188 (by decide) ?_
    refine lv_istore (lv' := [(7, .int (nI 0)), (6, .int (nI (EM sl))), (5, .int (nI (MN sl))), (4, .int (nI (FI sl))), (3, .int (nI (LA sl))), (2, .int (nI to)), (1, .int (nI sl)), (0, .ref md)]) hX.1 hX.2.1 d_Md_turn_189 hl (by decide) rfl (fun ls hl => ?_)
    have lq : ∀ (fu : Nat) (kk : Nat) (H : Heap) (locs : List Loc) (ls : Array Slot), (kk ≤ MN sl) → (MN sl < kk + fu) →  KW D k A s [(md, .inr (8, [.int (nI 0), .int (nI tp), .ref (ad 2), .int (nM pl), .ref (ad 4), .ref (ad 5), .ref (ad 6), .ref (ad 7), .ref (ad 8), .ref (ad 9), .int (nI si), .ref (ad 11), .int (nI at1), .int (nM wr), .int (nI dp), .int (nI pa), .ref (ad 16), .ref (ad 17), .ref (ad 18), .int (nI le), .ref (ad 20), .ref (ad 21), .ref (ad 22), .ref (ad 23), .ref (ad 24), .ref (ad 25), .ref (ad 26), .ref (ad 27), .ref (ad 28), .ref (ad 29), .ref (ad 30)])), (ad 4, .inl (k 0, 4, .inl (aN (va_up MN to (MN sl))))), (ad 5, .inl (k 0, 32, .inl (aN (cpb (cpn LT NL (sl * 8) (MN sl)) LT (to * 8) kk)))), (ad 6, .inl (k 0, 4, .inl (aN (va_up FI to (LA sl))))), (ad 7, .inl (k 0, 4, .inl (aN (va_up LA to (FI sl))))), (ad 8, .inl (k 0, 32, .inl (aN (cpb (tnf FL NF (sl * 8) (MN sl) (MN sl)) FL (to * 8) kk)))), (ad 9, .inl (k 2, 4, .inl (aN (va_up EM to (EM sl))))), (ad 20, .inl (k 0, 8, .inl (aN (cpn LT NL (sl * 8) (MN sl))))), (ad 21, .inl (k 0, 8, .inl (aN (tnf FL NF (sl * 8) (MN sl) (MN sl)))))] H locs → lv_has ls 9 [(7, .int (nI kk)), (6, .int (nI (EM sl))), (5, .int (nI (MN sl))), (4, .int (nI (FI sl))), (3, .int (nI (LA sl))), (2, .int (nI to)), (1, .int (nI sl)), (0, .ref md)] → W p l e ({ frames := 2, cells := 0, slots := 0, locals := 42 } : Room) s m [.ref md, .int (nI sl), .int (nI to)].toArray below meth c H locs 0 0 Q (F0 m 191 ls []) := by
      intro fu
      induction fu with
      | zero => intro kk H locs ls lq1 lq2 hW hl; exfalso; omega
      | succ fu ih =>
        intro kk H locs ls lq1 lq2 hW hl
        refine lv_iload hX.1 hX.2.1 d_Md_turn_191 (lv_at hl 0 rfl) ?_
        refine lv_iload hX.1 hX.2.1 d_Md_turn_193 (lv_at hl 2 rfl) ?_
        refine kge hX (tgt := 242) (by omega) (by omega) d_Md_turn_195 (by decide) (fun h1 => ?_) (fun h1 => ?_)
        · have e1 : kk = MN sl := by omega
          subst e1
          exact kvret hX hr hlocks hQ () (hW) (trivial) d_Md_turn_242
        · refine lv_aload_n hX.1 hX.2.1 d_Md_turn_198 rfl (lv_at hl 7 rfl) ?_
          refine kget hX hW i_Md 0 rfl rfl 5 (by decide) f_Md_20 rfl rfl d_Md_turn_199 ?_
          refine lv_iload_n hX.1 hX.2.1 d_Md_turn_202 rfl (lv_at hl 5 rfl) ?_
          refine lv_bipush (v := nI 8) hX.1 hX.2.1 d_Md_turn_203 (by decide) ?_
          refine lv_imul hX.1 hX.2.1 d_Md_turn_205 ?_
          refine tpi (y := nI (to * 8)) (pk_mul _ _) ?_
          refine lv_iload hX.1 hX.2.1 d_Md_turn_206 (lv_at hl 0 rfl) ?_
          refine lv_iadd hX.1 hX.2.1 d_Md_turn_208 ?_
          refine tpi (y := nI (to * 8 + kk)) (nI_add _ _) ?_
          refine lv_aload_n hX.1 hX.2.1 d_Md_turn_209 rfl (lv_at hl 7 rfl) ?_
          refine kget hX hW i_Md 0 rfl rfl 20 (by decide) f_Md_48 rfl rfl d_Md_turn_210 ?_
          refine lv_iload hX.1 hX.2.1 d_Md_turn_213 (lv_at hl 0 rfl) ?_
          refine kiald hX hW 7 rfl (by omega) (by first | decide | omega) d_Md_turn_215 ?_
          refine kiast hX hW 2 rfl (by omega) (by first | decide | omega) d_Md_turn_216 (fun H locs hW => ?_)
          have hW : KW D k A s [(md, .inr (8, [.int (nI 0), .int (nI tp), .ref (ad 2), .int (nM pl), .ref (ad 4), .ref (ad 5), .ref (ad 6), .ref (ad 7), .ref (ad 8), .ref (ad 9), .int (nI si), .ref (ad 11), .int (nI at1), .int (nM wr), .int (nI dp), .int (nI pa), .ref (ad 16), .ref (ad 17), .ref (ad 18), .int (nI le), .ref (ad 20), .ref (ad 21), .ref (ad 22), .ref (ad 23), .ref (ad 24), .ref (ad 25), .ref (ad 26), .ref (ad 27), .ref (ad 28), .ref (ad 29), .ref (ad 30)])), (ad 4, .inl (k 0, 4, .inl (aN (va_up MN to (MN sl))))), (ad 5, .inl (k 0, 32, .inl (aN (va_up (cpb (cpn LT NL (sl * 8) (MN sl)) LT (to * 8) kk) (to * 8 + kk) ((cpn LT NL (sl * 8) (MN sl)) kk))))), (ad 6, .inl (k 0, 4, .inl (aN (va_up FI to (LA sl))))), (ad 7, .inl (k 0, 4, .inl (aN (va_up LA to (FI sl))))), (ad 8, .inl (k 0, 32, .inl (aN (cpb (tnf FL NF (sl * 8) (MN sl) (MN sl)) FL (to * 8) kk)))), (ad 9, .inl (k 2, 4, .inl (aN (va_up EM to (EM sl))))), (ad 20, .inl (k 0, 8, .inl (aN (cpn LT NL (sl * 8) (MN sl))))), (ad 21, .inl (k 0, 8, .inl (aN (tnf FL NF (sl * 8) (MN sl) (MN sl)))))] H locs := hW
          refine lv_aload_n hX.1 hX.2.1 d_Md_turn_217 rfl (lv_at hl 7 rfl) ?_
          refine kget hX hW i_Md 0 rfl rfl 8 (by decide) f_Md_29 rfl rfl d_Md_turn_218 ?_
          refine lv_iload_n hX.1 hX.2.1 d_Md_turn_221 rfl (lv_at hl 5 rfl) ?_
          refine lv_bipush (v := nI 8) hX.1 hX.2.1 d_Md_turn_222 (by decide) ?_
          refine lv_imul hX.1 hX.2.1 d_Md_turn_224 ?_
          refine tpi (y := nI (to * 8)) (pk_mul _ _) ?_
          refine lv_iload hX.1 hX.2.1 d_Md_turn_225 (lv_at hl 0 rfl) ?_
          refine lv_iadd hX.1 hX.2.1 d_Md_turn_227 ?_
          refine tpi (y := nI (to * 8 + kk)) (nI_add _ _) ?_
          refine lv_aload_n hX.1 hX.2.1 d_Md_turn_228 rfl (lv_at hl 7 rfl) ?_
          refine kget hX hW i_Md 0 rfl rfl 21 (by decide) f_Md_51 rfl rfl d_Md_turn_229 ?_
          refine lv_iload hX.1 hX.2.1 d_Md_turn_232 (lv_at hl 0 rfl) ?_
          refine kiald hX hW 8 rfl (by omega) (by first | decide | omega) d_Md_turn_234 ?_
          refine kiast hX hW 5 rfl (by omega) (by first | decide | omega) d_Md_turn_235 (fun H locs hW => ?_)
          have hW : KW D k A s [(md, .inr (8, [.int (nI 0), .int (nI tp), .ref (ad 2), .int (nM pl), .ref (ad 4), .ref (ad 5), .ref (ad 6), .ref (ad 7), .ref (ad 8), .ref (ad 9), .int (nI si), .ref (ad 11), .int (nI at1), .int (nM wr), .int (nI dp), .int (nI pa), .ref (ad 16), .ref (ad 17), .ref (ad 18), .int (nI le), .ref (ad 20), .ref (ad 21), .ref (ad 22), .ref (ad 23), .ref (ad 24), .ref (ad 25), .ref (ad 26), .ref (ad 27), .ref (ad 28), .ref (ad 29), .ref (ad 30)])), (ad 4, .inl (k 0, 4, .inl (aN (va_up MN to (MN sl))))), (ad 5, .inl (k 0, 32, .inl (aN (va_up (cpb (cpn LT NL (sl * 8) (MN sl)) LT (to * 8) kk) (to * 8 + kk) ((cpn LT NL (sl * 8) (MN sl)) kk))))), (ad 6, .inl (k 0, 4, .inl (aN (va_up FI to (LA sl))))), (ad 7, .inl (k 0, 4, .inl (aN (va_up LA to (FI sl))))), (ad 8, .inl (k 0, 32, .inl (aN (va_up (cpb (tnf FL NF (sl * 8) (MN sl) (MN sl)) FL (to * 8) kk) (to * 8 + kk) ((tnf FL NF (sl * 8) (MN sl) (MN sl)) kk))))), (ad 9, .inl (k 2, 4, .inl (aN (va_up EM to (EM sl))))), (ad 20, .inl (k 0, 8, .inl (aN (cpn LT NL (sl * 8) (MN sl))))), (ad 21, .inl (k 0, 8, .inl (aN (tnf FL NF (sl * 8) (MN sl) (MN sl)))))] H locs := hW
          refine lv_iinc (v := nI (kk + 1)) (lv' := [(7, .int (nI (kk + 1))), (6, .int (nI (EM sl))), (5, .int (nI (MN sl))), (4, .int (nI (FI sl))), (3, .int (nI (LA sl))), (2, .int (nI to)), (1, .int (nI sl)), (0, .ref md)]) hX.1 hX.2.1 d_Md_turn_236 hl (k := 0) rfl (kn_inc _) (by decide) rfl (fun ls hl => ?_)
          refine lv_goto (tgt := 191) hX.1 hX.2.1 d_Md_turn_239 (by decide) ?_
          exact ih (kk + 1) H locs ls (by omega) (by omega) hW (lv_sub hl [0, 1, 2, 3, 4, 5, 6, 7] rfl)
    exact lq (MN sl + 1) 0 H locs ls (by omega) (by omega) hW (lv_sub hl [0, 1, 2, 3, 4, 5, 6, 7] rfl)
  have lp : ∀ (fu : Nat) (kk : Nat) (H : Heap) (locs : List Loc) (ls : Array Slot), (kk ≤ MN sl) → (MN sl < kk + fu) →  KW D k A s [(md, .inr (8, [.int (nI 0), .int (nI tp), .ref (ad 2), .int (nM pl), .ref (ad 4), .ref (ad 5), .ref (ad 6), .ref (ad 7), .ref (ad 8), .ref (ad 9), .int (nI si), .ref (ad 11), .int (nI at1), .int (nM wr), .int (nI dp), .int (nI pa), .ref (ad 16), .ref (ad 17), .ref (ad 18), .int (nI le), .ref (ad 20), .ref (ad 21), .ref (ad 22), .ref (ad 23), .ref (ad 24), .ref (ad 25), .ref (ad 26), .ref (ad 27), .ref (ad 28), .ref (ad 29), .ref (ad 30)])), (ad 4, .inl (k 0, 4, .inl (aN MN))), (ad 5, .inl (k 0, 32, .inl (aN LT))), (ad 6, .inl (k 0, 4, .inl (aN FI))), (ad 7, .inl (k 0, 4, .inl (aN LA))), (ad 8, .inl (k 0, 32, .inl (aN FL))), (ad 9, .inl (k 2, 4, .inl (aN EM))), (ad 20, .inl (k 0, 8, .inl (aN (cpn LT NL (sl * 8) kk)))), (ad 21, .inl (k 0, 8, .inl (aN (tnf FL NF (sl * 8) (MN sl) kk))))] H locs → lv_has ls 9 [(7, .int (nI kk)), (6, .int (nI (EM sl))), (5, .int (nI (MN sl))), (4, .int (nI (FI sl))), (3, .int (nI (LA sl))), (2, .int (nI to)), (1, .int (nI sl)), (0, .ref md)] → W p l e ({ frames := 2, cells := 0, slots := 0, locals := 42 } : Room) s m [.ref md, .int (nI sl), .int (nI to)].toArray below meth c H locs 0 0 Q (F0 m 61 ls []) := by
    intro fu
    induction fu with
    | zero => intro kk H locs ls lp1 lp2 hW hl; exfalso; omega
    | succ fu ih =>
      intro kk H locs ls lp1 lp2 hW hl
      refine lv_iload hX.1 hX.2.1 d_Md_turn_61 (lv_at hl 0 rfl) ?_
      refine lv_iload hX.1 hX.2.1 d_Md_turn_63 (lv_at hl 2 rfl) ?_
      refine kge hX (tgt := 157) (by omega) (by omega) d_Md_turn_65 (by decide) (fun h1 => ?_) (fun h1 => ?_)
      · have e1 : kk = MN sl := by omega
        subst e1
        exact k157 _ H locs ls hW hl
      · have ih0 := ih
        refine lv_aload_n hX.1 hX.2.1 d_Md_turn_68 rfl (lv_at hl 7 rfl) ?_
        refine kget hX hW i_Md 0 rfl rfl 20 (by decide) f_Md_48 rfl rfl d_Md_turn_69 ?_
        refine lv_iload hX.1 hX.2.1 d_Md_turn_72 (lv_at hl 0 rfl) ?_
        refine lv_aload_n hX.1 hX.2.1 d_Md_turn_74 rfl (lv_at hl 7 rfl) ?_
        refine kget hX hW i_Md 0 rfl rfl 5 (by decide) f_Md_20 rfl rfl d_Md_turn_75 ?_
        refine lv_iload_n hX.1 hX.2.1 d_Md_turn_78 rfl (lv_at hl 6 rfl) ?_
        refine lv_bipush (v := nI 8) hX.1 hX.2.1 d_Md_turn_79 (by decide) ?_
        refine lv_imul hX.1 hX.2.1 d_Md_turn_81 ?_
        refine tpi (y := nI (sl * 8)) (pk_mul _ _) ?_
        refine lv_iload hX.1 hX.2.1 d_Md_turn_82 (lv_at hl 0 rfl) ?_
        refine lv_iadd hX.1 hX.2.1 d_Md_turn_84 ?_
        refine tpi (y := nI (sl * 8 + kk)) (nI_add _ _) ?_
        refine kiald hX hW 2 rfl (by omega) (by first | decide | omega) d_Md_turn_85 ?_
        refine kiast hX hW 7 rfl (by omega) (by first | decide | omega) d_Md_turn_86 (fun H locs hW => ?_)
        have hW : KW D k A s [(md, .inr (8, [.int (nI 0), .int (nI tp), .ref (ad 2), .int (nM pl), .ref (ad 4), .ref (ad 5), .ref (ad 6), .ref (ad 7), .ref (ad 8), .ref (ad 9), .int (nI si), .ref (ad 11), .int (nI at1), .int (nM wr), .int (nI dp), .int (nI pa), .ref (ad 16), .ref (ad 17), .ref (ad 18), .int (nI le), .ref (ad 20), .ref (ad 21), .ref (ad 22), .ref (ad 23), .ref (ad 24), .ref (ad 25), .ref (ad 26), .ref (ad 27), .ref (ad 28), .ref (ad 29), .ref (ad 30)])), (ad 4, .inl (k 0, 4, .inl (aN MN))), (ad 5, .inl (k 0, 32, .inl (aN LT))), (ad 6, .inl (k 0, 4, .inl (aN FI))), (ad 7, .inl (k 0, 4, .inl (aN LA))), (ad 8, .inl (k 0, 32, .inl (aN FL))), (ad 9, .inl (k 2, 4, .inl (aN EM))), (ad 20, .inl (k 0, 8, .inl (aN (va_up (cpn LT NL (sl * 8) kk) kk (LT (sl * 8 + kk)))))), (ad 21, .inl (k 0, 8, .inl (aN (tnf FL NF (sl * 8) (MN sl) kk))))] H locs := hW
        refine lv_aload_n hX.1 hX.2.1 d_Md_turn_87 rfl (lv_at hl 7 rfl) ?_
        refine kget hX hW i_Md 0 rfl rfl 21 (by decide) f_Md_51 rfl rfl d_Md_turn_88 ?_
        refine lv_iload hX.1 hX.2.1 d_Md_turn_91 (lv_at hl 0 rfl) ?_
        refine lv_iconst (v := nI 0) hX.1 hX.2.1 d_Md_turn_93 (by decide) ?_
        refine kiast hX hW 8 rfl (by omega) (by first | decide | omega) d_Md_turn_94 (fun H locs hW => ?_)
        have hW : KW D k A s [(md, .inr (8, [.int (nI 0), .int (nI tp), .ref (ad 2), .int (nM pl), .ref (ad 4), .ref (ad 5), .ref (ad 6), .ref (ad 7), .ref (ad 8), .ref (ad 9), .int (nI si), .ref (ad 11), .int (nI at1), .int (nM wr), .int (nI dp), .int (nI pa), .ref (ad 16), .ref (ad 17), .ref (ad 18), .int (nI le), .ref (ad 20), .ref (ad 21), .ref (ad 22), .ref (ad 23), .ref (ad 24), .ref (ad 25), .ref (ad 26), .ref (ad 27), .ref (ad 28), .ref (ad 29), .ref (ad 30)])), (ad 4, .inl (k 0, 4, .inl (aN MN))), (ad 5, .inl (k 0, 32, .inl (aN LT))), (ad 6, .inl (k 0, 4, .inl (aN FI))), (ad 7, .inl (k 0, 4, .inl (aN LA))), (ad 8, .inl (k 0, 32, .inl (aN FL))), (ad 9, .inl (k 2, 4, .inl (aN EM))), (ad 20, .inl (k 0, 8, .inl (aN (va_up (cpn LT NL (sl * 8) kk) kk (LT (sl * 8 + kk)))))), (ad 21, .inl (k 0, 8, .inl (aN (va_up (tnf FL NF (sl * 8) (MN sl) kk) kk 0))))] H locs := hW
        generalize hC : tnf FL NF (sl * 8) (MN sl) kk = C at hW
        have hW : KW D k A s [(md, .inr (8, [.int (nI 0), .int (nI tp), .ref (ad 2), .int (nM pl), .ref (ad 4), .ref (ad 5), .ref (ad 6), .ref (ad 7), .ref (ad 8), .ref (ad 9), .int (nI si), .ref (ad 11), .int (nI at1), .int (nM wr), .int (nI dp), .int (nI pa), .ref (ad 16), .ref (ad 17), .ref (ad 18), .int (nI le), .ref (ad 20), .ref (ad 21), .ref (ad 22), .ref (ad 23), .ref (ad 24), .ref (ad 25), .ref (ad 26), .ref (ad 27), .ref (ad 28), .ref (ad 29), .ref (ad 30)])), (ad 4, .inl (k 0, 4, .inl (aN MN))), (ad 5, .inl (k 0, 32, .inl (aN LT))), (ad 6, .inl (k 0, 4, .inl (aN FI))), (ad 7, .inl (k 0, 4, .inl (aN LA))), (ad 8, .inl (k 0, 32, .inl (aN FL))), (ad 9, .inl (k 2, 4, .inl (aN EM))), (ad 20, .inl (k 0, 8, .inl (aN (cpn LT NL (sl * 8) (kk + 1))))), (ad 21, .inl (k 0, 8, .inl (aN (tin FL C (sl * 8) kk 0))))] H locs := hW
        refine lv_iconst (v := nI 0) hX.1 hX.2.1 d_Md_turn_95 (by decide) ?_
        refine lv_istore (lv' := [(8, .int (nI 0)), (7, .int (nI kk)), (6, .int (nI (EM sl))), (5, .int (nI (MN sl))), (4, .int (nI (FI sl))), (3, .int (nI (LA sl))), (2, .int (nI to)), (1, .int (nI sl)), (0, .ref md)]) hX.1 hX.2.1 d_Md_turn_96 hl (by decide) rfl (fun ls hl => ?_)
        have lr : ∀ (fu : Nat) (i : Nat) (H : Heap) (locs : List Loc) (ls : Array Slot), (i ≤ MN sl) → (MN sl < i + fu) →  KW D k A s [(md, .inr (8, [.int (nI 0), .int (nI tp), .ref (ad 2), .int (nM pl), .ref (ad 4), .ref (ad 5), .ref (ad 6), .ref (ad 7), .ref (ad 8), .ref (ad 9), .int (nI si), .ref (ad 11), .int (nI at1), .int (nM wr), .int (nI dp), .int (nI pa), .ref (ad 16), .ref (ad 17), .ref (ad 18), .int (nI le), .ref (ad 20), .ref (ad 21), .ref (ad 22), .ref (ad 23), .ref (ad 24), .ref (ad 25), .ref (ad 26), .ref (ad 27), .ref (ad 28), .ref (ad 29), .ref (ad 30)])), (ad 4, .inl (k 0, 4, .inl (aN MN))), (ad 5, .inl (k 0, 32, .inl (aN LT))), (ad 6, .inl (k 0, 4, .inl (aN FI))), (ad 7, .inl (k 0, 4, .inl (aN LA))), (ad 8, .inl (k 0, 32, .inl (aN FL))), (ad 9, .inl (k 2, 4, .inl (aN EM))), (ad 20, .inl (k 0, 8, .inl (aN (cpn LT NL (sl * 8) (kk + 1))))), (ad 21, .inl (k 0, 8, .inl (aN (tin FL C (sl * 8) kk i))))] H locs → lv_has ls 9 [(8, .int (nI i)), (7, .int (nI kk)), (6, .int (nI (EM sl))), (5, .int (nI (MN sl))), (4, .int (nI (FI sl))), (3, .int (nI (LA sl))), (2, .int (nI to)), (1, .int (nI sl)), (0, .ref md)] → W p l e ({ frames := 2, cells := 0, slots := 0, locals := 42 } : Room) s m [.ref md, .int (nI sl), .int (nI to)].toArray below meth c H locs 0 0 Q (F0 m 98 ls []) := by
          intro fu
          induction fu with
          | zero => intro i H locs ls lr1 lr2 hW hl; exfalso; omega
          | succ fu ih =>
            intro i H locs ls lr1 lr2 hW hl
            refine lv_iload hX.1 hX.2.1 d_Md_turn_98 (lv_at hl 0 rfl) ?_
            refine lv_iload hX.1 hX.2.1 d_Md_turn_100 (lv_at hl 3 rfl) ?_
            refine kge hX (tgt := 151) (by omega) (by omega) d_Md_turn_102 (by decide) (fun h2 => ?_) (fun h2 => ?_)
            · have e1 : i = MN sl := by omega
              subst e1
              refine lv_iinc (v := nI (kk + 1)) (lv' := [(7, .int (nI (kk + 1))), (8, .int (nI (MN sl))), (6, .int (nI (EM sl))), (5, .int (nI (MN sl))), (4, .int (nI (FI sl))), (3, .int (nI (LA sl))), (2, .int (nI to)), (1, .int (nI sl)), (0, .ref md)]) hX.1 hX.2.1 d_Md_turn_151 hl (k := 1) rfl (kn_inc _) (by decide) rfl (fun ls hl => ?_)
              refine lv_goto (tgt := 61) hX.1 hX.2.1 d_Md_turn_154 (by decide) ?_
              exact ih0 (kk + 1) H locs ls (by omega) (by omega) (by rw [tnf, hC]; exact hW) (lv_sub hl [0, 2, 3, 4, 5, 6, 7, 8] rfl)
            · have hfi := hfl i h2
              refine lv_aload_n hX.1 hX.2.1 d_Md_turn_105 rfl (lv_at hl 8 rfl) ?_
              refine kget hX hW i_Md 0 rfl rfl 8 (by decide) f_Md_29 rfl rfl d_Md_turn_106 ?_
              refine lv_iload_n hX.1 hX.2.1 d_Md_turn_109 rfl (lv_at hl 7 rfl) ?_
              refine lv_bipush (v := nI 8) hX.1 hX.2.1 d_Md_turn_110 (by decide) ?_
              refine lv_imul hX.1 hX.2.1 d_Md_turn_112 ?_
              refine tpi (y := nI (sl * 8)) (pk_mul _ _) ?_
              refine lv_iload hX.1 hX.2.1 d_Md_turn_113 (lv_at hl 0 rfl) ?_
              refine lv_iadd hX.1 hX.2.1 d_Md_turn_115 ?_
              refine tpi (y := nI (sl * 8 + i)) (nI_add _ _) ?_
              refine kiald hX hW 5 rfl (by omega) (by first | decide | omega) d_Md_turn_116 ?_
              refine lv_iload hX.1 hX.2.1 d_Md_turn_117 (lv_at hl 1 rfl) ?_
              refine lv_ishr hX.1 hX.2.1 d_Md_turn_119 ?_
              refine tpi (y := nI (FL (sl * 8 + i)) >>> (nI kk &&& 31)) (rfl) ?_
              refine lv_iconst (v := nI 1) hX.1 hX.2.1 d_Md_turn_120 (by decide) ?_
              refine lv_iand hX.1 hX.2.1 d_Md_turn_121 ?_
              refine tpi (y := nI (if (FL (sl * 8 + i)).testBit kk then 1 else 0)) (kn_bit (by omega) (by omega)) ?_
              refine lv_iconst (v := nI 1) hX.1 hX.2.1 d_Md_turn_122 (by decide) ?_
              refine kne hX (tgt := 145) (by split <;> omega) (by omega) d_Md_turn_123 (by decide) (fun h3 => ?_) (fun h3 => ?_)
              · have h6 : (FL (sl * 8 + i)).testBit kk = false := by cases hb : (FL (sl * 8 + i)).testBit kk <;> simp [hb] at h3 ⊢
                have h7 : tin FL C (sl * 8) kk (i + 1) = tin FL C (sl * 8) kk i := by rw [tin, h6]; simp
                refine lv_iinc (v := nI (i + 1)) (lv' := [(8, .int (nI (i + 1))), (7, .int (nI kk)), (6, .int (nI (EM sl))), (5, .int (nI (MN sl))), (4, .int (nI (FI sl))), (3, .int (nI (LA sl))), (2, .int (nI to)), (1, .int (nI sl)), (0, .ref md)]) hX.1 hX.2.1 d_Md_turn_145 hl (k := 0) rfl (kn_inc _) (by decide) rfl (fun ls hl => ?_)
                refine lv_goto (tgt := 98) hX.1 hX.2.1 d_Md_turn_148 (by decide) ?_
                rw [← h7] at hW
                exact ih (i + 1) H locs ls (by omega) (by omega) hW (lv_sub hl [0, 1, 2, 3, 4, 5, 6, 7, 8] rfl)
              · have h6 : (FL (sl * 8 + i)).testBit kk = true := by cases hb : (FL (sl * 8 + i)).testBit kk <;> simp [hb] at h3 ⊢
                have h7 : tin FL C (sl * 8) kk (i + 1) = va_up (tin FL C (sl * 8) kk i) kk (tin FL C (sl * 8) kk i kk ||| 2 ^ i) := by rw [tin, h6]; simp
                refine lv_aload_n hX.1 hX.2.1 d_Md_turn_126 rfl (lv_at hl 8 rfl) ?_
                refine kget hX hW i_Md 0 rfl rfl 21 (by decide) f_Md_51 rfl rfl d_Md_turn_127 ?_
                refine lv_iload hX.1 hX.2.1 d_Md_turn_130 (lv_at hl 1 rfl) ?_
                refine lv_aload_n hX.1 hX.2.1 d_Md_turn_132 rfl (lv_at hl 8 rfl) ?_
                refine kget hX hW i_Md 0 rfl rfl 21 (by decide) f_Md_51 rfl rfl d_Md_turn_133 ?_
                refine lv_iload hX.1 hX.2.1 d_Md_turn_136 (lv_at hl 1 rfl) ?_
                refine kiald hX hW 8 rfl (by omega) (by first | decide | omega) d_Md_turn_138 ?_
                refine lv_iconst (v := nI 1) hX.1 hX.2.1 d_Md_turn_139 (by decide) ?_
                refine lv_iload hX.1 hX.2.1 d_Md_turn_140 (lv_at hl 0 rfl) ?_
                refine lv_ishl hX.1 hX.2.1 d_Md_turn_142 ?_
                refine tpi (y := nI (2 ^ i)) (kn_shl1 (by omega)) ?_
                refine lv_ior hX.1 hX.2.1 d_Md_turn_143 ?_
                refine tpi (y := nI (tin FL C (sl * 8) kk i kk ||| 2 ^ i)) (kn_or _ _) ?_
                refine kiast hX hW 8 rfl (by omega) (by first | decide | omega) d_Md_turn_144 (fun H locs hW => ?_)
                have hW : KW D k A s [(md, .inr (8, [.int (nI 0), .int (nI tp), .ref (ad 2), .int (nM pl), .ref (ad 4), .ref (ad 5), .ref (ad 6), .ref (ad 7), .ref (ad 8), .ref (ad 9), .int (nI si), .ref (ad 11), .int (nI at1), .int (nM wr), .int (nI dp), .int (nI pa), .ref (ad 16), .ref (ad 17), .ref (ad 18), .int (nI le), .ref (ad 20), .ref (ad 21), .ref (ad 22), .ref (ad 23), .ref (ad 24), .ref (ad 25), .ref (ad 26), .ref (ad 27), .ref (ad 28), .ref (ad 29), .ref (ad 30)])), (ad 4, .inl (k 0, 4, .inl (aN MN))), (ad 5, .inl (k 0, 32, .inl (aN LT))), (ad 6, .inl (k 0, 4, .inl (aN FI))), (ad 7, .inl (k 0, 4, .inl (aN LA))), (ad 8, .inl (k 0, 32, .inl (aN FL))), (ad 9, .inl (k 2, 4, .inl (aN EM))), (ad 20, .inl (k 0, 8, .inl (aN (cpn LT NL (sl * 8) (kk + 1))))), (ad 21, .inl (k 0, 8, .inl (aN (va_up (tin FL C (sl * 8) kk i) kk (tin FL C (sl * 8) kk i kk ||| 2 ^ i)))))] H locs := hW
                refine lv_iinc (v := nI (i + 1)) (lv' := [(8, .int (nI (i + 1))), (7, .int (nI kk)), (6, .int (nI (EM sl))), (5, .int (nI (MN sl))), (4, .int (nI (FI sl))), (3, .int (nI (LA sl))), (2, .int (nI to)), (1, .int (nI sl)), (0, .ref md)]) hX.1 hX.2.1 d_Md_turn_145 hl (k := 0) rfl (kn_inc _) (by decide) rfl (fun ls hl => ?_)
                refine lv_goto (tgt := 98) hX.1 hX.2.1 d_Md_turn_148 (by decide) ?_
                rw [← h7] at hW
                exact ih (i + 1) H locs ls (by omega) (by omega) hW (lv_sub hl [0, 1, 2, 3, 4, 5, 6, 7, 8] rfl)
        exact lr (MN sl + 1) 0 H locs ls (by omega) (by omega) hW (lv_sub hl [0, 1, 2, 3, 4, 5, 6, 7, 8] rfl)
  exact lp (MN sl + 1) 0 H locs ls (by omega) (by omega) hW (lv_sub hl [0, 1, 2, 3, 4, 7, 6, 5] rfl)
