/-! THE REFERENCE: atom, repeated -/
section KB7
variable {p : Program} {l : Launch} {e : Env} {R : Room} {s : State} {m : MethodId} {args : Array Value} {below : List Frame} {meth : Method} {c : Code} {H : Heap} {locs : List Loc} {cells slots : Nat} {Q : State → Prop}
variable {cc : ByteArray} {pc : Nat} {ls : Array Slot} {rest : List Value} {own : String}
theorem nM0_lt {b : Nat} (hb : b < 2 ^ 31) : nM 0 < nI b := by
  rw [nM_0]
  have h := nI_pos' hb
  have h1 : (-1 : Int32) < 0 := by decide
  exact Int32.lt_of_lt_of_le h1 h
theorem nM0_ne {b : Nat} (hb : b < 2 ^ 31) : nM 0 ≠ nI b := fun q => by have h := nM0_lt hb; rw [q] at h; exact Int32.lt_irrefl h
theorem kne0 (hX : FX p s m c args cc own) {b : Nat} {off : Int} {tgt : Nat} (hb2 : b < 2 ^ 31) (hdg : decode cc pc = .ok (.if_icmp .ne off, 3)) (ht : (pc : Int) + off = (tgt : Int))
    (kt : W p l e R s m args below meth c H locs cells slots Q (F0 m tgt ls rest)) : W p l e R s m args below meth c H locs cells slots Q (F0 m pc ls (.int (nI b) :: .int (nM 0) :: rest)) :=
  lv_icmp_ne hX.1 hX.2.1 hdg ht (fun _ => kt) (fun h => absurd h (nM0_ne hb2))
theorem keq0 (hX : FX p s m c args cc own) {b : Nat} {off : Int} {tgt : Nat} (hb2 : b < 2 ^ 31) (hdg : decode cc pc = .ok (.if_icmp .eq off, 3)) (ht : (pc : Int) + off = (tgt : Int))
    (kf : W p l e R s m args below meth c H locs cells slots Q (F0 m (pc + 3) ls rest)) : W p l e R s m args below meth c H locs cells slots Q (F0 m pc ls (.int (nI b) :: .int (nM 0) :: rest)) :=
  lv_icmp_eq hX.1 hX.2.1 hdg ht (fun h => absurd h (nM0_ne hb2)) (fun _ => kf)
theorem klt0 (hX : FX p s m c args cc own) {b : Nat} {off : Int} {tgt : Nat} (hb2 : b < 2 ^ 31) (hdg : decode cc pc = .ok (.if_icmp .lt off, 3)) (ht : (pc : Int) + off = (tgt : Int))
    (kt : W p l e R s m args below meth c H locs cells slots Q (F0 m tgt ls rest)) : W p l e R s m args below meth c H locs cells slots Q (F0 m pc ls (.int (nI b) :: .int (nM 0) :: rest)) :=
  lv_icmp_lt hX.1 hX.2.1 hdg ht (fun _ => kt) (fun h => absurd (nM0_lt hb2) h)
end KB7
set_option maxHeartbeats 4000000 in
set_option maxRecDepth 100000 in
/-- atom(-1) -/
theorem ok_Md_atomEnd (l : Launch) (D : va_G) (k : Nat → ClassId) (sz : Nat) (md : Nat) (ad : Nat → Nat) (th tp pl si at1 dp pa le : Nat) : Met l y_Md_atom (.code y_Md_atom c_Md_atom 2 (some .int) :: wsU) ({ frames := 1, cells := 0, slots := 0, locals := 30 } : Room) (kPre D k [.ref md, .int (nM 0)] [(md, .inr (8, [.int (nI th), .int (nI tp), .ref (ad 2), .int (nM pl), .ref (ad 4), .ref (ad 5), .ref (ad 6), .ref (ad 7), .ref (ad 8), .ref (ad 9), .int (nI si), .ref (ad 11), .int (nI at1), .int (nM 0), .int (nI dp), .int (nI pa), .ref (ad 16), .ref (ad 17), .ref (ad 18), .int (nI le), .ref (ad 20), .ref (ad 21), .ref (ad 22), .ref (ad 23), .ref (ad 24), .ref (ad 25), .ref (ad 26), .ref (ad 27), .ref (ad 28), .ref (ad 29), .ref (ad 30)]))] sz) (va_Qi (fun (r : Int32) (_ : Unit) => r = nI 0) (kB D k (fun _ : Unit => [(md, .inr (8, [.int (nI th), .int (nI tp), .ref (ad 2), .int (nM pl), .ref (ad 4), .ref (ad 5), .ref (ad 6), .ref (ad 7), .ref (ad 8), .ref (ad 9), .int (nI si), .ref (ad 11), .int (nI at1), .int (nM (at1 + 1)), .int (nI dp), .int (nI pa), .ref (ad 16), .ref (ad 17), .ref (ad 18), .int (nI le), .ref (ad 20), .ref (ad 21), .ref (ad 22), .ref (ad 23), .ref (ad 24), .ref (ad 25), .ref (ad 26), .ref (ad 27), .ref (ad 28), .ref (ad 29), .ref (ad 30)]))]) (va_A [(md, .inr (8, [.int (nI th), .int (nI tp), .ref (ad 2), .int (nM pl), .ref (ad 4), .ref (ad 5), .ref (ad 6), .ref (ad 7), .ref (ad 8), .ref (ad 9), .int (nI si), .ref (ad 11), .int (nI at1), .int (nM 0), .int (nI dp), .int (nI pa), .ref (ad 16), .ref (ad 17), .ref (ad 18), .int (nI le), .ref (ad 20), .ref (ad 21), .ref (ad 22), .ref (ad 23), .ref (ad 24), .ref (ad 25), .ref (ad 26), .ref (ad 27), .ref (ad 28), .ref (ad 29), .ref (ad 30)]))] sz)) (va_A [(md, .inr (8, [.int (nI th), .int (nI tp), .ref (ad 2), .int (nM pl), .ref (ad 4), .ref (ad 5), .ref (ad 6), .ref (ad 7), .ref (ad 8), .ref (ad 9), .int (nI si), .ref (ad 11), .int (nI at1), .int (nM 0), .int (nI dp), .int (nI pa), .ref (ad 16), .ref (ad 17), .ref (ad 18), .int (nI le), .ref (ad 20), .ref (ad 21), .ref (ad 22), .ref (ad 23), .ref (ad 24), .ref (ad 25), .ref (ad 26), .ref (ad 27), .ref (ad 28), .ref (ad 29), .ref (ad 30)]))] sz)) 0 0 (va_A [(md, .inr (8, [.int (nI th), .int (nI tp), .ref (ad 2), .int (nM pl), .ref (ad 4), .ref (ad 5), .ref (ad 6), .ref (ad 7), .ref (ad 8), .ref (ad 9), .int (nI si), .ref (ad 11), .int (nI at1), .int (nM 0), .int (nI dp), .int (nI pa), .ref (ad 16), .ref (ad 17), .ref (ad 18), .int (nI le), .ref (ad 20), .ref (ad 21), .ref (ad 22), .ref (ad 23), .ref (ad 24), .ref (ad 25), .ref (ad 26), .ref (ad 27), .ref (ad 28), .ref (ad 29), .ref (ad 30)]))] sz) := by
  refine kMet (by decide) (Nat.le_of_ble_eq_true rfl) ?_
  intro p e s m below meth c ls hX hml hr hlocks hin hsz hW hl Q hQ
  generalize hAe : va_A [(md, .inr (8, [.int (nI th), .int (nI tp), .ref (ad 2), .int (nM pl), .ref (ad 4), .ref (ad 5), .ref (ad 6), .ref (ad 7), .ref (ad 8), .ref (ad 9), .int (nI si), .ref (ad 11), .int (nI at1), .int (nM 0), .int (nI dp), .int (nI pa), .ref (ad 16), .ref (ad 17), .ref (ad 18), .int (nI le), .ref (ad 20), .ref (ad 21), .ref (ad 22), .ref (ad 23), .ref (ad 24), .ref (ad 25), .ref (ad 26), .ref (ad 27), .ref (ad 28), .ref (ad 29), .ref (ad 30)]))] sz = A at hW hQ
  generalize hH0 : s.heap = H at hW ⊢
  generalize hl0 : ([] : List Loc) = locs at hW ⊢
  have hX : FX p s m c [.ref md, .int (nM 0)].toArray c_Md_atom R_Md := hX
  have hl : lv_has ls 2 [(0, .ref md), (1, .int (nM 0))] := hl
  refine lv_iload_n hX.1 hX.2.1 d_Md_atom_0 rfl (lv_at hl 1 rfl) ?_
  refine lv_bipush (v := nI 48) hX.1 hX.2.1 d_Md_atom_1 (by decide) ?_
  refine keq0 hX (tgt := 39) (by decide) d_Md_atom_3 (by decide) ?_
  refine lv_iload_n hX.1 hX.2.1 d_Md_atom_6 rfl (lv_at hl 1 rfl) ?_
  refine lv_bipush (v := nI 49) hX.1 hX.2.1 d_Md_atom_7 (by decide) ?_
  refine keq0 hX (tgt := 39) (by decide) d_Md_atom_9 (by decide) ?_
  refine lv_iload_n hX.1 hX.2.1 d_Md_atom_12 rfl (lv_at hl 1 rfl) ?_
  refine lv_bipush (v := nI 97) hX.1 hX.2.1 d_Md_atom_13 (by decide) ?_
  refine klt0 hX (tgt := 33) (by decide) d_Md_atom_15 (by decide) ?_
  refine lv_aload_n hX.1 hX.2.1 d_Md_atom_33 rfl (lv_at hl 0 rfl) ?_
  refine kCv (wc := [(md, .inr (8, [.int (nI th), .int (nI tp), .ref (ad 2), .int (nM pl), .ref (ad 4), .ref (ad 5), .ref (ad 6), .ref (ad 7), .ref (ad 8), .ref (ad 9), .int (nI si), .ref (ad 11), .int (nI at1), .int (nM 0), .int (nI dp), .int (nI pa), .ref (ad 16), .ref (ad 17), .ref (ad 18), .int (nI le), .ref (ad 20), .ref (ad 21), .ref (ad 22), .ref (ad 23), .ref (ad 24), .ref (ad 25), .ref (ad 26), .ref (ad 27), .ref (ad 28), .ref (ad 29), .ref (ad 30)]))]) hW [0] (by rfl) (by intro _; rfl) (kRunV (n := 0) (As := []) (rest := []) hX hml hW (ok_Md_wrong l D k H.size md ad th tp pl si at1 0 dp pa le (by decide)) m_Md_105 im_Md_wrong se_Md_wrong in_Md cd_Md_wrong [0] rfl rfl rfl rfl (by decide +kernel) ⟨rfl, rfl, Nat.le_of_ble_eq_true rfl, Nat.le_of_ble_eq_true rfl⟩ rfl hl.1 rfl (Nat.le_of_ble_eq_true rfl) d_Md_atom_34 ⟨by first | exact Nat.zero_le _ | decide | omega | (dsimp only; omega), by first | exact Nat.zero_le _ | decide | omega | (dsimp only; omega)⟩) (fun u H locs _ hW => ?_)
  have hW : KW D k A s [(md, .inr (8, [.int (nI th), .int (nI tp), .ref (ad 2), .int (nM pl), .ref (ad 4), .ref (ad 5), .ref (ad 6), .ref (ad 7), .ref (ad 8), .ref (ad 9), .int (nI si), .ref (ad 11), .int (nI at1), .int (nM (at1 + 1)), .int (nI dp), .int (nI pa), .ref (ad 16), .ref (ad 17), .ref (ad 18), .int (nI le), .ref (ad 20), .ref (ad 21), .ref (ad 22), .ref (ad 23), .ref (ad 24), .ref (ad 25), .ref (ad 26), .ref (ad 27), .ref (ad 28), .ref (ad 29), .ref (ad 30)]))] H locs := hW
  refine lv_iconst (v := nI 0) hX.1 hX.2.1 d_Md_atom_37 (by decide) ?_
  exact kiret hX hr hlocks hQ () (hW) (rfl) d_Md_atom_38
set_option maxHeartbeats 4000000 in
set_option maxRecDepth 100000 in
/-- atom(c), none -/
theorem ok_Md_atomBad (l : Launch) (D : va_G) (k : Nat → ClassId) (sz : Nat) (md : Nat) (ad : Nat → Nat) (th tp pl si at1 dp pa le : Nat) (sg : Nat) (hsg : sg < 256) (h48 : sg ≠ 48) (h49 : sg ≠ 49) (hlet : sg < 97 ∨ 100 < sg ∨ le = 8) (hle : le ≤ 8) : Met l y_Md_atom (.code y_Md_atom c_Md_atom 2 (some .int) :: wsU) ({ frames := 1, cells := 0, slots := 0, locals := 30 } : Room) (kPre D k [.ref md, .int (nI sg)] [(md, .inr (8, [.int (nI th), .int (nI tp), .ref (ad 2), .int (nM pl), .ref (ad 4), .ref (ad 5), .ref (ad 6), .ref (ad 7), .ref (ad 8), .ref (ad 9), .int (nI si), .ref (ad 11), .int (nI at1), .int (nM 0), .int (nI dp), .int (nI pa), .ref (ad 16), .ref (ad 17), .ref (ad 18), .int (nI le), .ref (ad 20), .ref (ad 21), .ref (ad 22), .ref (ad 23), .ref (ad 24), .ref (ad 25), .ref (ad 26), .ref (ad 27), .ref (ad 28), .ref (ad 29), .ref (ad 30)]))] sz) (va_Qi (fun (r : Int32) (_ : Unit) => r = nI 0) (kB D k (fun _ : Unit => [(md, .inr (8, [.int (nI th), .int (nI tp), .ref (ad 2), .int (nM pl), .ref (ad 4), .ref (ad 5), .ref (ad 6), .ref (ad 7), .ref (ad 8), .ref (ad 9), .int (nI si), .ref (ad 11), .int (nI at1), .int (nM (at1 + 1)), .int (nI dp), .int (nI pa), .ref (ad 16), .ref (ad 17), .ref (ad 18), .int (nI le), .ref (ad 20), .ref (ad 21), .ref (ad 22), .ref (ad 23), .ref (ad 24), .ref (ad 25), .ref (ad 26), .ref (ad 27), .ref (ad 28), .ref (ad 29), .ref (ad 30)]))]) (va_A [(md, .inr (8, [.int (nI th), .int (nI tp), .ref (ad 2), .int (nM pl), .ref (ad 4), .ref (ad 5), .ref (ad 6), .ref (ad 7), .ref (ad 8), .ref (ad 9), .int (nI si), .ref (ad 11), .int (nI at1), .int (nM 0), .int (nI dp), .int (nI pa), .ref (ad 16), .ref (ad 17), .ref (ad 18), .int (nI le), .ref (ad 20), .ref (ad 21), .ref (ad 22), .ref (ad 23), .ref (ad 24), .ref (ad 25), .ref (ad 26), .ref (ad 27), .ref (ad 28), .ref (ad 29), .ref (ad 30)]))] sz)) (va_A [(md, .inr (8, [.int (nI th), .int (nI tp), .ref (ad 2), .int (nM pl), .ref (ad 4), .ref (ad 5), .ref (ad 6), .ref (ad 7), .ref (ad 8), .ref (ad 9), .int (nI si), .ref (ad 11), .int (nI at1), .int (nM 0), .int (nI dp), .int (nI pa), .ref (ad 16), .ref (ad 17), .ref (ad 18), .int (nI le), .ref (ad 20), .ref (ad 21), .ref (ad 22), .ref (ad 23), .ref (ad 24), .ref (ad 25), .ref (ad 26), .ref (ad 27), .ref (ad 28), .ref (ad 29), .ref (ad 30)]))] sz)) 0 0 (va_A [(md, .inr (8, [.int (nI th), .int (nI tp), .ref (ad 2), .int (nM pl), .ref (ad 4), .ref (ad 5), .ref (ad 6), .ref (ad 7), .ref (ad 8), .ref (ad 9), .int (nI si), .ref (ad 11), .int (nI at1), .int (nM 0), .int (nI dp), .int (nI pa), .ref (ad 16), .ref (ad 17), .ref (ad 18), .int (nI le), .ref (ad 20), .ref (ad 21), .ref (ad 22), .ref (ad 23), .ref (ad 24), .ref (ad 25), .ref (ad 26), .ref (ad 27), .ref (ad 28), .ref (ad 29), .ref (ad 30)]))] sz) := by
  refine kMet (by decide) (Nat.le_of_ble_eq_true rfl) ?_
  intro p e s m below meth c ls hX hml hr hlocks hin hsz hW hl Q hQ
  generalize hAe : va_A [(md, .inr (8, [.int (nI th), .int (nI tp), .ref (ad 2), .int (nM pl), .ref (ad 4), .ref (ad 5), .ref (ad 6), .ref (ad 7), .ref (ad 8), .ref (ad 9), .int (nI si), .ref (ad 11), .int (nI at1), .int (nM 0), .int (nI dp), .int (nI pa), .ref (ad 16), .ref (ad 17), .ref (ad 18), .int (nI le), .ref (ad 20), .ref (ad 21), .ref (ad 22), .ref (ad 23), .ref (ad 24), .ref (ad 25), .ref (ad 26), .ref (ad 27), .ref (ad 28), .ref (ad 29), .ref (ad 30)]))] sz = A at hW hQ
  generalize hH0 : s.heap = H at hW ⊢
  generalize hl0 : ([] : List Loc) = locs at hW ⊢
  have hX : FX p s m c [.ref md, .int (nI sg)].toArray c_Md_atom R_Md := hX
  have hl : lv_has ls 2 [(0, .ref md), (1, .int (nI sg))] := hl
  refine lv_iload_n hX.1 hX.2.1 d_Md_atom_0 rfl (lv_at hl 1 rfl) ?_
  refine lv_bipush (v := nI 48) hX.1 hX.2.1 d_Md_atom_1 (by decide) ?_
  refine keq hX (tgt := 39) (by omega) (by omega) d_Md_atom_3 (by decide) (fun h1 => ?_) (fun h1 => ?_)
  · exact absurd h1 h48
  · refine lv_iload_n hX.1 hX.2.1 d_Md_atom_6 rfl (lv_at hl 1 rfl) ?_
    refine lv_bipush (v := nI 49) hX.1 hX.2.1 d_Md_atom_7 (by decide) ?_
    refine keq hX (tgt := 39) (by omega) (by omega) d_Md_atom_9 (by decide) (fun h2 => ?_) (fun h2 => ?_)
    · exact absurd h2 h49
    · refine lv_iload_n hX.1 hX.2.1 d_Md_atom_12 rfl (lv_at hl 1 rfl) ?_
      refine lv_bipush (v := nI 97) hX.1 hX.2.1 d_Md_atom_13 (by decide) ?_
      refine klt hX (tgt := 33) (by omega) (by omega) d_Md_atom_15 (by decide) (fun h3 => ?_) (fun h3 => ?_)
      · refine lv_aload_n hX.1 hX.2.1 d_Md_atom_33 rfl (lv_at hl 0 rfl) ?_
        refine kCv (wc := [(md, .inr (8, [.int (nI th), .int (nI tp), .ref (ad 2), .int (nM pl), .ref (ad 4), .ref (ad 5), .ref (ad 6), .ref (ad 7), .ref (ad 8), .ref (ad 9), .int (nI si), .ref (ad 11), .int (nI at1), .int (nM 0), .int (nI dp), .int (nI pa), .ref (ad 16), .ref (ad 17), .ref (ad 18), .int (nI le), .ref (ad 20), .ref (ad 21), .ref (ad 22), .ref (ad 23), .ref (ad 24), .ref (ad 25), .ref (ad 26), .ref (ad 27), .ref (ad 28), .ref (ad 29), .ref (ad 30)]))]) hW [0] (by rfl) (by intro _; rfl) (kRunV (n := 0) (As := []) (rest := []) hX hml hW (ok_Md_wrong l D k H.size md ad th tp pl si at1 0 dp pa le (by decide)) m_Md_105 im_Md_wrong se_Md_wrong in_Md cd_Md_wrong [0] rfl rfl rfl rfl (by decide +kernel) ⟨rfl, rfl, Nat.le_of_ble_eq_true rfl, Nat.le_of_ble_eq_true rfl⟩ rfl hl.1 rfl (Nat.le_of_ble_eq_true rfl) d_Md_atom_34 ⟨by first | exact Nat.zero_le _ | decide | omega | (dsimp only; omega), by first | exact Nat.zero_le _ | decide | omega | (dsimp only; omega)⟩) (fun u H locs _ hW => ?_)
        have hW : KW D k A s [(md, .inr (8, [.int (nI th), .int (nI tp), .ref (ad 2), .int (nM pl), .ref (ad 4), .ref (ad 5), .ref (ad 6), .ref (ad 7), .ref (ad 8), .ref (ad 9), .int (nI si), .ref (ad 11), .int (nI at1), .int (nM (at1 + 1)), .int (nI dp), .int (nI pa), .ref (ad 16), .ref (ad 17), .ref (ad 18), .int (nI le), .ref (ad 20), .ref (ad 21), .ref (ad 22), .ref (ad 23), .ref (ad 24), .ref (ad 25), .ref (ad 26), .ref (ad 27), .ref (ad 28), .ref (ad 29), .ref (ad 30)]))] H locs := hW
        refine lv_iconst (v := nI 0) hX.1 hX.2.1 d_Md_atom_37 (by decide) ?_
        exact kiret hX hr hlocks hQ () (hW) (rfl) d_Md_atom_38
      · refine lv_iload_n hX.1 hX.2.1 d_Md_atom_18 rfl (lv_at hl 1 rfl) ?_
        refine lv_bipush (v := nI 100) hX.1 hX.2.1 d_Md_atom_19 (by decide) ?_
        refine kgt hX (tgt := 33) (by omega) (by omega) d_Md_atom_21 (by decide) (fun h4 => ?_) (fun h4 => ?_)
        · refine lv_aload_n hX.1 hX.2.1 d_Md_atom_33 rfl (lv_at hl 0 rfl) ?_
          refine kCv (wc := [(md, .inr (8, [.int (nI th), .int (nI tp), .ref (ad 2), .int (nM pl), .ref (ad 4), .ref (ad 5), .ref (ad 6), .ref (ad 7), .ref (ad 8), .ref (ad 9), .int (nI si), .ref (ad 11), .int (nI at1), .int (nM 0), .int (nI dp), .int (nI pa), .ref (ad 16), .ref (ad 17), .ref (ad 18), .int (nI le), .ref (ad 20), .ref (ad 21), .ref (ad 22), .ref (ad 23), .ref (ad 24), .ref (ad 25), .ref (ad 26), .ref (ad 27), .ref (ad 28), .ref (ad 29), .ref (ad 30)]))]) hW [0] (by rfl) (by intro _; rfl) (kRunV (n := 0) (As := []) (rest := []) hX hml hW (ok_Md_wrong l D k H.size md ad th tp pl si at1 0 dp pa le (by decide)) m_Md_105 im_Md_wrong se_Md_wrong in_Md cd_Md_wrong [0] rfl rfl rfl rfl (by decide +kernel) ⟨rfl, rfl, Nat.le_of_ble_eq_true rfl, Nat.le_of_ble_eq_true rfl⟩ rfl hl.1 rfl (Nat.le_of_ble_eq_true rfl) d_Md_atom_34 ⟨by first | exact Nat.zero_le _ | decide | omega | (dsimp only; omega), by first | exact Nat.zero_le _ | decide | omega | (dsimp only; omega)⟩) (fun u H locs _ hW => ?_)
          have hW : KW D k A s [(md, .inr (8, [.int (nI th), .int (nI tp), .ref (ad 2), .int (nM pl), .ref (ad 4), .ref (ad 5), .ref (ad 6), .ref (ad 7), .ref (ad 8), .ref (ad 9), .int (nI si), .ref (ad 11), .int (nI at1), .int (nM (at1 + 1)), .int (nI dp), .int (nI pa), .ref (ad 16), .ref (ad 17), .ref (ad 18), .int (nI le), .ref (ad 20), .ref (ad 21), .ref (ad 22), .ref (ad 23), .ref (ad 24), .ref (ad 25), .ref (ad 26), .ref (ad 27), .ref (ad 28), .ref (ad 29), .ref (ad 30)]))] H locs := hW
          refine lv_iconst (v := nI 0) hX.1 hX.2.1 d_Md_atom_37 (by decide) ?_
          exact kiret hX hr hlocks hQ () (hW) (rfl) d_Md_atom_38
        · refine lv_aload_n hX.1 hX.2.1 d_Md_atom_24 rfl (lv_at hl 0 rfl) ?_
          refine kget hX hW i_Md 0 rfl rfl 19 (by decide) f_Md_102 rfl rfl d_Md_atom_25 ?_
          refine lv_bipush (v := nI 8) hX.1 hX.2.1 d_Md_atom_28 (by decide) ?_
          refine kne hX (tgt := 39) (by omega) (by omega) d_Md_atom_30 (by decide) (fun h5 => ?_) (fun h5 => ?_)
          · exfalso
            omega
          · refine lv_aload_n hX.1 hX.2.1 d_Md_atom_33 rfl (lv_at hl 0 rfl) ?_
            refine kCv (wc := [(md, .inr (8, [.int (nI th), .int (nI tp), .ref (ad 2), .int (nM pl), .ref (ad 4), .ref (ad 5), .ref (ad 6), .ref (ad 7), .ref (ad 8), .ref (ad 9), .int (nI si), .ref (ad 11), .int (nI at1), .int (nM 0), .int (nI dp), .int (nI pa), .ref (ad 16), .ref (ad 17), .ref (ad 18), .int (nI le), .ref (ad 20), .ref (ad 21), .ref (ad 22), .ref (ad 23), .ref (ad 24), .ref (ad 25), .ref (ad 26), .ref (ad 27), .ref (ad 28), .ref (ad 29), .ref (ad 30)]))]) hW [0] (by rfl) (by intro _; rfl) (kRunV (n := 0) (As := []) (rest := []) hX hml hW (ok_Md_wrong l D k H.size md ad th tp pl si at1 0 dp pa le (by decide)) m_Md_105 im_Md_wrong se_Md_wrong in_Md cd_Md_wrong [0] rfl rfl rfl rfl (by decide +kernel) ⟨rfl, rfl, Nat.le_of_ble_eq_true rfl, Nat.le_of_ble_eq_true rfl⟩ rfl hl.1 rfl (Nat.le_of_ble_eq_true rfl) d_Md_atom_34 ⟨by first | exact Nat.zero_le _ | decide | omega | (dsimp only; omega), by first | exact Nat.zero_le _ | decide | omega | (dsimp only; omega)⟩) (fun u H locs _ hW => ?_)
            have hW : KW D k A s [(md, .inr (8, [.int (nI th), .int (nI tp), .ref (ad 2), .int (nM pl), .ref (ad 4), .ref (ad 5), .ref (ad 6), .ref (ad 7), .ref (ad 8), .ref (ad 9), .int (nI si), .ref (ad 11), .int (nI at1), .int (nM (at1 + 1)), .int (nI dp), .int (nI pa), .ref (ad 16), .ref (ad 17), .ref (ad 18), .int (nI le), .ref (ad 20), .ref (ad 21), .ref (ad 22), .ref (ad 23), .ref (ad 24), .ref (ad 25), .ref (ad 26), .ref (ad 27), .ref (ad 28), .ref (ad 29), .ref (ad 30)]))] H locs := hW
            refine lv_iconst (v := nI 0) hX.1 hX.2.1 d_Md_atom_37 (by decide) ?_
            exact kiret hX hr hlocks hQ () (hW) (rfl) d_Md_atom_38
set_option maxHeartbeats 4000000 in
set_option maxRecDepth 100000 in
/-- atom 0 or 1 -/
theorem ok_Md_atom01 (l : Launch) (D : va_G) (k : Nat → ClassId) (sz : Nat) (md : Nat) (ad : Nat → Nat) (th tp pl si at1 dp pa le : Nat) (PE PF PL : Nat → Nat) (sg : Nat) (hsg : sg = 48 ∨ sg = 49) (hpa : pa < 400) : Met l y_Md_atom (.code y_Md_atom c_Md_atom 2 (some .int) :: wsU) ({ frames := 1, cells := 0, slots := 0, locals := 30 } : Room) (kPre D k [.ref md, .int (nI sg)] [(md, .inr (8, [.int (nI th), .int (nI tp), .ref (ad 2), .int (nM pl), .ref (ad 4), .ref (ad 5), .ref (ad 6), .ref (ad 7), .ref (ad 8), .ref (ad 9), .int (nI si), .ref (ad 11), .int (nI at1), .int (nM 0), .int (nI dp), .int (nI pa), .ref (ad 16), .ref (ad 17), .ref (ad 18), .int (nI le), .ref (ad 20), .ref (ad 21), .ref (ad 22), .ref (ad 23), .ref (ad 24), .ref (ad 25), .ref (ad 26), .ref (ad 27), .ref (ad 28), .ref (ad 29), .ref (ad 30)])), (ad 16, .inl (k 2, 400, .inl (aN PE))), (ad 17, .inl (k 0, 400, .inl (aN PF))), (ad 18, .inl (k 0, 400, .inl (aN PL)))] sz) (va_Qi (fun (r : Int32) (_ : Unit) => r = nI pa) (kB D k (fun _ : Unit => [(md, .inr (8, [.int (nI th), .int (nI tp), .ref (ad 2), .int (nM pl), .ref (ad 4), .ref (ad 5), .ref (ad 6), .ref (ad 7), .ref (ad 8), .ref (ad 9), .int (nI si), .ref (ad 11), .int (nI (at1 + 1)), .int (nM 0), .int (nI dp), .int (nI (pa + 1)), .ref (ad 16), .ref (ad 17), .ref (ad 18), .int (nI le), .ref (ad 20), .ref (ad 21), .ref (ad 22), .ref (ad 23), .ref (ad 24), .ref (ad 25), .ref (ad 26), .ref (ad 27), .ref (ad 28), .ref (ad 29), .ref (ad 30)])), (ad 16, .inl (k 2, 400, .inl (aN (va_up PE pa (decide (sg = 49)).toNat)))), (ad 17, .inl (k 0, 400, .inl (aN (va_up PF pa 0)))), (ad 18, .inl (k 0, 400, .inl (aN (va_up PL pa 0))))]) (va_A [(md, .inr (8, [.int (nI th), .int (nI tp), .ref (ad 2), .int (nM pl), .ref (ad 4), .ref (ad 5), .ref (ad 6), .ref (ad 7), .ref (ad 8), .ref (ad 9), .int (nI si), .ref (ad 11), .int (nI at1), .int (nM 0), .int (nI dp), .int (nI pa), .ref (ad 16), .ref (ad 17), .ref (ad 18), .int (nI le), .ref (ad 20), .ref (ad 21), .ref (ad 22), .ref (ad 23), .ref (ad 24), .ref (ad 25), .ref (ad 26), .ref (ad 27), .ref (ad 28), .ref (ad 29), .ref (ad 30)])), (ad 16, .inl (k 2, 400, .inl (aN PE))), (ad 17, .inl (k 0, 400, .inl (aN PF))), (ad 18, .inl (k 0, 400, .inl (aN PL)))] sz)) (va_A [(md, .inr (8, [.int (nI th), .int (nI tp), .ref (ad 2), .int (nM pl), .ref (ad 4), .ref (ad 5), .ref (ad 6), .ref (ad 7), .ref (ad 8), .ref (ad 9), .int (nI si), .ref (ad 11), .int (nI at1), .int (nM 0), .int (nI dp), .int (nI pa), .ref (ad 16), .ref (ad 17), .ref (ad 18), .int (nI le), .ref (ad 20), .ref (ad 21), .ref (ad 22), .ref (ad 23), .ref (ad 24), .ref (ad 25), .ref (ad 26), .ref (ad 27), .ref (ad 28), .ref (ad 29), .ref (ad 30)])), (ad 16, .inl (k 2, 400, .inl (aN PE))), (ad 17, .inl (k 0, 400, .inl (aN PF))), (ad 18, .inl (k 0, 400, .inl (aN PL)))] sz)) 0 0 (va_A [(md, .inr (8, [.int (nI th), .int (nI tp), .ref (ad 2), .int (nM pl), .ref (ad 4), .ref (ad 5), .ref (ad 6), .ref (ad 7), .ref (ad 8), .ref (ad 9), .int (nI si), .ref (ad 11), .int (nI at1), .int (nM 0), .int (nI dp), .int (nI pa), .ref (ad 16), .ref (ad 17), .ref (ad 18), .int (nI le), .ref (ad 20), .ref (ad 21), .ref (ad 22), .ref (ad 23), .ref (ad 24), .ref (ad 25), .ref (ad 26), .ref (ad 27), .ref (ad 28), .ref (ad 29), .ref (ad 30)])), (ad 16, .inl (k 2, 400, .inl (aN PE))), (ad 17, .inl (k 0, 400, .inl (aN PF))), (ad 18, .inl (k 0, 400, .inl (aN PL)))] sz) := by
  refine kMet (by decide) (Nat.le_of_ble_eq_true rfl) ?_
  intro p e s m below meth c ls hX hml hr hlocks hin hsz hW hl Q hQ
  generalize hAe : va_A [(md, .inr (8, [.int (nI th), .int (nI tp), .ref (ad 2), .int (nM pl), .ref (ad 4), .ref (ad 5), .ref (ad 6), .ref (ad 7), .ref (ad 8), .ref (ad 9), .int (nI si), .ref (ad 11), .int (nI at1), .int (nM 0), .int (nI dp), .int (nI pa), .ref (ad 16), .ref (ad 17), .ref (ad 18), .int (nI le), .ref (ad 20), .ref (ad 21), .ref (ad 22), .ref (ad 23), .ref (ad 24), .ref (ad 25), .ref (ad 26), .ref (ad 27), .ref (ad 28), .ref (ad 29), .ref (ad 30)])), (ad 16, .inl (k 2, 400, .inl (aN PE))), (ad 17, .inl (k 0, 400, .inl (aN PF))), (ad 18, .inl (k 0, 400, .inl (aN PL)))] sz = A at hW hQ
  generalize hH0 : s.heap = H at hW ⊢
  generalize hl0 : ([] : List Loc) = locs at hW ⊢
  have hX : FX p s m c [.ref md, .int (nI sg)].toArray c_Md_atom R_Md := hX
  have hl : lv_has ls 2 [(0, .ref md), (1, .int (nI sg))] := hl
  have k39 : W p l e ({ frames := 1, cells := 0, slots := 0, locals := 30 } : Room) s m [.ref md, .int (nI sg)].toArray below meth c H locs 0 0 Q (F0 m 39 ls []) := by
    refine lv_aload_n hX.1 hX.2.1 d_Md_atom_39 rfl (lv_at hl 0 rfl) ?_
    refine lv_dup hX.1 hX.2.1 d_Md_atom_40 rfl ?_
    refine kget hX hW i_Md 0 rfl rfl 12 (by decide) f_Md_93 rfl rfl d_Md_atom_41 ?_
    refine lv_iconst (v := nI 1) hX.1 hX.2.1 d_Md_atom_44 (by decide) ?_
    refine lv_iadd hX.1 hX.2.1 d_Md_atom_45 ?_
    refine tpi (y := nI (at1 + 1)) (nI_1 _) ?_
    refine kput hX hW i_Md t_Md t_Md_ok n_Md 0 rfl rfl 12 (by decide) f_Md_93 rfl rfl (rfl) (rfl) (Nat.le_of_ble_eq_true rfl) d_Md_atom_46 (fun H locs hW => ?_)
    have hW : KW D k A s [(md, .inr (8, [.int (nI th), .int (nI tp), .ref (ad 2), .int (nM pl), .ref (ad 4), .ref (ad 5), .ref (ad 6), .ref (ad 7), .ref (ad 8), .ref (ad 9), .int (nI si), .ref (ad 11), .int (nI (at1 + 1)), .int (nM 0), .int (nI dp), .int (nI pa), .ref (ad 16), .ref (ad 17), .ref (ad 18), .int (nI le), .ref (ad 20), .ref (ad 21), .ref (ad 22), .ref (ad 23), .ref (ad 24), .ref (ad 25), .ref (ad 26), .ref (ad 27), .ref (ad 28), .ref (ad 29), .ref (ad 30)])), (ad 16, .inl (k 2, 400, .inl (aN PE))), (ad 17, .inl (k 0, 400, .inl (aN PF))), (ad 18, .inl (k 0, 400, .inl (aN PL)))] H locs := hW
    refine lv_iload_n hX.1 hX.2.1 d_Md_atom_49 rfl (lv_at hl 1 rfl) ?_
    refine lv_bipush (v := nI 48) hX.1 hX.2.1 d_Md_atom_50 (by decide) ?_
    have k61 : ∀ (H : Heap) (locs : List Loc), KW D k A s [(md, .inr (8, [.int (nI th), .int (nI tp), .ref (ad 2), .int (nM pl), .ref (ad 4), .ref (ad 5), .ref (ad 6), .ref (ad 7), .ref (ad 8), .ref (ad 9), .int (nI si), .ref (ad 11), .int (nI (at1 + 1)), .int (nM 0), .int (nI dp), .int (nI pa), .ref (ad 16), .ref (ad 17), .ref (ad 18), .int (nI le), .ref (ad 20), .ref (ad 21), .ref (ad 22), .ref (ad 23), .ref (ad 24), .ref (ad 25), .ref (ad 26), .ref (ad 27), .ref (ad 28), .ref (ad 29), .ref (ad 30)])), (ad 16, .inl (k 2, 400, .inl (aN PE))), (ad 17, .inl (k 0, 400, .inl (aN PF))), (ad 18, .inl (k 0, 400, .inl (aN PL)))] H locs → W p l e ({ frames := 1, cells := 0, slots := 0, locals := 30 } : Room) s m [.ref md, .int (nI sg)].toArray below meth c H locs 0 0 Q (F0 m 61 ls []) := by
      intro H locs hW
      refine lv_aload_n hX.1 hX.2.1 d_Md_atom_61 rfl (lv_at hl 0 rfl) ?_
      refine lv_iload_n hX.1 hX.2.1 d_Md_atom_62 rfl (lv_at hl 1 rfl) ?_
      refine lv_bipush (v := nI 49) hX.1 hX.2.1 d_Md_atom_63 (by decide) ?_
      have k73 : ∀ (vv : Nat), vv = (decide (sg = 49)).toNat → W p l e ({ frames := 1, cells := 0, slots := 0, locals := 30 } : Room) s m [.ref md, .int (nI sg)].toArray below meth c H locs 0 0 Q (F0 m 73 ls [.int (nI vv), .ref md]) := by
        intro vv hvv
        subst hvv
        refine lv_iconst (v := nI 0) hX.1 hX.2.1 d_Md_atom_73 (by decide) ?_
        refine lv_iconst (v := nI 0) hX.1 hX.2.1 d_Md_atom_74 (by decide) ?_
        refine kCi (wc := [(md, .inr (8, [.int (nI th), .int (nI tp), .ref (ad 2), .int (nM pl), .ref (ad 4), .ref (ad 5), .ref (ad 6), .ref (ad 7), .ref (ad 8), .ref (ad 9), .int (nI si), .ref (ad 11), .int (nI (at1 + 1)), .int (nM 0), .int (nI dp), .int (nI pa), .ref (ad 16), .ref (ad 17), .ref (ad 18), .int (nI le), .ref (ad 20), .ref (ad 21), .ref (ad 22), .ref (ad 23), .ref (ad 24), .ref (ad 25), .ref (ad 26), .ref (ad 27), .ref (ad 28), .ref (ad 29), .ref (ad 30)])), (ad 16, .inl (k 2, 400, .inl (aN PE))), (ad 17, .inl (k 0, 400, .inl (aN PF))), (ad 18, .inl (k 0, 400, .inl (aN PL)))]) hW [0, 1, 2, 3] (by rfl) (by intro _; rfl) (kRunV (n := 3) (As := [.int (nI ((decide (sg = 49)).toNat)), .int (nI 0), .int (nI 0)]) (rest := []) hX hml hW (ok_Md_part l D k H.size md ad th tp pl si (at1 + 1) 0 dp pa le PE PF PL (decide (sg = 49)) 0 0 hpa) m_Md_107 im_Md_part se_Md_part in_Md cd_Md_part [0, 1, 2, 3] rfl rfl rfl rfl (by decide +kernel) ⟨rfl, rfl, Nat.le_of_ble_eq_true rfl, Nat.le_of_ble_eq_true rfl⟩ rfl hl.1 rfl (Nat.le_of_ble_eq_true rfl) d_Md_atom_75 ⟨by first | exact Nat.zero_le _ | decide | omega | (dsimp only; omega), by first | exact Nat.zero_le _ | decide | omega | (dsimp only; omega)⟩) (fun r u H locs hr1 hW => ?_)
        have hW : KW D k A s [(md, .inr (8, [.int (nI th), .int (nI tp), .ref (ad 2), .int (nM pl), .ref (ad 4), .ref (ad 5), .ref (ad 6), .ref (ad 7), .ref (ad 8), .ref (ad 9), .int (nI si), .ref (ad 11), .int (nI (at1 + 1)), .int (nM 0), .int (nI dp), .int (nI (pa + 1)), .ref (ad 16), .ref (ad 17), .ref (ad 18), .int (nI le), .ref (ad 20), .ref (ad 21), .ref (ad 22), .ref (ad 23), .ref (ad 24), .ref (ad 25), .ref (ad 26), .ref (ad 27), .ref (ad 28), .ref (ad 29), .ref (ad 30)])), (ad 16, .inl (k 2, 400, .inl (aN (va_up PE pa (decide (sg = 49)).toNat)))), (ad 17, .inl (k 0, 400, .inl (aN (va_up PF pa 0)))), (ad 18, .inl (k 0, 400, .inl (aN (va_up PL pa 0))))] H locs := hW
        subst hr1
        exact kiret hX hr hlocks hQ () (hW) (rfl) d_Md_atom_78
      refine kne hX (tgt := 72) (by omega) (by omega) d_Md_atom_65 (by decide) (fun h5 => ?_) (fun h5 => ?_)
      · refine lv_iconst (v := nI 0) hX.1 hX.2.1 d_Md_atom_72 (by decide) ?_
        exact k73 _ (by simp [h5])
      · refine lv_iconst (v := nI 1) hX.1 hX.2.1 d_Md_atom_68 (by decide) ?_
        refine lv_goto (tgt := 73) hX.1 hX.2.1 d_Md_atom_69 (by decide) ?_
        exact k73 _ (by simp [h5])
    refine keq hX (tgt := 61) (by omega) (by omega) d_Md_atom_52 (by decide) (fun h3 => ?_) (fun h3 => ?_)
    · exact k61 H locs hW
    · refine lv_iload_n hX.1 hX.2.1 d_Md_atom_55 rfl (lv_at hl 1 rfl) ?_
      refine lv_bipush (v := nI 49) hX.1 hX.2.1 d_Md_atom_56 (by decide) ?_
      refine kne hX (tgt := 79) (by omega) (by omega) d_Md_atom_58 (by decide) (fun h4 => ?_) (fun h4 => ?_)
      · omega
      · exact k61 H locs hW
  refine lv_iload_n hX.1 hX.2.1 d_Md_atom_0 rfl (lv_at hl 1 rfl) ?_
  refine lv_bipush (v := nI 48) hX.1 hX.2.1 d_Md_atom_1 (by decide) ?_
  refine keq hX (tgt := 39) (by omega) (by omega) d_Md_atom_3 (by decide) (fun h1 => ?_) (fun h1 => ?_)
  · exact k39
  · refine lv_iload_n hX.1 hX.2.1 d_Md_atom_6 rfl (lv_at hl 1 rfl) ?_
    refine lv_bipush (v := nI 49) hX.1 hX.2.1 d_Md_atom_7 (by decide) ?_
    refine keq hX (tgt := 39) (by omega) (by omega) d_Md_atom_9 (by decide) (fun h2 => ?_) (fun h2 => ?_)
    · exact k39
    · omega
set_option maxHeartbeats 4000000 in
set_option maxRecDepth 100000 in
/-- atom, a letter -/
theorem ok_Md_atomL (l : Launch) (D : va_G) (k : Nat → ClassId) (sz : Nat) (md : Nat) (ad : Nat → Nat) (th tp pl si at1 dp pa le : Nat) (PE PF PL NL NF : Nat → Nat) (sg : Nat) (h97 : 97 ≤ sg) (h100 : sg ≤ 100) (hle : le < 8) (hpa : pa < 400) : Met l y_Md_atom (.code y_Md_atom c_Md_atom 2 (some .int) :: wsU) ({ frames := 1, cells := 0, slots := 0, locals := 30 } : Room) (kPre D k [.ref md, .int (nI sg)] [(md, .inr (8, [.int (nI th), .int (nI tp), .ref (ad 2), .int (nM pl), .ref (ad 4), .ref (ad 5), .ref (ad 6), .ref (ad 7), .ref (ad 8), .ref (ad 9), .int (nI si), .ref (ad 11), .int (nI at1), .int (nM 0), .int (nI dp), .int (nI pa), .ref (ad 16), .ref (ad 17), .ref (ad 18), .int (nI le), .ref (ad 20), .ref (ad 21), .ref (ad 22), .ref (ad 23), .ref (ad 24), .ref (ad 25), .ref (ad 26), .ref (ad 27), .ref (ad 28), .ref (ad 29), .ref (ad 30)])), (ad 16, .inl (k 2, 400, .inl (aN PE))), (ad 17, .inl (k 0, 400, .inl (aN PF))), (ad 18, .inl (k 0, 400, .inl (aN PL))), (ad 20, .inl (k 0, 8, .inl (aN NL))), (ad 21, .inl (k 0, 8, .inl (aN NF)))] sz) (va_Qi (fun (r : Int32) (_ : Unit) => r = nI pa) (kB D k (fun _ : Unit => [(md, .inr (8, [.int (nI th), .int (nI tp), .ref (ad 2), .int (nM pl), .ref (ad 4), .ref (ad 5), .ref (ad 6), .ref (ad 7), .ref (ad 8), .ref (ad 9), .int (nI si), .ref (ad 11), .int (nI (at1 + 1)), .int (nM 0), .int (nI dp), .int (nI (pa + 1)), .ref (ad 16), .ref (ad 17), .ref (ad 18), .int (nI (le + 1)), .ref (ad 20), .ref (ad 21), .ref (ad 22), .ref (ad 23), .ref (ad 24), .ref (ad 25), .ref (ad 26), .ref (ad 27), .ref (ad 28), .ref (ad 29), .ref (ad 30)])), (ad 16, .inl (k 2, 400, .inl (aN (va_up PE pa false.toNat)))), (ad 17, .inl (k 0, 400, .inl (aN (va_up PF pa (2 ^ le))))), (ad 18, .inl (k 0, 400, .inl (aN (va_up PL pa (2 ^ le))))), (ad 20, .inl (k 0, 8, .inl (aN (va_up NL le (sg - 97))))), (ad 21, .inl (k 0, 8, .inl (aN (va_up NF le 0))))]) (va_A [(md, .inr (8, [.int (nI th), .int (nI tp), .ref (ad 2), .int (nM pl), .ref (ad 4), .ref (ad 5), .ref (ad 6), .ref (ad 7), .ref (ad 8), .ref (ad 9), .int (nI si), .ref (ad 11), .int (nI at1), .int (nM 0), .int (nI dp), .int (nI pa), .ref (ad 16), .ref (ad 17), .ref (ad 18), .int (nI le), .ref (ad 20), .ref (ad 21), .ref (ad 22), .ref (ad 23), .ref (ad 24), .ref (ad 25), .ref (ad 26), .ref (ad 27), .ref (ad 28), .ref (ad 29), .ref (ad 30)])), (ad 16, .inl (k 2, 400, .inl (aN PE))), (ad 17, .inl (k 0, 400, .inl (aN PF))), (ad 18, .inl (k 0, 400, .inl (aN PL))), (ad 20, .inl (k 0, 8, .inl (aN NL))), (ad 21, .inl (k 0, 8, .inl (aN NF)))] sz)) (va_A [(md, .inr (8, [.int (nI th), .int (nI tp), .ref (ad 2), .int (nM pl), .ref (ad 4), .ref (ad 5), .ref (ad 6), .ref (ad 7), .ref (ad 8), .ref (ad 9), .int (nI si), .ref (ad 11), .int (nI at1), .int (nM 0), .int (nI dp), .int (nI pa), .ref (ad 16), .ref (ad 17), .ref (ad 18), .int (nI le), .ref (ad 20), .ref (ad 21), .ref (ad 22), .ref (ad 23), .ref (ad 24), .ref (ad 25), .ref (ad 26), .ref (ad 27), .ref (ad 28), .ref (ad 29), .ref (ad 30)])), (ad 16, .inl (k 2, 400, .inl (aN PE))), (ad 17, .inl (k 0, 400, .inl (aN PF))), (ad 18, .inl (k 0, 400, .inl (aN PL))), (ad 20, .inl (k 0, 8, .inl (aN NL))), (ad 21, .inl (k 0, 8, .inl (aN NF)))] sz)) 0 0 (va_A [(md, .inr (8, [.int (nI th), .int (nI tp), .ref (ad 2), .int (nM pl), .ref (ad 4), .ref (ad 5), .ref (ad 6), .ref (ad 7), .ref (ad 8), .ref (ad 9), .int (nI si), .ref (ad 11), .int (nI at1), .int (nM 0), .int (nI dp), .int (nI pa), .ref (ad 16), .ref (ad 17), .ref (ad 18), .int (nI le), .ref (ad 20), .ref (ad 21), .ref (ad 22), .ref (ad 23), .ref (ad 24), .ref (ad 25), .ref (ad 26), .ref (ad 27), .ref (ad 28), .ref (ad 29), .ref (ad 30)])), (ad 16, .inl (k 2, 400, .inl (aN PE))), (ad 17, .inl (k 0, 400, .inl (aN PF))), (ad 18, .inl (k 0, 400, .inl (aN PL))), (ad 20, .inl (k 0, 8, .inl (aN NL))), (ad 21, .inl (k 0, 8, .inl (aN NF)))] sz) := by
  refine kMet (by decide) (Nat.le_of_ble_eq_true rfl) ?_
  intro p e s m below meth c ls hX hml hr hlocks hin hsz hW hl Q hQ
  generalize hAe : va_A [(md, .inr (8, [.int (nI th), .int (nI tp), .ref (ad 2), .int (nM pl), .ref (ad 4), .ref (ad 5), .ref (ad 6), .ref (ad 7), .ref (ad 8), .ref (ad 9), .int (nI si), .ref (ad 11), .int (nI at1), .int (nM 0), .int (nI dp), .int (nI pa), .ref (ad 16), .ref (ad 17), .ref (ad 18), .int (nI le), .ref (ad 20), .ref (ad 21), .ref (ad 22), .ref (ad 23), .ref (ad 24), .ref (ad 25), .ref (ad 26), .ref (ad 27), .ref (ad 28), .ref (ad 29), .ref (ad 30)])), (ad 16, .inl (k 2, 400, .inl (aN PE))), (ad 17, .inl (k 0, 400, .inl (aN PF))), (ad 18, .inl (k 0, 400, .inl (aN PL))), (ad 20, .inl (k 0, 8, .inl (aN NL))), (ad 21, .inl (k 0, 8, .inl (aN NF)))] sz = A at hW hQ
  generalize hH0 : s.heap = H at hW ⊢
  generalize hl0 : ([] : List Loc) = locs at hW ⊢
  have hX : FX p s m c [.ref md, .int (nI sg)].toArray c_Md_atom R_Md := hX
  have hl : lv_has ls 2 [(0, .ref md), (1, .int (nI sg))] := hl
  refine lv_iload_n hX.1 hX.2.1 d_Md_atom_0 rfl (lv_at hl 1 rfl) ?_
  refine lv_bipush (v := nI 48) hX.1 hX.2.1 d_Md_atom_1 (by decide) ?_
  refine keq hX (tgt := 39) (by omega) (by omega) d_Md_atom_3 (by decide) (fun h1 => ?_) (fun h1 => ?_)
  · omega
  · refine lv_iload_n hX.1 hX.2.1 d_Md_atom_6 rfl (lv_at hl 1 rfl) ?_
    refine lv_bipush (v := nI 49) hX.1 hX.2.1 d_Md_atom_7 (by decide) ?_
    refine keq hX (tgt := 39) (by omega) (by omega) d_Md_atom_9 (by decide) (fun h2 => ?_) (fun h2 => ?_)
    · omega
    · refine lv_iload_n hX.1 hX.2.1 d_Md_atom_12 rfl (lv_at hl 1 rfl) ?_
      refine lv_bipush (v := nI 97) hX.1 hX.2.1 d_Md_atom_13 (by decide) ?_
      refine klt hX (tgt := 33) (by omega) (by omega) d_Md_atom_15 (by decide) (fun h3 => ?_) (fun h3 => ?_)
      · omega
      · refine lv_iload_n hX.1 hX.2.1 d_Md_atom_18 rfl (lv_at hl 1 rfl) ?_
        refine lv_bipush (v := nI 100) hX.1 hX.2.1 d_Md_atom_19 (by decide) ?_
        refine kgt hX (tgt := 33) (by omega) (by omega) d_Md_atom_21 (by decide) (fun h4 => ?_) (fun h4 => ?_)
        · omega
        · refine lv_aload_n hX.1 hX.2.1 d_Md_atom_24 rfl (lv_at hl 0 rfl) ?_
          refine kget hX hW i_Md 0 rfl rfl 19 (by decide) f_Md_102 rfl rfl d_Md_atom_25 ?_
          refine lv_bipush (v := nI 8) hX.1 hX.2.1 d_Md_atom_28 (by decide) ?_
          refine kne hX (tgt := 39) (by omega) (by omega) d_Md_atom_30 (by decide) (fun h5 => ?_) (fun h5 => ?_)
          · refine lv_aload_n hX.1 hX.2.1 d_Md_atom_39 rfl (lv_at hl 0 rfl) ?_
            refine lv_dup hX.1 hX.2.1 d_Md_atom_40 rfl ?_
            refine kget hX hW i_Md 0 rfl rfl 12 (by decide) f_Md_93 rfl rfl d_Md_atom_41 ?_
            refine lv_iconst (v := nI 1) hX.1 hX.2.1 d_Md_atom_44 (by decide) ?_
            refine lv_iadd hX.1 hX.2.1 d_Md_atom_45 ?_
            refine tpi (y := nI (at1 + 1)) (nI_1 _) ?_
            refine kput hX hW i_Md t_Md t_Md_ok n_Md 0 rfl rfl 12 (by decide) f_Md_93 rfl rfl (rfl) (rfl) (Nat.le_of_ble_eq_true rfl) d_Md_atom_46 (fun H locs hW => ?_)
            have hW : KW D k A s [(md, .inr (8, [.int (nI th), .int (nI tp), .ref (ad 2), .int (nM pl), .ref (ad 4), .ref (ad 5), .ref (ad 6), .ref (ad 7), .ref (ad 8), .ref (ad 9), .int (nI si), .ref (ad 11), .int (nI (at1 + 1)), .int (nM 0), .int (nI dp), .int (nI pa), .ref (ad 16), .ref (ad 17), .ref (ad 18), .int (nI le), .ref (ad 20), .ref (ad 21), .ref (ad 22), .ref (ad 23), .ref (ad 24), .ref (ad 25), .ref (ad 26), .ref (ad 27), .ref (ad 28), .ref (ad 29), .ref (ad 30)])), (ad 16, .inl (k 2, 400, .inl (aN PE))), (ad 17, .inl (k 0, 400, .inl (aN PF))), (ad 18, .inl (k 0, 400, .inl (aN PL))), (ad 20, .inl (k 0, 8, .inl (aN NL))), (ad 21, .inl (k 0, 8, .inl (aN NF)))] H locs := hW
            refine lv_iload_n hX.1 hX.2.1 d_Md_atom_49 rfl (lv_at hl 1 rfl) ?_
            refine lv_bipush (v := nI 48) hX.1 hX.2.1 d_Md_atom_50 (by decide) ?_
            refine keq hX (tgt := 61) (by omega) (by omega) d_Md_atom_52 (by decide) (fun h6 => ?_) (fun h6 => ?_)
            · omega
            · refine lv_iload_n hX.1 hX.2.1 d_Md_atom_55 rfl (lv_at hl 1 rfl) ?_
              refine lv_bipush (v := nI 49) hX.1 hX.2.1 d_Md_atom_56 (by decide) ?_
              refine kne hX (tgt := 79) (by omega) (by omega) d_Md_atom_58 (by decide) (fun h7 => ?_) (fun h7 => ?_)
              · refine lv_aload_n hX.1 hX.2.1 d_Md_atom_79 rfl (lv_at hl 0 rfl) ?_
                refine kget hX hW i_Md 0 rfl rfl 20 (by decide) f_Md_48 rfl rfl d_Md_atom_80 ?_
                refine lv_aload_n hX.1 hX.2.1 d_Md_atom_83 rfl (lv_at hl 0 rfl) ?_
                refine kget hX hW i_Md 0 rfl rfl 19 (by decide) f_Md_102 rfl rfl d_Md_atom_84 ?_
                refine lv_iload_n hX.1 hX.2.1 d_Md_atom_87 rfl (lv_at hl 1 rfl) ?_
                refine lv_bipush (v := nI 97) hX.1 hX.2.1 d_Md_atom_88 (by decide) ?_
                refine lv_isub hX.1 hX.2.1 d_Md_atom_90 ?_
                refine tpi (y := nI (sg - 97)) (pk_sub h97) ?_
                refine kiast hX hW 4 rfl (by omega) (by first | decide | omega) d_Md_atom_91 (fun H locs hW => ?_)
                have hW : KW D k A s [(md, .inr (8, [.int (nI th), .int (nI tp), .ref (ad 2), .int (nM pl), .ref (ad 4), .ref (ad 5), .ref (ad 6), .ref (ad 7), .ref (ad 8), .ref (ad 9), .int (nI si), .ref (ad 11), .int (nI (at1 + 1)), .int (nM 0), .int (nI dp), .int (nI pa), .ref (ad 16), .ref (ad 17), .ref (ad 18), .int (nI le), .ref (ad 20), .ref (ad 21), .ref (ad 22), .ref (ad 23), .ref (ad 24), .ref (ad 25), .ref (ad 26), .ref (ad 27), .ref (ad 28), .ref (ad 29), .ref (ad 30)])), (ad 16, .inl (k 2, 400, .inl (aN PE))), (ad 17, .inl (k 0, 400, .inl (aN PF))), (ad 18, .inl (k 0, 400, .inl (aN PL))), (ad 20, .inl (k 0, 8, .inl (aN (va_up NL le (sg - 97))))), (ad 21, .inl (k 0, 8, .inl (aN NF)))] H locs := hW
                refine lv_aload_n hX.1 hX.2.1 d_Md_atom_92 rfl (lv_at hl 0 rfl) ?_
                refine kget hX hW i_Md 0 rfl rfl 21 (by decide) f_Md_51 rfl rfl d_Md_atom_93 ?_
                refine lv_aload_n hX.1 hX.2.1 d_Md_atom_96 rfl (lv_at hl 0 rfl) ?_
                refine kget hX hW i_Md 0 rfl rfl 19 (by decide) f_Md_102 rfl rfl d_Md_atom_97 ?_
                refine lv_iconst (v := nI 0) hX.1 hX.2.1 d_Md_atom_100 (by decide) ?_
                refine kiast hX hW 5 rfl (by omega) (by first | decide | omega) d_Md_atom_101 (fun H locs hW => ?_)
                have hW : KW D k A s [(md, .inr (8, [.int (nI th), .int (nI tp), .ref (ad 2), .int (nM pl), .ref (ad 4), .ref (ad 5), .ref (ad 6), .ref (ad 7), .ref (ad 8), .ref (ad 9), .int (nI si), .ref (ad 11), .int (nI (at1 + 1)), .int (nM 0), .int (nI dp), .int (nI pa), .ref (ad 16), .ref (ad 17), .ref (ad 18), .int (nI le), .ref (ad 20), .ref (ad 21), .ref (ad 22), .ref (ad 23), .ref (ad 24), .ref (ad 25), .ref (ad 26), .ref (ad 27), .ref (ad 28), .ref (ad 29), .ref (ad 30)])), (ad 16, .inl (k 2, 400, .inl (aN PE))), (ad 17, .inl (k 0, 400, .inl (aN PF))), (ad 18, .inl (k 0, 400, .inl (aN PL))), (ad 20, .inl (k 0, 8, .inl (aN (va_up NL le (sg - 97))))), (ad 21, .inl (k 0, 8, .inl (aN (va_up NF le 0))))] H locs := hW
                refine lv_aload_n hX.1 hX.2.1 d_Md_atom_102 rfl (lv_at hl 0 rfl) ?_
                refine lv_dup hX.1 hX.2.1 d_Md_atom_103 rfl ?_
                refine kget hX hW i_Md 0 rfl rfl 19 (by decide) f_Md_102 rfl rfl d_Md_atom_104 ?_
                refine lv_iconst (v := nI 1) hX.1 hX.2.1 d_Md_atom_107 (by decide) ?_
                refine lv_iadd hX.1 hX.2.1 d_Md_atom_108 ?_
                refine tpi (y := nI (le + 1)) (nI_1 _) ?_
                refine kput hX hW i_Md t_Md t_Md_ok n_Md 0 rfl rfl 19 (by decide) f_Md_102 rfl rfl (rfl) (rfl) (Nat.le_of_ble_eq_true rfl) d_Md_atom_109 (fun H locs hW => ?_)
                have hW : KW D k A s [(md, .inr (8, [.int (nI th), .int (nI tp), .ref (ad 2), .int (nM pl), .ref (ad 4), .ref (ad 5), .ref (ad 6), .ref (ad 7), .ref (ad 8), .ref (ad 9), .int (nI si), .ref (ad 11), .int (nI (at1 + 1)), .int (nM 0), .int (nI dp), .int (nI pa), .ref (ad 16), .ref (ad 17), .ref (ad 18), .int (nI (le + 1)), .ref (ad 20), .ref (ad 21), .ref (ad 22), .ref (ad 23), .ref (ad 24), .ref (ad 25), .ref (ad 26), .ref (ad 27), .ref (ad 28), .ref (ad 29), .ref (ad 30)])), (ad 16, .inl (k 2, 400, .inl (aN PE))), (ad 17, .inl (k 0, 400, .inl (aN PF))), (ad 18, .inl (k 0, 400, .inl (aN PL))), (ad 20, .inl (k 0, 8, .inl (aN (va_up NL le (sg - 97))))), (ad 21, .inl (k 0, 8, .inl (aN (va_up NF le 0))))] H locs := hW
                refine lv_aload_n hX.1 hX.2.1 d_Md_atom_112 rfl (lv_at hl 0 rfl) ?_
                refine lv_iconst (v := nI 0) hX.1 hX.2.1 d_Md_atom_113 (by decide) ?_
                show W p l e ({ frames := 1, cells := 0, slots := 0, locals := 30 } : Room) s m [.ref md, .int (nI sg)].toArray below meth c H locs 0 0 Q (F0 m 114 ls [.int (nI false.toNat), .ref md])
                refine lv_iconst (v := nI 1) hX.1 hX.2.1 d_Md_atom_114 (by decide) ?_
                refine lv_aload_n hX.1 hX.2.1 d_Md_atom_115 rfl (lv_at hl 0 rfl) ?_
                refine kget hX hW i_Md 0 rfl rfl 19 (by decide) f_Md_102 rfl rfl d_Md_atom_116 ?_
                refine lv_iconst (v := nI 1) hX.1 hX.2.1 d_Md_atom_119 (by decide) ?_
                refine lv_isub hX.1 hX.2.1 d_Md_atom_120 ?_
                refine tpi (y := nI le) (nI_pred _) ?_
                refine lv_ishl hX.1 hX.2.1 d_Md_atom_121 ?_
                refine tpi (y := nI (2 ^ le)) (kn_shl1 (by omega)) ?_
                refine lv_iconst (v := nI 1) hX.1 hX.2.1 d_Md_atom_122 (by decide) ?_
                refine lv_aload_n hX.1 hX.2.1 d_Md_atom_123 rfl (lv_at hl 0 rfl) ?_
                refine kget hX hW i_Md 0 rfl rfl 19 (by decide) f_Md_102 rfl rfl d_Md_atom_124 ?_
                refine lv_iconst (v := nI 1) hX.1 hX.2.1 d_Md_atom_127 (by decide) ?_
                refine lv_isub hX.1 hX.2.1 d_Md_atom_128 ?_
                refine tpi (y := nI le) (nI_pred _) ?_
                refine lv_ishl hX.1 hX.2.1 d_Md_atom_129 ?_
                refine tpi (y := nI (2 ^ le)) (kn_shl1 (by omega)) ?_
                refine kCi (wc := [(md, .inr (8, [.int (nI th), .int (nI tp), .ref (ad 2), .int (nM pl), .ref (ad 4), .ref (ad 5), .ref (ad 6), .ref (ad 7), .ref (ad 8), .ref (ad 9), .int (nI si), .ref (ad 11), .int (nI (at1 + 1)), .int (nM 0), .int (nI dp), .int (nI pa), .ref (ad 16), .ref (ad 17), .ref (ad 18), .int (nI (le + 1)), .ref (ad 20), .ref (ad 21), .ref (ad 22), .ref (ad 23), .ref (ad 24), .ref (ad 25), .ref (ad 26), .ref (ad 27), .ref (ad 28), .ref (ad 29), .ref (ad 30)])), (ad 16, .inl (k 2, 400, .inl (aN PE))), (ad 17, .inl (k 0, 400, .inl (aN PF))), (ad 18, .inl (k 0, 400, .inl (aN PL)))]) hW [0, 1, 2, 3] (by rfl) (by intro _; rfl) (kRunV (n := 3) (As := [.int (nI false.toNat), .int (nI (2 ^ le)), .int (nI (2 ^ le))]) (rest := []) hX hml hW (ok_Md_part l D k H.size md ad th tp pl si (at1 + 1) 0 dp pa (le + 1) PE PF PL false (2 ^ le) (2 ^ le) hpa) m_Md_107 im_Md_part se_Md_part in_Md cd_Md_part [0, 1, 2, 3] rfl rfl rfl rfl (by decide +kernel) ⟨rfl, rfl, Nat.le_of_ble_eq_true rfl, Nat.le_of_ble_eq_true rfl⟩ rfl hl.1 rfl (Nat.le_of_ble_eq_true rfl) d_Md_atom_130 ⟨by first | exact Nat.zero_le _ | decide | omega | (dsimp only; omega), by first | exact Nat.zero_le _ | decide | omega | (dsimp only; omega)⟩) (fun r u H locs hr1 hW => ?_)
                have hW : KW D k A s [(md, .inr (8, [.int (nI th), .int (nI tp), .ref (ad 2), .int (nM pl), .ref (ad 4), .ref (ad 5), .ref (ad 6), .ref (ad 7), .ref (ad 8), .ref (ad 9), .int (nI si), .ref (ad 11), .int (nI (at1 + 1)), .int (nM 0), .int (nI dp), .int (nI (pa + 1)), .ref (ad 16), .ref (ad 17), .ref (ad 18), .int (nI (le + 1)), .ref (ad 20), .ref (ad 21), .ref (ad 22), .ref (ad 23), .ref (ad 24), .ref (ad 25), .ref (ad 26), .ref (ad 27), .ref (ad 28), .ref (ad 29), .ref (ad 30)])), (ad 16, .inl (k 2, 400, .inl (aN (va_up PE pa false.toNat)))), (ad 17, .inl (k 0, 400, .inl (aN (va_up PF pa (2 ^ le))))), (ad 18, .inl (k 0, 400, .inl (aN (va_up PL pa (2 ^ le))))), (ad 20, .inl (k 0, 8, .inl (aN (va_up NL le (sg - 97))))), (ad 21, .inl (k 0, 8, .inl (aN (va_up NF le 0))))] H locs := hW
                subst hr1
                exact kiret hX hr hlocks hQ () (hW) (rfl) d_Md_atom_133
              · omega
          · omega
