/-! THE REFERENCE: split, walked -/
set_option maxHeartbeats 4000000 in
set_option maxRecDepth 100000 in
/-- split(slot, n) -/
theorem ok_Md_split (l : Launch) (D : va_G) (k : Nat → ClassId) (sz : Nat) (md : Nat) (ad : Nat → Nat) (th tp pl si at1 wr dp pa le : Nat) (MN LT FI FL FD PA NP : Nat → Nat) (sl n : Nat) (hsl : sl < 4) (hn : n ≤ 257) (hFD : ∀ j, j < n → FD j < 257) (hinj : ∀ i j, i < n → j < n → FD i = FD j → i = j) (hPA : ∀ x, x < 257 → PA x < 1000) (hmn : MN sl ≤ 8) (hfi : FI sl < 256) (hfl : ∀ i, i < MN sl → FL (sl * 8 + i) < 256) (hlt : ∀ i, i < MN sl → LT (sl * 8 + i) < 4) : Met l y_Md_split (.code y_Md_split c_Md_split 10 (some .int) :: wsU) ({ frames := 1, cells := 0, slots := 0, locals := 26 } : Room) (kPre D k [.ref md, .int (nI sl), .int (nI n)] [(md, .inr (8, [.int (nI th), .int (nI tp), .ref (ad 2), .int (nM pl), .ref (ad 4), .ref (ad 5), .ref (ad 6), .ref (ad 7), .ref (ad 8), .ref (ad 9), .int (nI si), .ref (ad 11), .int (nI at1), .int (nM wr), .int (nI dp), .int (nI pa), .ref (ad 16), .ref (ad 17), .ref (ad 18), .int (nI le), .ref (ad 20), .ref (ad 21), .ref (ad 22), .ref (ad 23), .ref (ad 24), .ref (ad 25), .ref (ad 26), .ref (ad 27), .ref (ad 28), .ref (ad 29), .ref (ad 30)])), (ad 4, .inl (k 0, 4, .inl (aN MN))), (ad 5, .inl (k 0, 32, .inl (aN LT))), (ad 6, .inl (k 0, 4, .inl (aN FI))), (ad 8, .inl (k 0, 32, .inl (aN FL))), (ad 22, .inl (k 0, 66049, .inl (aN FD))), (ad 27, .inl (k 0, 257, .inl (aN PA))), (ad 28, .inl (k 0, 257, .inl (aM NP)))] sz) (va_Qi (fun (r : Int32) (_ : Unit) => r = nI (sp1 (fun q c => mstep MN LT FI FL sl q c) FD PA NP n).1) (kB D k (fun _ : Unit => [(md, .inr (8, [.int (nI th), .int (nI tp), .ref (ad 2), .int (nM pl), .ref (ad 4), .ref (ad 5), .ref (ad 6), .ref (ad 7), .ref (ad 8), .ref (ad 9), .int (nI si), .ref (ad 11), .int (nI at1), .int (nM wr), .int (nI dp), .int (nI pa), .ref (ad 16), .ref (ad 17), .ref (ad 18), .int (nI le), .ref (ad 20), .ref (ad 21), .ref (ad 22), .ref (ad 23), .ref (ad 24), .ref (ad 25), .ref (ad 26), .ref (ad 27), .ref (ad 28), .ref (ad 29), .ref (ad 30)])), (ad 4, .inl (k 0, 4, .inl (aN MN))), (ad 5, .inl (k 0, 32, .inl (aN LT))), (ad 6, .inl (k 0, 4, .inl (aN FI))), (ad 8, .inl (k 0, 32, .inl (aN FL))), (ad 22, .inl (k 0, 66049, .inl (aN FD))), (ad 27, .inl (k 0, 257, .inl (aN (spc FD (sp1 (fun q c => mstep MN LT FI FL sl q c) FD PA NP n).2 PA n)))), (ad 28, .inl (k 0, 257, .inl (aM ((sp1 (fun q c => mstep MN LT FI FL sl q c) FD PA NP n).2))))]) (va_A [(md, .inr (8, [.int (nI th), .int (nI tp), .ref (ad 2), .int (nM pl), .ref (ad 4), .ref (ad 5), .ref (ad 6), .ref (ad 7), .ref (ad 8), .ref (ad 9), .int (nI si), .ref (ad 11), .int (nI at1), .int (nM wr), .int (nI dp), .int (nI pa), .ref (ad 16), .ref (ad 17), .ref (ad 18), .int (nI le), .ref (ad 20), .ref (ad 21), .ref (ad 22), .ref (ad 23), .ref (ad 24), .ref (ad 25), .ref (ad 26), .ref (ad 27), .ref (ad 28), .ref (ad 29), .ref (ad 30)])), (ad 4, .inl (k 0, 4, .inl (aN MN))), (ad 5, .inl (k 0, 32, .inl (aN LT))), (ad 6, .inl (k 0, 4, .inl (aN FI))), (ad 8, .inl (k 0, 32, .inl (aN FL))), (ad 22, .inl (k 0, 66049, .inl (aN FD))), (ad 27, .inl (k 0, 257, .inl (aN PA))), (ad 28, .inl (k 0, 257, .inl (aM NP)))] sz)) (va_A [(md, .inr (8, [.int (nI th), .int (nI tp), .ref (ad 2), .int (nM pl), .ref (ad 4), .ref (ad 5), .ref (ad 6), .ref (ad 7), .ref (ad 8), .ref (ad 9), .int (nI si), .ref (ad 11), .int (nI at1), .int (nM wr), .int (nI dp), .int (nI pa), .ref (ad 16), .ref (ad 17), .ref (ad 18), .int (nI le), .ref (ad 20), .ref (ad 21), .ref (ad 22), .ref (ad 23), .ref (ad 24), .ref (ad 25), .ref (ad 26), .ref (ad 27), .ref (ad 28), .ref (ad 29), .ref (ad 30)])), (ad 4, .inl (k 0, 4, .inl (aN MN))), (ad 5, .inl (k 0, 32, .inl (aN LT))), (ad 6, .inl (k 0, 4, .inl (aN FI))), (ad 8, .inl (k 0, 32, .inl (aN FL))), (ad 22, .inl (k 0, 66049, .inl (aN FD))), (ad 27, .inl (k 0, 257, .inl (aN PA))), (ad 28, .inl (k 0, 257, .inl (aM NP)))] sz)) 0 0 (va_A [(md, .inr (8, [.int (nI th), .int (nI tp), .ref (ad 2), .int (nM pl), .ref (ad 4), .ref (ad 5), .ref (ad 6), .ref (ad 7), .ref (ad 8), .ref (ad 9), .int (nI si), .ref (ad 11), .int (nI at1), .int (nM wr), .int (nI dp), .int (nI pa), .ref (ad 16), .ref (ad 17), .ref (ad 18), .int (nI le), .ref (ad 20), .ref (ad 21), .ref (ad 22), .ref (ad 23), .ref (ad 24), .ref (ad 25), .ref (ad 26), .ref (ad 27), .ref (ad 28), .ref (ad 29), .ref (ad 30)])), (ad 4, .inl (k 0, 4, .inl (aN MN))), (ad 5, .inl (k 0, 32, .inl (aN LT))), (ad 6, .inl (k 0, 4, .inl (aN FI))), (ad 8, .inl (k 0, 32, .inl (aN FL))), (ad 22, .inl (k 0, 66049, .inl (aN FD))), (ad 27, .inl (k 0, 257, .inl (aN PA))), (ad 28, .inl (k 0, 257, .inl (aM NP)))] sz) := by
  refine kMet (by decide) (Nat.le_of_ble_eq_true rfl) ?_
  intro p e s m below meth c ls hX hml hr hlocks hin hsz hW hl Q hQ
  generalize hAe : va_A [(md, .inr (8, [.int (nI th), .int (nI tp), .ref (ad 2), .int (nM pl), .ref (ad 4), .ref (ad 5), .ref (ad 6), .ref (ad 7), .ref (ad 8), .ref (ad 9), .int (nI si), .ref (ad 11), .int (nI at1), .int (nM wr), .int (nI dp), .int (nI pa), .ref (ad 16), .ref (ad 17), .ref (ad 18), .int (nI le), .ref (ad 20), .ref (ad 21), .ref (ad 22), .ref (ad 23), .ref (ad 24), .ref (ad 25), .ref (ad 26), .ref (ad 27), .ref (ad 28), .ref (ad 29), .ref (ad 30)])), (ad 4, .inl (k 0, 4, .inl (aN MN))), (ad 5, .inl (k 0, 32, .inl (aN LT))), (ad 6, .inl (k 0, 4, .inl (aN FI))), (ad 8, .inl (k 0, 32, .inl (aN FL))), (ad 22, .inl (k 0, 66049, .inl (aN FD))), (ad 27, .inl (k 0, 257, .inl (aN PA))), (ad 28, .inl (k 0, 257, .inl (aM NP)))] sz = A at hW hQ
  generalize hH0 : s.heap = H at hW ⊢
  generalize hl0 : ([] : List Loc) = locs at hW ⊢
  have hX : FX p s m c [.ref md, .int (nI sl), .int (nI n)].toArray c_Md_split R_Md := hX
  have hl : lv_has ls 10 [(0, .ref md), (1, .int (nI sl)), (2, .int (nI n))] := hl
  have hsv := sp1_v (st := (fun q c => mstep MN LT FI FL sl q c)) (PA := PA) (NP := NP) hinj n (Nat.le_refl _)
  have hsl1 := sp1_le (fun q c => mstep MN LT FI FL sl q c) FD PA NP n
  obtain ⟨NZ, hNZ⟩ : ∃ NZ, (sp1 (fun q c => mstep MN LT FI FL sl q c) FD PA NP n).2 = NZ := ⟨_, rfl⟩
  rw [hNZ] at hQ hsv
  have k191 : ∀ (x : Nat) (H : Heap) (locs : List Loc) (ls : Array Slot), KW D k A s [(md, .inr (8, [.int (nI th), .int (nI tp), .ref (ad 2), .int (nM pl), .ref (ad 4), .ref (ad 5), .ref (ad 6), .ref (ad 7), .ref (ad 8), .ref (ad 9), .int (nI si), .ref (ad 11), .int (nI at1), .int (nM wr), .int (nI dp), .int (nI pa), .ref (ad 16), .ref (ad 17), .ref (ad 18), .int (nI le), .ref (ad 20), .ref (ad 21), .ref (ad 22), .ref (ad 23), .ref (ad 24), .ref (ad 25), .ref (ad 26), .ref (ad 27), .ref (ad 28), .ref (ad 29), .ref (ad 30)])), (ad 4, .inl (k 0, 4, .inl (aN MN))), (ad 5, .inl (k 0, 32, .inl (aN LT))), (ad 6, .inl (k 0, 4, .inl (aN FI))), (ad 8, .inl (k 0, 32, .inl (aN FL))), (ad 22, .inl (k 0, 66049, .inl (aN FD))), (ad 27, .inl (k 0, 257, .inl (aN PA))), (ad 28, .inl (k 0, 257, .inl (aM NZ)))] H locs → lv_has ls 10 [(4, .int (nI x)), (3, .int (nI ((sp1 (fun q c => mstep MN LT FI FL sl q c) FD PA NP n).1))), (2, .int (nI n)), (1, .int (nI sl)), (0, .ref md)] → W p l e ({ frames := 1, cells := 0, slots := 0, locals := 26 } : Room) s m [.ref md, .int (nI sl), .int (nI n)].toArray below meth c H locs 0 0 Q (F0 m 191 ls []) := by
    intro x H locs ls hW hl
    refine lv_iconst (v := nI 0) hX.1 hX.2.1 d_Md_split_191 (by decide) ?_
    refine lv_istore (lv' := [(4, .int (nI 0)), (3, .int (nI ((sp1 (fun q c => mstep MN LT FI FL sl q c) FD PA NP n).1))), (2, .int (nI n)), (1, .int (nI sl)), (0, .ref md)]) hX.1 hX.2.1 d_Md_split_192 hl (by decide) rfl (fun ls hl => ?_)
    have lq : ∀ (fu : Nat) (j : Nat) (H : Heap) (locs : List Loc) (ls : Array Slot), (j ≤ n) → (n < j + fu) →  KW D k A s [(md, .inr (8, [.int (nI th), .int (nI tp), .ref (ad 2), .int (nM pl), .ref (ad 4), .ref (ad 5), .ref (ad 6), .ref (ad 7), .ref (ad 8), .ref (ad 9), .int (nI si), .ref (ad 11), .int (nI at1), .int (nM wr), .int (nI dp), .int (nI pa), .ref (ad 16), .ref (ad 17), .ref (ad 18), .int (nI le), .ref (ad 20), .ref (ad 21), .ref (ad 22), .ref (ad 23), .ref (ad 24), .ref (ad 25), .ref (ad 26), .ref (ad 27), .ref (ad 28), .ref (ad 29), .ref (ad 30)])), (ad 4, .inl (k 0, 4, .inl (aN MN))), (ad 5, .inl (k 0, 32, .inl (aN LT))), (ad 6, .inl (k 0, 4, .inl (aN FI))), (ad 8, .inl (k 0, 32, .inl (aN FL))), (ad 22, .inl (k 0, 66049, .inl (aN FD))), (ad 27, .inl (k 0, 257, .inl (aN (spc FD NZ PA j)))), (ad 28, .inl (k 0, 257, .inl (aM NZ)))] H locs → lv_has ls 10 [(4, .int (nI j)), (3, .int (nI ((sp1 (fun q c => mstep MN LT FI FL sl q c) FD PA NP n).1))), (2, .int (nI n)), (1, .int (nI sl)), (0, .ref md)] → W p l e ({ frames := 1, cells := 0, slots := 0, locals := 26 } : Room) s m [.ref md, .int (nI sl), .int (nI n)].toArray below meth c H locs 0 0 Q (F0 m 194 ls []) := by
      intro fu
      induction fu with
      | zero => intro j H locs ls lq1 lq2 hW hl; exfalso; omega
      | succ fu ih =>
        intro j H locs ls lq1 lq2 hW hl
        refine lv_iload hX.1 hX.2.1 d_Md_split_194 (lv_at hl 0 rfl) ?_
        refine lv_iload_n hX.1 hX.2.1 d_Md_split_196 rfl (lv_at hl 2 rfl) ?_
        refine kge hX (tgt := 230) (by omega) (by omega) d_Md_split_197 (by decide) (fun h1 => ?_) (fun h1 => ?_)
        · have e1 : j = n := by omega
          subst e1
          refine lv_iload_n hX.1 hX.2.1 d_Md_split_230 rfl (lv_at hl 1 rfl) ?_
          exact kiret hX hr hlocks hQ () (hW) (rfl) d_Md_split_231
        · have f1 := hFD j h1
          have v1 := hsv j h1
          obtain ⟨g, hg⟩ : ∃ g, NZ (FD j) = g + 1 := ⟨NZ (FD j) - 1, by omega⟩
          refine lv_aload_n hX.1 hX.2.1 d_Md_split_200 rfl (lv_at hl 4 rfl) ?_
          refine kget hX hW i_Md 0 rfl rfl 27 (by decide) f_Md_71 rfl rfl d_Md_split_201 ?_
          refine lv_aload_n hX.1 hX.2.1 d_Md_split_204 rfl (lv_at hl 4 rfl) ?_
          refine kget hX hW i_Md 0 rfl rfl 22 (by decide) f_Md_55 rfl rfl d_Md_split_205 ?_
          refine lv_iload hX.1 hX.2.1 d_Md_split_208 (lv_at hl 0 rfl) ?_
          refine kiald hX hW 5 rfl (by omega) (by first | decide | omega) d_Md_split_210 ?_
          refine lv_aload_n hX.1 hX.2.1 d_Md_split_211 rfl (lv_at hl 4 rfl) ?_
          refine kget hX hW i_Md 0 rfl rfl 28 (by decide) f_Md_74 rfl rfl d_Md_split_212 ?_
          refine lv_aload_n hX.1 hX.2.1 d_Md_split_215 rfl (lv_at hl 4 rfl) ?_
          refine kget hX hW i_Md 0 rfl rfl 22 (by decide) f_Md_55 rfl rfl d_Md_split_216 ?_
          refine lv_iload hX.1 hX.2.1 d_Md_split_219 (lv_at hl 0 rfl) ?_
          refine kiald hX hW 5 rfl (by omega) (by first | decide | omega) d_Md_split_221 ?_
          refine kriald hX hW 7 rfl (by omega) (by first | decide | omega) d_Md_split_222 ?_
          refine tpi (y := nI (NZ (FD j) - 1)) (by show nM (NZ (FD j)) = _; rw [hg, nM_s]; rfl) ?_
          refine kiast hX hW 6 rfl (by omega) (by first | decide | omega) d_Md_split_223 (fun H locs hW => ?_)
          have hW : KW D k A s [(md, .inr (8, [.int (nI th), .int (nI tp), .ref (ad 2), .int (nM pl), .ref (ad 4), .ref (ad 5), .ref (ad 6), .ref (ad 7), .ref (ad 8), .ref (ad 9), .int (nI si), .ref (ad 11), .int (nI at1), .int (nM wr), .int (nI dp), .int (nI pa), .ref (ad 16), .ref (ad 17), .ref (ad 18), .int (nI le), .ref (ad 20), .ref (ad 21), .ref (ad 22), .ref (ad 23), .ref (ad 24), .ref (ad 25), .ref (ad 26), .ref (ad 27), .ref (ad 28), .ref (ad 29), .ref (ad 30)])), (ad 4, .inl (k 0, 4, .inl (aN MN))), (ad 5, .inl (k 0, 32, .inl (aN LT))), (ad 6, .inl (k 0, 4, .inl (aN FI))), (ad 8, .inl (k 0, 32, .inl (aN FL))), (ad 22, .inl (k 0, 66049, .inl (aN FD))), (ad 27, .inl (k 0, 257, .inl (aN (va_up (spc FD NZ PA j) (FD j) (NZ (FD j) - 1))))), (ad 28, .inl (k 0, 257, .inl (aM NZ)))] H locs := hW
          refine lv_iinc (v := nI (j + 1)) (lv' := [(4, .int (nI (j + 1))), (3, .int (nI ((sp1 (fun q c => mstep MN LT FI FL sl q c) FD PA NP n).1))), (2, .int (nI n)), (1, .int (nI sl)), (0, .ref md)]) hX.1 hX.2.1 d_Md_split_224 hl (k := 0) rfl (kn_inc _) (by decide) rfl (fun ls hl => ?_)
          refine lv_goto (tgt := 194) hX.1 hX.2.1 d_Md_split_227 (by decide) ?_
          exact ih (j + 1) H locs ls (by omega) (by omega) hW (lv_sub hl [0, 1, 2, 3, 4] rfl)
    exact lq (n + 1) 0 H locs ls (by omega) (by omega) hW (lv_sub hl [0, 1, 2, 3, 4] rfl)
  refine lv_iconst (v := nI 0) hX.1 hX.2.1 d_Md_split_0 (by decide) ?_
  refine lv_istore_n (lv' := [(3, .int (nI 0)), (0, .ref md), (1, .int (nI sl)), (2, .int (nI n))]) hX.1 hX.2.1 d_Md_split_1 rfl hl (by decide) rfl (fun ls hl => ?_)
  refine lv_iconst (v := nI 0) hX.1 hX.2.1 d_Md_split_2 (by decide) ?_
  refine lv_istore (lv' := [(4, .int (nI 0)), (3, .int (nI 0)), (0, .ref md), (1, .int (nI sl)), (2, .int (nI n))]) hX.1 hX.2.1 d_Md_split_3 hl (by decide) rfl (fun ls hl => ?_)
  have lp : ∀ (fu : Nat) (kk : Nat) (H : Heap) (locs : List Loc) (ls : Array Slot), (kk ≤ n) → (n < kk + fu) →  KW D k A s [(md, .inr (8, [.int (nI th), .int (nI tp), .ref (ad 2), .int (nM pl), .ref (ad 4), .ref (ad 5), .ref (ad 6), .ref (ad 7), .ref (ad 8), .ref (ad 9), .int (nI si), .ref (ad 11), .int (nI at1), .int (nM wr), .int (nI dp), .int (nI pa), .ref (ad 16), .ref (ad 17), .ref (ad 18), .int (nI le), .ref (ad 20), .ref (ad 21), .ref (ad 22), .ref (ad 23), .ref (ad 24), .ref (ad 25), .ref (ad 26), .ref (ad 27), .ref (ad 28), .ref (ad 29), .ref (ad 30)])), (ad 4, .inl (k 0, 4, .inl (aN MN))), (ad 5, .inl (k 0, 32, .inl (aN LT))), (ad 6, .inl (k 0, 4, .inl (aN FI))), (ad 8, .inl (k 0, 32, .inl (aN FL))), (ad 22, .inl (k 0, 66049, .inl (aN FD))), (ad 27, .inl (k 0, 257, .inl (aN PA))), (ad 28, .inl (k 0, 257, .inl (aM ((sp1 (fun q c => mstep MN LT FI FL sl q c) FD PA NP kk).2))))] H locs → lv_has ls 10 [(4, .int (nI kk)), (3, .int (nI ((sp1 (fun q c => mstep MN LT FI FL sl q c) FD PA NP kk).1))), (2, .int (nI n)), (1, .int (nI sl)), (0, .ref md)] → W p l e ({ frames := 1, cells := 0, slots := 0, locals := 26 } : Room) s m [.ref md, .int (nI sl), .int (nI n)].toArray below meth c H locs 0 0 Q (F0 m 5 ls []) := by
    intro fu
    induction fu with
    | zero => intro kk H locs ls lp1 lp2 hW hl; exfalso; omega
    | succ fu ih =>
      intro kk H locs ls lp1 lp2 hW hl
      refine lv_iload hX.1 hX.2.1 d_Md_split_5 (lv_at hl 0 rfl) ?_
      refine lv_iload_n hX.1 hX.2.1 d_Md_split_7 rfl (lv_at hl 2 rfl) ?_
      refine kge hX (tgt := 191) (by omega) (by omega) d_Md_split_8 (by decide) (fun h1 => ?_) (fun h1 => ?_)
      · have e1 : kk = n := by omega
        subst e1
        rw [hNZ] at hW
        exact k191 _ H locs ls hW hl
      · have ih0 := ih
        have fk := hFD kk h1
        have vk := sp1_v (st := (fun q c => mstep MN LT FI FL sl q c)) (PA := PA) (NP := NP) hinj kk lp1
        have lk := sp1_le (fun q c => mstep MN LT FI FL sl q c) FD PA NP kk
        obtain ⟨cN, hcN⟩ : ∃ cN, (sp1 (fun q c => mstep MN LT FI FL sl q c) FD PA NP kk).1 = cN := ⟨_, rfl⟩
        obtain ⟨N0, hN0⟩ : ∃ N0, (sp1 (fun q c => mstep MN LT FI FL sl q c) FD PA NP kk).2 = N0 := ⟨_, rfl⟩
        have hnx : sp1 (fun q c => mstep MN LT FI FL sl q c) FD PA NP (kk + 1) = (if spi (fun q c => mstep MN LT FI FL sl q c) FD PA kk kk 0 (va_up N0 (FD kk) 0) (FD kk) = 0 then (cN + 1, va_up (spi (fun q c => mstep MN LT FI FL sl q c) FD PA kk kk 0 (va_up N0 (FD kk) 0)) (FD kk) (cN + 1)) else (cN, spi (fun q c => mstep MN LT FI FL sl q c) FD PA kk kk 0 (va_up N0 (FD kk) 0))) := by rw [sp1, hcN, hN0]
        rw [hcN] at hl vk lk
        rw [hN0] at hW vk
        refine lv_aload_n hX.1 hX.2.1 d_Md_split_11 rfl (lv_at hl 4 rfl) ?_
        refine kget hX hW i_Md 0 rfl rfl 22 (by decide) f_Md_55 rfl rfl d_Md_split_12 ?_
        refine lv_iload hX.1 hX.2.1 d_Md_split_15 (lv_at hl 0 rfl) ?_
        refine kiald hX hW 5 rfl (by omega) (by first | decide | omega) d_Md_split_17 ?_
        refine lv_istore (lv' := [(5, .int (nI (FD kk))), (4, .int (nI kk)), (3, .int (nI cN)), (2, .int (nI n)), (1, .int (nI sl)), (0, .ref md)]) hX.1 hX.2.1 d_Md_split_18 hl (by decide) rfl (fun ls hl => ?_)
        refine lv_aload_n hX.1 hX.2.1 d_Md_split_20 rfl (lv_at hl 5 rfl) ?_
        refine kget hX hW i_Md 0 rfl rfl 28 (by decide) f_Md_74 rfl rfl d_Md_split_21 ?_
        refine lv_iload hX.1 hX.2.1 d_Md_split_24 (lv_at hl 0 rfl) ?_
        refine lv_iconst (v := (-1)) hX.1 hX.2.1 d_Md_split_26 (by decide) ?_
        refine kriast hX hW 7 rfl (by omega) (by first | decide | omega) d_Md_split_27 (fun H locs hW => ?_)
        have hW : KW D k A s [(md, .inr (8, [.int (nI th), .int (nI tp), .ref (ad 2), .int (nM pl), .ref (ad 4), .ref (ad 5), .ref (ad 6), .ref (ad 7), .ref (ad 8), .ref (ad 9), .int (nI si), .ref (ad 11), .int (nI at1), .int (nM wr), .int (nI dp), .int (nI pa), .ref (ad 16), .ref (ad 17), .ref (ad 18), .int (nI le), .ref (ad 20), .ref (ad 21), .ref (ad 22), .ref (ad 23), .ref (ad 24), .ref (ad 25), .ref (ad 26), .ref (ad 27), .ref (ad 28), .ref (ad 29), .ref (ad 30)])), (ad 4, .inl (k 0, 4, .inl (aN MN))), (ad 5, .inl (k 0, 32, .inl (aN LT))), (ad 6, .inl (k 0, 4, .inl (aN FI))), (ad 8, .inl (k 0, 32, .inl (aN FL))), (ad 22, .inl (k 0, 66049, .inl (aN FD))), (ad 27, .inl (k 0, 257, .inl (aN PA))), (ad 28, .inl (k 0, 257, .inl (upd (aM N0) (FD kk) (-1))))] H locs := hW
        rw [aM_upM] at hW
        have hW : KW D k A s [(md, .inr (8, [.int (nI th), .int (nI tp), .ref (ad 2), .int (nM pl), .ref (ad 4), .ref (ad 5), .ref (ad 6), .ref (ad 7), .ref (ad 8), .ref (ad 9), .int (nI si), .ref (ad 11), .int (nI at1), .int (nM wr), .int (nI dp), .int (nI pa), .ref (ad 16), .ref (ad 17), .ref (ad 18), .int (nI le), .ref (ad 20), .ref (ad 21), .ref (ad 22), .ref (ad 23), .ref (ad 24), .ref (ad 25), .ref (ad 26), .ref (ad 27), .ref (ad 28), .ref (ad 29), .ref (ad 30)])), (ad 4, .inl (k 0, 4, .inl (aN MN))), (ad 5, .inl (k 0, 32, .inl (aN LT))), (ad 6, .inl (k 0, 4, .inl (aN FI))), (ad 8, .inl (k 0, 32, .inl (aN FL))), (ad 22, .inl (k 0, 66049, .inl (aN FD))), (ad 27, .inl (k 0, 257, .inl (aN PA))), (ad 28, .inl (k 0, 257, .inl (aM (va_up N0 (FD kk) 0))))] H locs := hW
        obtain ⟨N1, hN1⟩ : ∃ N1, va_up N0 (FD kk) 0 = N1 := ⟨_, rfl⟩
        rw [hN1] at hW hnx
        have n1k : N1 (FD kk) = 0 := by rw [← hN1, va_up_self]
        have n1i : ∀ i, i < kk → 0 < N1 (FD i) ∧ N1 (FD i) ≤ cN := fun i hi => by rw [← hN1, va_up_ne _ _ (fun e => by have := hinj i kk (by omega) h1 e; omega)]; exact vk i hi
        obtain ⟨N2, hN2⟩ : ∃ N2, spi (fun q c => mstep MN LT FI FL sl q c) FD PA kk kk 0 N1 = N2 := ⟨_, rfl⟩
        rw [hN2] at hnx
        have k164 : ∀ (x : Nat) (H : Heap) (locs : List Loc) (ls : Array Slot), N2 (FD kk) ≤ cN → KW D k A s [(md, .inr (8, [.int (nI th), .int (nI tp), .ref (ad 2), .int (nM pl), .ref (ad 4), .ref (ad 5), .ref (ad 6), .ref (ad 7), .ref (ad 8), .ref (ad 9), .int (nI si), .ref (ad 11), .int (nI at1), .int (nM wr), .int (nI dp), .int (nI pa), .ref (ad 16), .ref (ad 17), .ref (ad 18), .int (nI le), .ref (ad 20), .ref (ad 21), .ref (ad 22), .ref (ad 23), .ref (ad 24), .ref (ad 25), .ref (ad 26), .ref (ad 27), .ref (ad 28), .ref (ad 29), .ref (ad 30)])), (ad 4, .inl (k 0, 4, .inl (aN MN))), (ad 5, .inl (k 0, 32, .inl (aN LT))), (ad 6, .inl (k 0, 4, .inl (aN FI))), (ad 8, .inl (k 0, 32, .inl (aN FL))), (ad 22, .inl (k 0, 66049, .inl (aN FD))), (ad 27, .inl (k 0, 257, .inl (aN PA))), (ad 28, .inl (k 0, 257, .inl (aM N2)))] H locs → lv_has ls 10 [(6, .int (nI x)), (5, .int (nI (FD kk))), (4, .int (nI kk)), (3, .int (nI cN)), (2, .int (nI n)), (1, .int (nI sl)), (0, .ref md)] → W p l e ({ frames := 1, cells := 0, slots := 0, locals := 26 } : Room) s m [.ref md, .int (nI sl), .int (nI n)].toArray below meth c H locs 0 0 Q (F0 m 164 ls []) := by
          intro x H locs ls h2k hW hl
          refine lv_aload_n hX.1 hX.2.1 d_Md_split_164 rfl (lv_at hl 6 rfl) ?_
          refine kget hX hW i_Md 0 rfl rfl 28 (by decide) f_Md_74 rfl rfl d_Md_split_165 ?_
          refine lv_iload hX.1 hX.2.1 d_Md_split_168 (lv_at hl 1 rfl) ?_
          refine kriald hX hW 7 rfl (by omega) (by first | decide | omega) d_Md_split_170 ?_
          refine tpi (y := nM (N2 (FD kk))) (rfl) ?_
          refine kgeM hX (tgt := 185) (by omega) d_Md_split_171 (by decide) (fun h3 => ?_) (fun h3 => ?_)
          · rw [if_neg (by omega)] at hnx
            refine lv_iinc (v := nI (kk + 1)) (lv' := [(4, .int (nI (kk + 1))), (6, .int (nI x)), (5, .int (nI (FD kk))), (3, .int (nI cN)), (2, .int (nI n)), (1, .int (nI sl)), (0, .ref md)]) hX.1 hX.2.1 d_Md_split_185 hl (k := 2) rfl (kn_inc _) (by decide) rfl (fun ls hl => ?_)
            refine lv_goto (tgt := 5) hX.1 hX.2.1 d_Md_split_188 (by decide) ?_
            exact ih0 (kk + 1) H locs ls (by omega) (by omega) (by rw [hnx]; exact hW) (by rw [hnx]; exact lv_sub hl [0, 3, 4, 5, 6] rfl)
          · rw [if_pos h3] at hnx
            refine lv_aload_n hX.1 hX.2.1 d_Md_split_174 rfl (lv_at hl 6 rfl) ?_
            refine kget hX hW i_Md 0 rfl rfl 28 (by decide) f_Md_74 rfl rfl d_Md_split_175 ?_
            refine lv_iload hX.1 hX.2.1 d_Md_split_178 (lv_at hl 1 rfl) ?_
            refine lv_iload_n hX.1 hX.2.1 d_Md_split_180 rfl (lv_at hl 3 rfl) ?_
            refine kriast hX hW 7 rfl (by omega) (by first | decide | omega) d_Md_split_181 (fun H locs hW => ?_)
            have hW : KW D k A s [(md, .inr (8, [.int (nI th), .int (nI tp), .ref (ad 2), .int (nM pl), .ref (ad 4), .ref (ad 5), .ref (ad 6), .ref (ad 7), .ref (ad 8), .ref (ad 9), .int (nI si), .ref (ad 11), .int (nI at1), .int (nM wr), .int (nI dp), .int (nI pa), .ref (ad 16), .ref (ad 17), .ref (ad 18), .int (nI le), .ref (ad 20), .ref (ad 21), .ref (ad 22), .ref (ad 23), .ref (ad 24), .ref (ad 25), .ref (ad 26), .ref (ad 27), .ref (ad 28), .ref (ad 29), .ref (ad 30)])), (ad 4, .inl (k 0, 4, .inl (aN MN))), (ad 5, .inl (k 0, 32, .inl (aN LT))), (ad 6, .inl (k 0, 4, .inl (aN FI))), (ad 8, .inl (k 0, 32, .inl (aN FL))), (ad 22, .inl (k 0, 66049, .inl (aN FD))), (ad 27, .inl (k 0, 257, .inl (aN PA))), (ad 28, .inl (k 0, 257, .inl (upd (aM N2) (FD kk) (nI cN))))] H locs := hW
            rw [aM_upI] at hW
            refine lv_iinc (v := nI (cN + 1)) (lv' := [(3, .int (nI (cN + 1))), (6, .int (nI x)), (5, .int (nI (FD kk))), (4, .int (nI kk)), (2, .int (nI n)), (1, .int (nI sl)), (0, .ref md)]) hX.1 hX.2.1 d_Md_split_182 hl (k := 3) rfl (kn_inc _) (by decide) rfl (fun ls hl => ?_)
            refine lv_iinc (v := nI (kk + 1)) (lv' := [(4, .int (nI (kk + 1))), (3, .int (nI (cN + 1))), (6, .int (nI x)), (5, .int (nI (FD kk))), (2, .int (nI n)), (1, .int (nI sl)), (0, .ref md)]) hX.1 hX.2.1 d_Md_split_185 hl (k := 3) rfl (kn_inc _) (by decide) rfl (fun ls hl => ?_)
            refine lv_goto (tgt := 5) hX.1 hX.2.1 d_Md_split_188 (by decide) ?_
            exact ih0 (kk + 1) H locs ls (by omega) (by omega) (by rw [hnx]; exact hW) (by rw [hnx]; exact lv_sub hl [0, 1, 4, 5, 6] rfl)
        refine lv_iconst (v := nI 0) hX.1 hX.2.1 d_Md_split_28 (by decide) ?_
        refine lv_istore (lv' := [(6, .int (nI 0)), (5, .int (nI (FD kk))), (4, .int (nI kk)), (3, .int (nI cN)), (2, .int (nI n)), (1, .int (nI sl)), (0, .ref md)]) hX.1 hX.2.1 d_Md_split_29 hl (by decide) rfl (fun ls hl => ?_)
        have lr : ∀ (fu : Nat) (i : Nat) (H : Heap) (locs : List Loc) (ls : Array Slot), (i ≤ kk) → (kk < i + fu) → (spi (fun q c => mstep MN LT FI FL sl q c) FD PA kk (kk - i) i N1 = N2) →  KW D k A s [(md, .inr (8, [.int (nI th), .int (nI tp), .ref (ad 2), .int (nM pl), .ref (ad 4), .ref (ad 5), .ref (ad 6), .ref (ad 7), .ref (ad 8), .ref (ad 9), .int (nI si), .ref (ad 11), .int (nI at1), .int (nM wr), .int (nI dp), .int (nI pa), .ref (ad 16), .ref (ad 17), .ref (ad 18), .int (nI le), .ref (ad 20), .ref (ad 21), .ref (ad 22), .ref (ad 23), .ref (ad 24), .ref (ad 25), .ref (ad 26), .ref (ad 27), .ref (ad 28), .ref (ad 29), .ref (ad 30)])), (ad 4, .inl (k 0, 4, .inl (aN MN))), (ad 5, .inl (k 0, 32, .inl (aN LT))), (ad 6, .inl (k 0, 4, .inl (aN FI))), (ad 8, .inl (k 0, 32, .inl (aN FL))), (ad 22, .inl (k 0, 66049, .inl (aN FD))), (ad 27, .inl (k 0, 257, .inl (aN PA))), (ad 28, .inl (k 0, 257, .inl (aM N1)))] H locs → lv_has ls 10 [(6, .int (nI i)), (5, .int (nI (FD kk))), (4, .int (nI kk)), (3, .int (nI cN)), (2, .int (nI n)), (1, .int (nI sl)), (0, .ref md)] → W p l e ({ frames := 1, cells := 0, slots := 0, locals := 26 } : Room) s m [.ref md, .int (nI sl), .int (nI n)].toArray below meth c H locs 0 0 Q (F0 m 31 ls []) := by
          intro fu
          induction fu with
          | zero => intro i H locs ls lr1 lr2 hs hW hl; exfalso; omega
          | succ fu ih =>
            intro i H locs ls lr1 lr2 hs hW hl
            have ih1 := ih
            refine lv_iload hX.1 hX.2.1 d_Md_split_31 (lv_at hl 0 rfl) ?_
            refine lv_iload hX.1 hX.2.1 d_Md_split_33 (lv_at hl 2 rfl) ?_
            refine kge hX (tgt := 164) (by omega) (by omega) d_Md_split_35 (by decide) (fun h2 => ?_) (fun h2 => ?_)
            · rw [show kk - i = 0 by omega, spi] at hs
              subst hs
              exact k164 _ H locs ls (by omega) hW hl
            · rw [show kk - i = (kk - (i + 1)) + 1 by omega, spi] at hs
              have fi1 := hFD i (by omega)
              have v1 := n1i i h2
              have nei : FD i ≠ FD kk := fun e => by have := hinj i kk (by omega) h1 e; omega
              refine lv_aload_n hX.1 hX.2.1 d_Md_split_38 rfl (lv_at hl 6 rfl) ?_
              refine kget hX hW i_Md 0 rfl rfl 28 (by decide) f_Md_74 rfl rfl d_Md_split_39 ?_
              refine lv_iload hX.1 hX.2.1 d_Md_split_42 (lv_at hl 1 rfl) ?_
              refine kriald hX hW 7 rfl (by omega) (by first | decide | omega) d_Md_split_44 ?_
              refine tpi (y := nM (N1 (FD kk))) (rfl) ?_
              refine kgeM hX (tgt := 164) (by omega) d_Md_split_45 (by decide) (fun h3 => ?_) (fun h3 => ?_)
              · omega
              · have pi := hPA _ fi1
                have pk := hPA _ fk
                refine lv_aload_n hX.1 hX.2.1 d_Md_split_48 rfl (lv_at hl 6 rfl) ?_
                refine kget hX hW i_Md 0 rfl rfl 22 (by decide) f_Md_55 rfl rfl d_Md_split_49 ?_
                refine lv_iload hX.1 hX.2.1 d_Md_split_52 (lv_at hl 0 rfl) ?_
                refine kiald hX hW 5 rfl (by omega) (by first | decide | omega) d_Md_split_54 ?_
                refine lv_istore (lv' := [(7, .int (nI (FD i))), (6, .int (nI i)), (5, .int (nI (FD kk))), (4, .int (nI kk)), (3, .int (nI cN)), (2, .int (nI n)), (1, .int (nI sl)), (0, .ref md)]) hX.1 hX.2.1 d_Md_split_55 hl (by decide) rfl (fun ls hl => ?_)
                refine lv_aload_n hX.1 hX.2.1 d_Md_split_57 rfl (lv_at hl 7 rfl) ?_
                refine kget hX hW i_Md 0 rfl rfl 27 (by decide) f_Md_71 rfl rfl d_Md_split_58 ?_
                refine lv_iload hX.1 hX.2.1 d_Md_split_61 (lv_at hl 0 rfl) ?_
                refine kiald hX hW 6 rfl (by omega) (by first | decide | omega) d_Md_split_63 ?_
                refine lv_aload_n hX.1 hX.2.1 d_Md_split_64 rfl (lv_at hl 7 rfl) ?_
                refine kget hX hW i_Md 0 rfl rfl 27 (by decide) f_Md_71 rfl rfl d_Md_split_65 ?_
                refine lv_iload hX.1 hX.2.1 d_Md_split_68 (lv_at hl 2 rfl) ?_
                refine kiald hX hW 6 rfl (by omega) (by first | decide | omega) d_Md_split_70 ?_
                have k139 : ∀ (x : Nat) (H : Heap) (locs : List Loc) (ls : Array Slot), KW D k A s [(md, .inr (8, [.int (nI th), .int (nI tp), .ref (ad 2), .int (nM pl), .ref (ad 4), .ref (ad 5), .ref (ad 6), .ref (ad 7), .ref (ad 8), .ref (ad 9), .int (nI si), .ref (ad 11), .int (nI at1), .int (nM wr), .int (nI dp), .int (nI pa), .ref (ad 16), .ref (ad 17), .ref (ad 18), .int (nI le), .ref (ad 20), .ref (ad 21), .ref (ad 22), .ref (ad 23), .ref (ad 24), .ref (ad 25), .ref (ad 26), .ref (ad 27), .ref (ad 28), .ref (ad 29), .ref (ad 30)])), (ad 4, .inl (k 0, 4, .inl (aN MN))), (ad 5, .inl (k 0, 32, .inl (aN LT))), (ad 6, .inl (k 0, 4, .inl (aN FI))), (ad 8, .inl (k 0, 32, .inl (aN FL))), (ad 22, .inl (k 0, 66049, .inl (aN FD))), (ad 27, .inl (k 0, 257, .inl (aN PA))), (ad 28, .inl (k 0, 257, .inl (aM N1)))] H locs → lv_has ls 10 [(9, .int (nI x)), (8, .int (nI ((msm (fun q c => mstep MN LT FI FL sl q c) PA (FD i) (FD kk) 4).toNat))), (7, .int (nI (FD i))), (6, .int (nI i)), (5, .int (nI (FD kk))), (4, .int (nI kk)), (3, .int (nI cN)), (2, .int (nI n)), (1, .int (nI sl)), (0, .ref md)] → W p l e ({ frames := 1, cells := 0, slots := 0, locals := 26 } : Room) s m [.ref md, .int (nI sl), .int (nI n)].toArray below meth c H locs 0 0 Q (F0 m 139 ls []) := by
                  intro x H locs ls hW hl
                  refine lv_iload hX.1 hX.2.1 d_Md_split_139 (lv_at hl 1 rfl) ?_
                  refine kz hX (tgt := 158) (bT _) d_Md_split_141 (by decide) (fun h4 => ?_) (fun h4 => ?_)
                  · rw [if_neg (by rw [bT_0 h4]; simp)] at hs
                    refine lv_iinc (v := nI (i + 1)) (lv' := [(6, .int (nI (i + 1))), (9, .int (nI x)), (8, .int (nI ((msm (fun q c => mstep MN LT FI FL sl q c) PA (FD i) (FD kk) 4).toNat))), (7, .int (nI (FD i))), (5, .int (nI (FD kk))), (4, .int (nI kk)), (3, .int (nI cN)), (2, .int (nI n)), (1, .int (nI sl)), (0, .ref md)]) hX.1 hX.2.1 d_Md_split_158 hl (k := 3) rfl (kn_inc _) (by decide) rfl (fun ls hl => ?_)
                    refine lv_goto (tgt := 31) hX.1 hX.2.1 d_Md_split_161 (by decide) ?_
                    exact ih1 (i + 1) H locs ls (by omega) (by omega) hs hW (lv_sub hl [0, 4, 5, 6, 7, 8, 9] rfl)
                  · rw [if_pos (bT_1 h4)] at hs
                    obtain ⟨g, hg⟩ : ∃ g, N1 (FD i) = g + 1 := ⟨N1 (FD i) - 1, by omega⟩
                    refine lv_aload_n hX.1 hX.2.1 d_Md_split_144 rfl (lv_at hl 9 rfl) ?_
                    refine kget hX hW i_Md 0 rfl rfl 28 (by decide) f_Md_74 rfl rfl d_Md_split_145 ?_
                    refine lv_iload hX.1 hX.2.1 d_Md_split_148 (lv_at hl 4 rfl) ?_
                    refine lv_aload_n hX.1 hX.2.1 d_Md_split_150 rfl (lv_at hl 9 rfl) ?_
                    refine kget hX hW i_Md 0 rfl rfl 28 (by decide) f_Md_74 rfl rfl d_Md_split_151 ?_
                    refine lv_iload hX.1 hX.2.1 d_Md_split_154 (lv_at hl 2 rfl) ?_
                    refine kriald hX hW 7 rfl (by omega) (by first | decide | omega) d_Md_split_156 ?_
                    refine tpi (y := nI g) (by show nM (N1 (FD i)) = _; rw [hg, nM_s]) ?_
                    refine kriast hX hW 7 rfl (by omega) (by first | decide | omega) d_Md_split_157 (fun H locs hW => ?_)
                    have hW : KW D k A s [(md, .inr (8, [.int (nI th), .int (nI tp), .ref (ad 2), .int (nM pl), .ref (ad 4), .ref (ad 5), .ref (ad 6), .ref (ad 7), .ref (ad 8), .ref (ad 9), .int (nI si), .ref (ad 11), .int (nI at1), .int (nM wr), .int (nI dp), .int (nI pa), .ref (ad 16), .ref (ad 17), .ref (ad 18), .int (nI le), .ref (ad 20), .ref (ad 21), .ref (ad 22), .ref (ad 23), .ref (ad 24), .ref (ad 25), .ref (ad 26), .ref (ad 27), .ref (ad 28), .ref (ad 29), .ref (ad 30)])), (ad 4, .inl (k 0, 4, .inl (aN MN))), (ad 5, .inl (k 0, 32, .inl (aN LT))), (ad 6, .inl (k 0, 4, .inl (aN FI))), (ad 8, .inl (k 0, 32, .inl (aN FL))), (ad 22, .inl (k 0, 66049, .inl (aN FD))), (ad 27, .inl (k 0, 257, .inl (aN PA))), (ad 28, .inl (k 0, 257, .inl (upd (aM N1) (FD kk) (nI g))))] H locs := hW
                    rw [aM_upI, ← hg, hs] at hW
                    have hW : KW D k A s [(md, .inr (8, [.int (nI th), .int (nI tp), .ref (ad 2), .int (nM pl), .ref (ad 4), .ref (ad 5), .ref (ad 6), .ref (ad 7), .ref (ad 8), .ref (ad 9), .int (nI si), .ref (ad 11), .int (nI at1), .int (nM wr), .int (nI dp), .int (nI pa), .ref (ad 16), .ref (ad 17), .ref (ad 18), .int (nI le), .ref (ad 20), .ref (ad 21), .ref (ad 22), .ref (ad 23), .ref (ad 24), .ref (ad 25), .ref (ad 26), .ref (ad 27), .ref (ad 28), .ref (ad 29), .ref (ad 30)])), (ad 4, .inl (k 0, 4, .inl (aN MN))), (ad 5, .inl (k 0, 32, .inl (aN LT))), (ad 6, .inl (k 0, 4, .inl (aN FI))), (ad 8, .inl (k 0, 32, .inl (aN FL))), (ad 22, .inl (k 0, 66049, .inl (aN FD))), (ad 27, .inl (k 0, 257, .inl (aN PA))), (ad 28, .inl (k 0, 257, .inl (aM N2)))] H locs := hW
                    have n2k : N2 (FD kk) = g + 1 := by rw [← hs, va_up_self, hg]
                    refine lv_iinc (v := nI (i + 1)) (lv' := [(6, .int (nI (i + 1))), (9, .int (nI x)), (8, .int (nI ((msm (fun q c => mstep MN LT FI FL sl q c) PA (FD i) (FD kk) 4).toNat))), (7, .int (nI (FD i))), (5, .int (nI (FD kk))), (4, .int (nI kk)), (3, .int (nI cN)), (2, .int (nI n)), (1, .int (nI sl)), (0, .ref md)]) hX.1 hX.2.1 d_Md_split_158 hl (k := 3) rfl (kn_inc _) (by decide) rfl (fun ls hl => ?_)
                    refine lv_goto (tgt := 31) hX.1 hX.2.1 d_Md_split_161 (by decide) ?_
                    refine lv_iload hX.1 hX.2.1 d_Md_split_31 (lv_at hl 0 rfl) ?_
                    refine lv_iload hX.1 hX.2.1 d_Md_split_33 (lv_at hl 5 rfl) ?_
                    refine kge hX (tgt := 164) (by omega) (by omega) d_Md_split_35 (by decide) (fun h6 => ?_) (fun h6 => ?_)
                    · exact k164 _ H locs ls (by omega) hW (lv_sub hl [0, 4, 5, 6, 7, 8, 9] rfl)
                    · refine lv_aload_n hX.1 hX.2.1 d_Md_split_38 rfl (lv_at hl 9 rfl) ?_
                      refine kget hX hW i_Md 0 rfl rfl 28 (by decide) f_Md_74 rfl rfl d_Md_split_39 ?_
                      refine lv_iload hX.1 hX.2.1 d_Md_split_42 (lv_at hl 4 rfl) ?_
                      refine kriald hX hW 7 rfl (by omega) (by first | decide | omega) d_Md_split_44 ?_
                      refine tpi (y := nM (N2 (FD kk))) (rfl) ?_
                      refine kgeM hX (tgt := 164) (by omega) d_Md_split_45 (by decide) (fun h7 => ?_) (fun h7 => ?_)
                      · exact k164 _ H locs ls (by omega) hW (lv_sub hl [0, 4, 5, 6, 7, 8, 9] rfl)
                      · omega
                have k79 : ∀ (vv : Nat), vv = (msm (fun q c => mstep MN LT FI FL sl q c) PA (FD i) (FD kk) 0).toNat → W p l e ({ frames := 1, cells := 0, slots := 0, locals := 26 } : Room) s m [.ref md, .int (nI sl), .int (nI n)].toArray below meth c H locs 0 0 Q (F0 m 79 ls [.int (nI vv)]) := by
                  intro vv hvv
                  subst hvv
                  refine lv_istore (lv' := [(8, .int (nI ((msm (fun q c => mstep MN LT FI FL sl q c) PA (FD i) (FD kk) 0).toNat))), (7, .int (nI (FD i))), (6, .int (nI i)), (5, .int (nI (FD kk))), (4, .int (nI kk)), (3, .int (nI cN)), (2, .int (nI n)), (1, .int (nI sl)), (0, .ref md)]) hX.1 hX.2.1 d_Md_split_79 hl (by decide) rfl (fun ls hl => ?_)
                  refine lv_iconst (v := nI 0) hX.1 hX.2.1 d_Md_split_81 (by decide) ?_
                  refine lv_istore (lv' := [(9, .int (nI 0)), (8, .int (nI ((msm (fun q c => mstep MN LT FI FL sl q c) PA (FD i) (FD kk) 0).toNat))), (7, .int (nI (FD i))), (6, .int (nI i)), (5, .int (nI (FD kk))), (4, .int (nI kk)), (3, .int (nI cN)), (2, .int (nI n)), (1, .int (nI sl)), (0, .ref md)]) hX.1 hX.2.1 d_Md_split_82 hl (by decide) rfl (fun ls hl => ?_)
                  have ls1 : ∀ (fu : Nat) (a : Nat) (H : Heap) (locs : List Loc) (ls : Array Slot), (a ≤ 4) → (4 < a + fu) →  KW D k A s [(md, .inr (8, [.int (nI th), .int (nI tp), .ref (ad 2), .int (nM pl), .ref (ad 4), .ref (ad 5), .ref (ad 6), .ref (ad 7), .ref (ad 8), .ref (ad 9), .int (nI si), .ref (ad 11), .int (nI at1), .int (nM wr), .int (nI dp), .int (nI pa), .ref (ad 16), .ref (ad 17), .ref (ad 18), .int (nI le), .ref (ad 20), .ref (ad 21), .ref (ad 22), .ref (ad 23), .ref (ad 24), .ref (ad 25), .ref (ad 26), .ref (ad 27), .ref (ad 28), .ref (ad 29), .ref (ad 30)])), (ad 4, .inl (k 0, 4, .inl (aN MN))), (ad 5, .inl (k 0, 32, .inl (aN LT))), (ad 6, .inl (k 0, 4, .inl (aN FI))), (ad 8, .inl (k 0, 32, .inl (aN FL))), (ad 22, .inl (k 0, 66049, .inl (aN FD))), (ad 27, .inl (k 0, 257, .inl (aN PA))), (ad 28, .inl (k 0, 257, .inl (aM N1)))] H locs → lv_has ls 10 [(9, .int (nI a)), (8, .int (nI ((msm (fun q c => mstep MN LT FI FL sl q c) PA (FD i) (FD kk) a).toNat))), (7, .int (nI (FD i))), (6, .int (nI i)), (5, .int (nI (FD kk))), (4, .int (nI kk)), (3, .int (nI cN)), (2, .int (nI n)), (1, .int (nI sl)), (0, .ref md)] → W p l e ({ frames := 1, cells := 0, slots := 0, locals := 26 } : Room) s m [.ref md, .int (nI sl), .int (nI n)].toArray below meth c H locs 0 0 Q (F0 m 84 ls []) := by
                    intro fu
                    induction fu with
                    | zero => intro a H locs ls ls2 ls3 hW hl; exfalso; omega
                    | succ fu ih =>
                      intro a H locs ls ls2 ls3 hW hl
                      refine lv_iload hX.1 hX.2.1 d_Md_split_84 (lv_at hl 0 rfl) ?_
                      refine lv_iconst (v := nI 4) hX.1 hX.2.1 d_Md_split_86 (by decide) ?_
                      refine kge hX (tgt := 139) (by omega) (by omega) d_Md_split_87 (by decide) (fun h4 => ?_) (fun h4 => ?_)
                      · have e4 : a = 4 := by omega
                        subst e4
                        exact k139 _ H locs ls hW hl
                      · refine lv_iload hX.1 hX.2.1 d_Md_split_90 (lv_at hl 1 rfl) ?_
                        refine kz hX (tgt := 139) (bT _) d_Md_split_92 (by decide) (fun h5 => ?_) (fun h5 => ?_)
                        · have e4 := msm_f (bT_0 h5) 4 (by omega)
                          exact k139 _ H locs ls hW (by rw [e4, ← bT_0 h5]; exact hl)
                        · have s1 := mstep_lt (MN := MN) (LT := LT) (FI := FI) (FL := FL) (sl := sl) (S := FD i) (ch := a) hmn
                          have s2 := mstep_lt (MN := MN) (LT := LT) (FI := FI) (FL := FL) (sl := sl) (S := FD kk) (ch := a) hmn
                          have p1 := hPA (mstep MN LT FI FL sl (FD i) a) (by omega)
                          have p2 := hPA (mstep MN LT FI FL sl (FD kk) a) (by omega)
                          refine lv_aload_n hX.1 hX.2.1 d_Md_split_95 rfl (lv_at hl 9 rfl) ?_
                          refine kget hX hW i_Md 0 rfl rfl 27 (by decide) f_Md_71 rfl rfl d_Md_split_96 ?_
                          refine lv_aload_n hX.1 hX.2.1 d_Md_split_99 rfl (lv_at hl 9 rfl) ?_
                          refine lv_iload_n hX.1 hX.2.1 d_Md_split_100 rfl (lv_at hl 8 rfl) ?_
                          refine lv_iload hX.1 hX.2.1 d_Md_split_101 (lv_at hl 2 rfl) ?_
                          refine lv_iload hX.1 hX.2.1 d_Md_split_103 (lv_at hl 0 rfl) ?_
                          refine kCi (wc := [(md, .inr (8, [.int (nI th), .int (nI tp), .ref (ad 2), .int (nM pl), .ref (ad 4), .ref (ad 5), .ref (ad 6), .ref (ad 7), .ref (ad 8), .ref (ad 9), .int (nI si), .ref (ad 11), .int (nI at1), .int (nM wr), .int (nI dp), .int (nI pa), .ref (ad 16), .ref (ad 17), .ref (ad 18), .int (nI le), .ref (ad 20), .ref (ad 21), .ref (ad 22), .ref (ad 23), .ref (ad 24), .ref (ad 25), .ref (ad 26), .ref (ad 27), .ref (ad 28), .ref (ad 29), .ref (ad 30)])), (ad 4, .inl (k 0, 4, .inl (aN MN))), (ad 5, .inl (k 0, 32, .inl (aN LT))), (ad 6, .inl (k 0, 4, .inl (aN FI))), (ad 8, .inl (k 0, 32, .inl (aN FL)))]) hW [0, 1, 2, 3, 4] (by rfl) (by intro _; rfl) (kRunV (n := 3) (As := [.int (nI sl), .int (nI (FD i)), .int (nI a)]) (rest := [.ref (ad 27)]) hX hml hW (ok_Md_step l D k H.size md ad th tp pl si at1 wr dp pa le MN LT FI FL sl (FD i) a hsl (by omega) (by omega) hmn hfi hfl hlt) m_Md_146 im_Md_step se_Md_step in_Md cd_Md_step [0, 1, 2, 3, 4] rfl rfl rfl rfl (by decide +kernel) ⟨rfl, rfl, Nat.le_of_ble_eq_true rfl, Nat.le_of_ble_eq_true rfl⟩ rfl hl.1 rfl (Nat.le_of_ble_eq_true rfl) d_Md_split_105 ⟨by first | exact Nat.zero_le _ | decide | omega | (dsimp only; omega), by first | exact Nat.zero_le _ | decide | omega | (dsimp only; omega)⟩) (fun r u H locs hr9 hW => ?_)
                          have hW : KW D k A s [(md, .inr (8, [.int (nI th), .int (nI tp), .ref (ad 2), .int (nM pl), .ref (ad 4), .ref (ad 5), .ref (ad 6), .ref (ad 7), .ref (ad 8), .ref (ad 9), .int (nI si), .ref (ad 11), .int (nI at1), .int (nM wr), .int (nI dp), .int (nI pa), .ref (ad 16), .ref (ad 17), .ref (ad 18), .int (nI le), .ref (ad 20), .ref (ad 21), .ref (ad 22), .ref (ad 23), .ref (ad 24), .ref (ad 25), .ref (ad 26), .ref (ad 27), .ref (ad 28), .ref (ad 29), .ref (ad 30)])), (ad 4, .inl (k 0, 4, .inl (aN MN))), (ad 5, .inl (k 0, 32, .inl (aN LT))), (ad 6, .inl (k 0, 4, .inl (aN FI))), (ad 8, .inl (k 0, 32, .inl (aN FL))), (ad 22, .inl (k 0, 66049, .inl (aN FD))), (ad 27, .inl (k 0, 257, .inl (aN PA))), (ad 28, .inl (k 0, 257, .inl (aM N1)))] H locs := hW
                          subst hr9
                          refine kiald hX hW 6 rfl (by omega) (by first | decide | omega) d_Md_split_108 ?_
                          refine lv_aload_n hX.1 hX.2.1 d_Md_split_109 rfl (lv_at hl 9 rfl) ?_
                          refine kget hX hW i_Md 0 rfl rfl 27 (by decide) f_Md_71 rfl rfl d_Md_split_110 ?_
                          refine lv_aload_n hX.1 hX.2.1 d_Md_split_113 rfl (lv_at hl 9 rfl) ?_
                          refine lv_iload_n hX.1 hX.2.1 d_Md_split_114 rfl (lv_at hl 8 rfl) ?_
                          refine lv_iload hX.1 hX.2.1 d_Md_split_115 (lv_at hl 4 rfl) ?_
                          refine lv_iload hX.1 hX.2.1 d_Md_split_117 (lv_at hl 0 rfl) ?_
                          refine kCi (wc := [(md, .inr (8, [.int (nI th), .int (nI tp), .ref (ad 2), .int (nM pl), .ref (ad 4), .ref (ad 5), .ref (ad 6), .ref (ad 7), .ref (ad 8), .ref (ad 9), .int (nI si), .ref (ad 11), .int (nI at1), .int (nM wr), .int (nI dp), .int (nI pa), .ref (ad 16), .ref (ad 17), .ref (ad 18), .int (nI le), .ref (ad 20), .ref (ad 21), .ref (ad 22), .ref (ad 23), .ref (ad 24), .ref (ad 25), .ref (ad 26), .ref (ad 27), .ref (ad 28), .ref (ad 29), .ref (ad 30)])), (ad 4, .inl (k 0, 4, .inl (aN MN))), (ad 5, .inl (k 0, 32, .inl (aN LT))), (ad 6, .inl (k 0, 4, .inl (aN FI))), (ad 8, .inl (k 0, 32, .inl (aN FL)))]) hW [0, 1, 2, 3, 4] (by rfl) (by intro _; rfl) (kRunV (n := 3) (As := [.int (nI sl), .int (nI (FD kk)), .int (nI a)]) (rest := [.ref (ad 27), .int (nI (PA (mstep MN LT FI FL sl (FD i) a)))]) hX hml hW (ok_Md_step l D k H.size md ad th tp pl si at1 wr dp pa le MN LT FI FL sl (FD kk) a hsl (by omega) (by omega) hmn hfi hfl hlt) m_Md_146 im_Md_step se_Md_step in_Md cd_Md_step [0, 1, 2, 3, 4] rfl rfl rfl rfl (by decide +kernel) ⟨rfl, rfl, Nat.le_of_ble_eq_true rfl, Nat.le_of_ble_eq_true rfl⟩ rfl hl.1 rfl (Nat.le_of_ble_eq_true rfl) d_Md_split_119 ⟨by first | exact Nat.zero_le _ | decide | omega | (dsimp only; omega), by first | exact Nat.zero_le _ | decide | omega | (dsimp only; omega)⟩) (fun r u H locs hr9 hW => ?_)
                          have hW : KW D k A s [(md, .inr (8, [.int (nI th), .int (nI tp), .ref (ad 2), .int (nM pl), .ref (ad 4), .ref (ad 5), .ref (ad 6), .ref (ad 7), .ref (ad 8), .ref (ad 9), .int (nI si), .ref (ad 11), .int (nI at1), .int (nM wr), .int (nI dp), .int (nI pa), .ref (ad 16), .ref (ad 17), .ref (ad 18), .int (nI le), .ref (ad 20), .ref (ad 21), .ref (ad 22), .ref (ad 23), .ref (ad 24), .ref (ad 25), .ref (ad 26), .ref (ad 27), .ref (ad 28), .ref (ad 29), .ref (ad 30)])), (ad 4, .inl (k 0, 4, .inl (aN MN))), (ad 5, .inl (k 0, 32, .inl (aN LT))), (ad 6, .inl (k 0, 4, .inl (aN FI))), (ad 8, .inl (k 0, 32, .inl (aN FL))), (ad 22, .inl (k 0, 66049, .inl (aN FD))), (ad 27, .inl (k 0, 257, .inl (aN PA))), (ad 28, .inl (k 0, 257, .inl (aM N1)))] H locs := hW
                          subst hr9
                          refine kiald hX hW 6 rfl (by omega) (by first | decide | omega) d_Md_split_122 ?_
                          have k131 : ∀ (vv : Nat), vv = (msm (fun q c => mstep MN LT FI FL sl q c) PA (FD i) (FD kk) (a + 1)).toNat → W p l e ({ frames := 1, cells := 0, slots := 0, locals := 26 } : Room) s m [.ref md, .int (nI sl), .int (nI n)].toArray below meth c H locs 0 0 Q (F0 m 131 ls [.int (nI vv)]) := by
                            intro vv hvv
                            subst hvv
                            refine lv_istore (lv' := [(8, .int (nI ((msm (fun q c => mstep MN LT FI FL sl q c) PA (FD i) (FD kk) (a + 1)).toNat))), (9, .int (nI a)), (7, .int (nI (FD i))), (6, .int (nI i)), (5, .int (nI (FD kk))), (4, .int (nI kk)), (3, .int (nI cN)), (2, .int (nI n)), (1, .int (nI sl)), (0, .ref md)]) hX.1 hX.2.1 d_Md_split_131 hl (by decide) rfl (fun ls hl => ?_)
                            refine lv_iinc (v := nI (a + 1)) (lv' := [(9, .int (nI (a + 1))), (8, .int (nI ((msm (fun q c => mstep MN LT FI FL sl q c) PA (FD i) (FD kk) (a + 1)).toNat))), (7, .int (nI (FD i))), (6, .int (nI i)), (5, .int (nI (FD kk))), (4, .int (nI kk)), (3, .int (nI cN)), (2, .int (nI n)), (1, .int (nI sl)), (0, .ref md)]) hX.1 hX.2.1 d_Md_split_133 hl (k := 1) rfl (kn_inc _) (by decide) rfl (fun ls hl => ?_)
                            refine lv_goto (tgt := 84) hX.1 hX.2.1 d_Md_split_136 (by decide) ?_
                            exact ih (a + 1) H locs ls (by omega) (by omega) hW (lv_sub hl [0, 1, 2, 3, 4, 5, 6, 7, 8, 9] rfl)
                          refine kne hX (tgt := 130) (by omega) (by omega) d_Md_split_123 (by decide) (fun h6 => ?_) (fun h6 => ?_)
                          · refine lv_iconst (v := nI 0) hX.1 hX.2.1 d_Md_split_130 (by decide) ?_
                            exact k131 _ (by rw [msm, bT_1 h5]; simp [h6])
                          · refine lv_iconst (v := nI 1) hX.1 hX.2.1 d_Md_split_126 (by decide) ?_
                            refine lv_goto (tgt := 131) hX.1 hX.2.1 d_Md_split_127 (by decide) ?_
                            exact k131 _ (by rw [msm, bT_1 h5]; simp [h6])
                  exact ls1 5 0 H locs ls (by omega) (by omega) hW (lv_sub hl [0, 1, 2, 3, 4, 5, 6, 7, 8, 9] rfl)
                refine kne hX (tgt := 78) (by omega) (by omega) d_Md_split_71 (by decide) (fun h4 => ?_) (fun h4 => ?_)
                · refine lv_iconst (v := nI 0) hX.1 hX.2.1 d_Md_split_78 (by decide) ?_
                  exact k79 _ (by simp [msm, h4])
                · refine lv_iconst (v := nI 1) hX.1 hX.2.1 d_Md_split_74 (by decide) ?_
                  refine lv_goto (tgt := 79) hX.1 hX.2.1 d_Md_split_75 (by decide) ?_
                  exact k79 _ (by simp [msm, h4])
        exact lr (kk + 1) 0 H locs ls (by omega) (by omega) (by rw [Nat.sub_zero]; exact hN2) hW (lv_sub hl [0, 1, 2, 3, 4, 5, 6] rfl)
  exact lp (n + 1) 0 H locs ls (by omega) (by omega) hW (lv_sub hl [0, 1, 4, 3, 2] rfl)
