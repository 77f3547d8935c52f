/-! THE REFERENCE: spell, reckon -/
theorem kn_dec1 (j : Nat) : nI (j + 1) + Int32.ofInt (-1) = nI j := by rw [kn_dec, nM_s]
theorem to1_lt {LT : Nat → Nat} {N b ch : Nat} : ∀ j, to1 LT N b ch j < 2 ^ j := by
  intro j
  induction j with
  | zero => show (0 : Nat) < 2 ^ 0; decide
  | succ j ih =>
    rw [to1]
    have h1 : 2 ^ j < 2 ^ (j + 1) := Nat.pow_lt_pow_right (by decide) (by omega)
    refine Nat.or_lt_two_pow (by omega) ?_
    split
    · exact h1
    · exact Nat.two_pow_pos _
theorem mstep_lt {MN LT FI FL : Nat → Nat} {sl S ch : Nat} (h : MN sl ≤ 8) : mstep MN LT FI FL sl S ch < 256 := by
  have h1 := to1_lt (LT := LT) (N := if S = 256 then FI sl else nx1 FL S (sl * 8) (MN sl)) (b := sl * 8) (ch := ch) (MN sl)
  have h2 : 2 ^ MN sl ≤ 2 ^ 8 := Nat.pow_le_pow_right (by decide) h
  unfold mstep
  omega
/-- whether the reference's state is at an end, as a number -/
def mtl (LA EM : Nat → Nat) (sl S : Nat) : Nat := if S = 256 then EM sl else (tl S (LA sl)).toNat
def tvm (st : Nat → Nat) (WY : Nat → Nat) (sh : Nat) : Nat → Nat
  | 0 => 0
  | a + 1 => tvm st WY sh a + WY (sh + st a)
/-- the first q states of the row of length n -/
def rrw (st : Nat → Nat → Nat) (te : Nat → Nat) (n : Nat) (WY : Nat → Nat) : Nat → Nat → Nat
  | 0 => WY
  | q + 1 => va_up (rrw st te n WY q) (n * 257 + q) (if n = 0 then te q else tvm (st q) (rrw st te n WY q) ((n - 1) * 257) 4)
def rck (st : Nat → Nat → Nat) (te : Nat → Nat) (WY : Nat → Nat) : Nat → Nat → Nat
  | 0 => WY
  | n + 1 => rrw st te n (rck st te WY n) 257
set_option maxHeartbeats 4000000 in
set_option maxRecDepth 100000 in
/-- spell(k) -/
theorem ok_Md_spell (l : Launch) (D : va_G) (k : Nat → ClassId) (sz : Nat) (md : Nat) (ad : Nat → Nat) (th tp pl si at1 wr dp pa le : Nat) (WD FR BY : Nat → Nat) (k0 nq1 nn : Nat) (hk0 : k0 < nq1) (hnq : nq1 ≤ 66049) (hFR : ∀ j, j < nq1 → FR j ≤ j) (hnn : ml FR nq1 k0 = nn) (h24 : nn ≤ 2400) : Met l y_Md_spell (.code y_Md_spell c_Md_spell 4 none :: wsU) ({ frames := 0, cells := 0, slots := 0, locals := 0 } : Room) (kPre D k [.ref md, .int (nI k0)] [(md, .inr (8, [.int (nI th), .int (nI tp), .ref (ad 2), .int (nM pl), .ref (ad 4), .ref (ad 5), .ref (ad 6), .ref (ad 7), .ref (ad 8), .ref (ad 9), .int (nI si), .ref (ad 11), .int (nI at1), .int (nM wr), .int (nI dp), .int (nI pa), .ref (ad 16), .ref (ad 17), .ref (ad 18), .int (nI le), .ref (ad 20), .ref (ad 21), .ref (ad 22), .ref (ad 23), .ref (ad 24), .ref (ad 25), .ref (ad 26), .ref (ad 27), .ref (ad 28), .ref (ad 29), .ref (ad 30)])), (ad 11, .inl (k 0, 2400, .inl (aN WD))), (ad 23, .inl (k 0, 66049, .inl (aM FR))), (ad 24, .inl (k 0, 66049, .inl (aN BY)))] sz) (va_Qv (fun (_ : Unit) => True) (kB D k (fun _ : Unit => [(md, .inr (8, [.int (nI th), .int (nI tp), .ref (ad 2), .int (nM pl), .ref (ad 4), .ref (ad 5), .ref (ad 6), .ref (ad 7), .ref (ad 8), .ref (ad 9), .int (nI nn), .ref (ad 11), .int (nI at1), .int (nM wr), .int (nI dp), .int (nI pa), .ref (ad 16), .ref (ad 17), .ref (ad 18), .int (nI le), .ref (ad 20), .ref (ad 21), .ref (ad 22), .ref (ad 23), .ref (ad 24), .ref (ad 25), .ref (ad 26), .ref (ad 27), .ref (ad 28), .ref (ad 29), .ref (ad 30)])), (ad 11, .inl (k 0, 2400, .inl (aN (mf FR BY nn k0 WD)))), (ad 23, .inl (k 0, 66049, .inl (aM FR))), (ad 24, .inl (k 0, 66049, .inl (aN BY)))]) (va_A [(md, .inr (8, [.int (nI th), .int (nI tp), .ref (ad 2), .int (nM pl), .ref (ad 4), .ref (ad 5), .ref (ad 6), .ref (ad 7), .ref (ad 8), .ref (ad 9), .int (nI si), .ref (ad 11), .int (nI at1), .int (nM wr), .int (nI dp), .int (nI pa), .ref (ad 16), .ref (ad 17), .ref (ad 18), .int (nI le), .ref (ad 20), .ref (ad 21), .ref (ad 22), .ref (ad 23), .ref (ad 24), .ref (ad 25), .ref (ad 26), .ref (ad 27), .ref (ad 28), .ref (ad 29), .ref (ad 30)])), (ad 11, .inl (k 0, 2400, .inl (aN WD))), (ad 23, .inl (k 0, 66049, .inl (aM FR))), (ad 24, .inl (k 0, 66049, .inl (aN BY)))] sz)) (va_A [(md, .inr (8, [.int (nI th), .int (nI tp), .ref (ad 2), .int (nM pl), .ref (ad 4), .ref (ad 5), .ref (ad 6), .ref (ad 7), .ref (ad 8), .ref (ad 9), .int (nI si), .ref (ad 11), .int (nI at1), .int (nM wr), .int (nI dp), .int (nI pa), .ref (ad 16), .ref (ad 17), .ref (ad 18), .int (nI le), .ref (ad 20), .ref (ad 21), .ref (ad 22), .ref (ad 23), .ref (ad 24), .ref (ad 25), .ref (ad 26), .ref (ad 27), .ref (ad 28), .ref (ad 29), .ref (ad 30)])), (ad 11, .inl (k 0, 2400, .inl (aN WD))), (ad 23, .inl (k 0, 66049, .inl (aM FR))), (ad 24, .inl (k 0, 66049, .inl (aN BY)))] sz)) 0 0 (va_A [(md, .inr (8, [.int (nI th), .int (nI tp), .ref (ad 2), .int (nM pl), .ref (ad 4), .ref (ad 5), .ref (ad 6), .ref (ad 7), .ref (ad 8), .ref (ad 9), .int (nI si), .ref (ad 11), .int (nI at1), .int (nM wr), .int (nI dp), .int (nI pa), .ref (ad 16), .ref (ad 17), .ref (ad 18), .int (nI le), .ref (ad 20), .ref (ad 21), .ref (ad 22), .ref (ad 23), .ref (ad 24), .ref (ad 25), .ref (ad 26), .ref (ad 27), .ref (ad 28), .ref (ad 29), .ref (ad 30)])), (ad 11, .inl (k 0, 2400, .inl (aN WD))), (ad 23, .inl (k 0, 66049, .inl (aM FR))), (ad 24, .inl (k 0, 66049, .inl (aN BY)))] sz) := by
  refine kMet (by decide) (Nat.le_of_ble_eq_true rfl) ?_
  intro p e s m below meth c ls hX hml hr hlocks hin hsz hW hl Q hQ
  generalize hAe : va_A [(md, .inr (8, [.int (nI th), .int (nI tp), .ref (ad 2), .int (nM pl), .ref (ad 4), .ref (ad 5), .ref (ad 6), .ref (ad 7), .ref (ad 8), .ref (ad 9), .int (nI si), .ref (ad 11), .int (nI at1), .int (nM wr), .int (nI dp), .int (nI pa), .ref (ad 16), .ref (ad 17), .ref (ad 18), .int (nI le), .ref (ad 20), .ref (ad 21), .ref (ad 22), .ref (ad 23), .ref (ad 24), .ref (ad 25), .ref (ad 26), .ref (ad 27), .ref (ad 28), .ref (ad 29), .ref (ad 30)])), (ad 11, .inl (k 0, 2400, .inl (aN WD))), (ad 23, .inl (k 0, 66049, .inl (aM FR))), (ad 24, .inl (k 0, 66049, .inl (aN BY)))] sz = A at hW hQ
  generalize hH0 : s.heap = H at hW ⊢
  generalize hl0 : ([] : List Loc) = locs at hW ⊢
  have hX : FX p s m c [.ref md, .int (nI k0)].toArray c_Md_spell R_Md := hX
  have hl : lv_has ls 4 [(0, .ref md), (1, .int (nI k0))] := hl
  have k36 : ∀ (H : Heap) (locs : List Loc) (ls : Array Slot) (x : Nat), KW D k A s [(md, .inr (8, [.int (nI th), .int (nI tp), .ref (ad 2), .int (nM pl), .ref (ad 4), .ref (ad 5), .ref (ad 6), .ref (ad 7), .ref (ad 8), .ref (ad 9), .int (nI nn), .ref (ad 11), .int (nI at1), .int (nM wr), .int (nI dp), .int (nI pa), .ref (ad 16), .ref (ad 17), .ref (ad 18), .int (nI le), .ref (ad 20), .ref (ad 21), .ref (ad 22), .ref (ad 23), .ref (ad 24), .ref (ad 25), .ref (ad 26), .ref (ad 27), .ref (ad 28), .ref (ad 29), .ref (ad 30)])), (ad 11, .inl (k 0, 2400, .inl (aN WD))), (ad 23, .inl (k 0, 66049, .inl (aM FR))), (ad 24, .inl (k 0, 66049, .inl (aN BY)))] H locs → lv_has ls 4 [(2, .int (nI x)), (1, .int (nI k0)), (0, .ref md)] → W p l e ({ frames := 0, cells := 0, slots := 0, locals := 0 } : Room) s m [.ref md, .int (nI k0)].toArray below meth c H locs 0 0 Q (F0 m 36 ls []) := by
    intro H locs ls x hW hl
    obtain ⟨o, ho⟩ : ∃ o, mf FR BY nn k0 WD = o := ⟨_, rfl⟩
    rw [ho] at hQ
    refine lv_aload_n hX.1 hX.2.1 d_Md_spell_36 rfl (lv_at hl 2 rfl) ?_
    refine kget hX hW i_Md 0 rfl rfl 10 (by decide) f_Md_154 rfl rfl d_Md_spell_37 ?_
    refine lv_istore_n (lv' := [(2, .int (nI nn)), (1, .int (nI k0)), (0, .ref md)]) hX.1 hX.2.1 d_Md_spell_40 rfl hl (by decide) rfl (fun ls hl => ?_)
    refine lv_iload_n hX.1 hX.2.1 d_Md_spell_41 rfl (lv_at hl 1 rfl) ?_
    refine lv_istore_n (lv' := [(3, .int (nI k0)), (2, .int (nI nn)), (1, .int (nI k0)), (0, .ref md)]) hX.1 hX.2.1 d_Md_spell_42 rfl hl (by decide) rfl (fun ls hl => ?_)
    have lq : ∀ (fu : Nat) (i : Nat) (r : Nat) (x1 : Nat) (L1 : Nat → Nat) (H : Heap) (locs : List Loc) (ls : Array Slot), (x1 < fu) → (x1 < nq1) → (x1 < r) → (ml FR r x1 = i) → (i ≤ nn) → (mf FR BY i x1 L1 = o) →  KW D k A s [(md, .inr (8, [.int (nI th), .int (nI tp), .ref (ad 2), .int (nM pl), .ref (ad 4), .ref (ad 5), .ref (ad 6), .ref (ad 7), .ref (ad 8), .ref (ad 9), .int (nI nn), .ref (ad 11), .int (nI at1), .int (nM wr), .int (nI dp), .int (nI pa), .ref (ad 16), .ref (ad 17), .ref (ad 18), .int (nI le), .ref (ad 20), .ref (ad 21), .ref (ad 22), .ref (ad 23), .ref (ad 24), .ref (ad 25), .ref (ad 26), .ref (ad 27), .ref (ad 28), .ref (ad 29), .ref (ad 30)])), (ad 11, .inl (k 0, 2400, .inl (aN L1))), (ad 23, .inl (k 0, 66049, .inl (aM FR))), (ad 24, .inl (k 0, 66049, .inl (aN BY)))] H locs → lv_has ls 4 [(3, .int (nI x1)), (2, .int (nI i)), (1, .int (nI k0)), (0, .ref md)] → W p l e ({ frames := 0, cells := 0, slots := 0, locals := 0 } : Room) s m [.ref md, .int (nI k0)].toArray below meth c H locs 0 0 Q (F0 m 43 ls []) := by
      intro fu
      induction fu with
      | zero => intro i r x1 L1 H locs ls lq1 hx1 hr1 hm hi hw hW hl; exfalso; omega
      | succ fu ih =>
        intro i r x1 L1 H locs ls lq1 hx1 hr1 hm hi hw hW hl
        have hf1 := hFR x1 hx1
        obtain ⟨r, rfl⟩ : ∃ r2, r = r2 + 1 := ⟨r - 1, by omega⟩
        rw [ml] at hm
        refine lv_aload_n hX.1 hX.2.1 d_Md_spell_43 rfl (lv_at hl 3 rfl) ?_
        refine kget hX hW i_Md 0 rfl rfl 23 (by decide) f_Md_58 rfl rfl d_Md_spell_44 ?_
        refine lv_iload_n hX.1 hX.2.1 d_Md_spell_47 rfl (lv_at hl 0 rfl) ?_
        refine kriald hX hW 2 rfl (by omega) (by first | decide | omega) d_Md_spell_48 ?_
        refine tpi (y := nM (FR x1)) (rfl) ?_
        refine kltM hX (tgt := 77) (by omega) d_Md_spell_49 (by decide) (fun h1 => ?_) (fun h1 => ?_)
        · rw [if_pos h1] at hm
          subst hm
          rw [mf] at hw
          subst hw
          exact kvret hX hr hlocks hQ () (hW) (trivial) d_Md_spell_77
        · rw [if_neg (by omega)] at hm
          obtain ⟨i2, rfl⟩ : ∃ i2, i = i2 + 1 := ⟨i - 1, by omega⟩
          rw [mf] at hw
          obtain ⟨g, hg⟩ : ∃ g, FR x1 = g + 1 := ⟨FR x1 - 1, by omega⟩
          refine lv_iinc (v := nI i2) (lv' := [(2, .int (nI i2)), (3, .int (nI x1)), (1, .int (nI k0)), (0, .ref md)]) hX.1 hX.2.1 d_Md_spell_52 hl (k := 1) rfl (kn_dec1 _) (by decide) rfl (fun ls hl => ?_)
          refine lv_aload_n hX.1 hX.2.1 d_Md_spell_55 rfl (lv_at hl 3 rfl) ?_
          refine kget hX hW i_Md 0 rfl rfl 11 (by decide) f_Md_36 rfl rfl d_Md_spell_56 ?_
          refine lv_iload_n hX.1 hX.2.1 d_Md_spell_59 rfl (lv_at hl 0 rfl) ?_
          refine lv_aload_n hX.1 hX.2.1 d_Md_spell_60 rfl (lv_at hl 3 rfl) ?_
          refine kget hX hW i_Md 0 rfl rfl 24 (by decide) f_Md_61 rfl rfl d_Md_spell_61 ?_
          refine lv_iload_n hX.1 hX.2.1 d_Md_spell_64 rfl (lv_at hl 1 rfl) ?_
          refine kiald hX hW 3 rfl (by omega) (by first | decide | omega) d_Md_spell_65 ?_
          refine kiast hX hW 1 rfl (by omega) (by first | decide | omega) d_Md_spell_66 (fun H locs hW => ?_)
          have hW : KW D k A s [(md, .inr (8, [.int (nI th), .int (nI tp), .ref (ad 2), .int (nM pl), .ref (ad 4), .ref (ad 5), .ref (ad 6), .ref (ad 7), .ref (ad 8), .ref (ad 9), .int (nI nn), .ref (ad 11), .int (nI at1), .int (nM wr), .int (nI dp), .int (nI pa), .ref (ad 16), .ref (ad 17), .ref (ad 18), .int (nI le), .ref (ad 20), .ref (ad 21), .ref (ad 22), .ref (ad 23), .ref (ad 24), .ref (ad 25), .ref (ad 26), .ref (ad 27), .ref (ad 28), .ref (ad 29), .ref (ad 30)])), (ad 11, .inl (k 0, 2400, .inl (aN (va_up L1 i2 (BY x1))))), (ad 23, .inl (k 0, 66049, .inl (aM FR))), (ad 24, .inl (k 0, 66049, .inl (aN BY)))] H locs := hW
          refine lv_aload_n hX.1 hX.2.1 d_Md_spell_67 rfl (lv_at hl 3 rfl) ?_
          refine kget hX hW i_Md 0 rfl rfl 23 (by decide) f_Md_58 rfl rfl d_Md_spell_68 ?_
          refine lv_iload_n hX.1 hX.2.1 d_Md_spell_71 rfl (lv_at hl 1 rfl) ?_
          refine kriald hX hW 2 rfl (by omega) (by first | decide | omega) d_Md_spell_72 ?_
          refine tpi (y := nI g) (by show nM (FR x1) = _; rw [hg, nM_s]) ?_
          refine lv_istore_n (lv' := [(3, .int (nI g)), (2, .int (nI i2)), (1, .int (nI k0)), (0, .ref md)]) hX.1 hX.2.1 d_Md_spell_73 rfl hl (by decide) rfl (fun ls hl => ?_)
          refine lv_goto (tgt := 43) hX.1 hX.2.1 d_Md_spell_74 (by decide) ?_
          rw [hg, Nat.add_sub_cancel] at hw hm
          exact ih i2 r g _ H locs ls (by omega) (by omega) (by omega) (by omega) (by omega) hw hW (lv_sub hl [0, 1, 2, 3] rfl)
    exact lq (k0 + 1) nn nq1 k0 WD H locs ls (by omega) hk0 hk0 hnn (by omega) ho hW (lv_sub hl [0, 1, 2, 3] rfl)
  refine lv_aload_n hX.1 hX.2.1 d_Md_spell_0 rfl (lv_at hl 0 rfl) ?_
  refine lv_iconst (v := nI 0) hX.1 hX.2.1 d_Md_spell_1 (by decide) ?_
  refine kput hX hW i_Md t_Md t_Md_ok n_Md 0 rfl rfl 10 (by decide) f_Md_154 rfl rfl (rfl) (rfl) (Nat.le_of_ble_eq_true rfl) d_Md_spell_2 (fun H locs hW => ?_)
  have hW : KW D k A s [(md, .inr (8, [.int (nI th), .int (nI tp), .ref (ad 2), .int (nM pl), .ref (ad 4), .ref (ad 5), .ref (ad 6), .ref (ad 7), .ref (ad 8), .ref (ad 9), .int (nI 0), .ref (ad 11), .int (nI at1), .int (nM wr), .int (nI dp), .int (nI pa), .ref (ad 16), .ref (ad 17), .ref (ad 18), .int (nI le), .ref (ad 20), .ref (ad 21), .ref (ad 22), .ref (ad 23), .ref (ad 24), .ref (ad 25), .ref (ad 26), .ref (ad 27), .ref (ad 28), .ref (ad 29), .ref (ad 30)])), (ad 11, .inl (k 0, 2400, .inl (aN WD))), (ad 23, .inl (k 0, 66049, .inl (aM FR))), (ad 24, .inl (k 0, 66049, .inl (aN BY)))] H locs := hW
  refine lv_iload_n hX.1 hX.2.1 d_Md_spell_5 rfl (lv_at hl 1 rfl) ?_
  refine lv_istore_n (lv' := [(2, .int (nI k0)), (0, .ref md), (1, .int (nI k0))]) hX.1 hX.2.1 d_Md_spell_6 rfl hl (by decide) rfl (fun ls hl => ?_)
  have lp : ∀ (fu : Nat) (ln : Nat) (r : Nat) (x : Nat) (H : Heap) (locs : List Loc) (ls : Array Slot), (x < fu) → (x < nq1) → (x < r) → (ln + ml FR r x = nn) →  KW D k A s [(md, .inr (8, [.int (nI th), .int (nI tp), .ref (ad 2), .int (nM pl), .ref (ad 4), .ref (ad 5), .ref (ad 6), .ref (ad 7), .ref (ad 8), .ref (ad 9), .int (nI ln), .ref (ad 11), .int (nI at1), .int (nM wr), .int (nI dp), .int (nI pa), .ref (ad 16), .ref (ad 17), .ref (ad 18), .int (nI le), .ref (ad 20), .ref (ad 21), .ref (ad 22), .ref (ad 23), .ref (ad 24), .ref (ad 25), .ref (ad 26), .ref (ad 27), .ref (ad 28), .ref (ad 29), .ref (ad 30)])), (ad 11, .inl (k 0, 2400, .inl (aN WD))), (ad 23, .inl (k 0, 66049, .inl (aM FR))), (ad 24, .inl (k 0, 66049, .inl (aN BY)))] H locs → lv_has ls 4 [(2, .int (nI x)), (1, .int (nI k0)), (0, .ref md)] → W p l e ({ frames := 0, cells := 0, slots := 0, locals := 0 } : Room) s m [.ref md, .int (nI k0)].toArray below meth c H locs 0 0 Q (F0 m 7 ls []) := by
    intro fu
    induction fu with
    | zero => intro ln r x H locs ls lp1 hx hr2 hm hW hl; exfalso; omega
    | succ fu ih =>
      intro ln r x H locs ls lp1 hx hr2 hm hW hl
      have hf1 := hFR x hx
      obtain ⟨r, rfl⟩ : ∃ r2, r = r2 + 1 := ⟨r - 1, by omega⟩
      rw [ml] at hm
      refine lv_aload_n hX.1 hX.2.1 d_Md_spell_7 rfl (lv_at hl 2 rfl) ?_
      refine kget hX hW i_Md 0 rfl rfl 23 (by decide) f_Md_58 rfl rfl d_Md_spell_8 ?_
      refine lv_iload_n hX.1 hX.2.1 d_Md_spell_11 rfl (lv_at hl 0 rfl) ?_
      refine kriald hX hW 2 rfl (by omega) (by first | decide | omega) d_Md_spell_12 ?_
      refine tpi (y := nM (FR x)) (rfl) ?_
      refine kltM hX (tgt := 36) (by omega) d_Md_spell_13 (by decide) (fun h1 => ?_) (fun h1 => ?_)
      · rw [if_pos h1] at hm
        have e1 : ln = nn := by omega
        subst e1
        exact k36 H locs ls x hW hl
      · rw [if_neg (by omega)] at hm
        obtain ⟨g, hg⟩ : ∃ g, FR x = g + 1 := ⟨FR x - 1, by omega⟩
        refine lv_aload_n hX.1 hX.2.1 d_Md_spell_16 rfl (lv_at hl 2 rfl) ?_
        refine lv_dup hX.1 hX.2.1 d_Md_spell_17 rfl ?_
        refine kget hX hW i_Md 0 rfl rfl 10 (by decide) f_Md_154 rfl rfl d_Md_spell_18 ?_
        refine lv_iconst (v := nI 1) hX.1 hX.2.1 d_Md_spell_21 (by decide) ?_
        refine lv_iadd hX.1 hX.2.1 d_Md_spell_22 ?_
        refine tpi (y := nI (ln + 1)) (nI_1 _) ?_
        refine kput hX hW i_Md t_Md t_Md_ok n_Md 0 rfl rfl 10 (by decide) f_Md_154 rfl rfl (rfl) (rfl) (Nat.le_of_ble_eq_true rfl) d_Md_spell_23 (fun H locs hW => ?_)
        have hW : KW D k A s [(md, .inr (8, [.int (nI th), .int (nI tp), .ref (ad 2), .int (nM pl), .ref (ad 4), .ref (ad 5), .ref (ad 6), .ref (ad 7), .ref (ad 8), .ref (ad 9), .int (nI (ln + 1)), .ref (ad 11), .int (nI at1), .int (nM wr), .int (nI dp), .int (nI pa), .ref (ad 16), .ref (ad 17), .ref (ad 18), .int (nI le), .ref (ad 20), .ref (ad 21), .ref (ad 22), .ref (ad 23), .ref (ad 24), .ref (ad 25), .ref (ad 26), .ref (ad 27), .ref (ad 28), .ref (ad 29), .ref (ad 30)])), (ad 11, .inl (k 0, 2400, .inl (aN WD))), (ad 23, .inl (k 0, 66049, .inl (aM FR))), (ad 24, .inl (k 0, 66049, .inl (aN BY)))] H locs := hW
        refine lv_aload_n hX.1 hX.2.1 d_Md_spell_26 rfl (lv_at hl 2 rfl) ?_
        refine kget hX hW i_Md 0 rfl rfl 23 (by decide) f_Md_58 rfl rfl d_Md_spell_27 ?_
        refine lv_iload_n hX.1 hX.2.1 d_Md_spell_30 rfl (lv_at hl 0 rfl) ?_
        refine kriald hX hW 2 rfl (by omega) (by first | decide | omega) d_Md_spell_31 ?_
        refine tpi (y := nI g) (by show nM (FR x) = _; rw [hg, nM_s]) ?_
        refine lv_istore_n (lv' := [(2, .int (nI g)), (1, .int (nI k0)), (0, .ref md)]) hX.1 hX.2.1 d_Md_spell_32 rfl hl (by decide) rfl (fun ls hl => ?_)
        refine lv_goto (tgt := 7) hX.1 hX.2.1 d_Md_spell_33 (by decide) ?_
        rw [hg, Nat.add_sub_cancel] at hm
        exact ih (ln + 1) r g H locs ls (by omega) (by omega) (by omega) (by omega) hW (lv_sub hl [0, 1, 2] rfl)
  exact lp (k0 + 1) 0 nq1 k0 H locs ls (by omega) hk0 hk0 (by rw [Nat.zero_add]; exact hnn) hW (lv_sub hl [0, 2, 1] rfl)
set_option maxHeartbeats 4000000 in
set_option maxRecDepth 100000 in
/-- reckon(slot, length) -/
theorem ok_Md_reckon (l : Launch) (D : va_G) (k : Nat → ClassId) (sz : Nat) (md : Nat) (ad : Nat → Nat) (th tp pl si at1 wr dp pa le : Nat) (MN LT FI FL LA EM WY : Nat → Nat) (sl len : Nat) (hsl : sl < 4) (hlen : len ≤ 30) (hmn : MN sl ≤ 8) (hfi : FI sl < 256) (hfl : ∀ i, i < MN sl → FL (sl * 8 + i) < 256) (hlt : ∀ i, i < MN sl → LT (sl * 8 + i) < 4) (hem : EM sl ≤ 1) : Met l y_Md_reckon (.code y_Md_reckon c_Md_reckon 8 none :: wsU) ({ frames := 1, cells := 0, slots := 0, locals := 26 } : Room) (kPre D k [.ref md, .int (nI sl), .int (nI len)] [(md, .inr (8, [.int (nI th), .int (nI tp), .ref (ad 2), .int (nM pl), .ref (ad 4), .ref (ad 5), .ref (ad 6), .ref (ad 7), .ref (ad 8), .ref (ad 9), .int (nI si), .ref (ad 11), .int (nI at1), .int (nM wr), .int (nI dp), .int (nI pa), .ref (ad 16), .ref (ad 17), .ref (ad 18), .int (nI le), .ref (ad 20), .ref (ad 21), .ref (ad 22), .ref (ad 23), .ref (ad 24), .ref (ad 25), .ref (ad 26), .ref (ad 27), .ref (ad 28), .ref (ad 29), .ref (ad 30)])), (ad 4, .inl (k 0, 4, .inl (aN MN))), (ad 5, .inl (k 0, 32, .inl (aN LT))), (ad 6, .inl (k 0, 4, .inl (aN FI))), (ad 8, .inl (k 0, 32, .inl (aN FL))), (ad 7, .inl (k 0, 4, .inl (aN LA))), (ad 9, .inl (k 2, 4, .inl (aN EM))), (ad 26, .inl (k 1, 7967, .inr (.inl (aL WY))))] sz) (va_Qv (fun (_ : Unit) => True) (kB D k (fun _ : Unit => [(md, .inr (8, [.int (nI th), .int (nI tp), .ref (ad 2), .int (nM pl), .ref (ad 4), .ref (ad 5), .ref (ad 6), .ref (ad 7), .ref (ad 8), .ref (ad 9), .int (nI si), .ref (ad 11), .int (nI at1), .int (nM wr), .int (nI dp), .int (nI pa), .ref (ad 16), .ref (ad 17), .ref (ad 18), .int (nI le), .ref (ad 20), .ref (ad 21), .ref (ad 22), .ref (ad 23), .ref (ad 24), .ref (ad 25), .ref (ad 26), .ref (ad 27), .ref (ad 28), .ref (ad 29), .ref (ad 30)])), (ad 4, .inl (k 0, 4, .inl (aN MN))), (ad 5, .inl (k 0, 32, .inl (aN LT))), (ad 6, .inl (k 0, 4, .inl (aN FI))), (ad 8, .inl (k 0, 32, .inl (aN FL))), (ad 7, .inl (k 0, 4, .inl (aN LA))), (ad 9, .inl (k 2, 4, .inl (aN EM))), (ad 26, .inl (k 1, 7967, .inr (.inl (aL (rck (fun q a => mstep MN LT FI FL sl q a) (mtl LA EM sl) WY (len + 1))))))]) (va_A [(md, .inr (8, [.int (nI th), .int (nI tp), .ref (ad 2), .int (nM pl), .ref (ad 4), .ref (ad 5), .ref (ad 6), .ref (ad 7), .ref (ad 8), .ref (ad 9), .int (nI si), .ref (ad 11), .int (nI at1), .int (nM wr), .int (nI dp), .int (nI pa), .ref (ad 16), .ref (ad 17), .ref (ad 18), .int (nI le), .ref (ad 20), .ref (ad 21), .ref (ad 22), .ref (ad 23), .ref (ad 24), .ref (ad 25), .ref (ad 26), .ref (ad 27), .ref (ad 28), .ref (ad 29), .ref (ad 30)])), (ad 4, .inl (k 0, 4, .inl (aN MN))), (ad 5, .inl (k 0, 32, .inl (aN LT))), (ad 6, .inl (k 0, 4, .inl (aN FI))), (ad 8, .inl (k 0, 32, .inl (aN FL))), (ad 7, .inl (k 0, 4, .inl (aN LA))), (ad 9, .inl (k 2, 4, .inl (aN EM))), (ad 26, .inl (k 1, 7967, .inr (.inl (aL WY))))] sz)) (va_A [(md, .inr (8, [.int (nI th), .int (nI tp), .ref (ad 2), .int (nM pl), .ref (ad 4), .ref (ad 5), .ref (ad 6), .ref (ad 7), .ref (ad 8), .ref (ad 9), .int (nI si), .ref (ad 11), .int (nI at1), .int (nM wr), .int (nI dp), .int (nI pa), .ref (ad 16), .ref (ad 17), .ref (ad 18), .int (nI le), .ref (ad 20), .ref (ad 21), .ref (ad 22), .ref (ad 23), .ref (ad 24), .ref (ad 25), .ref (ad 26), .ref (ad 27), .ref (ad 28), .ref (ad 29), .ref (ad 30)])), (ad 4, .inl (k 0, 4, .inl (aN MN))), (ad 5, .inl (k 0, 32, .inl (aN LT))), (ad 6, .inl (k 0, 4, .inl (aN FI))), (ad 8, .inl (k 0, 32, .inl (aN FL))), (ad 7, .inl (k 0, 4, .inl (aN LA))), (ad 9, .inl (k 2, 4, .inl (aN EM))), (ad 26, .inl (k 1, 7967, .inr (.inl (aL WY))))] sz)) 0 0 (va_A [(md, .inr (8, [.int (nI th), .int (nI tp), .ref (ad 2), .int (nM pl), .ref (ad 4), .ref (ad 5), .ref (ad 6), .ref (ad 7), .ref (ad 8), .ref (ad 9), .int (nI si), .ref (ad 11), .int (nI at1), .int (nM wr), .int (nI dp), .int (nI pa), .ref (ad 16), .ref (ad 17), .ref (ad 18), .int (nI le), .ref (ad 20), .ref (ad 21), .ref (ad 22), .ref (ad 23), .ref (ad 24), .ref (ad 25), .ref (ad 26), .ref (ad 27), .ref (ad 28), .ref (ad 29), .ref (ad 30)])), (ad 4, .inl (k 0, 4, .inl (aN MN))), (ad 5, .inl (k 0, 32, .inl (aN LT))), (ad 6, .inl (k 0, 4, .inl (aN FI))), (ad 8, .inl (k 0, 32, .inl (aN FL))), (ad 7, .inl (k 0, 4, .inl (aN LA))), (ad 9, .inl (k 2, 4, .inl (aN EM))), (ad 26, .inl (k 1, 7967, .inr (.inl (aL WY))))] sz) := by
  refine kMet (by decide) (Nat.le_of_ble_eq_true rfl) ?_
  intro p e s m below meth c ls hX hml hr hlocks hin hsz hW hl Q hQ
  generalize hAe : va_A [(md, .inr (8, [.int (nI th), .int (nI tp), .ref (ad 2), .int (nM pl), .ref (ad 4), .ref (ad 5), .ref (ad 6), .ref (ad 7), .ref (ad 8), .ref (ad 9), .int (nI si), .ref (ad 11), .int (nI at1), .int (nM wr), .int (nI dp), .int (nI pa), .ref (ad 16), .ref (ad 17), .ref (ad 18), .int (nI le), .ref (ad 20), .ref (ad 21), .ref (ad 22), .ref (ad 23), .ref (ad 24), .ref (ad 25), .ref (ad 26), .ref (ad 27), .ref (ad 28), .ref (ad 29), .ref (ad 30)])), (ad 4, .inl (k 0, 4, .inl (aN MN))), (ad 5, .inl (k 0, 32, .inl (aN LT))), (ad 6, .inl (k 0, 4, .inl (aN FI))), (ad 8, .inl (k 0, 32, .inl (aN FL))), (ad 7, .inl (k 0, 4, .inl (aN LA))), (ad 9, .inl (k 2, 4, .inl (aN EM))), (ad 26, .inl (k 1, 7967, .inr (.inl (aL WY))))] sz = A at hW hQ
  generalize hH0 : s.heap = H at hW ⊢
  generalize hl0 : ([] : List Loc) = locs at hW ⊢
  have hX : FX p s m c [.ref md, .int (nI sl), .int (nI len)].toArray c_Md_reckon R_Md := hX
  have hl : lv_has ls 8 [(0, .ref md), (1, .int (nI sl)), (2, .int (nI len))] := hl
  refine lv_iconst (v := nI 0) hX.1 hX.2.1 d_Md_reckon_0 (by decide) ?_
  refine lv_istore_n (lv' := [(3, .int (nI 0)), (0, .ref md), (1, .int (nI sl)), (2, .int (nI len))]) hX.1 hX.2.1 d_Md_reckon_1 rfl hl (by decide) rfl (fun ls hl => ?_)
  have lp : ∀ (fu : Nat) (n1 : Nat) (H : Heap) (locs : List Loc) (ls : Array Slot), (n1 ≤ len + 1) → (len + 1 < n1 + fu) →  KW D k A s [(md, .inr (8, [.int (nI th), .int (nI tp), .ref (ad 2), .int (nM pl), .ref (ad 4), .ref (ad 5), .ref (ad 6), .ref (ad 7), .ref (ad 8), .ref (ad 9), .int (nI si), .ref (ad 11), .int (nI at1), .int (nM wr), .int (nI dp), .int (nI pa), .ref (ad 16), .ref (ad 17), .ref (ad 18), .int (nI le), .ref (ad 20), .ref (ad 21), .ref (ad 22), .ref (ad 23), .ref (ad 24), .ref (ad 25), .ref (ad 26), .ref (ad 27), .ref (ad 28), .ref (ad 29), .ref (ad 30)])), (ad 4, .inl (k 0, 4, .inl (aN MN))), (ad 5, .inl (k 0, 32, .inl (aN LT))), (ad 6, .inl (k 0, 4, .inl (aN FI))), (ad 8, .inl (k 0, 32, .inl (aN FL))), (ad 7, .inl (k 0, 4, .inl (aN LA))), (ad 9, .inl (k 2, 4, .inl (aN EM))), (ad 26, .inl (k 1, 7967, .inr (.inl (aL (rck (fun q a => mstep MN LT FI FL sl q a) (mtl LA EM sl) WY n1)))))] H locs → lv_has ls 8 [(3, .int (nI n1)), (2, .int (nI len)), (1, .int (nI sl)), (0, .ref md)] → W p l e ({ frames := 1, cells := 0, slots := 0, locals := 26 } : Room) s m [.ref md, .int (nI sl), .int (nI len)].toArray below meth c H locs 0 0 Q (F0 m 2 ls []) := by
    intro fu
    induction fu with
    | zero => intro n1 H locs ls lp1 lp2 hW hl; exfalso; omega
    | succ fu ih =>
      intro n1 H locs ls lp1 lp2 hW hl
      refine lv_iload_n hX.1 hX.2.1 d_Md_reckon_2 rfl (lv_at hl 0 rfl) ?_
      refine lv_iload_n hX.1 hX.2.1 d_Md_reckon_3 rfl (lv_at hl 1 rfl) ?_
      refine kgt hX (tgt := 112) (by omega) (by omega) d_Md_reckon_4 (by decide) (fun h1 => ?_) (fun h1 => ?_)
      · have e1 : n1 = len + 1 := by omega
        subst e1
        exact kvret hX hr hlocks hQ () (hW) (trivial) d_Md_reckon_112
      · have ih0 := ih
        generalize hR0 : rck (fun q a => mstep MN LT FI FL sl q a) (mtl LA EM sl) WY n1 = WY1 at hW
        refine lv_iconst (v := nI 0) hX.1 hX.2.1 d_Md_reckon_7 (by decide) ?_
        refine lv_istore (lv' := [(4, .int (nI 0)), (3, .int (nI n1)), (2, .int (nI len)), (1, .int (nI sl)), (0, .ref md)]) hX.1 hX.2.1 d_Md_reckon_8 hl (by decide) rfl (fun ls hl => ?_)
        have lq : ∀ (fu : Nat) (q : Nat) (H : Heap) (locs : List Loc) (ls : Array Slot), (q ≤ 257) → (257 < q + fu) →  KW D k A s [(md, .inr (8, [.int (nI th), .int (nI tp), .ref (ad 2), .int (nM pl), .ref (ad 4), .ref (ad 5), .ref (ad 6), .ref (ad 7), .ref (ad 8), .ref (ad 9), .int (nI si), .ref (ad 11), .int (nI at1), .int (nM wr), .int (nI dp), .int (nI pa), .ref (ad 16), .ref (ad 17), .ref (ad 18), .int (nI le), .ref (ad 20), .ref (ad 21), .ref (ad 22), .ref (ad 23), .ref (ad 24), .ref (ad 25), .ref (ad 26), .ref (ad 27), .ref (ad 28), .ref (ad 29), .ref (ad 30)])), (ad 4, .inl (k 0, 4, .inl (aN MN))), (ad 5, .inl (k 0, 32, .inl (aN LT))), (ad 6, .inl (k 0, 4, .inl (aN FI))), (ad 8, .inl (k 0, 32, .inl (aN FL))), (ad 7, .inl (k 0, 4, .inl (aN LA))), (ad 9, .inl (k 2, 4, .inl (aN EM))), (ad 26, .inl (k 1, 7967, .inr (.inl (aL (rrw (fun q a => mstep MN LT FI FL sl q a) (mtl LA EM sl) n1 WY1 q)))))] H locs → lv_has ls 8 [(4, .int (nI q)), (3, .int (nI n1)), (2, .int (nI len)), (1, .int (nI sl)), (0, .ref md)] → W p l e ({ frames := 1, cells := 0, slots := 0, locals := 26 } : Room) s m [.ref md, .int (nI sl), .int (nI len)].toArray below meth c H locs 0 0 Q (F0 m 10 ls []) := by
          intro fu
          induction fu with
          | zero => intro q H locs ls lq1 lq2 hW hl; exfalso; omega
          | succ fu ih =>
            intro q H locs ls lq1 lq2 hW hl
            refine lv_iload hX.1 hX.2.1 d_Md_reckon_10 (lv_at hl 0 rfl) ?_
            refine lv_sipush (v := nI 257) hX.1 hX.2.1 d_Md_reckon_12 (by decide) ?_
            refine kge hX (tgt := 106) (by omega) (by omega) d_Md_reckon_15 (by decide) (fun h2 => ?_) (fun h2 => ?_)
            · have e1 : q = 257 := by omega
              subst e1
              refine lv_iinc (v := nI (n1 + 1)) (lv' := [(3, .int (nI (n1 + 1))), (4, .int (nI 257)), (2, .int (nI len)), (1, .int (nI sl)), (0, .ref md)]) hX.1 hX.2.1 d_Md_reckon_106 hl (k := 1) rfl (kn_inc _) (by decide) rfl (fun ls hl => ?_)
              refine lv_goto (tgt := 2) hX.1 hX.2.1 d_Md_reckon_109 (by decide) ?_
              exact ih0 (n1 + 1) H locs ls (by omega) (by omega) (by rw [rck, hR0]; exact hW) (lv_sub hl [0, 2, 3, 4] rfl)
            · have ih1 := ih
              have k85 : ∀ (v a : Nat) (H : Heap) (locs : List Loc) (ls : Array Slot), v = (if n1 = 0 then (mtl LA EM sl) q else tvm ((fun q a => mstep MN LT FI FL sl q a) q) (rrw (fun q a => mstep MN LT FI FL sl q a) (mtl LA EM sl) n1 WY1 q) ((n1 - 1) * 257) 4) → KW D k A s [(md, .inr (8, [.int (nI th), .int (nI tp), .ref (ad 2), .int (nM pl), .ref (ad 4), .ref (ad 5), .ref (ad 6), .ref (ad 7), .ref (ad 8), .ref (ad 9), .int (nI si), .ref (ad 11), .int (nI at1), .int (nM wr), .int (nI dp), .int (nI pa), .ref (ad 16), .ref (ad 17), .ref (ad 18), .int (nI le), .ref (ad 20), .ref (ad 21), .ref (ad 22), .ref (ad 23), .ref (ad 24), .ref (ad 25), .ref (ad 26), .ref (ad 27), .ref (ad 28), .ref (ad 29), .ref (ad 30)])), (ad 4, .inl (k 0, 4, .inl (aN MN))), (ad 5, .inl (k 0, 32, .inl (aN LT))), (ad 6, .inl (k 0, 4, .inl (aN FI))), (ad 8, .inl (k 0, 32, .inl (aN FL))), (ad 7, .inl (k 0, 4, .inl (aN LA))), (ad 9, .inl (k 2, 4, .inl (aN EM))), (ad 26, .inl (k 1, 7967, .inr (.inl (aL (rrw (fun q a => mstep MN LT FI FL sl q a) (mtl LA EM sl) n1 WY1 q)))))] H locs → lv_has ls 8 [(7, .int (nI a)), (5, .long (lN v)), (4, .int (nI q)), (3, .int (nI n1)), (2, .int (nI len)), (1, .int (nI sl)), (0, .ref md)] → W p l e ({ frames := 1, cells := 0, slots := 0, locals := 26 } : Room) s m [.ref md, .int (nI sl), .int (nI len)].toArray below meth c H locs 0 0 Q (F0 m 85 ls []) := by
                intro v a H locs ls hv hW hl
                refine lv_aload_n hX.1 hX.2.1 d_Md_reckon_85 rfl (lv_at hl 6 rfl) ?_
                refine kget hX hW i_Md 0 rfl rfl 26 (by decide) f_Md_67 rfl rfl d_Md_reckon_86 ?_
                refine lv_iload_n hX.1 hX.2.1 d_Md_reckon_89 rfl (lv_at hl 3 rfl) ?_
                refine lv_sipush (v := nI 257) hX.1 hX.2.1 d_Md_reckon_90 (by decide) ?_
                refine lv_imul hX.1 hX.2.1 d_Md_reckon_93 ?_
                refine tpi (y := nI (n1 * 257)) (pk_mul _ _) ?_
                refine lv_iload hX.1 hX.2.1 d_Md_reckon_94 (lv_at hl 2 rfl) ?_
                refine lv_iadd hX.1 hX.2.1 d_Md_reckon_96 ?_
                refine tpi (y := nI (n1 * 257 + q)) (nI_add _ _) ?_
                refine lv_lload hX.1 hX.2.1 d_Md_reckon_97 (lv_at hl 1 rfl) ?_
                refine klast hX hW 7 rfl (by omega) (by first | decide | omega) d_Md_reckon_99 (fun H locs hW => ?_)
                have hW : KW D k A s [(md, .inr (8, [.int (nI th), .int (nI tp), .ref (ad 2), .int (nM pl), .ref (ad 4), .ref (ad 5), .ref (ad 6), .ref (ad 7), .ref (ad 8), .ref (ad 9), .int (nI si), .ref (ad 11), .int (nI at1), .int (nM wr), .int (nI dp), .int (nI pa), .ref (ad 16), .ref (ad 17), .ref (ad 18), .int (nI le), .ref (ad 20), .ref (ad 21), .ref (ad 22), .ref (ad 23), .ref (ad 24), .ref (ad 25), .ref (ad 26), .ref (ad 27), .ref (ad 28), .ref (ad 29), .ref (ad 30)])), (ad 4, .inl (k 0, 4, .inl (aN MN))), (ad 5, .inl (k 0, 32, .inl (aN LT))), (ad 6, .inl (k 0, 4, .inl (aN FI))), (ad 8, .inl (k 0, 32, .inl (aN FL))), (ad 7, .inl (k 0, 4, .inl (aN LA))), (ad 9, .inl (k 2, 4, .inl (aN EM))), (ad 26, .inl (k 1, 7967, .inr (.inl (aL (va_up (rrw (fun q a => mstep MN LT FI FL sl q a) (mtl LA EM sl) n1 WY1 q) (n1 * 257 + q) v)))))] H locs := hW
                refine lv_iinc (v := nI (q + 1)) (lv' := [(4, .int (nI (q + 1))), (7, .int (nI a)), (5, .long (lN v)), (3, .int (nI n1)), (2, .int (nI len)), (1, .int (nI sl)), (0, .ref md)]) hX.1 hX.2.1 d_Md_reckon_100 hl (k := 2) rfl (kn_inc _) (by decide) rfl (fun ls hl => ?_)
                refine lv_goto (tgt := 10) hX.1 hX.2.1 d_Md_reckon_103 (by decide) ?_
                exact ih1 (q + 1) H locs ls (by omega) (by omega) (by rw [rrw, ← hv]; exact hW) (lv_sub hl [0, 3, 4, 5, 6] rfl)
              refine lv_iload_n hX.1 hX.2.1 d_Md_reckon_18 rfl (lv_at hl 1 rfl) ?_
              have k37 : n1 ≠ 0 → ∀ (v : Nat) (H : Heap) (locs : List Loc), v = 0 → KW D k A s [(md, .inr (8, [.int (nI th), .int (nI tp), .ref (ad 2), .int (nM pl), .ref (ad 4), .ref (ad 5), .ref (ad 6), .ref (ad 7), .ref (ad 8), .ref (ad 9), .int (nI si), .ref (ad 11), .int (nI at1), .int (nM wr), .int (nI dp), .int (nI pa), .ref (ad 16), .ref (ad 17), .ref (ad 18), .int (nI le), .ref (ad 20), .ref (ad 21), .ref (ad 22), .ref (ad 23), .ref (ad 24), .ref (ad 25), .ref (ad 26), .ref (ad 27), .ref (ad 28), .ref (ad 29), .ref (ad 30)])), (ad 4, .inl (k 0, 4, .inl (aN MN))), (ad 5, .inl (k 0, 32, .inl (aN LT))), (ad 6, .inl (k 0, 4, .inl (aN FI))), (ad 8, .inl (k 0, 32, .inl (aN FL))), (ad 7, .inl (k 0, 4, .inl (aN LA))), (ad 9, .inl (k 2, 4, .inl (aN EM))), (ad 26, .inl (k 1, 7967, .inr (.inl (aL (rrw (fun q a => mstep MN LT FI FL sl q a) (mtl LA EM sl) n1 WY1 q)))))] H locs → W p l e ({ frames := 1, cells := 0, slots := 0, locals := 26 } : Room) s m [.ref md, .int (nI sl), .int (nI len)].toArray below meth c H locs 0 0 Q (F0 m 37 ls [.long (lN v)]) := by
                intro hne v H locs hv0 hW
                subst hv0
                refine lv_lstore (lv' := [(5, .long (lN 0)), (4, .int (nI q)), (3, .int (nI n1)), (2, .int (nI len)), (1, .int (nI sl)), (0, .ref md)]) hX.1 hX.2.1 d_Md_reckon_37 hl (by decide) rfl (fun ls hl => ?_)
                refine lv_iconst (v := nI 0) hX.1 hX.2.1 d_Md_reckon_39 (by decide) ?_
                refine lv_istore (lv' := [(7, .int (nI 0)), (5, .long (lN 0)), (4, .int (nI q)), (3, .int (nI n1)), (2, .int (nI len)), (1, .int (nI sl)), (0, .ref md)]) hX.1 hX.2.1 d_Md_reckon_40 hl (by decide) rfl (fun ls hl => ?_)
                have lr : ∀ (fu : Nat) (a : Nat) (H : Heap) (locs : List Loc) (ls : Array Slot), (a ≤ 4) → (4 < a + fu) →  KW D k A s [(md, .inr (8, [.int (nI th), .int (nI tp), .ref (ad 2), .int (nM pl), .ref (ad 4), .ref (ad 5), .ref (ad 6), .ref (ad 7), .ref (ad 8), .ref (ad 9), .int (nI si), .ref (ad 11), .int (nI at1), .int (nM wr), .int (nI dp), .int (nI pa), .ref (ad 16), .ref (ad 17), .ref (ad 18), .int (nI le), .ref (ad 20), .ref (ad 21), .ref (ad 22), .ref (ad 23), .ref (ad 24), .ref (ad 25), .ref (ad 26), .ref (ad 27), .ref (ad 28), .ref (ad 29), .ref (ad 30)])), (ad 4, .inl (k 0, 4, .inl (aN MN))), (ad 5, .inl (k 0, 32, .inl (aN LT))), (ad 6, .inl (k 0, 4, .inl (aN FI))), (ad 8, .inl (k 0, 32, .inl (aN FL))), (ad 7, .inl (k 0, 4, .inl (aN LA))), (ad 9, .inl (k 2, 4, .inl (aN EM))), (ad 26, .inl (k 1, 7967, .inr (.inl (aL (rrw (fun q a => mstep MN LT FI FL sl q a) (mtl LA EM sl) n1 WY1 q)))))] H locs → lv_has ls 8 [(7, .int (nI a)), (5, .long (lN (tvm ((fun q a => mstep MN LT FI FL sl q a) q) (rrw (fun q a => mstep MN LT FI FL sl q a) (mtl LA EM sl) n1 WY1 q) ((n1 - 1) * 257) a))), (4, .int (nI q)), (3, .int (nI n1)), (2, .int (nI len)), (1, .int (nI sl)), (0, .ref md)] → W p l e ({ frames := 1, cells := 0, slots := 0, locals := 26 } : Room) s m [.ref md, .int (nI sl), .int (nI len)].toArray below meth c H locs 0 0 Q (F0 m 42 ls []) := by
                  intro fu
                  induction fu with
                  | zero => intro a H locs ls lr1 lr2 hW hl; exfalso; omega
                  | succ fu ih =>
                    intro a H locs ls lr1 lr2 hW hl
                    refine lv_iload hX.1 hX.2.1 d_Md_reckon_42 (lv_at hl 0 rfl) ?_
                    refine lv_iconst (v := nI 4) hX.1 hX.2.1 d_Md_reckon_44 (by decide) ?_
                    refine kge hX (tgt := 85) (by omega) (by omega) d_Md_reckon_45 (by decide) (fun h4 => ?_) (fun h4 => ?_)
                    · have e1 : a = 4 := by omega
                      subst e1
                      exact k85 _ _ H locs ls (by rw [if_neg hne]) hW hl
                    · refine lv_iload_n hX.1 hX.2.1 d_Md_reckon_48 rfl (lv_at hl 3 rfl) ?_
                      refine kleN hX (tgt := 85) (by omega) d_Md_reckon_49 (by decide) (fun h5 => ?_) (fun h5 => ?_)
                      · omega
                      · have hms := mstep_lt (MN := MN) (LT := LT) (FI := FI) (FL := FL) (sl := sl) (S := q) (ch := a) hmn
                        refine lv_lload hX.1 hX.2.1 d_Md_reckon_52 (lv_at hl 1 rfl) ?_
                        refine lv_aload_n hX.1 hX.2.1 d_Md_reckon_54 rfl (lv_at hl 6 rfl) ?_
                        refine kget hX hW i_Md 0 rfl rfl 26 (by decide) f_Md_67 rfl rfl d_Md_reckon_55 ?_
                        refine lv_iload_n hX.1 hX.2.1 d_Md_reckon_58 rfl (lv_at hl 3 rfl) ?_
                        refine lv_iconst (v := nI 1) hX.1 hX.2.1 d_Md_reckon_59 (by decide) ?_
                        refine lv_isub hX.1 hX.2.1 d_Md_reckon_60 ?_
                        refine tpi (y := nI (n1 - 1)) (pk_sub (by omega)) ?_
                        refine lv_sipush (v := nI 257) hX.1 hX.2.1 d_Md_reckon_61 (by decide) ?_
                        refine lv_imul hX.1 hX.2.1 d_Md_reckon_64 ?_
                        refine tpi (y := nI ((n1 - 1) * 257)) (pk_mul _ _) ?_
                        refine lv_aload_n hX.1 hX.2.1 d_Md_reckon_65 rfl (lv_at hl 6 rfl) ?_
                        refine lv_iload_n hX.1 hX.2.1 d_Md_reckon_66 rfl (lv_at hl 5 rfl) ?_
                        refine lv_iload hX.1 hX.2.1 d_Md_reckon_67 (lv_at hl 2 rfl) ?_
                        refine lv_iload hX.1 hX.2.1 d_Md_reckon_69 (lv_at hl 0 rfl) ?_
                        refine kCi (wc := [(md, .inr (8, [.int (nI th), .int (nI tp), .ref (ad 2), .int (nM pl), .ref (ad 4), .ref (ad 5), .ref (ad 6), .ref (ad 7), .ref (ad 8), .ref (ad 9), .int (nI si), .ref (ad 11), .int (nI at1), .int (nM wr), .int (nI dp), .int (nI pa), .ref (ad 16), .ref (ad 17), .ref (ad 18), .int (nI le), .ref (ad 20), .ref (ad 21), .ref (ad 22), .ref (ad 23), .ref (ad 24), .ref (ad 25), .ref (ad 26), .ref (ad 27), .ref (ad 28), .ref (ad 29), .ref (ad 30)])), (ad 4, .inl (k 0, 4, .inl (aN MN))), (ad 5, .inl (k 0, 32, .inl (aN LT))), (ad 6, .inl (k 0, 4, .inl (aN FI))), (ad 8, .inl (k 0, 32, .inl (aN FL)))]) hW [0, 1, 2, 3, 4] (by rfl) (by intro _; rfl) (kRunV (n := 3) (As := [.int (nI sl), .int (nI q), .int (nI a)]) (rest := [.int (nI ((n1 - 1) * 257)), .ref (ad 26), .long (lN (tvm ((fun q a => mstep MN LT FI FL sl q a) q) (rrw (fun q a => mstep MN LT FI FL sl q a) (mtl LA EM sl) n1 WY1 q) ((n1 - 1) * 257) a))]) hX hml hW (ok_Md_step l D k H.size md ad th tp pl si at1 wr dp pa le MN LT FI FL sl q a hsl (by omega) (by omega) hmn hfi hfl hlt) m_Md_146 im_Md_step se_Md_step in_Md cd_Md_step [0, 1, 2, 3, 4] rfl rfl rfl rfl (by decide +kernel) ⟨rfl, rfl, Nat.le_of_ble_eq_true rfl, Nat.le_of_ble_eq_true rfl⟩ rfl hl.1 rfl (Nat.le_of_ble_eq_true rfl) d_Md_reckon_71 ⟨by first | exact Nat.zero_le _ | decide | omega | (dsimp only; omega), by first | exact Nat.zero_le _ | decide | omega | (dsimp only; omega)⟩) (fun r u H locs hr9 hW => ?_)
                        have hW : KW D k A s [(md, .inr (8, [.int (nI th), .int (nI tp), .ref (ad 2), .int (nM pl), .ref (ad 4), .ref (ad 5), .ref (ad 6), .ref (ad 7), .ref (ad 8), .ref (ad 9), .int (nI si), .ref (ad 11), .int (nI at1), .int (nM wr), .int (nI dp), .int (nI pa), .ref (ad 16), .ref (ad 17), .ref (ad 18), .int (nI le), .ref (ad 20), .ref (ad 21), .ref (ad 22), .ref (ad 23), .ref (ad 24), .ref (ad 25), .ref (ad 26), .ref (ad 27), .ref (ad 28), .ref (ad 29), .ref (ad 30)])), (ad 4, .inl (k 0, 4, .inl (aN MN))), (ad 5, .inl (k 0, 32, .inl (aN LT))), (ad 6, .inl (k 0, 4, .inl (aN FI))), (ad 8, .inl (k 0, 32, .inl (aN FL))), (ad 7, .inl (k 0, 4, .inl (aN LA))), (ad 9, .inl (k 2, 4, .inl (aN EM))), (ad 26, .inl (k 1, 7967, .inr (.inl (aL (rrw (fun q a => mstep MN LT FI FL sl q a) (mtl LA EM sl) n1 WY1 q)))))] H locs := hW
                        subst hr9
                        refine lv_iadd hX.1 hX.2.1 d_Md_reckon_74 ?_
                        refine tpi (y := nI ((n1 - 1) * 257 + mstep MN LT FI FL sl q a)) (nI_add _ _) ?_
                        refine klald hX hW 7 rfl (by omega) (by first | decide | omega) d_Md_reckon_75 ?_
                        refine lv_ladd hX.1 hX.2.1 d_Md_reckon_76 ?_
                        refine tpl (y := lN (tvm ((fun q a => mstep MN LT FI FL sl q a) q) (rrw (fun q a => mstep MN LT FI FL sl q a) (mtl LA EM sl) n1 WY1 q) ((n1 - 1) * 257) a + (rrw (fun q a => mstep MN LT FI FL sl q a) (mtl LA EM sl) n1 WY1 q) ((n1 - 1) * 257 + mstep MN LT FI FL sl q a))) (lN_add _ _) ?_
                        refine lv_lstore (lv' := [(5, .long (lN (tvm ((fun q a => mstep MN LT FI FL sl q a) q) (rrw (fun q a => mstep MN LT FI FL sl q a) (mtl LA EM sl) n1 WY1 q) ((n1 - 1) * 257) a + (rrw (fun q a => mstep MN LT FI FL sl q a) (mtl LA EM sl) n1 WY1 q) ((n1 - 1) * 257 + mstep MN LT FI FL sl q a)))), (7, .int (nI a)), (4, .int (nI q)), (3, .int (nI n1)), (2, .int (nI len)), (1, .int (nI sl)), (0, .ref md)]) hX.1 hX.2.1 d_Md_reckon_77 hl (by decide) rfl (fun ls hl => ?_)
                        refine lv_iinc (v := nI (a + 1)) (lv' := [(7, .int (nI (a + 1))), (5, .long (lN (tvm ((fun q a => mstep MN LT FI FL sl q a) q) (rrw (fun q a => mstep MN LT FI FL sl q a) (mtl LA EM sl) n1 WY1 q) ((n1 - 1) * 257) a + (rrw (fun q a => mstep MN LT FI FL sl q a) (mtl LA EM sl) n1 WY1 q) ((n1 - 1) * 257 + mstep MN LT FI FL sl q a)))), (4, .int (nI q)), (3, .int (nI n1)), (2, .int (nI len)), (1, .int (nI sl)), (0, .ref md)]) hX.1 hX.2.1 d_Md_reckon_79 hl (k := 1) rfl (kn_inc _) (by decide) rfl (fun ls hl => ?_)
                        refine lv_goto (tgt := 42) hX.1 hX.2.1 d_Md_reckon_82 (by decide) ?_
                        exact ih (a + 1) H locs ls (by omega) (by omega) hW (lv_sub hl [0, 1, 2, 3, 4, 5, 6] rfl)
                exact lr 5 0 H locs ls (by omega) (by omega) hW (lv_sub hl [0, 1, 2, 3, 4, 5, 6] rfl)
              have k37z : n1 = 0 → ∀ (v : Nat) (H : Heap) (locs : List Loc), v = (mtl LA EM sl) q → KW D k A s [(md, .inr (8, [.int (nI th), .int (nI tp), .ref (ad 2), .int (nM pl), .ref (ad 4), .ref (ad 5), .ref (ad 6), .ref (ad 7), .ref (ad 8), .ref (ad 9), .int (nI si), .ref (ad 11), .int (nI at1), .int (nM wr), .int (nI dp), .int (nI pa), .ref (ad 16), .ref (ad 17), .ref (ad 18), .int (nI le), .ref (ad 20), .ref (ad 21), .ref (ad 22), .ref (ad 23), .ref (ad 24), .ref (ad 25), .ref (ad 26), .ref (ad 27), .ref (ad 28), .ref (ad 29), .ref (ad 30)])), (ad 4, .inl (k 0, 4, .inl (aN MN))), (ad 5, .inl (k 0, 32, .inl (aN LT))), (ad 6, .inl (k 0, 4, .inl (aN FI))), (ad 8, .inl (k 0, 32, .inl (aN FL))), (ad 7, .inl (k 0, 4, .inl (aN LA))), (ad 9, .inl (k 2, 4, .inl (aN EM))), (ad 26, .inl (k 1, 7967, .inr (.inl (aL (rrw (fun q a => mstep MN LT FI FL sl q a) (mtl LA EM sl) n1 WY1 q)))))] H locs → W p l e ({ frames := 1, cells := 0, slots := 0, locals := 26 } : Room) s m [.ref md, .int (nI sl), .int (nI len)].toArray below meth c H locs 0 0 Q (F0 m 37 ls [.long (lN v)]) := by
                intro hz0 v H locs hv0 hW
                refine lv_lstore (lv' := [(5, .long (lN v)), (4, .int (nI q)), (3, .int (nI n1)), (2, .int (nI len)), (1, .int (nI sl)), (0, .ref md)]) hX.1 hX.2.1 d_Md_reckon_37 hl (by decide) rfl (fun ls hl => ?_)
                refine lv_iconst (v := nI 0) hX.1 hX.2.1 d_Md_reckon_39 (by decide) ?_
                refine lv_istore (lv' := [(7, .int (nI 0)), (5, .long (lN v)), (4, .int (nI q)), (3, .int (nI n1)), (2, .int (nI len)), (1, .int (nI sl)), (0, .ref md)]) hX.1 hX.2.1 d_Md_reckon_40 hl (by decide) rfl (fun ls hl => ?_)
                refine lv_iload hX.1 hX.2.1 d_Md_reckon_42 (lv_at hl 0 rfl) ?_
                refine lv_iconst (v := nI 4) hX.1 hX.2.1 d_Md_reckon_44 (by decide) ?_
                refine kge hX (tgt := 85) (by decide) (by decide) d_Md_reckon_45 (by decide) (fun h4 => ?_) (fun h4 => ?_)
                · omega
                · refine lv_iload_n hX.1 hX.2.1 d_Md_reckon_48 rfl (lv_at hl 3 rfl) ?_
                  refine kleN hX (tgt := 85) (by omega) d_Md_reckon_49 (by decide) (fun h5 => ?_) (fun h5 => ?_)
                  · exact k85 _ _ H locs ls (by rw [if_pos hz0]; exact hv0) hW (lv_sub hl [0, 1, 2, 3, 4, 5, 6] rfl)
                  · omega
              refine knz hX (tgt := 36) (by omega) d_Md_reckon_19 (by decide) (fun h3 => ?_) (fun h3 => ?_)
              · refine lv_lconst (v := lN 0) hX.1 hX.2.1 d_Md_reckon_36 (by decide) ?_
                exact k37 h3 0 H locs rfl hW
              · refine lv_aload_n hX.1 hX.2.1 d_Md_reckon_22 rfl (lv_at hl 4 rfl) ?_
                refine lv_iload_n hX.1 hX.2.1 d_Md_reckon_23 rfl (lv_at hl 3 rfl) ?_
                refine lv_iload hX.1 hX.2.1 d_Md_reckon_24 (lv_at hl 0 rfl) ?_
                refine kCi (wc := [(md, .inr (8, [.int (nI th), .int (nI tp), .ref (ad 2), .int (nM pl), .ref (ad 4), .ref (ad 5), .ref (ad 6), .ref (ad 7), .ref (ad 8), .ref (ad 9), .int (nI si), .ref (ad 11), .int (nI at1), .int (nM wr), .int (nI dp), .int (nI pa), .ref (ad 16), .ref (ad 17), .ref (ad 18), .int (nI le), .ref (ad 20), .ref (ad 21), .ref (ad 22), .ref (ad 23), .ref (ad 24), .ref (ad 25), .ref (ad 26), .ref (ad 27), .ref (ad 28), .ref (ad 29), .ref (ad 30)])), (ad 7, .inl (k 0, 4, .inl (aN LA))), (ad 9, .inl (k 2, 4, .inl (aN EM)))]) hW [0, 5, 6] (by rfl) (by intro _; rfl) (kRunV (n := 2) (As := [.int (nI sl), .int (nI q)]) (rest := []) hX hml hW (ok_Md_tells l D k H.size md ad th tp pl si at1 wr dp pa le LA EM sl q hsl (by omega) hem) m_Md_150 im_Md_tells se_Md_tells in_Md cd_Md_tells [0, 5, 6] rfl rfl rfl rfl (by decide +kernel) ⟨rfl, rfl, Nat.le_of_ble_eq_true rfl, Nat.le_of_ble_eq_true rfl⟩ rfl hl.1 rfl (Nat.le_of_ble_eq_true rfl) d_Md_reckon_26 ⟨by first | exact Nat.zero_le _ | decide | omega | (dsimp only; omega), by first | exact Nat.zero_le _ | decide | omega | (dsimp only; omega)⟩) (fun r u H locs hr9 hW => ?_)
                have hW : KW D k A s [(md, .inr (8, [.int (nI th), .int (nI tp), .ref (ad 2), .int (nM pl), .ref (ad 4), .ref (ad 5), .ref (ad 6), .ref (ad 7), .ref (ad 8), .ref (ad 9), .int (nI si), .ref (ad 11), .int (nI at1), .int (nM wr), .int (nI dp), .int (nI pa), .ref (ad 16), .ref (ad 17), .ref (ad 18), .int (nI le), .ref (ad 20), .ref (ad 21), .ref (ad 22), .ref (ad 23), .ref (ad 24), .ref (ad 25), .ref (ad 26), .ref (ad 27), .ref (ad 28), .ref (ad 29), .ref (ad 30)])), (ad 4, .inl (k 0, 4, .inl (aN MN))), (ad 5, .inl (k 0, 32, .inl (aN LT))), (ad 6, .inl (k 0, 4, .inl (aN FI))), (ad 8, .inl (k 0, 32, .inl (aN FL))), (ad 7, .inl (k 0, 4, .inl (aN LA))), (ad 9, .inl (k 2, 4, .inl (aN EM))), (ad 26, .inl (k 1, 7967, .inr (.inl (aL (rrw (fun q a => mstep MN LT FI FL sl q a) (mtl LA EM sl) n1 WY1 q)))))] H locs := hW
                subst hr9
                have hmt : (if q = 256 then EM sl else (tl q (LA sl)).toNat) ≤ 1 := by split; (exact hem); (exact bT1 _)
                refine kz hX (tgt := 36) (by omega) d_Md_reckon_29 (by decide) (fun h5 => ?_) (fun h5 => ?_)
                · refine lv_lconst (v := lN 0) hX.1 hX.2.1 d_Md_reckon_36 (by decide) ?_
                  exact k37z h3 0 H locs (by unfold mtl; exact h5.symm) hW
                · refine lv_lconst (v := lN 1) hX.1 hX.2.1 d_Md_reckon_32 (by decide) ?_
                  refine lv_goto (tgt := 37) hX.1 hX.2.1 d_Md_reckon_33 (by decide) ?_
                  exact k37z h3 1 H locs (by unfold mtl; omega) hW
        exact lq 258 0 H locs ls (by omega) (by omega) hW (lv_sub hl [0, 1, 2, 3, 4] rfl)
  exact lp (len + 2) 0 H locs ls (by omega) (by omega) hW (lv_sub hl [0, 3, 2, 1] rfl)
