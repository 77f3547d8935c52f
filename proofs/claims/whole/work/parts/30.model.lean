/-! THE REFERENCE: small methods -/
def isl (x : Int32) : Bool := decide (nI 0 ≤ x ∧ x ≤ nI 3)
/-- what may follow the positions of S among the first k -/
def nx1 (FL : Nat → Nat) (S b : Nat) : Nat → Nat
  | 0 => 0
  | j + 1 => nx1 FL S b j ||| (if S.testBit j then FL (b + j) else 0)
/-- of the positions of N among the first k those with the letter ch -/
def to1 (LT : Nat → Nat) (N b ch : Nat) : Nat → Nat
  | 0 => 0
  | j + 1 => to1 LT N b ch j ||| (if N.testBit j = true ∧ LT (b + j) = ch then 2 ^ j else 0)
theorem nx1_lt {FL : Nat → Nat} {S b : Nat} : ∀ j, (∀ i, i < j → FL (b + i) < 256) → nx1 FL S b j < 256 := by
  intro j
  induction j with
  | zero => intro _; show (0 : Nat) < 256; decide
  | succ j ih =>
    intro h
    rw [nx1]
    refine or256 (ih (fun i hi => h i (by omega))) ?_
    split
    · exact h j (by omega)
    · decide
def fol (NF : Nat → Nat) (x y : Nat) : Nat → Nat → Nat
  | 0 => NF
  | p + 1 => if x.testBit p then va_up (fol NF x y p) p (fol NF x y p p ||| y) else fol NF x y p
def mstep (MN LT FI FL : Nat → Nat) (sl S ch : Nat) : Nat := to1 LT (if S = 256 then FI sl else nx1 FL S (sl * 8) (MN sl)) (sl * 8) ch (MN sl)
set_option maxHeartbeats 4000000 in
set_option maxRecDepth 100000 in
/-- thrown() -/
theorem ok_Md_thrown (l : Launch) (D : va_G) (k : Nat → ClassId) (sz : Nat) (md : Nat) (ad : Nat → Nat) (th tp pl si at1 wr dp pa le : Nat) : Met l y_Md_thrown (.code y_Md_thrown c_Md_thrown 1 (some .int) :: wsU) ({ frames := 0, cells := 0, slots := 0, locals := 0 } : Room) (kPre D k [.ref md] [(md, .inr (8, [.int (nI th), .int (nI tp), .ref (ad 2), .int (nM pl), .ref (ad 4), .ref (ad 5), .ref (ad 6), .ref (ad 7), .ref (ad 8), .ref (ad 9), .int (nI si), .ref (ad 11), .int (nI at1), .int (nM wr), .int (nI dp), .int (nI pa), .ref (ad 16), .ref (ad 17), .ref (ad 18), .int (nI le), .ref (ad 20), .ref (ad 21), .ref (ad 22), .ref (ad 23), .ref (ad 24), .ref (ad 25), .ref (ad 26), .ref (ad 27), .ref (ad 28), .ref (ad 29), .ref (ad 30)]))] sz) (va_Qi (fun (r : Int32) (_ : Unit) => r = nI th) (kB D k (fun _ : Unit => [(md, .inr (8, [.int (nI th), .int (nI tp), .ref (ad 2), .int (nM pl), .ref (ad 4), .ref (ad 5), .ref (ad 6), .ref (ad 7), .ref (ad 8), .ref (ad 9), .int (nI si), .ref (ad 11), .int (nI at1), .int (nM wr), .int (nI dp), .int (nI pa), .ref (ad 16), .ref (ad 17), .ref (ad 18), .int (nI le), .ref (ad 20), .ref (ad 21), .ref (ad 22), .ref (ad 23), .ref (ad 24), .ref (ad 25), .ref (ad 26), .ref (ad 27), .ref (ad 28), .ref (ad 29), .ref (ad 30)]))]) (va_A [(md, .inr (8, [.int (nI th), .int (nI tp), .ref (ad 2), .int (nM pl), .ref (ad 4), .ref (ad 5), .ref (ad 6), .ref (ad 7), .ref (ad 8), .ref (ad 9), .int (nI si), .ref (ad 11), .int (nI at1), .int (nM wr), .int (nI dp), .int (nI pa), .ref (ad 16), .ref (ad 17), .ref (ad 18), .int (nI le), .ref (ad 20), .ref (ad 21), .ref (ad 22), .ref (ad 23), .ref (ad 24), .ref (ad 25), .ref (ad 26), .ref (ad 27), .ref (ad 28), .ref (ad 29), .ref (ad 30)]))] sz)) (va_A [(md, .inr (8, [.int (nI th), .int (nI tp), .ref (ad 2), .int (nM pl), .ref (ad 4), .ref (ad 5), .ref (ad 6), .ref (ad 7), .ref (ad 8), .ref (ad 9), .int (nI si), .ref (ad 11), .int (nI at1), .int (nM wr), .int (nI dp), .int (nI pa), .ref (ad 16), .ref (ad 17), .ref (ad 18), .int (nI le), .ref (ad 20), .ref (ad 21), .ref (ad 22), .ref (ad 23), .ref (ad 24), .ref (ad 25), .ref (ad 26), .ref (ad 27), .ref (ad 28), .ref (ad 29), .ref (ad 30)]))] sz)) 0 0 (va_A [(md, .inr (8, [.int (nI th), .int (nI tp), .ref (ad 2), .int (nM pl), .ref (ad 4), .ref (ad 5), .ref (ad 6), .ref (ad 7), .ref (ad 8), .ref (ad 9), .int (nI si), .ref (ad 11), .int (nI at1), .int (nM wr), .int (nI dp), .int (nI pa), .ref (ad 16), .ref (ad 17), .ref (ad 18), .int (nI le), .ref (ad 20), .ref (ad 21), .ref (ad 22), .ref (ad 23), .ref (ad 24), .ref (ad 25), .ref (ad 26), .ref (ad 27), .ref (ad 28), .ref (ad 29), .ref (ad 30)]))] sz) := by
  refine kMet (by decide) (Nat.le_of_ble_eq_true rfl) ?_
  intro p e s m below meth c ls hX hml hr hlocks hin hsz hW hl Q hQ
  generalize hAe : va_A [(md, .inr (8, [.int (nI th), .int (nI tp), .ref (ad 2), .int (nM pl), .ref (ad 4), .ref (ad 5), .ref (ad 6), .ref (ad 7), .ref (ad 8), .ref (ad 9), .int (nI si), .ref (ad 11), .int (nI at1), .int (nM wr), .int (nI dp), .int (nI pa), .ref (ad 16), .ref (ad 17), .ref (ad 18), .int (nI le), .ref (ad 20), .ref (ad 21), .ref (ad 22), .ref (ad 23), .ref (ad 24), .ref (ad 25), .ref (ad 26), .ref (ad 27), .ref (ad 28), .ref (ad 29), .ref (ad 30)]))] sz = A at hW hQ
  generalize hH0 : s.heap = H at hW ⊢
  generalize hl0 : ([] : List Loc) = locs at hW ⊢
  have hX : FX p s m c [.ref md].toArray c_Md_thrown R_Md := hX
  have hl : lv_has ls 1 [(0, .ref md)] := hl
  refine lv_aload_n hX.1 hX.2.1 d_Md_thrown_0 rfl (lv_at hl 0 rfl) ?_
  refine kget hX hW i_Md 0 rfl rfl 0 (by decide) f_Md_83 rfl rfl d_Md_thrown_1 ?_
  exact kiret hX hr hlocks hQ () (hW) (rfl) d_Md_thrown_4
set_option maxHeartbeats 4000000 in
set_option maxRecDepth 100000 in
/-- place() -/
theorem ok_Md_place (l : Launch) (D : va_G) (k : Nat → ClassId) (sz : Nat) (md : Nat) (ad : Nat → Nat) (th tp pl si at1 wr dp pa le : Nat) : Met l y_Md_place (.code y_Md_place c_Md_place 1 (some .int) :: wsU) ({ frames := 0, cells := 0, slots := 0, locals := 0 } : Room) (kPre D k [.ref md] [(md, .inr (8, [.int (nI th), .int (nI tp), .ref (ad 2), .int (nM pl), .ref (ad 4), .ref (ad 5), .ref (ad 6), .ref (ad 7), .ref (ad 8), .ref (ad 9), .int (nI si), .ref (ad 11), .int (nI at1), .int (nM wr), .int (nI dp), .int (nI pa), .ref (ad 16), .ref (ad 17), .ref (ad 18), .int (nI le), .ref (ad 20), .ref (ad 21), .ref (ad 22), .ref (ad 23), .ref (ad 24), .ref (ad 25), .ref (ad 26), .ref (ad 27), .ref (ad 28), .ref (ad 29), .ref (ad 30)]))] sz) (va_Qi (fun (r : Int32) (_ : Unit) => r = nM pl) (kB D k (fun _ : Unit => [(md, .inr (8, [.int (nI 0), .int (nI tp), .ref (ad 2), .int (nM pl), .ref (ad 4), .ref (ad 5), .ref (ad 6), .ref (ad 7), .ref (ad 8), .ref (ad 9), .int (nI si), .ref (ad 11), .int (nI at1), .int (nM wr), .int (nI dp), .int (nI pa), .ref (ad 16), .ref (ad 17), .ref (ad 18), .int (nI le), .ref (ad 20), .ref (ad 21), .ref (ad 22), .ref (ad 23), .ref (ad 24), .ref (ad 25), .ref (ad 26), .ref (ad 27), .ref (ad 28), .ref (ad 29), .ref (ad 30)]))]) (va_A [(md, .inr (8, [.int (nI th), .int (nI tp), .ref (ad 2), .int (nM pl), .ref (ad 4), .ref (ad 5), .ref (ad 6), .ref (ad 7), .ref (ad 8), .ref (ad 9), .int (nI si), .ref (ad 11), .int (nI at1), .int (nM wr), .int (nI dp), .int (nI pa), .ref (ad 16), .ref (ad 17), .ref (ad 18), .int (nI le), .ref (ad 20), .ref (ad 21), .ref (ad 22), .ref (ad 23), .ref (ad 24), .ref (ad 25), .ref (ad 26), .ref (ad 27), .ref (ad 28), .ref (ad 29), .ref (ad 30)]))] sz)) (va_A [(md, .inr (8, [.int (nI th), .int (nI tp), .ref (ad 2), .int (nM pl), .ref (ad 4), .ref (ad 5), .ref (ad 6), .ref (ad 7), .ref (ad 8), .ref (ad 9), .int (nI si), .ref (ad 11), .int (nI at1), .int (nM wr), .int (nI dp), .int (nI pa), .ref (ad 16), .ref (ad 17), .ref (ad 18), .int (nI le), .ref (ad 20), .ref (ad 21), .ref (ad 22), .ref (ad 23), .ref (ad 24), .ref (ad 25), .ref (ad 26), .ref (ad 27), .ref (ad 28), .ref (ad 29), .ref (ad 30)]))] sz)) 0 0 (va_A [(md, .inr (8, [.int (nI th), .int (nI tp), .ref (ad 2), .int (nM pl), .ref (ad 4), .ref (ad 5), .ref (ad 6), .ref (ad 7), .ref (ad 8), .ref (ad 9), .int (nI si), .ref (ad 11), .int (nI at1), .int (nM wr), .int (nI dp), .int (nI pa), .ref (ad 16), .ref (ad 17), .ref (ad 18), .int (nI le), .ref (ad 20), .ref (ad 21), .ref (ad 22), .ref (ad 23), .ref (ad 24), .ref (ad 25), .ref (ad 26), .ref (ad 27), .ref (ad 28), .ref (ad 29), .ref (ad 30)]))] sz) := by
  refine kMet (by decide) (Nat.le_of_ble_eq_true rfl) ?_
  intro p e s m below meth c ls hX hml hr hlocks hin hsz hW hl Q hQ
  generalize hAe : va_A [(md, .inr (8, [.int (nI th), .int (nI tp), .ref (ad 2), .int (nM pl), .ref (ad 4), .ref (ad 5), .ref (ad 6), .ref (ad 7), .ref (ad 8), .ref (ad 9), .int (nI si), .ref (ad 11), .int (nI at1), .int (nM wr), .int (nI dp), .int (nI pa), .ref (ad 16), .ref (ad 17), .ref (ad 18), .int (nI le), .ref (ad 20), .ref (ad 21), .ref (ad 22), .ref (ad 23), .ref (ad 24), .ref (ad 25), .ref (ad 26), .ref (ad 27), .ref (ad 28), .ref (ad 29), .ref (ad 30)]))] sz = A at hW hQ
  generalize hH0 : s.heap = H at hW ⊢
  generalize hl0 : ([] : List Loc) = locs at hW ⊢
  have hX : FX p s m c [.ref md].toArray c_Md_place R_Md := hX
  have hl : lv_has ls 1 [(0, .ref md)] := hl
  refine lv_aload_n hX.1 hX.2.1 d_Md_place_0 rfl (lv_at hl 0 rfl) ?_
  refine lv_iconst (v := nI 0) hX.1 hX.2.1 d_Md_place_1 (by decide) ?_
  refine kput hX hW i_Md t_Md t_Md_ok n_Md 0 rfl rfl 0 (by decide) f_Md_83 rfl rfl (rfl) (rfl) (Nat.le_of_ble_eq_true rfl) d_Md_place_2 (fun H locs hW => ?_)
  have hW : KW D k A s [(md, .inr (8, [.int (nI 0), .int (nI tp), .ref (ad 2), .int (nM pl), .ref (ad 4), .ref (ad 5), .ref (ad 6), .ref (ad 7), .ref (ad 8), .ref (ad 9), .int (nI si), .ref (ad 11), .int (nI at1), .int (nM wr), .int (nI dp), .int (nI pa), .ref (ad 16), .ref (ad 17), .ref (ad 18), .int (nI le), .ref (ad 20), .ref (ad 21), .ref (ad 22), .ref (ad 23), .ref (ad 24), .ref (ad 25), .ref (ad 26), .ref (ad 27), .ref (ad 28), .ref (ad 29), .ref (ad 30)]))] H locs := hW
  refine lv_aload_n hX.1 hX.2.1 d_Md_place_5 rfl (lv_at hl 0 rfl) ?_
  refine kget hX hW i_Md 0 rfl rfl 3 (by decide) f_Md_13 rfl rfl d_Md_place_6 ?_
  exact kiret hX hr hlocks hQ () (hW) (rfl) d_Md_place_9
set_option maxHeartbeats 4000000 in
set_option maxRecDepth 100000 in
/-- size() -/
theorem ok_Md_size (l : Launch) (D : va_G) (k : Nat → ClassId) (sz : Nat) (md : Nat) (ad : Nat → Nat) (th tp pl si at1 wr dp pa le : Nat) : Met l y_Md_size (.code y_Md_size c_Md_size 1 (some .int) :: wsU) ({ frames := 0, cells := 0, slots := 0, locals := 0 } : Room) (kPre D k [.ref md] [(md, .inr (8, [.int (nI th), .int (nI tp), .ref (ad 2), .int (nM pl), .ref (ad 4), .ref (ad 5), .ref (ad 6), .ref (ad 7), .ref (ad 8), .ref (ad 9), .int (nI si), .ref (ad 11), .int (nI at1), .int (nM wr), .int (nI dp), .int (nI pa), .ref (ad 16), .ref (ad 17), .ref (ad 18), .int (nI le), .ref (ad 20), .ref (ad 21), .ref (ad 22), .ref (ad 23), .ref (ad 24), .ref (ad 25), .ref (ad 26), .ref (ad 27), .ref (ad 28), .ref (ad 29), .ref (ad 30)]))] sz) (va_Qi (fun (r : Int32) (_ : Unit) => r = nI si) (kB D k (fun _ : Unit => [(md, .inr (8, [.int (nI 0), .int (nI tp), .ref (ad 2), .int (nM pl), .ref (ad 4), .ref (ad 5), .ref (ad 6), .ref (ad 7), .ref (ad 8), .ref (ad 9), .int (nI si), .ref (ad 11), .int (nI at1), .int (nM wr), .int (nI dp), .int (nI pa), .ref (ad 16), .ref (ad 17), .ref (ad 18), .int (nI le), .ref (ad 20), .ref (ad 21), .ref (ad 22), .ref (ad 23), .ref (ad 24), .ref (ad 25), .ref (ad 26), .ref (ad 27), .ref (ad 28), .ref (ad 29), .ref (ad 30)]))]) (va_A [(md, .inr (8, [.int (nI th), .int (nI tp), .ref (ad 2), .int (nM pl), .ref (ad 4), .ref (ad 5), .ref (ad 6), .ref (ad 7), .ref (ad 8), .ref (ad 9), .int (nI si), .ref (ad 11), .int (nI at1), .int (nM wr), .int (nI dp), .int (nI pa), .ref (ad 16), .ref (ad 17), .ref (ad 18), .int (nI le), .ref (ad 20), .ref (ad 21), .ref (ad 22), .ref (ad 23), .ref (ad 24), .ref (ad 25), .ref (ad 26), .ref (ad 27), .ref (ad 28), .ref (ad 29), .ref (ad 30)]))] sz)) (va_A [(md, .inr (8, [.int (nI th), .int (nI tp), .ref (ad 2), .int (nM pl), .ref (ad 4), .ref (ad 5), .ref (ad 6), .ref (ad 7), .ref (ad 8), .ref (ad 9), .int (nI si), .ref (ad 11), .int (nI at1), .int (nM wr), .int (nI dp), .int (nI pa), .ref (ad 16), .ref (ad 17), .ref (ad 18), .int (nI le), .ref (ad 20), .ref (ad 21), .ref (ad 22), .ref (ad 23), .ref (ad 24), .ref (ad 25), .ref (ad 26), .ref (ad 27), .ref (ad 28), .ref (ad 29), .ref (ad 30)]))] sz)) 0 0 (va_A [(md, .inr (8, [.int (nI th), .int (nI tp), .ref (ad 2), .int (nM pl), .ref (ad 4), .ref (ad 5), .ref (ad 6), .ref (ad 7), .ref (ad 8), .ref (ad 9), .int (nI si), .ref (ad 11), .int (nI at1), .int (nM wr), .int (nI dp), .int (nI pa), .ref (ad 16), .ref (ad 17), .ref (ad 18), .int (nI le), .ref (ad 20), .ref (ad 21), .ref (ad 22), .ref (ad 23), .ref (ad 24), .ref (ad 25), .ref (ad 26), .ref (ad 27), .ref (ad 28), .ref (ad 29), .ref (ad 30)]))] sz) := by
  refine kMet (by decide) (Nat.le_of_ble_eq_true rfl) ?_
  intro p e s m below meth c ls hX hml hr hlocks hin hsz hW hl Q hQ
  generalize hAe : va_A [(md, .inr (8, [.int (nI th), .int (nI tp), .ref (ad 2), .int (nM pl), .ref (ad 4), .ref (ad 5), .ref (ad 6), .ref (ad 7), .ref (ad 8), .ref (ad 9), .int (nI si), .ref (ad 11), .int (nI at1), .int (nM wr), .int (nI dp), .int (nI pa), .ref (ad 16), .ref (ad 17), .ref (ad 18), .int (nI le), .ref (ad 20), .ref (ad 21), .ref (ad 22), .ref (ad 23), .ref (ad 24), .ref (ad 25), .ref (ad 26), .ref (ad 27), .ref (ad 28), .ref (ad 29), .ref (ad 30)]))] sz = A at hW hQ
  generalize hH0 : s.heap = H at hW ⊢
  generalize hl0 : ([] : List Loc) = locs at hW ⊢
  have hX : FX p s m c [.ref md].toArray c_Md_size R_Md := hX
  have hl : lv_has ls 1 [(0, .ref md)] := hl
  refine lv_aload_n hX.1 hX.2.1 d_Md_size_0 rfl (lv_at hl 0 rfl) ?_
  refine lv_iconst (v := nI 0) hX.1 hX.2.1 d_Md_size_1 (by decide) ?_
  refine kput hX hW i_Md t_Md t_Md_ok n_Md 0 rfl rfl 0 (by decide) f_Md_83 rfl rfl (rfl) (rfl) (Nat.le_of_ble_eq_true rfl) d_Md_size_2 (fun H locs hW => ?_)
  have hW : KW D k A s [(md, .inr (8, [.int (nI 0), .int (nI tp), .ref (ad 2), .int (nM pl), .ref (ad 4), .ref (ad 5), .ref (ad 6), .ref (ad 7), .ref (ad 8), .ref (ad 9), .int (nI si), .ref (ad 11), .int (nI at1), .int (nM wr), .int (nI dp), .int (nI pa), .ref (ad 16), .ref (ad 17), .ref (ad 18), .int (nI le), .ref (ad 20), .ref (ad 21), .ref (ad 22), .ref (ad 23), .ref (ad 24), .ref (ad 25), .ref (ad 26), .ref (ad 27), .ref (ad 28), .ref (ad 29), .ref (ad 30)]))] H locs := hW
  refine lv_aload_n hX.1 hX.2.1 d_Md_size_5 rfl (lv_at hl 0 rfl) ?_
  refine kget hX hW i_Md 0 rfl rfl 10 (by decide) f_Md_154 rfl rfl d_Md_size_6 ?_
  exact kiret hX hr hlocks hQ () (hW) (rfl) d_Md_size_9
set_option maxHeartbeats 4000000 in
set_option maxRecDepth 100000 in
/-- in(x, lo, hi) -/
theorem ok_Md_in (l : Launch) (D : va_G) (k : Nat → ClassId) (sz : Nat) (x lo hi : Int32) : Met l y_Md_in (.code y_Md_in c_Md_in 3 (some .boolean) :: wsU) ({ frames := 0, cells := 0, slots := 0, locals := 0 } : Room) (kPre D k [.int x, .int lo, .int hi] [] sz) (va_Qi (fun (r : Int32) (_ : Unit) => r = nI (decide (lo ≤ x ∧ x ≤ hi)).toNat) (kB D k (fun _ : Unit => []) (va_A [] sz)) (va_A [] sz)) 0 0 (va_A [] sz) := by
  refine kMet (by decide) (Nat.le_of_ble_eq_true rfl) ?_
  intro p e s m below meth c ls hX hml hr hlocks hin hsz hW hl Q hQ
  generalize hAe : va_A [] sz = A at hW hQ
  generalize hH0 : s.heap = H at hW ⊢
  generalize hl0 : ([] : List Loc) = locs at hW ⊢
  have hX : FX p s m c [.int x, .int lo, .int hi].toArray c_Md_in R_Md := hX
  have hl : lv_has ls 3 [(0, .int x), (1, .int lo), (2, .int hi)] := hl
  refine lv_iload_n hX.1 hX.2.1 d_Md_in_0 rfl (lv_at hl 0 rfl) ?_
  refine lv_iload_n hX.1 hX.2.1 d_Md_in_1 rfl (lv_at hl 1 rfl) ?_
  refine lv_icmp_lt (tgt := 14) hX.1 hX.2.1 d_Md_in_2 (by decide) (fun h1 => ?_) (fun h1 => ?_)
  · refine lv_iconst (v := nI 0) hX.1 hX.2.1 d_Md_in_14 (by decide) ?_
    exact kzret hX hr hlocks hQ () (hW) (by rw [show decide (lo ≤ x ∧ x ≤ hi) = false from decide_eq_false (fun q => absurd h1 (Int32.not_lt.mpr q.1))]; rfl) (Or.inl rfl) d_Md_in_15
  · refine lv_iload_n hX.1 hX.2.1 d_Md_in_5 rfl (lv_at hl 0 rfl) ?_
    refine lv_iload_n hX.1 hX.2.1 d_Md_in_6 rfl (lv_at hl 2 rfl) ?_
    refine lv_icmp_gt (tgt := 14) hX.1 hX.2.1 d_Md_in_7 (by decide) (fun h2 => ?_) (fun h2 => ?_)
    · refine lv_iconst (v := nI 0) hX.1 hX.2.1 d_Md_in_14 (by decide) ?_
      exact kzret hX hr hlocks hQ () (hW) (by rw [show decide (lo ≤ x ∧ x ≤ hi) = false from decide_eq_false (fun q => absurd h2 (Int32.not_lt.mpr q.2))]; rfl) (Or.inl rfl) d_Md_in_15
    · refine lv_iconst (v := nI 1) hX.1 hX.2.1 d_Md_in_10 (by decide) ?_
      refine lv_goto (tgt := 15) hX.1 hX.2.1 d_Md_in_11 (by decide) ?_
      exact kzret hX hr hlocks hQ () (hW) (by rw [show decide (lo ≤ x ∧ x ≤ hi) = true from decide_eq_true ⟨Int32.not_lt.mp h1, Int32.not_lt.mp h2⟩]; rfl) (Or.inr rfl) d_Md_in_15
set_option maxHeartbeats 4000000 in
set_option maxRecDepth 100000 in
/-- isSlot(x) -/
theorem ok_Md_isSlot (l : Launch) (D : va_G) (k : Nat → ClassId) (sz : Nat) (x : Int32) : Met l y_Md_isSlot (.code y_Md_isSlot c_Md_isSlot 1 (some .boolean) :: wsU) ({ frames := 1, cells := 0, slots := 0, locals := 22 } : Room) (kPre D k [.int x] [] sz) (va_Qi (fun (r : Int32) (_ : Unit) => r = nI (isl x).toNat) (kB D k (fun _ : Unit => []) (va_A [] sz)) (va_A [] sz)) 0 0 (va_A [] sz) := by
  refine kMet (by decide) (Nat.le_of_ble_eq_true rfl) ?_
  intro p e s m below meth c ls hX hml hr hlocks hin hsz hW hl Q hQ
  generalize hAe : va_A [] sz = A at hW hQ
  generalize hH0 : s.heap = H at hW ⊢
  generalize hl0 : ([] : List Loc) = locs at hW ⊢
  have hX : FX p s m c [.int x].toArray c_Md_isSlot R_Md := hX
  have hl : lv_has ls 1 [(0, .int x)] := hl
  refine lv_iload_n hX.1 hX.2.1 d_Md_isSlot_0 rfl (lv_at hl 0 rfl) ?_
  refine lv_iconst (v := nI 0) hX.1 hX.2.1 d_Md_isSlot_1 (by decide) ?_
  refine lv_iconst (v := nI 3) hX.1 hX.2.1 d_Md_isSlot_2 (by decide) ?_
  refine kCi (wc := []) hW [] (by rfl) (by intro _; rfl) (kRunS (n := 3) (As := [.int x, .int (nI 0), .int (nI 3)]) (rest := []) hX hml hW (ok_Md_in l D k H.size x (nI 0) (nI 3)) m_Md_86 sm_Md_in in_Md cd_Md_in [] rfl rfl (by decide +kernel) ⟨rfl, rfl, Nat.le_of_ble_eq_true rfl, Nat.le_of_ble_eq_true rfl⟩ rfl hl.1 rfl (Nat.le_of_ble_eq_true rfl) d_Md_isSlot_3 ⟨by first | exact Nat.zero_le _ | decide | omega | (dsimp only; omega), by first | exact Nat.zero_le _ | decide | omega | (dsimp only; omega)⟩) (fun r u H locs hr1 hW => ?_)
  have hW : KW D k A s [] H locs := hW
  subst hr1
  exact kzret hX hr hlocks hQ () (hW) (rfl) (bT_r _) d_Md_isSlot_6
set_option maxHeartbeats 4000000 in
set_option maxRecDepth 100000 in
/-- says(good) -/
theorem ok_Md_says (l : Launch) (D : va_G) (k : Nat → ClassId) (sz : Nat) (md : Nat) (ad : Nat → Nat) (th tp pl si at1 wr dp pa le : Nat) (gd : Bool) : Met l y_Md_says (.code y_Md_says c_Md_says 2 (some .boolean) :: wsU) ({ frames := 0, cells := 0, slots := 0, locals := 0 } : Room) (kPre D k [.ref md, .int (nI gd.toNat)] [(md, .inr (8, [.int (nI th), .int (nI tp), .ref (ad 2), .int (nM pl), .ref (ad 4), .ref (ad 5), .ref (ad 6), .ref (ad 7), .ref (ad 8), .ref (ad 9), .int (nI si), .ref (ad 11), .int (nI at1), .int (nM wr), .int (nI dp), .int (nI pa), .ref (ad 16), .ref (ad 17), .ref (ad 18), .int (nI le), .ref (ad 20), .ref (ad 21), .ref (ad 22), .ref (ad 23), .ref (ad 24), .ref (ad 25), .ref (ad 26), .ref (ad 27), .ref (ad 28), .ref (ad 29), .ref (ad 30)]))] sz) (va_Qi (fun (r : Int32) (_ : Unit) => r = nI gd.toNat) (kB D k (fun _ : Unit => [(md, .inr (8, [.int (nI (if gd then 0 else 1)), .int (nI tp), .ref (ad 2), .int (nM pl), .ref (ad 4), .ref (ad 5), .ref (ad 6), .ref (ad 7), .ref (ad 8), .ref (ad 9), .int (nI si), .ref (ad 11), .int (nI at1), .int (nM wr), .int (nI dp), .int (nI pa), .ref (ad 16), .ref (ad 17), .ref (ad 18), .int (nI le), .ref (ad 20), .ref (ad 21), .ref (ad 22), .ref (ad 23), .ref (ad 24), .ref (ad 25), .ref (ad 26), .ref (ad 27), .ref (ad 28), .ref (ad 29), .ref (ad 30)]))]) (va_A [(md, .inr (8, [.int (nI th), .int (nI tp), .ref (ad 2), .int (nM pl), .ref (ad 4), .ref (ad 5), .ref (ad 6), .ref (ad 7), .ref (ad 8), .ref (ad 9), .int (nI si), .ref (ad 11), .int (nI at1), .int (nM wr), .int (nI dp), .int (nI pa), .ref (ad 16), .ref (ad 17), .ref (ad 18), .int (nI le), .ref (ad 20), .ref (ad 21), .ref (ad 22), .ref (ad 23), .ref (ad 24), .ref (ad 25), .ref (ad 26), .ref (ad 27), .ref (ad 28), .ref (ad 29), .ref (ad 30)]))] sz)) (va_A [(md, .inr (8, [.int (nI th), .int (nI tp), .ref (ad 2), .int (nM pl), .ref (ad 4), .ref (ad 5), .ref (ad 6), .ref (ad 7), .ref (ad 8), .ref (ad 9), .int (nI si), .ref (ad 11), .int (nI at1), .int (nM wr), .int (nI dp), .int (nI pa), .ref (ad 16), .ref (ad 17), .ref (ad 18), .int (nI le), .ref (ad 20), .ref (ad 21), .ref (ad 22), .ref (ad 23), .ref (ad 24), .ref (ad 25), .ref (ad 26), .ref (ad 27), .ref (ad 28), .ref (ad 29), .ref (ad 30)]))] sz)) 0 0 (va_A [(md, .inr (8, [.int (nI th), .int (nI tp), .ref (ad 2), .int (nM pl), .ref (ad 4), .ref (ad 5), .ref (ad 6), .ref (ad 7), .ref (ad 8), .ref (ad 9), .int (nI si), .ref (ad 11), .int (nI at1), .int (nM wr), .int (nI dp), .int (nI pa), .ref (ad 16), .ref (ad 17), .ref (ad 18), .int (nI le), .ref (ad 20), .ref (ad 21), .ref (ad 22), .ref (ad 23), .ref (ad 24), .ref (ad 25), .ref (ad 26), .ref (ad 27), .ref (ad 28), .ref (ad 29), .ref (ad 30)]))] sz) := by
  refine kMet (by decide) (Nat.le_of_ble_eq_true rfl) ?_
  intro p e s m below meth c ls hX hml hr hlocks hin hsz hW hl Q hQ
  generalize hAe : va_A [(md, .inr (8, [.int (nI th), .int (nI tp), .ref (ad 2), .int (nM pl), .ref (ad 4), .ref (ad 5), .ref (ad 6), .ref (ad 7), .ref (ad 8), .ref (ad 9), .int (nI si), .ref (ad 11), .int (nI at1), .int (nM wr), .int (nI dp), .int (nI pa), .ref (ad 16), .ref (ad 17), .ref (ad 18), .int (nI le), .ref (ad 20), .ref (ad 21), .ref (ad 22), .ref (ad 23), .ref (ad 24), .ref (ad 25), .ref (ad 26), .ref (ad 27), .ref (ad 28), .ref (ad 29), .ref (ad 30)]))] sz = A at hW hQ
  generalize hH0 : s.heap = H at hW ⊢
  generalize hl0 : ([] : List Loc) = locs at hW ⊢
  have hX : FX p s m c [.ref md, .int (nI gd.toNat)].toArray c_Md_says R_Md := hX
  have hl : lv_has ls 2 [(0, .ref md), (1, .int (nI gd.toNat))] := hl
  refine lv_aload_n hX.1 hX.2.1 d_Md_says_0 rfl (lv_at hl 0 rfl) ?_
  refine lv_iload_n hX.1 hX.2.1 d_Md_says_1 rfl (lv_at hl 1 rfl) ?_
  have k10 : ∀ (v : Nat), v = (if gd then 0 else 1) → W p l e ({ frames := 0, cells := 0, slots := 0, locals := 0 } : Room) s m [.ref md, .int (nI gd.toNat)].toArray below meth c H locs 0 0 Q (F0 m 10 ls [.int (nI v), .ref md]) := by
    intro v hv
    subst hv
    refine kput hX hW i_Md t_Md t_Md_ok n_Md 0 rfl rfl 0 (by decide) f_Md_83 rfl rfl (rfl) (rfl) (Nat.le_of_ble_eq_true rfl) d_Md_says_10 (fun H locs hW => ?_)
    have hW : KW D k A s [(md, .inr (8, [.int (nI (if gd then 0 else 1)), .int (nI tp), .ref (ad 2), .int (nM pl), .ref (ad 4), .ref (ad 5), .ref (ad 6), .ref (ad 7), .ref (ad 8), .ref (ad 9), .int (nI si), .ref (ad 11), .int (nI at1), .int (nM wr), .int (nI dp), .int (nI pa), .ref (ad 16), .ref (ad 17), .ref (ad 18), .int (nI le), .ref (ad 20), .ref (ad 21), .ref (ad 22), .ref (ad 23), .ref (ad 24), .ref (ad 25), .ref (ad 26), .ref (ad 27), .ref (ad 28), .ref (ad 29), .ref (ad 30)]))] H locs := hW
    refine lv_iload_n hX.1 hX.2.1 d_Md_says_13 rfl (lv_at hl 1 rfl) ?_
    exact kzret hX hr hlocks hQ () (hW) (rfl) (bT_r _) d_Md_says_14
  refine kz hX (tgt := 9) (bT _) d_Md_says_2 (by decide) (fun h1 => ?_) (fun h1 => ?_)
  · refine lv_iconst (v := nI 1) hX.1 hX.2.1 d_Md_says_9 (by decide) ?_
    exact k10 _ (by rw [bT_0 h1]; rfl)
  · refine lv_iconst (v := nI 0) hX.1 hX.2.1 d_Md_says_5 (by decide) ?_
    refine lv_goto (tgt := 10) hX.1 hX.2.1 d_Md_says_6 (by decide) ?_
    exact k10 _ (by rw [bT_1 h1]; rfl)
set_option maxHeartbeats 4000000 in
set_option maxRecDepth 100000 in
/-- see() -/
theorem ok_Md_see (l : Launch) (D : va_G) (k : Nat → ClassId) (sz : Nat) (md : Nat) (ad : Nat → Nat) (th tp pl si at1 wr dp pa le : Nat) (TP : Nat → Nat) (htp : tp ≤ 80) (hat : at1 < 2 ^ 20) : Met l y_Md_see (.code y_Md_see c_Md_see 1 (some .int) :: wsU) ({ frames := 0, cells := 0, slots := 0, locals := 0 } : Room) (kPre D k [.ref md] [(md, .inr (8, [.int (nI th), .int (nI tp), .ref (ad 2), .int (nM pl), .ref (ad 4), .ref (ad 5), .ref (ad 6), .ref (ad 7), .ref (ad 8), .ref (ad 9), .int (nI si), .ref (ad 11), .int (nI at1), .int (nM wr), .int (nI dp), .int (nI pa), .ref (ad 16), .ref (ad 17), .ref (ad 18), .int (nI le), .ref (ad 20), .ref (ad 21), .ref (ad 22), .ref (ad 23), .ref (ad 24), .ref (ad 25), .ref (ad 26), .ref (ad 27), .ref (ad 28), .ref (ad 29), .ref (ad 30)])), (ad 2, .inl (k 0, 80, .inl (aN TP)))] sz) (va_Qi (fun (r : Int32) (_ : Unit) => r = nM (if at1 < tp then TP at1 + 1 else 0)) (kB D k (fun _ : Unit => [(md, .inr (8, [.int (nI th), .int (nI tp), .ref (ad 2), .int (nM pl), .ref (ad 4), .ref (ad 5), .ref (ad 6), .ref (ad 7), .ref (ad 8), .ref (ad 9), .int (nI si), .ref (ad 11), .int (nI at1), .int (nM wr), .int (nI dp), .int (nI pa), .ref (ad 16), .ref (ad 17), .ref (ad 18), .int (nI le), .ref (ad 20), .ref (ad 21), .ref (ad 22), .ref (ad 23), .ref (ad 24), .ref (ad 25), .ref (ad 26), .ref (ad 27), .ref (ad 28), .ref (ad 29), .ref (ad 30)])), (ad 2, .inl (k 0, 80, .inl (aN TP)))]) (va_A [(md, .inr (8, [.int (nI th), .int (nI tp), .ref (ad 2), .int (nM pl), .ref (ad 4), .ref (ad 5), .ref (ad 6), .ref (ad 7), .ref (ad 8), .ref (ad 9), .int (nI si), .ref (ad 11), .int (nI at1), .int (nM wr), .int (nI dp), .int (nI pa), .ref (ad 16), .ref (ad 17), .ref (ad 18), .int (nI le), .ref (ad 20), .ref (ad 21), .ref (ad 22), .ref (ad 23), .ref (ad 24), .ref (ad 25), .ref (ad 26), .ref (ad 27), .ref (ad 28), .ref (ad 29), .ref (ad 30)])), (ad 2, .inl (k 0, 80, .inl (aN TP)))] sz)) (va_A [(md, .inr (8, [.int (nI th), .int (nI tp), .ref (ad 2), .int (nM pl), .ref (ad 4), .ref (ad 5), .ref (ad 6), .ref (ad 7), .ref (ad 8), .ref (ad 9), .int (nI si), .ref (ad 11), .int (nI at1), .int (nM wr), .int (nI dp), .int (nI pa), .ref (ad 16), .ref (ad 17), .ref (ad 18), .int (nI le), .ref (ad 20), .ref (ad 21), .ref (ad 22), .ref (ad 23), .ref (ad 24), .ref (ad 25), .ref (ad 26), .ref (ad 27), .ref (ad 28), .ref (ad 29), .ref (ad 30)])), (ad 2, .inl (k 0, 80, .inl (aN TP)))] sz)) 0 0 (va_A [(md, .inr (8, [.int (nI th), .int (nI tp), .ref (ad 2), .int (nM pl), .ref (ad 4), .ref (ad 5), .ref (ad 6), .ref (ad 7), .ref (ad 8), .ref (ad 9), .int (nI si), .ref (ad 11), .int (nI at1), .int (nM wr), .int (nI dp), .int (nI pa), .ref (ad 16), .ref (ad 17), .ref (ad 18), .int (nI le), .ref (ad 20), .ref (ad 21), .ref (ad 22), .ref (ad 23), .ref (ad 24), .ref (ad 25), .ref (ad 26), .ref (ad 27), .ref (ad 28), .ref (ad 29), .ref (ad 30)])), (ad 2, .inl (k 0, 80, .inl (aN TP)))] sz) := by
  refine kMet (by decide) (Nat.le_of_ble_eq_true rfl) ?_
  intro p e s m below meth c ls hX hml hr hlocks hin hsz hW hl Q hQ
  generalize hAe : va_A [(md, .inr (8, [.int (nI th), .int (nI tp), .ref (ad 2), .int (nM pl), .ref (ad 4), .ref (ad 5), .ref (ad 6), .ref (ad 7), .ref (ad 8), .ref (ad 9), .int (nI si), .ref (ad 11), .int (nI at1), .int (nM wr), .int (nI dp), .int (nI pa), .ref (ad 16), .ref (ad 17), .ref (ad 18), .int (nI le), .ref (ad 20), .ref (ad 21), .ref (ad 22), .ref (ad 23), .ref (ad 24), .ref (ad 25), .ref (ad 26), .ref (ad 27), .ref (ad 28), .ref (ad 29), .ref (ad 30)])), (ad 2, .inl (k 0, 80, .inl (aN TP)))] sz = A at hW hQ
  generalize hH0 : s.heap = H at hW ⊢
  generalize hl0 : ([] : List Loc) = locs at hW ⊢
  have hX : FX p s m c [.ref md].toArray c_Md_see R_Md := hX
  have hl : lv_has ls 1 [(0, .ref md)] := hl
  refine lv_aload_n hX.1 hX.2.1 d_Md_see_0 rfl (lv_at hl 0 rfl) ?_
  refine kget hX hW i_Md 0 rfl rfl 12 (by decide) f_Md_93 rfl rfl d_Md_see_1 ?_
  refine lv_aload_n hX.1 hX.2.1 d_Md_see_4 rfl (lv_at hl 0 rfl) ?_
  refine kget hX hW i_Md 0 rfl rfl 1 (by decide) f_Md_90 rfl rfl d_Md_see_5 ?_
  refine kge hX (tgt := 23) (by omega) (by omega) d_Md_see_8 (by decide) (fun h1 => ?_) (fun h1 => ?_)
  · refine lv_iconst (v := (-1)) hX.1 hX.2.1 d_Md_see_23 (by decide) ?_
    exact kiret hX hr hlocks hQ () (hW) (by rw [if_neg (by omega)]; exact nM_0.symm) d_Md_see_24
  · refine lv_aload_n hX.1 hX.2.1 d_Md_see_11 rfl (lv_at hl 0 rfl) ?_
    refine kget hX hW i_Md 0 rfl rfl 2 (by decide) f_Md_9 rfl rfl d_Md_see_12 ?_
    refine lv_aload_n hX.1 hX.2.1 d_Md_see_15 rfl (lv_at hl 0 rfl) ?_
    refine kget hX hW i_Md 0 rfl rfl 12 (by decide) f_Md_93 rfl rfl d_Md_see_16 ?_
    refine kiald hX hW 1 rfl (by omega) (by first | decide | omega) d_Md_see_19 ?_
    refine lv_goto (tgt := 24) hX.1 hX.2.1 d_Md_see_20 (by decide) ?_
    exact kiret hX hr hlocks hQ () (hW) (by rw [if_pos h1]; exact (nM_s _).symm) d_Md_see_24
set_option maxHeartbeats 4000000 in
set_option maxRecDepth 100000 in
/-- part(e, f, l) -/
theorem ok_Md_part (l : Launch) (D : va_G) (k : Nat → ClassId) (sz : Nat) (md : Nat) (ad : Nat → Nat) (th tp pl si at1 wr dp pa le : Nat) (PE PF PL : Nat → Nat) (e0 : Bool) (f0 l0 : Nat) (hpa : pa < 400) : Met l y_Md_part (.code y_Md_part c_Md_part 4 (some .int) :: wsU) ({ frames := 0, cells := 0, slots := 0, locals := 0 } : Room) (kPre D k [.ref md, .int (nI e0.toNat), .int (nI f0), .int (nI l0)] [(md, .inr (8, [.int (nI th), .int (nI tp), .ref (ad 2), .int (nM pl), .ref (ad 4), .ref (ad 5), .ref (ad 6), .ref (ad 7), .ref (ad 8), .ref (ad 9), .int (nI si), .ref (ad 11), .int (nI at1), .int (nM wr), .int (nI dp), .int (nI pa), .ref (ad 16), .ref (ad 17), .ref (ad 18), .int (nI le), .ref (ad 20), .ref (ad 21), .ref (ad 22), .ref (ad 23), .ref (ad 24), .ref (ad 25), .ref (ad 26), .ref (ad 27), .ref (ad 28), .ref (ad 29), .ref (ad 30)])), (ad 16, .inl (k 2, 400, .inl (aN PE))), (ad 17, .inl (k 0, 400, .inl (aN PF))), (ad 18, .inl (k 0, 400, .inl (aN PL)))] sz) (va_Qi (fun (r : Int32) (_ : Unit) => r = nI pa) (kB D k (fun _ : Unit => [(md, .inr (8, [.int (nI th), .int (nI tp), .ref (ad 2), .int (nM pl), .ref (ad 4), .ref (ad 5), .ref (ad 6), .ref (ad 7), .ref (ad 8), .ref (ad 9), .int (nI si), .ref (ad 11), .int (nI at1), .int (nM wr), .int (nI dp), .int (nI (pa + 1)), .ref (ad 16), .ref (ad 17), .ref (ad 18), .int (nI le), .ref (ad 20), .ref (ad 21), .ref (ad 22), .ref (ad 23), .ref (ad 24), .ref (ad 25), .ref (ad 26), .ref (ad 27), .ref (ad 28), .ref (ad 29), .ref (ad 30)])), (ad 16, .inl (k 2, 400, .inl (aN (va_up PE pa e0.toNat)))), (ad 17, .inl (k 0, 400, .inl (aN (va_up PF pa f0)))), (ad 18, .inl (k 0, 400, .inl (aN (va_up PL pa l0))))]) (va_A [(md, .inr (8, [.int (nI th), .int (nI tp), .ref (ad 2), .int (nM pl), .ref (ad 4), .ref (ad 5), .ref (ad 6), .ref (ad 7), .ref (ad 8), .ref (ad 9), .int (nI si), .ref (ad 11), .int (nI at1), .int (nM wr), .int (nI dp), .int (nI pa), .ref (ad 16), .ref (ad 17), .ref (ad 18), .int (nI le), .ref (ad 20), .ref (ad 21), .ref (ad 22), .ref (ad 23), .ref (ad 24), .ref (ad 25), .ref (ad 26), .ref (ad 27), .ref (ad 28), .ref (ad 29), .ref (ad 30)])), (ad 16, .inl (k 2, 400, .inl (aN PE))), (ad 17, .inl (k 0, 400, .inl (aN PF))), (ad 18, .inl (k 0, 400, .inl (aN PL)))] sz)) (va_A [(md, .inr (8, [.int (nI th), .int (nI tp), .ref (ad 2), .int (nM pl), .ref (ad 4), .ref (ad 5), .ref (ad 6), .ref (ad 7), .ref (ad 8), .ref (ad 9), .int (nI si), .ref (ad 11), .int (nI at1), .int (nM wr), .int (nI dp), .int (nI pa), .ref (ad 16), .ref (ad 17), .ref (ad 18), .int (nI le), .ref (ad 20), .ref (ad 21), .ref (ad 22), .ref (ad 23), .ref (ad 24), .ref (ad 25), .ref (ad 26), .ref (ad 27), .ref (ad 28), .ref (ad 29), .ref (ad 30)])), (ad 16, .inl (k 2, 400, .inl (aN PE))), (ad 17, .inl (k 0, 400, .inl (aN PF))), (ad 18, .inl (k 0, 400, .inl (aN PL)))] sz)) 0 0 (va_A [(md, .inr (8, [.int (nI th), .int (nI tp), .ref (ad 2), .int (nM pl), .ref (ad 4), .ref (ad 5), .ref (ad 6), .ref (ad 7), .ref (ad 8), .ref (ad 9), .int (nI si), .ref (ad 11), .int (nI at1), .int (nM wr), .int (nI dp), .int (nI pa), .ref (ad 16), .ref (ad 17), .ref (ad 18), .int (nI le), .ref (ad 20), .ref (ad 21), .ref (ad 22), .ref (ad 23), .ref (ad 24), .ref (ad 25), .ref (ad 26), .ref (ad 27), .ref (ad 28), .ref (ad 29), .ref (ad 30)])), (ad 16, .inl (k 2, 400, .inl (aN PE))), (ad 17, .inl (k 0, 400, .inl (aN PF))), (ad 18, .inl (k 0, 400, .inl (aN PL)))] sz) := by
  refine kMet (by decide) (Nat.le_of_ble_eq_true rfl) ?_
  intro p e s m below meth c ls hX hml hr hlocks hin hsz hW hl Q hQ
  generalize hAe : va_A [(md, .inr (8, [.int (nI th), .int (nI tp), .ref (ad 2), .int (nM pl), .ref (ad 4), .ref (ad 5), .ref (ad 6), .ref (ad 7), .ref (ad 8), .ref (ad 9), .int (nI si), .ref (ad 11), .int (nI at1), .int (nM wr), .int (nI dp), .int (nI pa), .ref (ad 16), .ref (ad 17), .ref (ad 18), .int (nI le), .ref (ad 20), .ref (ad 21), .ref (ad 22), .ref (ad 23), .ref (ad 24), .ref (ad 25), .ref (ad 26), .ref (ad 27), .ref (ad 28), .ref (ad 29), .ref (ad 30)])), (ad 16, .inl (k 2, 400, .inl (aN PE))), (ad 17, .inl (k 0, 400, .inl (aN PF))), (ad 18, .inl (k 0, 400, .inl (aN PL)))] sz = A at hW hQ
  generalize hH0 : s.heap = H at hW ⊢
  generalize hl0 : ([] : List Loc) = locs at hW ⊢
  have hX : FX p s m c [.ref md, .int (nI e0.toNat), .int (nI f0), .int (nI l0)].toArray c_Md_part R_Md := hX
  have hl : lv_has ls 4 [(0, .ref md), (1, .int (nI e0.toNat)), (2, .int (nI f0)), (3, .int (nI l0))] := hl
  refine lv_aload_n hX.1 hX.2.1 d_Md_part_0 rfl (lv_at hl 0 rfl) ?_
  refine kget hX hW i_Md 0 rfl rfl 16 (by decide) f_Md_39 rfl rfl d_Md_part_1 ?_
  refine lv_aload_n hX.1 hX.2.1 d_Md_part_4 rfl (lv_at hl 0 rfl) ?_
  refine kget hX hW i_Md 0 rfl rfl 15 (by decide) f_Md_96 rfl rfl d_Md_part_5 ?_
  refine lv_iload_n hX.1 hX.2.1 d_Md_part_8 rfl (lv_at hl 1 rfl) ?_
  refine kzast hX hW 1 rfl (by omega) (by first | decide | omega) (bT1 _) d_Md_part_9 (fun H locs hW => ?_)
  have hW : KW D k A s [(md, .inr (8, [.int (nI th), .int (nI tp), .ref (ad 2), .int (nM pl), .ref (ad 4), .ref (ad 5), .ref (ad 6), .ref (ad 7), .ref (ad 8), .ref (ad 9), .int (nI si), .ref (ad 11), .int (nI at1), .int (nM wr), .int (nI dp), .int (nI pa), .ref (ad 16), .ref (ad 17), .ref (ad 18), .int (nI le), .ref (ad 20), .ref (ad 21), .ref (ad 22), .ref (ad 23), .ref (ad 24), .ref (ad 25), .ref (ad 26), .ref (ad 27), .ref (ad 28), .ref (ad 29), .ref (ad 30)])), (ad 16, .inl (k 2, 400, .inl (aN (va_up PE pa e0.toNat)))), (ad 17, .inl (k 0, 400, .inl (aN PF))), (ad 18, .inl (k 0, 400, .inl (aN PL)))] H locs := hW
  refine lv_aload_n hX.1 hX.2.1 d_Md_part_10 rfl (lv_at hl 0 rfl) ?_
  refine kget hX hW i_Md 0 rfl rfl 17 (by decide) f_Md_42 rfl rfl d_Md_part_11 ?_
  refine lv_aload_n hX.1 hX.2.1 d_Md_part_14 rfl (lv_at hl 0 rfl) ?_
  refine kget hX hW i_Md 0 rfl rfl 15 (by decide) f_Md_96 rfl rfl d_Md_part_15 ?_
  refine lv_iload_n hX.1 hX.2.1 d_Md_part_18 rfl (lv_at hl 2 rfl) ?_
  refine kiast hX hW 2 rfl (by omega) (by first | decide | omega) d_Md_part_19 (fun H locs hW => ?_)
  have hW : KW D k A s [(md, .inr (8, [.int (nI th), .int (nI tp), .ref (ad 2), .int (nM pl), .ref (ad 4), .ref (ad 5), .ref (ad 6), .ref (ad 7), .ref (ad 8), .ref (ad 9), .int (nI si), .ref (ad 11), .int (nI at1), .int (nM wr), .int (nI dp), .int (nI pa), .ref (ad 16), .ref (ad 17), .ref (ad 18), .int (nI le), .ref (ad 20), .ref (ad 21), .ref (ad 22), .ref (ad 23), .ref (ad 24), .ref (ad 25), .ref (ad 26), .ref (ad 27), .ref (ad 28), .ref (ad 29), .ref (ad 30)])), (ad 16, .inl (k 2, 400, .inl (aN (va_up PE pa e0.toNat)))), (ad 17, .inl (k 0, 400, .inl (aN (va_up PF pa f0)))), (ad 18, .inl (k 0, 400, .inl (aN PL)))] H locs := hW
  refine lv_aload_n hX.1 hX.2.1 d_Md_part_20 rfl (lv_at hl 0 rfl) ?_
  refine kget hX hW i_Md 0 rfl rfl 18 (by decide) f_Md_45 rfl rfl d_Md_part_21 ?_
  refine lv_aload_n hX.1 hX.2.1 d_Md_part_24 rfl (lv_at hl 0 rfl) ?_
  refine kget hX hW i_Md 0 rfl rfl 15 (by decide) f_Md_96 rfl rfl d_Md_part_25 ?_
  refine lv_iload_n hX.1 hX.2.1 d_Md_part_28 rfl (lv_at hl 3 rfl) ?_
  refine kiast hX hW 3 rfl (by omega) (by first | decide | omega) d_Md_part_29 (fun H locs hW => ?_)
  have hW : KW D k A s [(md, .inr (8, [.int (nI th), .int (nI tp), .ref (ad 2), .int (nM pl), .ref (ad 4), .ref (ad 5), .ref (ad 6), .ref (ad 7), .ref (ad 8), .ref (ad 9), .int (nI si), .ref (ad 11), .int (nI at1), .int (nM wr), .int (nI dp), .int (nI pa), .ref (ad 16), .ref (ad 17), .ref (ad 18), .int (nI le), .ref (ad 20), .ref (ad 21), .ref (ad 22), .ref (ad 23), .ref (ad 24), .ref (ad 25), .ref (ad 26), .ref (ad 27), .ref (ad 28), .ref (ad 29), .ref (ad 30)])), (ad 16, .inl (k 2, 400, .inl (aN (va_up PE pa e0.toNat)))), (ad 17, .inl (k 0, 400, .inl (aN (va_up PF pa f0)))), (ad 18, .inl (k 0, 400, .inl (aN (va_up PL pa l0))))] H locs := hW
  refine lv_aload_n hX.1 hX.2.1 d_Md_part_30 rfl (lv_at hl 0 rfl) ?_
  refine lv_dup hX.1 hX.2.1 d_Md_part_31 rfl ?_
  refine kget hX hW i_Md 0 rfl rfl 15 (by decide) f_Md_96 rfl rfl d_Md_part_32 ?_
  refine lv_iconst (v := nI 1) hX.1 hX.2.1 d_Md_part_35 (by decide) ?_
  refine lv_iadd hX.1 hX.2.1 d_Md_part_36 ?_
  refine tpi (y := nI (pa + 1)) (nI_1 _) ?_
  refine kput hX hW i_Md t_Md t_Md_ok n_Md 0 rfl rfl 15 (by decide) f_Md_96 rfl rfl (rfl) (rfl) (Nat.le_of_ble_eq_true rfl) d_Md_part_37 (fun H locs hW => ?_)
  have hW : KW D k A s [(md, .inr (8, [.int (nI th), .int (nI tp), .ref (ad 2), .int (nM pl), .ref (ad 4), .ref (ad 5), .ref (ad 6), .ref (ad 7), .ref (ad 8), .ref (ad 9), .int (nI si), .ref (ad 11), .int (nI at1), .int (nM wr), .int (nI dp), .int (nI (pa + 1)), .ref (ad 16), .ref (ad 17), .ref (ad 18), .int (nI le), .ref (ad 20), .ref (ad 21), .ref (ad 22), .ref (ad 23), .ref (ad 24), .ref (ad 25), .ref (ad 26), .ref (ad 27), .ref (ad 28), .ref (ad 29), .ref (ad 30)])), (ad 16, .inl (k 2, 400, .inl (aN (va_up PE pa e0.toNat)))), (ad 17, .inl (k 0, 400, .inl (aN (va_up PF pa f0)))), (ad 18, .inl (k 0, 400, .inl (aN (va_up PL pa l0))))] H locs := hW
  refine lv_aload_n hX.1 hX.2.1 d_Md_part_40 rfl (lv_at hl 0 rfl) ?_
  refine kget hX hW i_Md 0 rfl rfl 15 (by decide) f_Md_96 rfl rfl d_Md_part_41 ?_
  refine lv_iconst (v := nI 1) hX.1 hX.2.1 d_Md_part_44 (by decide) ?_
  refine lv_isub hX.1 hX.2.1 d_Md_part_45 ?_
  refine tpi (y := nI pa) (nI_pred _) ?_
  exact kiret hX hr hlocks hQ () (hW) (rfl) d_Md_part_46
set_option maxHeartbeats 4000000 in
set_option maxRecDepth 100000 in
/-- wrong() -/
theorem ok_Md_wrong (l : Launch) (D : va_G) (k : Nat → ClassId) (sz : Nat) (md : Nat) (ad : Nat → Nat) (th tp pl si at1 wr dp pa le : Nat) (hwr : wr < 2 ^ 20) : Met l y_Md_wrong (.code y_Md_wrong c_Md_wrong 1 none :: wsU) ({ frames := 0, cells := 0, slots := 0, locals := 0 } : Room) (kPre D k [.ref md] [(md, .inr (8, [.int (nI th), .int (nI tp), .ref (ad 2), .int (nM pl), .ref (ad 4), .ref (ad 5), .ref (ad 6), .ref (ad 7), .ref (ad 8), .ref (ad 9), .int (nI si), .ref (ad 11), .int (nI at1), .int (nM wr), .int (nI dp), .int (nI pa), .ref (ad 16), .ref (ad 17), .ref (ad 18), .int (nI le), .ref (ad 20), .ref (ad 21), .ref (ad 22), .ref (ad 23), .ref (ad 24), .ref (ad 25), .ref (ad 26), .ref (ad 27), .ref (ad 28), .ref (ad 29), .ref (ad 30)]))] sz) (va_Qv (fun (_ : Unit) => True) (kB D k (fun _ : Unit => [(md, .inr (8, [.int (nI th), .int (nI tp), .ref (ad 2), .int (nM pl), .ref (ad 4), .ref (ad 5), .ref (ad 6), .ref (ad 7), .ref (ad 8), .ref (ad 9), .int (nI si), .ref (ad 11), .int (nI at1), .int (nM (if wr = 0 then at1 + 1 else wr)), .int (nI dp), .int (nI pa), .ref (ad 16), .ref (ad 17), .ref (ad 18), .int (nI le), .ref (ad 20), .ref (ad 21), .ref (ad 22), .ref (ad 23), .ref (ad 24), .ref (ad 25), .ref (ad 26), .ref (ad 27), .ref (ad 28), .ref (ad 29), .ref (ad 30)]))]) (va_A [(md, .inr (8, [.int (nI th), .int (nI tp), .ref (ad 2), .int (nM pl), .ref (ad 4), .ref (ad 5), .ref (ad 6), .ref (ad 7), .ref (ad 8), .ref (ad 9), .int (nI si), .ref (ad 11), .int (nI at1), .int (nM wr), .int (nI dp), .int (nI pa), .ref (ad 16), .ref (ad 17), .ref (ad 18), .int (nI le), .ref (ad 20), .ref (ad 21), .ref (ad 22), .ref (ad 23), .ref (ad 24), .ref (ad 25), .ref (ad 26), .ref (ad 27), .ref (ad 28), .ref (ad 29), .ref (ad 30)]))] sz)) (va_A [(md, .inr (8, [.int (nI th), .int (nI tp), .ref (ad 2), .int (nM pl), .ref (ad 4), .ref (ad 5), .ref (ad 6), .ref (ad 7), .ref (ad 8), .ref (ad 9), .int (nI si), .ref (ad 11), .int (nI at1), .int (nM wr), .int (nI dp), .int (nI pa), .ref (ad 16), .ref (ad 17), .ref (ad 18), .int (nI le), .ref (ad 20), .ref (ad 21), .ref (ad 22), .ref (ad 23), .ref (ad 24), .ref (ad 25), .ref (ad 26), .ref (ad 27), .ref (ad 28), .ref (ad 29), .ref (ad 30)]))] sz)) 0 0 (va_A [(md, .inr (8, [.int (nI th), .int (nI tp), .ref (ad 2), .int (nM pl), .ref (ad 4), .ref (ad 5), .ref (ad 6), .ref (ad 7), .ref (ad 8), .ref (ad 9), .int (nI si), .ref (ad 11), .int (nI at1), .int (nM wr), .int (nI dp), .int (nI pa), .ref (ad 16), .ref (ad 17), .ref (ad 18), .int (nI le), .ref (ad 20), .ref (ad 21), .ref (ad 22), .ref (ad 23), .ref (ad 24), .ref (ad 25), .ref (ad 26), .ref (ad 27), .ref (ad 28), .ref (ad 29), .ref (ad 30)]))] sz) := by
  refine kMet (by decide) (Nat.le_of_ble_eq_true rfl) ?_
  intro p e s m below meth c ls hX hml hr hlocks hin hsz hW hl Q hQ
  generalize hAe : va_A [(md, .inr (8, [.int (nI th), .int (nI tp), .ref (ad 2), .int (nM pl), .ref (ad 4), .ref (ad 5), .ref (ad 6), .ref (ad 7), .ref (ad 8), .ref (ad 9), .int (nI si), .ref (ad 11), .int (nI at1), .int (nM wr), .int (nI dp), .int (nI pa), .ref (ad 16), .ref (ad 17), .ref (ad 18), .int (nI le), .ref (ad 20), .ref (ad 21), .ref (ad 22), .ref (ad 23), .ref (ad 24), .ref (ad 25), .ref (ad 26), .ref (ad 27), .ref (ad 28), .ref (ad 29), .ref (ad 30)]))] sz = A at hW hQ
  generalize hH0 : s.heap = H at hW ⊢
  generalize hl0 : ([] : List Loc) = locs at hW ⊢
  have hX : FX p s m c [.ref md].toArray c_Md_wrong R_Md := hX
  have hl : lv_has ls 1 [(0, .ref md)] := hl
  refine lv_aload_n hX.1 hX.2.1 d_Md_wrong_0 rfl (lv_at hl 0 rfl) ?_
  refine kget hX hW i_Md 0 rfl rfl 13 (by decide) f_Md_99 rfl rfl d_Md_wrong_1 ?_
  refine kgeM hX (tgt := 15) (by omega) d_Md_wrong_4 (by decide) (fun h1 => ?_) (fun h1 => ?_)
  · exact kvret hX hr hlocks hQ () (by rw [if_neg (by omega)]; exact hW) (trivial) d_Md_wrong_15
  · refine lv_aload_n hX.1 hX.2.1 d_Md_wrong_7 rfl (lv_at hl 0 rfl) ?_
    refine lv_aload_n hX.1 hX.2.1 d_Md_wrong_8 rfl (lv_at hl 0 rfl) ?_
    refine kget hX hW i_Md 0 rfl rfl 12 (by decide) f_Md_93 rfl rfl d_Md_wrong_9 ?_
    refine kput hX hW i_Md t_Md t_Md_ok n_Md 0 rfl rfl 13 (by decide) f_Md_99 rfl rfl (rfl) (rfl) (Nat.le_of_ble_eq_true rfl) d_Md_wrong_12 (fun H locs hW => ?_)
    have hW : KW D k A s [(md, .inr (8, [.int (nI th), .int (nI tp), .ref (ad 2), .int (nM pl), .ref (ad 4), .ref (ad 5), .ref (ad 6), .ref (ad 7), .ref (ad 8), .ref (ad 9), .int (nI si), .ref (ad 11), .int (nI at1), .int (nI at1), .int (nI dp), .int (nI pa), .ref (ad 16), .ref (ad 17), .ref (ad 18), .int (nI le), .ref (ad 20), .ref (ad 21), .ref (ad 22), .ref (ad 23), .ref (ad 24), .ref (ad 25), .ref (ad 26), .ref (ad 27), .ref (ad 28), .ref (ad 29), .ref (ad 30)]))] H locs := hW
    exact kvret hX hr hlocks hQ () (by rw [if_pos h1, nM_s]; exact hW) (trivial) d_Md_wrong_15
set_option maxHeartbeats 4000000 in
set_option maxRecDepth 100000 in
/-- follows(x, y) -/
theorem ok_Md_follows (l : Launch) (D : va_G) (k : Nat → ClassId) (sz : Nat) (md : Nat) (ad : Nat → Nat) (th tp pl si at1 wr dp pa le : Nat) (NF : Nat → Nat) (x y : Nat) (hx : x < 512) : Met l y_Md_follows (.code y_Md_follows c_Md_follows 4 none :: wsU) ({ frames := 0, cells := 0, slots := 0, locals := 0 } : Room) (kPre D k [.ref md, .int (nI x), .int (nI y)] [(md, .inr (8, [.int (nI th), .int (nI tp), .ref (ad 2), .int (nM pl), .ref (ad 4), .ref (ad 5), .ref (ad 6), .ref (ad 7), .ref (ad 8), .ref (ad 9), .int (nI si), .ref (ad 11), .int (nI at1), .int (nM wr), .int (nI dp), .int (nI pa), .ref (ad 16), .ref (ad 17), .ref (ad 18), .int (nI le), .ref (ad 20), .ref (ad 21), .ref (ad 22), .ref (ad 23), .ref (ad 24), .ref (ad 25), .ref (ad 26), .ref (ad 27), .ref (ad 28), .ref (ad 29), .ref (ad 30)])), (ad 21, .inl (k 0, 8, .inl (aN NF)))] sz) (va_Qv (fun (_ : Unit) => True) (kB D k (fun _ : Unit => [(md, .inr (8, [.int (nI th), .int (nI tp), .ref (ad 2), .int (nM pl), .ref (ad 4), .ref (ad 5), .ref (ad 6), .ref (ad 7), .ref (ad 8), .ref (ad 9), .int (nI si), .ref (ad 11), .int (nI at1), .int (nM wr), .int (nI dp), .int (nI pa), .ref (ad 16), .ref (ad 17), .ref (ad 18), .int (nI le), .ref (ad 20), .ref (ad 21), .ref (ad 22), .ref (ad 23), .ref (ad 24), .ref (ad 25), .ref (ad 26), .ref (ad 27), .ref (ad 28), .ref (ad 29), .ref (ad 30)])), (ad 21, .inl (k 0, 8, .inl (aN (fol NF x y 8))))]) (va_A [(md, .inr (8, [.int (nI th), .int (nI tp), .ref (ad 2), .int (nM pl), .ref (ad 4), .ref (ad 5), .ref (ad 6), .ref (ad 7), .ref (ad 8), .ref (ad 9), .int (nI si), .ref (ad 11), .int (nI at1), .int (nM wr), .int (nI dp), .int (nI pa), .ref (ad 16), .ref (ad 17), .ref (ad 18), .int (nI le), .ref (ad 20), .ref (ad 21), .ref (ad 22), .ref (ad 23), .ref (ad 24), .ref (ad 25), .ref (ad 26), .ref (ad 27), .ref (ad 28), .ref (ad 29), .ref (ad 30)])), (ad 21, .inl (k 0, 8, .inl (aN NF)))] sz)) (va_A [(md, .inr (8, [.int (nI th), .int (nI tp), .ref (ad 2), .int (nM pl), .ref (ad 4), .ref (ad 5), .ref (ad 6), .ref (ad 7), .ref (ad 8), .ref (ad 9), .int (nI si), .ref (ad 11), .int (nI at1), .int (nM wr), .int (nI dp), .int (nI pa), .ref (ad 16), .ref (ad 17), .ref (ad 18), .int (nI le), .ref (ad 20), .ref (ad 21), .ref (ad 22), .ref (ad 23), .ref (ad 24), .ref (ad 25), .ref (ad 26), .ref (ad 27), .ref (ad 28), .ref (ad 29), .ref (ad 30)])), (ad 21, .inl (k 0, 8, .inl (aN NF)))] sz)) 0 0 (va_A [(md, .inr (8, [.int (nI th), .int (nI tp), .ref (ad 2), .int (nM pl), .ref (ad 4), .ref (ad 5), .ref (ad 6), .ref (ad 7), .ref (ad 8), .ref (ad 9), .int (nI si), .ref (ad 11), .int (nI at1), .int (nM wr), .int (nI dp), .int (nI pa), .ref (ad 16), .ref (ad 17), .ref (ad 18), .int (nI le), .ref (ad 20), .ref (ad 21), .ref (ad 22), .ref (ad 23), .ref (ad 24), .ref (ad 25), .ref (ad 26), .ref (ad 27), .ref (ad 28), .ref (ad 29), .ref (ad 30)])), (ad 21, .inl (k 0, 8, .inl (aN NF)))] sz) := by
  refine kMet (by decide) (Nat.le_of_ble_eq_true rfl) ?_
  intro p e s m below meth c ls hX hml hr hlocks hin hsz hW hl Q hQ
  generalize hAe : va_A [(md, .inr (8, [.int (nI th), .int (nI tp), .ref (ad 2), .int (nM pl), .ref (ad 4), .ref (ad 5), .ref (ad 6), .ref (ad 7), .ref (ad 8), .ref (ad 9), .int (nI si), .ref (ad 11), .int (nI at1), .int (nM wr), .int (nI dp), .int (nI pa), .ref (ad 16), .ref (ad 17), .ref (ad 18), .int (nI le), .ref (ad 20), .ref (ad 21), .ref (ad 22), .ref (ad 23), .ref (ad 24), .ref (ad 25), .ref (ad 26), .ref (ad 27), .ref (ad 28), .ref (ad 29), .ref (ad 30)])), (ad 21, .inl (k 0, 8, .inl (aN NF)))] sz = A at hW hQ
  generalize hH0 : s.heap = H at hW ⊢
  generalize hl0 : ([] : List Loc) = locs at hW ⊢
  have hX : FX p s m c [.ref md, .int (nI x), .int (nI y)].toArray c_Md_follows R_Md := hX
  have hl : lv_has ls 4 [(0, .ref md), (1, .int (nI x)), (2, .int (nI y))] := hl
  refine lv_iconst (v := nI 0) hX.1 hX.2.1 d_Md_follows_0 (by decide) ?_
  refine lv_istore_n (lv' := [(3, .int (nI 0)), (0, .ref md), (1, .int (nI x)), (2, .int (nI y))]) hX.1 hX.2.1 d_Md_follows_1 rfl hl (by decide) rfl (fun ls hl => ?_)
  have lp : ∀ (fu : Nat) (i : Nat) (H : Heap) (locs : List Loc) (ls : Array Slot), (i ≤ 8) → (8 < i + fu) →  KW D k A s [(md, .inr (8, [.int (nI th), .int (nI tp), .ref (ad 2), .int (nM pl), .ref (ad 4), .ref (ad 5), .ref (ad 6), .ref (ad 7), .ref (ad 8), .ref (ad 9), .int (nI si), .ref (ad 11), .int (nI at1), .int (nM wr), .int (nI dp), .int (nI pa), .ref (ad 16), .ref (ad 17), .ref (ad 18), .int (nI le), .ref (ad 20), .ref (ad 21), .ref (ad 22), .ref (ad 23), .ref (ad 24), .ref (ad 25), .ref (ad 26), .ref (ad 27), .ref (ad 28), .ref (ad 29), .ref (ad 30)])), (ad 21, .inl (k 0, 8, .inl (aN (fol NF x y i))))] H locs → lv_has ls 4 [(3, .int (nI i)), (2, .int (nI y)), (1, .int (nI x)), (0, .ref md)] → W p l e ({ frames := 0, cells := 0, slots := 0, locals := 0 } : Room) s m [.ref md, .int (nI x), .int (nI y)].toArray below meth c H locs 0 0 Q (F0 m 2 ls []) := by
    intro fu
    induction fu with
    | zero => intro i H locs ls lp1 lp2 hW hl; exfalso; omega
    | succ fu ih =>
      intro i H locs ls lp1 lp2 hW hl
      refine lv_iload_n hX.1 hX.2.1 d_Md_follows_2 rfl (lv_at hl 0 rfl) ?_
      refine lv_bipush (v := nI 8) hX.1 hX.2.1 d_Md_follows_3 (by decide) ?_
      refine kge hX (tgt := 37) (by omega) (by omega) d_Md_follows_5 (by decide) (fun h1 => ?_) (fun h1 => ?_)
      · have e1 : i = 8 := by omega
        subst e1
        exact kvret hX hr hlocks hQ () (hW) (trivial) d_Md_follows_37
      · refine lv_iload_n hX.1 hX.2.1 d_Md_follows_8 rfl (lv_at hl 2 rfl) ?_
        refine lv_iload_n hX.1 hX.2.1 d_Md_follows_9 rfl (lv_at hl 0 rfl) ?_
        refine lv_ishr hX.1 hX.2.1 d_Md_follows_10 ?_
        refine tpi (y := nI x >>> (nI i &&& 31)) (rfl) ?_
        refine lv_iconst (v := nI 1) hX.1 hX.2.1 d_Md_follows_11 (by decide) ?_
        refine lv_iand hX.1 hX.2.1 d_Md_follows_12 ?_
        refine tpi (y := nI (if x.testBit i then 1 else 0)) (kn_bit (by omega) (by omega)) ?_
        refine lv_iconst (v := nI 1) hX.1 hX.2.1 d_Md_follows_13 (by decide) ?_
        refine kne hX (tgt := 31) (by split <;> omega) (by omega) d_Md_follows_14 (by decide) (fun h2 => ?_) (fun h2 => ?_)
        · have h6 : x.testBit i = false := by cases hb : x.testBit i <;> simp [hb] at h2 ⊢
          have h7 : fol NF x y (i + 1) = fol NF x y i := by rw [fol, h6]; simp
          refine lv_iinc (v := nI (i + 1)) (lv' := [(3, .int (nI (i + 1))), (2, .int (nI y)), (1, .int (nI x)), (0, .ref md)]) hX.1 hX.2.1 d_Md_follows_31 hl (k := 0) rfl (kn_inc _) (by decide) rfl (fun ls hl => ?_)
          refine lv_goto (tgt := 2) hX.1 hX.2.1 d_Md_follows_34 (by decide) ?_
          rw [← h7] at hW
          exact ih (i + 1) H locs ls (by omega) (by omega) hW (lv_sub hl [0, 1, 2, 3] rfl)
        · have h6 : x.testBit i = true := by cases hb : x.testBit i <;> simp [hb] at h2 ⊢
          have h7 : fol NF x y (i + 1) = va_up (fol NF x y i) i (fol NF x y i i ||| y) := by rw [fol, h6]; simp
          refine lv_aload_n hX.1 hX.2.1 d_Md_follows_17 rfl (lv_at hl 3 rfl) ?_
          refine kget hX hW i_Md 0 rfl rfl 21 (by decide) f_Md_51 rfl rfl d_Md_follows_18 ?_
          refine lv_iload_n hX.1 hX.2.1 d_Md_follows_21 rfl (lv_at hl 0 rfl) ?_
          refine lv_aload_n hX.1 hX.2.1 d_Md_follows_22 rfl (lv_at hl 3 rfl) ?_
          refine kget hX hW i_Md 0 rfl rfl 21 (by decide) f_Md_51 rfl rfl d_Md_follows_23 ?_
          refine lv_iload_n hX.1 hX.2.1 d_Md_follows_26 rfl (lv_at hl 0 rfl) ?_
          refine kiald hX hW 1 rfl (by omega) (by first | decide | omega) d_Md_follows_27 ?_
          refine lv_iload_n hX.1 hX.2.1 d_Md_follows_28 rfl (lv_at hl 1 rfl) ?_
          refine lv_ior hX.1 hX.2.1 d_Md_follows_29 ?_
          refine tpi (y := nI (fol NF x y i i ||| y)) (kn_or _ _) ?_
          refine kiast hX hW 1 rfl (by omega) (by first | decide | omega) d_Md_follows_30 (fun H locs hW => ?_)
          have hW : KW D k A s [(md, .inr (8, [.int (nI th), .int (nI tp), .ref (ad 2), .int (nM pl), .ref (ad 4), .ref (ad 5), .ref (ad 6), .ref (ad 7), .ref (ad 8), .ref (ad 9), .int (nI si), .ref (ad 11), .int (nI at1), .int (nM wr), .int (nI dp), .int (nI pa), .ref (ad 16), .ref (ad 17), .ref (ad 18), .int (nI le), .ref (ad 20), .ref (ad 21), .ref (ad 22), .ref (ad 23), .ref (ad 24), .ref (ad 25), .ref (ad 26), .ref (ad 27), .ref (ad 28), .ref (ad 29), .ref (ad 30)])), (ad 21, .inl (k 0, 8, .inl (aN (va_up (fol NF x y i) i (fol NF x y i i ||| y)))))] H locs := hW
          refine lv_iinc (v := nI (i + 1)) (lv' := [(3, .int (nI (i + 1))), (2, .int (nI y)), (1, .int (nI x)), (0, .ref md)]) hX.1 hX.2.1 d_Md_follows_31 hl (k := 0) rfl (kn_inc _) (by decide) rfl (fun ls hl => ?_)
          refine lv_goto (tgt := 2) hX.1 hX.2.1 d_Md_follows_34 (by decide) ?_
          rw [← h7] at hW
          exact ih (i + 1) H locs ls (by omega) (by omega) hW (lv_sub hl [0, 1, 2, 3] rfl)
  exact lp 9 0 H locs ls (by omega) (by omega) hW (lv_sub hl [0, 3, 2, 1] rfl)
set_option maxHeartbeats 4000000 in
set_option maxRecDepth 100000 in
/-- tells(slot, S) -/
theorem ok_Md_tells (l : Launch) (D : va_G) (k : Nat → ClassId) (sz : Nat) (md : Nat) (ad : Nat → Nat) (th tp pl si at1 wr dp pa le : Nat) (LA EM : Nat → Nat) (sl S : Nat) (hsl : sl < 4) (hS : S ≤ 256) (hem : EM sl ≤ 1) : Met l y_Md_tells (.code y_Md_tells c_Md_tells 3 (some .boolean) :: wsU) ({ frames := 0, cells := 0, slots := 0, locals := 0 } : Room) (kPre D k [.ref md, .int (nI sl), .int (nI S)] [(md, .inr (8, [.int (nI th), .int (nI tp), .ref (ad 2), .int (nM pl), .ref (ad 4), .ref (ad 5), .ref (ad 6), .ref (ad 7), .ref (ad 8), .ref (ad 9), .int (nI si), .ref (ad 11), .int (nI at1), .int (nM wr), .int (nI dp), .int (nI pa), .ref (ad 16), .ref (ad 17), .ref (ad 18), .int (nI le), .ref (ad 20), .ref (ad 21), .ref (ad 22), .ref (ad 23), .ref (ad 24), .ref (ad 25), .ref (ad 26), .ref (ad 27), .ref (ad 28), .ref (ad 29), .ref (ad 30)])), (ad 7, .inl (k 0, 4, .inl (aN LA))), (ad 9, .inl (k 2, 4, .inl (aN EM)))] sz) (va_Qi (fun (r : Int32) (_ : Unit) => r = nI (if S = 256 then EM sl else (tl S (LA sl)).toNat)) (kB D k (fun _ : Unit => [(md, .inr (8, [.int (nI th), .int (nI tp), .ref (ad 2), .int (nM pl), .ref (ad 4), .ref (ad 5), .ref (ad 6), .ref (ad 7), .ref (ad 8), .ref (ad 9), .int (nI si), .ref (ad 11), .int (nI at1), .int (nM wr), .int (nI dp), .int (nI pa), .ref (ad 16), .ref (ad 17), .ref (ad 18), .int (nI le), .ref (ad 20), .ref (ad 21), .ref (ad 22), .ref (ad 23), .ref (ad 24), .ref (ad 25), .ref (ad 26), .ref (ad 27), .ref (ad 28), .ref (ad 29), .ref (ad 30)])), (ad 7, .inl (k 0, 4, .inl (aN LA))), (ad 9, .inl (k 2, 4, .inl (aN EM)))]) (va_A [(md, .inr (8, [.int (nI th), .int (nI tp), .ref (ad 2), .int (nM pl), .ref (ad 4), .ref (ad 5), .ref (ad 6), .ref (ad 7), .ref (ad 8), .ref (ad 9), .int (nI si), .ref (ad 11), .int (nI at1), .int (nM wr), .int (nI dp), .int (nI pa), .ref (ad 16), .ref (ad 17), .ref (ad 18), .int (nI le), .ref (ad 20), .ref (ad 21), .ref (ad 22), .ref (ad 23), .ref (ad 24), .ref (ad 25), .ref (ad 26), .ref (ad 27), .ref (ad 28), .ref (ad 29), .ref (ad 30)])), (ad 7, .inl (k 0, 4, .inl (aN LA))), (ad 9, .inl (k 2, 4, .inl (aN EM)))] sz)) (va_A [(md, .inr (8, [.int (nI th), .int (nI tp), .ref (ad 2), .int (nM pl), .ref (ad 4), .ref (ad 5), .ref (ad 6), .ref (ad 7), .ref (ad 8), .ref (ad 9), .int (nI si), .ref (ad 11), .int (nI at1), .int (nM wr), .int (nI dp), .int (nI pa), .ref (ad 16), .ref (ad 17), .ref (ad 18), .int (nI le), .ref (ad 20), .ref (ad 21), .ref (ad 22), .ref (ad 23), .ref (ad 24), .ref (ad 25), .ref (ad 26), .ref (ad 27), .ref (ad 28), .ref (ad 29), .ref (ad 30)])), (ad 7, .inl (k 0, 4, .inl (aN LA))), (ad 9, .inl (k 2, 4, .inl (aN EM)))] sz)) 0 0 (va_A [(md, .inr (8, [.int (nI th), .int (nI tp), .ref (ad 2), .int (nM pl), .ref (ad 4), .ref (ad 5), .ref (ad 6), .ref (ad 7), .ref (ad 8), .ref (ad 9), .int (nI si), .ref (ad 11), .int (nI at1), .int (nM wr), .int (nI dp), .int (nI pa), .ref (ad 16), .ref (ad 17), .ref (ad 18), .int (nI le), .ref (ad 20), .ref (ad 21), .ref (ad 22), .ref (ad 23), .ref (ad 24), .ref (ad 25), .ref (ad 26), .ref (ad 27), .ref (ad 28), .ref (ad 29), .ref (ad 30)])), (ad 7, .inl (k 0, 4, .inl (aN LA))), (ad 9, .inl (k 2, 4, .inl (aN EM)))] sz) := by
  refine kMet (by decide) (Nat.le_of_ble_eq_true rfl) ?_
  intro p e s m below meth c ls hX hml hr hlocks hin hsz hW hl Q hQ
  generalize hAe : va_A [(md, .inr (8, [.int (nI th), .int (nI tp), .ref (ad 2), .int (nM pl), .ref (ad 4), .ref (ad 5), .ref (ad 6), .ref (ad 7), .ref (ad 8), .ref (ad 9), .int (nI si), .ref (ad 11), .int (nI at1), .int (nM wr), .int (nI dp), .int (nI pa), .ref (ad 16), .ref (ad 17), .ref (ad 18), .int (nI le), .ref (ad 20), .ref (ad 21), .ref (ad 22), .ref (ad 23), .ref (ad 24), .ref (ad 25), .ref (ad 26), .ref (ad 27), .ref (ad 28), .ref (ad 29), .ref (ad 30)])), (ad 7, .inl (k 0, 4, .inl (aN LA))), (ad 9, .inl (k 2, 4, .inl (aN EM)))] sz = A at hW hQ
  generalize hH0 : s.heap = H at hW ⊢
  generalize hl0 : ([] : List Loc) = locs at hW ⊢
  have hX : FX p s m c [.ref md, .int (nI sl), .int (nI S)].toArray c_Md_tells R_Md := hX
  have hl : lv_has ls 3 [(0, .ref md), (1, .int (nI sl)), (2, .int (nI S))] := hl
  refine lv_iload_n hX.1 hX.2.1 d_Md_tells_0 rfl (lv_at hl 2 rfl) ?_
  refine lv_sipush (v := nI 256) hX.1 hX.2.1 d_Md_tells_1 (by decide) ?_
  refine kne hX (tgt := 16) (by omega) (by omega) d_Md_tells_4 (by decide) (fun h1 => ?_) (fun h1 => ?_)
  · refine lv_iload_n hX.1 hX.2.1 d_Md_tells_16 rfl (lv_at hl 2 rfl) ?_
    refine lv_aload_n hX.1 hX.2.1 d_Md_tells_17 rfl (lv_at hl 0 rfl) ?_
    refine kget hX hW i_Md 0 rfl rfl 7 (by decide) f_Md_26 rfl rfl d_Md_tells_18 ?_
    refine lv_iload_n hX.1 hX.2.1 d_Md_tells_21 rfl (lv_at hl 1 rfl) ?_
    refine kiald hX hW 1 rfl (by omega) (by first | decide | omega) d_Md_tells_22 ?_
    refine lv_iand hX.1 hX.2.1 d_Md_tells_23 ?_
    refine tpi (y := nI (S &&& LA sl)) (kn_and _ _) ?_
    have hle : S &&& LA sl ≤ S := Nat.and_le_left
    refine kz hX (tgt := 31) (by omega) d_Md_tells_24 (by decide) (fun h2 => ?_) (fun h2 => ?_)
    · refine lv_iconst (v := nI 0) hX.1 hX.2.1 d_Md_tells_31 (by decide) ?_
      exact kzret hX hr hlocks hQ () (hW) (by rw [if_neg h1, ← tl_if, if_pos h2]) (Or.inl rfl) d_Md_tells_32
    · refine lv_iconst (v := nI 1) hX.1 hX.2.1 d_Md_tells_27 (by decide) ?_
      refine lv_goto (tgt := 32) hX.1 hX.2.1 d_Md_tells_28 (by decide) ?_
      exact kzret hX hr hlocks hQ () (hW) (by rw [if_neg h1, ← tl_if, if_neg h2]) (Or.inr rfl) d_Md_tells_32
  · refine lv_aload_n hX.1 hX.2.1 d_Md_tells_7 rfl (lv_at hl 0 rfl) ?_
    refine kget hX hW i_Md 0 rfl rfl 9 (by decide) f_Md_32 rfl rfl d_Md_tells_8 ?_
    refine lv_iload_n hX.1 hX.2.1 d_Md_tells_11 rfl (lv_at hl 1 rfl) ?_
    refine kzald hX hW 2 rfl (by omega) (by first | decide | omega) d_Md_tells_12 ?_
    refine lv_goto (tgt := 32) hX.1 hX.2.1 d_Md_tells_13 (by decide) ?_
    exact kzret hX hr hlocks hQ () (hW) (by rw [if_pos h1]) (by rcases (show EM sl = 0 ∨ EM sl = 1 by omega) with q | q <;> rw [q] <;> simp) d_Md_tells_32
set_option maxHeartbeats 4000000 in
set_option maxRecDepth 100000 in
/-- step(slot, S, letter) -/
theorem ok_Md_step (l : Launch) (D : va_G) (k : Nat → ClassId) (sz : Nat) (md : Nat) (ad : Nat → Nat) (th tp pl si at1 wr dp pa le : Nat) (MN LT FI FL : Nat → Nat) (sl S ch : Nat) (hsl : sl < 4) (hS : S ≤ 256) (hch : ch < 4) (hmn : MN sl ≤ 8) (hfi : FI sl < 256) (hfl : ∀ i, i < MN sl → FL (sl * 8 + i) < 256) (hlt : ∀ i, i < MN sl → LT (sl * 8 + i) < 4) : Met l y_Md_step (.code y_Md_step c_Md_step 7 (some .int) :: wsU) ({ frames := 0, cells := 0, slots := 0, locals := 0 } : Room) (kPre D k [.ref md, .int (nI sl), .int (nI S), .int (nI ch)] [(md, .inr (8, [.int (nI th), .int (nI tp), .ref (ad 2), .int (nM pl), .ref (ad 4), .ref (ad 5), .ref (ad 6), .ref (ad 7), .ref (ad 8), .ref (ad 9), .int (nI si), .ref (ad 11), .int (nI at1), .int (nM wr), .int (nI dp), .int (nI pa), .ref (ad 16), .ref (ad 17), .ref (ad 18), .int (nI le), .ref (ad 20), .ref (ad 21), .ref (ad 22), .ref (ad 23), .ref (ad 24), .ref (ad 25), .ref (ad 26), .ref (ad 27), .ref (ad 28), .ref (ad 29), .ref (ad 30)])), (ad 4, .inl (k 0, 4, .inl (aN MN))), (ad 5, .inl (k 0, 32, .inl (aN LT))), (ad 6, .inl (k 0, 4, .inl (aN FI))), (ad 8, .inl (k 0, 32, .inl (aN FL)))] sz) (va_Qi (fun (r : Int32) (_ : Unit) => r = nI (mstep MN LT FI FL sl S ch)) (kB D k (fun _ : Unit => [(md, .inr (8, [.int (nI th), .int (nI tp), .ref (ad 2), .int (nM pl), .ref (ad 4), .ref (ad 5), .ref (ad 6), .ref (ad 7), .ref (ad 8), .ref (ad 9), .int (nI si), .ref (ad 11), .int (nI at1), .int (nM wr), .int (nI dp), .int (nI pa), .ref (ad 16), .ref (ad 17), .ref (ad 18), .int (nI le), .ref (ad 20), .ref (ad 21), .ref (ad 22), .ref (ad 23), .ref (ad 24), .ref (ad 25), .ref (ad 26), .ref (ad 27), .ref (ad 28), .ref (ad 29), .ref (ad 30)])), (ad 4, .inl (k 0, 4, .inl (aN MN))), (ad 5, .inl (k 0, 32, .inl (aN LT))), (ad 6, .inl (k 0, 4, .inl (aN FI))), (ad 8, .inl (k 0, 32, .inl (aN FL)))]) (va_A [(md, .inr (8, [.int (nI th), .int (nI tp), .ref (ad 2), .int (nM pl), .ref (ad 4), .ref (ad 5), .ref (ad 6), .ref (ad 7), .ref (ad 8), .ref (ad 9), .int (nI si), .ref (ad 11), .int (nI at1), .int (nM wr), .int (nI dp), .int (nI pa), .ref (ad 16), .ref (ad 17), .ref (ad 18), .int (nI le), .ref (ad 20), .ref (ad 21), .ref (ad 22), .ref (ad 23), .ref (ad 24), .ref (ad 25), .ref (ad 26), .ref (ad 27), .ref (ad 28), .ref (ad 29), .ref (ad 30)])), (ad 4, .inl (k 0, 4, .inl (aN MN))), (ad 5, .inl (k 0, 32, .inl (aN LT))), (ad 6, .inl (k 0, 4, .inl (aN FI))), (ad 8, .inl (k 0, 32, .inl (aN FL)))] sz)) (va_A [(md, .inr (8, [.int (nI th), .int (nI tp), .ref (ad 2), .int (nM pl), .ref (ad 4), .ref (ad 5), .ref (ad 6), .ref (ad 7), .ref (ad 8), .ref (ad 9), .int (nI si), .ref (ad 11), .int (nI at1), .int (nM wr), .int (nI dp), .int (nI pa), .ref (ad 16), .ref (ad 17), .ref (ad 18), .int (nI le), .ref (ad 20), .ref (ad 21), .ref (ad 22), .ref (ad 23), .ref (ad 24), .ref (ad 25), .ref (ad 26), .ref (ad 27), .ref (ad 28), .ref (ad 29), .ref (ad 30)])), (ad 4, .inl (k 0, 4, .inl (aN MN))), (ad 5, .inl (k 0, 32, .inl (aN LT))), (ad 6, .inl (k 0, 4, .inl (aN FI))), (ad 8, .inl (k 0, 32, .inl (aN FL)))] sz)) 0 0 (va_A [(md, .inr (8, [.int (nI th), .int (nI tp), .ref (ad 2), .int (nM pl), .ref (ad 4), .ref (ad 5), .ref (ad 6), .ref (ad 7), .ref (ad 8), .ref (ad 9), .int (nI si), .ref (ad 11), .int (nI at1), .int (nM wr), .int (nI dp), .int (nI pa), .ref (ad 16), .ref (ad 17), .ref (ad 18), .int (nI le), .ref (ad 20), .ref (ad 21), .ref (ad 22), .ref (ad 23), .ref (ad 24), .ref (ad 25), .ref (ad 26), .ref (ad 27), .ref (ad 28), .ref (ad 29), .ref (ad 30)])), (ad 4, .inl (k 0, 4, .inl (aN MN))), (ad 5, .inl (k 0, 32, .inl (aN LT))), (ad 6, .inl (k 0, 4, .inl (aN FI))), (ad 8, .inl (k 0, 32, .inl (aN FL)))] sz) := by
  refine kMet (by decide) (Nat.le_of_ble_eq_true rfl) ?_
  intro p e s m below meth c ls hX hml hr hlocks hin hsz hW hl Q hQ
  generalize hAe : va_A [(md, .inr (8, [.int (nI th), .int (nI tp), .ref (ad 2), .int (nM pl), .ref (ad 4), .ref (ad 5), .ref (ad 6), .ref (ad 7), .ref (ad 8), .ref (ad 9), .int (nI si), .ref (ad 11), .int (nI at1), .int (nM wr), .int (nI dp), .int (nI pa), .ref (ad 16), .ref (ad 17), .ref (ad 18), .int (nI le), .ref (ad 20), .ref (ad 21), .ref (ad 22), .ref (ad 23), .ref (ad 24), .ref (ad 25), .ref (ad 26), .ref (ad 27), .ref (ad 28), .ref (ad 29), .ref (ad 30)])), (ad 4, .inl (k 0, 4, .inl (aN MN))), (ad 5, .inl (k 0, 32, .inl (aN LT))), (ad 6, .inl (k 0, 4, .inl (aN FI))), (ad 8, .inl (k 0, 32, .inl (aN FL)))] sz = A at hW hQ
  generalize hH0 : s.heap = H at hW ⊢
  generalize hl0 : ([] : List Loc) = locs at hW ⊢
  have hX : FX p s m c [.ref md, .int (nI sl), .int (nI S), .int (nI ch)].toArray c_Md_step R_Md := hX
  have hl : lv_has ls 7 [(0, .ref md), (1, .int (nI sl)), (2, .int (nI S)), (3, .int (nI ch))] := hl
  have k73 : ∀ (N v : Nat) (H : Heap) (locs : List Loc) (ls : Array Slot), N = (if S = 256 then FI sl else nx1 FL S (sl * 8) (MN sl)) → KW D k A s [(md, .inr (8, [.int (nI th), .int (nI tp), .ref (ad 2), .int (nM pl), .ref (ad 4), .ref (ad 5), .ref (ad 6), .ref (ad 7), .ref (ad 8), .ref (ad 9), .int (nI si), .ref (ad 11), .int (nI at1), .int (nM wr), .int (nI dp), .int (nI pa), .ref (ad 16), .ref (ad 17), .ref (ad 18), .int (nI le), .ref (ad 20), .ref (ad 21), .ref (ad 22), .ref (ad 23), .ref (ad 24), .ref (ad 25), .ref (ad 26), .ref (ad 27), .ref (ad 28), .ref (ad 29), .ref (ad 30)])), (ad 4, .inl (k 0, 4, .inl (aN MN))), (ad 5, .inl (k 0, 32, .inl (aN LT))), (ad 6, .inl (k 0, 4, .inl (aN FI))), (ad 8, .inl (k 0, 32, .inl (aN FL)))] H locs → lv_has ls 7 [(5, .int (nI v)), (4, .int (nI N)), (3, .int (nI ch)), (2, .int (nI S)), (1, .int (nI sl)), (0, .ref md)] → W p l e ({ frames := 0, cells := 0, slots := 0, locals := 0 } : Room) s m [.ref md, .int (nI sl), .int (nI S), .int (nI ch)].toArray below meth c H locs 0 0 Q (F0 m 73 ls []) := by
    intro N v H locs ls hN hW hl
    have hNl : N < 256 := by rw [hN]; split; (exact hfi); (exact nx1_lt _ hfl)
    refine lv_iconst (v := nI 0) hX.1 hX.2.1 d_Md_step_73 (by decide) ?_
    refine lv_istore (lv' := [(5, .int (nI 0)), (4, .int (nI N)), (3, .int (nI ch)), (2, .int (nI S)), (1, .int (nI sl)), (0, .ref md)]) hX.1 hX.2.1 d_Md_step_74 hl (by decide) rfl (fun ls hl => ?_)
    refine lv_iconst (v := nI 0) hX.1 hX.2.1 d_Md_step_76 (by decide) ?_
    refine lv_istore (lv' := [(6, .int (nI 0)), (5, .int (nI 0)), (4, .int (nI N)), (3, .int (nI ch)), (2, .int (nI S)), (1, .int (nI sl)), (0, .ref md)]) hX.1 hX.2.1 d_Md_step_77 hl (by decide) rfl (fun ls hl => ?_)
    have lq : ∀ (fu : Nat) (i : Nat) (H : Heap) (locs : List Loc) (ls : Array Slot), (i ≤ MN sl) → (MN sl < i + fu) →  KW D k A s [(md, .inr (8, [.int (nI th), .int (nI tp), .ref (ad 2), .int (nM pl), .ref (ad 4), .ref (ad 5), .ref (ad 6), .ref (ad 7), .ref (ad 8), .ref (ad 9), .int (nI si), .ref (ad 11), .int (nI at1), .int (nM wr), .int (nI dp), .int (nI pa), .ref (ad 16), .ref (ad 17), .ref (ad 18), .int (nI le), .ref (ad 20), .ref (ad 21), .ref (ad 22), .ref (ad 23), .ref (ad 24), .ref (ad 25), .ref (ad 26), .ref (ad 27), .ref (ad 28), .ref (ad 29), .ref (ad 30)])), (ad 4, .inl (k 0, 4, .inl (aN MN))), (ad 5, .inl (k 0, 32, .inl (aN LT))), (ad 6, .inl (k 0, 4, .inl (aN FI))), (ad 8, .inl (k 0, 32, .inl (aN FL)))] H locs → lv_has ls 7 [(6, .int (nI i)), (5, .int (nI (to1 LT N (sl * 8) ch i))), (4, .int (nI N)), (3, .int (nI ch)), (2, .int (nI S)), (1, .int (nI sl)), (0, .ref md)] → W p l e ({ frames := 0, cells := 0, slots := 0, locals := 0 } : Room) s m [.ref md, .int (nI sl), .int (nI S), .int (nI ch)].toArray below meth c H locs 0 0 Q (F0 m 79 ls []) := by
      intro fu
      induction fu with
      | zero => intro i H locs ls lq1 lq2 hW hl; exfalso; omega
      | succ fu ih =>
        intro i H locs ls lq1 lq2 hW hl
        refine lv_iload hX.1 hX.2.1 d_Md_step_79 (lv_at hl 0 rfl) ?_
        refine lv_aload_n hX.1 hX.2.1 d_Md_step_81 rfl (lv_at hl 6 rfl) ?_
        refine kget hX hW i_Md 0 rfl rfl 4 (by decide) f_Md_17 rfl rfl d_Md_step_82 ?_
        refine lv_iload_n hX.1 hX.2.1 d_Md_step_85 rfl (lv_at hl 5 rfl) ?_
        refine kiald hX hW 1 rfl (by omega) (by first | decide | omega) d_Md_step_86 ?_
        refine kge hX (tgt := 132) (by omega) (by omega) d_Md_step_87 (by decide) (fun h1 => ?_) (fun h1 => ?_)
        · have e1 : i = MN sl := by omega
          subst e1
          refine lv_iload hX.1 hX.2.1 d_Md_step_132 (lv_at hl 1 rfl) ?_
          exact kiret hX hr hlocks hQ () (hW) (by unfold mstep; rw [← hN]) d_Md_step_134
        · have hlti := hlt i h1
          have kno : (if N.testBit i = true ∧ LT (sl * 8 + i) = ch then 2 ^ i else 0) = 0 → W p l e ({ frames := 0, cells := 0, slots := 0, locals := 0 } : Room) s m [.ref md, .int (nI sl), .int (nI S), .int (nI ch)].toArray below meth c H locs 0 0 Q (F0 m 126 ls []) := by
            intro hz
            have h7 : to1 LT N (sl * 8) ch (i + 1) = to1 LT N (sl * 8) ch i := by rw [to1, hz]; simp
            refine lv_iinc (v := nI (i + 1)) (lv' := [(6, .int (nI (i + 1))), (5, .int (nI (to1 LT N (sl * 8) ch i))), (4, .int (nI N)), (3, .int (nI ch)), (2, .int (nI S)), (1, .int (nI sl)), (0, .ref md)]) hX.1 hX.2.1 d_Md_step_126 hl (k := 0) rfl (kn_inc _) (by decide) rfl (fun ls hl => ?_)
            refine lv_goto (tgt := 79) hX.1 hX.2.1 d_Md_step_129 (by decide) ?_
            rw [← h7] at hl
            exact ih (i + 1) H locs ls (by omega) (by omega) hW (lv_sub hl [0, 1, 2, 3, 4, 5, 6] rfl)
          refine lv_iload hX.1 hX.2.1 d_Md_step_90 (lv_at hl 2 rfl) ?_
          refine lv_iload hX.1 hX.2.1 d_Md_step_92 (lv_at hl 0 rfl) ?_
          refine lv_ishr hX.1 hX.2.1 d_Md_step_94 ?_
          refine tpi (y := nI N >>> (nI i &&& 31)) (rfl) ?_
          refine lv_iconst (v := nI 1) hX.1 hX.2.1 d_Md_step_95 (by decide) ?_
          refine lv_iand hX.1 hX.2.1 d_Md_step_96 ?_
          refine tpi (y := nI (if N.testBit i then 1 else 0)) (kn_bit (by omega) (by omega)) ?_
          refine lv_iconst (v := nI 1) hX.1 hX.2.1 d_Md_step_97 (by decide) ?_
          refine kne hX (tgt := 126) (by split <;> omega) (by omega) d_Md_step_98 (by decide) (fun h2 => ?_) (fun h2 => ?_)
          · exact kno (if_neg (fun q => h2 (by rw [q.1]; rfl)))
          · have h6 : N.testBit i = true := by cases hb : N.testBit i <;> simp [hb] at h2 ⊢
            refine lv_aload_n hX.1 hX.2.1 d_Md_step_101 rfl (lv_at hl 6 rfl) ?_
            refine kget hX hW i_Md 0 rfl rfl 5 (by decide) f_Md_20 rfl rfl d_Md_step_102 ?_
            refine lv_iload_n hX.1 hX.2.1 d_Md_step_105 rfl (lv_at hl 5 rfl) ?_
            refine lv_bipush (v := nI 8) hX.1 hX.2.1 d_Md_step_106 (by decide) ?_
            refine lv_imul hX.1 hX.2.1 d_Md_step_108 ?_
            refine tpi (y := nI (sl * 8)) (pk_mul _ _) ?_
            refine lv_iload hX.1 hX.2.1 d_Md_step_109 (lv_at hl 0 rfl) ?_
            refine lv_iadd hX.1 hX.2.1 d_Md_step_111 ?_
            refine tpi (y := nI (sl * 8 + i)) (nI_add _ _) ?_
            refine kiald hX hW 2 rfl (by omega) (by first | decide | omega) d_Md_step_112 ?_
            refine lv_iload_n hX.1 hX.2.1 d_Md_step_113 rfl (lv_at hl 3 rfl) ?_
            refine kne hX (tgt := 126) (by omega) (by omega) d_Md_step_114 (by decide) (fun h3 => ?_) (fun h3 => ?_)
            · exact kno (if_neg (fun q => h3 q.2))
            · have h7 : to1 LT N (sl * 8) ch (i + 1) = to1 LT N (sl * 8) ch i ||| 2 ^ i := by rw [to1, if_pos ⟨h6, h3⟩]
              refine lv_iload hX.1 hX.2.1 d_Md_step_117 (lv_at hl 1 rfl) ?_
              refine lv_iconst (v := nI 1) hX.1 hX.2.1 d_Md_step_119 (by decide) ?_
              refine lv_iload hX.1 hX.2.1 d_Md_step_120 (lv_at hl 0 rfl) ?_
              refine lv_ishl hX.1 hX.2.1 d_Md_step_122 ?_
              refine tpi (y := nI (2 ^ i)) (kn_shl1 (by omega)) ?_
              refine lv_ior hX.1 hX.2.1 d_Md_step_123 ?_
              refine tpi (y := nI (to1 LT N (sl * 8) ch i ||| 2 ^ i)) (kn_or _ _) ?_
              refine lv_istore (lv' := [(5, .int (nI (to1 LT N (sl * 8) ch i ||| 2 ^ i))), (6, .int (nI i)), (4, .int (nI N)), (3, .int (nI ch)), (2, .int (nI S)), (1, .int (nI sl)), (0, .ref md)]) hX.1 hX.2.1 d_Md_step_124 hl (by decide) rfl (fun ls hl => ?_)
              refine lv_iinc (v := nI (i + 1)) (lv' := [(6, .int (nI (i + 1))), (5, .int (nI (to1 LT N (sl * 8) ch i ||| 2 ^ i))), (4, .int (nI N)), (3, .int (nI ch)), (2, .int (nI S)), (1, .int (nI sl)), (0, .ref md)]) hX.1 hX.2.1 d_Md_step_126 hl (k := 1) rfl (kn_inc _) (by decide) rfl (fun ls hl => ?_)
              refine lv_goto (tgt := 79) hX.1 hX.2.1 d_Md_step_129 (by decide) ?_
              rw [← h7] at hl
              exact ih (i + 1) H locs ls (by omega) (by omega) hW (lv_sub hl [0, 1, 2, 3, 4, 5, 6] rfl)
    exact lq (MN sl + 1) 0 H locs ls (by omega) (by omega) hW (lv_sub hl [0, 1, 2, 3, 4, 5, 6] rfl)
  refine lv_iload_n hX.1 hX.2.1 d_Md_step_0 rfl (lv_at hl 2 rfl) ?_
  refine lv_sipush (v := nI 256) hX.1 hX.2.1 d_Md_step_1 (by decide) ?_
  refine kne hX (tgt := 16) (by omega) (by omega) d_Md_step_4 (by decide) (fun h1 => ?_) (fun h1 => ?_)
  · refine lv_iconst (v := nI 0) hX.1 hX.2.1 d_Md_step_16 (by decide) ?_
    refine lv_istore (lv' := [(4, .int (nI 0)), (0, .ref md), (1, .int (nI sl)), (2, .int (nI S)), (3, .int (nI ch))]) hX.1 hX.2.1 d_Md_step_17 hl (by decide) rfl (fun ls hl => ?_)
    refine lv_iconst (v := nI 0) hX.1 hX.2.1 d_Md_step_19 (by decide) ?_
    refine lv_istore (lv' := [(5, .int (nI 0)), (4, .int (nI 0)), (0, .ref md), (1, .int (nI sl)), (2, .int (nI S)), (3, .int (nI ch))]) hX.1 hX.2.1 d_Md_step_20 hl (by decide) rfl (fun ls hl => ?_)
    have lp : ∀ (fu : Nat) (i : Nat) (H : Heap) (locs : List Loc) (ls : Array Slot), (i ≤ MN sl) → (MN sl < i + fu) →  KW D k A s [(md, .inr (8, [.int (nI th), .int (nI tp), .ref (ad 2), .int (nM pl), .ref (ad 4), .ref (ad 5), .ref (ad 6), .ref (ad 7), .ref (ad 8), .ref (ad 9), .int (nI si), .ref (ad 11), .int (nI at1), .int (nM wr), .int (nI dp), .int (nI pa), .ref (ad 16), .ref (ad 17), .ref (ad 18), .int (nI le), .ref (ad 20), .ref (ad 21), .ref (ad 22), .ref (ad 23), .ref (ad 24), .ref (ad 25), .ref (ad 26), .ref (ad 27), .ref (ad 28), .ref (ad 29), .ref (ad 30)])), (ad 4, .inl (k 0, 4, .inl (aN MN))), (ad 5, .inl (k 0, 32, .inl (aN LT))), (ad 6, .inl (k 0, 4, .inl (aN FI))), (ad 8, .inl (k 0, 32, .inl (aN FL)))] H locs → lv_has ls 7 [(5, .int (nI i)), (4, .int (nI (nx1 FL S (sl * 8) i))), (3, .int (nI ch)), (2, .int (nI S)), (1, .int (nI sl)), (0, .ref md)] → W p l e ({ frames := 0, cells := 0, slots := 0, locals := 0 } : Room) s m [.ref md, .int (nI sl), .int (nI S), .int (nI ch)].toArray below meth c H locs 0 0 Q (F0 m 22 ls []) := by
      intro fu
      induction fu with
      | zero => intro i H locs ls lp1 lp2 hW hl; exfalso; omega
      | succ fu ih =>
        intro i H locs ls lp1 lp2 hW hl
        refine lv_iload hX.1 hX.2.1 d_Md_step_22 (lv_at hl 0 rfl) ?_
        refine lv_aload_n hX.1 hX.2.1 d_Md_step_24 rfl (lv_at hl 5 rfl) ?_
        refine kget hX hW i_Md 0 rfl rfl 4 (by decide) f_Md_17 rfl rfl d_Md_step_25 ?_
        refine lv_iload_n hX.1 hX.2.1 d_Md_step_28 rfl (lv_at hl 4 rfl) ?_
        refine kiald hX hW 1 rfl (by omega) (by first | decide | omega) d_Md_step_29 ?_
        refine kge hX (tgt := 73) (by omega) (by omega) d_Md_step_30 (by decide) (fun h2 => ?_) (fun h2 => ?_)
        · have e1 : i = MN sl := by omega
          subst e1
          exact k73 _ _ H locs ls (by rw [if_neg h1]) hW hl
        · refine lv_iload_n hX.1 hX.2.1 d_Md_step_33 rfl (lv_at hl 3 rfl) ?_
          refine lv_sipush (v := nI 256) hX.1 hX.2.1 d_Md_step_34 (by decide) ?_
          refine keq hX (tgt := 73) (by omega) (by omega) d_Md_step_37 (by decide) (fun h3 => ?_) (fun h3 => ?_)
          · exact absurd h3 h1
          · refine lv_iload_n hX.1 hX.2.1 d_Md_step_40 rfl (lv_at hl 3 rfl) ?_
            refine lv_iload hX.1 hX.2.1 d_Md_step_41 (lv_at hl 0 rfl) ?_
            refine lv_ishr hX.1 hX.2.1 d_Md_step_43 ?_
            refine tpi (y := nI S >>> (nI i &&& 31)) (rfl) ?_
            refine lv_iconst (v := nI 1) hX.1 hX.2.1 d_Md_step_44 (by decide) ?_
            refine lv_iand hX.1 hX.2.1 d_Md_step_45 ?_
            refine tpi (y := nI (if S.testBit i then 1 else 0)) (kn_bit (by omega) (by omega)) ?_
            refine lv_iconst (v := nI 1) hX.1 hX.2.1 d_Md_step_46 (by decide) ?_
            refine kne hX (tgt := 67) (by split <;> omega) (by omega) d_Md_step_47 (by decide) (fun h4 => ?_) (fun h4 => ?_)
            · have h6 : S.testBit i = false := by cases hb : S.testBit i <;> simp [hb] at h4 ⊢
              have h7 : nx1 FL S (sl * 8) (i + 1) = nx1 FL S (sl * 8) i := by rw [nx1, h6]; simp
              refine lv_iinc (v := nI (i + 1)) (lv' := [(5, .int (nI (i + 1))), (4, .int (nI (nx1 FL S (sl * 8) i))), (3, .int (nI ch)), (2, .int (nI S)), (1, .int (nI sl)), (0, .ref md)]) hX.1 hX.2.1 d_Md_step_67 hl (k := 0) rfl (kn_inc _) (by decide) rfl (fun ls hl => ?_)
              refine lv_goto (tgt := 22) hX.1 hX.2.1 d_Md_step_70 (by decide) ?_
              rw [← h7] at hl
              exact ih (i + 1) H locs ls (by omega) (by omega) hW (lv_sub hl [0, 1, 2, 3, 4, 5] rfl)
            · have h6 : S.testBit i = true := by cases hb : S.testBit i <;> simp [hb] at h4 ⊢
              have h7 : nx1 FL S (sl * 8) (i + 1) = nx1 FL S (sl * 8) i ||| FL (sl * 8 + i) := by rw [nx1, h6]; simp
              refine lv_iload hX.1 hX.2.1 d_Md_step_50 (lv_at hl 1 rfl) ?_
              refine lv_aload_n hX.1 hX.2.1 d_Md_step_52 rfl (lv_at hl 5 rfl) ?_
              refine kget hX hW i_Md 0 rfl rfl 8 (by decide) f_Md_29 rfl rfl d_Md_step_53 ?_
              refine lv_iload_n hX.1 hX.2.1 d_Md_step_56 rfl (lv_at hl 4 rfl) ?_
              refine lv_bipush (v := nI 8) hX.1 hX.2.1 d_Md_step_57 (by decide) ?_
              refine lv_imul hX.1 hX.2.1 d_Md_step_59 ?_
              refine tpi (y := nI (sl * 8)) (pk_mul _ _) ?_
              refine lv_iload hX.1 hX.2.1 d_Md_step_60 (lv_at hl 0 rfl) ?_
              refine lv_iadd hX.1 hX.2.1 d_Md_step_62 ?_
              refine tpi (y := nI (sl * 8 + i)) (nI_add _ _) ?_
              refine kiald hX hW 4 rfl (by omega) (by first | decide | omega) d_Md_step_63 ?_
              refine lv_ior hX.1 hX.2.1 d_Md_step_64 ?_
              refine tpi (y := nI (nx1 FL S (sl * 8) i ||| FL (sl * 8 + i))) (kn_or _ _) ?_
              refine lv_istore (lv' := [(4, .int (nI (nx1 FL S (sl * 8) i ||| FL (sl * 8 + i)))), (5, .int (nI i)), (3, .int (nI ch)), (2, .int (nI S)), (1, .int (nI sl)), (0, .ref md)]) hX.1 hX.2.1 d_Md_step_65 hl (by decide) rfl (fun ls hl => ?_)
              refine lv_iinc (v := nI (i + 1)) (lv' := [(5, .int (nI (i + 1))), (4, .int (nI (nx1 FL S (sl * 8) i ||| FL (sl * 8 + i)))), (3, .int (nI ch)), (2, .int (nI S)), (1, .int (nI sl)), (0, .ref md)]) hX.1 hX.2.1 d_Md_step_67 hl (k := 1) rfl (kn_inc _) (by decide) rfl (fun ls hl => ?_)
              refine lv_goto (tgt := 22) hX.1 hX.2.1 d_Md_step_70 (by decide) ?_
              rw [← h7] at hl
              exact ih (i + 1) H locs ls (by omega) (by omega) hW (lv_sub hl [0, 1, 2, 3, 4, 5] rfl)
    exact lp (MN sl + 1) 0 H locs ls (by omega) (by omega) hW (lv_sub hl [0, 1, 5, 4, 3, 2] rfl)
  · refine lv_aload_n hX.1 hX.2.1 d_Md_step_7 rfl (lv_at hl 0 rfl) ?_
    refine kget hX hW i_Md 0 rfl rfl 6 (by decide) f_Md_23 rfl rfl d_Md_step_8 ?_
    refine lv_iload_n hX.1 hX.2.1 d_Md_step_11 rfl (lv_at hl 1 rfl) ?_
    refine kiald hX hW 3 rfl (by omega) (by first | decide | omega) d_Md_step_12 ?_
    refine lv_goto (tgt := 17) hX.1 hX.2.1 d_Md_step_13 (by decide) ?_
    refine lv_istore (lv' := [(4, .int (nI (FI sl))), (0, .ref md), (1, .int (nI sl)), (2, .int (nI S)), (3, .int (nI ch))]) hX.1 hX.2.1 d_Md_step_17 hl (by decide) rfl (fun ls hl => ?_)
    refine lv_iconst (v := nI 0) hX.1 hX.2.1 d_Md_step_19 (by decide) ?_
    refine lv_istore (lv' := [(5, .int (nI 0)), (4, .int (nI (FI sl))), (0, .ref md), (1, .int (nI sl)), (2, .int (nI S)), (3, .int (nI ch))]) hX.1 hX.2.1 d_Md_step_20 hl (by decide) rfl (fun ls hl => ?_)
    refine lv_iload hX.1 hX.2.1 d_Md_step_22 (lv_at hl 0 rfl) ?_
    refine lv_aload_n hX.1 hX.2.1 d_Md_step_24 rfl (lv_at hl 2 rfl) ?_
    refine kget hX hW i_Md 0 rfl rfl 4 (by decide) f_Md_17 rfl rfl d_Md_step_25 ?_
    refine lv_iload_n hX.1 hX.2.1 d_Md_step_28 rfl (lv_at hl 3 rfl) ?_
    refine kiald hX hW 1 rfl (by omega) (by first | decide | omega) d_Md_step_29 ?_
    refine kge hX (tgt := 73) (by omega) (by omega) d_Md_step_30 (by decide) (fun h2 => ?_) (fun h2 => ?_)
    · exact k73 _ _ H locs ls (by rw [if_pos h1]) hW (lv_sub hl [0, 1, 5, 4, 3, 2] rfl)
    · refine lv_iload_n hX.1 hX.2.1 d_Md_step_33 rfl (lv_at hl 4 rfl) ?_
      refine lv_sipush (v := nI 256) hX.1 hX.2.1 d_Md_step_34 (by decide) ?_
      refine keq hX (tgt := 73) (by omega) (by omega) d_Md_step_37 (by decide) (fun h3 => ?_) (fun h3 => ?_)
      · exact k73 _ _ H locs ls (by rw [if_pos h1]) hW (lv_sub hl [0, 1, 5, 4, 3, 2] rfl)
      · exact absurd h1 h3
