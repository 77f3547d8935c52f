/-! THE REFERENCE: seek -/
theorem aM_upM (F : Nat → Nat) (k : Nat) : upd (aM F) k (-1) = aM (va_up F k 0) := by rw [← nM_0]; exact aM_up F k 0
theorem fil_n (F : Nat → Nat) (x i : Nat) : va_up (fil F x i) i x = fil F x (i + 1) := by
  funext j
  by_cases h : j = i
  · subst h; rw [va_up_self]; simp [fil]
  · rw [va_up_ne _ _ h]; simp only [fil]; by_cases h2 : j < i
    · rw [if_pos h2, if_pos (by omega)]
    · rw [if_neg h2, if_neg (by omega)]
/-- how many pairs, the pairs, their origins and one, the letters, which are known -/
abbrev QM : Type := Nat × (Nat → Nat) × (Nat → Nat) × (Nat → Nat) × (Nat → Nat)
def mg (x t a : Nat) : QM → QM
  | (n, FD, FR, BY, KN) => if KN x = 0 then (n + 1, va_up FD n x, va_up FR n (t + 1), va_up BY n a, va_up KN x 1) else (n, FD, FR, BY, KN)
def mi (sa sb : Nat → Nat) (t : Nat) (q : QM) : Nat → QM
  | 0 => q
  | a + 1 => mg (sa a * 257 + sb a) t a (mi sa sb t q a)
def MQ9 : QM → Prop
  | (n, FD, FR, BY, KN) => (0 < n ∧ n ≤ 66049) ∧ (∀ j, j < n → FD j < 66049 ∧ KN (FD j) = 1 ∧ FR j ≤ j ∧ BY j < 4) ∧ (∀ i j, i < n → j < n → FD i = FD j → i = j) ∧ ∀ x, x < 66049 → KN x ≤ 1
theorem MQ9_mg {x t a : Nat} {q : QM} (h : MQ9 q) (hx : x < 66049) (ht : t < q.1) (ha : a < 4) : MQ9 (mg x t a q) ∧ q.1 ≤ (mg x t a q).1 := by
  obtain ⟨n, FD, FR, BY, KN⟩ := q
  have ht : t < n := ht
  have h0 := h
  obtain ⟨⟨h1, h1b⟩, h2, h3, h4⟩ := h0
  rw [mg]
  split
  · rename_i hk
    have ne : ∀ j, j < n → FD j ≠ x := fun j hj e => by have := (h2 j hj).2.1; rw [e, hk] at this; omega
    have inj : ∀ i j, i < n + 1 → j < n + 1 → va_up FD n x i = va_up FD n x j → i = j := by
      intro i j hi hj e
      by_cases ei : i = n <;> by_cases ej : j = n
      · omega
      · subst ei; rw [va_up_self, va_up_ne _ _ ej] at e; exact absurd e.symm (ne j (by omega))
      · subst ej; rw [va_up_self, va_up_ne _ _ ei] at e; exact absurd e (ne i (by omega))
      · rw [va_up_ne _ _ ei, va_up_ne _ _ ej] at e; exact h3 i j (by omega) (by omega) e
    have hb := pigeon 66049 (n + 1) (va_up FD n x) (fun i hi => by
      by_cases e : i = n
      · subst e; rw [va_up_self]; exact hx
      · rw [va_up_ne _ _ e]; exact (h2 i (by omega)).1) inj
    refine ⟨⟨⟨by omega, hb⟩, fun j hj => ?_, inj, fun y hy => ?_⟩, by show n ≤ n + 1; omega⟩
    · by_cases e : j = n
      · subst e; rw [va_up_self, va_up_self, va_up_self, va_up_self]; exact ⟨hx, rfl, by omega, ha⟩
      · rw [va_up_ne _ _ e, va_up_ne _ _ e, va_up_ne _ _ e, va_up_ne _ _ (ne j (by omega))]; exact h2 j (by omega)
    · by_cases e : y = x
      · subst e; rw [va_up_self]; exact Nat.le_refl _
      · rw [va_up_ne _ _ e]; exact h4 y hy
  · exact ⟨h, Nat.le_refl _⟩
theorem MQ9_new {x : Nat} {n : Nat} {FD FR BY KN : Nat → Nat} (h : MQ9 (n, FD, FR, BY, KN)) (hx : x < 66049) (hk : KN x = 0) : n < 66049 := by
  have h1 := (MQ9_mg (t := 0) (a := 0) h hx h.1.1 (by decide)).1
  rw [mg, if_pos hk] at h1
  have := h1.1.2
  omega
theorem mi_ok {sa sb : Nat → Nat} {t : Nat} {q : QM} (hs : ∀ a, sa a < 256 ∧ sb a < 256) (ht : t < q.1) (hq : MQ9 q) : ∀ a, a ≤ 4 → MQ9 (mi sa sb t q a) ∧ q.1 ≤ (mi sa sb t q a).1 := by
  intro a
  induction a with
  | zero => intro _; exact ⟨hq, Nat.le_refl _⟩
  | succ a ih =>
    intro ha
    obtain ⟨i1, i2⟩ := ih (by omega)
    rw [mi]
    have := hs a
    have h := MQ9_mg (x := sa a * 257 + sb a) (t := t) (a := a) i1 (by omega) (by omega) (by omega)
    exact ⟨h.1, by omega⟩
/-- whether the pair is sought -/
def bad (wh one two : Nat) : Bool := if wh = 1 then decide (one ≠ two) else if wh = 2 then decide (two ≠ 0 ∧ one = 0) else decide (one ≠ 0)
def sk (sa sb : Nat → Nat → Nat) (ta tb : Nat → Nat) (wh : Nat) : Nat → Nat → QM → Nat × QM
  | 0, _, q => (0, q)
  | r + 1, t, q => if t < q.1 then (if bad wh (ta (q.2.1 t / 257)) (tb (q.2.1 t % 257)) then (t + 1, q) else sk sa sb ta tb wh r (t + 1) (mi (sa (q.2.1 t / 257)) (sb (q.2.1 t % 257)) t q 4)) else (0, q)
def mq0 (FD FR BY : Nat → Nat) : QM := (1, va_up FD 0 66048, va_up FR 0 0, BY, va_up (fun _ => 0) 66048 1)
theorem MQ9_0 {FD FR BY : Nat → Nat} (hBY : BY 0 < 4) : MQ9 (mq0 FD FR BY) := by
  refine ⟨⟨by decide, by decide⟩, fun j hj => ?_, fun i j hi hj _ => by omega, fun y hy => ?_⟩
  · have e : j = 0 := by omega
    subst e
    rw [va_up_self, va_up_self, va_up_self]
    exact ⟨by decide, rfl, by decide, hBY⟩
  · show va_up (fun _ => 0) 66048 1 y ≤ 1
    by_cases e : y = 66048
    · subst e; rw [va_up_self]; exact Nat.le_refl _
    · rw [va_up_ne _ _ e]; exact Nat.zero_le _
set_option maxHeartbeats 4000000 in
set_option maxRecDepth 100000 in
/-- seek(a, b, what) -/
theorem ok_Md_seek (l : Launch) (D : va_G) (k : Nat → ClassId) (sz : Nat) (md : Nat) (ad : Nat → Nat) (th tp pl si at1 wr dp pa le : Nat) (MN LT FI FL LA EM FD FR BY KN : Nat → Nat) (a b wh : Nat) (hwh : wh < 4) (hBY : BY 0 < 4) (ha : a < 4) (hmna : MN a ≤ 8) (hfia : FI a < 256) (hfla : ∀ i, i < MN a → FL (a * 8 + i) < 256) (hlta : ∀ i, i < MN a → LT (a * 8 + i) < 4) (hema : EM a ≤ 1) (hb : b < 4) (hmnb : MN b ≤ 8) (hfib : FI b < 256) (hflb : ∀ i, i < MN b → FL (b * 8 + i) < 256) (hltb : ∀ i, i < MN b → LT (b * 8 + i) < 4) (hemb : EM b ≤ 1) : Met l y_Md_seek (.code y_Md_seek c_Md_seek 12 (some .int) :: wsU) ({ frames := 1, cells := 0, slots := 0, locals := 26 } : Room) (kPre D k [.ref md, .int (nI a), .int (nI b), .int (nI wh)] [(md, .inr (8, [.int (nI th), .int (nI tp), .ref (ad 2), .int (nM pl), .ref (ad 4), .ref (ad 5), .ref (ad 6), .ref (ad 7), .ref (ad 8), .ref (ad 9), .int (nI si), .ref (ad 11), .int (nI at1), .int (nM wr), .int (nI dp), .int (nI pa), .ref (ad 16), .ref (ad 17), .ref (ad 18), .int (nI le), .ref (ad 20), .ref (ad 21), .ref (ad 22), .ref (ad 23), .ref (ad 24), .ref (ad 25), .ref (ad 26), .ref (ad 27), .ref (ad 28), .ref (ad 29), .ref (ad 30)])), (ad 4, .inl (k 0, 4, .inl (aN MN))), (ad 5, .inl (k 0, 32, .inl (aN LT))), (ad 6, .inl (k 0, 4, .inl (aN FI))), (ad 8, .inl (k 0, 32, .inl (aN FL))), (ad 7, .inl (k 0, 4, .inl (aN LA))), (ad 9, .inl (k 2, 4, .inl (aN EM))), (ad 22, .inl (k 0, 66049, .inl (aN FD))), (ad 23, .inl (k 0, 66049, .inl (aM FR))), (ad 24, .inl (k 0, 66049, .inl (aN BY))), (ad 25, .inl (k 2, 66049, .inl (aN KN)))] sz) (va_Qi (fun (r : Int32) (_ : Unit) => r = nM (sk (fun q c => mstep MN LT FI FL a q c) (fun q c => mstep MN LT FI FL b q c) (mtl LA EM a) (mtl LA EM b) wh 66049 0 (mq0 FD FR BY)).1) (kB D k (fun _ : Unit => [(md, .inr (8, [.int (nI th), .int (nI tp), .ref (ad 2), .int (nM pl), .ref (ad 4), .ref (ad 5), .ref (ad 6), .ref (ad 7), .ref (ad 8), .ref (ad 9), .int (nI si), .ref (ad 11), .int (nI at1), .int (nM wr), .int (nI dp), .int (nI pa), .ref (ad 16), .ref (ad 17), .ref (ad 18), .int (nI le), .ref (ad 20), .ref (ad 21), .ref (ad 22), .ref (ad 23), .ref (ad 24), .ref (ad 25), .ref (ad 26), .ref (ad 27), .ref (ad 28), .ref (ad 29), .ref (ad 30)])), (ad 4, .inl (k 0, 4, .inl (aN MN))), (ad 5, .inl (k 0, 32, .inl (aN LT))), (ad 6, .inl (k 0, 4, .inl (aN FI))), (ad 8, .inl (k 0, 32, .inl (aN FL))), (ad 7, .inl (k 0, 4, .inl (aN LA))), (ad 9, .inl (k 2, 4, .inl (aN EM))), (ad 22, .inl (k 0, 66049, .inl (aN ((sk (fun q c => mstep MN LT FI FL a q c) (fun q c => mstep MN LT FI FL b q c) (mtl LA EM a) (mtl LA EM b) wh 66049 0 (mq0 FD FR BY)).2.2.1)))), (ad 23, .inl (k 0, 66049, .inl (aM ((sk (fun q c => mstep MN LT FI FL a q c) (fun q c => mstep MN LT FI FL b q c) (mtl LA EM a) (mtl LA EM b) wh 66049 0 (mq0 FD FR BY)).2.2.2.1)))), (ad 24, .inl (k 0, 66049, .inl (aN ((sk (fun q c => mstep MN LT FI FL a q c) (fun q c => mstep MN LT FI FL b q c) (mtl LA EM a) (mtl LA EM b) wh 66049 0 (mq0 FD FR BY)).2.2.2.2.1)))), (ad 25, .inl (k 2, 66049, .inl (aN ((sk (fun q c => mstep MN LT FI FL a q c) (fun q c => mstep MN LT FI FL b q c) (mtl LA EM a) (mtl LA EM b) wh 66049 0 (mq0 FD FR BY)).2.2.2.2.2))))]) (va_A [(md, .inr (8, [.int (nI th), .int (nI tp), .ref (ad 2), .int (nM pl), .ref (ad 4), .ref (ad 5), .ref (ad 6), .ref (ad 7), .ref (ad 8), .ref (ad 9), .int (nI si), .ref (ad 11), .int (nI at1), .int (nM wr), .int (nI dp), .int (nI pa), .ref (ad 16), .ref (ad 17), .ref (ad 18), .int (nI le), .ref (ad 20), .ref (ad 21), .ref (ad 22), .ref (ad 23), .ref (ad 24), .ref (ad 25), .ref (ad 26), .ref (ad 27), .ref (ad 28), .ref (ad 29), .ref (ad 30)])), (ad 4, .inl (k 0, 4, .inl (aN MN))), (ad 5, .inl (k 0, 32, .inl (aN LT))), (ad 6, .inl (k 0, 4, .inl (aN FI))), (ad 8, .inl (k 0, 32, .inl (aN FL))), (ad 7, .inl (k 0, 4, .inl (aN LA))), (ad 9, .inl (k 2, 4, .inl (aN EM))), (ad 22, .inl (k 0, 66049, .inl (aN FD))), (ad 23, .inl (k 0, 66049, .inl (aM FR))), (ad 24, .inl (k 0, 66049, .inl (aN BY))), (ad 25, .inl (k 2, 66049, .inl (aN KN)))] sz)) (va_A [(md, .inr (8, [.int (nI th), .int (nI tp), .ref (ad 2), .int (nM pl), .ref (ad 4), .ref (ad 5), .ref (ad 6), .ref (ad 7), .ref (ad 8), .ref (ad 9), .int (nI si), .ref (ad 11), .int (nI at1), .int (nM wr), .int (nI dp), .int (nI pa), .ref (ad 16), .ref (ad 17), .ref (ad 18), .int (nI le), .ref (ad 20), .ref (ad 21), .ref (ad 22), .ref (ad 23), .ref (ad 24), .ref (ad 25), .ref (ad 26), .ref (ad 27), .ref (ad 28), .ref (ad 29), .ref (ad 30)])), (ad 4, .inl (k 0, 4, .inl (aN MN))), (ad 5, .inl (k 0, 32, .inl (aN LT))), (ad 6, .inl (k 0, 4, .inl (aN FI))), (ad 8, .inl (k 0, 32, .inl (aN FL))), (ad 7, .inl (k 0, 4, .inl (aN LA))), (ad 9, .inl (k 2, 4, .inl (aN EM))), (ad 22, .inl (k 0, 66049, .inl (aN FD))), (ad 23, .inl (k 0, 66049, .inl (aM FR))), (ad 24, .inl (k 0, 66049, .inl (aN BY))), (ad 25, .inl (k 2, 66049, .inl (aN KN)))] sz)) 0 0 (va_A [(md, .inr (8, [.int (nI th), .int (nI tp), .ref (ad 2), .int (nM pl), .ref (ad 4), .ref (ad 5), .ref (ad 6), .ref (ad 7), .ref (ad 8), .ref (ad 9), .int (nI si), .ref (ad 11), .int (nI at1), .int (nM wr), .int (nI dp), .int (nI pa), .ref (ad 16), .ref (ad 17), .ref (ad 18), .int (nI le), .ref (ad 20), .ref (ad 21), .ref (ad 22), .ref (ad 23), .ref (ad 24), .ref (ad 25), .ref (ad 26), .ref (ad 27), .ref (ad 28), .ref (ad 29), .ref (ad 30)])), (ad 4, .inl (k 0, 4, .inl (aN MN))), (ad 5, .inl (k 0, 32, .inl (aN LT))), (ad 6, .inl (k 0, 4, .inl (aN FI))), (ad 8, .inl (k 0, 32, .inl (aN FL))), (ad 7, .inl (k 0, 4, .inl (aN LA))), (ad 9, .inl (k 2, 4, .inl (aN EM))), (ad 22, .inl (k 0, 66049, .inl (aN FD))), (ad 23, .inl (k 0, 66049, .inl (aM FR))), (ad 24, .inl (k 0, 66049, .inl (aN BY))), (ad 25, .inl (k 2, 66049, .inl (aN KN)))] sz) := by
  refine kMet (by decide) (Nat.le_of_ble_eq_true rfl) ?_
  intro p e s m below meth c ls hX hml hr hlocks hin hsz hW hl Q hQ
  generalize hAe : va_A [(md, .inr (8, [.int (nI th), .int (nI tp), .ref (ad 2), .int (nM pl), .ref (ad 4), .ref (ad 5), .ref (ad 6), .ref (ad 7), .ref (ad 8), .ref (ad 9), .int (nI si), .ref (ad 11), .int (nI at1), .int (nM wr), .int (nI dp), .int (nI pa), .ref (ad 16), .ref (ad 17), .ref (ad 18), .int (nI le), .ref (ad 20), .ref (ad 21), .ref (ad 22), .ref (ad 23), .ref (ad 24), .ref (ad 25), .ref (ad 26), .ref (ad 27), .ref (ad 28), .ref (ad 29), .ref (ad 30)])), (ad 4, .inl (k 0, 4, .inl (aN MN))), (ad 5, .inl (k 0, 32, .inl (aN LT))), (ad 6, .inl (k 0, 4, .inl (aN FI))), (ad 8, .inl (k 0, 32, .inl (aN FL))), (ad 7, .inl (k 0, 4, .inl (aN LA))), (ad 9, .inl (k 2, 4, .inl (aN EM))), (ad 22, .inl (k 0, 66049, .inl (aN FD))), (ad 23, .inl (k 0, 66049, .inl (aM FR))), (ad 24, .inl (k 0, 66049, .inl (aN BY))), (ad 25, .inl (k 2, 66049, .inl (aN KN)))] sz = A at hW hQ
  generalize hH0 : s.heap = H at hW ⊢
  generalize hl0 : ([] : List Loc) = locs at hW ⊢
  have hX : FX p s m c [.ref md, .int (nI a), .int (nI b), .int (nI wh)].toArray c_Md_seek R_Md := hX
  have hl : lv_has ls 12 [(0, .ref md), (1, .int (nI a)), (2, .int (nI b)), (3, .int (nI wh))] := hl
  obtain ⟨o, ho⟩ : ∃ o, sk (fun q c => mstep MN LT FI FL a q c) (fun q c => mstep MN LT FI FL b q c) (mtl LA EM a) (mtl LA EM b) wh 66049 0 (mq0 FD FR BY) = o := ⟨_, rfl⟩
  rw [ho] at hQ
  have k24 : ∀ (x : Nat) (H : Heap) (locs : List Loc) (ls : Array Slot), KW D k A s [(md, .inr (8, [.int (nI th), .int (nI tp), .ref (ad 2), .int (nM pl), .ref (ad 4), .ref (ad 5), .ref (ad 6), .ref (ad 7), .ref (ad 8), .ref (ad 9), .int (nI si), .ref (ad 11), .int (nI at1), .int (nM wr), .int (nI dp), .int (nI pa), .ref (ad 16), .ref (ad 17), .ref (ad 18), .int (nI le), .ref (ad 20), .ref (ad 21), .ref (ad 22), .ref (ad 23), .ref (ad 24), .ref (ad 25), .ref (ad 26), .ref (ad 27), .ref (ad 28), .ref (ad 29), .ref (ad 30)])), (ad 4, .inl (k 0, 4, .inl (aN MN))), (ad 5, .inl (k 0, 32, .inl (aN LT))), (ad 6, .inl (k 0, 4, .inl (aN FI))), (ad 8, .inl (k 0, 32, .inl (aN FL))), (ad 7, .inl (k 0, 4, .inl (aN LA))), (ad 9, .inl (k 2, 4, .inl (aN EM))), (ad 22, .inl (k 0, 66049, .inl (aN FD))), (ad 23, .inl (k 0, 66049, .inl (aM FR))), (ad 24, .inl (k 0, 66049, .inl (aN BY))), (ad 25, .inl (k 2, 66049, .inl (aN (fun _ => 0))))] H locs → lv_has ls 12 [(4, .int (nI x)), (3, .int (nI wh)), (2, .int (nI b)), (1, .int (nI a)), (0, .ref md)] → W p l e ({ frames := 1, cells := 0, slots := 0, locals := 26 } : Room) s m [.ref md, .int (nI a), .int (nI b), .int (nI wh)].toArray below meth c H locs 0 0 Q (F0 m 24 ls []) := by
    intro x H locs ls hW hl
    refine lv_iconst (v := nI 1) hX.1 hX.2.1 d_Md_seek_24 (by decide) ?_
    refine lv_istore (lv' := [(4, .int (nI 1)), (3, .int (nI wh)), (2, .int (nI b)), (1, .int (nI a)), (0, .ref md)]) hX.1 hX.2.1 d_Md_seek_25 hl (by decide) rfl (fun ls hl => ?_)
    refine lv_aload_n hX.1 hX.2.1 d_Md_seek_27 rfl (lv_at hl 4 rfl) ?_
    refine kget hX hW i_Md 0 rfl rfl 22 (by decide) f_Md_55 rfl rfl d_Md_seek_28 ?_
    refine lv_iconst (v := nI 0) hX.1 hX.2.1 d_Md_seek_31 (by decide) ?_
    refine lv_ldc hX.1 hX.2.1 hX.2.2.1 (hX.2.2.2 _ co_Md_157) d_Md_seek_32 ?_
    refine tpi (y := nI 66048) (by decide +kernel) ?_
    refine kiast hX hW 7 rfl (by omega) (by first | decide | omega) d_Md_seek_34 (fun H locs hW => ?_)
    have hW : KW D k A s [(md, .inr (8, [.int (nI th), .int (nI tp), .ref (ad 2), .int (nM pl), .ref (ad 4), .ref (ad 5), .ref (ad 6), .ref (ad 7), .ref (ad 8), .ref (ad 9), .int (nI si), .ref (ad 11), .int (nI at1), .int (nM wr), .int (nI dp), .int (nI pa), .ref (ad 16), .ref (ad 17), .ref (ad 18), .int (nI le), .ref (ad 20), .ref (ad 21), .ref (ad 22), .ref (ad 23), .ref (ad 24), .ref (ad 25), .ref (ad 26), .ref (ad 27), .ref (ad 28), .ref (ad 29), .ref (ad 30)])), (ad 4, .inl (k 0, 4, .inl (aN MN))), (ad 5, .inl (k 0, 32, .inl (aN LT))), (ad 6, .inl (k 0, 4, .inl (aN FI))), (ad 8, .inl (k 0, 32, .inl (aN FL))), (ad 7, .inl (k 0, 4, .inl (aN LA))), (ad 9, .inl (k 2, 4, .inl (aN EM))), (ad 22, .inl (k 0, 66049, .inl (aN (va_up FD 0 66048)))), (ad 23, .inl (k 0, 66049, .inl (aM FR))), (ad 24, .inl (k 0, 66049, .inl (aN BY))), (ad 25, .inl (k 2, 66049, .inl (aN (fun _ => 0))))] H locs := hW
    refine lv_aload_n hX.1 hX.2.1 d_Md_seek_35 rfl (lv_at hl 4 rfl) ?_
    refine kget hX hW i_Md 0 rfl rfl 23 (by decide) f_Md_58 rfl rfl d_Md_seek_36 ?_
    refine lv_iconst (v := nI 0) hX.1 hX.2.1 d_Md_seek_39 (by decide) ?_
    refine lv_iconst (v := (-1)) hX.1 hX.2.1 d_Md_seek_40 (by decide) ?_
    refine kriast hX hW 8 rfl (by omega) (by first | decide | omega) d_Md_seek_41 (fun H locs hW => ?_)
    have hW : KW D k A s [(md, .inr (8, [.int (nI th), .int (nI tp), .ref (ad 2), .int (nM pl), .ref (ad 4), .ref (ad 5), .ref (ad 6), .ref (ad 7), .ref (ad 8), .ref (ad 9), .int (nI si), .ref (ad 11), .int (nI at1), .int (nM wr), .int (nI dp), .int (nI pa), .ref (ad 16), .ref (ad 17), .ref (ad 18), .int (nI le), .ref (ad 20), .ref (ad 21), .ref (ad 22), .ref (ad 23), .ref (ad 24), .ref (ad 25), .ref (ad 26), .ref (ad 27), .ref (ad 28), .ref (ad 29), .ref (ad 30)])), (ad 4, .inl (k 0, 4, .inl (aN MN))), (ad 5, .inl (k 0, 32, .inl (aN LT))), (ad 6, .inl (k 0, 4, .inl (aN FI))), (ad 8, .inl (k 0, 32, .inl (aN FL))), (ad 7, .inl (k 0, 4, .inl (aN LA))), (ad 9, .inl (k 2, 4, .inl (aN EM))), (ad 22, .inl (k 0, 66049, .inl (aN (va_up FD 0 66048)))), (ad 23, .inl (k 0, 66049, .inl (upd (aM FR) 0 (-1)))), (ad 24, .inl (k 0, 66049, .inl (aN BY))), (ad 25, .inl (k 2, 66049, .inl (aN (fun _ => 0))))] H locs := hW
    rw [aM_upM] at hW
    refine lv_aload_n hX.1 hX.2.1 d_Md_seek_42 rfl (lv_at hl 4 rfl) ?_
    refine kget hX hW i_Md 0 rfl rfl 25 (by decide) f_Md_64 rfl rfl d_Md_seek_43 ?_
    refine lv_aload_n hX.1 hX.2.1 d_Md_seek_46 rfl (lv_at hl 4 rfl) ?_
    refine kget hX hW i_Md 0 rfl rfl 22 (by decide) f_Md_55 rfl rfl d_Md_seek_47 ?_
    refine lv_iconst (v := nI 0) hX.1 hX.2.1 d_Md_seek_50 (by decide) ?_
    refine kiald hX hW 7 rfl (by omega) (by first | decide | omega) d_Md_seek_51 ?_
    refine tpi (y := nI 66048) (by rw [va_up_self]) ?_
    refine lv_iconst (v := nI 1) hX.1 hX.2.1 d_Md_seek_52 (by decide) ?_
    refine kzast hX hW 10 rfl (by decide) (by first | decide | omega) (by decide) d_Md_seek_53 (fun H locs hW => ?_)
    have hW : KW D k A s [(md, .inr (8, [.int (nI th), .int (nI tp), .ref (ad 2), .int (nM pl), .ref (ad 4), .ref (ad 5), .ref (ad 6), .ref (ad 7), .ref (ad 8), .ref (ad 9), .int (nI si), .ref (ad 11), .int (nI at1), .int (nM wr), .int (nI dp), .int (nI pa), .ref (ad 16), .ref (ad 17), .ref (ad 18), .int (nI le), .ref (ad 20), .ref (ad 21), .ref (ad 22), .ref (ad 23), .ref (ad 24), .ref (ad 25), .ref (ad 26), .ref (ad 27), .ref (ad 28), .ref (ad 29), .ref (ad 30)])), (ad 4, .inl (k 0, 4, .inl (aN MN))), (ad 5, .inl (k 0, 32, .inl (aN LT))), (ad 6, .inl (k 0, 4, .inl (aN FI))), (ad 8, .inl (k 0, 32, .inl (aN FL))), (ad 7, .inl (k 0, 4, .inl (aN LA))), (ad 9, .inl (k 2, 4, .inl (aN EM))), (ad 22, .inl (k 0, 66049, .inl (aN (va_up FD 0 66048)))), (ad 23, .inl (k 0, 66049, .inl (aM (va_up FR 0 0)))), (ad 24, .inl (k 0, 66049, .inl (aN BY))), (ad 25, .inl (k 2, 66049, .inl (aN (va_up (fun _ => 0) 66048 1))))] H locs := hW
    refine lv_iconst (v := nI 0) hX.1 hX.2.1 d_Md_seek_54 (by decide) ?_
    refine lv_istore (lv' := [(5, .int (nI 0)), (4, .int (nI 1)), (3, .int (nI wh)), (2, .int (nI b)), (1, .int (nI a)), (0, .ref md)]) hX.1 hX.2.1 d_Md_seek_55 hl (by decide) rfl (fun ls hl => ?_)
    have hm0 : MQ9 (mq0 FD FR BY) := MQ9_0 hBY
    have lp : ∀ (fu : Nat) (t : Nat) (qq : QM) (H : Heap) (locs : List Loc) (ls : Array Slot), (t ≤ 66049) → (66049 < t + fu) → (sk (fun q c => mstep MN LT FI FL a q c) (fun q c => mstep MN LT FI FL b q c) (mtl LA EM a) (mtl LA EM b) wh (66049 - t) t qq = o) → (MQ9 qq) →  KW D k A s [(md, .inr (8, [.int (nI th), .int (nI tp), .ref (ad 2), .int (nM pl), .ref (ad 4), .ref (ad 5), .ref (ad 6), .ref (ad 7), .ref (ad 8), .ref (ad 9), .int (nI si), .ref (ad 11), .int (nI at1), .int (nM wr), .int (nI dp), .int (nI pa), .ref (ad 16), .ref (ad 17), .ref (ad 18), .int (nI le), .ref (ad 20), .ref (ad 21), .ref (ad 22), .ref (ad 23), .ref (ad 24), .ref (ad 25), .ref (ad 26), .ref (ad 27), .ref (ad 28), .ref (ad 29), .ref (ad 30)])), (ad 4, .inl (k 0, 4, .inl (aN MN))), (ad 5, .inl (k 0, 32, .inl (aN LT))), (ad 6, .inl (k 0, 4, .inl (aN FI))), (ad 8, .inl (k 0, 32, .inl (aN FL))), (ad 7, .inl (k 0, 4, .inl (aN LA))), (ad 9, .inl (k 2, 4, .inl (aN EM))), (ad 22, .inl (k 0, 66049, .inl (aN qq.2.1))), (ad 23, .inl (k 0, 66049, .inl (aM qq.2.2.1))), (ad 24, .inl (k 0, 66049, .inl (aN qq.2.2.2.1))), (ad 25, .inl (k 2, 66049, .inl (aN qq.2.2.2.2)))] H locs → lv_has ls 12 [(5, .int (nI t)), (4, .int (nI qq.1)), (3, .int (nI wh)), (2, .int (nI b)), (1, .int (nI a)), (0, .ref md)] → W p l e ({ frames := 1, cells := 0, slots := 0, locals := 26 } : Room) s m [.ref md, .int (nI a), .int (nI b), .int (nI wh)].toArray below meth c H locs 0 0 Q (F0 m 57 ls []) := by
      intro fu
      induction fu with
      | zero => intro t qq H locs ls lp1 lp2 hp hI hW hl; exfalso; omega
      | succ fu ih =>
        intro t qq H locs ls lp1 lp2 hp hI hW hl
        obtain ⟨n, FD, FR, BY, KN⟩ := qq
        have hW : KW D k A s [(md, .inr (8, [.int (nI th), .int (nI tp), .ref (ad 2), .int (nM pl), .ref (ad 4), .ref (ad 5), .ref (ad 6), .ref (ad 7), .ref (ad 8), .ref (ad 9), .int (nI si), .ref (ad 11), .int (nI at1), .int (nM wr), .int (nI dp), .int (nI pa), .ref (ad 16), .ref (ad 17), .ref (ad 18), .int (nI le), .ref (ad 20), .ref (ad 21), .ref (ad 22), .ref (ad 23), .ref (ad 24), .ref (ad 25), .ref (ad 26), .ref (ad 27), .ref (ad 28), .ref (ad 29), .ref (ad 30)])), (ad 4, .inl (k 0, 4, .inl (aN MN))), (ad 5, .inl (k 0, 32, .inl (aN LT))), (ad 6, .inl (k 0, 4, .inl (aN FI))), (ad 8, .inl (k 0, 32, .inl (aN FL))), (ad 7, .inl (k 0, 4, .inl (aN LA))), (ad 9, .inl (k 2, 4, .inl (aN EM))), (ad 22, .inl (k 0, 66049, .inl (aN FD))), (ad 23, .inl (k 0, 66049, .inl (aM FR))), (ad 24, .inl (k 0, 66049, .inl (aN BY))), (ad 25, .inl (k 2, 66049, .inl (aN KN)))] H locs := hW
        have hl : lv_has ls 12 [(5, .int (nI t)), (4, .int (nI n)), (3, .int (nI wh)), (2, .int (nI b)), (1, .int (nI a)), (0, .ref md)] := hl
        obtain ⟨⟨r1, r2⟩, r3, r4, r5⟩ := id hI
        refine lv_iload hX.1 hX.2.1 d_Md_seek_57 (lv_at hl 0 rfl) ?_
        refine lv_iload hX.1 hX.2.1 d_Md_seek_59 (lv_at hl 1 rfl) ?_
        refine kge hX (tgt := 246) (by omega) (by omega) d_Md_seek_61 (by decide) (fun hA1 => ?_) (fun hA1 => ?_)
        · have hp2 : (0, (n, FD, FR, BY, KN)) = o := by rw [← hp]; cases 66049 - t with | zero => rfl | succ r => rw [sk, if_neg (by show ¬ t < n; omega)]
          refine lv_iconst (v := (-1)) hX.1 hX.2.1 d_Md_seek_246 (by decide) ?_
          subst hp2
          exact kiret hX hr hlocks hQ () (hW) (nM_0.symm) d_Md_seek_247
        · have hfd := (r3 t hA1).1
          rw [show 66049 - t = (66049 - (t + 1)) + 1 by omega, sk, if_pos hA1] at hp
          obtain ⟨X, hX1⟩ : ∃ X, FD t / 257 = X := ⟨_, rfl⟩
          obtain ⟨Y, hY1⟩ : ∃ Y, FD t % 257 = Y := ⟨_, rfl⟩
          have hp : (if bad wh (mtl LA EM a (FD t / 257)) (mtl LA EM b (FD t % 257)) then (t + 1, (n, FD, FR, BY, KN)) else sk (fun q c => mstep MN LT FI FL a q c) (fun q c => mstep MN LT FI FL b q c) (mtl LA EM a) (mtl LA EM b) wh (66049 - (t + 1)) (t + 1) (mi (fun c => mstep MN LT FI FL a (FD t / 257) c) (fun c => mstep MN LT FI FL b (FD t % 257) c) t (n, FD, FR, BY, KN) 4)) = o := hp
          rw [hX1, hY1] at hp
          have hX2 : X ≤ 256 := by omega
          have hY2 : Y ≤ 256 := by omega
          refine lv_aload_n hX.1 hX.2.1 d_Md_seek_64 rfl (lv_at hl 5 rfl) ?_
          refine kget hX hW i_Md 0 rfl rfl 22 (by decide) f_Md_55 rfl rfl d_Md_seek_65 ?_
          refine lv_iload hX.1 hX.2.1 d_Md_seek_68 (lv_at hl 0 rfl) ?_
          refine kiald hX hW 7 rfl (by omega) (by first | decide | omega) d_Md_seek_70 ?_
          refine lv_sipush (v := nI 257) hX.1 hX.2.1 d_Md_seek_71 (by decide) ?_
          refine lv_idiv hX.1 hX.2.1 d_Md_seek_74 (by decide) ?_
          refine tpi (y := nI X) ((pk_div (by omega) (by decide) (by decide)).trans (by rw [hX1])) ?_
          refine lv_istore (lv' := [(6, .int (nI X)), (5, .int (nI t)), (4, .int (nI n)), (3, .int (nI wh)), (2, .int (nI b)), (1, .int (nI a)), (0, .ref md)]) hX.1 hX.2.1 d_Md_seek_75 hl (by decide) rfl (fun ls hl => ?_)
          refine lv_aload_n hX.1 hX.2.1 d_Md_seek_77 rfl (lv_at hl 6 rfl) ?_
          refine kget hX hW i_Md 0 rfl rfl 22 (by decide) f_Md_55 rfl rfl d_Md_seek_78 ?_
          refine lv_iload hX.1 hX.2.1 d_Md_seek_81 (lv_at hl 1 rfl) ?_
          refine kiald hX hW 7 rfl (by omega) (by first | decide | omega) d_Md_seek_83 ?_
          refine lv_sipush (v := nI 257) hX.1 hX.2.1 d_Md_seek_84 (by decide) ?_
          refine lv_irem hX.1 hX.2.1 d_Md_seek_87 (by decide) ?_
          refine tpi (y := nI Y) ((pk_rem (by omega) (by decide) (by decide)).trans (by rw [hY1])) ?_
          refine lv_istore (lv' := [(7, .int (nI Y)), (6, .int (nI X)), (5, .int (nI t)), (4, .int (nI n)), (3, .int (nI wh)), (2, .int (nI b)), (1, .int (nI a)), (0, .ref md)]) hX.1 hX.2.1 d_Md_seek_88 hl (by decide) rfl (fun ls hl => ?_)
          refine lv_aload_n hX.1 hX.2.1 d_Md_seek_90 rfl (lv_at hl 7 rfl) ?_
          refine lv_iload_n hX.1 hX.2.1 d_Md_seek_91 rfl (lv_at hl 6 rfl) ?_
          refine lv_iload hX.1 hX.2.1 d_Md_seek_92 (lv_at hl 1 rfl) ?_
          refine kCi (wc := [(md, .inr (8, [.int (nI th), .int (nI tp), .ref (ad 2), .int (nM pl), .ref (ad 4), .ref (ad 5), .ref (ad 6), .ref (ad 7), .ref (ad 8), .ref (ad 9), .int (nI si), .ref (ad 11), .int (nI at1), .int (nM wr), .int (nI dp), .int (nI pa), .ref (ad 16), .ref (ad 17), .ref (ad 18), .int (nI le), .ref (ad 20), .ref (ad 21), .ref (ad 22), .ref (ad 23), .ref (ad 24), .ref (ad 25), .ref (ad 26), .ref (ad 27), .ref (ad 28), .ref (ad 29), .ref (ad 30)])), (ad 7, .inl (k 0, 4, .inl (aN LA))), (ad 9, .inl (k 2, 4, .inl (aN EM)))]) hW [0, 5, 6] (by rfl) (by intro _; rfl) (kRunV (n := 2) (As := [.int (nI a), .int (nI X)]) (rest := []) hX hml hW (ok_Md_tells l D k H.size md ad th tp pl si at1 wr dp pa le LA EM a X ha hX2 hema) m_Md_150 im_Md_tells se_Md_tells in_Md cd_Md_tells [0, 5, 6] rfl rfl rfl rfl (by decide +kernel) ⟨rfl, rfl, Nat.le_of_ble_eq_true rfl, Nat.le_of_ble_eq_true rfl⟩ rfl hl.1 rfl (Nat.le_of_ble_eq_true rfl) d_Md_seek_94 ⟨by first | exact Nat.zero_le _ | decide | omega | (dsimp only; omega), by first | exact Nat.zero_le _ | decide | omega | (dsimp only; omega)⟩) (fun r u H locs hr9 hW => ?_)
          have hW : KW D k A s [(md, .inr (8, [.int (nI th), .int (nI tp), .ref (ad 2), .int (nM pl), .ref (ad 4), .ref (ad 5), .ref (ad 6), .ref (ad 7), .ref (ad 8), .ref (ad 9), .int (nI si), .ref (ad 11), .int (nI at1), .int (nM wr), .int (nI dp), .int (nI pa), .ref (ad 16), .ref (ad 17), .ref (ad 18), .int (nI le), .ref (ad 20), .ref (ad 21), .ref (ad 22), .ref (ad 23), .ref (ad 24), .ref (ad 25), .ref (ad 26), .ref (ad 27), .ref (ad 28), .ref (ad 29), .ref (ad 30)])), (ad 4, .inl (k 0, 4, .inl (aN MN))), (ad 5, .inl (k 0, 32, .inl (aN LT))), (ad 6, .inl (k 0, 4, .inl (aN FI))), (ad 8, .inl (k 0, 32, .inl (aN FL))), (ad 7, .inl (k 0, 4, .inl (aN LA))), (ad 9, .inl (k 2, 4, .inl (aN EM))), (ad 22, .inl (k 0, 66049, .inl (aN FD))), (ad 23, .inl (k 0, 66049, .inl (aM FR))), (ad 24, .inl (k 0, 66049, .inl (aN BY))), (ad 25, .inl (k 2, 66049, .inl (aN KN)))] H locs := hW
          subst hr9
          show W p l e ({ frames := 1, cells := 0, slots := 0, locals := 26 } : Room) s m [.ref md, .int (nI a), .int (nI b), .int (nI wh)].toArray below meth c H locs 0 0 Q (F0 m 97 ls [.int (nI (mtl LA EM a X))])
          refine lv_istore (lv' := [(8, .int (nI (mtl LA EM a X))), (7, .int (nI Y)), (6, .int (nI X)), (5, .int (nI t)), (4, .int (nI n)), (3, .int (nI wh)), (2, .int (nI b)), (1, .int (nI a)), (0, .ref md)]) hX.1 hX.2.1 d_Md_seek_97 hl (by decide) rfl (fun ls hl => ?_)
          refine lv_aload_n hX.1 hX.2.1 d_Md_seek_99 rfl (lv_at hl 8 rfl) ?_
          refine lv_iload_n hX.1 hX.2.1 d_Md_seek_100 rfl (lv_at hl 6 rfl) ?_
          refine lv_iload hX.1 hX.2.1 d_Md_seek_101 (lv_at hl 1 rfl) ?_
          refine kCi (wc := [(md, .inr (8, [.int (nI th), .int (nI tp), .ref (ad 2), .int (nM pl), .ref (ad 4), .ref (ad 5), .ref (ad 6), .ref (ad 7), .ref (ad 8), .ref (ad 9), .int (nI si), .ref (ad 11), .int (nI at1), .int (nM wr), .int (nI dp), .int (nI pa), .ref (ad 16), .ref (ad 17), .ref (ad 18), .int (nI le), .ref (ad 20), .ref (ad 21), .ref (ad 22), .ref (ad 23), .ref (ad 24), .ref (ad 25), .ref (ad 26), .ref (ad 27), .ref (ad 28), .ref (ad 29), .ref (ad 30)])), (ad 7, .inl (k 0, 4, .inl (aN LA))), (ad 9, .inl (k 2, 4, .inl (aN EM)))]) hW [0, 5, 6] (by rfl) (by intro _; rfl) (kRunV (n := 2) (As := [.int (nI b), .int (nI Y)]) (rest := []) hX hml hW (ok_Md_tells l D k H.size md ad th tp pl si at1 wr dp pa le LA EM b Y hb hY2 hemb) m_Md_150 im_Md_tells se_Md_tells in_Md cd_Md_tells [0, 5, 6] rfl rfl rfl rfl (by decide +kernel) ⟨rfl, rfl, Nat.le_of_ble_eq_true rfl, Nat.le_of_ble_eq_true rfl⟩ rfl hl.1 rfl (Nat.le_of_ble_eq_true rfl) d_Md_seek_103 ⟨by first | exact Nat.zero_le _ | decide | omega | (dsimp only; omega), by first | exact Nat.zero_le _ | decide | omega | (dsimp only; omega)⟩) (fun r u H locs hr9 hW => ?_)
          have hW : KW D k A s [(md, .inr (8, [.int (nI th), .int (nI tp), .ref (ad 2), .int (nM pl), .ref (ad 4), .ref (ad 5), .ref (ad 6), .ref (ad 7), .ref (ad 8), .ref (ad 9), .int (nI si), .ref (ad 11), .int (nI at1), .int (nM wr), .int (nI dp), .int (nI pa), .ref (ad 16), .ref (ad 17), .ref (ad 18), .int (nI le), .ref (ad 20), .ref (ad 21), .ref (ad 22), .ref (ad 23), .ref (ad 24), .ref (ad 25), .ref (ad 26), .ref (ad 27), .ref (ad 28), .ref (ad 29), .ref (ad 30)])), (ad 4, .inl (k 0, 4, .inl (aN MN))), (ad 5, .inl (k 0, 32, .inl (aN LT))), (ad 6, .inl (k 0, 4, .inl (aN FI))), (ad 8, .inl (k 0, 32, .inl (aN FL))), (ad 7, .inl (k 0, 4, .inl (aN LA))), (ad 9, .inl (k 2, 4, .inl (aN EM))), (ad 22, .inl (k 0, 66049, .inl (aN FD))), (ad 23, .inl (k 0, 66049, .inl (aM FR))), (ad 24, .inl (k 0, 66049, .inl (aN BY))), (ad 25, .inl (k 2, 66049, .inl (aN KN)))] H locs := hW
          subst hr9
          show W p l e ({ frames := 1, cells := 0, slots := 0, locals := 26 } : Room) s m [.ref md, .int (nI a), .int (nI b), .int (nI wh)].toArray below meth c H locs 0 0 Q (F0 m 106 ls [.int (nI (mtl LA EM b Y))])
          have ma1 : mtl LA EM a X ≤ 1 := by unfold mtl; split; (exact hema); (exact bT1 _)
          have mb1 : mtl LA EM b Y ≤ 1 := by unfold mtl; split; (exact hemb); (exact bT1 _)
          generalize mtl LA EM a X = one at ma1 hp hl ⊢
          generalize mtl LA EM b Y = two at mb1 hp hl ⊢
          refine lv_istore (lv' := [(9, .int (nI two)), (8, .int (nI one)), (7, .int (nI Y)), (6, .int (nI X)), (5, .int (nI t)), (4, .int (nI n)), (3, .int (nI wh)), (2, .int (nI b)), (1, .int (nI a)), (0, .ref md)]) hX.1 hX.2.1 d_Md_seek_106 hl (by decide) rfl (fun ls hl => ?_)
          have k146 : bad wh one two = true → W p l e ({ frames := 1, cells := 0, slots := 0, locals := 26 } : Room) s m [.ref md, .int (nI a), .int (nI b), .int (nI wh)].toArray below meth c H locs 0 0 Q (F0 m 146 ls []) := by
            intro hbd
            rw [if_pos hbd] at hp
            refine lv_iload hX.1 hX.2.1 d_Md_seek_146 (lv_at hl 4 rfl) ?_
            subst hp
            exact kiret hX hr hlocks hQ () (hW) ((nM_s _).symm) d_Md_seek_148
          have k149 : bad wh one two = false → W p l e ({ frames := 1, cells := 0, slots := 0, locals := 26 } : Room) s m [.ref md, .int (nI a), .int (nI b), .int (nI wh)].toArray below meth c H locs 0 0 Q (F0 m 149 ls []) := by
            intro hbd
            rw [if_neg (by rw [hbd]; simp)] at hp
            have ih0 := ih
            have gok := mi_ok (sa := fun c => mstep MN LT FI FL a X c) (sb := fun c => mstep MN LT FI FL b Y c) (q := (n, FD, FR, BY, KN)) (fun c => ⟨mstep_lt hmna, mstep_lt hmnb⟩) hA1 hI
            refine lv_iconst (v := nI 0) hX.1 hX.2.1 d_Md_seek_149 (by decide) ?_
            refine lv_istore (lv' := [(10, .int (nI 0)), (9, .int (nI two)), (8, .int (nI one)), (7, .int (nI Y)), (6, .int (nI X)), (5, .int (nI t)), (4, .int (nI n)), (3, .int (nI wh)), (2, .int (nI b)), (1, .int (nI a)), (0, .ref md)]) hX.1 hX.2.1 d_Md_seek_150 hl (by decide) rfl (fun ls hl => ?_)
            have lq : ∀ (fu : Nat) (ch : Nat) (q2 : QM) (H : Heap) (locs : List Loc) (ls : Array Slot), (ch ≤ 4) → (4 < ch + fu) → (mi (fun c => mstep MN LT FI FL a X c) (fun c => mstep MN LT FI FL b Y c) t (n, FD, FR, BY, KN) ch = q2) →  KW D k A s [(md, .inr (8, [.int (nI th), .int (nI tp), .ref (ad 2), .int (nM pl), .ref (ad 4), .ref (ad 5), .ref (ad 6), .ref (ad 7), .ref (ad 8), .ref (ad 9), .int (nI si), .ref (ad 11), .int (nI at1), .int (nM wr), .int (nI dp), .int (nI pa), .ref (ad 16), .ref (ad 17), .ref (ad 18), .int (nI le), .ref (ad 20), .ref (ad 21), .ref (ad 22), .ref (ad 23), .ref (ad 24), .ref (ad 25), .ref (ad 26), .ref (ad 27), .ref (ad 28), .ref (ad 29), .ref (ad 30)])), (ad 4, .inl (k 0, 4, .inl (aN MN))), (ad 5, .inl (k 0, 32, .inl (aN LT))), (ad 6, .inl (k 0, 4, .inl (aN FI))), (ad 8, .inl (k 0, 32, .inl (aN FL))), (ad 7, .inl (k 0, 4, .inl (aN LA))), (ad 9, .inl (k 2, 4, .inl (aN EM))), (ad 22, .inl (k 0, 66049, .inl (aN q2.2.1))), (ad 23, .inl (k 0, 66049, .inl (aM q2.2.2.1))), (ad 24, .inl (k 0, 66049, .inl (aN q2.2.2.2.1))), (ad 25, .inl (k 2, 66049, .inl (aN q2.2.2.2.2)))] H locs → lv_has ls 12 [(10, .int (nI ch)), (4, .int (nI q2.1)), (9, .int (nI two)), (8, .int (nI one)), (7, .int (nI Y)), (6, .int (nI X)), (5, .int (nI t)), (3, .int (nI wh)), (2, .int (nI b)), (1, .int (nI a)), (0, .ref md)] → W p l e ({ frames := 1, cells := 0, slots := 0, locals := 26 } : Room) s m [.ref md, .int (nI a), .int (nI b), .int (nI wh)].toArray below meth c H locs 0 0 Q (F0 m 152 ls []) := by
              intro fu
              induction fu with
              | zero => intro ch q2 H locs ls lq1 lq2 hg hW hl; exfalso; omega
              | succ fu ih =>
                intro ch q2 H locs ls lq1 lq2 hg hW hl
                have hI2 := (gok ch lq1).1
                rw [hg] at hI2
                have hn2 := (gok ch lq1).2
                rw [hg] at hn2
                obtain ⟨n2, FD2, FR2, BY2, KN2⟩ := q2
                have hW : KW D k A s [(md, .inr (8, [.int (nI th), .int (nI tp), .ref (ad 2), .int (nM pl), .ref (ad 4), .ref (ad 5), .ref (ad 6), .ref (ad 7), .ref (ad 8), .ref (ad 9), .int (nI si), .ref (ad 11), .int (nI at1), .int (nM wr), .int (nI dp), .int (nI pa), .ref (ad 16), .ref (ad 17), .ref (ad 18), .int (nI le), .ref (ad 20), .ref (ad 21), .ref (ad 22), .ref (ad 23), .ref (ad 24), .ref (ad 25), .ref (ad 26), .ref (ad 27), .ref (ad 28), .ref (ad 29), .ref (ad 30)])), (ad 4, .inl (k 0, 4, .inl (aN MN))), (ad 5, .inl (k 0, 32, .inl (aN LT))), (ad 6, .inl (k 0, 4, .inl (aN FI))), (ad 8, .inl (k 0, 32, .inl (aN FL))), (ad 7, .inl (k 0, 4, .inl (aN LA))), (ad 9, .inl (k 2, 4, .inl (aN EM))), (ad 22, .inl (k 0, 66049, .inl (aN FD2))), (ad 23, .inl (k 0, 66049, .inl (aM FR2))), (ad 24, .inl (k 0, 66049, .inl (aN BY2))), (ad 25, .inl (k 2, 66049, .inl (aN KN2)))] H locs := hW
                have hl : lv_has ls 12 [(10, .int (nI ch)), (4, .int (nI n2)), (9, .int (nI two)), (8, .int (nI one)), (7, .int (nI Y)), (6, .int (nI X)), (5, .int (nI t)), (3, .int (nI wh)), (2, .int (nI b)), (1, .int (nI a)), (0, .ref md)] := hl
                have hn2 : n ≤ n2 := hn2
                obtain ⟨⟨q1, q2b⟩, q3, q4, q5⟩ := id hI2
                refine lv_iload hX.1 hX.2.1 d_Md_seek_152 (lv_at hl 0 rfl) ?_
                refine lv_iconst (v := nI 4) hX.1 hX.2.1 d_Md_seek_154 (by decide) ?_
                refine kge hX (tgt := 240) (by omega) (by omega) d_Md_seek_155 (by decide) (fun hB1 => ?_) (fun hB1 => ?_)
                · have e4 : ch = 4 := by omega
                  subst e4
                  rw [hg] at hp
                  refine lv_iinc (v := nI (t + 1)) (lv' := [(5, .int (nI (t + 1))), (10, .int (nI 4)), (4, .int (nI n2)), (9, .int (nI two)), (8, .int (nI one)), (7, .int (nI Y)), (6, .int (nI X)), (3, .int (nI wh)), (2, .int (nI b)), (1, .int (nI a)), (0, .ref md)]) hX.1 hX.2.1 d_Md_seek_240 hl (k := 6) rfl (kn_inc _) (by decide) rfl (fun ls hl => ?_)
                  refine lv_goto (tgt := 57) hX.1 hX.2.1 d_Md_seek_243 (by decide) ?_
                  exact ih0 (t + 1) (n2, FD2, FR2, BY2, KN2) H locs ls (by omega) (by omega) hp hI2 hW (lv_sub hl [0, 2, 7, 8, 9, 10] rfl)
                · have s1 := mstep_lt (MN := MN) (LT := LT) (FI := FI) (FL := FL) (sl := a) (S := X) (ch := ch) hmna
                  have s2 := mstep_lt (MN := MN) (LT := LT) (FI := FI) (FL := FL) (sl := b) (S := Y) (ch := ch) hmnb
                  have hg2 : mi (fun c => mstep MN LT FI FL a X c) (fun c => mstep MN LT FI FL b Y c) t (n, FD, FR, BY, KN) (ch + 1) = mg (mstep MN LT FI FL a X ch * 257 + mstep MN LT FI FL b Y ch) t ch (n2, FD2, FR2, BY2, KN2) := by rw [mi, hg]
                  rw [mg] at hg2
                  refine lv_aload_n hX.1 hX.2.1 d_Md_seek_158 rfl (lv_at hl 10 rfl) ?_
                  refine lv_iload_n hX.1 hX.2.1 d_Md_seek_159 rfl (lv_at hl 9 rfl) ?_
                  refine lv_iload hX.1 hX.2.1 d_Md_seek_160 (lv_at hl 5 rfl) ?_
                  refine lv_iload hX.1 hX.2.1 d_Md_seek_162 (lv_at hl 0 rfl) ?_
                  refine kCi (wc := [(md, .inr (8, [.int (nI th), .int (nI tp), .ref (ad 2), .int (nM pl), .ref (ad 4), .ref (ad 5), .ref (ad 6), .ref (ad 7), .ref (ad 8), .ref (ad 9), .int (nI si), .ref (ad 11), .int (nI at1), .int (nM wr), .int (nI dp), .int (nI pa), .ref (ad 16), .ref (ad 17), .ref (ad 18), .int (nI le), .ref (ad 20), .ref (ad 21), .ref (ad 22), .ref (ad 23), .ref (ad 24), .ref (ad 25), .ref (ad 26), .ref (ad 27), .ref (ad 28), .ref (ad 29), .ref (ad 30)])), (ad 4, .inl (k 0, 4, .inl (aN MN))), (ad 5, .inl (k 0, 32, .inl (aN LT))), (ad 6, .inl (k 0, 4, .inl (aN FI))), (ad 8, .inl (k 0, 32, .inl (aN FL)))]) hW [0, 1, 2, 3, 4] (by rfl) (by intro _; rfl) (kRunV (n := 3) (As := [.int (nI a), .int (nI X), .int (nI ch)]) (rest := []) hX hml hW (ok_Md_step l D k H.size md ad th tp pl si at1 wr dp pa le MN LT FI FL a X ch ha hX2 (by omega) hmna hfia hfla hlta) m_Md_146 im_Md_step se_Md_step in_Md cd_Md_step [0, 1, 2, 3, 4] rfl rfl rfl rfl (by decide +kernel) ⟨rfl, rfl, Nat.le_of_ble_eq_true rfl, Nat.le_of_ble_eq_true rfl⟩ rfl hl.1 rfl (Nat.le_of_ble_eq_true rfl) d_Md_seek_164 ⟨by first | exact Nat.zero_le _ | decide | omega | (dsimp only; omega), by first | exact Nat.zero_le _ | decide | omega | (dsimp only; omega)⟩) (fun r u H locs hr9 hW => ?_)
                  have hW : KW D k A s [(md, .inr (8, [.int (nI th), .int (nI tp), .ref (ad 2), .int (nM pl), .ref (ad 4), .ref (ad 5), .ref (ad 6), .ref (ad 7), .ref (ad 8), .ref (ad 9), .int (nI si), .ref (ad 11), .int (nI at1), .int (nM wr), .int (nI dp), .int (nI pa), .ref (ad 16), .ref (ad 17), .ref (ad 18), .int (nI le), .ref (ad 20), .ref (ad 21), .ref (ad 22), .ref (ad 23), .ref (ad 24), .ref (ad 25), .ref (ad 26), .ref (ad 27), .ref (ad 28), .ref (ad 29), .ref (ad 30)])), (ad 4, .inl (k 0, 4, .inl (aN MN))), (ad 5, .inl (k 0, 32, .inl (aN LT))), (ad 6, .inl (k 0, 4, .inl (aN FI))), (ad 8, .inl (k 0, 32, .inl (aN FL))), (ad 7, .inl (k 0, 4, .inl (aN LA))), (ad 9, .inl (k 2, 4, .inl (aN EM))), (ad 22, .inl (k 0, 66049, .inl (aN FD2))), (ad 23, .inl (k 0, 66049, .inl (aM FR2))), (ad 24, .inl (k 0, 66049, .inl (aN BY2))), (ad 25, .inl (k 2, 66049, .inl (aN KN2)))] H locs := hW
                  subst hr9
                  refine lv_sipush (v := nI 257) hX.1 hX.2.1 d_Md_seek_167 (by decide) ?_
                  refine lv_imul hX.1 hX.2.1 d_Md_seek_170 ?_
                  refine tpi (y := nI (mstep MN LT FI FL a X ch * 257)) (pk_mul _ _) ?_
                  refine lv_aload_n hX.1 hX.2.1 d_Md_seek_171 rfl (lv_at hl 10 rfl) ?_
                  refine lv_iload_n hX.1 hX.2.1 d_Md_seek_172 rfl (lv_at hl 8 rfl) ?_
                  refine lv_iload hX.1 hX.2.1 d_Md_seek_173 (lv_at hl 4 rfl) ?_
                  refine lv_iload hX.1 hX.2.1 d_Md_seek_175 (lv_at hl 0 rfl) ?_
                  refine kCi (wc := [(md, .inr (8, [.int (nI th), .int (nI tp), .ref (ad 2), .int (nM pl), .ref (ad 4), .ref (ad 5), .ref (ad 6), .ref (ad 7), .ref (ad 8), .ref (ad 9), .int (nI si), .ref (ad 11), .int (nI at1), .int (nM wr), .int (nI dp), .int (nI pa), .ref (ad 16), .ref (ad 17), .ref (ad 18), .int (nI le), .ref (ad 20), .ref (ad 21), .ref (ad 22), .ref (ad 23), .ref (ad 24), .ref (ad 25), .ref (ad 26), .ref (ad 27), .ref (ad 28), .ref (ad 29), .ref (ad 30)])), (ad 4, .inl (k 0, 4, .inl (aN MN))), (ad 5, .inl (k 0, 32, .inl (aN LT))), (ad 6, .inl (k 0, 4, .inl (aN FI))), (ad 8, .inl (k 0, 32, .inl (aN FL)))]) hW [0, 1, 2, 3, 4] (by rfl) (by intro _; rfl) (kRunV (n := 3) (As := [.int (nI b), .int (nI Y), .int (nI ch)]) (rest := [.int (nI (mstep MN LT FI FL a X ch * 257))]) hX hml hW (ok_Md_step l D k H.size md ad th tp pl si at1 wr dp pa le MN LT FI FL b Y ch hb hY2 (by omega) hmnb hfib hflb hltb) m_Md_146 im_Md_step se_Md_step in_Md cd_Md_step [0, 1, 2, 3, 4] rfl rfl rfl rfl (by decide +kernel) ⟨rfl, rfl, Nat.le_of_ble_eq_true rfl, Nat.le_of_ble_eq_true rfl⟩ rfl hl.1 rfl (Nat.le_of_ble_eq_true rfl) d_Md_seek_177 ⟨by first | exact Nat.zero_le _ | decide | omega | (dsimp only; omega), by first | exact Nat.zero_le _ | decide | omega | (dsimp only; omega)⟩) (fun r u H locs hr9 hW => ?_)
                  have hW : KW D k A s [(md, .inr (8, [.int (nI th), .int (nI tp), .ref (ad 2), .int (nM pl), .ref (ad 4), .ref (ad 5), .ref (ad 6), .ref (ad 7), .ref (ad 8), .ref (ad 9), .int (nI si), .ref (ad 11), .int (nI at1), .int (nM wr), .int (nI dp), .int (nI pa), .ref (ad 16), .ref (ad 17), .ref (ad 18), .int (nI le), .ref (ad 20), .ref (ad 21), .ref (ad 22), .ref (ad 23), .ref (ad 24), .ref (ad 25), .ref (ad 26), .ref (ad 27), .ref (ad 28), .ref (ad 29), .ref (ad 30)])), (ad 4, .inl (k 0, 4, .inl (aN MN))), (ad 5, .inl (k 0, 32, .inl (aN LT))), (ad 6, .inl (k 0, 4, .inl (aN FI))), (ad 8, .inl (k 0, 32, .inl (aN FL))), (ad 7, .inl (k 0, 4, .inl (aN LA))), (ad 9, .inl (k 2, 4, .inl (aN EM))), (ad 22, .inl (k 0, 66049, .inl (aN FD2))), (ad 23, .inl (k 0, 66049, .inl (aM FR2))), (ad 24, .inl (k 0, 66049, .inl (aN BY2))), (ad 25, .inl (k 2, 66049, .inl (aN KN2)))] H locs := hW
                  subst hr9
                  refine lv_iadd hX.1 hX.2.1 d_Md_seek_180 ?_
                  refine tpi (y := nI (mstep MN LT FI FL a X ch * 257 + mstep MN LT FI FL b Y ch)) (nI_add _ _) ?_
                  generalize hnx : mstep MN LT FI FL a X ch * 257 + mstep MN LT FI FL b Y ch = nx at hg2 ⊢
                  have hnx2 : nx < 66049 := by omega
                  have hkx := q5 nx hnx2
                  refine lv_istore (lv' := [(11, .int (nI nx)), (10, .int (nI ch)), (4, .int (nI n2)), (9, .int (nI two)), (8, .int (nI one)), (7, .int (nI Y)), (6, .int (nI X)), (5, .int (nI t)), (3, .int (nI wh)), (2, .int (nI b)), (1, .int (nI a)), (0, .ref md)]) hX.1 hX.2.1 d_Md_seek_181 hl (by decide) rfl (fun ls hl => ?_)
                  refine lv_aload_n hX.1 hX.2.1 d_Md_seek_183 rfl (lv_at hl 11 rfl) ?_
                  refine kget hX hW i_Md 0 rfl rfl 25 (by decide) f_Md_64 rfl rfl d_Md_seek_184 ?_
                  refine lv_iload hX.1 hX.2.1 d_Md_seek_187 (lv_at hl 0 rfl) ?_
                  refine kzald hX hW 10 rfl (by omega) (by first | decide | omega) d_Md_seek_189 ?_
                  refine kz hX (tgt := 196) (by omega) d_Md_seek_190 (by decide) (fun hB2 => ?_) (fun hB2 => ?_)
                  · rw [if_pos hB2] at hg2
                    have hnn := MQ9_new hI2 hnx2 hB2
                    refine lv_aload_n hX.1 hX.2.1 d_Md_seek_196 rfl (lv_at hl 11 rfl) ?_
                    refine kget hX hW i_Md 0 rfl rfl 25 (by decide) f_Md_64 rfl rfl d_Md_seek_197 ?_
                    refine lv_iload hX.1 hX.2.1 d_Md_seek_200 (lv_at hl 0 rfl) ?_
                    refine lv_iconst (v := nI 1) hX.1 hX.2.1 d_Md_seek_202 (by decide) ?_
                    refine kzast hX hW 10 rfl (by omega) (by first | decide | omega) (by decide) d_Md_seek_203 (fun H locs hW => ?_)
                    have hW : KW D k A s [(md, .inr (8, [.int (nI th), .int (nI tp), .ref (ad 2), .int (nM pl), .ref (ad 4), .ref (ad 5), .ref (ad 6), .ref (ad 7), .ref (ad 8), .ref (ad 9), .int (nI si), .ref (ad 11), .int (nI at1), .int (nM wr), .int (nI dp), .int (nI pa), .ref (ad 16), .ref (ad 17), .ref (ad 18), .int (nI le), .ref (ad 20), .ref (ad 21), .ref (ad 22), .ref (ad 23), .ref (ad 24), .ref (ad 25), .ref (ad 26), .ref (ad 27), .ref (ad 28), .ref (ad 29), .ref (ad 30)])), (ad 4, .inl (k 0, 4, .inl (aN MN))), (ad 5, .inl (k 0, 32, .inl (aN LT))), (ad 6, .inl (k 0, 4, .inl (aN FI))), (ad 8, .inl (k 0, 32, .inl (aN FL))), (ad 7, .inl (k 0, 4, .inl (aN LA))), (ad 9, .inl (k 2, 4, .inl (aN EM))), (ad 22, .inl (k 0, 66049, .inl (aN FD2))), (ad 23, .inl (k 0, 66049, .inl (aM FR2))), (ad 24, .inl (k 0, 66049, .inl (aN BY2))), (ad 25, .inl (k 2, 66049, .inl (aN (va_up KN2 nx 1))))] H locs := hW
                    refine lv_aload_n hX.1 hX.2.1 d_Md_seek_204 rfl (lv_at hl 11 rfl) ?_
                    refine kget hX hW i_Md 0 rfl rfl 22 (by decide) f_Md_55 rfl rfl d_Md_seek_205 ?_
                    refine lv_iload hX.1 hX.2.1 d_Md_seek_208 (lv_at hl 2 rfl) ?_
                    refine lv_iload hX.1 hX.2.1 d_Md_seek_210 (lv_at hl 0 rfl) ?_
                    refine kiast hX hW 7 rfl (by omega) (by first | decide | omega) d_Md_seek_212 (fun H locs hW => ?_)
                    have hW : KW D k A s [(md, .inr (8, [.int (nI th), .int (nI tp), .ref (ad 2), .int (nM pl), .ref (ad 4), .ref (ad 5), .ref (ad 6), .ref (ad 7), .ref (ad 8), .ref (ad 9), .int (nI si), .ref (ad 11), .int (nI at1), .int (nM wr), .int (nI dp), .int (nI pa), .ref (ad 16), .ref (ad 17), .ref (ad 18), .int (nI le), .ref (ad 20), .ref (ad 21), .ref (ad 22), .ref (ad 23), .ref (ad 24), .ref (ad 25), .ref (ad 26), .ref (ad 27), .ref (ad 28), .ref (ad 29), .ref (ad 30)])), (ad 4, .inl (k 0, 4, .inl (aN MN))), (ad 5, .inl (k 0, 32, .inl (aN LT))), (ad 6, .inl (k 0, 4, .inl (aN FI))), (ad 8, .inl (k 0, 32, .inl (aN FL))), (ad 7, .inl (k 0, 4, .inl (aN LA))), (ad 9, .inl (k 2, 4, .inl (aN EM))), (ad 22, .inl (k 0, 66049, .inl (aN (va_up FD2 n2 nx)))), (ad 23, .inl (k 0, 66049, .inl (aM FR2))), (ad 24, .inl (k 0, 66049, .inl (aN BY2))), (ad 25, .inl (k 2, 66049, .inl (aN (va_up KN2 nx 1))))] H locs := hW
                    refine lv_aload_n hX.1 hX.2.1 d_Md_seek_213 rfl (lv_at hl 11 rfl) ?_
                    refine kget hX hW i_Md 0 rfl rfl 23 (by decide) f_Md_58 rfl rfl d_Md_seek_214 ?_
                    refine lv_iload hX.1 hX.2.1 d_Md_seek_217 (lv_at hl 2 rfl) ?_
                    refine lv_iload hX.1 hX.2.1 d_Md_seek_219 (lv_at hl 7 rfl) ?_
                    refine kriast hX hW 8 rfl (by omega) (by first | decide | omega) d_Md_seek_221 (fun H locs hW => ?_)
                    have hW : KW D k A s [(md, .inr (8, [.int (nI th), .int (nI tp), .ref (ad 2), .int (nM pl), .ref (ad 4), .ref (ad 5), .ref (ad 6), .ref (ad 7), .ref (ad 8), .ref (ad 9), .int (nI si), .ref (ad 11), .int (nI at1), .int (nM wr), .int (nI dp), .int (nI pa), .ref (ad 16), .ref (ad 17), .ref (ad 18), .int (nI le), .ref (ad 20), .ref (ad 21), .ref (ad 22), .ref (ad 23), .ref (ad 24), .ref (ad 25), .ref (ad 26), .ref (ad 27), .ref (ad 28), .ref (ad 29), .ref (ad 30)])), (ad 4, .inl (k 0, 4, .inl (aN MN))), (ad 5, .inl (k 0, 32, .inl (aN LT))), (ad 6, .inl (k 0, 4, .inl (aN FI))), (ad 8, .inl (k 0, 32, .inl (aN FL))), (ad 7, .inl (k 0, 4, .inl (aN LA))), (ad 9, .inl (k 2, 4, .inl (aN EM))), (ad 22, .inl (k 0, 66049, .inl (aN (va_up FD2 n2 nx)))), (ad 23, .inl (k 0, 66049, .inl (upd (aM FR2) n2 (nI t)))), (ad 24, .inl (k 0, 66049, .inl (aN BY2))), (ad 25, .inl (k 2, 66049, .inl (aN (va_up KN2 nx 1))))] H locs := hW
                    rw [aM_upI] at hW
                    refine lv_aload_n hX.1 hX.2.1 d_Md_seek_222 rfl (lv_at hl 11 rfl) ?_
                    refine kget hX hW i_Md 0 rfl rfl 24 (by decide) f_Md_61 rfl rfl d_Md_seek_223 ?_
                    refine lv_iload hX.1 hX.2.1 d_Md_seek_226 (lv_at hl 2 rfl) ?_
                    refine lv_iload hX.1 hX.2.1 d_Md_seek_228 (lv_at hl 1 rfl) ?_
                    refine kiast hX hW 9 rfl (by omega) (by first | decide | omega) d_Md_seek_230 (fun H locs hW => ?_)
                    have hW : KW D k A s [(md, .inr (8, [.int (nI th), .int (nI tp), .ref (ad 2), .int (nM pl), .ref (ad 4), .ref (ad 5), .ref (ad 6), .ref (ad 7), .ref (ad 8), .ref (ad 9), .int (nI si), .ref (ad 11), .int (nI at1), .int (nM wr), .int (nI dp), .int (nI pa), .ref (ad 16), .ref (ad 17), .ref (ad 18), .int (nI le), .ref (ad 20), .ref (ad 21), .ref (ad 22), .ref (ad 23), .ref (ad 24), .ref (ad 25), .ref (ad 26), .ref (ad 27), .ref (ad 28), .ref (ad 29), .ref (ad 30)])), (ad 4, .inl (k 0, 4, .inl (aN MN))), (ad 5, .inl (k 0, 32, .inl (aN LT))), (ad 6, .inl (k 0, 4, .inl (aN FI))), (ad 8, .inl (k 0, 32, .inl (aN FL))), (ad 7, .inl (k 0, 4, .inl (aN LA))), (ad 9, .inl (k 2, 4, .inl (aN EM))), (ad 22, .inl (k 0, 66049, .inl (aN (va_up FD2 n2 nx)))), (ad 23, .inl (k 0, 66049, .inl (aM (va_up FR2 n2 (t + 1))))), (ad 24, .inl (k 0, 66049, .inl (aN (va_up BY2 n2 ch)))), (ad 25, .inl (k 2, 66049, .inl (aN (va_up KN2 nx 1))))] H locs := hW
                    refine lv_iinc (v := nI (n2 + 1)) (lv' := [(4, .int (nI (n2 + 1))), (11, .int (nI nx)), (10, .int (nI ch)), (9, .int (nI two)), (8, .int (nI one)), (7, .int (nI Y)), (6, .int (nI X)), (5, .int (nI t)), (3, .int (nI wh)), (2, .int (nI b)), (1, .int (nI a)), (0, .ref md)]) hX.1 hX.2.1 d_Md_seek_231 hl (k := 2) rfl (kn_inc _) (by decide) rfl (fun ls hl => ?_)
                    refine lv_iinc (v := nI (ch + 1)) (lv' := [(10, .int (nI (ch + 1))), (4, .int (nI (n2 + 1))), (11, .int (nI nx)), (9, .int (nI two)), (8, .int (nI one)), (7, .int (nI Y)), (6, .int (nI X)), (5, .int (nI t)), (3, .int (nI wh)), (2, .int (nI b)), (1, .int (nI a)), (0, .ref md)]) hX.1 hX.2.1 d_Md_seek_234 hl (k := 2) rfl (kn_inc _) (by decide) rfl (fun ls hl => ?_)
                    refine lv_goto (tgt := 152) hX.1 hX.2.1 d_Md_seek_237 (by decide) ?_
                    exact ih (ch + 1) _ H locs ls (by omega) (by omega) hg2 hW (lv_sub hl [0, 1, 3, 4, 5, 6, 7, 8, 9, 10, 11] rfl)
                  · rw [if_neg hB2] at hg2
                    refine lv_goto (tgt := 234) hX.1 hX.2.1 d_Md_seek_193 (by decide) ?_
                    refine lv_iinc (v := nI (ch + 1)) (lv' := [(10, .int (nI (ch + 1))), (11, .int (nI nx)), (4, .int (nI n2)), (9, .int (nI two)), (8, .int (nI one)), (7, .int (nI Y)), (6, .int (nI X)), (5, .int (nI t)), (3, .int (nI wh)), (2, .int (nI b)), (1, .int (nI a)), (0, .ref md)]) hX.1 hX.2.1 d_Md_seek_234 hl (k := 1) rfl (kn_inc _) (by decide) rfl (fun ls hl => ?_)
                    refine lv_goto (tgt := 152) hX.1 hX.2.1 d_Md_seek_237 (by decide) ?_
                    exact ih (ch + 1) _ H locs ls (by omega) (by omega) hg2 hW (lv_sub hl [0, 2, 3, 4, 5, 6, 7, 8, 9, 10, 11] rfl)
            exact lq 5 0 (n, FD, FR, BY, KN) H locs ls (by omega) (by omega) rfl hW (lv_sub hl [0, 6, 1, 2, 3, 4, 5, 7, 8, 9, 10] rfl)
          refine lv_iload_n hX.1 hX.2.1 d_Md_seek_108 rfl (lv_at hl 6 rfl) ?_
          refine lv_iconst (v := nI 1) hX.1 hX.2.1 d_Md_seek_109 (by decide) ?_
          refine kne hX (tgt := 123) (by omega) (by omega) d_Md_seek_110 (by decide) (fun hC1 => ?_) (fun hC1 => ?_)
          · refine lv_iload_n hX.1 hX.2.1 d_Md_seek_123 rfl (lv_at hl 6 rfl) ?_
            refine lv_iconst (v := nI 2) hX.1 hX.2.1 d_Md_seek_124 (by decide) ?_
            refine kne hX (tgt := 141) (by omega) (by omega) d_Md_seek_125 (by decide) (fun hC2 => ?_) (fun hC2 => ?_)
            · refine lv_iload hX.1 hX.2.1 d_Md_seek_141 (lv_at hl 1 rfl) ?_
              refine kz hX (tgt := 149) (by omega) d_Md_seek_143 (by decide) (fun hC3 => ?_) (fun hC3 => ?_)
              · exact k149 (by unfold bad; rw [if_neg hC1, if_neg hC2]; simp [hC3])
              · exact k146 (by unfold bad; rw [if_neg hC1, if_neg hC2]; simp [hC3])
            · refine lv_iload hX.1 hX.2.1 d_Md_seek_128 (lv_at hl 0 rfl) ?_
              refine kz hX (tgt := 149) (by omega) d_Md_seek_130 (by decide) (fun hC3 => ?_) (fun hC3 => ?_)
              · exact k149 (by unfold bad; rw [if_neg hC1, if_pos hC2]; simp [hC3])
              · refine lv_iload hX.1 hX.2.1 d_Md_seek_133 (lv_at hl 1 rfl) ?_
                refine knz hX (tgt := 149) (by omega) d_Md_seek_135 (by decide) (fun hC4 => ?_) (fun hC4 => ?_)
                · exact k149 (by unfold bad; rw [if_neg hC1, if_pos hC2]; simp [hC4])
                · refine lv_goto (tgt := 146) hX.1 hX.2.1 d_Md_seek_138 (by decide) ?_
                  exact k146 (by unfold bad; rw [if_neg hC1, if_pos hC2]; simp [hC3, hC4])
          · refine lv_iload hX.1 hX.2.1 d_Md_seek_113 (lv_at hl 1 rfl) ?_
            refine lv_iload hX.1 hX.2.1 d_Md_seek_115 (lv_at hl 0 rfl) ?_
            refine keq hX (tgt := 149) (by omega) (by omega) d_Md_seek_117 (by decide) (fun hC3 => ?_) (fun hC3 => ?_)
            · exact k149 (by unfold bad; rw [if_pos hC1]; simp [hC3])
            · refine lv_goto (tgt := 146) hX.1 hX.2.1 d_Md_seek_120 (by decide) ?_
              exact k146 (by unfold bad; rw [if_pos hC1]; simp [hC3])
    exact lp 66050 0 (mq0 FD FR BY) H locs ls (by omega) (by omega) ho hm0 hW (lv_sub hl [0, 1, 2, 3, 4, 5] rfl)
  refine lv_iconst (v := nI 0) hX.1 hX.2.1 d_Md_seek_0 (by decide) ?_
  refine lv_istore (lv' := [(4, .int (nI 0)), (0, .ref md), (1, .int (nI a)), (2, .int (nI b)), (3, .int (nI wh))]) hX.1 hX.2.1 d_Md_seek_1 hl (by decide) rfl (fun ls hl => ?_)
  rw [← fil_0 KN 0] at hW
  have lc : ∀ (fu : Nat) (i : Nat) (H : Heap) (locs : List Loc) (ls : Array Slot), (i ≤ 66049) → (66049 < i + fu) →  KW D k A s [(md, .inr (8, [.int (nI th), .int (nI tp), .ref (ad 2), .int (nM pl), .ref (ad 4), .ref (ad 5), .ref (ad 6), .ref (ad 7), .ref (ad 8), .ref (ad 9), .int (nI si), .ref (ad 11), .int (nI at1), .int (nM wr), .int (nI dp), .int (nI pa), .ref (ad 16), .ref (ad 17), .ref (ad 18), .int (nI le), .ref (ad 20), .ref (ad 21), .ref (ad 22), .ref (ad 23), .ref (ad 24), .ref (ad 25), .ref (ad 26), .ref (ad 27), .ref (ad 28), .ref (ad 29), .ref (ad 30)])), (ad 4, .inl (k 0, 4, .inl (aN MN))), (ad 5, .inl (k 0, 32, .inl (aN LT))), (ad 6, .inl (k 0, 4, .inl (aN FI))), (ad 8, .inl (k 0, 32, .inl (aN FL))), (ad 7, .inl (k 0, 4, .inl (aN LA))), (ad 9, .inl (k 2, 4, .inl (aN EM))), (ad 22, .inl (k 0, 66049, .inl (aN FD))), (ad 23, .inl (k 0, 66049, .inl (aM FR))), (ad 24, .inl (k 0, 66049, .inl (aN BY))), (ad 25, .inl (k 2, 66049, .inl (aN (fil KN 0 i))))] H locs → lv_has ls 12 [(4, .int (nI i)), (3, .int (nI wh)), (2, .int (nI b)), (1, .int (nI a)), (0, .ref md)] → W p l e ({ frames := 1, cells := 0, slots := 0, locals := 26 } : Room) s m [.ref md, .int (nI a), .int (nI b), .int (nI wh)].toArray below meth c H locs 0 0 Q (F0 m 3 ls []) := by
    intro fu
    induction fu with
    | zero => intro i H locs ls lc1 lc2 hW hl; exfalso; omega
    | succ fu ih =>
      intro i H locs ls lc1 lc2 hW hl
      refine lv_iload hX.1 hX.2.1 d_Md_seek_3 (lv_at hl 0 rfl) ?_
      refine lv_ldc hX.1 hX.2.1 hX.2.2.1 (hX.2.2.2 _ co_Md_54) d_Md_seek_5 ?_
      refine tpi (y := nI 66049) (by decide +kernel) ?_
      refine kge hX (tgt := 24) (by omega) (by omega) d_Md_seek_7 (by decide) (fun hA1 => ?_) (fun hA1 => ?_)
      · have e1 : i = 66049 := by omega
        subst e1
        have hW := kcong (f' := aN (fun _ => 0)) hW 10 rfl (fun j hj => by simp [aN, fil, hj])
        have hW : KW D k A s [(md, .inr (8, [.int (nI th), .int (nI tp), .ref (ad 2), .int (nM pl), .ref (ad 4), .ref (ad 5), .ref (ad 6), .ref (ad 7), .ref (ad 8), .ref (ad 9), .int (nI si), .ref (ad 11), .int (nI at1), .int (nM wr), .int (nI dp), .int (nI pa), .ref (ad 16), .ref (ad 17), .ref (ad 18), .int (nI le), .ref (ad 20), .ref (ad 21), .ref (ad 22), .ref (ad 23), .ref (ad 24), .ref (ad 25), .ref (ad 26), .ref (ad 27), .ref (ad 28), .ref (ad 29), .ref (ad 30)])), (ad 4, .inl (k 0, 4, .inl (aN MN))), (ad 5, .inl (k 0, 32, .inl (aN LT))), (ad 6, .inl (k 0, 4, .inl (aN FI))), (ad 8, .inl (k 0, 32, .inl (aN FL))), (ad 7, .inl (k 0, 4, .inl (aN LA))), (ad 9, .inl (k 2, 4, .inl (aN EM))), (ad 22, .inl (k 0, 66049, .inl (aN FD))), (ad 23, .inl (k 0, 66049, .inl (aM FR))), (ad 24, .inl (k 0, 66049, .inl (aN BY))), (ad 25, .inl (k 2, 66049, .inl (aN (fun _ => 0))))] H locs := hW
        exact k24 _ H locs ls hW hl
      · refine lv_aload_n hX.1 hX.2.1 d_Md_seek_10 rfl (lv_at hl 4 rfl) ?_
        refine kget hX hW i_Md 0 rfl rfl 25 (by decide) f_Md_64 rfl rfl d_Md_seek_11 ?_
        refine lv_iload hX.1 hX.2.1 d_Md_seek_14 (lv_at hl 0 rfl) ?_
        refine lv_iconst (v := nI 0) hX.1 hX.2.1 d_Md_seek_16 (by decide) ?_
        refine kzast hX hW 10 rfl (by omega) (by first | decide | omega) (by decide) d_Md_seek_17 (fun H locs hW => ?_)
        have hW : KW D k A s [(md, .inr (8, [.int (nI th), .int (nI tp), .ref (ad 2), .int (nM pl), .ref (ad 4), .ref (ad 5), .ref (ad 6), .ref (ad 7), .ref (ad 8), .ref (ad 9), .int (nI si), .ref (ad 11), .int (nI at1), .int (nM wr), .int (nI dp), .int (nI pa), .ref (ad 16), .ref (ad 17), .ref (ad 18), .int (nI le), .ref (ad 20), .ref (ad 21), .ref (ad 22), .ref (ad 23), .ref (ad 24), .ref (ad 25), .ref (ad 26), .ref (ad 27), .ref (ad 28), .ref (ad 29), .ref (ad 30)])), (ad 4, .inl (k 0, 4, .inl (aN MN))), (ad 5, .inl (k 0, 32, .inl (aN LT))), (ad 6, .inl (k 0, 4, .inl (aN FI))), (ad 8, .inl (k 0, 32, .inl (aN FL))), (ad 7, .inl (k 0, 4, .inl (aN LA))), (ad 9, .inl (k 2, 4, .inl (aN EM))), (ad 22, .inl (k 0, 66049, .inl (aN FD))), (ad 23, .inl (k 0, 66049, .inl (aM FR))), (ad 24, .inl (k 0, 66049, .inl (aN BY))), (ad 25, .inl (k 2, 66049, .inl (aN (va_up (fil KN 0 i) i 0))))] H locs := hW
        rw [fil_n] at hW
        refine lv_iinc (v := nI (i + 1)) (lv' := [(4, .int (nI (i + 1))), (3, .int (nI wh)), (2, .int (nI b)), (1, .int (nI a)), (0, .ref md)]) hX.1 hX.2.1 d_Md_seek_18 hl (k := 0) rfl (kn_inc _) (by decide) rfl (fun ls hl => ?_)
        refine lv_goto (tgt := 3) hX.1 hX.2.1 d_Md_seek_21 (by decide) ?_
        exact ih (i + 1) H locs ls (by omega) (by omega) hW (lv_sub hl [0, 1, 2, 3, 4] rfl)
  exact lc 66050 0 H locs ls (by omega) (by omega) hW (lv_sub hl [0, 4, 3, 2, 1] rfl)
