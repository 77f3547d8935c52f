/-! booleans as numbers, numbers from -1 on at a branch, bytes of a long -/
theorem bT (b : Bool) : b.toNat < 2 ^ 31 := by cases b <;> decide
theorem bT1 (b : Bool) : b.toNat ≤ 1 := by cases b <;> decide
theorem bT_n (b : Bool) : narrow .boolean (.int (nI b.toNat)) = .int (nI b.toNat) := by cases b <;> decide +kernel
theorem bT_f (b : Bool) : fits .boolean (.int (nI b.toNat)) = true := by cases b <;> decide +kernel
theorem bT_r (b : Bool) : nI b.toNat = nI 0 ∨ nI b.toNat = nI 1 := by cases b <;> simp
theorem bT_0 {b : Bool} (h : b.toNat = 0) : b = false := by cases b <;> simp at h ⊢
theorem bT_1 {b : Bool} (h : b.toNat ≠ 0) : b = true := by cases b <;> simp at h ⊢
/-- byte i of a long -/
def byt (x : Int64) (i : Nat) : Nat := x.toBitVec.toNat / 2 ^ (8 * i) % 256
theorem byt_lt (x : Int64) (i : Nat) : byt x i < 256 := Nat.mod_lt _ (by decide)
theorem i32_eq {a b : Int32} (h : a.toBitVec.toNat = b.toBitVec.toNat) : a = b := Int32.toBitVec_inj.mp (BitVec.eq_of_toNat_eq h)
theorem byt_255 (y : Int32) : y &&& nI 255 = nI (y.toBitVec.toNat % 256) := pk_and y (m := nI 255) 8 (by decide +kernel)
theorem byt_sh : ∀ i, i < 8 → ((nI (8 * i)).toInt64.toUInt64 &&& Int64.toUInt64 63).toNat = 8 * i := by decide +kernel
theorem byt_sm : ∀ i, i < 8 → (((nI (8 * i)).toInt64 &&& 63).toBitVec.smod 64).toNat = 8 * i := by decide +kernel
theorem l2i_nat (x : Int64) : x.toInt32.toBitVec.toNat = x.toBitVec.toNat % 2 ^ 32 := by
  show (x.toBitVec.signExtend 32).toNat = _
  rw [BitVec.signExtend_eq_setWidth_of_le _ (by decide)]
  simp
theorem byt_u {x : Int64} {i : Nat} (hi : i < 8) : (x.toUInt64 >>> ((nI (8 * i)).toInt64.toUInt64 &&& Int64.toUInt64 63)).toInt64.toInt32 &&& nI 255 = nI (byt x i) := by
  rw [byt_255, l2i_nat]
  congr 1
  have h1 : ((x.toUInt64 >>> ((nI (8 * i)).toInt64.toUInt64 &&& Int64.toUInt64 63)).toInt64).toBitVec.toNat = x.toBitVec.toNat / 2 ^ (8 * i) := by
    show (x.toUInt64 >>> ((nI (8 * i)).toInt64.toUInt64 &&& Int64.toUInt64 63)).toNat = _
    rw [UInt64.toNat_shiftRight, byt_sh i hi, Nat.shiftRight_eq_div_pow, Nat.mod_eq_of_lt (by omega)]
    rfl
  rw [h1]
  unfold byt
  omega
theorem byt_s {x : Int64} {i : Nat} (hi : i < 8) : (x >>> ((nI (8 * i)).toInt64 &&& 63)).toInt32 &&& nI 255 = nI (byt x i) := by
  rw [byt_255, l2i_nat]
  congr 1
  have h1 : (x >>> ((nI (8 * i)).toInt64 &&& 63)).toBitVec = x.toBitVec.sshiftRight (8 * i) := by
    rw [Int64.toBitVec_shiftRight, BitVec.sshiftRight', byt_sm i hi]
  rw [h1, Nat.mod_mod_of_dvd _ (by decide)]
  unfold byt
  apply Nat.eq_of_testBit_eq
  intro j
  rw [show (256 : Nat) = 2 ^ 8 from rfl, Nat.testBit_mod_two_pow, Nat.testBit_mod_two_pow]
  by_cases hj : j < 8
  · simp only [hj, decide_true, Bool.true_and]
    rw [← Nat.shiftRight_eq_div_pow, Nat.testBit_shiftRight]
    have := BitVec.getLsbD_sshiftRight x.toBitVec (8 * i) j
    rw [BitVec.getLsbD, BitVec.getLsbD] at this
    rw [this]
    have h3 : 8 * i + j < 64 := by omega
    have h4 : ¬ 64 ≤ j := by omega
    simp [h3, h4]
  · simp [hj]
section KB3
variable {p : Program} {l : Launch} {e : Env} {R : Room} {s : State} {m : MethodId} {args : Array Value} {below : List Frame} {meth : Method} {c : Code} {H : Heap} {locs : List Loc} {cells slots : Nat} {Q : State → Prop}
variable {cc : ByteArray} {pc : Nat} {ls : Array Slot} {rest : List Value} {own : String} {D : va_G} {k : Nat → ClassId} {A : Nat → Prop} {ws : va_W}
theorem kltM (hX : FX p s m c args cc own) {a : Nat} {off : Int} {tgt : Nat} (ha : a < 2 ^ 31) (hdg : decode cc pc = .ok (.ifCond .lt off, 3)) (ht : (pc : Int) + off = (tgt : Int))
    (kt : a = 0 → W p l e R s m args below meth c H locs cells slots Q (F0 m tgt ls rest)) (kf : 0 < a → W p l e R s m args below meth c H locs cells slots Q (F0 m (pc + 3) ls rest)) : W p l e R s m args below meth c H locs cells slots Q (F0 m pc ls (.int (nM a) :: rest)) :=
  lv_if_lt hX.1 hX.2.1 hdg ht (fun h => kt ((nM_neg ha).mp h)) (fun h => kf (Nat.pos_of_ne_zero fun q => h ((nM_neg ha).mpr q)))
theorem kgeM (hX : FX p s m c args cc own) {a : Nat} {off : Int} {tgt : Nat} (ha : a < 2 ^ 31) (hdg : decode cc pc = .ok (.ifCond .ge off, 3)) (ht : (pc : Int) + off = (tgt : Int))
    (kt : 0 < a → W p l e R s m args below meth c H locs cells slots Q (F0 m tgt ls rest)) (kf : a = 0 → W p l e R s m args below meth c H locs cells slots Q (F0 m (pc + 3) ls rest)) : W p l e R s m args below meth c H locs cells slots Q (F0 m pc ls (.int (nM a) :: rest)) :=
  lv_if_ge hX.1 hX.2.1 hdg ht (fun h => kt ((nM_ge ha).mp h)) (fun h => kf (Nat.eq_zero_of_not_pos fun q => h ((nM_ge ha).mpr q)))
theorem kltN (hX : FX p s m c args cc own) {a : Nat} {off : Int} {tgt : Nat} (ha : a < 2 ^ 31) (hdg : decode cc pc = .ok (.ifCond .lt off, 3)) (ht : (pc : Int) + off = (tgt : Int))
    (kf : W p l e R s m args below meth c H locs cells slots Q (F0 m (pc + 3) ls rest)) : W p l e R s m args below meth c H locs cells slots Q (F0 m pc ls (.int (nI a) :: rest)) :=
  lv_if_lt hX.1 hX.2.1 hdg ht (fun h => absurd h (nI_pos ha)) (fun _ => kf)
theorem kgeN (hX : FX p s m c args cc own) {a : Nat} {off : Int} {tgt : Nat} (ha : a < 2 ^ 31) (hdg : decode cc pc = .ok (.ifCond .ge off, 3)) (ht : (pc : Int) + off = (tgt : Int))
    (kt : W p l e R s m args below meth c H locs cells slots Q (F0 m tgt ls rest)) : W p l e R s m args below meth c H locs cells slots Q (F0 m pc ls (.int (nI a) :: rest)) :=
  lv_if_ge hX.1 hX.2.1 hdg ht (fun _ => kt) (fun h => absurd (nI_pos' ha) h)
theorem kgtN (hX : FX p s m c args cc own) {a : Nat} {off : Int} {tgt : Nat} (ha : a < 2 ^ 31) (hdg : decode cc pc = .ok (.ifCond .gt off, 3)) (ht : (pc : Int) + off = (tgt : Int))
    (kt : 0 < a → W p l e R s m args below meth c H locs cells slots Q (F0 m tgt ls rest)) (kf : a = 0 → W p l e R s m args below meth c H locs cells slots Q (F0 m (pc + 3) ls rest)) : W p l e R s m args below meth c H locs cells slots Q (F0 m pc ls (.int (nI a) :: rest)) :=
  lv_if_gt hX.1 hX.2.1 hdg ht (fun h => kt (Nat.pos_of_ne_zero fun q => by rw [q] at h; exact absurd h (by decide))) (fun h => kf (Nat.eq_zero_of_not_pos fun q => h (by have := nI_lt (a := 0) q ha; exact this)))
theorem kleN (hX : FX p s m c args cc own) {a : Nat} {off : Int} {tgt : Nat} (ha : a < 2 ^ 31) (hdg : decode cc pc = .ok (.ifCond .le off, 3)) (ht : (pc : Int) + off = (tgt : Int))
    (kt : a = 0 → W p l e R s m args below meth c H locs cells slots Q (F0 m tgt ls rest)) (kf : 0 < a → W p l e R s m args below meth c H locs cells slots Q (F0 m (pc + 3) ls rest)) : W p l e R s m args below meth c H locs cells slots Q (F0 m pc ls (.int (nI a) :: rest)) :=
  lv_if_le hX.1 hX.2.1 hdg ht (fun h => kt (Nat.eq_zero_of_not_pos fun q => absurd h (nI_nle q ha))) (fun h => kf (Nat.pos_of_ne_zero fun q => h (by rw [q]; decide)))
end KB3
