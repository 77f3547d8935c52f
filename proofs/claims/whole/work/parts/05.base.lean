/-! BASE: arrays of natural numbers, the bundled world KW, one row an instruction over it, contracts in one form -/
def aN (F : Nat → Nat) : Nat → Int32 := fun j => nI (F j)
def aL (F : Nat → Nat) : Nat → Int64 := fun j => lN (F j)
theorem aN_at {F : Nat → Nat} {i : Nat} (h : i < 2 ^ 31) : aN F (nI i).toNatClampNeg = nI (F i) := by rw [nI_clamp h]; rfl
theorem aL_at {F : Nat → Nat} {i : Nat} (h : i < 2 ^ 31) : aL F (nI i).toNatClampNeg = lN (F i) := by rw [nI_clamp h]; rfl
theorem aN_up (F : Nat → Nat) (k v : Nat) : upd (aN F) k (nI v) = aN (va_up F k v) := by
  funext j
  by_cases h : j = k
  · subst h; rw [pk_us]; show _ = nI _; rw [va_up_self]
  · rw [pk_un h]; show nI _ = nI _; rw [va_up_ne _ _ h]
theorem aL_up (F : Nat → Nat) (k v : Nat) : vp_updL (aL F) k (lN v) = aL (va_up F k v) := by
  funext j
  by_cases h : j = k
  · subst h; rw [pk_uLs]; show _ = lN _; rw [va_up_self]
  · rw [pk_uLn h]; show lN _ = lN _; rw [va_up_ne _ _ h]
theorem kn_inc (i : Nat) : nI i + Int32.ofInt 1 = nI (i + 1) := nI_1 i
theorem kn_or (a b : Nat) : nI a ||| nI b = nI (a ||| b) := by
  apply Int32.toBitVec_inj.mp
  show BitVec.ofNat 32 a ||| BitVec.ofNat 32 b = BitVec.ofNat 32 (a ||| b)
  simp
theorem kn_and (a b : Nat) : nI a &&& nI b = nI (a &&& b) := by
  apply Int32.toBitVec_inj.mp
  show BitVec.ofNat 32 a &&& BitVec.ofNat 32 b = BitVec.ofNat 32 (a &&& b)
  simp
theorem kn_c (n : Nat) : nI n = Int32.ofNat n := rfl
/-- one bit of a set: (x >> p & 1) -/
theorem kn_bit {a k : Nat} (ha : a < 2 ^ 31) (hk : k < 32) : nI a >>> (nI k &&& 31) &&& nI 1 = nI (if a.testBit k then 1 else 0) := by
  have h1 : nI k &&& 31 = nI k := by
    have := pk_andN (n := k) (by omega) (m := 31) 5 (by decide)
    rw [this]; congr 1; omega
  have h2 : ((nI k &&& 31).toBitVec.smod 32).toNat = k := by
    have : ∀ k : Fin 32, ((nI k.val &&& 31).toBitVec.smod 32).toNat = k.val := by decide +kernel
    exact this ⟨k, hk⟩
  rw [pk_shrN ha _ k h2, kn_and]
  congr 1
  rw [Nat.and_one_is_mod, Nat.testBit_eq_decide_div_mod_eq]
  rcases Nat.mod_two_eq_zero_or_one (a / 2 ^ k) with h | h <;> simp [h]
theorem kn_shl1 {k : Nat} (hk : k < 31) : nI 1 <<< (nI k &&& 31) = nI (2 ^ k) := by
  have h2 : ((nI k &&& 31).toBitVec.smod 32).toNat = k := by
    have : ∀ k : Fin 32, ((nI k.val &&& 31).toBitVec.smod 32).toNat = k.val := by decide +kernel
    exact this ⟨k, by omega⟩
  have h3 : 1 * 2 ^ k < 2 ^ 32 := by
    have : 2 ^ k < 2 ^ 32 := Nat.pow_lt_pow_right (by omega) (by omega)
    omega
  rw [pk_shlN _ k h2 h3, Nat.one_mul]
abbrev tyA (k : Nat → ClassId) : List (ClassId × FieldType) := [(k 0, .int), (k 1, .long), (k 2, .boolean), (k 3, .object "WordSets$Expression"), (k 4, .object "WordSets$Part")]
/-- what stands fast in a method's body -/
def FX (p : Program) (s : State) (m : MethodId) (c : Code) (args : Array Value) (cc : ByteArray) (own : String) : Prop := p.tables.exec = Jvm.exec ∧ c.code = cc ∧ s.vm.findClass own = some m.cls ∧ ∀ w ∈ wsU, w.before args s = true
/-- the world: the cells, apart, in A; nothing else has changed since s; the classes are known -/
def KW (D : va_G) (k : Nat → ClassId) (A : Nat → Prop) (s : State) (ws : va_W) (H : Heap) (locs : List Loc) : Prop := va_P D vwCl ws H ∧ va_D A ws ∧ va_S A s.heap H locs ∧ va_K D vwCl (tyA k) s ∧ ∀ q : Nat, s.heap.size ≤ q → A q
theorem KW.sub {D : va_G} {k : Nat → ClassId} {A : Nat → Prop} {s : State} {ws ws' : va_W} {H : Heap} {locs : List Loc} (h : KW D k A s ws H locs) (is : List Nat) (hn : va_nd is = true) (hs : is.map (fun i => ws[i]?) = ws'.map some) : KW D k A s ws' H locs := by
  obtain ⟨h1, h2, h3, h4, h5⟩ := h
  refine ⟨h1.sub is ?_, h2.sub is hn hs, h3, h4, h5⟩
  rw [show (is.filterMap fun i => ws[i]?) = (is.map (fun i => ws[i]?)).filterMap id from by rw [List.filterMap_map]; rfl, hs, List.filterMap_map]
  simp
section KB
variable {p : Program} {l : Launch} {e : Env} {R : Room} {s : State} {m : MethodId} {args : Array Value} {below : List Frame} {meth : Method} {c : Code} {H : Heap} {locs : List Loc} {cells slots : Nat} {Q : State → Prop}
variable {cc : ByteArray} {pc : Nat} {ls : Array Slot} {rest : List Value} {own : String} {D : va_G} {k : Nat → ClassId} {A : Nat → Prop} {ws : va_W}
theorem tpi {x y : Int32} (h : x = y) (kk : W p l e R s m args below meth c H locs cells slots Q (F0 m pc ls (.int y :: rest))) : W p l e R s m args below meth c H locs cells slots Q (F0 m pc ls (.int x :: rest)) := by rw [h]; exact kk
theorem tpl {x y : Int64} (h : x = y) (kk : W p l e R s m args below meth c H locs cells slots Q (F0 m pc ls (.long y :: rest))) : W p l e R s m args below meth c H locs cells slots Q (F0 m pc ls (.long x :: rest)) := by rw [h]; exact kk
theorem kget (hX : FX p s m c args cc own) (hW : KW D k A s ws H locs) {C : String} {T : u_T} {N ci index : Nat} {ref : String} (hin : ∀ w ∈ u_ws C T N, w ∈ wsU) (q0 : Nat) {a : Nat} {fs : List Value} (he : ws[q0]? = some (a, .inr (ci, fs))) (hc : vwCl[ci]? = some (C, T, N)) (j : Nat) (hj : j < N) (hl : Cond.fieldLink own index ref (T j).2.1 (T j).2.2.1 ∈ wsU) (hs : (T j).1 = ref) {v : Value} (hv : fs[j]? = some v) (hdg : decode cc pc = .ok (.getfield index, 3))
    (kk : W p l e R s m args below meth c H locs cells slots Q (F0 m (pc + 3) ls (v :: rest))) : W p l e R s m args below meth c H locs cells slots Q (F0 m pc ls (.ref a :: rest)) := by
  obtain ⟨hx, hb, hown, hts⟩ := hX
  obtain ⟨hP, hD, hS, hK, hA⟩ := hW
  exact va_get hx hb hts hin hown hK hP q0 he hc j hj (hts _ hl) (fun x9 h9 => by rw [← hs]; exact h9) hv hdg kk
theorem kput (hX : FX p s m c args cc own) (hW : KW D k A s ws H locs) {C : String} {T : u_T} {N ci index : Nat} {ref : String} (hin : ∀ w ∈ u_ws C T N, w ∈ wsU) (ty0 : Nat → FieldType) (hty : ∀ k, k < N → parseFieldDescriptor (T k).2.2.1 = some (ty0 k)) (hnm : ∀ a, a < N → ∀ b, b < N → a ≠ b → (T a).2.1 ≠ (T b).2.1) (q0 : Nat) {a : Nat} {fs : List Value} (he : ws[q0]? = some (a, .inr (ci, fs))) (hc : vwCl[ci]? = some (C, T, N)) (j : Nat) (hj : j < N) (hl : Cond.fieldLink own index ref (T j).2.1 (T j).2.2.1 ∈ wsU) (hs : (T j).1 = ref) (hfin : (T j).2.2.2 = false) {v : Value} (hn : narrow (ty0 j) v = v) (hfit : fits (ty0 j) v = true) (hlen : j < fs.length) (hdg : decode cc pc = .ok (.putfield index, 3))
    (kk : ∀ (H1 : Heap) (locs1 : List Loc), KW D k A s (ws.set q0 (a, .inr (ci, fs.set j v))) H1 locs1 → W p l e R s m args below meth c H1 locs1 cells slots Q (F0 m (pc + 3) ls rest)) : W p l e R s m args below meth c H locs cells slots Q (F0 m pc ls (v :: .ref a :: rest)) := by
  obtain ⟨hx, hb, hown, hts⟩ := hX
  obtain ⟨hP, hD, hS, hK, hA⟩ := hW
  exact va_put hx hb hts hin ty0 hty hnm hown hK hP hD hS q0 he hc j hj (hts _ hl) (fun x9 h9 => by rw [← hs]; exact h9) hfin (hty j hj) hn hfit hlen hdg (fun H1 locs1 a1 a2 a3 => kk H1 locs1 ⟨a1, a2, a3, hK, hA⟩)
theorem kputF (hX : FX p s m c args cc own) (hW : KW D k A s ws H locs) (hin2 : meth.name = "<init>") {C : String} {T : u_T} {N ci index : Nat} {ref : String} (hin : ∀ w ∈ u_ws C T N, w ∈ wsU) (ty0 : Nat → FieldType) (hty : ∀ k, k < N → parseFieldDescriptor (T k).2.2.1 = some (ty0 k)) (hnm : ∀ a, a < N → ∀ b, b < N → a ≠ b → (T a).2.1 ≠ (T b).2.1) (q0 : Nat) {a : Nat} {fs : List Value} (he : ws[q0]? = some (a, .inr (ci, fs))) (hc : vwCl[ci]? = some (C, T, N)) (j : Nat) (hj : j < N) (hl : Cond.fieldLink own index ref (T j).2.1 (T j).2.2.1 ∈ wsU) (hs : (T j).1 = ref) (hfin : (T j).2.2.2 = true) (hdecl : (T j).1 = own) {v : Value} (hn : narrow (ty0 j) v = v) (hfit : fits (ty0 j) v = true) (hlen : j < fs.length) (hdg : decode cc pc = .ok (.putfield index, 3))
    (kk : ∀ (H1 : Heap) (locs1 : List Loc), KW D k A s (ws.set q0 (a, .inr (ci, fs.set j v))) H1 locs1 → W p l e R s m args below meth c H1 locs1 cells slots Q (F0 m (pc + 3) ls rest)) : W p l e R s m args below meth c H locs cells slots Q (F0 m pc ls (v :: .ref a :: rest)) := by
  obtain ⟨hx, hb, hown, hts⟩ := hX
  obtain ⟨hP, hD, hS, hK, hA⟩ := hW
  exact va_putF hx hb hts hin ty0 hty hnm hown hK hP hD hS q0 he hc j hj (hts _ hl) (fun x9 h9 => by rw [← hs]; exact h9) hfin hin2 hdecl (hty j hj) hn hfit hlen hdg (fun H1 locs1 a1 a2 a3 => kk H1 locs1 ⟨a1, a2, a3, hK, hA⟩)
theorem kiald (hX : FX p s m c args cc own) (hW : KW D k A s ws H locs) (q0 : Nat) {a n i : Nat} {F : Nat → Nat} (he : ws[q0]? = some (a, .inl (k 0, n, .inl (aN F)))) (hi : i < n) (hn : n < 2 ^ 31) (hdg : decode cc pc = .ok (.iaload, 1))
    (kk : W p l e R s m args below meth c H locs cells slots Q (F0 m (pc + 1) ls (.int (nI (F i)) :: rest))) : W p l e R s m args below meth c H locs cells slots Q (F0 m pc ls (.int (nI i) :: .ref a :: rest)) :=
  va_iald hX.1 hX.2.1 hW.2.2.2.1 hW.1 q0 0 he rfl (vp_in_nI hi hn) hdg (tpi (aN_at (by omega)) kk)
theorem kiast (hX : FX p s m c args cc own) (hW : KW D k A s ws H locs) (q0 : Nat) {a n i v : Nat} {F : Nat → Nat} (he : ws[q0]? = some (a, .inl (k 0, n, .inl (aN F)))) (hi : i < n) (hn : n < 2 ^ 31) (hdg : decode cc pc = .ok (.iastore, 1))
    (kk : ∀ (H1 : Heap) (locs1 : List Loc), KW D k A s (ws.set q0 (a, .inl (k 0, n, .inl (aN (va_up F i v))))) H1 locs1 → W p l e R s m args below meth c H1 locs1 cells slots Q (F0 m (pc + 1) ls rest)) : W p l e R s m args below meth c H locs cells slots Q (F0 m pc ls (.int (nI v) :: .int (nI i) :: .ref a :: rest)) := by
  obtain ⟨hP, hD, hS, hK, hA⟩ := hW
  refine va_iast hX.1 hX.2.1 hK hP hD hS q0 0 he rfl (vp_in_nI hi hn) hdg (fun H1 locs1 a1 a2 a3 => kk H1 locs1 ?_)
  rw [nI_clamp (by omega), aN_up] at a1 a2
  exact ⟨a1, a2, a3, hK, hA⟩
theorem klald (hX : FX p s m c args cc own) (hW : KW D k A s ws H locs) (q0 : Nat) {a n i : Nat} {F : Nat → Nat} (he : ws[q0]? = some (a, .inl (k 1, n, .inr (.inl (aL F))))) (hi : i < n) (hn : n < 2 ^ 31) (hdg : decode cc pc = .ok (.laload, 1))
    (kk : W p l e R s m args below meth c H locs cells slots Q (F0 m (pc + 1) ls (.long (lN (F i)) :: rest))) : W p l e R s m args below meth c H locs cells slots Q (F0 m pc ls (.int (nI i) :: .ref a :: rest)) :=
  va_lald hX.1 hX.2.1 hW.2.2.2.1 hW.1 q0 1 he rfl (vp_in_nI hi hn) hdg (tpl (aL_at (by omega)) kk)
theorem klast (hX : FX p s m c args cc own) (hW : KW D k A s ws H locs) (q0 : Nat) {a n i v : Nat} {F : Nat → Nat} (he : ws[q0]? = some (a, .inl (k 1, n, .inr (.inl (aL F))))) (hi : i < n) (hn : n < 2 ^ 31) (hdg : decode cc pc = .ok (.lastore, 1))
    (kk : ∀ (H1 : Heap) (locs1 : List Loc), KW D k A s (ws.set q0 (a, .inl (k 1, n, .inr (.inl (aL (va_up F i v)))))) H1 locs1 → W p l e R s m args below meth c H1 locs1 cells slots Q (F0 m (pc + 1) ls rest)) : W p l e R s m args below meth c H locs cells slots Q (F0 m pc ls (.long (lN v) :: .int (nI i) :: .ref a :: rest)) := by
  obtain ⟨hP, hD, hS, hK, hA⟩ := hW
  refine va_last hX.1 hX.2.1 hK hP hD hS q0 1 he rfl (vp_in_nI hi hn) hdg (fun H1 locs1 a1 a2 a3 => kk H1 locs1 ?_)
  rw [nI_clamp (by omega), aL_up] at a1 a2
  exact ⟨a1, a2, a3, hK, hA⟩
theorem kge (hX : FX p s m c args cc own) {a b : Nat} {off : Int} {tgt : Nat} (ha : a < 2 ^ 31) (hb2 : b < 2 ^ 31) (hdg : decode cc pc = .ok (.if_icmp .ge off, 3)) (ht : (pc : Int) + off = (tgt : Int))
    (kt : b ≤ a → W p l e R s m args below meth c H locs cells slots Q (F0 m tgt ls rest)) (kf : a < b → W p l e R s m args below meth c H locs cells slots Q (F0 m (pc + 3) ls rest)) : W p l e R s m args below meth c H locs cells slots Q (F0 m pc ls (.int (nI b) :: .int (nI a) :: rest)) :=
  lv_icmp_ge hX.1 hX.2.1 hdg ht (fun h => kt ((nI_leI hb2 ha).mp h)) (fun h => kf (Nat.lt_of_not_le fun q => h ((nI_leI hb2 ha).mpr q)))
theorem kgt (hX : FX p s m c args cc own) {a b : Nat} {off : Int} {tgt : Nat} (ha : a < 2 ^ 31) (hb2 : b < 2 ^ 31) (hdg : decode cc pc = .ok (.if_icmp .gt off, 3)) (ht : (pc : Int) + off = (tgt : Int))
    (kt : b < a → W p l e R s m args below meth c H locs cells slots Q (F0 m tgt ls rest)) (kf : a ≤ b → W p l e R s m args below meth c H locs cells slots Q (F0 m (pc + 3) ls rest)) : W p l e R s m args below meth c H locs cells slots Q (F0 m pc ls (.int (nI b) :: .int (nI a) :: rest)) :=
  lv_icmp_gt hX.1 hX.2.1 hdg ht (fun h => kt ((nI_ltI hb2 ha).mp h)) (fun h => kf (Nat.le_of_not_lt fun q => h ((nI_ltI hb2 ha).mpr q)))
theorem klt (hX : FX p s m c args cc own) {a b : Nat} {off : Int} {tgt : Nat} (ha : a < 2 ^ 31) (hb2 : b < 2 ^ 31) (hdg : decode cc pc = .ok (.if_icmp .lt off, 3)) (ht : (pc : Int) + off = (tgt : Int))
    (kt : a < b → W p l e R s m args below meth c H locs cells slots Q (F0 m tgt ls rest)) (kf : b ≤ a → W p l e R s m args below meth c H locs cells slots Q (F0 m (pc + 3) ls rest)) : W p l e R s m args below meth c H locs cells slots Q (F0 m pc ls (.int (nI b) :: .int (nI a) :: rest)) :=
  lv_icmp_lt hX.1 hX.2.1 hdg ht (fun h => kt ((nI_ltI ha hb2).mp h)) (fun h => kf (Nat.le_of_not_lt fun q => h ((nI_ltI ha hb2).mpr q)))
theorem kle (hX : FX p s m c args cc own) {a b : Nat} {off : Int} {tgt : Nat} (ha : a < 2 ^ 31) (hb2 : b < 2 ^ 31) (hdg : decode cc pc = .ok (.if_icmp .le off, 3)) (ht : (pc : Int) + off = (tgt : Int))
    (kt : a ≤ b → W p l e R s m args below meth c H locs cells slots Q (F0 m tgt ls rest)) (kf : b < a → W p l e R s m args below meth c H locs cells slots Q (F0 m (pc + 3) ls rest)) : W p l e R s m args below meth c H locs cells slots Q (F0 m pc ls (.int (nI b) :: .int (nI a) :: rest)) :=
  lv_icmp_le hX.1 hX.2.1 hdg ht (fun h => kt ((nI_leI ha hb2).mp h)) (fun h => kf (Nat.lt_of_not_le fun q => h ((nI_leI ha hb2).mpr q)))
theorem keq (hX : FX p s m c args cc own) {a b : Nat} {off : Int} {tgt : Nat} (ha : a < 2 ^ 31) (hb2 : b < 2 ^ 31) (hdg : decode cc pc = .ok (.if_icmp .eq off, 3)) (ht : (pc : Int) + off = (tgt : Int))
    (kt : a = b → W p l e R s m args below meth c H locs cells slots Q (F0 m tgt ls rest)) (kf : a ≠ b → W p l e R s m args below meth c H locs cells slots Q (F0 m (pc + 3) ls rest)) : W p l e R s m args below meth c H locs cells slots Q (F0 m pc ls (.int (nI b) :: .int (nI a) :: rest)) :=
  lv_icmp_eq hX.1 hX.2.1 hdg ht (fun h => kt ((nI_eq ha hb2).mp h)) (fun h => kf (fun q => h ((nI_eq ha hb2).mpr q)))
theorem kne (hX : FX p s m c args cc own) {a b : Nat} {off : Int} {tgt : Nat} (ha : a < 2 ^ 31) (hb2 : b < 2 ^ 31) (hdg : decode cc pc = .ok (.if_icmp .ne off, 3)) (ht : (pc : Int) + off = (tgt : Int))
    (kt : a ≠ b → W p l e R s m args below meth c H locs cells slots Q (F0 m tgt ls rest)) (kf : a = b → W p l e R s m args below meth c H locs cells slots Q (F0 m (pc + 3) ls rest)) : W p l e R s m args below meth c H locs cells slots Q (F0 m pc ls (.int (nI b) :: .int (nI a) :: rest)) :=
  lv_icmp_ne hX.1 hX.2.1 hdg ht (fun h => kt (fun q => h ((nI_eq ha hb2).mpr q))) (fun h => kf ((nI_eq ha hb2).mp h))
theorem kz (hX : FX p s m c args cc own) {a : Nat} {off : Int} {tgt : Nat} (ha : a < 2 ^ 31) (hdg : decode cc pc = .ok (.ifCond .eq off, 3)) (ht : (pc : Int) + off = (tgt : Int))
    (kt : a = 0 → W p l e R s m args below meth c H locs cells slots Q (F0 m tgt ls rest)) (kf : a ≠ 0 → W p l e R s m args below meth c H locs cells slots Q (F0 m (pc + 3) ls rest)) : W p l e R s m args below meth c H locs cells slots Q (F0 m pc ls (.int (nI a) :: rest)) :=
  lv_if_eq hX.1 hX.2.1 hdg ht (fun h => kt ((nI_eq ha (by decide)).mp h)) (fun h => kf (fun q => h ((nI_eq ha (by decide)).mpr q)))
theorem knz (hX : FX p s m c args cc own) {a : Nat} {off : Int} {tgt : Nat} (ha : a < 2 ^ 31) (hdg : decode cc pc = .ok (.ifCond .ne off, 3)) (ht : (pc : Int) + off = (tgt : Int))
    (kt : a ≠ 0 → W p l e R s m args below meth c H locs cells slots Q (F0 m tgt ls rest)) (kf : a = 0 → W p l e R s m args below meth c H locs cells slots Q (F0 m (pc + 3) ls rest)) : W p l e R s m args below meth c H locs cells slots Q (F0 m pc ls (.int (nI a) :: rest)) :=
  lv_if_ne hX.1 hX.2.1 hdg ht (fun h => kt (fun q => h ((nI_eq ha (by decide)).mpr q))) (fun h => kf ((nI_eq ha (by decide)).mp h))
end KB
/-- a contract's start: the answer's place, the cells ws, the classes -/
def kPre (D : va_G) (k : Nat → ClassId) (av : List Value) (ws : va_W) (sz : Nat) : Array Value → State → Prop := va_Pc av (fun U => U.heap.size = sz ∧ va_P D vwCl ws U.heap ∧ va_K D vwCl (tyA k) U ∧ va_D (fun _ => True) ws)
def kB {S : Type} (D : va_G) (k : Nat → ClassId) (w1 : S → va_W) (A : Nat → Prop) : S → State → Prop := fun u t => va_P D vwCl (w1 u) t.heap ∧ va_K D vwCl (tyA k) t ∧ va_D A (w1 u)
theorem kPre_blind {D : va_G} {k : Nat → ClassId} {av : List Value} {ws : va_W} {sz : Nat} : FrameBlind (kPre D k av ws sz) := fun a U g mk q => by
  obtain ⟨q0, q1, qP, qK, qD⟩ := q
  exact ⟨q0, q1, qP, va_K.moved (u := U) (U := U.calling g mk a) (Vm.Alike.refl U.vm) qK, qD⟩
/-- a method's contract out of its walk -/
theorem kMet {l : Launch} {y : MethodName} {cc : ByteArray} {maxL : Nat} {ret : Option FieldType} {rm : Room} {D : va_G} {k : Nat → ClassId} {av : List Value} {ws : va_W} {sz : Nat} {Qc : Array Value → State → Outcome → State → Prop} {mc ms : Nat} (hy : plainName y.cls = true) (hle : (lg_sl av).length ≤ maxL)
    (body : ∀ (p : Program) (e : Env) (s : State) (m : MethodId) (below : List Frame) (meth : Method) (c : Code) (ls : Array Slot), FX p s m c av.toArray cc y.cls → c.maxLocals = maxL → meth.sig.returnType = ret → meth.locks = false → meth.name = y.name → s.heap.size = sz → KW D k (va_A ws sz) s ws s.heap [] → lv_has ls maxL (lv_args 0 av) → ∀ Q : State → Prop, (∀ t, MQ below Qc av.toArray s mc ms (va_A ws sz) t → Q t) →
      W p l e rm s m av.toArray below meth c s.heap [] 0 0 Q (F0 m 0 ls [])) : Met l y (.code y cc maxL ret :: wsU) rm (kPre D k av ws sz) Qc mc ms (va_A ws sz) := by
  refine Met.ofW (cc := cc) (maxL := maxL) (ret := ret) hy rfl ?_
  intro p e s m args below meth c s₁ B hml hv
  obtain ⟨rfl, hsz, hP, hK, hD0⟩ := hv
  have hts := atoms_spec (ws := .code y cc maxL ret :: wsU) B.pre
  rw [lg_entry_eq]
  exact body p e s m below meth c _ ⟨B.exec, B.bytes, findClass_of_methodNamed B.named, fun w h => hts w (List.mem_cons_of_mem _ h)⟩ hml B.returns B.notSynchronized (name_of_methodNamed B.named B.method).1 hsz ⟨hP, hD0.self, va_S.rf, hK, fun q h => Or.inr (by rw [← hsz]; exact h)⟩ (lv_entry av hle) _ (fun _ h => h)
theorem wmono {p : Program} {l : Launch} {e : Env} {R : Room} {s : State} {m : MethodId} {args : Array Value} {below : List Frame} {meth : Method} {c : Code} {H : Heap} {locs : List Loc} {cells slots : Nat} {Q Q' : State → Prop} {g : JFrame} (hQ : ∀ t, Q' t → Q t) (h : W p l e R s m args below meth c H locs cells slots Q' g) : W p l e R s m args below meth c H locs cells slots Q g := fun T hT X => by
  obtain ⟨t, a, b⟩ := h T hT X
  exact ⟨t, a, hQ t b⟩
section KR
variable {p : Program} {l : Launch} {e : Env} {R : Room} {s : State} {m : MethodId} {args : Array Value} {below : List Frame} {meth : Method} {c : Code} {H : Heap} {locs : List Loc} {cells slots : Nat} {Q : State → Prop}
variable {cc : ByteArray} {pc : Nat} {ls : Array Slot} {own : String} {D : va_G} {k : Nat → ClassId} {A : Nat → Prop} {ws : va_W} {S : Type} {w1 : S → va_W}
theorem kiret {post : Int32 → S → Prop} {v : Int32} (hX : FX p s m c args cc own) (hr : meth.sig.returnType = some .int) (hlocks : meth.locks = false) (hQ : ∀ t, MQ below (va_Qi post (kB D k w1 A) A) args s cells slots A t → Q t) (u : S) (hW : KW D k A s (w1 u) H locs) (hp : post v u) (hdg : decode cc pc = .ok (.ireturn, 1)) : W p l e R s m args below meth c H locs cells slots Q (F0 m pc ls [.int v]) :=
  wmono hQ (W.iret hX.1 hX.2.1 hr (fun t ht hV => ⟨⟨v, u, rfl, hp, by rw [ht]; exact hW.1, va_K.moved hV.alike hW.2.2.2.1, hW.2.1⟩, hW.2.2.1.F ht⟩) hW.2.2.1.2.2 hdg)
theorem kzret {post : Int32 → S → Prop} {v : Int32} (hX : FX p s m c args cc own) (hr : meth.sig.returnType = some .boolean) (hlocks : meth.locks = false) (hQ : ∀ t, MQ below (va_Qi post (kB D k w1 A) A) args s cells slots A t → Q t) (u : S) (hW : KW D k A s (w1 u) H locs) (hp : post v u) (hv : v = nI 0 ∨ v = nI 1) (hdg : decode cc pc = .ok (.ireturn, 1)) : W p l e R s m args below meth c H locs cells slots Q (F0 m pc ls [.int v]) :=
  wmono hQ (W.zret hX.1 hX.2.1 hr (by rcases hv with rfl | rfl <;> decide +kernel) (fun t ht hV => ⟨⟨v, u, rfl, hp, by rw [ht]; exact hW.1, va_K.moved hV.alike hW.2.2.2.1, hW.2.1⟩, hW.2.2.1.F ht⟩) hW.2.2.1.2.2 hdg)
theorem klret {post : Int64 → S → Prop} {v : Int64} (hX : FX p s m c args cc own) (hr : meth.sig.returnType = some .long) (hlocks : meth.locks = false) (hQ : ∀ t, MQ below (va_Ql post (kB D k w1 A) A) args s cells slots A t → Q t) (u : S) (hW : KW D k A s (w1 u) H locs) (hp : post v u) (hdg : decode cc pc = .ok (.lreturn, 1)) : W p l e R s m args below meth c H locs cells slots Q (F0 m pc ls [.long v]) :=
  wmono hQ (W.lret hX.1 hX.2.1 hr (fun t ht hV => ⟨⟨v, u, rfl, hp, by rw [ht]; exact hW.1, va_K.moved hV.alike hW.2.2.2.1, hW.2.1⟩, hW.2.2.1.F ht⟩) hW.2.2.1.2.2 hdg)
theorem kvret {post : S → Prop} (hX : FX p s m c args cc own) (hr : meth.sig.returnType = none) (hlocks : meth.locks = false) (hQ : ∀ t, MQ below (va_Qv post (kB D k w1 A) A) args s cells slots A t → Q t) (u : S) (hW : KW D k A s (w1 u) H locs) (hp : post u) (hdg : decode cc pc = .ok (.return_, 1)) : W p l e R s m args below meth c H locs cells slots Q (F0 m pc ls []) :=
  wmono hQ (W.vret hX.1 hX.2.1 hr (fun t ht hV => ⟨⟨u, rfl, hp, by rw [ht]; exact hW.1, va_K.moved hV.alike hW.2.2.2.1, hW.2.1⟩, hW.2.2.1.F ht⟩) hW.2.2.1.2.2 hdg)
end KR
