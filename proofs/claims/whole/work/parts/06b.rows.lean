/-! MORE ROWS over KW: raw int arrays, booleans, arrays of references, making cells, copying -/
/-- numbers from -1 on -/
def nM (n : Nat) : Int32 := nI n - 1
def aM (F : Nat → Nat) : Nat → Int32 := fun j => nM (F j)
theorem nM_s (n : Nat) : nM (n + 1) = nI n := nI_pred n
theorem nM_0 : nM 0 = -1 := by decide +kernel
theorem nM_neg {n : Nat} (h : n < 2 ^ 31) : nM n < 0 ↔ n = 0 := by
  cases n with
  | zero => simp [nM_0]
  | succ n => rw [nM_s]; exact ⟨fun q => absurd q (nI_pos (by omega)), fun q => by omega⟩
theorem nM_ge {n : Nat} (h : n < 2 ^ 31) : 0 ≤ nM n ↔ 0 < n := by
  cases n with
  | zero => simp [nM_0]
  | succ n => rw [nM_s]; exact ⟨fun _ => by omega, fun _ => nI_pos' (by omega)⟩
theorem upd_a {α : Type} {f g : Nat → α} (h : ∀ j, f j = g j) : f = g := funext h
theorem aM_up (F : Nat → Nat) (k v : Nat) : upd (aM F) k (nM v) = aM (va_up F k v) := by
  funext j
  by_cases h : j = k
  · subst h; rw [pk_us]; show _ = nM _; rw [va_up_self]
  · rw [pk_un h]; show nM _ = nM _; rw [va_up_ne _ _ h]
section KB2
variable {p : Program} {l : Launch} {e : Env} {R : Room} {s : State} {m : MethodId} {args : Array Value} {below : List Frame} {meth : Method} {c : Code} {H : Heap} {locs : List Loc} {cells slots : Nat} {Q : State → Prop}
variable {cc : ByteArray} {pc : Nat} {ls : Array Slot} {rest : List Value} {own : String} {D : va_G} {k : Nat → ClassId} {A : Nat → Prop} {ws : va_W}
theorem kriald (hX : FX p s m c args cc own) (hW : KW D k A s ws H locs) (q0 : Nat) {a n i : Nat} {f : Nat → Int32} (he : ws[q0]? = some (a, .inl (k 0, n, .inl f))) (hi : i < n) (hn : n < 2 ^ 31) (hdg : decode cc pc = .ok (.iaload, 1))
    (kk : W p l e R s m args below meth c H locs cells slots Q (F0 m (pc + 1) ls (.int (f i) :: rest))) : W p l e R s m args below meth c H locs cells slots Q (F0 m pc ls (.int (nI i) :: .ref a :: rest)) :=
  va_iald hX.1 hX.2.1 hW.2.2.2.1 hW.1 q0 0 he rfl (vp_in_nI hi hn) hdg (tpi (by rw [nI_clamp (by omega)]) kk)
theorem kriast (hX : FX p s m c args cc own) (hW : KW D k A s ws H locs) (q0 : Nat) {a n i : Nat} {x : Int32} {f : Nat → Int32} (he : ws[q0]? = some (a, .inl (k 0, n, .inl f))) (hi : i < n) (hn : n < 2 ^ 31) (hdg : decode cc pc = .ok (.iastore, 1))
    (kk : ∀ (H1 : Heap) (locs1 : List Loc), KW D k A s (ws.set q0 (a, .inl (k 0, n, .inl (upd f i x)))) H1 locs1 → W p l e R s m args below meth c H1 locs1 cells slots Q (F0 m (pc + 1) ls rest)) : W p l e R s m args below meth c H locs cells slots Q (F0 m pc ls (.int x :: .int (nI i) :: .ref a :: rest)) := by
  obtain ⟨hP, hD, hS, hK, hA⟩ := hW
  refine va_iast hX.1 hX.2.1 hK hP hD hS q0 0 he rfl (vp_in_nI hi hn) hdg (fun H1 locs1 a1 a2 a3 => kk H1 locs1 ?_)
  rw [nI_clamp (by omega)] at a1 a2
  exact ⟨a1, a2, a3, hK, hA⟩
theorem krlast (hX : FX p s m c args cc own) (hW : KW D k A s ws H locs) (q0 : Nat) {a n i : Nat} {x : Int64} {f : Nat → Int64} (he : ws[q0]? = some (a, .inl (k 1, n, .inr (.inl f)))) (hi : i < n) (hn : n < 2 ^ 31) (hdg : decode cc pc = .ok (.lastore, 1))
    (kk : ∀ (H1 : Heap) (locs1 : List Loc), KW D k A s (ws.set q0 (a, .inl (k 1, n, .inr (.inl (vp_updL f i x))))) H1 locs1 → W p l e R s m args below meth c H1 locs1 cells slots Q (F0 m (pc + 1) ls rest)) : W p l e R s m args below meth c H locs cells slots Q (F0 m pc ls (.long x :: .int (nI i) :: .ref a :: rest)) := by
  obtain ⟨hP, hD, hS, hK, hA⟩ := hW
  refine va_last hX.1 hX.2.1 hK hP hD hS q0 1 he rfl (vp_in_nI hi hn) hdg (fun H1 locs1 a1 a2 a3 => kk H1 locs1 ?_)
  rw [nI_clamp (by omega)] at a1 a2
  exact ⟨a1, a2, a3, hK, hA⟩
theorem kzald (hX : FX p s m c args cc own) (hW : KW D k A s ws H locs) (q0 : Nat) {a n i : Nat} {F : Nat → Nat} (he : ws[q0]? = some (a, .inl (k 2, n, .inl (aN F)))) (hi : i < n) (hn : n < 2 ^ 31) (hdg : decode cc pc = .ok (.baload, 1))
    (kk : W p l e R s m args below meth c H locs cells slots Q (F0 m (pc + 1) ls (.int (nI (F i)) :: rest))) : W p l e R s m args below meth c H locs cells slots Q (F0 m pc ls (.int (nI i) :: .ref a :: rest)) :=
  va_zald hX.1 hX.2.1 hW.2.2.2.1 hW.1 q0 2 he rfl (vp_in_nI hi hn) hdg (tpi (aN_at (by omega)) kk)
theorem kzast (hX : FX p s m c args cc own) (hW : KW D k A s ws H locs) (q0 : Nat) {a n i v : Nat} {F : Nat → Nat} (he : ws[q0]? = some (a, .inl (k 2, n, .inl (aN F)))) (hi : i < n) (hn : n < 2 ^ 31) (hv : v ≤ 1) (hdg : decode cc pc = .ok (.bastore, 1))
    (kk : ∀ (H1 : Heap) (locs1 : List Loc), KW D k A s (ws.set q0 (a, .inl (k 2, n, .inl (aN (va_up F i v))))) H1 locs1 → W p l e R s m args below meth c H1 locs1 cells slots Q (F0 m (pc + 1) ls rest)) : W p l e R s m args below meth c H locs cells slots Q (F0 m pc ls (.int (nI v) :: .int (nI i) :: .ref a :: rest)) := by
  obtain ⟨hP, hD, hS, hK, hA⟩ := hW
  refine va_zast hX.1 hX.2.1 hK hP hD hS q0 2 he rfl (vp_in_nI hi hn) hdg (fun H1 locs1 a1 a2 a3 => kk H1 locs1 ?_)
  have hb : vp_nar .boolean (nI v) = nI v := by
    rcases (show v = 0 ∨ v = 1 by omega) with rfl | rfl <;> decide +kernel
  rw [nI_clamp (by omega), hb, aN_up] at a1 a2
  exact ⟨a1, a2, a3, hK, hA⟩
theorem kaald (hX : FX p s m c args cc own) (hW : KW D k A s ws H locs) (q0 t0 : Nat) {a n i b : Nat} {C : String} {f : Nat → Option Nat} (he : ws[q0]? = some (a, .inl (k t0, n, .inr (.inr (.inr (.inr f)))))) (ht : (tyA k)[t0]? = some (k t0, .object C)) (hi : i < n) (hn : n < 2 ^ 31) (hf : f i = some b) (hdg : decode cc pc = .ok (.aaload, 1))
    (kk : W p l e R s m args below meth c H locs cells slots Q (F0 m (pc + 1) ls (.ref b :: rest))) : W p l e R s m args below meth c H locs cells slots Q (F0 m pc ls (.int (nI i) :: .ref a :: rest)) :=
  va_aldq hX.1 hX.2.1 hW.2.2.2.1 hW.1 q0 t0 he ht (vp_in_nI hi hn) hdg (by rw [nI_clamp (by omega), hf]; exact kk)
theorem kaast (hX : FX p s m c args cc own) (hW : KW D k A s ws H locs) (q0 t0 qk ci : Nat) {a n i v : Nat} {r : vw_C} {vs : List Value} {f : Nat → Option Nat} (he : ws[q0]? = some (a, .inl (k t0, n, .inr (.inr (.inr (.inr f)))))) (ht : (tyA k)[t0]? = some (k t0, .object r.1)) (hv : ws[qk]? = some (v, .inr (ci, vs))) (hc : vwCl[ci]? = some r) (hi : i < n) (hn : n < 2 ^ 31) (hdg : decode cc pc = .ok (.aastore, 1))
    (kk : ∀ (H1 : Heap) (locs1 : List Loc), KW D k A s (ws.set q0 (a, .inl (k t0, n, .inr (.inr (.inr (.inr (va_up f i (some v)))))))) H1 locs1 → W p l e R s m args below meth c H1 locs1 cells slots Q (F0 m (pc + 1) ls rest)) : W p l e R s m args below meth c H locs cells slots Q (F0 m pc ls (.ref v :: .int (nI i) :: .ref a :: rest)) := by
  obtain ⟨hP, hD, hS, hK, hA⟩ := hW
  refine va_astq hX.1 hX.2.1 hK hP hD hS q0 t0 qk ci he ht hv hc (vp_in_nI hi hn) hdg (fun H1 locs1 a1 a2 a3 => kk H1 locs1 ?_)
  rw [nI_clamp (by omega)] at a1 a2
  exact ⟨a1, a2, a3, hK, hA⟩
theorem kalen (hX : FX p s m c args cc own) (hW : KW D k A s ws H locs) (q0 t0 : Nat) {a n : Nat} {x : (Nat → Int32) ⊕ (Nat → Int64) ⊕ (Nat → UInt32) ⊕ (Nat → UInt64) ⊕ (Nat → Option Nat)} (he : ws[q0]? = some (a, .inl (k t0, n, x))) {ty : FieldType} (ht : (tyA k)[t0]? = some (k t0, ty)) (hdg : decode cc pc = .ok (.arraylength, 1))
    (kk : W p l e R s m args below meth c H locs cells slots Q (F0 m (pc + 1) ls (.int (nI n) :: rest))) : W p l e R s m args below meth c H locs cells slots Q (F0 m pc ls (.ref a :: rest)) :=
  va_alen hX.1 hX.2.1 hW.2.2.2.1 hW.1 q0 t0 he ht rfl hdg kk
theorem kobj (hX : FX p s m c args cc own) (hml : c.maxLocals = ls.size) {idx a : Nat} (h1 : Cond.methodLink own idx objectInit ∈ wsU) (hf : 1 ≤ R.frames) (hl : (rest.map fun v => v.category).sum + 12 ≤ R.locals) (hdg : decode cc pc = .ok (.invokespecial idx, 3))
    (kk : W p l e R s m args below meth c H locs cells slots Q (F0 m (pc + 3) ls rest)) : W p l e R s m args below meth c H locs cells slots Q (F0 m pc ls (.ref a :: rest)) := by
  obtain ⟨hx, hb, hown, hts⟩ := hX
  refine W.objInit hx hb hown (hts _ h1) (hts _ im_Object_init) (hts _ cd_Object_init) rfl hml.symm rfl hdg hf ?_ kk
  show 2 * 0 + _ + 12 ≤ _
  omega
theorem knewI (hX : FX p s m c args cc own) (hW : KW D k A s ws H locs) {n : Nat} (hn : n < 2 ^ 27) (hc : cells + 1 ≤ R.cells) (hs : slots + n ≤ R.slots) (hdg : decode cc pc = .ok (.newarray .int, 2))
    (kk : ∀ (q : Nat) (H1 : Heap), KW D k A s (ws ++ [(q, .inl (k 0, n, .inl (aN (fun _ => 0))))]) H1 locs → W p l e R s m args below meth c H1 locs (cells + 1) (slots + n) Q (F0 m (pc + 2) ls (.ref q :: rest))) : W p l e R s m args below meth c H locs cells slots Q (F0 m pc ls (.int (nI n) :: rest)) := by
  obtain ⟨hP, hD, hS, hK, hA⟩ := hW
  refine va_newa (a0 := (n, .inl (aN (fun _ => 0)))) (atype := .int) (ty := .int) hX.1 hX.2.1 (hX.2.2.2 _ ac_int) rfl hK hP hD hS hA (fun cA => rfl) (nI_pos (by omega)) (nI_clamp (by omega)) (by simp [componentBytes]; omega) hc hs hdg (fun q cA H1 b1 b2 b3 b4 => ?_)
  have e0 : s.vm.findClass ("[" ++ FieldType.int.toString) = some (k 0) := (hK.2 0 (k 0, .int) rfl).2
  have e1 : s.vm.findClass ("[" ++ FieldType.int.toString) = some cA := (b1.2 5 (cA, .int) rfl).2
  have e2 : cA = k 0 := Option.some.inj (e1.symm.trans e0)
  subst e2
  exact kk q H1 ⟨b2, b3, b4, hK, hA⟩
theorem knewJ (hX : FX p s m c args cc own) (hW : KW D k A s ws H locs) {n : Nat} (hn : n < 2 ^ 26) (hc : cells + 1 ≤ R.cells) (hs : slots + n ≤ R.slots) (hdg : decode cc pc = .ok (.newarray .long, 2))
    (kk : ∀ (q : Nat) (H1 : Heap), KW D k A s (ws ++ [(q, .inl (k 1, n, .inr (.inl (aL (fun _ => 0)))))]) H1 locs → W p l e R s m args below meth c H1 locs (cells + 1) (slots + n) Q (F0 m (pc + 2) ls (.ref q :: rest))) : W p l e R s m args below meth c H locs cells slots Q (F0 m pc ls (.int (nI n) :: rest)) := by
  obtain ⟨hP, hD, hS, hK, hA⟩ := hW
  refine va_newa (a0 := (n, .inr (.inl (aL (fun _ => 0))))) (atype := .long) (ty := .long) hX.1 hX.2.1 (hX.2.2.2 _ ac_long) rfl hK hP hD hS hA (fun cA => rfl) (nI_pos (by omega)) (nI_clamp (by omega)) (by simp [componentBytes]; omega) hc hs hdg (fun q cA H1 b1 b2 b3 b4 => ?_)
  have e0 : s.vm.findClass ("[" ++ FieldType.long.toString) = some (k 1) := (hK.2 1 (k 1, .long) rfl).2
  have e1 : s.vm.findClass ("[" ++ FieldType.long.toString) = some cA := (b1.2 5 (cA, .long) rfl).2
  have e2 : cA = k 1 := Option.some.inj (e1.symm.trans e0)
  subst e2
  exact kk q H1 ⟨b2, b3, b4, hK, hA⟩
theorem knewZ (hX : FX p s m c args cc own) (hW : KW D k A s ws H locs) {n : Nat} (hn : n < 2 ^ 27) (hc : cells + 1 ≤ R.cells) (hs : slots + n ≤ R.slots) (hdg : decode cc pc = .ok (.newarray .boolean, 2))
    (kk : ∀ (q : Nat) (H1 : Heap), KW D k A s (ws ++ [(q, .inl (k 2, n, .inl (aN (fun _ => 0))))]) H1 locs → W p l e R s m args below meth c H1 locs (cells + 1) (slots + n) Q (F0 m (pc + 2) ls (.ref q :: rest))) : W p l e R s m args below meth c H locs cells slots Q (F0 m pc ls (.int (nI n) :: rest)) := by
  obtain ⟨hP, hD, hS, hK, hA⟩ := hW
  refine va_newa (a0 := (n, .inl (aN (fun _ => 0)))) (atype := .boolean) (ty := .boolean) hX.1 hX.2.1 (hX.2.2.2 _ ac_boolean) rfl hK hP hD hS hA (fun cA => rfl) (nI_pos (by omega)) (nI_clamp (by omega)) (by simp [componentBytes]; omega) hc hs hdg (fun q cA H1 b1 b2 b3 b4 => ?_)
  have e0 : s.vm.findClass ("[" ++ FieldType.boolean.toString) = some (k 2) := (hK.2 2 (k 2, .boolean) rfl).2
  have e1 : s.vm.findClass ("[" ++ FieldType.boolean.toString) = some cA := (b1.2 5 (cA, .boolean) rfl).2
  have e2 : cA = k 2 := Option.some.inj (e1.symm.trans e0)
  subst e2
  exact kk q H1 ⟨b2, b3, b4, hK, hA⟩
theorem knew (hX : FX p s m c args cc own) (hW : KW D k A s ws H locs) {C : String} {T : u_T} {N ci index : Nat} (hin : ∀ w ∈ u_ws C T N, w ∈ wsU) (ty : Nat → FieldType) (hty : ∀ k, k < N → parseFieldDescriptor (T k).2.2.1 = some (ty k)) (h1 : Cond.classLink own index C ∈ wsU) (h2 : Cond.instantiable C N ∈ wsU) (h3 : Cond.initialized C ∈ wsU) (hcl : vwCl[ci]? = some (C, T, N)) {fs : List Value} (hfs : ∀ j, j < N → defaultValue (ty j) = vp_V fs j) (hc : cells + 1 ≤ R.cells) (hs : slots + N ≤ R.slots) (hdg : decode cc pc = .ok (.new index, 3))
    (kk : ∀ (q : Nat) (H1 : Heap), KW D k A s (ws ++ [(q, .inr (ci, fs))]) H1 locs → W p l e R s m args below meth c H1 locs (cells + 1) (slots + N) Q (F0 m (pc + 3) ls (.ref q :: rest))) : W p l e R s m args below meth c H locs cells slots Q (F0 m pc ls rest) := by
  obtain ⟨hx, hb, hown, hts⟩ := hX
  obtain ⟨hP, hD, hS, hK, hA⟩ := hW
  exact va_new hx hb hts hin ty hty hown (hts _ h1) (hts _ h2) (hts _ h3) hK hP hD hS hA hcl hfs hc hs hdg (fun q H1 b2 b3 b4 => kk q H1 ⟨b2, b3, b4, hK, hA⟩)
theorem kcopy (hX : FX p s m c args cc own) (hml : c.maxLocals = ls.size) (hW : KW D k A s ws H locs) {index : Nat} (h1 : Cond.methodLink own index arraycopyName ∈ wsU) (q0 q1 : Nat) {a0 a n0 n1 sp dp n : Nat} {f g : Nat → Int32} (he0 : ws[q0]? = some (a0, .inl (k 0, n0, .inl f))) (he1 : ws[q1]? = some (a, .inl (k 0, n1, .inl g))) (g1 : sp + n ≤ n0) (g2 : dp + n ≤ n1) (g3 : n0 < 2 ^ 31) (g4 : n1 < 2 ^ 31) (hf : 1 ≤ R.frames) (hlo : (rest.map fun v => v.category).sum + (nativeFrameWords "java/lang/System" "arraycopy" 5 + 11) ≤ R.locals) (hdg : decode cc pc = .ok (.invokestatic index, 3))
    (kk : ∀ (H1 : Heap) (locs1 : List Loc), KW D k A s (ws.set q1 (a, .inl (k 0, n1, .inl (va_cpy f g sp dp n)))) H1 locs1 → W p l e R s m args below meth c H1 locs1 cells slots Q (F0 m (pc + 3) ls rest)) : W p l e R s m args below meth c H locs cells slots Q (F0 m pc ls (.int (nI n) :: .int (nI dp) :: .ref a :: .int (nI sp) :: .ref a0 :: rest)) := by
  obtain ⟨hx, hb, hown, hts⟩ := hX
  obtain ⟨hP, hD, hS, hK, hA⟩ := hW
  have c1 : (nI sp).toNatClampNeg = sp := nI_clamp (by omega)
  have c2 : (nI dp).toNatClampNeg = dp := nI_clamp (by omega)
  have c3 : (nI n).toNatClampNeg = n := nI_clamp (by omega)
  refine va_copyi hx hb hml hown (hts _ h1) (hts _ nm_Sy_arraycopy) (hts _ sm_Sy_arraycopy) (hts _ in_Sy) hK hP hD hS q0 q1 0 0 (ty := .int) he0 he1 rfl rfl rfl (nI_pos (by omega)) (nI_pos (by omega)) (nI_pos (by omega)) (by rw [c1, c3]; exact g1) (by rw [c2, c3]; exact g2) (fun i hi => rfl) hf hlo hdg (fun H1 locs1 b1 b2 b3 => kk H1 locs1 ?_)
  rw [c1, c2, c3] at b1 b2
  exact ⟨b1, b2, b3, hK, hA⟩
end KB2
