/-! WHAT IS THROWN: the words that it needs -/
def isCast (w : Cond) : Bool := w.onTables && w.warmB w.codeNames
def xNames : List String := ["java/lang/RuntimeException", "java/lang/Exception"]
def xIA : String := "java/lang/IllegalArgumentException"
def xIS : String := "java/lang/IllegalStateException"
def xIO : String := "java/lang/IndexOutOfBoundsException"
def xA1 : List Cond := vx_atS R_Ws 66 xIA xNames
def xA2 : List Cond := vx_atS R_Ws 77 xIS xNames
def xA3 : List Cond := vx_atS R_Ws 153 xIO xNames
theorem xg1 : ∀ w ∈ xA1.filter goodWord, w ∈ wsU := by decide +kernel
theorem xg2 : ∀ w ∈ xA2.filter goodWord, w ∈ wsU := by decide +kernel
theorem xg3 : ∀ w ∈ xA3.filter goodWord, w ∈ wsU := by decide +kernel
theorem xo1 : ∀ w ∈ Cond.classLink R_Ws 62 xIA :: Cond.initialized xIA :: xA1, vx_ot w = true := by decide +kernel
theorem xo2 : ∀ w ∈ Cond.classLink R_Ws 73 xIS :: Cond.initialized xIS :: xA2, vx_ot w = true := by decide +kernel
theorem xo3 : ∀ w ∈ Cond.classLink R_Ws 149 xIO :: Cond.initialized xIO :: xA3, vx_ot w = true := by decide +kernel
def xB : List Cond := xA1.filter (fun w => !goodWord w) ++ (xA2.filter (fun w => !goodWord w) ++ xA3.filter (fun w => !goodWord w))
theorem xB_c : ∀ w ∈ xB, isCast w = true := by decide +kernel
theorem xB_in : ∀ w ∈ xB, w ∈ lw_tbl := by decide +kernel
theorem xk2 : Cond.initialized xIA ∈ wsU := by decide +kernel
theorem xk3 : Cond.initialized xIS ∈ wsU := by decide +kernel
theorem xk4 : Cond.initialized xIO ∈ wsU := by decide +kernel
theorem Nw_castS {w : Cond} (h : isCast w = true) {u U : State} (hv : u.vm = U.vm) (z : va_Nw w u) : va_Nw w U := va_Nw.same (Bool.and_eq_true_iff.mp h).1 hv z
theorem Nw_castW {w : Cond} (h : isCast w = true) {s U : State} (hv : s.WarmedH U.vm) (z : va_Nw w s) : va_Nw w U := va_tabs (Bool.and_eq_true_iff.mp h).1 (rfl : (s.setVm U.vm).vm = U.vm) (Cond.pre_warmed (args := #[]) hv (Bool.and_eq_true_iff.mp h).2 z)
/-- what a throw needs of a state: the words that the tables decide, the texts -/
def xOK (U : State) : Prop := (∀ w ∈ xB, va_Nw w U) ∧ (∃ a, vk_R R_Ws 64 "n is not 1 to 8" a U) ∧ (∃ a, vk_R R_Ws 75 "more than 80 bytes" a U) ∧ (∃ a, vk_R R_Ws 97 "the text is wrong" a U) ∧ (∃ a, vk_R R_Ws 109 "a byte is no letter" a U) ∧ (∃ a, vk_R R_Ws 134 "k is below 0" a U) ∧ (∃ a, vk_R R_Ws 151 "no such letter" a U) ∧ (∃ a, vk_R R_Ws 156 "no such slot" a U) ∧ (∃ a, vk_R R_Ws 158 "no such length" a U) ∧ va_Nc xIS xIA U
theorem xR_same {own tx : String} {k : Nat} {u U : State} (hv : u.vm = U.vm) (h : ∃ a, vk_R own k tx a u) : ∃ a, vk_R own k tx a U := by
  obtain ⟨a, h⟩ := h
  exact ⟨a, vk_R.same hv.symm h⟩
theorem xR_warm {own tx : String} {k : Nat} {s U : State} (hv : s.WarmedH U.vm) (h : ∃ a, vk_R own k tx a s) : ∃ a, vk_R own k tx a U := by
  obtain ⟨a, h⟩ := h
  exact ⟨a, vk_R.warm hv h⟩
theorem xOK.same {u U : State} (hv : u.vm = U.vm) (h : xOK u) : xOK U := by
  obtain ⟨h0, h1, h2, h3, h4, h5, h6, h7, h8, h9⟩ := h
  exact ⟨fun w hw => Nw_castS (xB_c w hw) hv (h0 w hw), xR_same hv h1, xR_same hv h2, xR_same hv h3, xR_same hv h4, xR_same hv h5, xR_same hv h6, xR_same hv h7, xR_same hv h8, va_Nc.moved (by rw [hv]; exact Vm.Alike.refl _) h9⟩
theorem xOK.warm {s U : State} (hv : s.WarmedH U.vm) (h : xOK s) : xOK U := by
  obtain ⟨h0, h1, h2, h3, h4, h5, h6, h7, h8, h9⟩ := h
  exact ⟨fun w hw => Nw_castW (xB_c w hw) hv (h0 w hw), xR_warm hv h1, xR_warm hv h2, xR_warm hv h3, xR_warm hv h4, xR_warm hv h5, xR_warm hv h6, xR_warm hv h7, xR_warm hv h8, va_Nc.moved hv.alike h9⟩
/-- the statics that a throw reads, apart from what is written -/
def xZ (A : Nat → Prop) (U : State) (H : Heap) : Prop := vx_Zq Bundle.tN "UNASSIGNED_STACK" Bundle.steD A U H ∧ vx_Zq Bundle.tN "SUPPRESSED_SENTINEL" Bundle.listD A U H
theorem xZ.moved {A : Nat → Prop} {u U : State} {H : Heap} (hv : u.vm.Alike U.vm) (h : xZ A u H) : xZ A U H := ⟨vx_Zq.moved hv h.1, vx_Zq.moved hv h.2⟩
theorem xZ.kept {A : Nat → Prop} {U : State} {H H1 : Heap} (h : xZ A U H) (hq : ∀ a : Nat, a < H.size → ¬ A a → H1[a]? = H[a]?) : xZ A U H1 := ⟨h.1.kept hq, h.2.kept hq⟩
theorem xZ.narrow {A B : Nat → Prop} {U : State} {H : Heap} (h : xZ A U H) (hAB : ∀ q, B q → A q) : xZ B U H := ⟨h.1.narrow hAB, h.2.narrow hAB⟩
def kPreX (D : va_G) (k : Nat → ClassId) (av : List Value) (ws : va_W) (sz : Nat) : Array Value → State → Prop := va_Pc av (fun U => (U.heap.size = sz ∧ va_P D vwCl ws U.heap ∧ va_K D vwCl (tyA k) U ∧ va_D (fun _ => True) ws) ∧ xOK U ∧ xZ (va_A ws sz) U U.heap)
theorem kPreX_blind {D : va_G} {k : Nat → ClassId} {av : List Value} {ws : va_W} {sz : Nat} : FrameBlind (kPreX D k av ws sz) := fun a U g mk q => by
  obtain ⟨q0, ⟨q1, qP, qK, qD⟩, qO, qZ⟩ := q
  exact ⟨q0, ⟨q1, qP, va_K.moved (u := U) (U := U.calling g mk a) (Vm.Alike.refl U.vm) qK, qD⟩, xOK.same (u := U) (U := U.calling g mk a) rfl qO, xZ.moved (u := U) (U := U.calling g mk a) (Vm.Alike.refl U.vm) qZ⟩
/-- the world that a throw leaves -/
def kBX (D : va_G) (k : Nat → ClassId) (E0 : String) (w1 : va_W) (A : Nat → Prop) : String → Unit → State → Prop := fun E _ t => E = E0 ∧ va_P D vwCl w1 t.heap ∧ va_K D vwCl (tyA k) t ∧ va_D A w1
def noQ : Array Value → State → Outcome → State → Prop := fun _ _ _ _ => False
abbrev xC (D : va_G) (k : Nat → ClassId) (E0 : String) (w1 : va_W) (A : Nat → Prop) : String → State → State → Prop := vx_X (fun _ : Unit => True) (kBX D k E0 w1 A) A
theorem kMetX {l : Launch} {y : MethodName} {cc : ByteArray} {maxL : Nat} {ret : Option FieldType} {rm : Room} {D : va_G} {k : Nat → ClassId} {av : List Value} {ws w1 : va_W} {E0 : String} {sz : Nat} {mc ms : Nat} (hy : plainName y.cls = true) (hle : (lg_sl av).length ≤ maxL)
    (body : ∀ (p : Program) (e : Env) (s : State) (m : MethodId) (below : List Frame) (meth : Method) (c : Code) (ls : Array Slot), xOK s → xZ (va_A ws sz) s s.heap → (∀ x ∈ c.exceptionTable.toList, False) → FX p s m c av.toArray cc y.cls → c.maxLocals = maxL → meth.sig.returnType = ret → meth.locks = false → s.heap.size = sz → KW D k (va_A ws sz) s ws s.heap [] → lv_has ls maxL (lv_args 0 av) →
      W p l e rm s m av.toArray below meth c s.heap [] 0 0 (vx_MQ below noQ (xC D k E0 w1 (va_A ws sz)) av.toArray s mc ms (va_A ws sz)) (F0 m 0 ls [])) : vx_Met l y (.code y cc maxL ret :: wsU) rm (kPreX D k av ws sz) noQ (xC D k E0 w1 (va_A ws sz)) mc ms (va_A ws sz) := by
  refine vx_ofW (cc := cc) (maxL := maxL) (ret := ret) hy rfl ?_
  intro p e s m args below meth c s₁ B hml ht hv
  obtain ⟨rfl, ⟨hsz, hP, hK, hD0⟩, hO, hZ⟩ := hv
  have hts := atoms_spec (ws := .code y cc maxL ret :: wsU) B.pre
  rw [lg_entry_eq]
  exact body p e s m below meth c _ hO hZ ht ⟨B.exec, B.bytes, findClass_of_methodNamed B.named, fun w h => hts w (List.mem_cons_of_mem _ h)⟩ hml B.returns B.notSynchronized hsz ⟨hP, hD0.self, va_S.rf, hK, fun q h => Or.inr (by rw [← hsz]; exact h)⟩ (lv_entry av hle)
section KXR
variable {p : Program} {l : Launch} {e : Env} {R : Room} {s : State} {m : MethodId} {args : Array Value} {below : List Frame} {meth : Method} {c : Code} {H : Heap} {locs : List Loc} {cells slots : Nat}
variable {cc : ByteArray} {pc : Nat} {ls : Array Slot} {rest st0 : List Value} {D : va_G} {k : Nat → ClassId} {A : Nat → Prop} {ws w1 : va_W} {mc ms : Nat}
/-- throw new E("text") -/
theorem kthrow {cls text : String} {ik is ic : Nat} {L : List Cond} (hL : L = vx_atS R_Ws ic cls xNames) (hl0 : l.stackTraces = false) (hX : FX p s m c args cc R_Ws) (hO : xOK s) (hZ : xZ A s s.heap) (hW : KW D k A s ws H locs) (hout : ∀ x ∈ c.exceptionTable.toList, False) (hml : c.maxLocals = ls.size) (hlocks : meth.locks = false)
    (hcls : Bundle.fit cls = true) (h1 : Cond.classLink R_Ws ik cls ∈ wsU) (h2 : Cond.initialized cls ∈ wsU) (hg : ∀ w ∈ L.filter goodWord, w ∈ wsU) (hb : ∀ w ∈ L.filter (fun w => !goodWord w), w ∈ xB) (ho : ∀ w ∈ Cond.classLink R_Ws ik cls :: Cond.initialized cls :: L, vx_ot w = true) (hs : ∃ a, vk_R R_Ws is text a s)
    (d0 : decode cc pc = .ok (.new ik, 3)) (d3 : decode cc (pc + 3) = .ok (.dup, 1)) (d4 : decode cc (pc + 4) = .ok (.ldc is, 2)) (d6 : decode cc (pc + 6) = .ok (.invokespecial ic, 3)) (d9 : decode cc (pc + 9) = .ok (.athrow, 1))
    (hRf : 5 < R.frames) (hRl : (rest.map fun v => v.category).sum + 82 ≤ R.locals) (hRc : cells + 1 ≤ R.cells) (hRs : slots + 6 ≤ R.slots) (hc : cells + 1 ≤ mc) (hms : slots + 6 ≤ ms) :
    W p l e R s m args below meth c H locs cells slots (vx_MQ below noQ (xC D k cls ws A) args s mc ms A) (F0 m pc ls rest) := by
  obtain ⟨sa, hsa⟩ := hs
  subst hL
  obtain ⟨hP, hD, hS, hK, hA⟩ := hW
  refine vx_throwS hX.1 hX.2.1 hl0 (own := R_Ws) (cls := cls) (names := xNames) (sa := sa) (text := text) (A := A) hX.2.2.1 hcls (by decide) (hX.2.2.2 _ h1) (hX.2.2.2 _ h2) hsa (vx_hat (B := xB) (fun w hw => hX.2.2.2 _ (hg w hw)) hb (fun w hw => va_Nw.use (Bool.and_eq_true_iff.mp (xB_c w hw)).1 (hO.1 w hw))) ho hZ.1 hZ.2 hS hml.symm d0 d3 d4 d6 d9 (fun x hx => (hout x hx).elim) (by show xNames.length + 3 < _; exact hRf) (by show _ + (13 * (xNames.length + 1) + 43) ≤ _; exact hRl) hRc hRs hlocks ?_ hS.2.2 hc hms
  intro t hv h1 h2
  have hk : ∀ (i : Nat) (x : Nat × va_E), ws[i]? = some x → t.heap[x.1]? = H[x.1]? := fun i x hx => h2 x.1 ((hP i x hx).lt)
  exact ⟨(), trivial, ⟨rfl, hP.kept hk, va_K.moved hv hK, hD⟩, ⟨Nat.le_trans hS.1 h1, fun q hq hq2 => by rw [h2 q (Nat.lt_of_lt_of_le hq hS.1)]; exact hS.2.1 q hq hq2⟩⟩
end KXR
