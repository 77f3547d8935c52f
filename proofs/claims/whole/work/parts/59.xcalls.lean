/-! CALLS THAT THROW -/
section KXC
variable {p : Program} {l : Launch} {e : Env} {R : Room} {s : State} {m : MethodId} {args : Array Value} {below : List Frame} {meth : Method} {c : Code} {H : Heap} {locs : List Loc} {cells slots : Nat} {Q : State → Prop}
variable {cc : ByteArray} {pc : Nat} {ls : Array Slot} {rest st0 : List Value} {own : String} {D : va_G} {k : Nat → ClassId} {A : Nat → Prop} {ws w1 wc : va_W}
variable {y : MethodName} {bytes : ByteArray} {maxL nL mc ms n index : Nat} {ret : Option FieldType} {rm : Room} {E0 : String} {b : Nat} {As : List Value}
/-- the statics, seen from a callee -/
theorem xZ_call (hZ : xZ A s s.heap) (hW : KW D k A s ws H locs) (isC : List Nat) (hC : isC.map (fun i => ws[i]?) = wc.map some) {U : State} (hU : U.heap = H) (hV : s.WarmedH U.vm) : xZ (va_A wc H.size) U U.heap := by
  rw [hU]
  exact ((hZ.kept (H1 := H) hW.2.2.1.2.1).narrow (va_free hW.2.1 hW.2.2.1 hW.2.2.2.2 isC hC)).moved hV.alike
theorem kxRunV (hX : FX p s m c args cc own) (hO : xOK s) (hZ : xZ A s s.heap) (hml : c.maxLocals = nL) (hW : KW D k A s ws H locs) {Qc : Array Value → State → Outcome → State → Prop} {XC : String → State → State → Prop} (hM : vx_Met l y (.code y bytes maxL ret :: wsU) rm (kPreX D k (.ref b :: As) wc H.size) Qc XC mc ms (va_A wc H.size))
    (h1 : Cond.methodLink own index y ∈ wsU) (h2 : Cond.instanceMethod y ∈ wsU) (h3 : Cond.selects y.cls y y ∈ wsU) (h4 : Cond.initialized y.cls ∈ wsU) (h5 : Cond.code y bytes maxL ret ∈ wsU) (isC : List Nat) (hn : va_nd isC = true) (hC : isC.map (fun i => ws[i]?) = wc.map some) {ci : Nat} {fs : List Value} {T : u_T} {N : Nat} (he : wc[0]? = some (b, .inr (ci, fs))) (hc : vwCl[ci]? = some (y.cls, T, N))
    (hd : y.cls ≠ "java/lang/invoke/MethodHandle" ∧ y.cls ≠ "java/lang/invoke/VarHandle" ∧ (parseMethodDescriptor y.desc).map (fun d => d.parameters.length) = some n) (hrm : rm.cells = mc ∧ rm.slots = ms ∧ rm.frames + 1 ≤ R.frames ∧ 8 + (maxL + 11) + rm.locals ≤ R.locals) (hAs : As.length = n) (hsize : ls.size = nL) (hst : st0 = As.reverse ++ .ref b :: rest) (hroom : (rest.map fun v => v.category).sum ≤ 8) (hdg : decode cc pc = .ok (.invokevirtual index, 3)) (hf : cells + mc ≤ R.cells ∧ slots + ms ≤ R.slots) :
    vx_Run p l e R s m args below meth c H locs cells slots mc ms (F0 m pc ls st0) rest (Qc (Value.ref b :: As).toArray) XC (va_A wc H.size) := by
  have hWc := hW.sub isC hn hC
  have hZc := fun (U : State) hU hV => xZ_call hZ hW isC hC (U := U) hU hV
  obtain ⟨hx, hb, hown, hts⟩ := hX
  obtain ⟨hPc, hDc, hS, hK, hA⟩ := hWc
  have hG : GoodIn wsU (wsV own index y.cls y (.code y bytes maxL ret :: wsU)) := by
    intro w hw
    rcases List.mem_append.mp (show w ∈ ([.methodLink own index y, .instanceMethod y, .selects y.cls y y, .initialized y.cls] : List Cond) ++ (.code y bytes maxL ret :: wsU) from hw) with z | z
    · simp only [List.mem_cons, List.not_mem_nil, or_false] at z
      rcases z with rfl | rfl | rfl | rfl
      · exact ⟨h1, wU_good h1⟩
      · exact ⟨h2, wU_good h2⟩
      · exact ⟨h3, wU_good h3⟩
      · exact ⟨h4, wU_good h4⟩
    · exact wU_gT h5 w z
  exact vx_runV (As := As) (rest := rest) (C := y.cls) ⟨hx, hb, hml, hown, hts⟩ hM (cwV n hts hG rfl hrm.1 hrm.2.1 ⟨rfl, hd⟩ hrm.2.2) ⟨kPreX_blind, va_recv hK hPc hc he, fun U hU hV => ⟨rfl, ⟨by rw [hU], by rw [hU]; exact hPc, va_K.moved hV.alike hK, hDc.weaken (fun _ _ _ _ => trivial)⟩, hO.warm hV, hZc U hU hV⟩⟩ rfl hAs hsize hst (lv_room hroom) hdg hf
theorem kxRunS (hX : FX p s m c args cc own) (hO : xOK s) (hZ : xZ A s s.heap) (hml : c.maxLocals = nL) (hW : KW D k A s ws H locs) {Qc : Array Value → State → Outcome → State → Prop} {XC : String → State → State → Prop} (hM : vx_Met l y (.code y bytes maxL ret :: wsU) rm (kPreX D k As wc H.size) Qc XC mc ms (va_A wc H.size))
    (h1 : Cond.methodLink own index y ∈ wsU) (h2 : Cond.static y ∈ wsU) (h4 : Cond.initialized y.cls ∈ wsU) (h5 : Cond.code y bytes maxL ret ∈ wsU) (isC : List Nat) (hn : va_nd isC = true) (hC : isC.map (fun i => ws[i]?) = wc.map some)
    (hd : y.cls ≠ "java/lang/invoke/MethodHandle" ∧ y.cls ≠ "java/lang/invoke/VarHandle" ∧ (parseMethodDescriptor y.desc).map (fun d => d.parameters.length) = some n) (hrm : rm.cells = mc ∧ rm.slots = ms ∧ rm.frames + 1 ≤ R.frames ∧ 8 + (maxL + 11) + rm.locals ≤ R.locals) (hAs : As.length = n) (hsize : ls.size = nL) (hst : st0 = As.reverse ++ rest) (hroom : (rest.map fun v => v.category).sum ≤ 8) (hdg : decode cc pc = .ok (.invokestatic index, 3)) (hf : cells + mc ≤ R.cells ∧ slots + ms ≤ R.slots) :
    vx_Run p l e R s m args below meth c H locs cells slots mc ms (F0 m pc ls st0) rest (Qc As.toArray) XC (va_A wc H.size) := by
  have hWc := hW.sub isC hn hC
  have hZc := fun (U : State) hU hV => xZ_call hZ hW isC hC (U := U) hU hV
  obtain ⟨hx, hb, hown, hts⟩ := hX
  obtain ⟨hPc, hDc, hS, hK, hA⟩ := hWc
  exact vx_runS (As := As) (rest := rest) ⟨hx, hb, hml, hown, hts⟩ hM ⟨callB_of n hts (wU_gT h5) rfl hrm.1 hrm.2.1 (hts _ h4) (hts _ h1) hd hrm.2.2, hts _ h2⟩ ⟨kPreX_blind, fun U hU hV => ⟨rfl, ⟨by rw [hU], by rw [hU]; exact hPc, va_K.moved hV.alike hK, hDc.weaken (fun _ _ _ _ => trivial)⟩, hO.warm hV, hZc U hU hV⟩⟩ rfl hAs hsize hst (lv_room hroom) hdg hf
/-- a call that surely throws -/
theorem kxgo {a : Array Value} (hW : KW D k A s ws H locs) (isC : List Nat) (hC : isC.map (fun i => ws[i]?) = wc.map some) (hlen : w1.length = wc.length)
    (hr : vx_Run p l e R s m args below meth c H locs cells slots mc ms (F0 m pc ls st0) rest (noQ a) (xC D k E0 w1 (va_A wc H.size)) (va_A wc H.size))
    (kx : ∀ (ce : Cell) (q9 : Nat) (H1 : Heap) (locs1 : List Loc), KW D k A s (setAll ws isC w1) H1 locs1 → H1[q9]? = some ce → ce.vm = .none → s.vm.findClass E0 = some ce.cls → vx_W p l e R s m args below meth c H1 locs1 (cells + mc) (slots + ms) Q (F0 m pc ls rest) q9) : W p l e R s m args below meth c H locs cells slots Q (F0 m pc ls st0) := by
  intro T hT X
  have hfr := va_free hW.2.1 hW.2.2.1 hW.2.2.2.2 isC hC
  rcases hr T hT X with ⟨v, st₀, t, T', L, h0, X', hL, e1, e2, hq, st⟩ | ⟨q, st₀, t, T', L, E, ce, h0, X', hL, e1, e2, ⟨u, hp, ⟨hE, hb1, hb2, hb3⟩, hF⟩, hce, hcv, hcl, st⟩
  · exact hq.elim
  · subst hE
    obtain ⟨k1, k2, k3⟩ := vx_keep h0 e1 hW.2.2.1 (fun q _ h => hfr q h) hfr hL hF
    have hW2 : KW D k A s (setAll ws isC w1) T'.heap (locs ++ L) := kBack0 (S := Unit) (u := ()) (w1 := fun _ => w1) hW isC hC e1.symm hlen ⟨hb1, hb2, hb3⟩ k2 k3
    obtain ⟨t2, a1, b1⟩ := kx ce q T'.heap (locs ++ L) hW2 (by rw [e1]; exact hce) hcv hcl T' rfl X'
    exact ⟨t2, st.trans a1, b1⟩
/-- .. and goes on to the caller -/
theorem kxout {ce : Cell} {q9 : Nat} (hout : ∀ x ∈ c.exceptionTable.toList, False) (hlocks : meth.locks = false) (hW : KW D k A s w1 H locs) (hcell : H[q9]? = some ce) (hv : ce.vm = .none) (hcl : s.vm.findClass E0 = some ce.cls) (hc : cells ≤ mc) (hs : slots ≤ ms) : vx_W p l e R s m args below meth c H locs cells slots (vx_MQ below noQ (xC D k E0 w1 A) args s mc ms A) (F0 m pc ls rest) q9 :=
  vx_out (fun x hx => (hout x hx).elim) hlocks hcell hv hcl (fun t ht hV => ⟨(), trivial, ⟨rfl, by rw [ht]; exact hW.1, va_K.moved hV hW.2.2.2.1, hW.2.1⟩, hW.2.2.1.F ht⟩) hW.2.2.1.2.2 hc hs
end KXC
