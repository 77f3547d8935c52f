/-! THE LAW'S HELPERS: methods with a table of handlers -/
def noX : String → State → State → Prop := fun _ _ _ => False
theorem kMetH {l : Launch} {y : MethodName} {cc : ByteArray} {maxL : Nat} {ret : Option FieldType} {hh : List (Nat × Nat × Nat × Nat)} {rm : Room} {D : va_G} {k : Nat → ClassId} {av : List Value} {ws : va_W} {sz : Nat} {Qc : Array Value → State → Outcome → State → Prop} {mc ms : Nat} (hy : plainName y.cls = true) (hle : (lg_sl av).length ≤ maxL)
    (body : ∀ (p : Program) (e : Env) (s : State) (m : MethodId) (below : List Frame) (meth : Method) (c : Code) (ls : Array Slot), xOK s → xZ (va_A ws sz) s s.heap → c.exceptionTable.toList = tableOf hh → FX p s m c av.toArray cc y.cls → c.maxLocals = maxL → meth.sig.returnType = ret → meth.locks = false → s.heap.size = sz → KW D k (va_A ws sz) s ws s.heap [] → lv_has ls maxL (lv_args 0 av) → ∀ Q : State → Prop, (∀ t, MQ below Qc av.toArray s mc ms (va_A ws sz) t → Q t) →
      W p l e rm s m av.toArray below meth c s.heap [] 0 0 Q (F0 m 0 ls [])) : vx_Met l y (.codeWith y cc maxL ret hh :: wsU) rm (kPreX D k av ws sz) Qc noX mc ms (va_A ws sz) := by
  refine vx_ofWH (cc := cc) (maxL := maxL) (ret := ret) (hh := hh) hy rfl ?_
  intro p e s m args below meth c s₁ B hml hv
  obtain ⟨rfl, ⟨hsz, hP, hK, hD0⟩, hO, hZ⟩ := hv
  have hts := atoms_spec (ws := .codeWith y cc maxL ret hh :: wsU) B.pre
  have htab := vx_table (x := y) B (hts _ List.mem_cons_self)
  rw [lg_entry_eq]
  exact body p e s m below meth c _ hO hZ htab ⟨B.exec, B.bytes, findClass_of_methodNamed B.named, fun w h => hts w (List.mem_cons_of_mem _ h)⟩ hml B.returns B.notSynchronized hsz ⟨hP, hD0.self, va_S.rf, hK, fun q h => Or.inr (by rw [← hsz]; exact h)⟩ (lv_entry av hle) _ (fun t ⟨o, b1, b2, b3, b4⟩ => ⟨o, b1, b2, Or.inl ⟨b3, b4⟩⟩)
section KXL
variable {p : Program} {l : Launch} {e : Env} {R : Room} {s : State} {m : MethodId} {args : Array Value} {below : List Frame} {meth : Method} {c : Code} {H : Heap} {locs : List Loc} {cells slots : Nat} {Q : State → Prop}
variable {cc : ByteArray} {pc : Nat} {ls : Array Slot} {rest st0 : List Value} {own : String} {D : va_G} {k : Nat → ClassId} {A : Nat → Prop} {ws wc : va_W}
variable {y : MethodName} {bytes : ByteArray} {maxL nL mc ms n index : Nat} {ret : Option FieldType} {rm : Room} {E0 : String} {As : List Value} {S : Type} {w1 : S → va_W}
theorem xcast {X : String} (hO : xOK s) (hm : Cond.castable X X ∈ xB) : (Cond.castable X X).before args s = true := va_Nw.use rfl (hO.1 _ hm)
theorem xcA : Cond.castable xIA xIA ∈ xB := by decide +kernel
theorem xcS : Cond.castable xIS xIS ∈ xB := by decide +kernel
theorem xcO : Cond.castable xIO xIO ∈ xB := by decide +kernel
/-- caught by the first row -/
theorem kcatch {a b h t : Nat} {hs : List (Nat × Nat × Nat × Nat)} {ce : Cell} {q9 : Nat} (hX : FX p s m c args cc own) (hO : xOK s) (htab : c.exceptionTable.toList = tableOf ((a, b, h, t) :: hs)) (hc1 : a ≤ pc) (hc2 : pc < b) (h0 : t ≠ 0) (hm : Cond.castable E0 E0 ∈ xB) (hl : Cond.classLink own t E0 ∈ wsU) (hcell : H[q9]? = some ce) (hv : ce.vm = .none) (hcl : s.vm.findClass E0 = some ce.cls)
    (kk : W p l e R s m args below meth c H locs cells slots Q (F0 m h ls [.ref q9])) : vx_W p l e R s m args below meth c H locs cells slots Q (F0 m pc ls rest) q9 :=
  vx_catch (own := own) (name := E0) hX.2.2.1 [] ⟨a, b, h, t⟩ (tableOf hs) htab (fun z hz => nomatch hz) (by simp [covers, hc1, hc2]) h0 (hX.2.2.2 _ hl) (xcast hO hm) hcell hv hcl kk
/-- caught by the second row, the first does not take it -/
theorem kcatch2 {a b h t a2 b2 h2 t2 : Nat} {hs : List (Nat × Nat × Nat × Nat)} {E1 : String} {ce : Cell} {q9 : Nat} (hX : FX p s m c args cc own) (hO : xOK s) (htab : c.exceptionTable.toList = tableOf ((a2, b2, h2, t2) :: (a, b, h, t) :: hs)) (hc1 : a ≤ pc) (hc2 : pc < b) (h0 : t ≠ 0) (h02 : t2 ≠ 0) (hm : Cond.castable E0 E0 ∈ xB) (hl : Cond.classLink own t E0 ∈ wsU) (hl2 : Cond.classLink own t2 E1 ∈ wsU) (hn : va_Nc E0 E1 s) (hcell : H[q9]? = some ce) (hv : ce.vm = .none) (hcl : s.vm.findClass E0 = some ce.cls)
    (kk : W p l e R s m args below meth c H locs cells slots Q (F0 m h ls [.ref q9])) : vx_W p l e R s m args below meth c H locs cells slots Q (F0 m pc ls rest) q9 :=
  vx_catch (own := own) (name := E0) hX.2.2.1 [⟨a2, b2, h2, t2⟩] ⟨a, b, h, t⟩ (tableOf hs) htab (fun z hz => by
    rcases List.mem_singleton.mp hz with rfl
    exact Or.inr ⟨h02, E1, hX.2.2.2 _ hl2, hn⟩) (by simp [covers, hc1, hc2]) h0 (hX.2.2.2 _ hl) (xcast hO hm) hcell hv hcl kk
/-- the law calls a helper -/
theorem kRunH {hh : List (Nat × Nat × Nat × Nat)} (hX : FX p s m c args cc own) (hO : xOK s) (hZ : xZ A s s.heap) (hml : c.maxLocals = nL) (hW : KW D k A s ws H locs) {Qc : Array Value → State → Outcome → State → Prop} (hM : vx_Met l y (.codeWith y bytes maxL ret hh :: wsU) rm (kPreX D k As wc H.size) Qc noX mc ms (va_A wc H.size))
    (h1 : Cond.methodLink own index y ∈ wsU) (h2 : Cond.static y ∈ wsU) (h4 : Cond.initialized y.cls ∈ wsU) (h5 : Cond.codeWith y bytes maxL ret hh ∈ wsU) (isC : List Nat) (hn : va_nd isC = true) (hC : isC.map (fun i => ws[i]?) = wc.map some)
    (hd : y.cls ≠ "java/lang/invoke/MethodHandle" ∧ y.cls ≠ "java/lang/invoke/VarHandle" ∧ (parseMethodDescriptor y.desc).map (fun d => d.parameters.length) = some n) (hrm : rm.cells = mc ∧ rm.slots = ms ∧ rm.frames + 1 ≤ R.frames ∧ 8 + (maxL + 11) + rm.locals ≤ R.locals) (hAs : As.length = n) (hsize : ls.size = nL) (hst : st0 = As.reverse ++ rest) (hroom : (rest.map fun v => v.category).sum ≤ 8) (hdg : decode cc pc = .ok (.invokestatic index, 3)) (hf : cells + mc ≤ R.cells ∧ slots + ms ≤ R.slots) :
    va_Run p l e R s m args below meth c H locs cells slots mc ms (F0 m pc ls st0) rest (Qc As.toArray) (va_A wc H.size) := by
  have hWc := hW.sub isC hn hC
  have hZc := fun (U : State) hU hV => xZ_call hZ hW isC hC (U := U) hU hV
  obtain ⟨hx, hb, hown, hts⟩ := hX
  obtain ⟨hPc, hDc, hS, hK, hA⟩ := hWc
  have hT : GoodIn wsU (va_wsS own index y (.codeWith y bytes maxL ret hh :: wsU)) := by
    intro w hw
    rcases List.mem_append.mp (show w ∈ ([.methodLink own index y, .static y, .initialized y.cls] : List Cond) ++ (.codeWith y bytes maxL ret hh :: wsU) from hw) with z | z
    · simp only [List.mem_cons, List.not_mem_nil, or_false] at z
      rcases z with rfl | rfl | rfl
      · exact ⟨h1, wU_good h1⟩
      · exact ⟨h2, wU_good h2⟩
      · exact ⟨h4, wU_good h4⟩
    · exact wU_gT h5 w z
  have h := vx_runSX (hh := hh) (As := As) (rest := rest) ⟨hx, hb, hml, hown, hts⟩ hM (vx_cwSW n hts hT rfl hrm.1 hrm.2.1 hd hrm.2.2) ⟨kPreX_blind, fun U hU hV => ⟨rfl, ⟨by rw [hU], by rw [hU]; exact hPc, va_K.moved hV.alike hK, hDc.weaken (fun _ _ _ _ => trivial)⟩, hO.warm hV, hZc U hU hV⟩⟩ rfl hAs hsize hst (lv_room hroom) hdg hf (R := R) (p := p) (l := l) (e := e) (below := below) (meth := meth) (locs := locs) (cells := cells) (slots := slots) (g := F0 m pc ls st0)
  intro T hT2 X
  rcases h T hT2 X with ⟨v, st₀, t, T', L, a1, a2, a3, a4, a5, a6, a7⟩ | ⟨q, st₀, t, T', L, E, ce, h0, X', hL, e1, e2, hx9, hr9⟩
  · exact ⟨v, st₀, t, T', L, a1, a2, a3, a4, a5, a6, a7⟩
  · exact hx9.elim
end KXL
