/-! CONSTRUCTORS: links between nest mates, arrays of references -/
def nOK (U : State) : Prop := va_Nw (.methodLinkNest R_Ws 9 y_Ta_init R_Ws) U ∧ va_Nw (.methodLinkNest R_Ws 22 y_Ex_init R_Ws) U ∧ va_Nw (.methodLinkNest R_Pr 20 y_Pt_init R_Ws) U ∧ va_Nw (.methodLinkNest R_Ws 36 y_Ma_init R_Ws) U ∧ va_Nw (.methodLinkNest R_Ws 43 y_Se_init R_Ws) U ∧ va_Nw (.methodLinkNest R_Ws 50 y_Wo_init R_Ws) U ∧ va_AO R_Ex U ∧ va_AO R_Pt U
theorem nOK.same {u U : State} (h : u.vm = U.vm) (z : nOK u) : nOK U := ⟨va_Nw.same rfl h z.1, va_Nw.same rfl h z.2.1, va_Nw.same rfl h z.2.2.1, va_Nw.same rfl h z.2.2.2.1, va_Nw.same rfl h z.2.2.2.2.1, va_Nw.same rfl h z.2.2.2.2.2.1, va_AO.moved (by rw [h]; exact Vm.Alike.refl _) z.2.2.2.2.2.2.1, va_AO.moved (by rw [h]; exact Vm.Alike.refl _) z.2.2.2.2.2.2.2⟩
theorem nOK.warm {s U : State} (h : s.WarmedH U.vm) (z : nOK s) : nOK U := ⟨va_Nw.warmM h z.1, va_Nw.warmM h z.2.1, va_Nw.warmM h z.2.2.1, va_Nw.warmM h z.2.2.2.1, va_Nw.warmM h z.2.2.2.2.1, va_Nw.warmM h z.2.2.2.2.2.1, va_AO.moved h.alike z.2.2.2.2.2.2.1, va_AO.moved h.alike z.2.2.2.2.2.2.2⟩
def kPreN (D : va_G) (k : Nat → ClassId) (av : List Value) (ws : va_W) (sz : Nat) : Array Value → State → Prop := va_Pc av (fun U => (U.heap.size = sz ∧ va_P D vwCl ws U.heap ∧ va_K D vwCl (tyA k) U ∧ va_D (fun _ => True) ws) ∧ nOK U)
theorem kPreN_blind {D : va_G} {k : Nat → ClassId} {av : List Value} {ws : va_W} {sz : Nat} : FrameBlind (kPreN D k av ws sz) := fun a U g mk q => by
  obtain ⟨q0, ⟨q1, qP, qK, qD⟩, qN⟩ := q
  exact ⟨q0, ⟨q1, qP, va_K.moved (u := U) (U := U.calling g mk a) (Vm.Alike.refl U.vm) qK, qD⟩, qN.same rfl⟩
theorem kMetN {l : Launch} {y : MethodName} {cc : ByteArray} {maxL : Nat} {ret : Option FieldType} {rm : Room} {D : va_G} {k : Nat → ClassId} {av : List Value} {ws : va_W} {sz : Nat} {Qc : Array Value → State → Outcome → State → Prop} {mc ms : Nat} (hy : plainName y.cls = true) (hle : (lg_sl av).length ≤ maxL)
    (body : ∀ (p : Program) (e : Env) (s : State) (m : MethodId) (below : List Frame) (meth : Method) (c : Code) (ls : Array Slot), nOK s → FX p s m c av.toArray cc y.cls → c.maxLocals = maxL → meth.sig.returnType = ret → meth.locks = false → meth.name = y.name → s.heap.size = sz → KW D k (va_A ws sz) s ws s.heap [] → lv_has ls maxL (lv_args 0 av) → ∀ Q : State → Prop, (∀ t, MQ below Qc av.toArray s mc ms (va_A ws sz) t → Q t) →
      W p l e rm s m av.toArray below meth c s.heap [] 0 0 Q (F0 m 0 ls [])) : Met l y (.code y cc maxL ret :: wsU) rm (kPreN D k av ws sz) Qc mc ms (va_A ws sz) := by
  refine Met.ofW (cc := cc) (maxL := maxL) (ret := ret) hy rfl ?_
  intro p e s m args below meth c s₁ B hml hv
  obtain ⟨rfl, ⟨hsz, hP, hK, hD0⟩, hN⟩ := hv
  have hts := atoms_spec (ws := .code y cc maxL ret :: wsU) B.pre
  rw [lg_entry_eq]
  exact body p e s m below meth c _ hN ⟨B.exec, B.bytes, findClass_of_methodNamed B.named, fun w h => hts w (List.mem_cons_of_mem _ h)⟩ hml B.returns B.notSynchronized (name_of_methodNamed B.named B.method).1 hsz ⟨hP, hD0.self, va_S.rf, hK, fun q h => Or.inr (by rw [← hsz]; exact h)⟩ (lv_entry av hle) _ (fun _ h => h)
section KNS
variable {p : Program} {l : Launch} {e : Env} {R : Room} {s : State} {m : MethodId} {args : Array Value} {below : List Frame} {meth : Method} {c : Code} {H : Heap} {locs : List Loc} {cells slots : Nat} {Q : State → Prop}
variable {cc : ByteArray} {pc : Nat} {ls : Array Slot} {rest st0 : List Value} {own : String} {D : va_G} {k : Nat → ClassId} {A : Nat → Prop} {ws : va_W}
variable {y : MethodName} {bytes : ByteArray} {maxL nL mc ms n index : Nat} {rm : Room} {Qc : Array Value → State → Outcome → State → Prop} {wc : va_W} {b : Nat} {As : List Value}
/-- a constructor of a nest mate -/
theorem kRunIN {host : String} (hX : FX p s m c args cc own) (hml : c.maxLocals = nL) (hW : KW D k A s ws H locs) (hM : Met l y (.code y bytes maxL none :: wsU) rm (kPre D k (.ref b :: As) wc H.size) Qc mc ms (va_A wc H.size))
    (h1 : va_Nw (.methodLinkNest own index y host) s) (h2 : Cond.instanceMethod y ∈ wsU) (h4 : Cond.initialized y.cls ∈ wsU) (h5 : Cond.code y bytes maxL none ∈ wsU) (hy1 : y.name = "<init>") (isC : List Nat) (hn : va_nd isC = true) (hC : isC.map (fun i => ws[i]?) = wc.map some)
    (hd : y.cls ≠ "java/lang/invoke/MethodHandle" ∧ y.cls ≠ "java/lang/invoke/VarHandle" ∧ (parseMethodDescriptor y.desc).map (fun d => d.parameters.length) = some n) (hrm : rm.cells = mc ∧ rm.slots = ms ∧ rm.frames + 1 ≤ R.frames ∧ 8 + (maxL + 11) + rm.locals ≤ R.locals) (hAs : As.length = n) (hsize : ls.size = nL) (hst : st0 = As.reverse ++ .ref b :: rest) (hroom : (rest.map fun v => v.category).sum ≤ 8) (hdg : decode cc pc = .ok (.invokespecial index, 3)) (hf : cells + mc ≤ R.cells ∧ slots + ms ≤ R.slots) :
    va_Run p l e R s m args below meth c H locs cells slots mc ms (F0 m pc ls st0) rest (Qc (Value.ref b :: As).toArray) (va_A wc H.size) := by
  have hWc := hW.sub isC hn hC
  obtain ⟨hx, hb, hown, hts⟩ := hX
  obtain ⟨hPc, hDc, hS, hK, hA⟩ := hWc
  exact va_runIN (As := As) (rest := rest) ⟨hx, hb, hml, hown, hts⟩ hM ⟨va_cnB n hts (wU_gT h5) rfl hrm.1 hrm.2.1 h1 (hts _ h4) hd hrm.2.2, hy1, hts _ h2⟩ ⟨kPre_blind, fun U hU hV => ⟨rfl, by rw [hU], by rw [hU]; exact hPc, va_K.moved hV.alike hK, hDc.weaken (fun _ _ _ _ => trivial)⟩⟩ rfl hAs hsize hst (lv_room hroom) hdg hf
/-- a constructor that itself calls those of nest mates -/
theorem kRunIP (hX : FX p s m c args cc own) (hN : nOK s) (hml : c.maxLocals = nL) (hW : KW D k A s ws H locs) (hM : Met l y (.code y bytes maxL none :: wsU) rm (kPreN D k (.ref b :: As) wc H.size) Qc mc ms (va_A wc H.size))
    (h1 : Cond.methodLink own index y ∈ wsU) (h2 : Cond.instanceMethod y ∈ wsU) (h4 : Cond.initialized y.cls ∈ wsU) (h5 : Cond.code y bytes maxL none ∈ wsU) (hy1 : y.name = "<init>") (isC : List Nat) (hn : va_nd isC = true) (hC : isC.map (fun i => ws[i]?) = wc.map some)
    (hd : y.cls ≠ "java/lang/invoke/MethodHandle" ∧ y.cls ≠ "java/lang/invoke/VarHandle" ∧ (parseMethodDescriptor y.desc).map (fun d => d.parameters.length) = some n) (hrm : rm.cells = mc ∧ rm.slots = ms ∧ rm.frames + 1 ≤ R.frames ∧ 8 + (maxL + 11) + rm.locals ≤ R.locals) (hAs : As.length = n) (hsize : ls.size = nL) (hst : st0 = As.reverse ++ .ref b :: rest) (hroom : (rest.map fun v => v.category).sum ≤ 8) (hdg : decode cc pc = .ok (.invokespecial index, 3)) (hf : cells + mc ≤ R.cells ∧ slots + ms ≤ R.slots) :
    va_Run p l e R s m args below meth c H locs cells slots mc ms (F0 m pc ls st0) rest (Qc (Value.ref b :: As).toArray) (va_A wc H.size) := by
  have hWc := hW.sub isC hn hC
  obtain ⟨hx, hb, hown, hts⟩ := hX
  obtain ⟨hPc, hDc, hS, hK, hA⟩ := hWc
  exact va_runI (As := As) (rest := rest) ⟨hx, hb, hml, hown, hts⟩ hM (cwI n hts (wU_gT h5) rfl hrm.1 hrm.2.1 (hts _ h4) (hts _ h1) (hts _ h2) hy1 hd hrm.2.2) ⟨kPreN_blind, fun U hU hV => ⟨rfl, ⟨by rw [hU], by rw [hU]; exact hPc, va_K.moved hV.alike hK, hDc.weaken (fun _ _ _ _ => trivial)⟩, hN.warm hV⟩⟩ rfl hAs hsize hst (lv_room hroom) hdg hf
theorem knewQ (hX : FX p s m c args cc own) (hW : KW D k A s ws H locs) (t0 : Nat) {n : Nat} {C : String} (ht : (tyA k)[t0]? = some (k t0, .object C)) (h1 : Cond.classLink own index C ∈ wsU) (hover : va_AO C s) (hn : n < 2 ^ 27) (hc : cells + 1 ≤ R.cells) (hs : slots + n ≤ R.slots) (hdg : decode cc pc = .ok (.anewarray index, 3))
    (kk : ∀ (q : Nat) (H1 : Heap), KW D k A s (ws ++ [(q, .inl (k t0, n, .inr (.inr (.inr (.inr (fun _ => none))))))]) H1 locs → W p l e R s m args below meth c H1 locs (cells + 1) (slots + n) Q (F0 m (pc + 3) ls (.ref q :: rest))) : W p l e R s m args below meth c H locs cells slots Q (F0 m pc ls (.int (nI n) :: rest)) := by
  obtain ⟨hP, hD, hS, hK, hA⟩ := hW
  refine va_newq hX.1 hX.2.1 hX.2.2.1 (hX.2.2.2 _ h1) hover hK hP hD hS hA (nI_pos (by omega)) (nI_clamp (by omega)) (by omega) hc hs hdg (fun q cA H1 b1 b2 b3 b4 => ?_)
  have e0 : s.vm.findClass ("[" ++ (FieldType.object C).toString) = some (k t0) := by
    obtain ⟨_, _, _, _, _, z⟩ := (hK.2 t0 _ ht).2
    exact z
  have e1 : s.vm.findClass ("[" ++ (FieldType.object C).toString) = some cA := by
    obtain ⟨_, _, _, _, _, z⟩ := (b1.2 5 (cA, .object C) rfl).2
    exact z
  have e2 : cA = k t0 := Option.some.inj (e1.symm.trans e0)
  subst e2
  exact kk q H1 ⟨b2, b3, b4, hK, hA⟩
end KNS
theorem arrV_congr {cI : ClassId} {N : Nat} {f g : Nat → Value} (h : ∀ j, j < N → f j = g j) : arrV cI N f = arrV cI N g := by
  unfold arrV
  congr 1
  apply Array.ext
  · simp
  · intro i h1 h2
    simp only [Array.getElem_ofFn]
    exact h i (by simpa using h1)
/-- an array of references, told by what lies in its places -/
theorem KW.arr {D : va_G} {k : Nat → ClassId} {A : Nat → Prop} {s : State} {ws : va_W} {H : Heap} {locs : List Loc} (h : KW D k A s ws H locs) (i : Nat) {a n : Nat} {cA : ClassId} {f g : Nat → Option Nat} (he : ws[i]? = some (a, .inl (cA, n, .inr (.inr (.inr (.inr f)))))) (hfg : ∀ j, j < n → f j = g j) : KW D k A s (ws.set i (a, .inl (cA, n, .inr (.inr (.inr (.inr g)))))) H locs := by
  obtain ⟨hP, hD, hS, hK, hA⟩ := h
  have hil : i < ws.length := (List.getElem?_eq_some_iff.mp he).1
  refine ⟨fun j q hq => ?_, ⟨fun x y p q hp hq e => ?_, fun x q hq => ?_⟩, hS, hK, hA⟩
  · by_cases e : j = i
    · subst e
      rw [List.getElem?_set_self hil] at hq
      cases hq
      have h0 := hP _ _ he
      have e2 : vp_cell cA (n, .inr (.inr (.inr (.inr f)))) = vp_cell cA (n, .inr (.inr (.inr (.inr g)))) := by
        rw [vp_cell_q, vp_cell_q]
        exact arrV_congr (fun j hj => by rw [hfg j hj])
      exact (show H[a]? = some (vp_cell cA (n, .inr (.inr (.inr (.inr g))))) from by rw [← e2]; exact h0)
    · rw [List.getElem?_set_ne (fun q => e q.symm)] at hq
      exact hP _ _ hq
  · have g : ∀ (z : Nat) (p : Nat × va_E), (ws.set i (a, .inl (cA, n, .inr (.inr (.inr (.inr g))))))[z]? = some p → ∃ p' : Nat × va_E, ws[z]? = some p' ∧ p'.1 = p.1 := by
      intro z p hz
      by_cases ez : z = i
      · subst ez
        rw [List.getElem?_set_self hil] at hz
        cases hz
        exact ⟨_, he, rfl⟩
      · rw [List.getElem?_set_ne (fun q => ez q.symm)] at hz
        exact ⟨p, hz, rfl⟩
    obtain ⟨p', hp', ep⟩ := g x p hp
    obtain ⟨q', hq', eq⟩ := g y q hq
    exact hD.1 x y p' q' hp' hq' (by rw [ep, eq]; exact e)
  · by_cases ez : x = i
    · subst ez
      rw [List.getElem?_set_self hil] at hq
      cases hq
      exact (show A a from hD.2 _ _ he)
    · rw [List.getElem?_set_ne (fun q => ez q.symm)] at hq
      exact hD.2 _ _ hq
