/-! CALLS: a callee's contract used in a walk: its cells wc out of ws, the rest wr unchanged, w1 what came back -/
section KC
variable {p : Program} {l : Launch} {e : Env} {R : Room} {s : State} {m : MethodId} {args : Array Value} {below : List Frame} {meth : Method} {c : Code} {H : Heap} {locs : List Loc} {cells slots : Nat} {Q : State → Prop}
variable {cc : ByteArray} {pc : Nat} {ls : Array Slot} {rest st0 : List Value} {own : String} {D : va_G} {k : Nat → ClassId} {A : Nat → Prop} {ws : va_W} {S : Type} {w1 : S → va_W}
variable {y : MethodName} {bytes : ByteArray} {maxL nL mc ms n index : Nat} {ret : Option FieldType} {rm : Room} {Qc : Array Value → State → Outcome → State → Prop} {wc wr : va_W} {b : Nat} {As : List Value}
/-- what a call of an instance method of the class C needs of the tables -/
theorem kRunV (hX : FX p s m c args cc own) (hml : c.maxLocals = nL) (hW : KW D k A s ws H locs) (hM : Met l y (.code y bytes maxL ret :: wsU) rm (kPre D k (.ref b :: As) wc H.size) Qc mc ms (va_A wc H.size))
    (h1 : Cond.methodLink own index y ∈ wsU) (h2 : Cond.instanceMethod y ∈ wsU) (h3 : Cond.selects y.cls y y ∈ wsU) (h4 : Cond.initialized y.cls ∈ wsU) (h5 : Cond.code y bytes maxL ret ∈ wsU) (isC : List Nat) (hn : va_nd isC = true) (hC : isC.map (fun i => ws[i]?) = wc.map some) {ci : Nat} {fs : List Value} {T : u_T} {N : Nat} (he : wc[0]? = some (b, .inr (ci, fs))) (hc : vwCl[ci]? = some (y.cls, T, N))
    (hd : y.cls ≠ "java/lang/invoke/MethodHandle" ∧ y.cls ≠ "java/lang/invoke/VarHandle" ∧ (parseMethodDescriptor y.desc).map (fun d => d.parameters.length) = some n) (hrm : rm.cells = mc ∧ rm.slots = ms ∧ rm.frames + 1 ≤ R.frames ∧ 8 + (maxL + 11) + rm.locals ≤ R.locals) (hAs : As.length = n) (hsize : ls.size = nL) (hst : st0 = As.reverse ++ .ref b :: rest) (hroom : (rest.map fun v => v.category).sum ≤ 8) (hdg : decode cc pc = .ok (.invokevirtual index, 3)) (hf : cells + mc ≤ R.cells ∧ slots + ms ≤ R.slots) :
    va_Run p l e R s m args below meth c H locs cells slots mc ms (F0 m pc ls st0) rest (Qc (Value.ref b :: As).toArray) (va_A wc H.size) := by
  have hWc := hW.sub isC hn hC
  obtain ⟨hx, hb, hown, hts⟩ := hX
  obtain ⟨hPc, hDc, hS, hK, hA⟩ := hWc
  have hG : GoodIn wsU (wsV own index y.cls y (.code y bytes maxL ret :: wsU)) := by
    intro w hw
    rcases List.mem_append.mp (show w ∈ ([.methodLink own index y, .instanceMethod y, .selects y.cls y y, .initialized y.cls] : List Cond) ++ (.code y bytes maxL ret :: wsU) from hw) with z | z
    · simp only [List.mem_cons, List.not_mem_nil, or_false] at z
      rcases z with rfl | rfl | rfl | rfl
      · exact ⟨h1, wU_good h1⟩
      · exact ⟨h2, wU_good h2⟩
      · exact ⟨h3, wU_good h3⟩
      · exact ⟨h4, wU_good h4⟩
    · exact wU_gT h5 w z
  exact va_runV (As := As) (rest := rest) (C := y.cls) ⟨hx, hb, hml, hown, hts⟩ hM (cwV n hts hG rfl hrm.1 hrm.2.1 ⟨rfl, hd⟩ hrm.2.2) ⟨kPre_blind, va_recv hK hPc hc he, fun U hU hV => ⟨rfl, by rw [hU], by rw [hU]; exact hPc, va_K.moved hV.alike hK, hDc.weaken (fun _ _ _ _ => trivial)⟩⟩ rfl hAs hsize hst (lv_room hroom) hdg hf
theorem kRunS (hX : FX p s m c args cc own) (hml : c.maxLocals = nL) (hW : KW D k A s ws H locs) (hM : Met l y (.code y bytes maxL ret :: wsU) rm (kPre D k As wc H.size) Qc mc ms (va_A wc H.size))
    (h1 : Cond.methodLink own index y ∈ wsU) (h2 : Cond.static y ∈ wsU) (h4 : Cond.initialized y.cls ∈ wsU) (h5 : Cond.code y bytes maxL ret ∈ wsU) (isC : List Nat) (hn : va_nd isC = true) (hC : isC.map (fun i => ws[i]?) = wc.map some)
    (hd : y.cls ≠ "java/lang/invoke/MethodHandle" ∧ y.cls ≠ "java/lang/invoke/VarHandle" ∧ (parseMethodDescriptor y.desc).map (fun d => d.parameters.length) = some n) (hrm : rm.cells = mc ∧ rm.slots = ms ∧ rm.frames + 1 ≤ R.frames ∧ 8 + (maxL + 11) + rm.locals ≤ R.locals) (hAs : As.length = n) (hsize : ls.size = nL) (hst : st0 = As.reverse ++ rest) (hroom : (rest.map fun v => v.category).sum ≤ 8) (hdg : decode cc pc = .ok (.invokestatic index, 3)) (hf : cells + mc ≤ R.cells ∧ slots + ms ≤ R.slots) :
    va_Run p l e R s m args below meth c H locs cells slots mc ms (F0 m pc ls st0) rest (Qc As.toArray) (va_A wc H.size) := by
  have hWc := hW.sub isC hn hC
  obtain ⟨hx, hb, hown, hts⟩ := hX
  obtain ⟨hPc, hDc, hS, hK, hA⟩ := hWc
  exact va_runS (As := As) (rest := rest) ⟨hx, hb, hml, hown, hts⟩ hM ⟨callB_of n hts (wU_gT h5) rfl hrm.1 hrm.2.1 (hts _ h4) (hts _ h1) hd hrm.2.2, hts _ h2⟩ ⟨kPre_blind, fun U hU hV => ⟨rfl, by rw [hU], by rw [hU]; exact hPc, va_K.moved hV.alike hK, hDc.weaken (fun _ _ _ _ => trivial)⟩⟩ rfl hAs hsize hst (lv_room hroom) hdg hf
theorem kRunI (hX : FX p s m c args cc own) (hml : c.maxLocals = nL) (hW : KW D k A s ws H locs) (hM : Met l y (.code y bytes maxL none :: wsU) rm (kPre D k (.ref b :: As) wc H.size) Qc mc ms (va_A wc H.size))
    (h1 : Cond.methodLink own index y ∈ wsU) (h2 : Cond.instanceMethod y ∈ wsU) (h4 : Cond.initialized y.cls ∈ wsU) (h5 : Cond.code y bytes maxL none ∈ wsU) (hy1 : y.name = "<init>") (isC : List Nat) (hn : va_nd isC = true) (hC : isC.map (fun i => ws[i]?) = wc.map some)
    (hd : y.cls ≠ "java/lang/invoke/MethodHandle" ∧ y.cls ≠ "java/lang/invoke/VarHandle" ∧ (parseMethodDescriptor y.desc).map (fun d => d.parameters.length) = some n) (hrm : rm.cells = mc ∧ rm.slots = ms ∧ rm.frames + 1 ≤ R.frames ∧ 8 + (maxL + 11) + rm.locals ≤ R.locals) (hAs : As.length = n) (hsize : ls.size = nL) (hst : st0 = As.reverse ++ .ref b :: rest) (hroom : (rest.map fun v => v.category).sum ≤ 8) (hdg : decode cc pc = .ok (.invokespecial index, 3)) (hf : cells + mc ≤ R.cells ∧ slots + ms ≤ R.slots) :
    va_Run p l e R s m args below meth c H locs cells slots mc ms (F0 m pc ls st0) rest (Qc (Value.ref b :: As).toArray) (va_A wc H.size) := by
  have hWc := hW.sub isC hn hC
  obtain ⟨hx, hb, hown, hts⟩ := hX
  obtain ⟨hPc, hDc, hS, hK, hA⟩ := hWc
  exact va_runI (As := As) (rest := rest) ⟨hx, hb, hml, hown, hts⟩ hM (cwI n hts (wU_gT h5) rfl hrm.1 hrm.2.1 (hts _ h4) (hts _ h1) (hts _ h2) hy1 hd hrm.2.2) ⟨kPre_blind, fun U hU hV => ⟨rfl, by rw [hU], by rw [hU]; exact hPc, va_K.moved hV.alike hK, hDc.weaken (fun _ _ _ _ => trivial)⟩⟩ rfl hAs hsize hst (lv_room hroom) hdg hf
end KC
/-- the cells at the places is, put anew -/
def setAll : va_W → List Nat → va_W → va_W
  | ws, i :: is, x :: xs => setAll (ws.set i x) is xs
  | ws, _, _ => ws
theorem setAll_at : ∀ (is : List Nat) (ws xs : va_W) (j : Nat) (q : Nat × va_E), (setAll ws is xs)[j]? = some q → (∃ n : Nat, is[n]? = some j ∧ xs[n]? = some q) ∨ ((j ∉ is ∨ is.length ≠ xs.length) ∧ ws[j]? = some q) := by
  intro is
  induction is with
  | nil => intro ws xs j q h; exact Or.inr ⟨Or.inl List.not_mem_nil, by simpa [setAll] using h⟩
  | cons i is ih =>
    intro ws xs j q h
    cases xs with
    | nil => exact Or.inr ⟨Or.inr (by simp), h⟩
    | cons x xs =>
      rcases ih (ws.set i x) xs j q h with ⟨n, h1, h2⟩ | ⟨h1, h2⟩
      · exact Or.inl ⟨n + 1, h1, h2⟩
      · by_cases hj : j = i
        · subst hj
          have hl : j < ws.length := by
            have := (List.getElem?_eq_some_iff.mp h2).1
            simpa using this
          rw [List.getElem?_set_self hl] at h2
          exact Or.inl ⟨0, rfl, h2⟩
        · rw [List.getElem?_set_ne (Ne.symm hj)] at h2
          refine Or.inr ⟨?_, h2⟩
          rcases h1 with h1 | h1
          · exact Or.inl (fun z => (List.mem_cons.mp z).elim hj h1)
          · exact Or.inr (by simpa using h1)
theorem nd_at {l : List Nat} (h : va_nd l = true) {i j a : Nat} (hi : l[i]? = some a) (hj : l[j]? = some a) : i = j := va_nd_inj l h i j a hi hj
theorem setAll_back {A0 : Nat → Prop} {D : va_G} {cl : List vw_C} {ws wc w1a w1b : va_W} {H H1 : Heap} (hP : va_P D cl ws H) (hD : va_D A0 ws) (isC : List Nat) (hC : isC.map (fun i => ws[i]?) = wc.map some)
    (hk : ∀ q : Nat, q < H.size → ¬ va_A wc H.size q → H1[q]? = H[q]?) (hF : ∀ q, va_A wc H.size q → A0 q) (hle : w1a.length = wc.length) (hP1 : va_P D cl (w1a ++ w1b) H1) (hD1 : va_D (va_A wc H.size) (w1a ++ w1b)) : va_P D cl (setAll ws isC w1a ++ w1b) H1 ∧ va_D A0 (setAll ws isC w1a ++ w1b) := by
  have hlc : isC.length = wc.length := by
    have h1 := congrArg List.length hC
    simpa using h1
  have hlen : isC.length = w1a.length := by omega
  have atC : ∀ (n i : Nat), isC[n]? = some i → ∃ q, wc[n]? = some q ∧ ws[i]? = some q := by
    intro n i hi
    have h1 : (isC.map (fun i => ws[i]?))[n]? = some (ws[i]?) := by rw [List.getElem?_map, hi]; rfl
    rw [hC, List.getElem?_map] at h1
    cases hq : wc[n]? with
    | none => rw [hq] at h1; cases h1
    | some q => rw [hq] at h1; exact ⟨q, rfl, (Option.some.inj h1).symm⟩
  have notA : ∀ (j : Nat) (q : Nat × va_E), j ∉ isC → ws[j]? = some q → ¬ va_A wc H.size q.1 := by
    intro j q hj hq h
    rcases h with ⟨n, e, h⟩ | h
    · have hn : n < wc.length := (List.getElem?_eq_some_iff.mp h).1
      have hn2 : n < isC.length := by omega
      obtain ⟨r, h3, h4⟩ := atC n (isC[n]) (List.getElem?_eq_getElem hn2)
      have h5 : r = (q.1, e) := Option.some.inj (h3.symm.trans h)
      have h6 := hD.1 j (isC[n]) q r hq h4 (by rw [h5])
      exact hj (by rw [h6]; exact List.getElem_mem hn2)
    · have := (hP j q hq).lt
      omega
  have inA : ∀ (n : Nat) (q : Nat × va_E), w1a[n]? = some q → (w1a ++ w1b)[n]? = some q := by
    intro n q h
    rw [List.getElem?_append_left (List.getElem?_eq_some_iff.mp h).1]; exact h
  have inB : ∀ (n : Nat) (q : Nat × va_E), w1b[n]? = some q → (w1a ++ w1b)[w1a.length + n]? = some q := by
    intro n q h
    rw [List.getElem?_append_right (by omega), show w1a.length + n - w1a.length = n by omega]; exact h
  have at2 : ∀ (j : Nat) (q : Nat × va_E), (setAll ws isC w1a)[j]? = some q → (∃ n : Nat, isC[n]? = some j ∧ w1a[n]? = some q) ∨ (j ∉ isC ∧ ws[j]? = some q) := by
    intro j q h
    rcases setAll_at isC ws w1a j q h with h1 | ⟨h1, h2⟩
    · exact Or.inl h1
    · exact Or.inr ⟨h1.resolve_right (fun z => z hlen), h2⟩
  refine ⟨va_P.app ?_ ?_, va_D.app ⟨?_, ?_⟩ ?_ ?_⟩
  · intro j q h
    rcases at2 j q h with ⟨n, h1, h2⟩ | ⟨h1, h2⟩
    · exact hP1 n q (inA n q h2)
    · exact (hP j q h2).kept (hk q.1 (hP j q h2).lt (notA j q h1 h2))
  · intro j q hq
    exact hP1 _ q (inB j q hq)
  · intro i j x y hx hy hxy
    rcases at2 i x hx with ⟨n, h1, h2⟩ | ⟨h1, h2⟩ <;> rcases at2 j y hy with ⟨n', h1', h2'⟩ | ⟨h1', h2'⟩
    · have e := hD1.1 n n' x y (inA n x h2) (inA n' y h2') hxy
      subst e
      exact Option.some.inj (h1.symm.trans h1')
    · exact absurd (by rw [← hxy]; exact hD1.2 n x (inA n x h2)) (notA j y h1' h2')
    · exact absurd (by rw [hxy]; exact hD1.2 n' y (inA n' y h2')) (notA i x h1 h2)
    · exact hD.1 i j x y h2 h2' hxy
  · intro j q hq
    rcases at2 j q hq with ⟨n, h1, h2⟩ | ⟨h1, h2⟩
    · exact hF _ (hD1.2 n q (inA n q h2))
    · exact hD.2 j q h2
  · refine ⟨fun i j x y hx hy hxy => ?_, fun j q hq => hF q.1 (hD1.2 _ q (inB j q hq))⟩
    have h1 := hD1.1 _ _ x y (inB i x hx) (inB j y hy) hxy
    omega
  · intro i j x y hx hy hxy
    rcases at2 i x hx with ⟨n, h1, h2⟩ | ⟨h1, h2⟩
    · have e := hD1.1 _ _ x y (inA n x h2) (inB j y hy) hxy
      have := (List.getElem?_eq_some_iff.mp h2).1
      omega
    · exact notA i x h1 h2 (by rw [hxy]; exact hD1.2 _ y (inB j y hy))
section KC2
variable {p : Program} {l : Launch} {e : Env} {R : Room} {s : State} {m : MethodId} {args : Array Value} {below : List Frame} {meth : Method} {c : Code} {H : Heap} {locs : List Loc} {cells slots : Nat} {Q : State → Prop}
variable {cc : ByteArray} {pc : Nat} {ls : Array Slot} {rest st0 : List Value} {own : String} {D : va_G} {k : Nat → ClassId} {A : Nat → Prop} {ws : va_W} {S : Type} {w1 w1b : S → va_W} {mc ms : Nat} {wc : va_W}
theorem kBack (hW : KW D k A s ws H locs) (isC : List Nat) (hC : isC.map (fun i => ws[i]?) = wc.map some) {u : S} {t : State} {H1 : Heap} {locs1 : List Loc} (ht : t.heap = H1) (had : (w1 u).length = wc.length) (hB : kB D k (fun u => w1 u ++ w1b u) (va_A wc H.size) u t) (hk1 : ∀ q : Nat, q < H.size → ¬ va_A wc H.size q → H1[q]? = H[q]?) (hS1 : va_S A s.heap H1 locs1) : KW D k A s (setAll ws isC (w1 u) ++ w1b u) H1 locs1 := by
  obtain ⟨hP, hD, hS, hK, hA⟩ := hW
  obtain ⟨hP1, hK1, hD1⟩ := hB
  rw [ht] at hP1
  obtain ⟨a1, a2⟩ := setAll_back hP hD isC hC hk1 (va_free hD hS hA isC hC) had hP1 hD1
  exact ⟨a1, a2, hS1, hK, hA⟩
theorem kBack0 (hW : KW D k A s ws H locs) (isC : List Nat) (hC : isC.map (fun i => ws[i]?) = wc.map some) {u : S} {t : State} {H1 : Heap} {locs1 : List Loc} (ht : t.heap = H1) (had : (w1 u).length = wc.length) (hB : kB D k w1 (va_A wc H.size) u t) (hk1 : ∀ q : Nat, q < H.size → ¬ va_A wc H.size q → H1[q]? = H[q]?) (hS1 : va_S A s.heap H1 locs1) : KW D k A s (setAll ws isC (w1 u)) H1 locs1 := by
  have h := kBack (w1 := w1) (w1b := fun _ => []) hW isC hC ht had (by obtain ⟨h1, h2, h3⟩ := hB; exact ⟨by show va_P D vwCl (w1 u ++ []) t.heap; rw [List.append_nil]; exact h1, h2, by show va_D _ (w1 u ++ []); rw [List.append_nil]; exact h3⟩) hk1 hS1
  rwa [List.append_nil] at h
theorem kCi {post : Int32 → S → Prop} {a : Array Value} (hW : KW D k A s ws H locs) (isC : List Nat) (hC : isC.map (fun i => ws[i]?) = wc.map some) (had : ∀ u : S, (w1 u).length = wc.length)
    (hr : va_Run p l e R s m args below meth c H locs cells slots mc ms (F0 m pc ls st0) rest (va_Qi post (kB D k w1 (va_A wc H.size)) (va_A wc H.size) a) (va_A wc H.size))
    (kk : ∀ (r : Int32) (u : S) (H1 : Heap) (locs1 : List Loc), post r u → KW D k A s (setAll ws isC (w1 u)) H1 locs1 → W p l e R s m args below meth c H1 locs1 (cells + mc) (slots + ms) Q (F0 m (pc + 3) ls (.int r :: rest))) : W p l e R s m args below meth c H locs cells slots Q (F0 m pc ls st0) :=
  va_calli hr hW.2.2.1 (fun q _ h => va_free hW.2.1 hW.2.2.1 hW.2.2.2.2 isC hC q h) (va_free hW.2.1 hW.2.2.1 hW.2.2.2.2 isC hC) (fun r u t H1 locs1 ht _ hp hB _ hk1 hS1 => kk r u H1 locs1 hp (kBack0 hW isC hC ht (had u) hB hk1 hS1))
theorem kCl {post : Int64 → S → Prop} {a : Array Value} (hW : KW D k A s ws H locs) (isC : List Nat) (hC : isC.map (fun i => ws[i]?) = wc.map some) (had : ∀ u : S, (w1 u).length = wc.length)
    (hr : va_Run p l e R s m args below meth c H locs cells slots mc ms (F0 m pc ls st0) rest (va_Ql post (kB D k w1 (va_A wc H.size)) (va_A wc H.size) a) (va_A wc H.size))
    (kk : ∀ (r : Int64) (u : S) (H1 : Heap) (locs1 : List Loc), post r u → KW D k A s (setAll ws isC (w1 u)) H1 locs1 → W p l e R s m args below meth c H1 locs1 (cells + mc) (slots + ms) Q (F0 m (pc + 3) ls (.long r :: rest))) : W p l e R s m args below meth c H locs cells slots Q (F0 m pc ls st0) :=
  va_calll hr hW.2.2.1 (fun q _ h => va_free hW.2.1 hW.2.2.1 hW.2.2.2.2 isC hC q h) (va_free hW.2.1 hW.2.2.1 hW.2.2.2.2 isC hC) (fun r u t H1 locs1 ht _ hp hB _ hk1 hS1 => kk r u H1 locs1 hp (kBack0 hW isC hC ht (had u) hB hk1 hS1))
theorem kCv {post : S → Prop} {a : Array Value} (hW : KW D k A s ws H locs) (isC : List Nat) (hC : isC.map (fun i => ws[i]?) = wc.map some) (had : ∀ u : S, (w1 u).length = wc.length)
    (hr : va_Run p l e R s m args below meth c H locs cells slots mc ms (F0 m pc ls st0) rest (va_Qv post (kB D k w1 (va_A wc H.size)) (va_A wc H.size) a) (va_A wc H.size))
    (kk : ∀ (u : S) (H1 : Heap) (locs1 : List Loc), post u → KW D k A s (setAll ws isC (w1 u)) H1 locs1 → W p l e R s m args below meth c H1 locs1 (cells + mc) (slots + ms) Q (F0 m (pc + 3) ls rest)) : W p l e R s m args below meth c H locs cells slots Q (F0 m pc ls st0) :=
  va_callv hr hW.2.2.1 (fun q _ h => va_free hW.2.1 hW.2.2.1 hW.2.2.2.2 isC hC q h) (va_free hW.2.1 hW.2.2.1 hW.2.2.2.2 isC hC) (fun u t H1 locs1 ht _ hp hB _ hk1 hS1 => kk u H1 locs1 hp (kBack0 hW isC hC ht (had u) hB hk1 hS1))
/-- the same where the callee makes cells: w1b come behind -/
theorem kCiN {post : Int32 → S → Prop} {a : Array Value} (hW : KW D k A s ws H locs) (isC : List Nat) (hC : isC.map (fun i => ws[i]?) = wc.map some) (had : ∀ u : S, (w1 u).length = wc.length)
    (hr : va_Run p l e R s m args below meth c H locs cells slots mc ms (F0 m pc ls st0) rest (va_Qi post (kB D k (fun u => w1 u ++ w1b u) (va_A wc H.size)) (va_A wc H.size) a) (va_A wc H.size))
    (kk : ∀ (r : Int32) (u : S) (H1 : Heap) (locs1 : List Loc), post r u → KW D k A s (setAll ws isC (w1 u) ++ w1b u) H1 locs1 → W p l e R s m args below meth c H1 locs1 (cells + mc) (slots + ms) Q (F0 m (pc + 3) ls (.int r :: rest))) : W p l e R s m args below meth c H locs cells slots Q (F0 m pc ls st0) :=
  va_calli hr hW.2.2.1 (fun q _ h => va_free hW.2.1 hW.2.2.1 hW.2.2.2.2 isC hC q h) (va_free hW.2.1 hW.2.2.1 hW.2.2.2.2 isC hC) (fun r u t H1 locs1 ht _ hp hB _ hk1 hS1 => kk r u H1 locs1 hp (kBack hW isC hC ht (had u) hB hk1 hS1))
theorem kCvN {post : S → Prop} {a : Array Value} (hW : KW D k A s ws H locs) (isC : List Nat) (hC : isC.map (fun i => ws[i]?) = wc.map some) (had : ∀ u : S, (w1 u).length = wc.length)
    (hr : va_Run p l e R s m args below meth c H locs cells slots mc ms (F0 m pc ls st0) rest (va_Qv post (kB D k (fun u => w1 u ++ w1b u) (va_A wc H.size)) (va_A wc H.size) a) (va_A wc H.size))
    (kk : ∀ (u : S) (H1 : Heap) (locs1 : List Loc), post u → KW D k A s (setAll ws isC (w1 u) ++ w1b u) H1 locs1 → W p l e R s m args below meth c H1 locs1 (cells + mc) (slots + ms) Q (F0 m (pc + 3) ls rest)) : W p l e R s m args below meth c H locs cells slots Q (F0 m pc ls st0) :=
  va_callv hr hW.2.2.1 (fun q _ h => va_free hW.2.1 hW.2.2.1 hW.2.2.2.2 isC hC q h) (va_free hW.2.1 hW.2.2.1 hW.2.2.2.2 isC hC) (fun u t H1 locs1 ht _ hp hB _ hk1 hS1 => kk u H1 locs1 hp (kBack hW isC hC ht (had u) hB hk1 hS1))
end KC2
/-- an array's contents beyond its length don't count -/
theorem kcong {D : va_G} {k : Nat → ClassId} {A : Nat → Prop} {s : State} {ws : va_W} {H : Heap} {locs : List Loc} (h : KW D k A s ws H locs) (q0 : Nat) {a n : Nat} {cA : ClassId} {f f' : Nat → Int32} (he : ws[q0]? = some (a, .inl (cA, n, .inl f))) (hf : ∀ j, j < n → f j = f' j) : KW D k A s (ws.set q0 (a, .inl (cA, n, .inl f'))) H locs := by
  obtain ⟨hP, hD, hS, hK, hA⟩ := h
  have h0 := hP q0 _ he
  refine ⟨hP.set hD he ?_ (fun _ _ => rfl), hD.set he, hS, hK, hA⟩
  have e1 : H[a]? = some (vp_cell cA (n, .inl f)) := h0
  show H[a]? = some (vp_cell cA (n, .inl f'))
  rw [e1]
  have : arrV cA n (fun j => Value.int (f j)) = arrV cA n (fun j => Value.int (f' j)) := by
    unfold arrV
    congr 1
    apply Array.ext
    · simp
    · intro i h1 h2
      simp at h1 ⊢
      exact hf i h1
  rw [vp_cell_i, vp_cell_i, this]
