/-! METHODS THAT ANSWER A CELL -/
section KRR
variable {p : Program} {l : Launch} {e : Env} {R : Room} {s : State} {m : MethodId} {args : Array Value} {below : List Frame} {meth : Method} {c : Code} {H : Heap} {locs : List Loc} {cells slots : Nat} {Q : State → Prop}
variable {cc : ByteArray} {pc : Nat} {ls : Array Slot} {rest st0 : List Value} {own : String} {D : va_G} {k : Nat → ClassId} {A : Nat → Prop} {ws wc : va_W} {mc ms : Nat} {w1 w1b : Nat → va_W}
theorem karet {ra : Nat} {rt : FieldType} (hX : FX p s m c args cc own) (hr : meth.sig.returnType = some rt) (hrt : (∃ n, rt = .object n) ∨ ∃ t, rt = .array t) (hlocks : meth.locks = false) (hQ : ∀ t, MQ below (va_Qr (fun _ : Unit => True) (fun _ ra t => kB D k (fun u => w1 u ++ w1b u) A ra t) A) args s cells slots A t → Q t) (hW : KW D k A s (w1 ra ++ w1b ra) H locs) (hdg : decode cc pc = .ok (.areturn, 1)) : W p l e R s m args below meth c H locs cells slots Q (F0 m pc ls [.ref ra]) :=
  wmono hQ (W.aret hX.1 hX.2.1 hr hrt (Or.inr ⟨ra, rfl⟩) (fun t ht hV => ⟨⟨(), ra, rfl, trivial, by rw [ht]; exact hW.1, va_K.moved hV.alike hW.2.2.2.1, hW.2.1⟩, hW.2.2.1.F ht⟩) hW.2.2.1.2.2 hdg)
theorem kCrN {a : Array Value} (hW : KW D k A s ws H locs) (isC : List Nat) (hC : isC.map (fun i => ws[i]?) = wc.map some) (had : ∀ u : Nat, (w1 u).length = wc.length)
    (hr : va_Run p l e R s m args below meth c H locs cells slots mc ms (F0 m pc ls st0) rest (va_Qr (fun _ : Unit => True) (fun _ ra t => kB D k (fun u => w1 u ++ w1b u) (va_A wc H.size) ra t) (va_A wc H.size) a) (va_A wc H.size))
    (kk : ∀ (ra : Nat) (H1 : Heap) (locs1 : List Loc), KW D k A s (setAll ws isC (w1 ra) ++ w1b ra) H1 locs1 → W p l e R s m args below meth c H1 locs1 (cells + mc) (slots + ms) Q (F0 m (pc + 3) ls (.ref ra :: rest))) : W p l e R s m args below meth c H locs cells slots Q (F0 m pc ls st0) :=
  va_callr hr hW.2.2.1 (fun q _ h => va_free hW.2.1 hW.2.2.1 hW.2.2.2.2 isC hC q h) (va_free hW.2.1 hW.2.2.1 hW.2.2.2.2 isC hC) (fun _ ra t H1 locs1 ht _ _ hB _ hk1 hS1 => kk ra H1 locs1 (kBack hW isC hC ht (had ra) hB hk1 hS1))
end KRR
