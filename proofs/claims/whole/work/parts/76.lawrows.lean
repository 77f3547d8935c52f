/-! THE LAW: what it stands on -/
abbrev AL (s : State) : Nat → Prop := fun q => s.heap.size ≤ q
def sxx (a b : Int32) : Int64 := (a.toInt64 <<< ((nI 32).toInt64 &&& 63)) ||| (b.toInt64 &&& 4294967295)
/-- what holds all along the law -/
def LC (p : Program) (l : Launch) (s : State) (m : MethodId) (meth : Method) (c : Code) (b L : Nat) (xs : Nat → Int32) : Prop := l.stackTraces = false ∧ FX p s m c #[Value.ref b] code R_Lw ∧ c.maxLocals = 8 ∧ xOK s ∧ xZ (AL s) s s.heap ∧ va_X b L xs s s.heap ∧ b < s.heap.size ∧ L ≤ 2560
section KLW
variable {p : Program} {l : Launch} {e : Env} {R : Room} {s : State} {m : MethodId} {args : Array Value} {below : List Frame} {meth : Method} {c : Code} {H : Heap} {locs : List Loc} {cells slots : Nat} {Q : State → Prop}
variable {cc : ByteArray} {pc : Nat} {ls : Array Slot} {rest : List Value} {own : String} {D : va_G} {k : Nat → ClassId} {A : Nat → Prop} {ws : va_W}
theorem krlald (hX : FX p s m c args cc own) (hW : KW D k A s ws H locs) (q0 : Nat) {a n i : Nat} {f : Nat → Int64} (he : ws[q0]? = some (a, .inl (k 1, n, .inr (.inl f)))) (hi : i < n) (hn : n < 2 ^ 31) (hdg : decode cc pc = .ok (.laload, 1))
    (kk : W p l e R s m args below meth c H locs cells slots Q (F0 m (pc + 1) ls (.long (f i) :: rest))) : W p l e R s m args below meth c H locs cells slots Q (F0 m pc ls (.int (nI i) :: .ref a :: rest)) :=
  va_lald hX.1 hX.2.1 hW.2.2.2.1 hW.1 q0 1 he rfl (vp_in_nI hi hn) hdg (tpl (by rw [nI_clamp (by omega)]) kk)
theorem klcmp_same (hX : FX p s m c args cc own) {x y : Int64} {off : Int} {tgt : Nat} (hxy : y = x) (hd1 : decode cc pc = .ok (.lcmp, 1)) (hd2 : decode cc (pc + 1) = .ok (.ifCond .eq off, 3)) (ht : ((pc + 1 : Nat) : Int) + off = (tgt : Int))
    (kt : W p l e R s m args below meth c H locs cells slots Q (F0 m tgt ls rest)) : W p l e R s m args below meth c H locs cells slots Q (F0 m pc ls (.long x :: .long y :: rest)) :=
  W.lcmp hX.1 hX.2.1 hd1 (lv_if_eq hX.1 hX.2.1 hd2 ht (fun _ => kt) (fun h => absurd (lg_cmp_0.mpr hxy) h))
theorem kicmp_same (hX : FX p s m c args cc own) {x y : Int32} {off : Int} {tgt : Nat} (hxy : y = x) (hd : decode cc pc = .ok (.if_icmp .eq off, 3)) (ht : (pc : Int) + off = (tgt : Int))
    (kt : W p l e R s m args below meth c H locs cells slots Q (F0 m tgt ls rest)) : W p l e R s m args below meth c H locs cells slots Q (F0 m pc ls (.int x :: .int y :: rest)) :=
  lv_icmp_eq hX.1 hX.2.1 hd ht (fun _ => kt) (fun h => absurd hxy h)
theorem ksld {b L i : Nat} {xs : Nat → Int32} (hX : FX p s m c args cc own) (hXs : va_X b L xs s s.heap) (hbl : b < s.heap.size) (hbA : ¬ A b) (hW : KW D k A s ws H locs) (hi : i < L) (hL : L ≤ 2560) (hdg : decode cc pc = .ok (.iaload, 1))
    (kk : W p l e R s m args below meth c H locs cells slots Q (F0 m (pc + 1) ls (.int (xs i) :: rest))) : W p l e R s m args below meth c H locs cells slots Q (F0 m pc ls (.int (nI i) :: .ref b :: rest)) :=
  va_sld hX.1 hX.2.1 hXs hbl hbA hW.2.2.1 (vp_in_nI hi (by omega)) hdg (tpi (by rw [nI_clamp (by omega)]) kk)
end KLW
