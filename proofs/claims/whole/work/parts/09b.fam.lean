/-! WHOLE-WORLD CALLS (the callee takes all cells), families of cells, the parser's world -/
section KC3
variable {p : Program} {l : Launch} {e : Env} {R : Room} {s : State} {m : MethodId} {args : Array Value} {below : List Frame} {meth : Method} {c : Code} {H : Heap} {locs : List Loc} {cells slots : Nat} {Q : State → Prop}
variable {cc : ByteArray} {pc : Nat} {ls : Array Slot} {rest st0 : List Value} {own : String} {D : va_G} {k : Nat → ClassId} {A : Nat → Prop} {ws : va_W} {S : Type} {w1 : S → va_W} {mc ms : Nat}
variable {y : MethodName} {bytes : ByteArray} {maxL nL n index : Nat} {ret : Option FieldType} {rm : Room} {Qc : Array Value → State → Outcome → State → Prop} {b : Nat} {As : List Value}
theorem kRunW (hX : FX p s m c args cc own) (hml : c.maxLocals = nL) (hW : KW D k A s ws H locs) (hM : Met l y (.code y bytes maxL ret :: wsU) rm (kPre D k (.ref b :: As) ws H.size) Qc mc ms (va_A ws H.size))
    (h1 : Cond.methodLink own index y ∈ wsU) (h2 : Cond.instanceMethod y ∈ wsU) (h3 : Cond.selects y.cls y y ∈ wsU) (h4 : Cond.initialized y.cls ∈ wsU) (h5 : Cond.code y bytes maxL ret ∈ wsU) {ci : Nat} {fs : List Value} {T : u_T} {N : Nat} (q0 : Nat) (he : ws[q0]? = some (b, .inr (ci, fs))) (hc : vwCl[ci]? = some (y.cls, T, N))
    (hd : y.cls ≠ "java/lang/invoke/MethodHandle" ∧ y.cls ≠ "java/lang/invoke/VarHandle" ∧ (parseMethodDescriptor y.desc).map (fun d => d.parameters.length) = some n) (hrm : rm.cells = mc ∧ rm.slots = ms ∧ rm.frames + 1 ≤ R.frames ∧ 8 + (maxL + 11) + rm.locals ≤ R.locals) (hAs : As.length = n) (hsize : ls.size = nL) (hst : st0 = As.reverse ++ .ref b :: rest) (hroom : (rest.map fun v => v.category).sum ≤ 8) (hdg : decode cc pc = .ok (.invokevirtual index, 3)) (hf : cells + mc ≤ R.cells ∧ slots + ms ≤ R.slots) :
    va_Run p l e R s m args below meth c H locs cells slots mc ms (F0 m pc ls st0) rest (Qc (Value.ref b :: As).toArray) (va_A ws H.size) := by
  obtain ⟨hx, hb, hown, hts⟩ := hX
  obtain ⟨hPc, hDc, hS, hK, hA⟩ := hW
  have hG : GoodIn wsU (wsV own index y.cls y (.code y bytes maxL ret :: wsU)) := by
    intro w hw
    rcases List.mem_append.mp (show w ∈ ([.methodLink own index y, .instanceMethod y, .selects y.cls y y, .initialized y.cls] : List Cond) ++ (.code y bytes maxL ret :: wsU) from hw) with z | z
    · simp only [List.mem_cons, List.not_mem_nil, or_false] at z
      rcases z with rfl | rfl | rfl | rfl
      · exact ⟨h1, wU_good h1⟩
      · exact ⟨h2, wU_good h2⟩
      · exact ⟨h3, wU_good h3⟩
      · exact ⟨h4, wU_good h4⟩
    · exact wU_gT h5 w z
  exact va_runV (As := As) (rest := rest) (C := y.cls) ⟨hx, hb, hml, hown, hts⟩ hM (cwV n hts hG rfl hrm.1 hrm.2.1 ⟨rfl, hd⟩ hrm.2.2) ⟨kPre_blind, va_recv hK hPc hc he, fun U hU hV => ⟨rfl, by rw [hU], by rw [hU]; exact hPc, va_K.moved hV.alike hK, hDc.weaken (fun _ _ _ _ => trivial)⟩⟩ rfl hAs hsize hst (lv_room hroom) hdg hf
theorem kfreeW (hW : KW D k A s ws H locs) : ∀ q, va_A ws H.size q → A q := by
  obtain ⟨hP, hD, hS, hK, hA⟩ := hW
  intro q h
  rcases h with ⟨n, e, h⟩ | h
  · exact hD.2 n _ h
  · exact hA q (Nat.le_trans hS.1 h)
theorem kBackW (hW : KW D k A s ws H locs) {u : S} {t : State} {H1 : Heap} {locs1 : List Loc} (ht : t.heap = H1) (hB : kB D k w1 (va_A ws H.size) u t) (hS1 : va_S A s.heap H1 locs1) : KW D k A s (w1 u) H1 locs1 := by
  obtain ⟨hP1, hK1, hD1⟩ := hB
  rw [ht] at hP1
  exact ⟨hP1, hD1.weaken (fun _ q _ h => kfreeW hW q.1 h), hS1, hW.2.2.2.1, hW.2.2.2.2⟩
theorem kWi {post : Int32 → S → Prop} {a : Array Value} (hW : KW D k A s ws H locs)
    (hr : va_Run p l e R s m args below meth c H locs cells slots mc ms (F0 m pc ls st0) rest (va_Qi post (kB D k w1 (va_A ws H.size)) (va_A ws H.size) a) (va_A ws H.size))
    (kk : ∀ (r : Int32) (u : S) (H1 : Heap) (locs1 : List Loc), post r u → KW D k A s (w1 u) H1 locs1 → W p l e R s m args below meth c H1 locs1 (cells + mc) (slots + ms) Q (F0 m (pc + 3) ls (.int r :: rest))) : W p l e R s m args below meth c H locs cells slots Q (F0 m pc ls st0) :=
  va_calli hr hW.2.2.1 (fun q _ h => kfreeW hW q h) (kfreeW hW) (fun r u t H1 locs1 ht _ hp hB _ hk1 hS1 => kk r u H1 locs1 hp (kBackW hW ht hB hS1))
theorem kWl {post : Int64 → S → Prop} {a : Array Value} (hW : KW D k A s ws H locs)
    (hr : va_Run p l e R s m args below meth c H locs cells slots mc ms (F0 m pc ls st0) rest (va_Ql post (kB D k w1 (va_A ws H.size)) (va_A ws H.size) a) (va_A ws H.size))
    (kk : ∀ (r : Int64) (u : S) (H1 : Heap) (locs1 : List Loc), post r u → KW D k A s (w1 u) H1 locs1 → W p l e R s m args below meth c H1 locs1 (cells + mc) (slots + ms) Q (F0 m (pc + 3) ls (.long r :: rest))) : W p l e R s m args below meth c H locs cells slots Q (F0 m pc ls st0) :=
  va_calll hr hW.2.2.1 (fun q _ h => kfreeW hW q h) (kfreeW hW) (fun r u t H1 locs1 ht _ hp hB _ hk1 hS1 => kk r u H1 locs1 hp (kBackW hW ht hB hS1))
theorem kWv {post : S → Prop} {a : Array Value} (hW : KW D k A s ws H locs)
    (hr : va_Run p l e R s m args below meth c H locs cells slots mc ms (F0 m pc ls st0) rest (va_Qv post (kB D k w1 (va_A ws H.size)) (va_A ws H.size) a) (va_A ws H.size))
    (kk : ∀ (u : S) (H1 : Heap) (locs1 : List Loc), post u → KW D k A s (w1 u) H1 locs1 → W p l e R s m args below meth c H1 locs1 (cells + mc) (slots + ms) Q (F0 m (pc + 3) ls rest)) : W p l e R s m args below meth c H locs cells slots Q (F0 m pc ls st0) :=
  va_callv hr hW.2.2.1 (fun q _ h => kfreeW hW q h) (kfreeW hW) (fun u t H1 locs1 ht _ hp hB _ hk1 hS1 => kk u H1 locs1 hp (kBackW hW ht hB hS1))
end KC3
def fam (n : Nat) (c : Nat → Nat × va_E) : va_W := (List.range n).map c
theorem fam_len (n : Nat) (c : Nat → Nat × va_E) : (fam n c).length = n := by simp [fam]
theorem fam_at {X Y : va_W} {n d : Nat} {c : Nat → Nat × va_E} (hd : d < n) : (X ++ (fam n c ++ Y))[X.length + d]? = some (c d) := by
  rw [List.getElem?_append_right (by omega), show X.length + d - X.length = d by omega, List.getElem?_append_left (by rw [fam_len]; exact hd)]
  simp [fam, hd]
theorem fam_set {X Y : va_W} {n d : Nat} {c : Nat → Nat × va_E} (hd : d < n) (x : Nat × va_E) : (X ++ (fam n c ++ Y)).set (X.length + d) x = X ++ (fam n (va_up c d x) ++ Y) := by
  apply List.ext_getElem?
  intro j
  rcases Nat.lt_or_ge j X.length with h | h
  · rw [List.getElem?_set_ne (by omega), List.getElem?_append_left h, List.getElem?_append_left h]
  · obtain ⟨i, rfl⟩ : ∃ i, j = X.length + i := ⟨j - X.length, by omega⟩
    rcases Nat.lt_or_ge i n with h2 | h2
    · rw [fam_at h2]
      by_cases hi : i = d
      · subst hi
        rw [List.getElem?_set_self (by rw [List.length_append, List.length_append, fam_len]; omega), va_up_self]
      · rw [List.getElem?_set_ne (by omega), fam_at h2, va_up_ne _ _ hi]
    · have e1 : ∀ c' : Nat → Nat × va_E, (X ++ (fam n c' ++ Y))[X.length + i]? = Y[i - n]? := by
        intro c'
        rw [List.getElem?_append_right (by omega), show X.length + i - X.length = i by omega, List.getElem?_append_right (by rw [fam_len]; omega), fam_len]
      rw [List.getElem?_set_ne (by omega), e1, e1]
abbrev PT : Type := Nat × Nat × Bool
def ptE (v : PT) : va_E := .inr (3, [.int (nI v.1), .int (nI v.2.1), .int (nI v.2.2.toNat)])
def pfm (q : Nat → Nat) (v : Nat → PT) : va_W := fam 9 (fun i => (q i, ptE (v i)))
theorem pfm_at {X Y : va_W} {d : Nat} {q : Nat → Nat} {v : Nat → PT} (hd : d < 9) : (X ++ (pfm q v ++ Y))[X.length + d]? = some (q d, ptE (v d)) := fam_at hd
theorem pfm_set {X Y : va_W} {d : Nat} {q : Nat → Nat} {v : Nat → PT} (hd : d < 9) (x : PT) : (X ++ (pfm q v ++ Y)).set (X.length + d) (q d, ptE x) = X ++ (pfm q (va_up v d x) ++ Y) := by
  unfold pfm
  rw [fam_set hd]
  congr 2
  unfold fam
  apply List.map_congr_left
  intro i _
  by_cases hi : i = d
  · subst hi; rw [va_up_self, va_up_self]
  · rw [va_up_ne _ _ hi, va_up_ne _ _ hi]
/-- the parser's cells, then what else there is -/
def prW (k : Nat → ClassId) (pr sa ra fc : Nat) (sq rq : Nat → Nat) (fw : Bool) (dp : Nat) (F : PT) (S Rw : Nat → PT) (Y : va_W) : va_W := [(pr, .inr (2, [.ref sa, .ref ra, .ref fc, .int (nI fw.toNat), .int (nI dp)])), (sa, .inl (k 4, 9, .inr (.inr (.inr (.inr (fun j => some (sq j))))))), (ra, .inl (k 4, 9, .inr (.inr (.inr (.inr (fun j => some (rq j))))))), (fc, ptE F)] ++ (pfm sq S ++ (pfm rq Rw ++ Y))
section PRW
variable {k : Nat → ClassId} {pr sa ra fc : Nat} {sq rq : Nat → Nat} {fw : Bool} {dp : Nat} {F : PT} {S Rw : Nat → PT} {Y : va_W} {d : Nat}
theorem prW_s (hd : d < 9) : (prW k pr sa ra fc sq rq fw dp F S Rw Y)[4 + d]? = some (sq d, ptE (S d)) := pfm_at (X := [_, _, _, _]) hd
theorem prW_assoc : prW k pr sa ra fc sq rq fw dp F S Rw Y = ([(pr, .inr (2, [.ref sa, .ref ra, .ref fc, .int (nI fw.toNat), .int (nI dp)])), (sa, .inl (k 4, 9, .inr (.inr (.inr (.inr (fun j => some (sq j))))))), (ra, .inl (k 4, 9, .inr (.inr (.inr (.inr (fun j => some (rq j))))))), (fc, ptE F)] ++ pfm sq S) ++ (pfm rq Rw ++ Y) := by
  unfold prW; rw [List.append_assoc]
theorem prW_len4 (X : va_W) (h : X.length = 4) : (X ++ pfm sq S).length = 13 := by rw [List.length_append, h]; unfold pfm; rw [fam_len]
theorem prW_r (hd : d < 9) : (prW k pr sa ra fc sq rq fw dp F S Rw Y)[13 + d]? = some (rq d, ptE (Rw d)) := by
  rw [prW_assoc]
  have h := pfm_at (X := [(pr, .inr (2, [.ref sa, .ref ra, .ref fc, .int (nI fw.toNat), .int (nI dp)])), (sa, .inl (k 4, 9, .inr (.inr (.inr (.inr (fun j => some (sq j))))))), (ra, .inl (k 4, 9, .inr (.inr (.inr (.inr (fun j => some (rq j))))))), (fc, ptE F)] ++ pfm sq S) (Y := Y) (q := rq) (v := Rw) hd
  rwa [prW_len4 _ rfl] at h
theorem prW_setS (hd : d < 9) (x : PT) : (prW k pr sa ra fc sq rq fw dp F S Rw Y).set (4 + d) (sq d, ptE x) = prW k pr sa ra fc sq rq fw dp F (va_up S d x) Rw Y := pfm_set (X := [_, _, _, _]) hd x
theorem prW_setR (hd : d < 9) (x : PT) : (prW k pr sa ra fc sq rq fw dp F S Rw Y).set (13 + d) (rq d, ptE x) = prW k pr sa ra fc sq rq fw dp F S (va_up Rw d x) Y := by
  rw [prW_assoc, prW_assoc]
  have h := pfm_set (X := [(pr, .inr (2, [.ref sa, .ref ra, .ref fc, .int (nI fw.toNat), .int (nI dp)])), (sa, .inl (k 4, 9, .inr (.inr (.inr (.inr (fun j => some (sq j))))))), (ra, .inl (k 4, 9, .inr (.inr (.inr (.inr (fun j => some (rq j))))))), (fc, ptE F)] ++ pfm sq S) (Y := Y) (q := rq) (v := Rw) hd x
  rwa [prW_len4 _ rfl] at h
end PRW
