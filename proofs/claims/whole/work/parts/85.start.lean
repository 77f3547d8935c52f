/-! THE LAW: its start -/
theorem arrI {args : Array Value} {s : State} {ty : FieldType} (h : (Cond.arrayClass ty).before args s = true) : ∃ cA, ArrOfT s cA ty ∧ s.vm.findClass ("[" ++ ty.toString) = some cA := by
  obtain ⟨c, k, comp, h1, h2, h3⟩ := Cond.arrayClass_spec h
  exact ⟨c, fun n z => ⟨(fun k h => by cases h), k, h2, comp, h3⟩, h1⟩
theorem arrO {s : State} {C : String} (h : va_AO C s) : ∃ cA, ArrOfT s cA (.object C) ∧ va_RA s cA (.object C) := by
  obtain ⟨comp, c, k, h1, h2, h3, h4, h5⟩ := Cond.arrayOver_spec h
  exact ⟨c, fun n z => ⟨(fun k h => by cases h), k, h3, comp, h4⟩, k, comp, h3, h4, h1, h5⟩
theorem start_K {args : Array Value} {s : State} (hts : ∀ w ∈ wsU, w.before args s = true) (h1 : va_AO R_Ex s) (h2 : va_AO R_Pt s) : ∃ (D : va_G) (k : Nat → ClassId), va_K D vwCl (tyA k) s := by
  have hc : ∀ c : Nat, ∃ r : ClassId × (Nat → Nat), ∀ q : vw_C, vwCl[c]? = some q → u_Kn s q.1 q.2.1 q.2.2 r.1 r.2 := by
    intro c
    match c with
    | 0 =>
      obtain ⟨a, b, h⟩ := u_known hts i_Ex (hts _ it_Ex)
      exact ⟨(a, b), fun q hq => by cases hq; exact h⟩
    | 1 =>
      obtain ⟨a, b, h⟩ := u_known hts i_Ma (hts _ it_Ma)
      exact ⟨(a, b), fun q hq => by cases hq; exact h⟩
    | 2 =>
      obtain ⟨a, b, h⟩ := u_known hts i_Pr (hts _ it_Pr)
      exact ⟨(a, b), fun q hq => by cases hq; exact h⟩
    | 3 =>
      obtain ⟨a, b, h⟩ := u_known hts i_Pt (hts _ it_Pt)
      exact ⟨(a, b), fun q hq => by cases hq; exact h⟩
    | 4 =>
      obtain ⟨a, b, h⟩ := u_known hts i_Se (hts _ it_Se)
      exact ⟨(a, b), fun q hq => by cases hq; exact h⟩
    | 5 =>
      obtain ⟨a, b, h⟩ := u_known hts i_Ta (hts _ it_Ta)
      exact ⟨(a, b), fun q hq => by cases hq; exact h⟩
    | 6 =>
      obtain ⟨a, b, h⟩ := u_known hts i_Wo (hts _ it_Wo)
      exact ⟨(a, b), fun q hq => by cases hq; exact h⟩
    | 7 =>
      obtain ⟨a, b, h⟩ := u_known hts i_Ws (hts _ it_Ws)
      exact ⟨(a, b), fun q hq => by cases hq; exact h⟩
    | 8 =>
      obtain ⟨a, b, h⟩ := u_known hts i_Md (hts _ it_Md)
      exact ⟨(a, b), fun q hq => by cases hq; exact h⟩
    | c + 9 => exact ⟨(Classical.choice ⟨(0 : Nat)⟩, fun _ => 0), fun q hq => by cases hq⟩
  obtain ⟨f, hf⟩ := Classical.axiomOfChoice hc
  obtain ⟨a0, p0, q0⟩ := arrI (hts _ ac_int)
  obtain ⟨a1, p1, q1⟩ := arrI (hts _ ac_long)
  obtain ⟨a2, p2, q2⟩ := arrI (hts _ ac_boolean)
  obtain ⟨a3, p3, q3⟩ := arrO h1
  obtain ⟨a4, p4, q4⟩ := arrO h2
  refine ⟨(fun c => (f c).1, fun c => (f c).2), fun j => if j = 0 then a0 else if j = 1 then a1 else if j = 2 then a2 else if j = 3 then a3 else a4, fun c q hq => hf c q hq, fun j q hq => ?_⟩
  match j, hq with
  | 0, hq => cases hq; exact ⟨p0, q0⟩
  | 1, hq => cases hq; exact ⟨p1, q1⟩
  | 2, hq => cases hq; exact ⟨p2, q2⟩
  | 3, hq => cases hq; exact ⟨p3, q3⟩
  | 4, hq => cases hq; exact ⟨p4, q4⟩
theorem strR {args : Array Value} {s : State} {k : Nat} {tx : String} (h1 : (Cond.stringRef R_Ws k tx).before args s = true) (h2 : (Cond.exactly (.string R_Ws k) "java/lang/String").before args s = true) : ∃ a, vk_R R_Ws k tx a s := by
  obtain ⟨a, ha⟩ : ∃ a, (Term.string R_Ws k).eval args s none [] s = some (.ref a) := by
    obtain ⟨a, _, _, _, q1, _⟩ := Cond.exactly_spec (args := args) (first := s) (o := none) (s := s) (idx := []) (t := .string R_Ws k) (cls := "java/lang/String") h2
    exact ⟨a, q1⟩
  exact ⟨a, vk_R.of h1 ha⟩
theorem SLR_zero (a : Nat) : SLR (fun _ => 0) (fun _ => 0) 0 0 (fun _ => 0) (fun _ => 0) (fun _ => 0) (fun _ => 0) (fun _ => 0) (fun _ => 0) a :=
  ⟨⟨rfl, by decide, rfl, by decide, (show (0 : Nat) < 2 ^ 0 by decide), (show (0 : Nat) ≤ 1 by decide), rfl⟩, fun j h => absurd h (Nat.not_lt_zero _), fun _ _ _ => rfl, fun ch _ j => by rw [Nat.zero_testBit]; exact (decide_eq_false (fun h => absurd h.1 (Nat.not_lt_zero _))).symm⟩
set_option maxRecDepth 100000 in
theorem start_N {b : Nat} {s : State} (hts : ∀ w ∈ lw_tbl, w.before #[Value.ref b] s = true) : nOK s :=
  ⟨va_Nw.of rfl (hts (.methodLinkNest R_Ws 9 y_Ta_init R_Ws) (by decide +kernel)), va_Nw.of rfl (hts (.methodLinkNest R_Ws 22 y_Ex_init R_Ws) (by decide +kernel)), va_Nw.of rfl (hts (.methodLinkNest R_Pr 20 y_Pt_init R_Ws) (by decide +kernel)), va_Nw.of rfl (hts (.methodLinkNest R_Ws 36 y_Ma_init R_Ws) (by decide +kernel)), va_Nw.of rfl (hts (.methodLinkNest R_Ws 43 y_Se_init R_Ws) (by decide +kernel)), va_Nw.of rfl (hts (.methodLinkNest R_Ws 50 y_Wo_init R_Ws) (by decide +kernel)), va_AO.of (hts (.arrayOver (.object R_Ex)) (by decide +kernel)), va_AO.of (hts (.arrayOver (.object R_Pt)) (by decide +kernel))⟩
set_option maxRecDepth 100000 in
theorem start_O {b : Nat} {s : State} (hts : ∀ w ∈ lw_tbl, w.before #[Value.ref b] s = true) (hfl : ∀ w ∈ flatC (Jvm.Cond.and given_1 narrow_1), w.before #[Value.ref b] s = true) : xOK s :=
  ⟨fun w hw => va_Nw.of (Bool.and_eq_true_iff.mp (xB_c w hw)).1 (hts w (xB_in w hw)), strR (hts (.stringRef R_Ws 64 "n is not 1 to 8") (by decide +kernel)) (hfl (.exactly (.string R_Ws 64) "java/lang/String") (by decide +kernel)), strR (hts (.stringRef R_Ws 75 "more than 80 bytes") (by decide +kernel)) (hfl (.exactly (.string R_Ws 75) "java/lang/String") (by decide +kernel)), strR (hts (.stringRef R_Ws 97 "the text is wrong") (by decide +kernel)) (hfl (.exactly (.string R_Ws 97) "java/lang/String") (by decide +kernel)), strR (hts (.stringRef R_Ws 109 "a byte is no letter") (by decide +kernel)) (hfl (.exactly (.string R_Ws 109) "java/lang/String") (by decide +kernel)), strR (hts (.stringRef R_Ws 134 "k is below 0") (by decide +kernel)) (hfl (.exactly (.string R_Ws 134) "java/lang/String") (by decide +kernel)), strR (hts (.stringRef R_Ws 151 "no such letter") (by decide +kernel)) (hfl (.exactly (.string R_Ws 151) "java/lang/String") (by decide +kernel)), strR (hts (.stringRef R_Ws 156 "no such slot") (by decide +kernel)) (hfl (.exactly (.string R_Ws 156) "java/lang/String") (by decide +kernel)), strR (hts (.stringRef R_Ws 158 "no such length") (by decide +kernel)) (hfl (.exactly (.string R_Ws 158) "java/lang/String") (by decide +kernel)), va_Nc.of (hfl (.not (.castable xIS xIA)) (by decide +kernel))⟩
set_option maxRecDepth 100000 in
theorem start_Z {b : Nat} {s : State} (hts : ∀ w ∈ lw_tbl, w.before #[Value.ref b] s = true) (hfl : ∀ w ∈ flatC (Jvm.Cond.and given_1 narrow_1), w.before #[Value.ref b] s = true) : xZ (AL s) s s.heap :=
  ⟨vx_Zqof (hts (.laysStatic Bundle.tN "UNASSIGNED_STACK" Bundle.steD) (by decide +kernel)) (hts (.initialized Bundle.tN) (by decide +kernel)) (hfl (.isRef (.static Bundle.tN "UNASSIGNED_STACK" Bundle.steD)) (by decide +kernel)) (fun a h => Nat.not_le.mpr h), vx_Zqof (hts (.laysStatic Bundle.tN "SUPPRESSED_SENTINEL" Bundle.listD) (by decide +kernel)) (hts (.initialized Bundle.tN) (by decide +kernel)) (hfl (.isRef (.static Bundle.tN "SUPPRESSED_SENTINEL" Bundle.listD)) (by decide +kernel)) (fun a h => Nat.not_le.mpr h)⟩
