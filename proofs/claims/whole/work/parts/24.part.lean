/-! THE SEARCH: the whole -/
/-- whether a set of positions is at an end -/
def tl (S en : Nat) : Bool := decide (S &&& en ≠ 0)
theorem tl_if (S en : Nat) : (if S &&& en = 0 then 0 else 1) = (tl S en).toNat := by unfold tl; split <;> simp [*]
def who (x y : Bool) : Nat := if x = y then 0 else if x then 1 else 2
theorem who_le (x y : Bool) : who x y ≤ 2 := by cases x <;> cases y <;> decide
/-- from the pair t on (fuel r): who tells alone (0: none), at which pair, the queue -/
def pt (FO1 SP1 FO2 SP2 : Nat → Nat) (en1 en2 wa : Nat) : Nat → Nat → QZ → Nat × Nat × QZ
  | 0, _, q => (0, 0, q)
  | r + 1, t, q => if t < q.1 then (if who (tl (q.2.2.1 t) en1) (tl (q.2.2.2.1 t) en2) &&& wa = 0 then pt FO1 SP1 FO2 SP2 en1 en2 wa r (t + 1) (gi SP1 SP2 (onw FO1 (q.2.2.1 t) 9) (onw FO2 (q.2.2.2.1 t) 9) t q 4) else (who (tl (q.2.2.1 t) en1) (tl (q.2.2.2.1 t) en2) &&& wa, t, q)) else (0, 0, q)
theorem pt_mono {FO1 SP1 FO2 SP2 : Nat → Nat} {en1 en2 wa : Nat} (h1 : ∀ p, p < 9 → FO1 p < 256) (h2 : ∀ p, p < 9 → FO2 p < 256) : ∀ r t q, QI q → q.2.1 ≤ (pt FO1 SP1 FO2 SP2 en1 en2 wa r t q).2.2.2.1 ∧ QI (pt FO1 SP1 FO2 SP2 en1 en2 wa r t q).2.2 := by
  intro r
  induction r with
  | zero => intro t q h; exact ⟨Nat.le_refl _, h⟩
  | succ r ih =>
    intro t q h
    rw [pt]
    split
    · rename_i ht
      split
      · have g := gi_ok (SP1 := SP1) (SP2 := SP2) (onw_lt (S := q.2.2.1 t) h1 9 (Nat.le_refl _)) (onw_lt (S := q.2.2.2.1 t) h2 9 (Nat.le_refl _)) ht h 4 (Nat.le_refl _)
        have i := ih (t + 1) _ g.1
        exact ⟨by have := g.2.2; omega, i.2⟩
      · exact ⟨Nat.le_refl _, h⟩
    · exact ⟨Nat.le_refl _, h⟩
/-- how long the word is -/
def pn (o : Nat × Nat × QZ) : Nat := if o.1 = 0 then 0 else wl o.2.2.2.2.2.2.1 o.2.2.1 o.2.1
def pq0 (cp : Nat) (FI SC OG : Nat → Nat) : QZ := (1, cp, va_up FI 0 256, va_up SC 0 256, va_up OG 0 0, fun _ => 0)
theorem QI_0 {cp : Nat} {FI SC OG : Nat → Nat} (h1 : 64 ≤ cp) (h2 : cp ≤ 131072) : QI (pq0 cp FI SC OG) := ⟨⟨by decide, by omega, h1, h2⟩, fun w _ => by show (0 : Nat) < 2 ^ 64; decide, ⟨va_up_self _ _ _, va_up_self _ _ _, va_up_self _ _ _⟩, fun j h h3 => by omega, fun i j h h3 => by omega⟩
theorem exAt_2 {k : Nat → ClassId} {X : va_W} {x h f g : Nat} {FO SP : Nat → Nat} {en n : Nat} (a b : Nat × va_E) (E : exAt k X x h f g FO SP en n) : exAt k (a :: b :: X) (x + 2) h f g FO SP en n := ⟨E.1, E.2.1, E.2.2⟩
set_option maxHeartbeats 4000000 in
set_option maxRecDepth 100000 in
/-- part(first, second, wanted, word) -/
theorem ok_Se_part (l : Launch) (D : va_G) (k : Nat → ClassId) (sz : Nat) (se sn fi sc og : Nat) (SN FI SC OG : Nat → Nat) (z cp : Nat) (wo wl1 : Nat) (L : Nat → Nat) (y cw : Nat) (X : va_W) (p1 h1 f1 g1 : Nat) (FO1 SP1 : Nat → Nat) (en1 n1 : Nat) (E1 : exAt k X p1 h1 f1 g1 FO1 SP1 en1 n1) (p2 h2 f2 g2 : Nat) (FO2 SP2 : Nat → Nat) (en2 n2 : Nat) (E2 : exAt k X p2 h2 f2 g2 FO2 SP2 en2 n2) (wa : Nat) (hwa : wa < 4) (h64 : 64 ≤ cp) (hcp : cp ≤ 131072) (hcw : cw < 2 ^ 20) (hF1 : ∀ p, p < 9 → FO1 p < 256) (hF2 : ∀ p, p < 9 → FO2 p < 256) (he1 : en1 < 512) (he2 : en2 < 512) : Met l y_Se_part (.code y_Se_part c_Se_part 7 (some .int) :: wsU) ({ frames := 4, cells := ((pt FO1 SP1 FO2 SP2 en1 en2 wa 65537 0 (pq0 cp FI SC OG)).2.2.2.1 - cp + 1), slots := (6 * ((pt FO1 SP1 FO2 SP2 en1 en2 wa 65537 0 (pq0 cp FI SC OG)).2.2.2.1 - cp) + pn (pt FO1 SP1 FO2 SP2 en1 en2 wa 65537 0 (pq0 cp FI SC OG))), locals := 115 } : Room) (kPre D k [.ref se, .ref h1, .ref h2, .int (nI wa), .ref wo] ((se, .inr (4, [.ref sn, .ref fi, .ref sc, .ref og, .int (nI z)])) :: (sn, .inl (k 1, 1024, .inr (.inl (aL SN)))) :: (fi, .inl (k 0, cp, .inl (aN FI))) :: (sc, .inl (k 0, cp, .inl (aN SC))) :: (og, .inl (k 0, cp, .inl (aN OG))) :: (wo, .inr (6, [.ref wl1, .int (nI y)])) :: (wl1, .inl (k 0, cw, .inl (aN L))) :: X) sz) (va_Qi (fun (r : Int32) (_ : (Nat × Nat × Nat) × Nat) => r = nI (pt FO1 SP1 FO2 SP2 en1 en2 wa 65537 0 (pq0 cp FI SC OG)).1) (kB D k (fun u : (Nat × Nat × Nat) × Nat => ((se, .inr (4, [.ref sn, .ref u.1.1, .ref u.1.2.1, .ref u.1.2.2, .int (nI ((pt FO1 SP1 FO2 SP2 en1 en2 wa 65537 0 (pq0 cp FI SC OG)).2.2.1))])) :: (sn, .inl (k 1, 1024, .inr (.inl (aL ((pt FO1 SP1 FO2 SP2 en1 en2 wa 65537 0 (pq0 cp FI SC OG)).2.2.2.2.2.2.2))))) :: (u.1.1, .inl (k 0, (pt FO1 SP1 FO2 SP2 en1 en2 wa 65537 0 (pq0 cp FI SC OG)).2.2.2.1, .inl (aN ((pt FO1 SP1 FO2 SP2 en1 en2 wa 65537 0 (pq0 cp FI SC OG)).2.2.2.2.1)))) :: (u.1.2.1, .inl (k 0, (pt FO1 SP1 FO2 SP2 en1 en2 wa 65537 0 (pq0 cp FI SC OG)).2.2.2.1, .inl (aN ((pt FO1 SP1 FO2 SP2 en1 en2 wa 65537 0 (pq0 cp FI SC OG)).2.2.2.2.2.1)))) :: (u.1.2.2, .inl (k 0, (pt FO1 SP1 FO2 SP2 en1 en2 wa 65537 0 (pq0 cp FI SC OG)).2.2.2.1, .inl (aN ((pt FO1 SP1 FO2 SP2 en1 en2 wa 65537 0 (pq0 cp FI SC OG)).2.2.2.2.2.2.1)))) :: (wo, .inr (6, [.ref u.2, .int (nI (pn (pt FO1 SP1 FO2 SP2 en1 en2 wa 65537 0 (pq0 cp FI SC OG))))])) :: (u.2, .inl (k 0, (if pn (pt FO1 SP1 FO2 SP2 en1 en2 wa 65537 0 (pq0 cp FI SC OG)) ≤ cw then cw else pn (pt FO1 SP1 FO2 SP2 en1 en2 wa 65537 0 (pq0 cp FI SC OG))), .inl (aN (wf (pt FO1 SP1 FO2 SP2 en1 en2 wa 65537 0 (pq0 cp FI SC OG)).2.2.2.2.2.2.1 (pn (pt FO1 SP1 FO2 SP2 en1 en2 wa 65537 0 (pq0 cp FI SC OG))) (pt FO1 SP1 FO2 SP2 en1 en2 wa 65537 0 (pq0 cp FI SC OG)).2.1 (if pn (pt FO1 SP1 FO2 SP2 en1 en2 wa 65537 0 (pq0 cp FI SC OG)) ≤ cw then L else fun _ => 0))))) :: X)) (va_A ((se, .inr (4, [.ref sn, .ref fi, .ref sc, .ref og, .int (nI z)])) :: (sn, .inl (k 1, 1024, .inr (.inl (aL SN)))) :: (fi, .inl (k 0, cp, .inl (aN FI))) :: (sc, .inl (k 0, cp, .inl (aN SC))) :: (og, .inl (k 0, cp, .inl (aN OG))) :: (wo, .inr (6, [.ref wl1, .int (nI y)])) :: (wl1, .inl (k 0, cw, .inl (aN L))) :: X) sz)) (va_A ((se, .inr (4, [.ref sn, .ref fi, .ref sc, .ref og, .int (nI z)])) :: (sn, .inl (k 1, 1024, .inr (.inl (aL SN)))) :: (fi, .inl (k 0, cp, .inl (aN FI))) :: (sc, .inl (k 0, cp, .inl (aN SC))) :: (og, .inl (k 0, cp, .inl (aN OG))) :: (wo, .inr (6, [.ref wl1, .int (nI y)])) :: (wl1, .inl (k 0, cw, .inl (aN L))) :: X) sz)) ((pt FO1 SP1 FO2 SP2 en1 en2 wa 65537 0 (pq0 cp FI SC OG)).2.2.2.1 - cp + 1) (6 * ((pt FO1 SP1 FO2 SP2 en1 en2 wa 65537 0 (pq0 cp FI SC OG)).2.2.2.1 - cp) + pn (pt FO1 SP1 FO2 SP2 en1 en2 wa 65537 0 (pq0 cp FI SC OG))) (va_A ((se, .inr (4, [.ref sn, .ref fi, .ref sc, .ref og, .int (nI z)])) :: (sn, .inl (k 1, 1024, .inr (.inl (aL SN)))) :: (fi, .inl (k 0, cp, .inl (aN FI))) :: (sc, .inl (k 0, cp, .inl (aN SC))) :: (og, .inl (k 0, cp, .inl (aN OG))) :: (wo, .inr (6, [.ref wl1, .int (nI y)])) :: (wl1, .inl (k 0, cw, .inl (aN L))) :: X) sz) := by
  refine kMet (by decide) (Nat.le_of_ble_eq_true rfl) ?_
  intro p e s m below meth c ls hX hml hr hlocks hin hsz hW hl Q hQ
  generalize hAe : va_A ((se, .inr (4, [.ref sn, .ref fi, .ref sc, .ref og, .int (nI z)])) :: (sn, .inl (k 1, 1024, .inr (.inl (aL SN)))) :: (fi, .inl (k 0, cp, .inl (aN FI))) :: (sc, .inl (k 0, cp, .inl (aN SC))) :: (og, .inl (k 0, cp, .inl (aN OG))) :: (wo, .inr (6, [.ref wl1, .int (nI y)])) :: (wl1, .inl (k 0, cw, .inl (aN L))) :: X) sz = A at hW hQ
  generalize hH0 : s.heap = H at hW ⊢
  generalize hl0 : ([] : List Loc) = locs at hW ⊢
  have hX : FX p s m c [.ref se, .ref h1, .ref h2, .int (nI wa), .ref wo].toArray c_Se_part R_Se := hX
  have hl : lv_has ls 7 [(0, .ref se), (1, .ref h1), (2, .ref h2), (3, .int (nI wa)), (4, .ref wo)] := hl
  obtain ⟨o, ho⟩ : ∃ o, pt FO1 SP1 FO2 SP2 en1 en2 wa 65537 0 (pq0 cp FI SC OG) = o := ⟨_, rfl⟩
  rw [ho] at hQ ⊢
  have hfin := pt_mono (SP1 := SP1) (SP2 := SP2) (en1 := en1) (en2 := en2) (wa := wa) hF1 hF2 65537 0 (pq0 cp FI SC OG) (QI_0 h64 hcp)
  rw [ho] at hfin
  refine lv_aload_n hX.1 hX.2.1 d_Se_part_0 rfl (lv_at hl 0 rfl) ?_
  refine kget hX hW i_Se 0 rfl rfl 0 (by decide) f_Se_9 rfl rfl d_Se_part_1 ?_
  refine lv_lconst (v := lN 0) hX.1 hX.2.1 d_Se_part_4 (by decide) ?_
  refine kCv (wc := [(sn, .inl (k 1, 1024, .inr (.inl (aL SN))))]) hW [1] (by rfl) (by intro _; rfl) (kRunS (n := 2) (As := [.ref sn, .long (lN 0)]) (rest := []) hX hml hW (ok_Ar_fillL l D k H.size sn 1024 (aL SN) (lN 0) (by decide)) m_Se_29 sm_Ar_fillL in_Ar cd_Ar_fillL [1] rfl rfl (by decide +kernel) ⟨rfl, rfl, Nat.le_of_ble_eq_true rfl, Nat.le_of_ble_eq_true rfl⟩ rfl hl.1 rfl (Nat.le_of_ble_eq_true rfl) d_Se_part_5 ⟨by first | exact Nat.zero_le _ | decide | omega | (dsimp only; omega), by first | exact Nat.zero_le _ | decide | omega | (dsimp only; omega)⟩) (fun u H locs _ hW => ?_)
  have hW : KW D k A s ((se, .inr (4, [.ref sn, .ref fi, .ref sc, .ref og, .int (nI z)])) :: (sn, .inl (k 1, 1024, .inr (.inl (aL (fun _ => 0))))) :: (fi, .inl (k 0, cp, .inl (aN FI))) :: (sc, .inl (k 0, cp, .inl (aN SC))) :: (og, .inl (k 0, cp, .inl (aN OG))) :: (wo, .inr (6, [.ref wl1, .int (nI y)])) :: (wl1, .inl (k 0, cw, .inl (aN L))) :: X) H locs := hW
  refine lv_aload_n hX.1 hX.2.1 d_Se_part_8 rfl (lv_at hl 0 rfl) ?_
  refine lv_iconst (v := nI 0) hX.1 hX.2.1 d_Se_part_9 (by decide) ?_
  refine kput hX hW i_Se t_Se t_Se_ok n_Se 0 rfl rfl 4 (by decide) f_Se_25 rfl rfl (rfl) (rfl) (Nat.le_of_ble_eq_true rfl) d_Se_part_10 (fun H locs hW => ?_)
  have hW : KW D k A s ((se, .inr (4, [.ref sn, .ref fi, .ref sc, .ref og, .int (nI 0)])) :: (sn, .inl (k 1, 1024, .inr (.inl (aL (fun _ => 0))))) :: (fi, .inl (k 0, cp, .inl (aN FI))) :: (sc, .inl (k 0, cp, .inl (aN SC))) :: (og, .inl (k 0, cp, .inl (aN OG))) :: (wo, .inr (6, [.ref wl1, .int (nI y)])) :: (wl1, .inl (k 0, cw, .inl (aN L))) :: X) H locs := hW
  refine lv_aload_n hX.1 hX.2.1 d_Se_part_13 rfl (lv_at hl 0 rfl) ?_
  refine lv_sipush (v := nI 256) hX.1 hX.2.1 d_Se_part_14 (by decide) ?_
  refine lv_sipush (v := nI 256) hX.1 hX.2.1 d_Se_part_17 (by decide) ?_
  refine lv_iconst (v := nI 0) hX.1 hX.2.1 d_Se_part_20 (by decide) ?_
  refine kCv (wc := [(se, .inr (4, [.ref sn, .ref fi, .ref sc, .ref og, .int (nI 0)])), (sn, .inl (k 1, 1024, .inr (.inl (aL (fun _ => 0))))), (fi, .inl (k 0, cp, .inl (aN FI))), (sc, .inl (k 0, cp, .inl (aN SC))), (og, .inl (k 0, cp, .inl (aN OG)))]) hW [0, 1, 2, 3, 4] (by rfl) (by intro _; rfl) (kRunV (n := 3) (As := [.int (nI 256), .int (nI 256), .int (nI 0)]) (rest := []) hX hml hW (ok_Se_appendS l D k H.size se sn fi sc og (fun _ => 0) FI SC OG 0 cp 256 256 0 (by omega) (by omega)) m_Se_37 im_Se_append se_Se_append in_Se cd_Se_append [0, 1, 2, 3, 4] rfl rfl rfl rfl (by decide +kernel) ⟨rfl, rfl, Nat.le_of_ble_eq_true rfl, Nat.le_of_ble_eq_true rfl⟩ rfl hl.1 rfl (Nat.le_of_ble_eq_true rfl) d_Se_part_21 ⟨by first | exact Nat.zero_le _ | decide | omega | (dsimp only; omega), by first | exact Nat.zero_le _ | decide | omega | (dsimp only; omega)⟩) (fun u H locs _ hW => ?_)
  have hW : KW D k A s ((se, .inr (4, [.ref sn, .ref fi, .ref sc, .ref og, .int (nI (0 + 1))])) :: (sn, .inl (k 1, 1024, .inr (.inl (aL (fun _ => 0))))) :: (fi, .inl (k 0, cp, .inl (aN (va_up FI 0 256)))) :: (sc, .inl (k 0, cp, .inl (aN (va_up SC 0 256)))) :: (og, .inl (k 0, cp, .inl (aN (va_up OG 0 0)))) :: (wo, .inr (6, [.ref wl1, .int (nI y)])) :: (wl1, .inl (k 0, cw, .inl (aN L))) :: X) H locs := hW
  refine lv_iconst (v := nI 0) hX.1 hX.2.1 d_Se_part_24 (by decide) ?_
  refine lv_istore (lv' := [(5, .int (nI 0)), (0, .ref se), (1, .ref h1), (2, .ref h2), (3, .int (nI wa)), (4, .ref wo)]) hX.1 hX.2.1 d_Se_part_25 hl (by decide) rfl (fun ls hl => ?_)
  refine W.widen (k := cp - cp) (n := 6 * (cp - cp)) (by omega) (by omega) ?_
  have lp : ∀ (fu : Nat) (t : Nat) (qq : QZ) (a1 : Nat) (a2 : Nat) (a3 : Nat) (H : Heap) (locs : List Loc) (ls : Array Slot), (t ≤ 65537) → (65537 < t + fu) → (pt FO1 SP1 FO2 SP2 en1 en2 wa (65537 - t) t qq = o) → (QI qq) → (cp ≤ qq.2.1) →  KW D k A s ((se, .inr (4, [.ref sn, .ref a1, .ref a2, .ref a3, .int (nI qq.1)])) :: (sn, .inl (k 1, 1024, .inr (.inl (aL qq.2.2.2.2.2)))) :: (a1, .inl (k 0, qq.2.1, .inl (aN qq.2.2.1))) :: (a2, .inl (k 0, qq.2.1, .inl (aN qq.2.2.2.1))) :: (a3, .inl (k 0, qq.2.1, .inl (aN qq.2.2.2.2.1))) :: (wo, .inr (6, [.ref wl1, .int (nI y)])) :: (wl1, .inl (k 0, cw, .inl (aN L))) :: X) H locs → lv_has ls 7 [(5, .int (nI t)), (4, .ref wo), (3, .int (nI wa)), (2, .ref h2), (1, .ref h1), (0, .ref se)] → W p l e ({ frames := 4, cells := (o.2.2.2.1 - cp + 1), slots := (6 * (o.2.2.2.1 - cp) + pn o), locals := 115 } : Room) s m [.ref se, .ref h1, .ref h2, .int (nI wa), .ref wo].toArray below meth c H locs (qq.2.1 - cp) (6 * (qq.2.1 - cp)) Q (F0 m 27 ls []) := by
    intro fu
    induction fu with
    | zero => intro t qq a1 a2 a3 H locs ls lp1 lp2 hp hI hcq hW hl; exfalso; omega
    | succ fu ih =>
      intro t qq a1 a2 a3 H locs ls lp1 lp2 hp hI hcq hW hl
      have hmon := (pt_mono (SP1 := SP1) (SP2 := SP2) (en1 := en1) (en2 := en2) (wa := wa) hF1 hF2 (65537 - t) t qq hI).1
      rw [hp] at hmon
      have hsz := QI_size hI
      obtain ⟨z2, cp2, FI2, SC2, OG2, SN2⟩ := qq
      have hmon : cp2 ≤ o.2.2.2.1 := hmon
      have hsz : z2 ≤ 65537 := hsz
      have hcq : cp ≤ cp2 := hcq
      have hW : KW D k A s ((se, .inr (4, [.ref sn, .ref a1, .ref a2, .ref a3, .int (nI z2)])) :: (sn, .inl (k 1, 1024, .inr (.inl (aL SN2)))) :: (a1, .inl (k 0, cp2, .inl (aN FI2))) :: (a2, .inl (k 0, cp2, .inl (aN SC2))) :: (a3, .inl (k 0, cp2, .inl (aN OG2))) :: (wo, .inr (6, [.ref wl1, .int (nI y)])) :: (wl1, .inl (k 0, cw, .inl (aN L))) :: X) H locs := hW
      show W p l e ({ frames := 4, cells := (o.2.2.2.1 - cp + 1), slots := (6 * (o.2.2.2.1 - cp) + pn o), locals := 115 } : Room) s m [.ref se, .ref h1, .ref h2, .int (nI wa), .ref wo].toArray below meth c H locs (cp2 - cp) (6 * (cp2 - cp)) Q (F0 m 27 ls [])
      obtain ⟨⟨r1, r2, r3, r4⟩, r5, ⟨r6, r7, r8⟩, r9, r10⟩ := id hI
      have k102 : (0, 0, (z2, cp2, FI2, SC2, OG2, SN2)) = o → W p l e ({ frames := 4, cells := (o.2.2.2.1 - cp + 1), slots := (6 * (o.2.2.2.1 - cp) + pn o), locals := 115 } : Room) s m [.ref se, .ref h1, .ref h2, .int (nI wa), .ref wo].toArray below meth c H locs (cp2 - cp) (6 * (cp2 - cp)) Q (F0 m 102 ls []) := by
        intro hoe
        subst hoe
        refine lv_aload hX.1 hX.2.1 d_Se_part_102 (lv_at hl 1 rfl) ?_
        refine lv_iconst (v := nI 0) hX.1 hX.2.1 d_Se_part_104 (by decide) ?_
        refine kCv (wc := [(wo, .inr (6, [.ref wl1, .int (nI y)])), (wl1, .inl (k 0, cw, .inl (aN L)))]) hW [5, 6] (by rfl) (by intro _; rfl) (kRunV (n := 1) (As := [.int (nI 0)]) (rest := []) hX hml hW (ok_Wo_resize l D k H.size wo wl1 L y cw 0 (by decide) hcw) m_Se_58 im_Wo_resize se_Wo_resize in_Wo cd_Wo_resize [5, 6] rfl rfl rfl rfl (by decide +kernel) ⟨rfl, rfl, Nat.le_of_ble_eq_true rfl, Nat.le_of_ble_eq_true rfl⟩ rfl hl.1 rfl (Nat.le_of_ble_eq_true rfl) d_Se_part_105 ⟨by first | exact Nat.zero_le _ | decide | omega | (dsimp only; omega), by first | exact Nat.zero_le _ | decide | omega | (dsimp only; omega)⟩) (fun u H locs _ hW => ?_)
        have hW : KW D k A s ((se, .inr (4, [.ref sn, .ref a1, .ref a2, .ref a3, .int (nI z2)])) :: (sn, .inl (k 1, 1024, .inr (.inl (aL SN2)))) :: (a1, .inl (k 0, cp2, .inl (aN FI2))) :: (a2, .inl (k 0, cp2, .inl (aN SC2))) :: (a3, .inl (k 0, cp2, .inl (aN OG2))) :: (wo, .inr (6, [.ref u, .int (nI 0)])) :: (u, .inl (k 0, (if 0 ≤ cw then cw else 0), .inl (aN (if 0 ≤ cw then L else fun _ => 0)))) :: X) H locs := hW
        refine W.widen (k := cp2 - cp + 1) (n := 6 * (cp2 - cp) + 0) (by omega) (by omega) ?_
        refine lv_iconst (v := nI 0) hX.1 hX.2.1 d_Se_part_108 (by decide) ?_
        exact kiret hX hr hlocks hQ ((a1, a2, a3), u) (hW) (rfl) d_Se_part_109
      refine lv_iload hX.1 hX.2.1 d_Se_part_27 (lv_at hl 0 rfl) ?_
      refine lv_aload_n hX.1 hX.2.1 d_Se_part_29 rfl (lv_at hl 5 rfl) ?_
      refine kget hX hW i_Se 0 rfl rfl 4 (by decide) f_Se_25 rfl rfl d_Se_part_30 ?_
      refine kge hX (tgt := 102) (by omega) (by omega) d_Se_part_33 (by decide) (fun hA1 => ?_) (fun hA1 => ?_)
      · exact k102 (by rw [← hp]; cases 65537 - t with | zero => rfl | succ r => rw [pt, if_neg (by show ¬ t < z2; omega)])
      · refine lv_iload hX.1 hX.2.1 d_Se_part_36 (lv_at hl 0 rfl) ?_
        refine lv_ldc hX.1 hX.2.1 hX.2.2.1 (hX.2.2.2 _ co_Se_41) d_Se_part_38 ?_
        refine tpi (y := nI 65537) (by decide +kernel) ?_
        refine kge hX (tgt := 102) (by omega) (by omega) d_Se_part_40 (by decide) (fun hA2 => ?_) (fun hA2 => ?_)
        · omega
        · have hft : FI2 t < 512 := by rcases Nat.eq_zero_or_pos t with q | q; (subst q; omega); (have := (r9 t q hA1).1; omega)
          have hst : SC2 t < 512 := by rcases Nat.eq_zero_or_pos t with q | q; (subst q; omega); (have := (r9 t q hA1).2.1; omega)
          refine lv_aload_n hX.1 hX.2.1 d_Se_part_43 rfl (lv_at hl 4 rfl) ?_
          refine lv_aload_n hX.1 hX.2.1 d_Se_part_44 rfl (lv_at hl 5 rfl) ?_
          refine kget hX hW i_Se 0 rfl rfl 1 (by decide) f_Se_15 rfl rfl d_Se_part_45 ?_
          refine lv_iload hX.1 hX.2.1 d_Se_part_48 (lv_at hl 0 rfl) ?_
          refine kiald hX hW 2 rfl (by omega) (by first | decide | omega) d_Se_part_50 ?_
          refine kCiR (wc := [(h1, .inr (0, [.ref f1, .ref g1, .int (nI en1), .int (nI n1)])), (f1, .inl (k 0, 9, .inl (aN FO1))), (g1, .inl (k 0, 4, .inl (aN SP1)))]) hW [p1 + 7, p1 + 1 + 7, p1 + 2 + 7] (by show [X[p1]?, X[p1 + 1]?, X[p1 + 2]?] = _; rw [E1.1, E1.2.1, E1.2.2]; rfl) (kRunV (n := 1) (As := [.int (nI (FI2 t))]) (rest := []) hX hml hW (ok_Ex_accepts l D k H.size h1 f1 g1 FO1 SP1 en1 n1 (FI2 t) hft he1) m_Se_42 im_Ex_accepts se_Ex_accepts in_Ex cd_Ex_accepts [p1 + 7, p1 + 1 + 7, p1 + 2 + 7] (by simp [va_nd] <;> omega) (by show [X[p1]?, X[p1 + 1]?, X[p1 + 2]?] = _; rw [E1.1, E1.2.1, E1.2.2]; rfl) rfl rfl (by decide +kernel) ⟨rfl, rfl, Nat.le_of_ble_eq_true rfl, Nat.le_of_ble_eq_true rfl⟩ rfl hl.1 rfl (Nat.le_of_ble_eq_true rfl) d_Se_part_51 ⟨by dsimp only; omega, by dsimp only; omega⟩) (fun r u H locs hr1 hW => ?_)
          subst hr1
          rw [tl_if]
          refine lv_aload_n hX.1 hX.2.1 d_Se_part_54 rfl (lv_at hl 3 rfl) ?_
          refine lv_aload_n hX.1 hX.2.1 d_Se_part_55 rfl (lv_at hl 5 rfl) ?_
          refine kget hX hW i_Se 0 rfl rfl 2 (by decide) f_Se_19 rfl rfl d_Se_part_56 ?_
          refine lv_iload hX.1 hX.2.1 d_Se_part_59 (lv_at hl 0 rfl) ?_
          refine kiald hX hW 3 rfl (by omega) (by first | decide | omega) d_Se_part_61 ?_
          refine kCiR (wc := [(h2, .inr (0, [.ref f2, .ref g2, .int (nI en2), .int (nI n2)])), (f2, .inl (k 0, 9, .inl (aN FO2))), (g2, .inl (k 0, 4, .inl (aN SP2)))]) hW [p2 + 7, p2 + 1 + 7, p2 + 2 + 7] (by show [X[p2]?, X[p2 + 1]?, X[p2 + 2]?] = _; rw [E2.1, E2.2.1, E2.2.2]; rfl) (kRunV (n := 1) (As := [.int (nI (SC2 t))]) (rest := [.int (nI ((tl (FI2 t) en1).toNat))]) hX hml hW (ok_Ex_accepts l D k H.size h2 f2 g2 FO2 SP2 en2 n2 (SC2 t) hst he2) m_Se_42 im_Ex_accepts se_Ex_accepts in_Ex cd_Ex_accepts [p2 + 7, p2 + 1 + 7, p2 + 2 + 7] (by simp [va_nd] <;> omega) (by show [X[p2]?, X[p2 + 1]?, X[p2 + 2]?] = _; rw [E2.1, E2.2.1, E2.2.2]; rfl) rfl rfl (by decide +kernel) ⟨rfl, rfl, Nat.le_of_ble_eq_true rfl, Nat.le_of_ble_eq_true rfl⟩ rfl hl.1 rfl (Nat.le_of_ble_eq_true rfl) d_Se_part_62 ⟨by dsimp only; omega, by dsimp only; omega⟩) (fun r u H locs hr1 hW => ?_)
          subst hr1
          rw [tl_if]
          refine kCi (wc := []) hW [] (by rfl) (by intro _; rfl) (kRunS (n := 2) (As := [.int (nI ((tl (FI2 t) en1).toNat)), .int (nI ((tl (SC2 t) en2).toNat))]) (rest := []) hX hml hW (ok_Se_whoAlone l D k H.size (tl (FI2 t) en1) (tl (SC2 t) en2)) m_Se_46 sm_Se_whoAlone in_Se cd_Se_whoAlone [] rfl rfl (by decide +kernel) ⟨rfl, rfl, Nat.le_of_ble_eq_true rfl, Nat.le_of_ble_eq_true rfl⟩ rfl hl.1 rfl (Nat.le_of_ble_eq_true rfl) d_Se_part_65 ⟨by first | exact Nat.zero_le _ | decide | omega | (dsimp only; omega), by first | exact Nat.zero_le _ | decide | omega | (dsimp only; omega)⟩) (fun r u H locs hr1 hW => ?_)
          have hW : KW D k A s ((se, .inr (4, [.ref sn, .ref a1, .ref a2, .ref a3, .int (nI z2)])) :: (sn, .inl (k 1, 1024, .inr (.inl (aL SN2)))) :: (a1, .inl (k 0, cp2, .inl (aN FI2))) :: (a2, .inl (k 0, cp2, .inl (aN SC2))) :: (a3, .inl (k 0, cp2, .inl (aN OG2))) :: (wo, .inr (6, [.ref wl1, .int (nI y)])) :: (wl1, .inl (k 0, cw, .inl (aN L))) :: X) H locs := hW
          subst hr1
          rw [show 65537 - t = (65537 - (t + 1)) + 1 by omega, pt, if_pos hA1] at hp
          have hp : (if who (tl (FI2 t) en1) (tl (SC2 t) en2) &&& wa = 0 then pt FO1 SP1 FO2 SP2 en1 en2 wa (65537 - (t + 1)) (t + 1) (gi SP1 SP2 (onw FO1 (FI2 t) 9) (onw FO2 (SC2 t) 9) t (z2, cp2, FI2, SC2, OG2, SN2) 4) else (who (tl (FI2 t) en1) (tl (SC2 t) en2) &&& wa, t, (z2, cp2, FI2, SC2, OG2, SN2))) = o := hp
          have hwh := who_le (tl (FI2 t) en1) (tl (SC2 t) en2)
          show W p l e ({ frames := 4, cells := (o.2.2.2.1 - cp + 1), slots := (6 * (o.2.2.2.1 - cp) + pn o), locals := 115 } : Room) s m [.ref se, .ref h1, .ref h2, .int (nI wa), .ref wo].toArray below meth c H locs (cp2 - cp) (6 * (cp2 - cp)) Q (F0 m 68 ls [.int (nI (who (tl (FI2 t) en1) (tl (SC2 t) en2)))])
          generalize who (tl (FI2 t) en1) (tl (SC2 t) en2) = wh at hwh hp ⊢
          have hal : wh &&& wa ≤ wh := Nat.and_le_left
          refine lv_iload_n hX.1 hX.2.1 d_Se_part_68 rfl (lv_at hl 2 rfl) ?_
          refine lv_iand hX.1 hX.2.1 d_Se_part_69 ?_
          refine tpi (y := nI (wh &&& wa)) (kn_and _ _) ?_
          refine lv_istore (lv' := [(6, .int (nI (wh &&& wa))), (5, .int (nI t)), (4, .ref wo), (3, .int (nI wa)), (2, .ref h2), (1, .ref h1), (0, .ref se)]) hX.1 hX.2.1 d_Se_part_70 hl (by decide) rfl (fun ls hl => ?_)
          refine lv_iload hX.1 hX.2.1 d_Se_part_72 (lv_at hl 0 rfl) ?_
          refine kz hX (tgt := 88) (by omega) d_Se_part_74 (by decide) (fun hA3 => ?_) (fun hA3 => ?_)
          · rw [if_pos hA3] at hp
            refine lv_aload_n hX.1 hX.2.1 d_Se_part_88 rfl (lv_at hl 6 rfl) ?_
            refine lv_iload hX.1 hX.2.1 d_Se_part_89 (lv_at hl 1 rfl) ?_
            refine lv_aload_n hX.1 hX.2.1 d_Se_part_91 rfl (lv_at hl 5 rfl) ?_
            refine lv_aload_n hX.1 hX.2.1 d_Se_part_92 rfl (lv_at hl 4 rfl) ?_
            have gok := gi_ok (SP1 := SP1) (SP2 := SP2) (q := (z2, cp2, FI2, SC2, OG2, SN2)) (onw_lt (S := FI2 t) hF1 9 (Nat.le_refl _)) (onw_lt (S := SC2 t) hF2 9 (Nat.le_refl _)) hA1 hI 4 (Nat.le_refl _)
            have hmon2 := (pt_mono (SP1 := SP1) (SP2 := SP2) (en1 := en1) (en2 := en2) (wa := wa) hF1 hF2 (65537 - (t + 1)) (t + 1) _ gok.1).1
            rw [hp] at hmon2
            have hM := ok_Se_goOn l D k H.size se sn a1 a2 a3 SN2 FI2 SC2 OG2 z2 cp2 ((wo, .inr (6, [.ref wl1, .int (nI y)])) :: (wl1, .inl (k 0, cw, .inl (aN L))) :: X) (p1 + 2) h1 f1 g1 FO1 SP1 en1 n1 (exAt_2 _ _ E1) (p2 + 2) h2 f2 g2 FO2 SP2 en2 n2 (exAt_2 _ _ E2) t hA1 hI hF1 hF2
            obtain ⟨qn, hqn⟩ : ∃ qn, gi SP1 SP2 (onw FO1 (FI2 t) 9) (onw FO2 (SC2 t) 9) t (z2, cp2, FI2, SC2, OG2, SN2) 4 = qn := ⟨_, rfl⟩
            rw [hqn] at hp gok hmon2 hM
            have g3 : cp2 ≤ qn.2.1 := gok.2.2
            refine kWv hW (kRunW (n := 3) (As := [.int (nI t), .ref h1, .ref h2]) (rest := []) hX hml hW hM m_Se_54 im_Se_goOn se_Se_goOn in_Se cd_Se_goOn 0 rfl rfl (by decide +kernel) ⟨rfl, rfl, Nat.le_of_ble_eq_true rfl, Nat.le_of_ble_eq_true rfl⟩ rfl hl.1 rfl (Nat.le_of_ble_eq_true rfl) d_Se_part_93 ⟨by dsimp only; omega, by dsimp only; omega⟩) (fun u H locs _ hW => ?_)
            refine W.widen (k := qn.2.1 - cp) (n := 6 * (qn.2.1 - cp)) (by omega) (by omega) ?_
            refine lv_iinc (v := nI (t + 1)) (lv' := [(5, .int (nI (t + 1))), (6, .int (nI (wh &&& wa))), (4, .ref wo), (3, .int (nI wa)), (2, .ref h2), (1, .ref h1), (0, .ref se)]) hX.1 hX.2.1 d_Se_part_96 hl (k := 1) rfl (kn_inc _) (by decide) rfl (fun ls hl => ?_)
            refine lv_goto (tgt := 27) hX.1 hX.2.1 d_Se_part_99 (by decide) ?_
            exact ih (t + 1) qn u.1 u.2.1 u.2.2 H locs ls (by omega) (by omega) hp gok.1 (by omega) hW (lv_sub hl [0, 2, 3, 4, 5, 6] rfl)
          · rw [if_neg hA3] at hp
            subst hp
            refine lv_aload_n hX.1 hX.2.1 d_Se_part_77 rfl (lv_at hl 6 rfl) ?_
            refine lv_iload hX.1 hX.2.1 d_Se_part_78 (lv_at hl 1 rfl) ?_
            refine lv_aload hX.1 hX.2.1 d_Se_part_80 (lv_at hl 2 rfl) ?_
            have hpn : pn (wh &&& wa, t, (z2, cp2, FI2, SC2, OG2, SN2)) = wl OG2 z2 t := by unfold pn; rw [if_neg hA3]
            have hMs := ok_Se_spellWay l D k H.size se sn a1 a2 a3 SN2 FI2 SC2 OG2 z2 cp2 wo wl1 L y cw t hA1 r2 (by omega) hcw (fun j h3 h4 => (r9 j h3 h4).2.2.2.1) (fun j h4 => by rcases Nat.eq_zero_or_pos j with q | q; (subst q; omega); (exact (r9 j q h4).2.2.2.2)) r8
            rw [← hpn] at hMs
            have hW7 := hW
            refine kCv (wc := [(se, .inr (4, [.ref sn, .ref a1, .ref a2, .ref a3, .int (nI z2)])), (sn, .inl (k 1, 1024, .inr (.inl (aL SN2)))), (a1, .inl (k 0, cp2, .inl (aN FI2))), (a2, .inl (k 0, cp2, .inl (aN SC2))), (a3, .inl (k 0, cp2, .inl (aN OG2))), (wo, .inr (6, [.ref wl1, .int (nI y)])), (wl1, .inl (k 0, cw, .inl (aN L)))]) hW [0, 1, 2, 3, 4, 5, 6] (by rfl) (by intro _; rfl) (kRunV (n := 2) (As := [.int (nI t), .ref wo]) (rest := []) hX hml hW hMs m_Se_50 im_Se_spellWay se_Se_spellWay in_Se cd_Se_spellWay [0, 1, 2, 3, 4, 5, 6] (by rfl) (by rfl) rfl rfl (by decide +kernel) ⟨rfl, rfl, Nat.le_of_ble_eq_true rfl, Nat.le_of_ble_eq_true rfl⟩ rfl hl.1 rfl (Nat.le_of_ble_eq_true rfl) d_Se_part_82 ⟨by dsimp only; omega, by dsimp only; omega⟩) (fun u H locs _ hW => ?_)
            refine W.widen (k := cp2 - cp + 1) (n := 6 * (cp2 - cp) + pn (wh &&& wa, t, (z2, cp2, FI2, SC2, OG2, SN2))) (by omega) (by omega) ?_
            refine lv_iload hX.1 hX.2.1 d_Se_part_85 (lv_at hl 0 rfl) ?_
            exact kiret hX hr hlocks hQ ((a1, a2, a3), u) (hW) (rfl) d_Se_part_87
  exact lp 65538 0 (pq0 cp FI SC OG) fi sc og H locs ls (by omega) (by omega) ho (QI_0 h64 hcp) (Nat.le_refl _) hW (lv_sub hl [0, 5, 4, 3, 2, 1] rfl)
