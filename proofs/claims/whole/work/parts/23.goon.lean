/-! THE SEARCH: going on from a pair -/
theorem gi_mono2 {SP1 SP2 : Nat → Nat} {o1 o2 t : Nat} {q : QZ} (h1 : o1 < 256) (h2 : o2 < 256) (ht : t < q.1) (hq : QI q) : ∀ a, a ≤ 4 → (gi SP1 SP2 o1 o2 t q a).2.1 ≤ (gi SP1 SP2 o1 o2 t q 4).2.1 := by
  have st : ∀ a, a < 4 → (gi SP1 SP2 o1 o2 t q a).2.1 ≤ (gi SP1 SP2 o1 o2 t q (a + 1)).2.1 := by
    intro a ha
    have i1 := (gi_ok (SP1 := SP1) (SP2 := SP2) h1 h2 ht hq a (by omega)).1
    rw [gi]
    exact (gs_mono i1.1.2.1).2
  intro a ha
  have s0 : (gi SP1 SP2 o1 o2 t q 0).2.1 ≤ (gi SP1 SP2 o1 o2 t q 1).2.1 := st 0 (by decide)
  have s1 : (gi SP1 SP2 o1 o2 t q 1).2.1 ≤ (gi SP1 SP2 o1 o2 t q 2).2.1 := st 1 (by decide)
  have s2 : (gi SP1 SP2 o1 o2 t q 2).2.1 ≤ (gi SP1 SP2 o1 o2 t q 3).2.1 := st 2 (by decide)
  have s3 : (gi SP1 SP2 o1 o2 t q 3).2.1 ≤ (gi SP1 SP2 o1 o2 t q 4).2.1 := st 3 (by decide)
  rcases (show a = 0 ∨ a = 1 ∨ a = 2 ∨ a = 3 ∨ a = 4 by omega) with rfl | rfl | rfl | rfl | rfl
  · omega
  · omega
  · omega
  · omega
  · omega
set_option maxHeartbeats 4000000 in
set_option maxRecDepth 100000 in
/-- goOn(t, first, second) -/
theorem ok_Se_goOn (l : Launch) (D : va_G) (k : Nat → ClassId) (sz : Nat) (se sn fi sc og : Nat) (SN FI SC OG : Nat → Nat) (z cp : Nat) (X : va_W) (p1 h1 f1 g1 : Nat) (FO1 SP1 : Nat → Nat) (en1 n1 : Nat) (E1 : exAt k X p1 h1 f1 g1 FO1 SP1 en1 n1) (p2 h2 f2 g2 : Nat) (FO2 SP2 : Nat → Nat) (en2 n2 : Nat) (E2 : exAt k X p2 h2 f2 g2 FO2 SP2 en2 n2) (t : Nat) (ht : t < z) (hq : QI (z, cp, FI, SC, OG, SN)) (hF1 : ∀ p, p < 9 → FO1 p < 256) (hF2 : ∀ p, p < 9 → FO2 p < 256) : Met l y_Se_goOn (.code y_Se_goOn c_Se_goOn 9 none :: wsU) ({ frames := 3, cells := ((gi SP1 SP2 (onw FO1 (FI t) 9) (onw FO2 (SC t) 9) t (z, cp, FI, SC, OG, SN) 4).2.1 - cp), slots := (6 * ((gi SP1 SP2 (onw FO1 (FI t) 9) (onw FO2 (SC t) 9) t (z, cp, FI, SC, OG, SN) 4).2.1 - cp)), locals := 87 } : Room) (kPre D k [.ref se, .int (nI t), .ref h1, .ref h2] ((se, .inr (4, [.ref sn, .ref fi, .ref sc, .ref og, .int (nI z)])) :: (sn, .inl (k 1, 1024, .inr (.inl (aL SN)))) :: (fi, .inl (k 0, cp, .inl (aN FI))) :: (sc, .inl (k 0, cp, .inl (aN SC))) :: (og, .inl (k 0, cp, .inl (aN OG))) :: X) sz) (va_Qv (fun (_ : Nat × Nat × Nat) => True) (kB D k (fun u : Nat × Nat × Nat => ((se, .inr (4, [.ref sn, .ref u.1, .ref u.2.1, .ref u.2.2, .int (nI ((gi SP1 SP2 (onw FO1 (FI t) 9) (onw FO2 (SC t) 9) t (z, cp, FI, SC, OG, SN) 4).1))])) :: (sn, .inl (k 1, 1024, .inr (.inl (aL ((gi SP1 SP2 (onw FO1 (FI t) 9) (onw FO2 (SC t) 9) t (z, cp, FI, SC, OG, SN) 4).2.2.2.2.2))))) :: (u.1, .inl (k 0, (gi SP1 SP2 (onw FO1 (FI t) 9) (onw FO2 (SC t) 9) t (z, cp, FI, SC, OG, SN) 4).2.1, .inl (aN ((gi SP1 SP2 (onw FO1 (FI t) 9) (onw FO2 (SC t) 9) t (z, cp, FI, SC, OG, SN) 4).2.2.1)))) :: (u.2.1, .inl (k 0, (gi SP1 SP2 (onw FO1 (FI t) 9) (onw FO2 (SC t) 9) t (z, cp, FI, SC, OG, SN) 4).2.1, .inl (aN ((gi SP1 SP2 (onw FO1 (FI t) 9) (onw FO2 (SC t) 9) t (z, cp, FI, SC, OG, SN) 4).2.2.2.1)))) :: (u.2.2, .inl (k 0, (gi SP1 SP2 (onw FO1 (FI t) 9) (onw FO2 (SC t) 9) t (z, cp, FI, SC, OG, SN) 4).2.1, .inl (aN ((gi SP1 SP2 (onw FO1 (FI t) 9) (onw FO2 (SC t) 9) t (z, cp, FI, SC, OG, SN) 4).2.2.2.2.1)))) :: X)) (va_A ((se, .inr (4, [.ref sn, .ref fi, .ref sc, .ref og, .int (nI z)])) :: (sn, .inl (k 1, 1024, .inr (.inl (aL SN)))) :: (fi, .inl (k 0, cp, .inl (aN FI))) :: (sc, .inl (k 0, cp, .inl (aN SC))) :: (og, .inl (k 0, cp, .inl (aN OG))) :: X) sz)) (va_A ((se, .inr (4, [.ref sn, .ref fi, .ref sc, .ref og, .int (nI z)])) :: (sn, .inl (k 1, 1024, .inr (.inl (aL SN)))) :: (fi, .inl (k 0, cp, .inl (aN FI))) :: (sc, .inl (k 0, cp, .inl (aN SC))) :: (og, .inl (k 0, cp, .inl (aN OG))) :: X) sz)) ((gi SP1 SP2 (onw FO1 (FI t) 9) (onw FO2 (SC t) 9) t (z, cp, FI, SC, OG, SN) 4).2.1 - cp) (6 * ((gi SP1 SP2 (onw FO1 (FI t) 9) (onw FO2 (SC t) 9) t (z, cp, FI, SC, OG, SN) 4).2.1 - cp)) (va_A ((se, .inr (4, [.ref sn, .ref fi, .ref sc, .ref og, .int (nI z)])) :: (sn, .inl (k 1, 1024, .inr (.inl (aL SN)))) :: (fi, .inl (k 0, cp, .inl (aN FI))) :: (sc, .inl (k 0, cp, .inl (aN SC))) :: (og, .inl (k 0, cp, .inl (aN OG))) :: X) sz) := by
  refine kMet (by decide) (Nat.le_of_ble_eq_true rfl) ?_
  intro p e s m below meth c ls hX hml hr hlocks hin hsz hW hl Q hQ
  generalize hAe : va_A ((se, .inr (4, [.ref sn, .ref fi, .ref sc, .ref og, .int (nI z)])) :: (sn, .inl (k 1, 1024, .inr (.inl (aL SN)))) :: (fi, .inl (k 0, cp, .inl (aN FI))) :: (sc, .inl (k 0, cp, .inl (aN SC))) :: (og, .inl (k 0, cp, .inl (aN OG))) :: X) sz = A at hW hQ
  generalize hH0 : s.heap = H at hW ⊢
  generalize hl0 : ([] : List Loc) = locs at hW ⊢
  have hX : FX p s m c [.ref se, .int (nI t), .ref h1, .ref h2].toArray c_Se_goOn R_Se := hX
  have hl : lv_has ls 9 [(0, .ref se), (1, .int (nI t)), (2, .ref h1), (3, .ref h2)] := hl
  obtain ⟨⟨q1, q2, q3, q4⟩, q5, ⟨q6, q7, q8⟩, q9, q10⟩ := id hq
  have hft : FI t < 512 := by rcases Nat.eq_zero_or_pos t with q | q; (subst q; omega); (have := (q9 t q ht).1; omega)
  have hst : SC t < 512 := by rcases Nat.eq_zero_or_pos t with q | q; (subst q; omega); (have := (q9 t q ht).2.1; omega)
  have ho1 := onw_lt (S := FI t) hF1 9 (Nat.le_refl _)
  have ho2 := onw_lt (S := SC t) hF2 9 (Nat.le_refl _)
  obtain ⟨o, ho⟩ : ∃ o, gi SP1 SP2 (onw FO1 (FI t) 9) (onw FO2 (SC t) 9) t (z, cp, FI, SC, OG, SN) 4 = o := ⟨_, rfl⟩
  rw [ho] at hQ ⊢
  refine lv_aload_n hX.1 hX.2.1 d_Se_goOn_0 rfl (lv_at hl 2 rfl) ?_
  refine lv_aload_n hX.1 hX.2.1 d_Se_goOn_1 rfl (lv_at hl 0 rfl) ?_
  refine kget hX hW i_Se 0 rfl rfl 1 (by decide) f_Se_15 rfl rfl d_Se_goOn_2 ?_
  refine lv_iload_n hX.1 hX.2.1 d_Se_goOn_5 rfl (lv_at hl 1 rfl) ?_
  refine kiald hX hW 2 rfl (by omega) (by first | decide | omega) d_Se_goOn_6 ?_
  refine kCiR (wc := [(h1, .inr (0, [.ref f1, .ref g1, .int (nI en1), .int (nI n1)])), (f1, .inl (k 0, 9, .inl (aN FO1))), (g1, .inl (k 0, 4, .inl (aN SP1)))]) hW [p1 + 5, p1 + 1 + 5, p1 + 2 + 5] (by show [X[p1]?, X[p1 + 1]?, X[p1 + 2]?] = _; rw [E1.1, E1.2.1, E1.2.2]; rfl) (kRunV (n := 1) (As := [.int (nI (FI t))]) (rest := []) hX hml hW (ok_Ex_onward l D k H.size h1 f1 g1 FO1 SP1 en1 n1 (FI t) hft) m_Se_64 im_Ex_onward se_Ex_onward in_Ex cd_Ex_onward [p1 + 5, p1 + 1 + 5, p1 + 2 + 5] (by simp [va_nd] <;> omega) (by show [X[p1]?, X[p1 + 1]?, X[p1 + 2]?] = _; rw [E1.1, E1.2.1, E1.2.2]; rfl) rfl rfl (by decide +kernel) ⟨rfl, rfl, Nat.le_of_ble_eq_true rfl, Nat.le_of_ble_eq_true rfl⟩ rfl hl.1 rfl (Nat.le_of_ble_eq_true rfl) d_Se_goOn_7 ⟨by dsimp only; omega, by dsimp only; omega⟩) (fun r u H locs hr1 hW => ?_)
  subst hr1
  refine lv_istore (lv' := [(4, .int (nI (onw FO1 (FI t) 9))), (0, .ref se), (1, .int (nI t)), (2, .ref h1), (3, .ref h2)]) hX.1 hX.2.1 d_Se_goOn_10 hl (by decide) rfl (fun ls hl => ?_)
  refine lv_aload_n hX.1 hX.2.1 d_Se_goOn_12 rfl (lv_at hl 4 rfl) ?_
  refine lv_aload_n hX.1 hX.2.1 d_Se_goOn_13 rfl (lv_at hl 1 rfl) ?_
  refine kget hX hW i_Se 0 rfl rfl 2 (by decide) f_Se_19 rfl rfl d_Se_goOn_14 ?_
  refine lv_iload_n hX.1 hX.2.1 d_Se_goOn_17 rfl (lv_at hl 2 rfl) ?_
  refine kiald hX hW 3 rfl (by omega) (by first | decide | omega) d_Se_goOn_18 ?_
  refine kCiR (wc := [(h2, .inr (0, [.ref f2, .ref g2, .int (nI en2), .int (nI n2)])), (f2, .inl (k 0, 9, .inl (aN FO2))), (g2, .inl (k 0, 4, .inl (aN SP2)))]) hW [p2 + 5, p2 + 1 + 5, p2 + 2 + 5] (by show [X[p2]?, X[p2 + 1]?, X[p2 + 2]?] = _; rw [E2.1, E2.2.1, E2.2.2]; rfl) (kRunV (n := 1) (As := [.int (nI (SC t))]) (rest := []) hX hml hW (ok_Ex_onward l D k H.size h2 f2 g2 FO2 SP2 en2 n2 (SC t) hst) m_Se_64 im_Ex_onward se_Ex_onward in_Ex cd_Ex_onward [p2 + 5, p2 + 1 + 5, p2 + 2 + 5] (by simp [va_nd] <;> omega) (by show [X[p2]?, X[p2 + 1]?, X[p2 + 2]?] = _; rw [E2.1, E2.2.1, E2.2.2]; rfl) rfl rfl (by decide +kernel) ⟨rfl, rfl, Nat.le_of_ble_eq_true rfl, Nat.le_of_ble_eq_true rfl⟩ rfl hl.1 rfl (Nat.le_of_ble_eq_true rfl) d_Se_goOn_19 ⟨by dsimp only; omega, by dsimp only; omega⟩) (fun r u H locs hr1 hW => ?_)
  subst hr1
  generalize onw FO1 (FI t) 9 = o1 at ho1 ho hl ⊢
  generalize onw FO2 (SC t) 9 = o2 at ho2 ho hl ⊢
  refine lv_istore (lv' := [(5, .int (nI o2)), (4, .int (nI o1)), (0, .ref se), (1, .int (nI t)), (2, .ref h1), (3, .ref h2)]) hX.1 hX.2.1 d_Se_goOn_22 hl (by decide) rfl (fun ls hl => ?_)
  refine lv_iconst (v := nI 0) hX.1 hX.2.1 d_Se_goOn_24 (by decide) ?_
  refine lv_istore (lv' := [(6, .int (nI 0)), (5, .int (nI o2)), (4, .int (nI o1)), (0, .ref se), (1, .int (nI t)), (2, .ref h1), (3, .ref h2)]) hX.1 hX.2.1 d_Se_goOn_25 hl (by decide) rfl (fun ls hl => ?_)
  have gok := gi_ok (SP1 := SP1) (SP2 := SP2) (q := (z, cp, FI, SC, OG, SN)) ho1 ho2 ht hq
  refine W.widen (k := cp - cp) (n := 6 * (cp - cp)) (by omega) (by omega) ?_
  have lp : ∀ (fu : Nat) (a : Nat) (qq : QZ) (a1 : Nat) (a2 : Nat) (a3 : Nat) (H : Heap) (locs : List Loc) (ls : Array Slot), (a ≤ 4) → (4 < a + fu) → (gi SP1 SP2 o1 o2 t (z, cp, FI, SC, OG, SN) a = qq) →  KW D k A s ((se, .inr (4, [.ref sn, .ref a1, .ref a2, .ref a3, .int (nI qq.1)])) :: (sn, .inl (k 1, 1024, .inr (.inl (aL qq.2.2.2.2.2)))) :: (a1, .inl (k 0, qq.2.1, .inl (aN qq.2.2.1))) :: (a2, .inl (k 0, qq.2.1, .inl (aN qq.2.2.2.1))) :: (a3, .inl (k 0, qq.2.1, .inl (aN qq.2.2.2.2.1))) :: X) H locs → lv_has ls 9 [(6, .int (nI a)), (5, .int (nI o2)), (4, .int (nI o1)), (3, .ref h2), (2, .ref h1), (1, .int (nI t)), (0, .ref se)] → W p l e ({ frames := 3, cells := (o.2.1 - cp), slots := (6 * (o.2.1 - cp)), locals := 87 } : Room) s m [.ref se, .int (nI t), .ref h1, .ref h2].toArray below meth c H locs (qq.2.1 - cp) (6 * (qq.2.1 - cp)) Q (F0 m 27 ls []) := by
    intro fu
    induction fu with
    | zero => intro a qq a1 a2 a3 H locs ls lp1 lp2 hg hW hl; exfalso; omega
    | succ fu ih =>
      intro a qq a1 a2 a3 H locs ls lp1 lp2 hg hW hl
      have hqq := gok a lp1
      have hfin := gok 4 (Nat.le_refl _)
      rw [hg] at hqq
      rw [ho] at hfin
      have hmon0 := gi_mono2 (SP1 := SP1) (SP2 := SP2) (q := (z, cp, FI, SC, OG, SN)) ho1 ho2 ht hq a lp1
      rw [hg, ho] at hmon0
      obtain ⟨z2, cp2, FI2, SC2, OG2, SN2⟩ := qq
      obtain ⟨hI2, hz2, hc2⟩ := hqq
      have hz2 : z ≤ z2 := hz2
      have hc2 : cp ≤ cp2 := hc2
      have hmon0 : cp2 ≤ o.2.1 := hmon0
      have hW : KW D k A s ((se, .inr (4, [.ref sn, .ref a1, .ref a2, .ref a3, .int (nI z2)])) :: (sn, .inl (k 1, 1024, .inr (.inl (aL SN2)))) :: (a1, .inl (k 0, cp2, .inl (aN FI2))) :: (a2, .inl (k 0, cp2, .inl (aN SC2))) :: (a3, .inl (k 0, cp2, .inl (aN OG2))) :: X) H locs := hW
      show W p l e ({ frames := 3, cells := (o.2.1 - cp), slots := (6 * (o.2.1 - cp)), locals := 87 } : Room) s m [.ref se, .int (nI t), .ref h1, .ref h2].toArray below meth c H locs (cp2 - cp) (6 * (cp2 - cp)) Q (F0 m 27 ls [])
      obtain ⟨⟨r1, r2, r3, r4⟩, r5, ⟨r6, r7, r8⟩, r9, r10⟩ := id hI2
      refine lv_iload hX.1 hX.2.1 d_Se_goOn_27 (lv_at hl 0 rfl) ?_
      refine lv_iconst (v := nI 4) hX.1 hX.2.1 d_Se_goOn_29 (by decide) ?_
      refine kge hX (tgt := 88) (by omega) (by omega) d_Se_goOn_30 (by decide) (fun hA4 => ?_) (fun hA4 => ?_)
      · have e4 : a = 4 := by omega
        subst e4
        rw [ho] at hg
        subst hg
        exact kvret hX hr hlocks hQ (a1, a2, a3) (hW) (trivial) d_Se_goOn_88
      · have k1 : o1 &&& SP1 a < 256 := Nat.lt_of_le_of_lt Nat.and_le_left ho1
        have k2 : o2 &&& SP2 a < 256 := Nat.lt_of_le_of_lt Nat.and_le_left ho2
        have hnext : gi SP1 SP2 o1 o2 t (z, cp, FI, SC, OG, SN) (a + 1) = gs (o1 &&& SP1 a) (o2 &&& SP2 a) (t * 4 + a) (z2, cp2, FI2, SC2, OG2, SN2) := by rw [gi, hg]
        have hnx := gok (a + 1) (by omega)
        rw [hnext, gs] at hnx
        rw [gs] at hnext
        refine lv_iload hX.1 hX.2.1 d_Se_goOn_33 (lv_at hl 2 rfl) ?_
        refine lv_aload_n hX.1 hX.2.1 d_Se_goOn_35 rfl (lv_at hl 4 rfl) ?_
        refine kget hX hW i_Ex (p1 + 5) E1.1 rfl 1 (by decide) f_Se_68 rfl rfl d_Se_goOn_36 ?_
        refine lv_iload hX.1 hX.2.1 d_Se_goOn_39 (lv_at hl 0 rfl) ?_
        refine kiald hX hW (p1 + 2 + 5) E1.2.2 (by omega) (by decide) d_Se_goOn_41 ?_
        refine lv_iand hX.1 hX.2.1 d_Se_goOn_42 ?_
        refine tpi (y := nI (o1 &&& SP1 a)) (kn_and _ _) ?_
        refine lv_istore (lv' := [(7, .int (nI (o1 &&& SP1 a))), (6, .int (nI a)), (5, .int (nI o2)), (4, .int (nI o1)), (3, .ref h2), (2, .ref h1), (1, .int (nI t)), (0, .ref se)]) hX.1 hX.2.1 d_Se_goOn_43 hl (by decide) rfl (fun ls hl => ?_)
        refine lv_iload hX.1 hX.2.1 d_Se_goOn_45 (lv_at hl 2 rfl) ?_
        refine lv_aload_n hX.1 hX.2.1 d_Se_goOn_47 rfl (lv_at hl 4 rfl) ?_
        refine kget hX hW i_Ex (p2 + 5) E2.1 rfl 1 (by decide) f_Se_68 rfl rfl d_Se_goOn_48 ?_
        refine lv_iload hX.1 hX.2.1 d_Se_goOn_51 (lv_at hl 1 rfl) ?_
        refine kiald hX hW (p2 + 2 + 5) E2.2.2 (by omega) (by decide) d_Se_goOn_53 ?_
        refine lv_iand hX.1 hX.2.1 d_Se_goOn_54 ?_
        refine tpi (y := nI (o2 &&& SP2 a)) (kn_and _ _) ?_
        refine lv_istore (lv' := [(8, .int (nI (o2 &&& SP2 a))), (7, .int (nI (o1 &&& SP1 a))), (6, .int (nI a)), (5, .int (nI o2)), (4, .int (nI o1)), (3, .ref h2), (2, .ref h1), (1, .int (nI t)), (0, .ref se)]) hX.1 hX.2.1 d_Se_goOn_55 hl (by decide) rfl (fun ls hl => ?_)
        obtain ⟨vx, hvx⟩ : ∃ vx, o1 &&& SP1 a = vx := ⟨_, rfl⟩
        obtain ⟨vy, hvy⟩ : ∃ vy, o2 &&& SP2 a = vy := ⟨_, rfl⟩
        rw [hvx] at hl k1 hnext hnx
        rw [hvy] at hl k2 hnext hnx
        refine lv_aload_n hX.1 hX.2.1 d_Se_goOn_57 rfl (lv_at hl 8 rfl) ?_
        refine lv_iload hX.1 hX.2.1 d_Se_goOn_58 (lv_at hl 1 rfl) ?_
        refine lv_iload hX.1 hX.2.1 d_Se_goOn_60 (lv_at hl 0 rfl) ?_
        refine kCi (wc := [(se, .inr (4, [.ref sn, .ref a1, .ref a2, .ref a3, .int (nI z2)])), (sn, .inl (k 1, 1024, .inr (.inl (aL SN2)))), (a1, .inl (k 0, cp2, .inl (aN FI2))), (a2, .inl (k 0, cp2, .inl (aN SC2))), (a3, .inl (k 0, cp2, .inl (aN OG2)))]) hW [0, 1, 2, 3, 4] (by rfl) (by intro _; rfl) (kRunV (n := 2) (As := [.int (nI vx), .int (nI vy)]) (rest := []) hX hml hW (ok_Se_mark l D k H.size se sn a1 a2 a3 SN2 FI2 SC2 OG2 z2 cp2 vx vy k1 k2 r5) m_Se_71 im_Se_markIfNew se_Se_markIfNew in_Se cd_Se_markIfNew [0, 1, 2, 3, 4] rfl rfl rfl rfl (by decide +kernel) ⟨rfl, rfl, Nat.le_of_ble_eq_true rfl, Nat.le_of_ble_eq_true rfl⟩ rfl hl.1 rfl (Nat.le_of_ble_eq_true rfl) d_Se_goOn_62 ⟨by first | exact Nat.zero_le _ | decide | omega | (dsimp only; omega), by first | exact Nat.zero_le _ | decide | omega | (dsimp only; omega)⟩) (fun r u H locs hr1 hW => ?_)
        have hW : KW D k A s ((se, .inr (4, [.ref sn, .ref a1, .ref a2, .ref a3, .int (nI z2)])) :: (sn, .inl (k 1, 1024, .inr (.inl (aL (sbs SN2 (vx * 256 + vy)))))) :: (a1, .inl (k 0, cp2, .inl (aN FI2))) :: (a2, .inl (k 0, cp2, .inl (aN SC2))) :: (a3, .inl (k 0, cp2, .inl (aN OG2))) :: X) H locs := hW
        subst hr1
        refine kz hX (tgt := 82) (bT _) d_Se_goOn_65 (by decide) (fun hB4 => ?_) (fun hB4 => ?_)
        · have hb : sb SN2 (vx * 256 + vy) = true := by have := bT_0 hB4; simpa using this
          rw [if_pos hb] at hnext
          refine lv_iinc (v := nI (a + 1)) (lv' := [(6, .int (nI (a + 1))), (8, .int (nI vy)), (7, .int (nI vx)), (5, .int (nI o2)), (4, .int (nI o1)), (3, .ref h2), (2, .ref h1), (1, .int (nI t)), (0, .ref se)]) hX.1 hX.2.1 d_Se_goOn_82 hl (k := 2) rfl (kn_inc _) (by decide) rfl (fun ls hl => ?_)
          refine lv_goto (tgt := 27) hX.1 hX.2.1 d_Se_goOn_85 (by decide) ?_
          exact ih (a + 1) _ a1 a2 a3 H locs ls (by omega) (by omega) hnext hW (lv_sub hl [0, 3, 4, 5, 6, 7, 8] rfl)
        · have hb : sb SN2 (vx * 256 + vy) = false := by have := bT_1 hB4; simpa using this
          rw [if_neg (by rw [hb]; simp), ap] at hnext hnx
          refine lv_aload_n hX.1 hX.2.1 d_Se_goOn_68 rfl (lv_at hl 8 rfl) ?_
          refine lv_iload hX.1 hX.2.1 d_Se_goOn_69 (lv_at hl 1 rfl) ?_
          refine lv_iload hX.1 hX.2.1 d_Se_goOn_71 (lv_at hl 0 rfl) ?_
          refine lv_iload_n hX.1 hX.2.1 d_Se_goOn_73 rfl (lv_at hl 7 rfl) ?_
          refine lv_iconst (v := nI 4) hX.1 hX.2.1 d_Se_goOn_74 (by decide) ?_
          refine lv_imul hX.1 hX.2.1 d_Se_goOn_75 ?_
          refine tpi (y := nI (t * 4)) (pk_mul _ _) ?_
          refine lv_iload hX.1 hX.2.1 d_Se_goOn_76 (lv_at hl 2 rfl) ?_
          refine lv_iadd hX.1 hX.2.1 d_Se_goOn_78 ?_
          refine tpi (y := nI (t * 4 + a)) (nI_add _ _) ?_
          have hmon : (gi SP1 SP2 o1 o2 t (z, cp, FI, SC, OG, SN) (a + 1)).2.1 ≤ o.2.1 := by have := gi_mono2 (SP1 := SP1) (SP2 := SP2) (q := (z, cp, FI, SC, OG, SN)) ho1 ho2 ht hq (a + 1) (by omega); rw [ho] at this; exact this
          rw [hnext] at hmon
          by_cases hroom : z2 < cp2
          · rw [if_pos hroom] at hnext
            refine kCv (wc := [(se, .inr (4, [.ref sn, .ref a1, .ref a2, .ref a3, .int (nI z2)])), (sn, .inl (k 1, 1024, .inr (.inl (aL (sbs SN2 (vx * 256 + vy)))))), (a1, .inl (k 0, cp2, .inl (aN FI2))), (a2, .inl (k 0, cp2, .inl (aN SC2))), (a3, .inl (k 0, cp2, .inl (aN OG2)))]) hW [0, 1, 2, 3, 4] (by rfl) (by intro _; rfl) (kRunV (n := 3) (As := [.int (nI vx), .int (nI vy), .int (nI (t * 4 + a))]) (rest := []) hX hml hW (ok_Se_appendS l D k H.size se sn a1 a2 a3 (sbs SN2 (vx * 256 + vy)) FI2 SC2 OG2 z2 cp2 vx vy (t * 4 + a) hroom (by omega)) m_Se_37 im_Se_append se_Se_append in_Se cd_Se_append [0, 1, 2, 3, 4] rfl rfl rfl rfl (by decide +kernel) ⟨rfl, rfl, Nat.le_of_ble_eq_true rfl, Nat.le_of_ble_eq_true rfl⟩ rfl hl.1 rfl (Nat.le_of_ble_eq_true rfl) d_Se_goOn_79 ⟨by first | exact Nat.zero_le _ | decide | omega | (dsimp only; omega), by first | exact Nat.zero_le _ | decide | omega | (dsimp only; omega)⟩) (fun u H locs _ hW => ?_)
            have hW : KW D k A s ((se, .inr (4, [.ref sn, .ref a1, .ref a2, .ref a3, .int (nI (z2 + 1))])) :: (sn, .inl (k 1, 1024, .inr (.inl (aL (sbs SN2 (vx * 256 + vy)))))) :: (a1, .inl (k 0, cp2, .inl (aN (va_up FI2 z2 vx)))) :: (a2, .inl (k 0, cp2, .inl (aN (va_up SC2 z2 vy)))) :: (a3, .inl (k 0, cp2, .inl (aN (va_up OG2 z2 (t * 4 + a))))) :: X) H locs := hW
            refine lv_iinc (v := nI (a + 1)) (lv' := [(6, .int (nI (a + 1))), (8, .int (nI vy)), (7, .int (nI vx)), (5, .int (nI o2)), (4, .int (nI o1)), (3, .ref h2), (2, .ref h1), (1, .int (nI t)), (0, .ref se)]) hX.1 hX.2.1 d_Se_goOn_82 hl (k := 2) rfl (kn_inc _) (by decide) rfl (fun ls hl => ?_)
            refine lv_goto (tgt := 27) hX.1 hX.2.1 d_Se_goOn_85 (by decide) ?_
            exact ih (a + 1) _ a1 a2 a3 H locs ls (by omega) (by omega) hnext hW (lv_sub hl [0, 3, 4, 5, 6, 7, 8] rfl)
          · rw [if_neg hroom] at hnext hmon
            have ez : z2 = cp2 := by omega
            subst ez
            have hmon : 2 * z2 ≤ o.2.1 := hmon
            refine kCv (wc := [(se, .inr (4, [.ref sn, .ref a1, .ref a2, .ref a3, .int (nI z2)])), (sn, .inl (k 1, 1024, .inr (.inl (aL (sbs SN2 (vx * 256 + vy)))))), (a1, .inl (k 0, z2, .inl (aN FI2))), (a2, .inl (k 0, z2, .inl (aN SC2))), (a3, .inl (k 0, z2, .inl (aN OG2)))]) hW [0, 1, 2, 3, 4] (by rfl) (by intro _; rfl) (kRunV (n := 3) (As := [.int (nI vx), .int (nI vy), .int (nI (t * 4 + a))]) (rest := []) hX hml hW (ok_Se_appendG l D k H.size se sn a1 a2 a3 (sbs SN2 (vx * 256 + vy)) FI2 SC2 OG2 z2 vx vy (t * 4 + a) (by omega) (by omega)) m_Se_37 im_Se_append se_Se_append in_Se cd_Se_append [0, 1, 2, 3, 4] rfl rfl rfl rfl (by decide +kernel) ⟨rfl, rfl, Nat.le_of_ble_eq_true rfl, Nat.le_of_ble_eq_true rfl⟩ rfl hl.1 rfl (Nat.le_of_ble_eq_true rfl) d_Se_goOn_79 ⟨by first | exact Nat.zero_le _ | decide | omega | (dsimp only; omega), by first | exact Nat.zero_le _ | decide | omega | (dsimp only; omega)⟩) (fun u H locs _ hW => ?_)
            have hW : KW D k A s ((se, .inr (4, [.ref sn, .ref u.1, .ref u.2.1, .ref u.2.2, .int (nI (z2 + 1))])) :: (sn, .inl (k 1, 1024, .inr (.inl (aL (sbs SN2 (vx * 256 + vy)))))) :: (u.1, .inl (k 0, (2 * z2), .inl (aN (va_up (cpz FI2 (fun _ => 0) z2) z2 vx)))) :: (u.2.1, .inl (k 0, (2 * z2), .inl (aN (va_up (cpz SC2 (fun _ => 0) z2) z2 vy)))) :: (u.2.2, .inl (k 0, (2 * z2), .inl (aN (va_up (cpz OG2 (fun _ => 0) z2) z2 (t * 4 + a))))) :: X) H locs := hW
            refine W.widen (k := 2 * z2 - cp) (n := 6 * (2 * z2 - cp)) (by omega) (by omega) ?_
            refine lv_iinc (v := nI (a + 1)) (lv' := [(6, .int (nI (a + 1))), (8, .int (nI vy)), (7, .int (nI vx)), (5, .int (nI o2)), (4, .int (nI o1)), (3, .ref h2), (2, .ref h1), (1, .int (nI t)), (0, .ref se)]) hX.1 hX.2.1 d_Se_goOn_82 hl (k := 2) rfl (kn_inc _) (by decide) rfl (fun ls hl => ?_)
            refine lv_goto (tgt := 27) hX.1 hX.2.1 d_Se_goOn_85 (by decide) ?_
            exact ih (a + 1) _ u.1 u.2.1 u.2.2 H locs ls (by omega) (by omega) hnext hW (lv_sub hl [0, 3, 4, 5, 6, 7, 8] rfl)
  exact lp 5 0 (z, cp, FI, SC, OG, SN) fi sc og H locs ls (by omega) (by omega) rfl hW (lv_sub hl [0, 1, 2, 6, 5, 4, 3] rfl)
