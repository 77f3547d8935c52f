/-! COUNT, WORD, STATES: the class's answer is the reference's -/
section CNT
variable {FO SP : Nat → Nat} {en n : Nat} {MN LT FI LA FL EM : Nat → Nat} {a : Nat} {SE AC NX : Nat → Nat} {bb : MZ × (Nat → Nat)}
theorem stP (h : SLR FO SP en n MN LT FI LA FL EM a) : ∀ S c, (S = 256 ∨ S < 2 ^ n) → c < 4 → onw FO S 9 &&& SP c = mstep MN LT FI FL a S c ∧ (mstep MN LT FI FL a S c = 256 ∨ mstep MN LT FI FL a S c < 2 ^ n) := fun S c hS hc => ⟨step_eq h hS hc, Or.inr (mstp_lt h hS)⟩
theorem cnt_all (h : SLR FO SP en n MN LT FI LA FL EM a) (hA : ∀ x, x < 257 → AC x < 1000) (hN : NI NX) (hb : bld FO SP en SE AC NX = bb) : (bb.1.1 ≤ 257 ∧ 0 < bb.1.1 ∧ bb.1.2.1 0 = 256) ∧ (∀ j c, j < bb.1.1 → c < 4 → bb.2 (j * 4 + c) < bb.1.1) ∧ (∀ j c, j < bb.1.1 → c < 4 → bb.1.2.1 (bb.2 (j * 4 + c)) = mstep MN LT FI FL a (bb.1.2.1 j) c) ∧ (∀ j, j < bb.1.1 → bb.1.2.2.2 j = mtl LA EM a (bb.1.2.1 j)) ∧ MI bb.1 ∧ NI bb.2 := by
  obtain ⟨s1, s2, s3, s4⟩ := bld_spec (P := fun S => S = 256 ∨ S < 2 ^ n) (SLR_b h).1 (fun S c hS hc => by rw [(stP h S c hS hc).1]; exact (stP h S c hS hc).2) (Or.inl rfl) hA hN hb
  refine ⟨⟨MI_z s4.1, s1.1, s1.2⟩, fun j c hj hc => (s3 j c hj hc).1, fun j c hj hc => ?_, fun j hj => ?_, s4.1, s4.2⟩
  · rw [(s3 j c hj hc).2]; exact step_eq h (s2 j hj).1 hc
  · rw [(s2 j hj).2]; exact tell_eq h (s2 j hj).1
theorem cnt_T (h : SLR FO SP en n MN LT FI LA FL EM a) (hA : ∀ x, x < 257 → AC x < 1000) (hN : NI NX) (hb : bld FO SP en SE AC NX = bb) {TL T9 WY : Nat → Nat} {len : Nat} (hlen : len ≤ 30) (hT9 : tal bb.2 bb.1.2.2.2 TL bb.1.1 len = T9) (hTL : ∀ x, TL x < 2 ^ 63) :
    (∀ r j, r ≤ len → j < bb.1.1 → T9 (r * 257 + j) = rck (fun q c => mstep MN LT FI FL a q c) (mtl LA EM a) WY (len + 1) (r * 257 + bb.1.2.1 j)) ∧ (∀ x, T9 x < 2 ^ 63) ∧ T9 (len * 257) = rck (fun q c => mstep MN LT FI FL a q c) (mtl LA EM a) WY (len + 1) (len * 257 + 256) ∧ (∀ r q, r ≤ len → q < 257 → rck (fun q c => mstep MN LT FI FL a q c) (mtl LA EM a) WY (len + 1) (r * 257 + q) < 2 ^ 63) ∧ (∀ r q, r < len → q < 257 → rck (fun q c => mstep MN LT FI FL a q c) (mtl LA EM a) WY (len + 1) ((r + 1) * 257 + q) = tvm ((fun q c => mstep MN LT FI FL a q c) q) (rck (fun q c => mstep MN LT FI FL a q c) (mtl LA EM a) WY (len + 1)) (r * 257) 4) := by
  obtain ⟨c1, c2, c3, c4, c5, c6⟩ := cnt_all h hA hN hb
  have hst : ∀ q c, (fun q c => mstep MN LT FI FL a q c) q c < 257 := fun q c => by have := mstp256 h q c; show mstep MN LT FI FL a q c < 257; omega
  have hR := rck_V (te := mtl LA EM a) hst WY (len + 1)
  have hV := tal_V (st := fun q c => mstep MN LT FI FL a q c) (te := mtl LA EM a) (SE := bb.1.2.1) c1.1 c2 c3 c4 TL len
  have h63 := tal_63 (st := fun q c => mstep MN LT FI FL a q c) (te := mtl LA EM a) (SE := bb.1.2.1) c1.1 c2 c3 c4 (mtl_1 h) hTL len hlen
  rw [hT9] at hV h63
  have hSE : ∀ j, j < bb.1.1 → bb.1.2.1 j < 257 := fun j hj => by
    obtain ⟨⟨z, S2, NU, A2⟩, N2⟩ := bb
    exact (c5.2.1 j hj).1
  refine ⟨fun r j hr hj => ?_, h63, ?_, fun r q hr hq => ?_, fun r q hr hq => ?_⟩
  · rw [hV r j hr hj, hR r _ (by omega) (hSE j hj)]
  · have := hV len 0 (Nat.le_refl _) c1.2.1
    rw [Nat.add_zero] at this
    rw [this, c1.2.2, hR len 256 (by omega) (by decide)]
  · rw [hR r q (by omega) hq]; exact V_63 (mtl_1 h) (by omega) q
  · rw [hR (r + 1) q (by omega) hq, tvm4, V]
    rw [hR r _ (by omega) (hst q 0), hR r _ (by omega) (hst q 1), hR r _ (by omega) (hst q 2), hR r _ (by omega) (hst q 3)]
theorem grp_lt {z : Nat} (hz : z ≤ 257) : ∀ r kn (GR FN : Nat → Nat), (∀ x, x < 257 → GR x < 1000) → ∀ x, x < 257 → (grp NX z r kn GR FN).2.1 x < 1000 := by
  intro r
  induction r with
  | zero => intro kn GR FN h; exact h
  | succ r ih =>
    intro kn GR FN h
    rw [grp]
    split
    · exact cpz_lt hz h
    · exact ih _ _ _ (cpz_lt hz h)
theorem mgr_lt {st : Nat → Nat → Nat} {FD : Nat → Nat} {z : Nat} (hz : z ≤ 257) (hinj : ∀ i j, i < z → j < z → FD i = FD j → i = j) : ∀ r kn (PA NP : Nat → Nat), (∀ x, x < 257 → PA x < 1000) → ∀ x, x < 257 → (mgr st FD z r kn PA NP).2.2.1 x < 1000 := by
  intro r
  induction r with
  | zero => intro kn PA NP h; exact h
  | succ r ih =>
    intro kn PA NP h
    have hs : ∀ x, x < 257 → spc FD (sp1 st FD PA NP z).2 PA z x < 1000 := spc_lt z (fun i hi => by
      have := (sp1_v (st := st) (PA := PA) (NP := NP) hinj z (Nat.le_refl _) i hi).2
      have := sp1_le st FD PA NP z
      omega) h
    rw [mgr]
    split
    · exact hs
    · exact ih _ _ _ hs
theorem sta_all (h : SLR FO SP en n MN LT FI LA FL EM a) (hA : ∀ x, x < 257 → AC x < 1000) (hN : NI NX) (hb : bld FO SP en SE AC NX = bb) {GR FN FD KN PA NP : Nat → Nat} {gg : Nat × (Nat → Nat) × (Nat → Nat)} (hg : grp bb.2 bb.1.1 (bb.1.1 + 1) 0 (cpz bb.1.2.2.2 GR bb.1.1) FN = gg) (hGR : ∀ x, x < 257 → GR x < 1000) (hPA : ∀ x, x < 257 → PA x < 1000) {Q0 : SM} (hQ0 : so (fun q c => mstep MN LT FI FL a q c) 257 0 (sm0 FD KN) = Q0) {G0 : Bool × Nat × (Nat → Nat) × (Nat → Nat)} (hG0 : mgr (fun q c => mstep MN LT FI FL a q c) Q0.2.1 Q0.1 258 0 (spa (mtl LA EM a) Q0.2.1 PA Q0.1) NP = G0) :
    G0.1 = true ∧ G0.2.1 = gg.1 ∧ (∀ x, x < 257 → gg.2.1 x < 1000) ∧ (∀ x, x < 257 → G0.2.2.1 x < 1000) := by
  obtain ⟨c1, c2, c3, c4, c5, c6⟩ := cnt_all h hA hN hb
  have hS := SR_bld (en := en) (P := fun S => S = 256 ∨ S < 2 ^ n) (st := fun q c => mstep MN LT FI FL a q c) (SLR_b h).1 (stP h) (Or.inl rfl) SE AC NX FD KN
  rw [hb, hQ0] at hS
  have hok := so_ok (st := fun q c => mstep MN LT FI FL a q c) (fun x c => by have := mstp256 h x c; show mstep MN LT FI FL a x c < 257; omega) 257 0 (sm0 FD KN) SI_0
  rw [hQ0] at hok
  have hac := MI_ac c5
  have hte : ∀ x, mtl LA EM a x ≤ 1 := mtl_1 h
  obtain ⟨⟨z, S2, NU, A2⟩, N2⟩ := bb
  obtain ⟨n9, F9, K9⟩ := Q0
  obtain ⟨r1, r2, -⟩ := hS
  subst r1
  have hinj : ∀ i j, i < n9 → j < n9 → F9 i = F9 j → i = j := hok.2.2.1
  have hN2 : ∀ j c, j < n9 → c < 4 → N2 (j * 4 + c) < n9 ∧ F9 (N2 (j * 4 + c)) = (fun q c => mstep MN LT FI FL a q c) (F9 j) c := fun j c hj hc => by
    have q1 := c2 j c hj hc
    refine ⟨q1, ?_⟩
    rw [(r2 _ q1).2, (r2 j hj).2]
    exact c3 j c hj hc
  have hgm := grp_mgr hinj hN2 (n9 + 1) 258 0 (cpz A2 GR n9) FN (spa (mtl LA EM a) F9 PA n9) NP (by have hz9 : n9 ≤ 257 := c1.1; omega) (Nat.le_refl _) (Nat.zero_le _) (fun v hv => absurd hv (Nat.not_lt_zero _)) (fun j hj => by
    rw [spa_at hinj _ _ n9 (Nat.le_refl _) j hj, (r2 j hj).2]
    unfold cpz
    rw [if_pos hj]
    exact (c4 j hj).symm)
  have hgl := grp_lt (NX := N2) c1.1 (n9 + 1) 0 (cpz A2 GR n9) FN (cpz_lt2 hac hGR)
  have hml := mgr_lt (st := fun q c => mstep MN LT FI FL a q c) c1.1 hinj 258 0 (spa (mtl LA EM a) F9 PA n9) NP (spa_lt hte hPA n9)
  rw [show mgr (fun q c => mstep MN LT FI FL a q c) F9 n9 258 0 (spa (mtl LA EM a) F9 PA n9) NP = G0 from hG0] at hgm hml
  rw [show grp N2 n9 (n9 + 1) 0 (cpz A2 GR n9) FN = gg from hg] at hgm hgl
  exact ⟨hgm.1, hgm.2, hgl, hml⟩
end CNT
theorem i64_nat {x : Int64} (h : lN 0 ≤ x) : ∃ kk, kk < 2 ^ 63 ∧ x = lN kk := by
  have h0 : (0 : Int) ≤ x.toInt := by
    have := Int64.le_iff_toInt_le.mp h
    exact this
  have h1 := Int64.toInt_lt x
  refine ⟨x.toInt.toNat, by omega, ?_⟩
  apply Int64.toInt_inj.mp
  show x.toInt = (Int64.ofNat x.toInt.toNat).toInt
  rw [lg_ofNat_toInt (by omega)]
  omega
