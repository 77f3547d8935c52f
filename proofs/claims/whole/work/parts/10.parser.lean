/-! THE PARSER -/
def alt (a b : PT) : PT := (a.1 ||| b.1, a.2.1 ||| b.2.1, a.2.2 || b.2.2)
def beh (a b : PT) : PT := (if a.2.2 then a.1 ||| b.1 else a.1, if b.2.2 then a.2.1 ||| b.2.1 else b.2.1, a.2.2 && b.2.2)
section PRY
variable {k : Nat → ClassId} {pr sa ra fc : Nat} {sq rq : Nat → Nat} {fw : Bool} {dp : Nat} {F : PT} {S Rw : Nat → PT} {Y : va_W}
theorem prW_22 : prW k pr sa ra fc sq rq fw dp F S Rw Y = (([(pr, .inr (2, [.ref sa, .ref ra, .ref fc, .int (nI fw.toNat), .int (nI dp)])), (sa, .inl (k 4, 9, .inr (.inr (.inr (.inr (fun j => some (sq j))))))), (ra, .inl (k 4, 9, .inr (.inr (.inr (.inr (fun j => some (rq j))))))), (fc, ptE F)] ++ pfm sq S) ++ pfm rq Rw) ++ Y := by
  unfold prW; simp only [List.append_assoc]
theorem prW_l22 (X : va_W) (h : X.length = 4) : ((X ++ pfm sq S) ++ pfm rq Rw).length = 22 := by rw [List.length_append, prW_len4 X h]; unfold pfm; rw [fam_len]
theorem prW_y (i : Nat) : (prW k pr sa ra fc sq rq fw dp F S Rw Y)[22 + i]? = Y[i]? := by
  rw [prW_22, List.getElem?_append_right (by rw [prW_l22 _ rfl]; omega), prW_l22 _ rfl, show 22 + i - 22 = i by omega]
theorem prW_setY (i : Nat) (x : Nat × va_E) : (prW k pr sa ra fc sq rq fw dp F S Rw Y).set (22 + i) x = prW k pr sa ra fc sq rq fw dp F S Rw (Y.set i x) := by
  rw [prW_22, prW_22, List.set_append_right _ _ (by rw [prW_l22 _ rfl]; omega), prW_l22 _ rfl, show 22 + i - 22 = i by omega]
end PRY
theorem va_up_id {α : Type} (f : Nat → α) (k : Nat) : va_up f k (f k) = f := by
  funext j
  by_cases h : j = k
  · subst h; rw [va_up_self]
  · rw [va_up_ne _ _ h]
set_option maxHeartbeats 4000000 in
set_option maxRecDepth 100000 in
/-- beginSum() -/
theorem ok_Pr_beginSum (l : Launch) (D : va_G) (k : Nat → ClassId) (sz : Nat) (pr sa ra fc : Nat) (sq rq : Nat → Nat) (fw : Bool) (dp : Nat) (F : PT) (S Rw : Nat → PT) (Y : va_W) (hdp : dp ≤ 8) : Met l y_Pr_beginSum (.code y_Pr_beginSum c_Pr_beginSum 1 none :: wsU) ({ frames := 1, cells := 0, slots := 0, locals := 23 } : Room) (kPre D k [.ref pr] (prW k pr sa ra fc sq rq fw dp F S Rw Y) sz) (va_Qv (fun (_ : Unit) => True) (kB D k (fun _ : Unit => (prW k pr sa ra fc sq rq fw dp F (va_up S dp (0, 0, false)) (va_up Rw dp (0, 0, true)) Y)) (va_A (prW k pr sa ra fc sq rq fw dp F S Rw Y) sz)) (va_A (prW k pr sa ra fc sq rq fw dp F S Rw Y) sz)) 0 0 (va_A (prW k pr sa ra fc sq rq fw dp F S Rw Y) sz) := by
  refine kMet (by decide) (Nat.le_of_ble_eq_true rfl) ?_
  intro p e s m below meth c ls hX hml hr hlocks hin hsz hW hl Q hQ
  generalize hAe : va_A (prW k pr sa ra fc sq rq fw dp F S Rw Y) sz = A at hW hQ
  generalize hH0 : s.heap = H at hW ⊢
  generalize hl0 : ([] : List Loc) = locs at hW ⊢
  have hX : FX p s m c [.ref pr].toArray c_Pr_beginSum R_Pr := hX
  have hl : lv_has ls 1 [(0, .ref pr)] := hl
  refine lv_aload_n hX.1 hX.2.1 d_Pr_beginSum_0 rfl (lv_at hl 0 rfl) ?_
  refine kget hX hW i_Pr 0 rfl rfl 0 (by decide) f_Pr_11 rfl rfl d_Pr_beginSum_1 ?_
  refine lv_aload_n hX.1 hX.2.1 d_Pr_beginSum_4 rfl (lv_at hl 0 rfl) ?_
  refine kget hX hW i_Pr 0 rfl rfl 4 (by decide) f_Pr_29 rfl rfl d_Pr_beginSum_5 ?_
  refine kaald (b := sq dp) hX hW 1 4 rfl rfl (by omega) (by decide) rfl d_Pr_beginSum_8 ?_
  refine lv_iconst (v := nI 0) hX.1 hX.2.1 d_Pr_beginSum_9 (by decide) ?_
  refine lv_iconst (v := nI 0) hX.1 hX.2.1 d_Pr_beginSum_10 (by decide) ?_
  refine lv_iconst (v := nI 0) hX.1 hX.2.1 d_Pr_beginSum_11 (by decide) ?_
  refine kCv (wc := [(sq dp, .inr (3, [.int (nI ((S dp).1)), .int (nI ((S dp).2.1)), .int (nI ((S dp).2.2.toNat))]))]) hW [4 + dp] (by simp only [List.map_cons, List.map_nil]; rw [prW_s (by omega)]; rfl) (by intro _; rfl) (kRunV (n := 3) (As := [.int (nI 0), .int (nI 0), .int (nI 0)]) (rest := []) hX hml hW (ok_Pt_become l D k H.size (sq dp) (S dp).1 (S dp).2.1 (S dp).2.2 0 0 false) m_Pr_93 im_Pt_become se_Pt_become in_Pt cd_Pt_become [4 + dp] (rfl) (by simp only [List.map_cons, List.map_nil]; rw [prW_s (by omega)]; rfl) rfl rfl (by decide +kernel) ⟨rfl, rfl, by decide, by decide⟩ rfl hl.1 rfl (by decide) d_Pr_beginSum_12 ⟨by decide, by decide⟩) (fun u H locs _ hW => ?_)
  have hW : KW D k A s (prW k pr sa ra fc sq rq fw dp F (va_up S dp (0, 0, false)) Rw Y) H locs := by rw [← prW_setS (d := dp) (by omega) (0, 0, false)]; exact hW
  refine lv_aload_n hX.1 hX.2.1 d_Pr_beginSum_15 rfl (lv_at hl 0 rfl) ?_
  refine kget hX hW i_Pr 0 rfl rfl 1 (by decide) f_Pr_17 rfl rfl d_Pr_beginSum_16 ?_
  refine lv_aload_n hX.1 hX.2.1 d_Pr_beginSum_19 rfl (lv_at hl 0 rfl) ?_
  refine kget hX hW i_Pr 0 rfl rfl 4 (by decide) f_Pr_29 rfl rfl d_Pr_beginSum_20 ?_
  refine kaald (b := rq dp) hX hW 2 4 rfl rfl (by omega) (by decide) rfl d_Pr_beginSum_23 ?_
  refine lv_iconst (v := nI 0) hX.1 hX.2.1 d_Pr_beginSum_24 (by decide) ?_
  refine lv_iconst (v := nI 0) hX.1 hX.2.1 d_Pr_beginSum_25 (by decide) ?_
  refine lv_iconst (v := nI 1) hX.1 hX.2.1 d_Pr_beginSum_26 (by decide) ?_
  refine kCv (wc := [(rq dp, .inr (3, [.int (nI ((Rw dp).1)), .int (nI ((Rw dp).2.1)), .int (nI ((Rw dp).2.2.toNat))]))]) hW [13 + dp] (by simp only [List.map_cons, List.map_nil]; rw [prW_r (by omega)]; rfl) (by intro _; rfl) (kRunV (n := 3) (As := [.int (nI 0), .int (nI 0), .int (nI 1)]) (rest := []) hX hml hW (ok_Pt_become l D k H.size (rq dp) (Rw dp).1 (Rw dp).2.1 (Rw dp).2.2 0 0 true) m_Pr_93 im_Pt_become se_Pt_become in_Pt cd_Pt_become [13 + dp] (rfl) (by simp only [List.map_cons, List.map_nil]; rw [prW_r (by omega)]; rfl) rfl rfl (by decide +kernel) ⟨rfl, rfl, by decide, by decide⟩ rfl hl.1 rfl (by decide) d_Pr_beginSum_27 ⟨by decide, by decide⟩) (fun u H locs _ hW => ?_)
  have hW : KW D k A s (prW k pr sa ra fc sq rq fw dp F (va_up S dp (0, 0, false)) (va_up Rw dp (0, 0, true)) Y) H locs := by rw [← prW_setR (d := dp) (by omega) (0, 0, true)]; exact hW
  exact kvret hX hr hlocks hQ () (hW) (trivial) d_Pr_beginSum_30
set_option maxHeartbeats 4000000 in
set_option maxRecDepth 100000 in
/-- endRow() -/
theorem ok_Pr_endRow (l : Launch) (D : va_G) (k : Nat → ClassId) (sz : Nat) (pr sa ra fc : Nat) (sq rq : Nat → Nat) (fw : Bool) (dp : Nat) (F : PT) (S Rw : Nat → PT) (Y : va_W) (hdp : dp ≤ 8) : Met l y_Pr_endRow (.code y_Pr_endRow c_Pr_endRow 1 none :: wsU) ({ frames := 2, cells := 0, slots := 0, locals := 44 } : Room) (kPre D k [.ref pr] (prW k pr sa ra fc sq rq fw dp F S Rw Y) sz) (va_Qv (fun (_ : Unit) => True) (kB D k (fun _ : Unit => (prW k pr sa ra fc sq rq fw dp F (va_up S dp (alt (S dp) (Rw dp))) (va_up Rw dp (0, 0, true)) Y)) (va_A (prW k pr sa ra fc sq rq fw dp F S Rw Y) sz)) (va_A (prW k pr sa ra fc sq rq fw dp F S Rw Y) sz)) 0 0 (va_A (prW k pr sa ra fc sq rq fw dp F S Rw Y) sz) := by
  refine kMet (by decide) (Nat.le_of_ble_eq_true rfl) ?_
  intro p e s m below meth c ls hX hml hr hlocks hin hsz hW hl Q hQ
  generalize hAe : va_A (prW k pr sa ra fc sq rq fw dp F S Rw Y) sz = A at hW hQ
  generalize hH0 : s.heap = H at hW ⊢
  generalize hl0 : ([] : List Loc) = locs at hW ⊢
  have hX : FX p s m c [.ref pr].toArray c_Pr_endRow R_Pr := hX
  have hl : lv_has ls 1 [(0, .ref pr)] := hl
  have hnd : va_nd [4 + dp, 13 + dp] = true := by simp [va_nd] <;> omega
  refine lv_aload_n hX.1 hX.2.1 d_Pr_endRow_0 rfl (lv_at hl 0 rfl) ?_
  refine kget hX hW i_Pr 0 rfl rfl 0 (by decide) f_Pr_11 rfl rfl d_Pr_endRow_1 ?_
  refine lv_aload_n hX.1 hX.2.1 d_Pr_endRow_4 rfl (lv_at hl 0 rfl) ?_
  refine kget hX hW i_Pr 0 rfl rfl 4 (by decide) f_Pr_29 rfl rfl d_Pr_endRow_5 ?_
  refine kaald (b := sq dp) hX hW 1 4 rfl rfl (by omega) (by decide) rfl d_Pr_endRow_8 ?_
  refine lv_aload_n hX.1 hX.2.1 d_Pr_endRow_9 rfl (lv_at hl 0 rfl) ?_
  refine kget hX hW i_Pr 0 rfl rfl 1 (by decide) f_Pr_17 rfl rfl d_Pr_endRow_10 ?_
  refine lv_aload_n hX.1 hX.2.1 d_Pr_endRow_13 rfl (lv_at hl 0 rfl) ?_
  refine kget hX hW i_Pr 0 rfl rfl 4 (by decide) f_Pr_29 rfl rfl d_Pr_endRow_14 ?_
  refine kaald (b := rq dp) hX hW 2 4 rfl rfl (by omega) (by decide) rfl d_Pr_endRow_17 ?_
  refine kCv (wc := [(sq dp, .inr (3, [.int (nI ((S dp).1)), .int (nI ((S dp).2.1)), .int (nI ((S dp).2.2.toNat))])), (rq dp, .inr (3, [.int (nI ((Rw dp).1)), .int (nI ((Rw dp).2.1)), .int (nI ((Rw dp).2.2.toNat))]))]) hW [4 + dp, 13 + dp] (by simp only [List.map_cons, List.map_nil]; rw [prW_s (by omega), prW_r (by omega)]; rfl) (by intro _; rfl) (kRunV (n := 1) (As := [.ref (rq dp)]) (rest := []) hX hml hW (ok_Pt_addAlternative l D k H.size (sq dp) (S dp).1 (S dp).2.1 (S dp).2.2 (rq dp) (Rw dp).1 (Rw dp).2.1 (Rw dp).2.2) m_Pr_100 im_Pt_addAlternative se_Pt_addAlternative in_Pt cd_Pt_addAlternative [4 + dp, 13 + dp] (hnd) (by simp only [List.map_cons, List.map_nil]; rw [prW_s (by omega), prW_r (by omega)]; rfl) rfl rfl (by decide +kernel) ⟨rfl, rfl, by decide, by decide⟩ rfl hl.1 rfl (by decide) d_Pr_endRow_18 ⟨by decide, by decide⟩) (fun u H locs _ hW => ?_)
  have e9 : ((prW k pr sa ra fc sq rq fw dp F S Rw Y).set (4 + dp) (sq dp, ptE (alt (S dp) (Rw dp)))).set (13 + dp) (rq dp, ptE (Rw dp)) = (prW k pr sa ra fc sq rq fw dp F (va_up S dp (alt (S dp) (Rw dp))) Rw Y) := by rw [prW_setS (by omega), prW_setR (by omega), va_up_id]
  have hW : KW D k A s (prW k pr sa ra fc sq rq fw dp F (va_up S dp (alt (S dp) (Rw dp))) Rw Y) H locs := by rw [← e9]; exact hW
  refine lv_aload_n hX.1 hX.2.1 d_Pr_endRow_21 rfl (lv_at hl 0 rfl) ?_
  refine kget hX hW i_Pr 0 rfl rfl 1 (by decide) f_Pr_17 rfl rfl d_Pr_endRow_22 ?_
  refine lv_aload_n hX.1 hX.2.1 d_Pr_endRow_25 rfl (lv_at hl 0 rfl) ?_
  refine kget hX hW i_Pr 0 rfl rfl 4 (by decide) f_Pr_29 rfl rfl d_Pr_endRow_26 ?_
  refine kaald (b := rq dp) hX hW 2 4 rfl rfl (by omega) (by decide) rfl d_Pr_endRow_29 ?_
  refine lv_iconst (v := nI 0) hX.1 hX.2.1 d_Pr_endRow_30 (by decide) ?_
  refine lv_iconst (v := nI 0) hX.1 hX.2.1 d_Pr_endRow_31 (by decide) ?_
  refine lv_iconst (v := nI 1) hX.1 hX.2.1 d_Pr_endRow_32 (by decide) ?_
  refine kCv (wc := [(rq dp, .inr (3, [.int (nI ((Rw dp).1)), .int (nI ((Rw dp).2.1)), .int (nI ((Rw dp).2.2.toNat))]))]) hW [13 + dp] (by simp only [List.map_cons, List.map_nil]; rw [prW_r (by omega)]; rfl) (by intro _; rfl) (kRunV (n := 3) (As := [.int (nI 0), .int (nI 0), .int (nI 1)]) (rest := []) hX hml hW (ok_Pt_become l D k H.size (rq dp) (Rw dp).1 (Rw dp).2.1 (Rw dp).2.2 0 0 true) m_Pr_93 im_Pt_become se_Pt_become in_Pt cd_Pt_become [13 + dp] (rfl) (by simp only [List.map_cons, List.map_nil]; rw [prW_r (by omega)]; rfl) rfl rfl (by decide +kernel) ⟨rfl, rfl, by decide, by decide⟩ rfl hl.1 rfl (by decide) d_Pr_endRow_33 ⟨by decide, by decide⟩) (fun u H locs _ hW => ?_)
  have hW : KW D k A s (prW k pr sa ra fc sq rq fw dp F (va_up S dp (alt (S dp) (Rw dp))) (va_up Rw dp (0, 0, true)) Y) H locs := by rw [← prW_setR (d := dp) (by omega) (0, 0, true)]; exact hW
  exact kvret hX hr hlocks hQ () (hW) (trivial) d_Pr_endRow_36
set_option maxHeartbeats 4000000 in
set_option maxRecDepth 100000 in
/-- setFactor(x, y, z) -/
theorem ok_Pr_setFactor (l : Launch) (D : va_G) (k : Nat → ClassId) (sz : Nat) (pr sa ra fc : Nat) (sq rq : Nat → Nat) (fw : Bool) (dp : Nat) (F : PT) (S Rw : Nat → PT) (Y : va_W) (x y : Nat) (z : Bool) : Met l y_Pr_setFactor (.code y_Pr_setFactor c_Pr_setFactor 4 none :: wsU) ({ frames := 1, cells := 0, slots := 0, locals := 23 } : Room) (kPre D k [.ref pr, .int (nI x), .int (nI y), .int (nI z.toNat)] (prW k pr sa ra fc sq rq fw dp F S Rw Y) sz) (va_Qv (fun (_ : Unit) => True) (kB D k (fun _ : Unit => (prW k pr sa ra fc sq rq true dp (x, y, z) S Rw Y)) (va_A (prW k pr sa ra fc sq rq fw dp F S Rw Y) sz)) (va_A (prW k pr sa ra fc sq rq fw dp F S Rw Y) sz)) 0 0 (va_A (prW k pr sa ra fc sq rq fw dp F S Rw Y) sz) := by
  refine kMet (by decide) (Nat.le_of_ble_eq_true rfl) ?_
  intro p e s m below meth c ls hX hml hr hlocks hin hsz hW hl Q hQ
  generalize hAe : va_A (prW k pr sa ra fc sq rq fw dp F S Rw Y) sz = A at hW hQ
  generalize hH0 : s.heap = H at hW ⊢
  generalize hl0 : ([] : List Loc) = locs at hW ⊢
  have hX : FX p s m c [.ref pr, .int (nI x), .int (nI y), .int (nI z.toNat)].toArray c_Pr_setFactor R_Pr := hX
  have hl : lv_has ls 4 [(0, .ref pr), (1, .int (nI x)), (2, .int (nI y)), (3, .int (nI z.toNat))] := hl
  refine lv_aload_n hX.1 hX.2.1 d_Pr_setFactor_0 rfl (lv_at hl 0 rfl) ?_
  refine kget hX hW i_Pr 0 rfl rfl 2 (by decide) f_Pr_21 rfl rfl d_Pr_setFactor_1 ?_
  refine lv_iload_n hX.1 hX.2.1 d_Pr_setFactor_4 rfl (lv_at hl 1 rfl) ?_
  refine lv_iload_n hX.1 hX.2.1 d_Pr_setFactor_5 rfl (lv_at hl 2 rfl) ?_
  refine lv_iload_n hX.1 hX.2.1 d_Pr_setFactor_6 rfl (lv_at hl 3 rfl) ?_
  refine kCv (wc := [(fc, .inr (3, [.int (nI F.1), .int (nI F.2.1), .int (nI F.2.2.toNat)]))]) hW [3] (rfl) (by intro _; rfl) (kRunV (n := 3) (As := [.int (nI x), .int (nI y), .int (nI z.toNat)]) (rest := []) hX hml hW (ok_Pt_become l D k H.size fc F.1 F.2.1 F.2.2 x y z) m_Pr_93 im_Pt_become se_Pt_become in_Pt cd_Pt_become [3] (rfl) (rfl) rfl rfl (by decide +kernel) ⟨rfl, rfl, by decide, by decide⟩ rfl hl.1 rfl (by decide) d_Pr_setFactor_7 ⟨by decide, by decide⟩) (fun u H locs _ hW => ?_)
  have hW : KW D k A s (prW k pr sa ra fc sq rq fw dp (x, y, z) S Rw Y) H locs := hW
  refine lv_aload_n hX.1 hX.2.1 d_Pr_setFactor_10 rfl (lv_at hl 0 rfl) ?_
  refine lv_iconst (v := nI 1) hX.1 hX.2.1 d_Pr_setFactor_11 (by decide) ?_
  refine kput hX hW i_Pr t_Pr t_Pr_ok n_Pr 0 rfl rfl 3 (by decide) f_Pr_25 rfl rfl (rfl) (rfl) (Nat.le_of_ble_eq_true rfl) d_Pr_setFactor_12 (fun H locs hW => ?_)
  have hW : KW D k A s (prW k pr sa ra fc sq rq true dp (x, y, z) S Rw Y) H locs := hW
  exact kvret hX hr hlocks hQ () (hW) (trivial) d_Pr_setFactor_15
set_option maxHeartbeats 4000000 in
set_option maxRecDepth 100000 in
/-- joinFactor(target) -/
theorem ok_Pr_joinFactor (l : Launch) (D : va_G) (k : Nat → ClassId) (sz : Nat) (pr sa ra fc : Nat) (sq rq : Nat → Nat) (fw : Bool) (dp : Nat) (F : PT) (S Rw : Nat → PT) (h f g : Nat) (FO SP : Nat → Nat) (en n : Nat) (Yr : va_W) (hdp : dp ≤ 8) (hla : (Rw dp).2.1 < 512) : Met l y_Pr_joinFactor (.code y_Pr_joinFactor c_Pr_joinFactor 3 (some .boolean) :: wsU) ({ frames := 2, cells := 0, slots := 0, locals := 47 } : Room) (kPre D k [.ref pr, .ref h] (prW k pr sa ra fc sq rq fw dp F S Rw ((h, .inr (0, [.ref f, .ref g, .int (nI en), .int (nI n)])) :: (f, .inl (k 0, 9, .inl (aN FO))) :: (g, .inl (k 0, 4, .inl (aN SP))) :: Yr)) sz) (va_Qi (fun (r : Int32) (_ : Unit) => r = nI fw.toNat) (kB D k (fun _ : Unit => (prW k pr sa ra fc sq rq false dp F S (if fw then va_up Rw dp (beh (Rw dp) F) else Rw) ((h, .inr (0, [.ref f, .ref g, .int (nI en), .int (nI n)])) :: (f, .inl (k 0, 9, .inl (aN (if fw then lnk FO (Rw dp).2.1 F.1 9 else FO)))) :: (g, .inl (k 0, 4, .inl (aN SP))) :: Yr))) (va_A (prW k pr sa ra fc sq rq fw dp F S Rw ((h, .inr (0, [.ref f, .ref g, .int (nI en), .int (nI n)])) :: (f, .inl (k 0, 9, .inl (aN FO))) :: (g, .inl (k 0, 4, .inl (aN SP))) :: Yr)) sz)) (va_A (prW k pr sa ra fc sq rq fw dp F S Rw ((h, .inr (0, [.ref f, .ref g, .int (nI en), .int (nI n)])) :: (f, .inl (k 0, 9, .inl (aN FO))) :: (g, .inl (k 0, 4, .inl (aN SP))) :: Yr)) sz)) 0 0 (va_A (prW k pr sa ra fc sq rq fw dp F S Rw ((h, .inr (0, [.ref f, .ref g, .int (nI en), .int (nI n)])) :: (f, .inl (k 0, 9, .inl (aN FO))) :: (g, .inl (k 0, 4, .inl (aN SP))) :: Yr)) sz) := by
  refine kMet (by decide) (Nat.le_of_ble_eq_true rfl) ?_
  intro p e s m below meth c ls hX hml hr hlocks hin hsz hW hl Q hQ
  generalize hAe : va_A (prW k pr sa ra fc sq rq fw dp F S Rw ((h, .inr (0, [.ref f, .ref g, .int (nI en), .int (nI n)])) :: (f, .inl (k 0, 9, .inl (aN FO))) :: (g, .inl (k 0, 4, .inl (aN SP))) :: Yr)) sz = A at hW hQ
  generalize hH0 : s.heap = H at hW ⊢
  generalize hl0 : ([] : List Loc) = locs at hW ⊢
  have hX : FX p s m c [.ref pr, .ref h].toArray c_Pr_joinFactor R_Pr := hX
  have hl : lv_has ls 3 [(0, .ref pr), (1, .ref h)] := hl
  refine lv_aload_n hX.1 hX.2.1 d_Pr_joinFactor_0 rfl (lv_at hl 0 rfl) ?_
  refine kget hX hW i_Pr 0 rfl rfl 3 (by decide) f_Pr_25 rfl rfl d_Pr_joinFactor_1 ?_
  refine lv_istore_n (lv' := [(2, .int (nI fw.toNat)), (0, .ref pr), (1, .ref h)]) hX.1 hX.2.1 d_Pr_joinFactor_4 rfl hl (by decide) rfl (fun ls hl => ?_)
  refine lv_iload_n hX.1 hX.2.1 d_Pr_joinFactor_5 rfl (lv_at hl 0 rfl) ?_
  have k26 : ∀ (Rw1 : Nat → PT) (FO1 : Nat → Nat) (H : Heap) (locs : List Loc), Rw1 = (if fw then va_up Rw dp (beh (Rw dp) F) else Rw) → FO1 = (if fw then lnk FO (Rw dp).2.1 F.1 9 else FO) → KW D k A s (prW k pr sa ra fc sq rq fw dp F S Rw1 ((h, .inr (0, [.ref f, .ref g, .int (nI en), .int (nI n)])) :: (f, .inl (k 0, 9, .inl (aN FO1))) :: (g, .inl (k 0, 4, .inl (aN SP))) :: Yr)) H locs → W p l e ({ frames := 2, cells := 0, slots := 0, locals := 47 } : Room) s m [.ref pr, .ref h].toArray below meth c H locs 0 0 Q (F0 m 26 ls []) := by
    intro Rw1 FO1 H locs hR1 hF1 hW
    refine lv_aload_n hX.1 hX.2.1 d_Pr_joinFactor_26 rfl (lv_at hl 1 rfl) ?_
    refine lv_iconst (v := nI 0) hX.1 hX.2.1 d_Pr_joinFactor_27 (by decide) ?_
    refine kput hX hW i_Pr t_Pr t_Pr_ok n_Pr 0 rfl rfl 3 (by decide) f_Pr_25 rfl rfl (rfl) (rfl) (Nat.le_of_ble_eq_true rfl) d_Pr_joinFactor_28 (fun H locs hW => ?_)
    have hW : KW D k A s (prW k pr sa ra fc sq rq false dp F S Rw1 ((h, .inr (0, [.ref f, .ref g, .int (nI en), .int (nI n)])) :: (f, .inl (k 0, 9, .inl (aN FO1))) :: (g, .inl (k 0, 4, .inl (aN SP))) :: Yr)) H locs := hW
    refine lv_iload_n hX.1 hX.2.1 d_Pr_joinFactor_31 rfl (lv_at hl 0 rfl) ?_
    subst hR1 hF1
    exact kzret hX hr hlocks hQ () (hW) (rfl) (bT_r _) d_Pr_joinFactor_32
  refine kz hX (tgt := 26) (bT _) d_Pr_joinFactor_6 (by decide) (fun h1 => ?_) (fun h1 => ?_)
  · exact k26 Rw FO H locs (by rw [bT_0 h1]; rfl) (by rw [bT_0 h1]; rfl) hW
  · have hnd : va_nd [13 + dp, 3, 22 + 0, 22 + 1, 22 + 2] = true := by simp [va_nd] <;> omega
    refine lv_aload_n hX.1 hX.2.1 d_Pr_joinFactor_9 rfl (lv_at hl 1 rfl) ?_
    refine kget hX hW i_Pr 0 rfl rfl 1 (by decide) f_Pr_17 rfl rfl d_Pr_joinFactor_10 ?_
    refine lv_aload_n hX.1 hX.2.1 d_Pr_joinFactor_13 rfl (lv_at hl 1 rfl) ?_
    refine kget hX hW i_Pr 0 rfl rfl 4 (by decide) f_Pr_29 rfl rfl d_Pr_joinFactor_14 ?_
    refine kaald (b := rq dp) hX hW 2 4 rfl rfl (by omega) (by decide) rfl d_Pr_joinFactor_17 ?_
    refine lv_aload_n hX.1 hX.2.1 d_Pr_joinFactor_18 rfl (lv_at hl 1 rfl) ?_
    refine kget hX hW i_Pr 0 rfl rfl 2 (by decide) f_Pr_21 rfl rfl d_Pr_joinFactor_19 ?_
    refine lv_aload_n hX.1 hX.2.1 d_Pr_joinFactor_22 rfl (lv_at hl 2 rfl) ?_
    refine kCv (wc := [(rq dp, .inr (3, [.int (nI ((Rw dp).1)), .int (nI ((Rw dp).2.1)), .int (nI ((Rw dp).2.2.toNat))])), (fc, .inr (3, [.int (nI F.1), .int (nI F.2.1), .int (nI F.2.2.toNat)]))] ++ [(h, .inr (0, [.ref f, .ref g, .int (nI en), .int (nI n)])), (f, .inl (k 0, 9, .inl (aN FO))), (g, .inl (k 0, 4, .inl (aN SP)))]) hW [13 + dp, 3, 22 + 0, 22 + 1, 22 + 2] (by simp only [List.map_cons, List.map_nil]; rw [prW_r (by omega), prW_y 0, prW_y 1, prW_y 2]; rfl) (by intro _; rfl) (kRunV (n := 2) (As := [.ref fc, .ref h]) (rest := []) hX hml hW (ok_Pt_addBehind l D k H.size (rq dp) (Rw dp).1 (Rw dp).2.1 (Rw dp).2.2 fc F.1 F.2.1 F.2.2 h f g FO SP en n hla) m_Pr_96 im_Pt_addBehind se_Pt_addBehind in_Pt cd_Pt_addBehind [13 + dp, 3, 22 + 0, 22 + 1, 22 + 2] (hnd) (by simp only [List.map_cons, List.map_nil]; rw [prW_r (by omega), prW_y 0, prW_y 1, prW_y 2]; rfl) rfl rfl (by decide +kernel) ⟨rfl, rfl, by decide, by decide⟩ rfl hl.1 rfl (by decide) d_Pr_joinFactor_23 ⟨by decide, by decide⟩) (fun u H locs _ hW => ?_)
    have e9 : (prW k pr sa ra fc sq rq fw dp F S Rw ((h, .inr (0, [.ref f, .ref g, .int (nI en), .int (nI n)])) :: (f, .inl (k 0, 9, .inl (aN FO))) :: (g, .inl (k 0, 4, .inl (aN SP))) :: Yr)).set (13 + dp) (rq dp, .inr (3, [.int (nI (if (Rw dp).2.2 then (Rw dp).1 ||| F.1 else (Rw dp).1)), .int (nI (if F.2.2 then (Rw dp).2.1 ||| F.2.1 else F.2.1)), .int (nI ((Rw dp).2.2 && F.2.2).toNat)])) = (prW k pr sa ra fc sq rq fw dp F S (va_up Rw dp (beh (Rw dp) F)) ((h, .inr (0, [.ref f, .ref g, .int (nI en), .int (nI n)])) :: (f, .inl (k 0, 9, .inl (aN FO))) :: (g, .inl (k 0, 4, .inl (aN SP))) :: Yr)) := prW_setR (by omega) (beh (Rw dp) F)
    have e8 : ∀ (Rw : Nat → PT) (Y : va_W), (prW k pr sa ra fc sq rq fw dp F S Rw Y).set 3 (fc, .inr (3, [.int (nI F.1), .int (nI F.2.1), .int (nI F.2.2.toNat)])) = prW k pr sa ra fc sq rq fw dp F S Rw Y := fun _ _ => rfl
    simp only [setAll] at hW
    rw [e9, e8, prW_setY 0, prW_setY 1, prW_setY 2] at hW
    have hW : KW D k A s (prW k pr sa ra fc sq rq fw dp F S (va_up Rw dp (beh (Rw dp) F)) ((h, .inr (0, [.ref f, .ref g, .int (nI en), .int (nI n)])) :: (f, .inl (k 0, 9, .inl (aN (lnk FO (Rw dp).2.1 F.1 9)))) :: (g, .inl (k 0, 4, .inl (aN SP))) :: Yr)) H locs := hW
    exact k26 _ _ H locs (by rw [bT_1 h1]; rfl) (by rw [bT_1 h1]; rfl) hW
