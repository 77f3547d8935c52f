section
-- ===== PART A: goes FIRST, ahead of the names: the tables' words, and 'selects' of the private methods out of them =====
/-- a private method of a class that the tables say can be made, by its rows of tables_1 -/
def lw_okq (q : MethodName × Nat) : Prop := (q.1.cls ≠ "java/lang/invoke/MethodHandle" ∧ q.1.cls ≠ "java/lang/invoke/VarHandle") ∧ Cond.instantiable q.1.cls q.2 ∈ tables_1 ∧ Cond.privateMethod q.1 ∈ tables_1 ∧ Cond.instanceMethod q.1 ∈ tables_1
theorem lw_p0 : lw_okq (⟨"java/lang/Throwable", "fillInStackTrace", "(I)Ljava/lang/Throwable;"⟩, 6) := ⟨⟨by decide +kernel, by decide +kernel⟩, List.mem_of_getElem? (i := 267) (by decide +kernel), List.mem_of_getElem? (i := 265) (by decide +kernel), List.mem_of_getElem? (i := 266) (by decide +kernel)⟩
theorem lw_p1 : lw_okq (⟨"WordSets$Parser", "beginSum", "()V"⟩, 5) := ⟨⟨by decide +kernel, by decide +kernel⟩, List.mem_of_getElem? (i := 68) (by decide +kernel), List.mem_of_getElem? (i := 343) (by decide +kernel), List.mem_of_getElem? (i := 344) (by decide +kernel)⟩
theorem lw_p2 : lw_okq (⟨"WordSets$Parser", "accept", "(ILWordSets$Expression;)Z"⟩, 5) := ⟨⟨by decide +kernel, by decide +kernel⟩, List.mem_of_getElem? (i := 68) (by decide +kernel), List.mem_of_getElem? (i := 351) (by decide +kernel), List.mem_of_getElem? (i := 352) (by decide +kernel)⟩
theorem lw_p3 : lw_okq (⟨"WordSets$Parser", "acceptRepeat", "(ILWordSets$Expression;)Z"⟩, 5) := ⟨⟨by decide +kernel, by decide +kernel⟩, List.mem_of_getElem? (i := 68) (by decide +kernel), List.mem_of_getElem? (i := 355) (by decide +kernel), List.mem_of_getElem? (i := 356) (by decide +kernel)⟩
theorem lw_p4 : lw_okq (⟨"WordSets$Parser", "joinFactor", "(LWordSets$Expression;)Z"⟩, 5) := ⟨⟨by decide +kernel, by decide +kernel⟩, List.mem_of_getElem? (i := 68) (by decide +kernel), List.mem_of_getElem? (i := 367) (by decide +kernel), List.mem_of_getElem? (i := 368) (by decide +kernel)⟩
theorem lw_p5 : lw_okq (⟨"WordSets$Parser", "acceptLetter", "(ILWordSets$Expression;)Z"⟩, 5) := ⟨⟨by decide +kernel, by decide +kernel⟩, List.mem_of_getElem? (i := 68) (by decide +kernel), List.mem_of_getElem? (i := 376) (by decide +kernel), List.mem_of_getElem? (i := 377) (by decide +kernel)⟩
theorem lw_p6 : lw_okq (⟨"WordSets$Parser", "setFactor", "(IIZ)V"⟩, 5) := ⟨⟨by decide +kernel, by decide +kernel⟩, List.mem_of_getElem? (i := 68) (by decide +kernel), List.mem_of_getElem? (i := 384) (by decide +kernel), List.mem_of_getElem? (i := 385) (by decide +kernel)⟩
theorem lw_p7 : lw_okq (⟨"WordSets$Parser", "acceptOpening", "()Z"⟩, 5) := ⟨⟨by decide +kernel, by decide +kernel⟩, List.mem_of_getElem? (i := 68) (by decide +kernel), List.mem_of_getElem? (i := 388) (by decide +kernel), List.mem_of_getElem? (i := 389) (by decide +kernel)⟩
theorem lw_p8 : lw_okq (⟨"WordSets$Parser", "acceptClosing", "()Z"⟩, 5) := ⟨⟨by decide +kernel, by decide +kernel⟩, List.mem_of_getElem? (i := 68) (by decide +kernel), List.mem_of_getElem? (i := 392) (by decide +kernel), List.mem_of_getElem? (i := 393) (by decide +kernel)⟩
theorem lw_p9 : lw_okq (⟨"WordSets$Parser", "endRow", "()V"⟩, 5) := ⟨⟨by decide +kernel, by decide +kernel⟩, List.mem_of_getElem? (i := 68) (by decide +kernel), List.mem_of_getElem? (i := 396) (by decide +kernel), List.mem_of_getElem? (i := 397) (by decide +kernel)⟩
theorem lw_p10 : lw_okq (⟨"WordSets", "putSpare", "(I)V"⟩, 9) := ⟨⟨by decide +kernel, by decide +kernel⟩, List.mem_of_getElem? (i := 20) (by decide +kernel), List.mem_of_getElem? (i := 409) (by decide +kernel), List.mem_of_getElem? (i := 410) (by decide +kernel)⟩
theorem lw_p11 : lw_okq (⟨"WordSets$Search", "append", "(III)V"⟩, 5) := ⟨⟨by decide +kernel, by decide +kernel⟩, List.mem_of_getElem? (i := 145) (by decide +kernel), List.mem_of_getElem? (i := 451) (by decide +kernel), List.mem_of_getElem? (i := 452) (by decide +kernel)⟩
theorem lw_p12 : lw_okq (⟨"WordSets$Search", "spellWay", "(ILWordSets$Word;)V"⟩, 5) := ⟨⟨by decide +kernel, by decide +kernel⟩, List.mem_of_getElem? (i := 145) (by decide +kernel), List.mem_of_getElem? (i := 476) (by decide +kernel), List.mem_of_getElem? (i := 477) (by decide +kernel)⟩
theorem lw_p13 : lw_okq (⟨"WordSets$Search", "goOn", "(ILWordSets$Expression;LWordSets$Expression;)V"⟩, 5) := ⟨⟨by decide +kernel, by decide +kernel⟩, List.mem_of_getElem? (i := 145) (by decide +kernel), List.mem_of_getElem? (i := 484) (by decide +kernel), List.mem_of_getElem? (i := 485) (by decide +kernel)⟩
theorem lw_p14 : lw_okq (⟨"WordSets$Search", "markIfNew", "(II)Z"⟩, 5) := ⟨⟨by decide +kernel, by decide +kernel⟩, List.mem_of_getElem? (i := 145) (by decide +kernel), List.mem_of_getElem? (i := 489) (by decide +kernel), List.mem_of_getElem? (i := 490) (by decide +kernel)⟩
theorem lw_p15 : lw_okq (⟨"WordSets$Machine", "numberOf", "(ILWordSets$Expression;)I"⟩, 8) := ⟨⟨by decide +kernel, by decide +kernel⟩, List.mem_of_getElem? (i := 113) (by decide +kernel), List.mem_of_getElem? (i := 523) (by decide +kernel), List.mem_of_getElem? (i := 524) (by decide +kernel)⟩
def lw_privs_1 : List (MethodName × Nat) := [(⟨"java/lang/Throwable", "fillInStackTrace", "(I)Ljava/lang/Throwable;"⟩, 6), (⟨"WordSets$Parser", "beginSum", "()V"⟩, 5), (⟨"WordSets$Parser", "accept", "(ILWordSets$Expression;)Z"⟩, 5), (⟨"WordSets$Parser", "acceptRepeat", "(ILWordSets$Expression;)Z"⟩, 5), (⟨"WordSets$Parser", "joinFactor", "(LWordSets$Expression;)Z"⟩, 5), (⟨"WordSets$Parser", "acceptLetter", "(ILWordSets$Expression;)Z"⟩, 5), (⟨"WordSets$Parser", "setFactor", "(IIZ)V"⟩, 5), (⟨"WordSets$Parser", "acceptOpening", "()Z"⟩, 5), (⟨"WordSets$Parser", "acceptClosing", "()Z"⟩, 5), (⟨"WordSets$Parser", "endRow", "()V"⟩, 5), (⟨"WordSets", "putSpare", "(I)V"⟩, 9), (⟨"WordSets$Search", "append", "(III)V"⟩, 5), (⟨"WordSets$Search", "spellWay", "(ILWordSets$Word;)V"⟩, 5), (⟨"WordSets$Search", "goOn", "(ILWordSets$Expression;LWordSets$Expression;)V"⟩, 5), (⟨"WordSets$Search", "markIfNew", "(II)Z"⟩, 5), (⟨"WordSets$Machine", "numberOf", "(ILWordSets$Expression;)I"⟩, 8)]
theorem lw_r1 : ∀ q ∈ lw_privs_1, lw_okq q := List.forall_mem_cons.mpr ⟨lw_p0, List.forall_mem_cons.mpr ⟨lw_p1, List.forall_mem_cons.mpr ⟨lw_p2, List.forall_mem_cons.mpr ⟨lw_p3, List.forall_mem_cons.mpr ⟨lw_p4, List.forall_mem_cons.mpr ⟨lw_p5, List.forall_mem_cons.mpr ⟨lw_p6, List.forall_mem_cons.mpr ⟨lw_p7, List.forall_mem_cons.mpr ⟨lw_p8, List.forall_mem_cons.mpr ⟨lw_p9, List.forall_mem_cons.mpr ⟨lw_p10, List.forall_mem_cons.mpr ⟨lw_p11, List.forall_mem_cons.mpr ⟨lw_p12, List.forall_mem_cons.mpr ⟨lw_p13, List.forall_mem_cons.mpr ⟨lw_p14, List.forall_mem_cons.mpr ⟨lw_p15, fun _ h => absurd h List.not_mem_nil⟩⟩⟩⟩⟩⟩⟩⟩⟩⟩⟩⟩⟩⟩⟩⟩
theorem lw_p16 : lw_okq (⟨"WordSets$Machine", "tallyOver", "(II)J"⟩, 8) := ⟨⟨by decide +kernel, by decide +kernel⟩, List.mem_of_getElem? (i := 113) (by decide +kernel), List.mem_of_getElem? (i := 533) (by decide +kernel), List.mem_of_getElem? (i := 534) (by decide +kernel)⟩
theorem lw_p17 : lw_okq (⟨"WordSets$Machine", "refine", "()I"⟩, 8) := ⟨⟨by decide +kernel, by decide +kernel⟩, List.mem_of_getElem? (i := 113) (by decide +kernel), List.mem_of_getElem? (i := 563) (by decide +kernel), List.mem_of_getElem? (i := 564) (by decide +kernel)⟩
theorem lw_p18 : lw_okq (⟨"WordSets$Machine", "firstLike", "(I)I"⟩, 8) := ⟨⟨by decide +kernel, by decide +kernel⟩, List.mem_of_getElem? (i := 113) (by decide +kernel), List.mem_of_getElem? (i := 567) (by decide +kernel), List.mem_of_getElem? (i := 568) (by decide +kernel)⟩
theorem lw_p19 : lw_okq (⟨"WordSets$Machine", "alike", "(II)Z"⟩, 8) := ⟨⟨by decide +kernel, by decide +kernel⟩, List.mem_of_getElem? (i := 113) (by decide +kernel), List.mem_of_getElem? (i := 571) (by decide +kernel), List.mem_of_getElem? (i := 572) (by decide +kernel)⟩
theorem lw_p20 : lw_okq (⟨"WordSetsModel", "sum", "()I"⟩, 31) := ⟨⟨by decide +kernel, by decide +kernel⟩, List.mem_of_getElem? (i := 613) (by decide +kernel), List.mem_of_getElem? (i := 733) (by decide +kernel), List.mem_of_getElem? (i := 734) (by decide +kernel)⟩
theorem lw_p21 : lw_okq (⟨"WordSetsModel", "see", "()I"⟩, 31) := ⟨⟨by decide +kernel, by decide +kernel⟩, List.mem_of_getElem? (i := 613) (by decide +kernel), List.mem_of_getElem? (i := 737) (by decide +kernel), List.mem_of_getElem? (i := 738) (by decide +kernel)⟩
theorem lw_p22 : lw_okq (⟨"WordSetsModel", "atom", "(I)I"⟩, 31) := ⟨⟨by decide +kernel, by decide +kernel⟩, List.mem_of_getElem? (i := 613) (by decide +kernel), List.mem_of_getElem? (i := 741) (by decide +kernel), List.mem_of_getElem? (i := 742) (by decide +kernel)⟩
theorem lw_p23 : lw_okq (⟨"WordSetsModel", "wrong", "()V"⟩, 31) := ⟨⟨by decide +kernel, by decide +kernel⟩, List.mem_of_getElem? (i := 613) (by decide +kernel), List.mem_of_getElem? (i := 745) (by decide +kernel), List.mem_of_getElem? (i := 746) (by decide +kernel)⟩
theorem lw_p24 : lw_okq (⟨"WordSetsModel", "part", "(ZII)I"⟩, 31) := ⟨⟨by decide +kernel, by decide +kernel⟩, List.mem_of_getElem? (i := 613) (by decide +kernel), List.mem_of_getElem? (i := 749) (by decide +kernel), List.mem_of_getElem? (i := 750) (by decide +kernel)⟩
theorem lw_p25 : lw_okq (⟨"WordSetsModel", "repeated", "(I)I"⟩, 31) := ⟨⟨by decide +kernel, by decide +kernel⟩, List.mem_of_getElem? (i := 613) (by decide +kernel), List.mem_of_getElem? (i := 753) (by decide +kernel), List.mem_of_getElem? (i := 754) (by decide +kernel)⟩
theorem lw_p26 : lw_okq (⟨"WordSetsModel", "follows", "(II)V"⟩, 31) := ⟨⟨by decide +kernel, by decide +kernel⟩, List.mem_of_getElem? (i := 613) (by decide +kernel), List.mem_of_getElem? (i := 757) (by decide +kernel), List.mem_of_getElem? (i := 758) (by decide +kernel)⟩
theorem lw_p27 : lw_okq (⟨"WordSetsModel", "behind", "(II)I"⟩, 31) := ⟨⟨by decide +kernel, by decide +kernel⟩, List.mem_of_getElem? (i := 613) (by decide +kernel), List.mem_of_getElem? (i := 761) (by decide +kernel), List.mem_of_getElem? (i := 762) (by decide +kernel)⟩
theorem lw_p28 : lw_okq (⟨"WordSetsModel", "either", "(II)I"⟩, 31) := ⟨⟨by decide +kernel, by decide +kernel⟩, List.mem_of_getElem? (i := 613) (by decide +kernel), List.mem_of_getElem? (i := 765) (by decide +kernel), List.mem_of_getElem? (i := 766) (by decide +kernel)⟩
theorem lw_p29 : lw_okq (⟨"WordSetsModel", "says", "(Z)Z"⟩, 31) := ⟨⟨by decide +kernel, by decide +kernel⟩, List.mem_of_getElem? (i := 613) (by decide +kernel), List.mem_of_getElem? (i := 769) (by decide +kernel), List.mem_of_getElem? (i := 770) (by decide +kernel)⟩
theorem lw_p30 : lw_okq (⟨"WordSetsModel", "step", "(III)I"⟩, 31) := ⟨⟨by decide +kernel, by decide +kernel⟩, List.mem_of_getElem? (i := 613) (by decide +kernel), List.mem_of_getElem? (i := 781) (by decide +kernel), List.mem_of_getElem? (i := 782) (by decide +kernel)⟩
theorem lw_p31 : lw_okq (⟨"WordSetsModel", "tells", "(II)Z"⟩, 31) := ⟨⟨by decide +kernel, by decide +kernel⟩, List.mem_of_getElem? (i := 613) (by decide +kernel), List.mem_of_getElem? (i := 785) (by decide +kernel), List.mem_of_getElem? (i := 786) (by decide +kernel)⟩
def lw_privs_2 : List (MethodName × Nat) := [(⟨"WordSets$Machine", "tallyOver", "(II)J"⟩, 8), (⟨"WordSets$Machine", "refine", "()I"⟩, 8), (⟨"WordSets$Machine", "firstLike", "(I)I"⟩, 8), (⟨"WordSets$Machine", "alike", "(II)Z"⟩, 8), (⟨"WordSetsModel", "sum", "()I"⟩, 31), (⟨"WordSetsModel", "see", "()I"⟩, 31), (⟨"WordSetsModel", "atom", "(I)I"⟩, 31), (⟨"WordSetsModel", "wrong", "()V"⟩, 31), (⟨"WordSetsModel", "part", "(ZII)I"⟩, 31), (⟨"WordSetsModel", "repeated", "(I)I"⟩, 31), (⟨"WordSetsModel", "follows", "(II)V"⟩, 31), (⟨"WordSetsModel", "behind", "(II)I"⟩, 31), (⟨"WordSetsModel", "either", "(II)I"⟩, 31), (⟨"WordSetsModel", "says", "(Z)Z"⟩, 31), (⟨"WordSetsModel", "step", "(III)I"⟩, 31), (⟨"WordSetsModel", "tells", "(II)Z"⟩, 31)]
theorem lw_r2 : ∀ q ∈ lw_privs_2, lw_okq q := List.forall_mem_cons.mpr ⟨lw_p16, List.forall_mem_cons.mpr ⟨lw_p17, List.forall_mem_cons.mpr ⟨lw_p18, List.forall_mem_cons.mpr ⟨lw_p19, List.forall_mem_cons.mpr ⟨lw_p20, List.forall_mem_cons.mpr ⟨lw_p21, List.forall_mem_cons.mpr ⟨lw_p22, List.forall_mem_cons.mpr ⟨lw_p23, List.forall_mem_cons.mpr ⟨lw_p24, List.forall_mem_cons.mpr ⟨lw_p25, List.forall_mem_cons.mpr ⟨lw_p26, List.forall_mem_cons.mpr ⟨lw_p27, List.forall_mem_cons.mpr ⟨lw_p28, List.forall_mem_cons.mpr ⟨lw_p29, List.forall_mem_cons.mpr ⟨lw_p30, List.forall_mem_cons.mpr ⟨lw_p31, fun _ h => absurd h List.not_mem_nil⟩⟩⟩⟩⟩⟩⟩⟩⟩⟩⟩⟩⟩⟩⟩⟩
theorem lw_p32 : lw_okq (⟨"WordSetsModel", "seek", "(III)I"⟩, 31) := ⟨⟨by decide +kernel, by decide +kernel⟩, List.mem_of_getElem? (i := 613) (by decide +kernel), List.mem_of_getElem? (i := 793) (by decide +kernel), List.mem_of_getElem? (i := 794) (by decide +kernel)⟩
theorem lw_p33 : lw_okq (⟨"WordSetsModel", "spell", "(I)V"⟩, 31) := ⟨⟨by decide +kernel, by decide +kernel⟩, List.mem_of_getElem? (i := 613) (by decide +kernel), List.mem_of_getElem? (i := 798) (by decide +kernel), List.mem_of_getElem? (i := 799) (by decide +kernel)⟩
theorem lw_p34 : lw_okq (⟨"WordSetsModel", "reckon", "(II)V"⟩, 31) := ⟨⟨by decide +kernel, by decide +kernel⟩, List.mem_of_getElem? (i := 613) (by decide +kernel), List.mem_of_getElem? (i := 814) (by decide +kernel), List.mem_of_getElem? (i := 815) (by decide +kernel)⟩
theorem lw_p35 : lw_okq (⟨"WordSetsModel", "split", "(II)I"⟩, 31) := ⟨⟨by decide +kernel, by decide +kernel⟩, List.mem_of_getElem? (i := 613) (by decide +kernel), List.mem_of_getElem? (i := 826) (by decide +kernel), List.mem_of_getElem? (i := 827) (by decide +kernel)⟩
def lw_privs_3 : List (MethodName × Nat) := [(⟨"WordSetsModel", "seek", "(III)I"⟩, 31), (⟨"WordSetsModel", "spell", "(I)V"⟩, 31), (⟨"WordSetsModel", "reckon", "(II)V"⟩, 31), (⟨"WordSetsModel", "split", "(II)I"⟩, 31)]
theorem lw_r3 : ∀ q ∈ lw_privs_3, lw_okq q := List.forall_mem_cons.mpr ⟨lw_p32, List.forall_mem_cons.mpr ⟨lw_p33, List.forall_mem_cons.mpr ⟨lw_p34, List.forall_mem_cons.mpr ⟨lw_p35, fun _ h => absurd h List.not_mem_nil⟩⟩⟩⟩
def lw_privs : List (MethodName × Nat) := lw_privs_1 ++ (lw_privs_2 ++ (lw_privs_3))
def lw_tbl : List Cond := k2_sels lw_privs ++ tables_1
theorem lw_privs_ok : ∀ q ∈ lw_privs, lw_okq q := by
  show ∀ q ∈ lw_privs_1 ++ (lw_privs_2 ++ (lw_privs_3)), lw_okq q
  exact List.forall_mem_append.mpr ⟨lw_r1, List.forall_mem_append.mpr ⟨lw_r2, lw_r3⟩⟩
end
section
/-- every word of the tables that stays true while the machine runs -/
def wsU : List Cond := lw_tbl.filter goodWord
theorem wU_t {w : Cond} (i : Nat) (h : tables_1[i]? = some w) (g : goodWord w = true) : w ∈ wsU := List.mem_filter.mpr ⟨List.mem_append_right _ (List.mem_of_getElem? h), g⟩
theorem wU_p {w : Cond} (i : Nat) (h : (k2_sels lw_privs)[i]? = some w) (g : goodWord w = true) : w ∈ wsU := List.mem_filter.mpr ⟨List.mem_append_left _ (List.mem_of_getElem? h), g⟩
theorem wU_good {w : Cond} (h : w ∈ wsU) : (w.onTables && w.keeps) = true ∨ ∃ ty, w = .arrayClass ty := good_of_word (List.mem_filter.mp h).2
theorem wU_in {w : Cond} (h : w ∈ wsU) : w ∈ lw_tbl := (List.mem_filter.mp h).1
theorem wU_g {c1 c2 : Cond} (h : c2 ∈ wsU) : GoodIn (c1 :: wsU) (c2 :: wsU) := fun w hw => (List.mem_cons.mp hw).elim (fun e => by subst e; exact ⟨List.mem_cons_of_mem _ h, wU_good h⟩) (fun k => ⟨List.mem_cons_of_mem _ k, wU_good k⟩)
theorem wU_gT {c2 : Cond} (h : c2 ∈ wsU) : GoodIn wsU (c2 :: wsU) := fun w hw => (List.mem_cons.mp hw).elim (fun e => by subst e; exact ⟨h, wU_good h⟩) (fun k => ⟨k, wU_good k⟩)
theorem wU_gV {own C : String} {idx : Nat} {y : MethodName} {c1 c2 : Cond} (h1 : Cond.methodLink own idx y ∈ wsU) (h2 : Cond.instanceMethod y ∈ wsU) (h3 : Cond.selects C y y ∈ wsU) (h4 : Cond.initialized C ∈ wsU) (h : c2 ∈ wsU) : GoodIn (c1 :: wsU) (wsV own idx C y (c2 :: wsU)) := by
  intro w hw
  rcases List.mem_append.mp (show w ∈ ([.methodLink own idx y, .instanceMethod y, .selects C y y, .initialized C] : List Cond) ++ (c2 :: wsU) from hw) with k | k
  · simp only [List.mem_cons, List.not_mem_nil, or_false] at k
    rcases k with rfl | rfl | rfl | rfl
    · exact ⟨List.mem_cons_of_mem _ h1, wU_good h1⟩
    · exact ⟨List.mem_cons_of_mem _ h2, wU_good h2⟩
    · exact ⟨List.mem_cons_of_mem _ h3, wU_good h3⟩
    · exact ⟨List.mem_cons_of_mem _ h4, wU_good h4⟩
  · exact wU_g h w k
theorem wU_gS {own : String} {idx : Nat} {y : MethodName} {c1 c2 : Cond} (h1 : Cond.methodLink own idx y ∈ wsU) (h2 : Cond.static y ∈ wsU) (h4 : Cond.initialized own ∈ wsU) (h : c2 ∈ wsU) : GoodIn (c1 :: wsU) (wsS own idx y (c2 :: wsU)) := by
  intro w hw
  rcases List.mem_append.mp (show w ∈ ([.methodLink own idx y, .static y, .initialized own] : List Cond) ++ (c2 :: wsU) from hw) with k | k
  · simp only [List.mem_cons, List.not_mem_nil, or_false] at k
    rcases k with rfl | rfl | rfl
    · exact ⟨List.mem_cons_of_mem _ h1, wU_good h1⟩
    · exact ⟨List.mem_cons_of_mem _ h2, wU_good h2⟩
    · exact ⟨List.mem_cons_of_mem _ h4, wU_good h4⟩
  · exact wU_g h w k
def R_Ex : String := "WordSets$Expression"
def R_Ma : String := "WordSets$Machine"
def R_Pr : String := "WordSets$Parser"
def R_Pt : String := "WordSets$Part"
def R_Se : String := "WordSets$Search"
def R_Ta : String := "WordSets$Tape"
def R_Wo : String := "WordSets$Word"
def R_Ws : String := "WordSets"
def R_Md : String := "WordSetsModel"
def R_Lw : String := "WordSetsLaw"
def R_Ar : String := "java/util/Arrays"
def R_Mt : String := "java/lang/Math"
def R_Sy : String := "java/lang/System"
def T_Ex : u_T := fun k => match k with
  | 0 => ("WordSets$Expression", "follow", "[I", true)
  | 1 => ("WordSets$Expression", "spelt", "[I", true)
  | 2 => ("WordSets$Expression", "ends", "I", false)
  | _ => ("WordSets$Expression", "letters", "I", false)
def t_Ex : Nat → FieldType := fun k => match k with
  | 0 => .array .int
  | 1 => .array .int
  | 2 => .int
  | _ => .int
theorem n_Ex : ∀ a, a < 4 → ∀ b, b < 4 → a ≠ b → (T_Ex a).2.1 ≠ (T_Ex b).2.1 := by decide +kernel
theorem t_Ex_ok : ∀ k, k < 4 → parseFieldDescriptor (T_Ex k).2.2.1 = some (t_Ex k) := by decide +kernel
theorem i_Ex : ∀ w ∈ u_ws R_Ex T_Ex 4, w ∈ wsU := by
  intro w hw
  have e : u_ws R_Ex T_Ex 4 = [58, 60, 62, 64].filterMap (fun i => tables_1[i]?) := by decide +kernel
  have g : (u_ws R_Ex T_Ex 4).all goodWord = true := by decide +kernel
  have g2 := List.all_eq_true.mp g w hw
  rw [e] at hw
  obtain ⟨i, -, hi⟩ := List.mem_filterMap.mp hw
  exact wU_t i hi g2
def T_Ma : u_T := fun k => match k with
  | 0 => ("WordSets$Machine", "sets", "[I", true)
  | 1 => ("WordSets$Machine", "numbers", "[I", true)
  | 2 => ("WordSets$Machine", "next", "[I", true)
  | 3 => ("WordSets$Machine", "accepting", "[I", true)
  | 4 => ("WordSets$Machine", "group", "[I", true)
  | 5 => ("WordSets$Machine", "finer", "[I", true)
  | 6 => ("WordSets$Machine", "tallies", "[J", true)
  | _ => ("WordSets$Machine", "size", "I", false)
def t_Ma : Nat → FieldType := fun k => match k with
  | 0 => .array .int
  | 1 => .array .int
  | 2 => .array .int
  | 3 => .array .int
  | 4 => .array .int
  | 5 => .array .int
  | 6 => .array .long
  | _ => .int
theorem n_Ma : ∀ a, a < 8 → ∀ b, b < 8 → a ≠ b → (T_Ma a).2.1 ≠ (T_Ma b).2.1 := by decide +kernel
theorem t_Ma_ok : ∀ k, k < 8 → parseFieldDescriptor (T_Ma k).2.2.1 = some (t_Ma k) := by decide +kernel
theorem i_Ma : ∀ w ∈ u_ws R_Ma T_Ma 8, w ∈ wsU := by
  intro w hw
  have e : u_ws R_Ma T_Ma 8 = [126, 128, 130, 132, 134, 136, 138, 140].filterMap (fun i => tables_1[i]?) := by decide +kernel
  have g : (u_ws R_Ma T_Ma 8).all goodWord = true := by decide +kernel
  have g2 := List.all_eq_true.mp g w hw
  rw [e] at hw
  obtain ⟨i, -, hi⟩ := List.mem_filterMap.mp hw
  exact wU_t i hi g2
def T_Pr : u_T := fun k => match k with
  | 0 => ("WordSets$Parser", "sums", "[LWordSets$Part;", true)
  | 1 => ("WordSets$Parser", "rows", "[LWordSets$Part;", true)
  | 2 => ("WordSets$Parser", "factor", "LWordSets$Part;", true)
  | 3 => ("WordSets$Parser", "factorWaits", "Z", false)
  | _ => ("WordSets$Parser", "depth", "I", false)
def t_Pr : Nat → FieldType := fun k => match k with
  | 0 => .array (.object "WordSets$Part")
  | 1 => .array (.object "WordSets$Part")
  | 2 => .object "WordSets$Part"
  | 3 => .boolean
  | _ => .int
theorem n_Pr : ∀ a, a < 5 → ∀ b, b < 5 → a ≠ b → (T_Pr a).2.1 ≠ (T_Pr b).2.1 := by decide +kernel
theorem t_Pr_ok : ∀ k, k < 5 → parseFieldDescriptor (T_Pr k).2.2.1 = some (t_Pr k) := by decide +kernel
theorem i_Pr : ∀ w ∈ u_ws R_Pr T_Pr 5, w ∈ wsU := by
  intro w hw
  have e : u_ws R_Pr T_Pr 5 = [101, 103, 105, 107, 109].filterMap (fun i => tables_1[i]?) := by decide +kernel
  have g : (u_ws R_Pr T_Pr 5).all goodWord = true := by decide +kernel
  have g2 := List.all_eq_true.mp g w hw
  rw [e] at hw
  obtain ⟨i, -, hi⟩ := List.mem_filterMap.mp hw
  exact wU_t i hi g2
def T_Pt : u_T := fun k => match k with
  | 0 => ("WordSets$Part", "first", "I", false)
  | 1 => ("WordSets$Part", "last", "I", false)
  | _ => ("WordSets$Part", "empty", "Z", false)
def t_Pt : Nat → FieldType := fun k => match k with
  | 0 => .int
  | 1 => .int
  | _ => .boolean
theorem n_Pt : ∀ a, a < 3 → ∀ b, b < 3 → a ≠ b → (T_Pt a).2.1 ≠ (T_Pt b).2.1 := by decide +kernel
theorem t_Pt_ok : ∀ k, k < 3 → parseFieldDescriptor (T_Pt k).2.2.1 = some (t_Pt k) := by decide +kernel
theorem i_Pt : ∀ w ∈ u_ws R_Pt T_Pt 3, w ∈ wsU := by
  intro w hw
  have e : u_ws R_Pt T_Pt 3 = [89, 91, 93].filterMap (fun i => tables_1[i]?) := by decide +kernel
  have g : (u_ws R_Pt T_Pt 3).all goodWord = true := by decide +kernel
  have g2 := List.all_eq_true.mp g w hw
  rw [e] at hw
  obtain ⟨i, -, hi⟩ := List.mem_filterMap.mp hw
  exact wU_t i hi g2
def T_Se : u_T := fun k => match k with
  | 0 => ("WordSets$Search", "seen", "[J", true)
  | 1 => ("WordSets$Search", "firsts", "[I", false)
  | 2 => ("WordSets$Search", "seconds", "[I", false)
  | 3 => ("WordSets$Search", "origins", "[I", false)
  | _ => ("WordSets$Search", "size", "I", false)
def t_Se : Nat → FieldType := fun k => match k with
  | 0 => .array .long
  | 1 => .array .int
  | 2 => .array .int
  | 3 => .array .int
  | _ => .int
theorem n_Se : ∀ a, a < 5 → ∀ b, b < 5 → a ≠ b → (T_Se a).2.1 ≠ (T_Se b).2.1 := by decide +kernel
theorem t_Se_ok : ∀ k, k < 5 → parseFieldDescriptor (T_Se k).2.2.1 = some (t_Se k) := by decide +kernel
theorem i_Se : ∀ w ∈ u_ws R_Se T_Se 5, w ∈ wsU := by
  intro w hw
  have e : u_ws R_Se T_Se 5 = [155, 157, 159, 161, 163].filterMap (fun i => tables_1[i]?) := by decide +kernel
  have g : (u_ws R_Se T_Se 5).all goodWord = true := by decide +kernel
  have g2 := List.all_eq_true.mp g w hw
  rw [e] at hw
  obtain ⟨i, -, hi⟩ := List.mem_filterMap.mp hw
  exact wU_t i hi g2
def T_Ta : u_T := fun k => match k with
  | 0 => ("WordSets$Tape", "bytes", "[I", true)
  | _ => ("WordSets$Tape", "size", "I", false)
def t_Ta : Nat → FieldType := fun k => match k with
  | 0 => .array .int
  | _ => .int
theorem n_Ta : ∀ a, a < 2 → ∀ b, b < 2 → a ≠ b → (T_Ta a).2.1 ≠ (T_Ta b).2.1 := by decide +kernel
theorem t_Ta_ok : ∀ k, k < 2 → parseFieldDescriptor (T_Ta k).2.2.1 = some (t_Ta k) := by decide +kernel
theorem i_Ta : ∀ w ∈ u_ws R_Ta T_Ta 2, w ∈ wsU := by
  intro w hw
  have e : u_ws R_Ta T_Ta 2 = [37, 39].filterMap (fun i => tables_1[i]?) := by decide +kernel
  have g : (u_ws R_Ta T_Ta 2).all goodWord = true := by decide +kernel
  have g2 := List.all_eq_true.mp g w hw
  rw [e] at hw
  obtain ⟨i, -, hi⟩ := List.mem_filterMap.mp hw
  exact wU_t i hi g2
def T_Wo : u_T := fun k => match k with
  | 0 => ("WordSets$Word", "letters", "[I", false)
  | _ => ("WordSets$Word", "size", "I", false)
def t_Wo : Nat → FieldType := fun k => match k with
  | 0 => .array .int
  | _ => .int
theorem n_Wo : ∀ a, a < 2 → ∀ b, b < 2 → a ≠ b → (T_Wo a).2.1 ≠ (T_Wo b).2.1 := by decide +kernel
theorem t_Wo_ok : ∀ k, k < 2 → parseFieldDescriptor (T_Wo k).2.2.1 = some (t_Wo k) := by decide +kernel
theorem i_Wo : ∀ w ∈ u_ws R_Wo T_Wo 2, w ∈ wsU := by
  intro w hw
  have e : u_ws R_Wo T_Wo 2 = [178, 180].filterMap (fun i => tables_1[i]?) := by decide +kernel
  have g : (u_ws R_Wo T_Wo 2).all goodWord = true := by decide +kernel
  have g2 := List.all_eq_true.mp g w hw
  rw [e] at hw
  obtain ⟨i, -, hi⟩ := List.mem_filterMap.mp hw
  exact wU_t i hi g2
def T_Ws : u_T := fun k => match k with
  | 0 => ("WordSets", "tape", "LWordSets$Tape;", true)
  | 1 => ("WordSets", "slots", "[LWordSets$Expression;", true)
  | 2 => ("WordSets", "nothing", "LWordSets$Expression;", true)
  | 3 => ("WordSets", "parser", "LWordSets$Parser;", true)
  | 4 => ("WordSets", "machine", "LWordSets$Machine;", true)
  | 5 => ("WordSets", "search", "LWordSets$Search;", true)
  | 6 => ("WordSets", "theWord", "LWordSets$Word;", true)
  | 7 => ("WordSets", "spare", "LWordSets$Expression;", false)
  | _ => ("WordSets", "wrongAt", "I", false)
def t_Ws : Nat → FieldType := fun k => match k with
  | 0 => .object "WordSets$Tape"
  | 1 => .array (.object "WordSets$Expression")
  | 2 => .object "WordSets$Expression"
  | 3 => .object "WordSets$Parser"
  | 4 => .object "WordSets$Machine"
  | 5 => .object "WordSets$Search"
  | 6 => .object "WordSets$Word"
  | 7 => .object "WordSets$Expression"
  | _ => .int
theorem n_Ws : ∀ a, a < 9 → ∀ b, b < 9 → a ≠ b → (T_Ws a).2.1 ≠ (T_Ws b).2.1 := by decide +kernel
theorem t_Ws_ok : ∀ k, k < 9 → parseFieldDescriptor (T_Ws k).2.2.1 = some (t_Ws k) := by decide +kernel
theorem i_Ws : ∀ w ∈ u_ws R_Ws T_Ws 9, w ∈ wsU := by
  intro w hw
  have e : u_ws R_Ws T_Ws 9 = [192, 194, 196, 198, 200, 202, 204, 206, 208].filterMap (fun i => tables_1[i]?) := by decide +kernel
  have g : (u_ws R_Ws T_Ws 9).all goodWord = true := by decide +kernel
  have g2 := List.all_eq_true.mp g w hw
  rw [e] at hw
  obtain ⟨i, -, hi⟩ := List.mem_filterMap.mp hw
  exact wU_t i hi g2
def T_Md : u_T := fun k => match k with
  | 0 => ("WordSetsModel", "thrown", "I", false)
  | 1 => ("WordSetsModel", "taped", "I", false)
  | 2 => ("WordSetsModel", "tape", "[I", true)
  | 3 => ("WordSetsModel", "place", "I", false)
  | 4 => ("WordSetsModel", "many", "[I", true)
  | 5 => ("WordSetsModel", "letter", "[I", true)
  | 6 => ("WordSetsModel", "first", "[I", true)
  | 7 => ("WordSetsModel", "last", "[I", true)
  | 8 => ("WordSetsModel", "follow", "[I", true)
  | 9 => ("WordSetsModel", "empty", "[Z", true)
  | 10 => ("WordSetsModel", "size", "I", false)
  | 11 => ("WordSetsModel", "word", "[I", true)
  | 12 => ("WordSetsModel", "at", "I", false)
  | 13 => ("WordSetsModel", "wrong", "I", false)
  | 14 => ("WordSetsModel", "depth", "I", false)
  | 15 => ("WordSetsModel", "parts", "I", false)
  | 16 => ("WordSetsModel", "partEmpty", "[Z", true)
  | 17 => ("WordSetsModel", "partFirst", "[I", true)
  | 18 => ("WordSetsModel", "partLast", "[I", true)
  | 19 => ("WordSetsModel", "letters", "I", false)
  | 20 => ("WordSetsModel", "newLetter", "[I", true)
  | 21 => ("WordSetsModel", "newFollow", "[I", true)
  | 22 => ("WordSetsModel", "found", "[I", true)
  | 23 => ("WordSetsModel", "from", "[I", true)
  | 24 => ("WordSetsModel", "by", "[I", true)
  | 25 => ("WordSetsModel", "known", "[Z", true)
  | 26 => ("WordSetsModel", "ways", "[J", true)
  | 27 => ("WordSetsModel", "part", "[I", true)
  | 28 => ("WordSetsModel", "newPart", "[I", true)
  | 29 => ("WordSetsModel", "sumOf", "[I", true)
  | _ => ("WordSetsModel", "rowOf", "[I", true)
def t_Md : Nat → FieldType := fun k => match k with
  | 0 => .int
  | 1 => .int
  | 2 => .array .int
  | 3 => .int
  | 4 => .array .int
  | 5 => .array .int
  | 6 => .array .int
  | 7 => .array .int
  | 8 => .array .int
  | 9 => .array .boolean
  | 10 => .int
  | 11 => .array .int
  | 12 => .int
  | 13 => .int
  | 14 => .int
  | 15 => .int
  | 16 => .array .boolean
  | 17 => .array .int
  | 18 => .array .int
  | 19 => .int
  | 20 => .array .int
  | 21 => .array .int
  | 22 => .array .int
  | 23 => .array .int
  | 24 => .array .int
  | 25 => .array .boolean
  | 26 => .array .long
  | 27 => .array .int
  | 28 => .array .int
  | 29 => .array .int
  | _ => .array .int
theorem n_Md : ∀ a, a < 31 → ∀ b, b < 31 → a ≠ b → (T_Md a).2.1 ≠ (T_Md b).2.1 := by decide +kernel
theorem t_Md_ok : ∀ k, k < 31 → parseFieldDescriptor (T_Md k).2.2.1 = some (t_Md k) := by decide +kernel
theorem i_Md : ∀ w ∈ u_ws R_Md T_Md 31, w ∈ wsU := by
  intro w hw
  have e : u_ws R_Md T_Md 31 = [650, 652, 654, 656, 658, 660, 662, 664, 666, 668, 670, 672, 674, 676, 678, 680, 682, 684, 686, 688, 690, 692, 694, 696, 698, 700, 702, 704, 706, 708, 710].filterMap (fun i => tables_1[i]?) := by decide +kernel
  have g : (u_ws R_Md T_Md 31).all goodWord = true := by decide +kernel
  have g2 := List.all_eq_true.mp g w hw
  rw [e] at hw
  obtain ⟨i, -, hi⟩ := List.mem_filterMap.mp hw
  exact wU_t i hi g2
abbrev c_Ws_init : ByteArray := prog_1_method_1_code
def y_Ws_init : MethodName := ⟨R_Ws, "<init>", "()V"⟩
abbrev c_Ta_init : ByteArray := prog_7_method_1_code
def y_Ta_init : MethodName := ⟨R_Ta, "<init>", "()V"⟩
abbrev c_Ex_init : ByteArray := prog_2_method_1_code
def y_Ex_init : MethodName := ⟨R_Ex, "<init>", "()V"⟩
abbrev c_Pr_init : ByteArray := prog_4_method_1_code
def y_Pr_init : MethodName := ⟨R_Pr, "<init>", "()V"⟩
abbrev c_Pt_init : ByteArray := prog_5_method_1_code
def y_Pt_init : MethodName := ⟨R_Pt, "<init>", "()V"⟩
abbrev c_Ma_init : ByteArray := prog_3_method_1_code
def y_Ma_init : MethodName := ⟨R_Ma, "<init>", "()V"⟩
abbrev c_Se_init : ByteArray := prog_6_method_1_code
def y_Se_init : MethodName := ⟨R_Se, "<init>", "()V"⟩
abbrev c_Wo_init : ByteArray := prog_8_method_1_code
def y_Wo_init : MethodName := ⟨R_Wo, "<init>", "()V"⟩
abbrev c_Ws_place : ByteArray := prog_1_method_4_code
def y_Ws_place : MethodName := ⟨R_Ws, "place", "()I"⟩
abbrev c_Ws_size : ByteArray := prog_1_method_13_code
def y_Ws_size : MethodName := ⟨R_Ws, "size", "()I"⟩
abbrev c_Lw_feed : ByteArray := method_3_code
def y_Lw_feed : MethodName := ⟨R_Lw, "feed", "(LWordSets;JI[J)I"⟩
abbrev c_Ws_feed : ByteArray := prog_1_method_2_code
def y_Ws_feed : MethodName := ⟨R_Ws, "feed", "(JI)I"⟩
abbrev c_Ta_append : ByteArray := prog_7_method_2_code
def y_Ta_append : MethodName := ⟨R_Ta, "append", "(JI)Z"⟩
abbrev c_Lw_read : ByteArray := method_4_code
def y_Lw_read : MethodName := ⟨R_Lw, "read", "(LWordSets;I[J)I"⟩
abbrev c_Ws_read : ByteArray := prog_1_method_3_code
def y_Ws_read : MethodName := ⟨R_Ws, "read", "(I)I"⟩
abbrev c_Ta_useUp : ByteArray := prog_7_method_3_code
def y_Ta_useUp : MethodName := ⟨R_Ta, "useUp", "()I"⟩
abbrev c_Ws_checkSlot : ByteArray := prog_1_method_15_code
def y_Ws_checkSlot : MethodName := ⟨R_Ws, "checkSlot", "(I)V"⟩
abbrev c_Pr_parse : ByteArray := prog_4_method_2_code
def y_Pr_parse : MethodName := ⟨R_Pr, "parse", "([IILWordSets$Expression;)I"⟩
abbrev c_Ex_clear : ByteArray := prog_2_method_2_code
def y_Ex_clear : MethodName := ⟨R_Ex, "clear", "()V"⟩
abbrev c_Ar_fillI : ByteArray := prog_21_method_103_code
def y_Ar_fillI : MethodName := ⟨R_Ar, "fill", "([II)V"⟩
abbrev c_Pr_beginSum : ByteArray := prog_4_method_10_code
def y_Pr_beginSum : MethodName := ⟨R_Pr, "beginSum", "()V"⟩
abbrev c_Pt_become : ByteArray := prog_5_method_2_code
def y_Pt_become : MethodName := ⟨R_Pt, "become", "(IIZ)V"⟩
abbrev c_Pr_accept : ByteArray := prog_4_method_3_code
def y_Pr_accept : MethodName := ⟨R_Pr, "accept", "(ILWordSets$Expression;)Z"⟩
abbrev c_Pr_acceptRepeat : ByteArray := prog_4_method_4_code
def y_Pr_acceptRepeat : MethodName := ⟨R_Pr, "acceptRepeat", "(ILWordSets$Expression;)Z"⟩
abbrev c_Pt_repeat : ByteArray := prog_5_method_5_code
def y_Pt_repeat : MethodName := ⟨R_Pt, "repeat", "(ILWordSets$Expression;)V"⟩
abbrev c_Ex_link : ByteArray := prog_2_method_4_code
def y_Ex_link : MethodName := ⟨R_Ex, "link", "(II)V"⟩
abbrev c_Pr_joinFactor : ByteArray := prog_4_method_9_code
def y_Pr_joinFactor : MethodName := ⟨R_Pr, "joinFactor", "(LWordSets$Expression;)Z"⟩
abbrev c_Pt_addBehind : ByteArray := prog_5_method_4_code
def y_Pt_addBehind : MethodName := ⟨R_Pt, "addBehind", "(LWordSets$Part;LWordSets$Expression;)V"⟩
abbrev c_Pr_acceptLetter : ByteArray := prog_4_method_5_code
def y_Pr_acceptLetter : MethodName := ⟨R_Pr, "acceptLetter", "(ILWordSets$Expression;)Z"⟩
abbrev c_Ex_addLetter : ByteArray := prog_2_method_3_code
def y_Ex_addLetter : MethodName := ⟨R_Ex, "addLetter", "(I)I"⟩
abbrev c_Pr_setFactor : ByteArray := prog_4_method_8_code
def y_Pr_setFactor : MethodName := ⟨R_Pr, "setFactor", "(IIZ)V"⟩
abbrev c_Pr_acceptOpening : ByteArray := prog_4_method_6_code
def y_Pr_acceptOpening : MethodName := ⟨R_Pr, "acceptOpening", "()Z"⟩
abbrev c_Pr_acceptClosing : ByteArray := prog_4_method_7_code
def y_Pr_acceptClosing : MethodName := ⟨R_Pr, "acceptClosing", "()Z"⟩
abbrev c_Pr_endRow : ByteArray := prog_4_method_11_code
def y_Pr_endRow : MethodName := ⟨R_Pr, "endRow", "()V"⟩
abbrev c_Pt_addAlternative : ByteArray := prog_5_method_3_code
def y_Pt_addAlternative : MethodName := ⟨R_Pt, "addAlternative", "(LWordSets$Part;)V"⟩
abbrev c_Ex_setWhole : ByteArray := prog_2_method_5_code
def y_Ex_setWhole : MethodName := ⟨R_Ex, "setWhole", "(LWordSets$Part;)V"⟩
abbrev c_Ws_putSpare : ByteArray := prog_1_method_17_code
def y_Ws_putSpare : MethodName := ⟨R_Ws, "putSpare", "(I)V"⟩
abbrev c_Lw_has : ByteArray := method_5_code
def y_Lw_has : MethodName := ⟨R_Lw, "has", "(LWordSets;I[J)I"⟩
abbrev c_Ws_has : ByteArray := prog_1_method_5_code
def y_Ws_has : MethodName := ⟨R_Ws, "has", "(I)Z"⟩
abbrev c_Ta_isWord : ByteArray := prog_7_method_4_code
def y_Ta_isWord : MethodName := ⟨R_Ta, "isWord", "(I)Z"⟩
abbrev c_Ex_step : ByteArray := prog_2_method_8_code
def y_Ex_step : MethodName := ⟨R_Ex, "step", "(II)I"⟩
abbrev c_Ex_onward : ByteArray := prog_2_method_7_code
def y_Ex_onward : MethodName := ⟨R_Ex, "onward", "(I)I"⟩
abbrev c_Ex_accepts : ByteArray := prog_2_method_6_code
def y_Ex_accepts : MethodName := ⟨R_Ex, "accepts", "(I)Z"⟩
abbrev c_Lw_compare : ByteArray := method_6_code
def y_Lw_compare : MethodName := ⟨R_Lw, "compare", "(LWordSets;II[J)I"⟩
abbrev c_Ws_compare : ByteArray := prog_1_method_6_code
def y_Ws_compare : MethodName := ⟨R_Ws, "compare", "(II)I"⟩
abbrev c_Se_part : ByteArray := prog_6_method_2_code
def y_Se_part : MethodName := ⟨R_Se, "part", "(LWordSets$Expression;LWordSets$Expression;ILWordSets$Word;)I"⟩
abbrev c_Ar_fillL : ByteArray := prog_21_method_101_code
def y_Ar_fillL : MethodName := ⟨R_Ar, "fill", "([JJ)V"⟩
abbrev c_Se_append : ByteArray := prog_6_method_6_code
def y_Se_append : MethodName := ⟨R_Se, "append", "(III)V"⟩
abbrev c_Ar_copyI : ByteArray := prog_21_method_123_code
def y_Ar_copyI : MethodName := ⟨R_Ar, "copyOf", "([II)[I"⟩
abbrev c_Mt_min : ByteArray := prog_16_method_69_code
def y_Mt_min : MethodName := ⟨R_Mt, "min", "(II)I"⟩
abbrev c_Se_whoAlone : ByteArray := prog_6_method_3_code
def y_Se_whoAlone : MethodName := ⟨R_Se, "whoAlone", "(ZZ)I"⟩
abbrev c_Se_spellWay : ByteArray := prog_6_method_7_code
def y_Se_spellWay : MethodName := ⟨R_Se, "spellWay", "(ILWordSets$Word;)V"⟩
abbrev c_Wo_resize : ByteArray := prog_8_method_2_code
def y_Wo_resize : MethodName := ⟨R_Wo, "resize", "(I)V"⟩
abbrev c_Se_goOn : ByteArray := prog_6_method_4_code
def y_Se_goOn : MethodName := ⟨R_Se, "goOn", "(ILWordSets$Expression;LWordSets$Expression;)V"⟩
abbrev c_Se_markIfNew : ByteArray := prog_6_method_5_code
def y_Se_markIfNew : MethodName := ⟨R_Se, "markIfNew", "(II)Z"⟩
abbrev c_Lw_contains : ByteArray := method_7_code
def y_Lw_contains : MethodName := ⟨R_Lw, "contains", "(LWordSets;II[J)I"⟩
abbrev c_Ws_contains : ByteArray := prog_1_method_7_code
def y_Ws_contains : MethodName := ⟨R_Ws, "contains", "(II)Z"⟩
abbrev c_Lw_least : ByteArray := method_8_code
def y_Lw_least : MethodName := ⟨R_Lw, "least", "(LWordSets;I[J)I"⟩
abbrev c_Ws_least : ByteArray := prog_1_method_8_code
def y_Ws_least : MethodName := ⟨R_Ws, "least", "(I)I"⟩
abbrev c_Lw_count : ByteArray := method_9_code
def y_Lw_count : MethodName := ⟨R_Lw, "count", "(LWordSets;II[J)I"⟩
abbrev c_Ws_count : ByteArray := prog_1_method_9_code
def y_Ws_count : MethodName := ⟨R_Ws, "count", "(II)J"⟩
abbrev c_Ws_checkLength : ByteArray := prog_1_method_16_code
def y_Ws_checkLength : MethodName := ⟨R_Ws, "checkLength", "(I)V"⟩
abbrev c_Ma_build : ByteArray := prog_3_method_2_code
def y_Ma_build : MethodName := ⟨R_Ma, "build", "(LWordSets$Expression;)V"⟩
abbrev c_Ma_numberOf : ByteArray := prog_3_method_3_code
def y_Ma_numberOf : MethodName := ⟨R_Ma, "numberOf", "(ILWordSets$Expression;)I"⟩
abbrev c_Ma_tally : ByteArray := prog_3_method_4_code
def y_Ma_tally : MethodName := ⟨R_Ma, "tally", "(I)J"⟩
abbrev c_Ma_tallyOver : ByteArray := prog_3_method_5_code
def y_Ma_tallyOver : MethodName := ⟨R_Ma, "tallyOver", "(II)J"⟩
abbrev c_Lw_word : ByteArray := method_10_code
def y_Lw_word : MethodName := ⟨R_Lw, "word", "(LWordSets;IIJ[J)I"⟩
abbrev c_Ws_word : ByteArray := prog_1_method_10_code
def y_Ws_word : MethodName := ⟨R_Ws, "word", "(IIJ)Z"⟩
abbrev c_Ma_spell : ByteArray := prog_3_method_6_code
def y_Ma_spell : MethodName := ⟨R_Ma, "spell", "(IJLWordSets$Word;)V"⟩
abbrev c_Lw_states : ByteArray := method_11_code
def y_Lw_states : MethodName := ⟨R_Lw, "states", "(LWordSets;I[J)I"⟩
abbrev c_Ws_states : ByteArray := prog_1_method_11_code
def y_Ws_states : MethodName := ⟨R_Ws, "states", "(I)I"⟩
abbrev c_Ma_groups : ByteArray := prog_3_method_7_code
def y_Ma_groups : MethodName := ⟨R_Ma, "groups", "()I"⟩
abbrev c_Ma_refine : ByteArray := prog_3_method_8_code
def y_Ma_refine : MethodName := ⟨R_Ma, "refine", "()I"⟩
abbrev c_Ma_firstLike : ByteArray := prog_3_method_9_code
def y_Ma_firstLike : MethodName := ⟨R_Ma, "firstLike", "(I)I"⟩
abbrev c_Ma_alike : ByteArray := prog_3_method_10_code
def y_Ma_alike : MethodName := ⟨R_Ma, "alike", "(II)Z"⟩
abbrev c_Lw_turn : ByteArray := method_12_code
def y_Lw_turn : MethodName := ⟨R_Lw, "turn", "(LWordSets;II)I"⟩
abbrev c_Ws_turn : ByteArray := prog_1_method_12_code
def y_Ws_turn : MethodName := ⟨R_Ws, "turn", "(II)V"⟩
abbrev c_Ex_becomeReverse : ByteArray := prog_2_method_9_code
def y_Ex_becomeReverse : MethodName := ⟨R_Ex, "becomeReverse", "(LWordSets$Expression;)V"⟩
abbrev c_Lw_letter : ByteArray := method_13_code
def y_Lw_letter : MethodName := ⟨R_Lw, "letter", "(LWordSets;I[J)I"⟩
abbrev c_Ws_letter : ByteArray := prog_1_method_14_code
def y_Ws_letter : MethodName := ⟨R_Ws, "letter", "(I)I"⟩
abbrev c_Md_init : ByteArray := prog_10_method_1_code
def y_Md_init : MethodName := ⟨R_Md, "<init>", "()V"⟩
abbrev c_Md_thrown : ByteArray := prog_10_method_2_code
def y_Md_thrown : MethodName := ⟨R_Md, "thrown", "()I"⟩
abbrev c_Md_feed : ByteArray := prog_10_method_6_code
def y_Md_feed : MethodName := ⟨R_Md, "feed", "(JI)I"⟩
abbrev c_Md_in : ByteArray := prog_10_method_3_code
def y_Md_in : MethodName := ⟨R_Md, "in", "(III)Z"⟩
abbrev c_Md_read : ByteArray := prog_10_method_16_code
def y_Md_read : MethodName := ⟨R_Md, "read", "(I)I"⟩
abbrev c_Md_isSlot : ByteArray := prog_10_method_5_code
def y_Md_isSlot : MethodName := ⟨R_Md, "isSlot", "(I)Z"⟩
abbrev c_Md_sum : ByteArray := prog_10_method_15_code
def y_Md_sum : MethodName := ⟨R_Md, "sum", "()I"⟩
abbrev c_Md_see : ByteArray := prog_10_method_7_code
def y_Md_see : MethodName := ⟨R_Md, "see", "()I"⟩
abbrev c_Md_atom : ByteArray := prog_10_method_11_code
def y_Md_atom : MethodName := ⟨R_Md, "atom", "(I)I"⟩
abbrev c_Md_wrong : ByteArray := prog_10_method_9_code
def y_Md_wrong : MethodName := ⟨R_Md, "wrong", "()V"⟩
abbrev c_Md_part : ByteArray := prog_10_method_8_code
def y_Md_part : MethodName := ⟨R_Md, "part", "(ZII)I"⟩
abbrev c_Md_repeated : ByteArray := prog_10_method_12_code
def y_Md_repeated : MethodName := ⟨R_Md, "repeated", "(I)I"⟩
abbrev c_Md_follows : ByteArray := prog_10_method_10_code
def y_Md_follows : MethodName := ⟨R_Md, "follows", "(II)V"⟩
abbrev c_Md_behind : ByteArray := prog_10_method_13_code
def y_Md_behind : MethodName := ⟨R_Md, "behind", "(II)I"⟩
abbrev c_Md_either : ByteArray := prog_10_method_14_code
def y_Md_either : MethodName := ⟨R_Md, "either", "(II)I"⟩
abbrev c_Md_says : ByteArray := prog_10_method_4_code
def y_Md_says : MethodName := ⟨R_Md, "says", "(Z)Z"⟩
abbrev c_Md_place : ByteArray := prog_10_method_17_code
def y_Md_place : MethodName := ⟨R_Md, "place", "()I"⟩
abbrev c_Md_has : ByteArray := prog_10_method_20_code
def y_Md_has : MethodName := ⟨R_Md, "has", "(I)Z"⟩
abbrev c_Md_step : ByteArray := prog_10_method_18_code
def y_Md_step : MethodName := ⟨R_Md, "step", "(III)I"⟩
abbrev c_Md_tells : ByteArray := prog_10_method_19_code
def y_Md_tells : MethodName := ⟨R_Md, "tells", "(II)Z"⟩
abbrev c_Md_compare : ByteArray := prog_10_method_23_code
def y_Md_compare : MethodName := ⟨R_Md, "compare", "(II)I"⟩
abbrev c_Md_seek : ByteArray := prog_10_method_22_code
def y_Md_seek : MethodName := ⟨R_Md, "seek", "(III)I"⟩
abbrev c_Md_spell : ByteArray := prog_10_method_21_code
def y_Md_spell : MethodName := ⟨R_Md, "spell", "(I)V"⟩
abbrev c_Md_contains : ByteArray := prog_10_method_24_code
def y_Md_contains : MethodName := ⟨R_Md, "contains", "(II)Z"⟩
abbrev c_Md_least : ByteArray := prog_10_method_25_code
def y_Md_least : MethodName := ⟨R_Md, "least", "(I)I"⟩
abbrev c_Md_count : ByteArray := prog_10_method_27_code
def y_Md_count : MethodName := ⟨R_Md, "count", "(II)J"⟩
abbrev c_Md_reckon : ByteArray := prog_10_method_26_code
def y_Md_reckon : MethodName := ⟨R_Md, "reckon", "(II)V"⟩
abbrev c_Md_word : ByteArray := prog_10_method_28_code
def y_Md_word : MethodName := ⟨R_Md, "word", "(IIJ)Z"⟩
abbrev c_Md_states : ByteArray := prog_10_method_29_code
def y_Md_states : MethodName := ⟨R_Md, "states", "(I)I"⟩
abbrev c_Md_split : ByteArray := prog_10_method_30_code
def y_Md_split : MethodName := ⟨R_Md, "split", "(II)I"⟩
abbrev c_Md_turn : ByteArray := prog_10_method_31_code
def y_Md_turn : MethodName := ⟨R_Md, "turn", "(II)V"⟩
abbrev c_Md_size : ByteArray := prog_10_method_32_code
def y_Md_size : MethodName := ⟨R_Md, "size", "()I"⟩
abbrev c_Md_letter : ByteArray := prog_10_method_33_code
def y_Md_letter : MethodName := ⟨R_Md, "letter", "(I)I"⟩
def y_Sy_arraycopy : MethodName := ⟨R_Sy, "arraycopy", "(Ljava/lang/Object;ILjava/lang/Object;II)V"⟩
theorem in_Lw : Cond.initialized R_Lw ∈ wsU := wU_t 0 (by decide +kernel) (by decide +kernel)
theorem in_Ws : Cond.initialized R_Ws ∈ wsU := wU_t 1 (by decide +kernel) (by decide +kernel)
theorem in_Ta : Cond.initialized R_Ta ∈ wsU := wU_t 2 (by decide +kernel) (by decide +kernel)
theorem in_Ex : Cond.initialized R_Ex ∈ wsU := wU_t 3 (by decide +kernel) (by decide +kernel)
theorem in_Pr : Cond.initialized R_Pr ∈ wsU := wU_t 4 (by decide +kernel) (by decide +kernel)
theorem in_Pt : Cond.initialized R_Pt ∈ wsU := wU_t 5 (by decide +kernel) (by decide +kernel)
theorem in_Ma : Cond.initialized R_Ma ∈ wsU := wU_t 6 (by decide +kernel) (by decide +kernel)
theorem in_Se : Cond.initialized R_Se ∈ wsU := wU_t 7 (by decide +kernel) (by decide +kernel)
theorem in_Wo : Cond.initialized R_Wo ∈ wsU := wU_t 8 (by decide +kernel) (by decide +kernel)
theorem in_Md : Cond.initialized R_Md ∈ wsU := wU_t 9 (by decide +kernel) (by decide +kernel)
theorem in_Ar : Cond.initialized R_Ar ∈ wsU := wU_t 15 (by decide +kernel) (by decide +kernel)
theorem in_Mt : Cond.initialized R_Mt ∈ wsU := wU_t 16 (by decide +kernel) (by decide +kernel)
theorem in_Sy : Cond.initialized R_Sy ∈ wsU := wU_t 17 (by decide +kernel) (by decide +kernel)
theorem k_Lw_8 : Cond.classLink R_Lw 8 R_Ws ∈ wsU := wU_t 19 (by decide +kernel) (by decide +kernel)
theorem it_Ws : Cond.instantiable R_Ws 9 ∈ wsU := wU_t 20 (by decide +kernel) (by decide +kernel)
theorem m_Lw_56 : Cond.methodLink R_Lw 56 y_Ws_init ∈ wsU := wU_t 21 (by decide +kernel) (by decide +kernel)
theorem im_Ws_init : Cond.instanceMethod y_Ws_init ∈ wsU := wU_t 22 (by decide +kernel) (by decide +kernel)
set_option maxRecDepth 20000 in
theorem cd_Ws_init : Cond.code y_Ws_init c_Ws_init 2 none ∈ wsU := wU_t 23 (rfl) (by decide +kernel)
theorem m_Ws_1 : Cond.methodLink R_Ws 1 objectInit ∈ wsU := wU_t 24 (by decide +kernel) (by decide +kernel)
theorem im_Object_init : Cond.instanceMethod objectInit ∈ wsU := wU_t 25 (by decide +kernel) (by decide +kernel)
set_option maxRecDepth 20000 in
theorem cd_Object_init : Cond.code objectInit ⟨#[0xb1]⟩ 1 none ∈ wsU := wU_t 26 (by first | rfl | decide +kernel) (by decide +kernel)
theorem k_Ws_7 : Cond.classLink R_Ws 7 R_Ta ∈ wsU := wU_t 27 (by decide +kernel) (by decide +kernel)
theorem it_Ta : Cond.instantiable R_Ta 2 ∈ wsU := wU_t 28 (by decide +kernel) (by decide +kernel)
theorem im_Ta_init : Cond.instanceMethod y_Ta_init ∈ wsU := wU_t 30 (by decide +kernel) (by decide +kernel)
set_option maxRecDepth 20000 in
theorem cd_Ta_init : Cond.code y_Ta_init c_Ta_init 1 none ∈ wsU := wU_t 31 (rfl) (by decide +kernel)
theorem m_Ta_3 : Cond.methodLink R_Ta 3 objectInit ∈ wsU := wU_t 32 (by decide +kernel) (by decide +kernel)
theorem f_Ta_9 : Cond.fieldLink R_Ta 9 "WordSets$Tape" "bytes" "[I" ∈ wsU := wU_t 33 (by decide +kernel) (by decide +kernel)
theorem f_Ws_89 : Cond.fieldLink R_Ws 89 "WordSets$Tape" "bytes" "[I" ∈ wsU := wU_t 34 (by decide +kernel) (by decide +kernel)
theorem f_Ta_15 : Cond.fieldLink R_Ta 15 "WordSets$Tape" "size" "I" ∈ wsU := wU_t 35 (by decide +kernel) (by decide +kernel)
theorem f_Ws_78 : Cond.fieldLink R_Ws 78 "WordSets$Tape" "size" "I" ∈ wsU := wU_t 36 (by decide +kernel) (by decide +kernel)
theorem ac_int : Cond.arrayClass .int ∈ wsU := wU_t 42 (by decide +kernel) (by decide +kernel)
theorem k_Ws_16 : Cond.classLink R_Ws 16 R_Ex ∈ wsU := wU_t 43 (by decide +kernel) (by decide +kernel)
theorem it_Ex : Cond.instantiable R_Ex 4 ∈ wsU := wU_t 45 (by decide +kernel) (by decide +kernel)
theorem im_Ex_init : Cond.instanceMethod y_Ex_init ∈ wsU := wU_t 47 (by decide +kernel) (by decide +kernel)
set_option maxRecDepth 20000 in
theorem cd_Ex_init : Cond.code y_Ex_init c_Ex_init 1 none ∈ wsU := wU_t 48 (rfl) (by decide +kernel)
theorem m_Ex_5 : Cond.methodLink R_Ex 5 objectInit ∈ wsU := wU_t 49 (by decide +kernel) (by decide +kernel)
theorem f_Ex_11 : Cond.fieldLink R_Ex 11 "WordSets$Expression" "follow" "[I" ∈ wsU := wU_t 50 (by decide +kernel) (by decide +kernel)
theorem f_Ex_15 : Cond.fieldLink R_Ex 15 "WordSets$Expression" "spelt" "[I" ∈ wsU := wU_t 51 (by decide +kernel) (by decide +kernel)
theorem f_Ma_54 : Cond.fieldLink R_Ma 54 "WordSets$Expression" "spelt" "[I" ∈ wsU := wU_t 52 (by decide +kernel) (by decide +kernel)
theorem f_Se_68 : Cond.fieldLink R_Se 68 "WordSets$Expression" "spelt" "[I" ∈ wsU := wU_t 53 (by decide +kernel) (by decide +kernel)
theorem f_Ex_18 : Cond.fieldLink R_Ex 18 "WordSets$Expression" "ends" "I" ∈ wsU := wU_t 54 (by decide +kernel) (by decide +kernel)
theorem f_Ex_22 : Cond.fieldLink R_Ex 22 "WordSets$Expression" "letters" "I" ∈ wsU := wU_t 55 (by decide +kernel) (by decide +kernel)
theorem f_Ws_102 : Cond.fieldLink R_Ws 102 "WordSets$Expression" "letters" "I" ∈ wsU := wU_t 56 (by decide +kernel) (by decide +kernel)
theorem f_Pr_77 : Cond.fieldLink R_Pr 77 "WordSets$Expression" "letters" "I" ∈ wsU := wU_t 57 (by decide +kernel) (by decide +kernel)
theorem k_Ws_27 : Cond.classLink R_Ws 27 R_Pr ∈ wsU := wU_t 67 (by decide +kernel) (by decide +kernel)
theorem it_Pr : Cond.instantiable R_Pr 5 ∈ wsU := wU_t 68 (by decide +kernel) (by decide +kernel)
theorem m_Ws_29 : Cond.methodLink R_Ws 29 y_Pr_init ∈ wsU := wU_t 69 (by decide +kernel) (by decide +kernel)
theorem im_Pr_init : Cond.instanceMethod y_Pr_init ∈ wsU := wU_t 70 (by decide +kernel) (by decide +kernel)
set_option maxRecDepth 20000 in
theorem cd_Pr_init : Cond.code y_Pr_init c_Pr_init 2 none ∈ wsU := wU_t 71 (rfl) (by decide +kernel)
theorem m_Pr_3 : Cond.methodLink R_Pr 3 objectInit ∈ wsU := wU_t 72 (by decide +kernel) (by decide +kernel)
theorem k_Pr_9 : Cond.classLink R_Pr 9 R_Pt ∈ wsU := wU_t 73 (by decide +kernel) (by decide +kernel)
theorem it_Pt : Cond.instantiable R_Pt 3 ∈ wsU := wU_t 75 (by decide +kernel) (by decide +kernel)
theorem im_Pt_init : Cond.instanceMethod y_Pt_init ∈ wsU := wU_t 77 (by decide +kernel) (by decide +kernel)
set_option maxRecDepth 20000 in
theorem cd_Pt_init : Cond.code y_Pt_init c_Pt_init 1 none ∈ wsU := wU_t 78 (rfl) (by decide +kernel)
theorem m_Pt_1 : Cond.methodLink R_Pt 1 objectInit ∈ wsU := wU_t 79 (by decide +kernel) (by decide +kernel)
theorem f_Pt_7 : Cond.fieldLink R_Pt 7 "WordSets$Part" "first" "I" ∈ wsU := wU_t 80 (by decide +kernel) (by decide +kernel)
theorem f_Ex_31 : Cond.fieldLink R_Ex 31 "WordSets$Part" "first" "I" ∈ wsU := wU_t 81 (by decide +kernel) (by decide +kernel)
theorem f_Pr_84 : Cond.fieldLink R_Pr 84 "WordSets$Part" "first" "I" ∈ wsU := wU_t 82 (by decide +kernel) (by decide +kernel)
theorem f_Pt_13 : Cond.fieldLink R_Pt 13 "WordSets$Part" "last" "I" ∈ wsU := wU_t 83 (by decide +kernel) (by decide +kernel)
theorem f_Ex_40 : Cond.fieldLink R_Ex 40 "WordSets$Part" "last" "I" ∈ wsU := wU_t 84 (by decide +kernel) (by decide +kernel)
theorem f_Pr_87 : Cond.fieldLink R_Pr 87 "WordSets$Part" "last" "I" ∈ wsU := wU_t 85 (by decide +kernel) (by decide +kernel)
theorem f_Pt_16 : Cond.fieldLink R_Pt 16 "WordSets$Part" "empty" "Z" ∈ wsU := wU_t 86 (by decide +kernel) (by decide +kernel)
theorem f_Ex_36 : Cond.fieldLink R_Ex 36 "WordSets$Part" "empty" "Z" ∈ wsU := wU_t 87 (by decide +kernel) (by decide +kernel)
theorem f_Pr_90 : Cond.fieldLink R_Pr 90 "WordSets$Part" "empty" "Z" ∈ wsU := wU_t 88 (by decide +kernel) (by decide +kernel)
theorem f_Pr_11 : Cond.fieldLink R_Pr 11 "WordSets$Parser" "sums" "[LWordSets$Part;" ∈ wsU := wU_t 96 (by decide +kernel) (by decide +kernel)
theorem f_Pr_17 : Cond.fieldLink R_Pr 17 "WordSets$Parser" "rows" "[LWordSets$Part;" ∈ wsU := wU_t 97 (by decide +kernel) (by decide +kernel)
theorem f_Pr_21 : Cond.fieldLink R_Pr 21 "WordSets$Parser" "factor" "LWordSets$Part;" ∈ wsU := wU_t 98 (by decide +kernel) (by decide +kernel)
theorem f_Pr_25 : Cond.fieldLink R_Pr 25 "WordSets$Parser" "factorWaits" "Z" ∈ wsU := wU_t 99 (by decide +kernel) (by decide +kernel)
theorem f_Pr_29 : Cond.fieldLink R_Pr 29 "WordSets$Parser" "depth" "I" ∈ wsU := wU_t 100 (by decide +kernel) (by decide +kernel)
theorem k_Ws_34 : Cond.classLink R_Ws 34 R_Ma ∈ wsU := wU_t 112 (by decide +kernel) (by decide +kernel)
theorem it_Ma : Cond.instantiable R_Ma 8 ∈ wsU := wU_t 113 (by decide +kernel) (by decide +kernel)
theorem im_Ma_init : Cond.instanceMethod y_Ma_init ∈ wsU := wU_t 115 (by decide +kernel) (by decide +kernel)
set_option maxRecDepth 20000 in
theorem cd_Ma_init : Cond.code y_Ma_init c_Ma_init 1 none ∈ wsU := wU_t 116 (rfl) (by decide +kernel)
theorem m_Ma_5 : Cond.methodLink R_Ma 5 objectInit ∈ wsU := wU_t 117 (by decide +kernel) (by decide +kernel)
theorem f_Ma_13 : Cond.fieldLink R_Ma 13 "WordSets$Machine" "sets" "[I" ∈ wsU := wU_t 118 (by decide +kernel) (by decide +kernel)
theorem f_Ma_17 : Cond.fieldLink R_Ma 17 "WordSets$Machine" "numbers" "[I" ∈ wsU := wU_t 119 (by decide +kernel) (by decide +kernel)
theorem f_Ma_20 : Cond.fieldLink R_Ma 20 "WordSets$Machine" "next" "[I" ∈ wsU := wU_t 120 (by decide +kernel) (by decide +kernel)
theorem f_Ma_23 : Cond.fieldLink R_Ma 23 "WordSets$Machine" "accepting" "[I" ∈ wsU := wU_t 121 (by decide +kernel) (by decide +kernel)
theorem f_Ma_26 : Cond.fieldLink R_Ma 26 "WordSets$Machine" "group" "[I" ∈ wsU := wU_t 122 (by decide +kernel) (by decide +kernel)
theorem f_Ma_29 : Cond.fieldLink R_Ma 29 "WordSets$Machine" "finer" "[I" ∈ wsU := wU_t 123 (by decide +kernel) (by decide +kernel)
theorem f_Ma_32 : Cond.fieldLink R_Ma 32 "WordSets$Machine" "tallies" "[J" ∈ wsU := wU_t 124 (by decide +kernel) (by decide +kernel)
theorem f_Ma_36 : Cond.fieldLink R_Ma 36 "WordSets$Machine" "size" "I" ∈ wsU := wU_t 125 (by decide +kernel) (by decide +kernel)
theorem ac_long : Cond.arrayClass .long ∈ wsU := wU_t 143 (by decide +kernel) (by decide +kernel)
theorem k_Ws_41 : Cond.classLink R_Ws 41 R_Se ∈ wsU := wU_t 144 (by decide +kernel) (by decide +kernel)
theorem it_Se : Cond.instantiable R_Se 5 ∈ wsU := wU_t 145 (by decide +kernel) (by decide +kernel)
theorem im_Se_init : Cond.instanceMethod y_Se_init ∈ wsU := wU_t 147 (by decide +kernel) (by decide +kernel)
set_option maxRecDepth 20000 in
theorem cd_Se_init : Cond.code y_Se_init c_Se_init 1 none ∈ wsU := wU_t 148 (rfl) (by decide +kernel)
theorem m_Se_3 : Cond.methodLink R_Se 3 objectInit ∈ wsU := wU_t 149 (by decide +kernel) (by decide +kernel)
theorem f_Se_9 : Cond.fieldLink R_Se 9 "WordSets$Search" "seen" "[J" ∈ wsU := wU_t 150 (by decide +kernel) (by decide +kernel)
theorem f_Se_15 : Cond.fieldLink R_Se 15 "WordSets$Search" "firsts" "[I" ∈ wsU := wU_t 151 (by decide +kernel) (by decide +kernel)
theorem f_Se_19 : Cond.fieldLink R_Se 19 "WordSets$Search" "seconds" "[I" ∈ wsU := wU_t 152 (by decide +kernel) (by decide +kernel)
theorem f_Se_22 : Cond.fieldLink R_Se 22 "WordSets$Search" "origins" "[I" ∈ wsU := wU_t 153 (by decide +kernel) (by decide +kernel)
theorem f_Se_25 : Cond.fieldLink R_Se 25 "WordSets$Search" "size" "I" ∈ wsU := wU_t 154 (by decide +kernel) (by decide +kernel)
theorem k_Ws_48 : Cond.classLink R_Ws 48 R_Wo ∈ wsU := wU_t 166 (by decide +kernel) (by decide +kernel)
theorem it_Wo : Cond.instantiable R_Wo 2 ∈ wsU := wU_t 167 (by decide +kernel) (by decide +kernel)
theorem im_Wo_init : Cond.instanceMethod y_Wo_init ∈ wsU := wU_t 169 (by decide +kernel) (by decide +kernel)
set_option maxRecDepth 20000 in
theorem cd_Wo_init : Cond.code y_Wo_init c_Wo_init 1 none ∈ wsU := wU_t 170 (rfl) (by decide +kernel)
theorem m_Wo_3 : Cond.methodLink R_Wo 3 objectInit ∈ wsU := wU_t 171 (by decide +kernel) (by decide +kernel)
theorem f_Wo_9 : Cond.fieldLink R_Wo 9 "WordSets$Word" "letters" "[I" ∈ wsU := wU_t 172 (by decide +kernel) (by decide +kernel)
theorem f_Ma_71 : Cond.fieldLink R_Ma 71 "WordSets$Word" "letters" "[I" ∈ wsU := wU_t 173 (by decide +kernel) (by decide +kernel)
theorem f_Se_79 : Cond.fieldLink R_Se 79 "WordSets$Word" "letters" "[I" ∈ wsU := wU_t 174 (by decide +kernel) (by decide +kernel)
theorem f_Ws_154 : Cond.fieldLink R_Ws 154 "WordSets$Word" "letters" "[I" ∈ wsU := wU_t 175 (by decide +kernel) (by decide +kernel)
theorem f_Wo_15 : Cond.fieldLink R_Wo 15 "WordSets$Word" "size" "I" ∈ wsU := wU_t 176 (by decide +kernel) (by decide +kernel)
theorem f_Ws_122 : Cond.fieldLink R_Ws 122 "WordSets$Word" "size" "I" ∈ wsU := wU_t 177 (by decide +kernel) (by decide +kernel)
theorem f_Ws_10 : Cond.fieldLink R_Ws 10 "WordSets" "tape" "LWordSets$Tape;" ∈ wsU := wU_t 183 (by decide +kernel) (by decide +kernel)
theorem f_Ws_18 : Cond.fieldLink R_Ws 18 "WordSets" "slots" "[LWordSets$Expression;" ∈ wsU := wU_t 184 (by decide +kernel) (by decide +kernel)
theorem f_Ws_23 : Cond.fieldLink R_Ws 23 "WordSets" "nothing" "LWordSets$Expression;" ∈ wsU := wU_t 185 (by decide +kernel) (by decide +kernel)
theorem f_Ws_30 : Cond.fieldLink R_Ws 30 "WordSets" "parser" "LWordSets$Parser;" ∈ wsU := wU_t 186 (by decide +kernel) (by decide +kernel)
theorem f_Ws_37 : Cond.fieldLink R_Ws 37 "WordSets" "machine" "LWordSets$Machine;" ∈ wsU := wU_t 187 (by decide +kernel) (by decide +kernel)
theorem f_Ws_44 : Cond.fieldLink R_Ws 44 "WordSets" "search" "LWordSets$Search;" ∈ wsU := wU_t 188 (by decide +kernel) (by decide +kernel)
theorem f_Ws_51 : Cond.fieldLink R_Ws 51 "WordSets" "theWord" "LWordSets$Word;" ∈ wsU := wU_t 189 (by decide +kernel) (by decide +kernel)
theorem f_Ws_55 : Cond.fieldLink R_Ws 55 "WordSets" "spare" "LWordSets$Expression;" ∈ wsU := wU_t 190 (by decide +kernel) (by decide +kernel)
theorem f_Ws_58 : Cond.fieldLink R_Ws 58 "WordSets" "wrongAt" "I" ∈ wsU := wU_t 191 (by decide +kernel) (by decide +kernel)
theorem m_Lw_76 : Cond.methodLink R_Lw 76 y_Ws_place ∈ wsU := wU_t 211 (by decide +kernel) (by decide +kernel)
theorem im_Ws_place : Cond.instanceMethod y_Ws_place ∈ wsU := wU_t 212 (by decide +kernel) (by decide +kernel)
theorem se_Ws_place : Cond.selects R_Ws y_Ws_place y_Ws_place ∈ wsU := wU_t 213 (by decide +kernel) (by decide +kernel)
set_option maxRecDepth 20000 in
theorem cd_Ws_place : Cond.code y_Ws_place c_Ws_place 1 (some .int) ∈ wsU := wU_t 214 (rfl) (by decide +kernel)
theorem m_Lw_107 : Cond.methodLink R_Lw 107 y_Ws_size ∈ wsU := wU_t 215 (by decide +kernel) (by decide +kernel)
theorem im_Ws_size : Cond.instanceMethod y_Ws_size ∈ wsU := wU_t 216 (by decide +kernel) (by decide +kernel)
theorem se_Ws_size : Cond.selects R_Ws y_Ws_size y_Ws_size ∈ wsU := wU_t 217 (by decide +kernel) (by decide +kernel)
set_option maxRecDepth 20000 in
theorem cd_Ws_size : Cond.code y_Ws_size c_Ws_size 1 (some .int) ∈ wsU := wU_t 218 (rfl) (by decide +kernel)
theorem m_Lw_62 : Cond.methodLink R_Lw 62 y_Lw_feed ∈ wsU := wU_t 219 (by decide +kernel) (by decide +kernel)
theorem sm_Lw_feed : Cond.static y_Lw_feed ∈ wsU := wU_t 220 (by decide +kernel) (by decide +kernel)
theorem k_Lw_13 : Cond.classLink R_Lw 13 "java/lang/IllegalArgumentException" ∈ wsU := wU_t 222 (by decide +kernel) (by decide +kernel)
theorem k_Lw_15 : Cond.classLink R_Lw 15 "java/lang/IllegalStateException" ∈ wsU := wU_t 223 (by decide +kernel) (by decide +kernel)
theorem m_Lw_7 : Cond.methodLink R_Lw 7 y_Ws_feed ∈ wsU := wU_t 224 (by decide +kernel) (by decide +kernel)
theorem im_Ws_feed : Cond.instanceMethod y_Ws_feed ∈ wsU := wU_t 225 (by decide +kernel) (by decide +kernel)
theorem se_Ws_feed : Cond.selects R_Ws y_Ws_feed y_Ws_feed ∈ wsU := wU_t 226 (by decide +kernel) (by decide +kernel)
set_option maxRecDepth 20000 in
theorem cd_Ws_feed : Cond.code y_Ws_feed c_Ws_feed 4 (some .int) ∈ wsU := wU_t 227 (rfl) (by decide +kernel)
theorem k_Ws_62 : Cond.classLink R_Ws 62 "java/lang/IllegalArgumentException" ∈ wsU := wU_t 228 (by decide +kernel) (by decide +kernel)
theorem m_Ws_66 : Cond.methodLink R_Ws 66 ⟨"java/lang/IllegalArgumentException", "<init>", "(Ljava/lang/String;)V"⟩ ∈ wsU := wU_t 270 (by decide +kernel) (by decide +kernel)
theorem ac_byte : Cond.arrayClass .byte ∈ wsU := wU_t 295 (by decide +kernel) (by decide +kernel)
theorem m_Ws_69 : Cond.methodLink R_Ws 69 y_Ta_append ∈ wsU := wU_t 296 (by decide +kernel) (by decide +kernel)
theorem im_Ta_append : Cond.instanceMethod y_Ta_append ∈ wsU := wU_t 297 (by decide +kernel) (by decide +kernel)
theorem se_Ta_append : Cond.selects R_Ta y_Ta_append y_Ta_append ∈ wsU := wU_t 298 (by decide +kernel) (by decide +kernel)
set_option maxRecDepth 20000 in
theorem cd_Ta_append : Cond.code y_Ta_append c_Ta_append 5 (some .boolean) ∈ wsU := wU_t 299 (rfl) (by decide +kernel)
theorem k_Ws_73 : Cond.classLink R_Ws 73 "java/lang/IllegalStateException" ∈ wsU := wU_t 300 (by decide +kernel) (by decide +kernel)
theorem m_Ws_77 : Cond.methodLink R_Ws 77 ⟨"java/lang/IllegalStateException", "<init>", "(Ljava/lang/String;)V"⟩ ∈ wsU := wU_t 310 (by decide +kernel) (by decide +kernel)
theorem m_Lw_72 : Cond.methodLink R_Lw 72 y_Lw_read ∈ wsU := wU_t 316 (by decide +kernel) (by decide +kernel)
theorem sm_Lw_read : Cond.static y_Lw_read ∈ wsU := wU_t 317 (by decide +kernel) (by decide +kernel)
theorem m_Lw_17 : Cond.methodLink R_Lw 17 y_Ws_read ∈ wsU := wU_t 319 (by decide +kernel) (by decide +kernel)
theorem im_Ws_read : Cond.instanceMethod y_Ws_read ∈ wsU := wU_t 320 (by decide +kernel) (by decide +kernel)
theorem se_Ws_read : Cond.selects R_Ws y_Ws_read y_Ws_read ∈ wsU := wU_t 321 (by decide +kernel) (by decide +kernel)
set_option maxRecDepth 20000 in
theorem cd_Ws_read : Cond.code y_Ws_read c_Ws_read 3 (some .int) ∈ wsU := wU_t 322 (rfl) (by decide +kernel)
theorem m_Ws_81 : Cond.methodLink R_Ws 81 y_Ta_useUp ∈ wsU := wU_t 323 (by decide +kernel) (by decide +kernel)
theorem im_Ta_useUp : Cond.instanceMethod y_Ta_useUp ∈ wsU := wU_t 324 (by decide +kernel) (by decide +kernel)
theorem se_Ta_useUp : Cond.selects R_Ta y_Ta_useUp y_Ta_useUp ∈ wsU := wU_t 325 (by decide +kernel) (by decide +kernel)
set_option maxRecDepth 20000 in
theorem cd_Ta_useUp : Cond.code y_Ta_useUp c_Ta_useUp 2 (some .int) ∈ wsU := wU_t 326 (rfl) (by decide +kernel)
theorem m_Ws_85 : Cond.methodLink R_Ws 85 y_Ws_checkSlot ∈ wsU := wU_t 327 (by decide +kernel) (by decide +kernel)
theorem sm_Ws_checkSlot : Cond.static y_Ws_checkSlot ∈ wsU := wU_t 328 (by decide +kernel) (by decide +kernel)
set_option maxRecDepth 20000 in
theorem cd_Ws_checkSlot : Cond.code y_Ws_checkSlot c_Ws_checkSlot 1 none ∈ wsU := wU_t 329 (rfl) (by decide +kernel)
theorem m_Ws_93 : Cond.methodLink R_Ws 93 y_Pr_parse ∈ wsU := wU_t 331 (by decide +kernel) (by decide +kernel)
theorem im_Pr_parse : Cond.instanceMethod y_Pr_parse ∈ wsU := wU_t 332 (by decide +kernel) (by decide +kernel)
theorem se_Pr_parse : Cond.selects R_Pr y_Pr_parse y_Pr_parse ∈ wsU := wU_t 333 (by decide +kernel) (by decide +kernel)
set_option maxRecDepth 20000 in
theorem cd_Pr_parse : Cond.code y_Pr_parse c_Pr_parse 5 (some .int) ∈ wsU := wU_t 334 (rfl) (by decide +kernel)
theorem m_Pr_33 : Cond.methodLink R_Pr 33 y_Ex_clear ∈ wsU := wU_t 335 (by decide +kernel) (by decide +kernel)
theorem im_Ex_clear : Cond.instanceMethod y_Ex_clear ∈ wsU := wU_t 336 (by decide +kernel) (by decide +kernel)
theorem se_Ex_clear : Cond.selects R_Ex y_Ex_clear y_Ex_clear ∈ wsU := wU_t 337 (by decide +kernel) (by decide +kernel)
set_option maxRecDepth 20000 in
theorem cd_Ex_clear : Cond.code y_Ex_clear c_Ex_clear 1 none ∈ wsU := wU_t 338 (rfl) (by decide +kernel)
theorem m_Ex_25 : Cond.methodLink R_Ex 25 y_Ar_fillI ∈ wsU := wU_t 339 (by decide +kernel) (by decide +kernel)
theorem sm_Ar_fillI : Cond.static y_Ar_fillI ∈ wsU := wU_t 340 (by decide +kernel) (by decide +kernel)
set_option maxRecDepth 20000 in
theorem cd_Ar_fillI : Cond.code y_Ar_fillI c_Ar_fillI 4 none ∈ wsU := wU_t 341 (rfl) (by decide +kernel)
theorem m_Pr_38 : Cond.methodLink R_Pr 38 y_Pr_beginSum ∈ wsU := wU_t 342 (by decide +kernel) (by decide +kernel)
theorem im_Pr_beginSum : Cond.instanceMethod y_Pr_beginSum ∈ wsU := wU_t 344 (by decide +kernel) (by decide +kernel)
set_option maxRecDepth 20000 in
theorem cd_Pr_beginSum : Cond.code y_Pr_beginSum c_Pr_beginSum 1 none ∈ wsU := wU_t 345 (rfl) (by decide +kernel)
theorem m_Pr_93 : Cond.methodLink R_Pr 93 y_Pt_become ∈ wsU := wU_t 346 (by decide +kernel) (by decide +kernel)
theorem im_Pt_become : Cond.instanceMethod y_Pt_become ∈ wsU := wU_t 347 (by decide +kernel) (by decide +kernel)
theorem se_Pt_become : Cond.selects R_Pt y_Pt_become y_Pt_become ∈ wsU := wU_t 348 (by decide +kernel) (by decide +kernel)
set_option maxRecDepth 20000 in
theorem cd_Pt_become : Cond.code y_Pt_become c_Pt_become 4 none ∈ wsU := wU_t 349 (rfl) (by decide +kernel)
theorem m_Pr_41 : Cond.methodLink R_Pr 41 y_Pr_accept ∈ wsU := wU_t 350 (by decide +kernel) (by decide +kernel)
theorem im_Pr_accept : Cond.instanceMethod y_Pr_accept ∈ wsU := wU_t 352 (by decide +kernel) (by decide +kernel)
set_option maxRecDepth 20000 in
theorem cd_Pr_accept : Cond.code y_Pr_accept c_Pr_accept 4 (some .boolean) ∈ wsU := wU_t 353 (rfl) (by decide +kernel)
theorem m_Pr_56 : Cond.methodLink R_Pr 56 y_Pr_acceptRepeat ∈ wsU := wU_t 354 (by decide +kernel) (by decide +kernel)
theorem im_Pr_acceptRepeat : Cond.instanceMethod y_Pr_acceptRepeat ∈ wsU := wU_t 356 (by decide +kernel) (by decide +kernel)
set_option maxRecDepth 20000 in
theorem cd_Pr_acceptRepeat : Cond.code y_Pr_acceptRepeat c_Pr_acceptRepeat 3 (some .boolean) ∈ wsU := wU_t 357 (rfl) (by decide +kernel)
theorem m_Pr_73 : Cond.methodLink R_Pr 73 y_Pt_repeat ∈ wsU := wU_t 358 (by decide +kernel) (by decide +kernel)
theorem im_Pt_repeat : Cond.instanceMethod y_Pt_repeat ∈ wsU := wU_t 359 (by decide +kernel) (by decide +kernel)
theorem se_Pt_repeat : Cond.selects R_Pt y_Pt_repeat y_Pt_repeat ∈ wsU := wU_t 360 (by decide +kernel) (by decide +kernel)
set_option maxRecDepth 20000 in
theorem cd_Pt_repeat : Cond.code y_Pt_repeat c_Pt_repeat 3 none ∈ wsU := wU_t 361 (rfl) (by decide +kernel)
theorem m_Pt_24 : Cond.methodLink R_Pt 24 y_Ex_link ∈ wsU := wU_t 362 (by decide +kernel) (by decide +kernel)
theorem im_Ex_link : Cond.instanceMethod y_Ex_link ∈ wsU := wU_t 363 (by decide +kernel) (by decide +kernel)
theorem se_Ex_link : Cond.selects R_Ex y_Ex_link y_Ex_link ∈ wsU := wU_t 364 (by decide +kernel) (by decide +kernel)
set_option maxRecDepth 20000 in
theorem cd_Ex_link : Cond.code y_Ex_link c_Ex_link 4 none ∈ wsU := wU_t 365 (rfl) (by decide +kernel)
theorem m_Pr_45 : Cond.methodLink R_Pr 45 y_Pr_joinFactor ∈ wsU := wU_t 366 (by decide +kernel) (by decide +kernel)
theorem im_Pr_joinFactor : Cond.instanceMethod y_Pr_joinFactor ∈ wsU := wU_t 368 (by decide +kernel) (by decide +kernel)
set_option maxRecDepth 20000 in
theorem cd_Pr_joinFactor : Cond.code y_Pr_joinFactor c_Pr_joinFactor 3 (some .boolean) ∈ wsU := wU_t 369 (rfl) (by decide +kernel)
theorem m_Pr_96 : Cond.methodLink R_Pr 96 y_Pt_addBehind ∈ wsU := wU_t 370 (by decide +kernel) (by decide +kernel)
theorem im_Pt_addBehind : Cond.instanceMethod y_Pt_addBehind ∈ wsU := wU_t 371 (by decide +kernel) (by decide +kernel)
theorem se_Pt_addBehind : Cond.selects R_Pt y_Pt_addBehind y_Pt_addBehind ∈ wsU := wU_t 372 (by decide +kernel) (by decide +kernel)
set_option maxRecDepth 20000 in
theorem cd_Pt_addBehind : Cond.code y_Pt_addBehind c_Pt_addBehind 5 none ∈ wsU := wU_t 373 (rfl) (by decide +kernel)
theorem m_Pt_20 : Cond.methodLink R_Pt 20 y_Pt_become ∈ wsU := wU_t 374 (by decide +kernel) (by decide +kernel)
theorem m_Pr_59 : Cond.methodLink R_Pr 59 y_Pr_acceptLetter ∈ wsU := wU_t 375 (by decide +kernel) (by decide +kernel)
theorem im_Pr_acceptLetter : Cond.instanceMethod y_Pr_acceptLetter ∈ wsU := wU_t 377 (by decide +kernel) (by decide +kernel)
set_option maxRecDepth 20000 in
theorem cd_Pr_acceptLetter : Cond.code y_Pr_acceptLetter c_Pr_acceptLetter 4 (some .boolean) ∈ wsU := wU_t 378 (rfl) (by decide +kernel)
theorem m_Pr_80 : Cond.methodLink R_Pr 80 y_Ex_addLetter ∈ wsU := wU_t 379 (by decide +kernel) (by decide +kernel)
theorem im_Ex_addLetter : Cond.instanceMethod y_Ex_addLetter ∈ wsU := wU_t 380 (by decide +kernel) (by decide +kernel)
theorem se_Ex_addLetter : Cond.selects R_Ex y_Ex_addLetter y_Ex_addLetter ∈ wsU := wU_t 381 (by decide +kernel) (by decide +kernel)
set_option maxRecDepth 20000 in
theorem cd_Ex_addLetter : Cond.code y_Ex_addLetter c_Ex_addLetter 3 (some .int) ∈ wsU := wU_t 382 (rfl) (by decide +kernel)
theorem m_Pr_62 : Cond.methodLink R_Pr 62 y_Pr_setFactor ∈ wsU := wU_t 383 (by decide +kernel) (by decide +kernel)
theorem im_Pr_setFactor : Cond.instanceMethod y_Pr_setFactor ∈ wsU := wU_t 385 (by decide +kernel) (by decide +kernel)
set_option maxRecDepth 20000 in
theorem cd_Pr_setFactor : Cond.code y_Pr_setFactor c_Pr_setFactor 4 none ∈ wsU := wU_t 386 (rfl) (by decide +kernel)
theorem m_Pr_66 : Cond.methodLink R_Pr 66 y_Pr_acceptOpening ∈ wsU := wU_t 387 (by decide +kernel) (by decide +kernel)
theorem im_Pr_acceptOpening : Cond.instanceMethod y_Pr_acceptOpening ∈ wsU := wU_t 389 (by decide +kernel) (by decide +kernel)
set_option maxRecDepth 20000 in
theorem cd_Pr_acceptOpening : Cond.code y_Pr_acceptOpening c_Pr_acceptOpening 1 (some .boolean) ∈ wsU := wU_t 390 (rfl) (by decide +kernel)
theorem m_Pr_70 : Cond.methodLink R_Pr 70 y_Pr_acceptClosing ∈ wsU := wU_t 391 (by decide +kernel) (by decide +kernel)
theorem im_Pr_acceptClosing : Cond.instanceMethod y_Pr_acceptClosing ∈ wsU := wU_t 393 (by decide +kernel) (by decide +kernel)
set_option maxRecDepth 20000 in
theorem cd_Pr_acceptClosing : Cond.code y_Pr_acceptClosing c_Pr_acceptClosing 2 (some .boolean) ∈ wsU := wU_t 394 (rfl) (by decide +kernel)
theorem m_Pr_49 : Cond.methodLink R_Pr 49 y_Pr_endRow ∈ wsU := wU_t 395 (by decide +kernel) (by decide +kernel)
theorem im_Pr_endRow : Cond.instanceMethod y_Pr_endRow ∈ wsU := wU_t 397 (by decide +kernel) (by decide +kernel)
set_option maxRecDepth 20000 in
theorem cd_Pr_endRow : Cond.code y_Pr_endRow c_Pr_endRow 1 none ∈ wsU := wU_t 398 (rfl) (by decide +kernel)
theorem m_Pr_100 : Cond.methodLink R_Pr 100 y_Pt_addAlternative ∈ wsU := wU_t 399 (by decide +kernel) (by decide +kernel)
theorem im_Pt_addAlternative : Cond.instanceMethod y_Pt_addAlternative ∈ wsU := wU_t 400 (by decide +kernel) (by decide +kernel)
theorem se_Pt_addAlternative : Cond.selects R_Pt y_Pt_addAlternative y_Pt_addAlternative ∈ wsU := wU_t 401 (by decide +kernel) (by decide +kernel)
set_option maxRecDepth 20000 in
theorem cd_Pt_addAlternative : Cond.code y_Pt_addAlternative c_Pt_addAlternative 2 none ∈ wsU := wU_t 402 (rfl) (by decide +kernel)
theorem m_Pr_52 : Cond.methodLink R_Pr 52 y_Ex_setWhole ∈ wsU := wU_t 403 (by decide +kernel) (by decide +kernel)
theorem im_Ex_setWhole : Cond.instanceMethod y_Ex_setWhole ∈ wsU := wU_t 404 (by decide +kernel) (by decide +kernel)
theorem se_Ex_setWhole : Cond.selects R_Ex y_Ex_setWhole y_Ex_setWhole ∈ wsU := wU_t 405 (by decide +kernel) (by decide +kernel)
set_option maxRecDepth 20000 in
theorem cd_Ex_setWhole : Cond.code y_Ex_setWhole c_Ex_setWhole 2 none ∈ wsU := wU_t 406 (rfl) (by decide +kernel)
theorem m_Ws_99 : Cond.methodLink R_Ws 99 y_Ws_putSpare ∈ wsU := wU_t 408 (by decide +kernel) (by decide +kernel)
theorem im_Ws_putSpare : Cond.instanceMethod y_Ws_putSpare ∈ wsU := wU_t 410 (by decide +kernel) (by decide +kernel)
set_option maxRecDepth 20000 in
theorem cd_Ws_putSpare : Cond.code y_Ws_putSpare c_Ws_putSpare 3 none ∈ wsU := wU_t 411 (rfl) (by decide +kernel)
theorem m_Lw_80 : Cond.methodLink R_Lw 80 y_Lw_has ∈ wsU := wU_t 412 (by decide +kernel) (by decide +kernel)
theorem sm_Lw_has : Cond.static y_Lw_has ∈ wsU := wU_t 413 (by decide +kernel) (by decide +kernel)
theorem m_Lw_21 : Cond.methodLink R_Lw 21 y_Ws_has ∈ wsU := wU_t 415 (by decide +kernel) (by decide +kernel)
theorem im_Ws_has : Cond.instanceMethod y_Ws_has ∈ wsU := wU_t 416 (by decide +kernel) (by decide +kernel)
theorem se_Ws_has : Cond.selects R_Ws y_Ws_has y_Ws_has ∈ wsU := wU_t 417 (by decide +kernel) (by decide +kernel)
set_option maxRecDepth 20000 in
theorem cd_Ws_has : Cond.code y_Ws_has c_Ws_has 6 (some .boolean) ∈ wsU := wU_t 418 (rfl) (by decide +kernel)
theorem m_Ws_105 : Cond.methodLink R_Ws 105 y_Ta_isWord ∈ wsU := wU_t 419 (by decide +kernel) (by decide +kernel)
theorem im_Ta_isWord : Cond.instanceMethod y_Ta_isWord ∈ wsU := wU_t 420 (by decide +kernel) (by decide +kernel)
theorem se_Ta_isWord : Cond.selects R_Ta y_Ta_isWord y_Ta_isWord ∈ wsU := wU_t 421 (by decide +kernel) (by decide +kernel)
set_option maxRecDepth 20000 in
theorem cd_Ta_isWord : Cond.code y_Ta_isWord c_Ta_isWord 3 (some .boolean) ∈ wsU := wU_t 422 (rfl) (by decide +kernel)
theorem m_Ws_111 : Cond.methodLink R_Ws 111 y_Ex_step ∈ wsU := wU_t 424 (by decide +kernel) (by decide +kernel)
theorem im_Ex_step : Cond.instanceMethod y_Ex_step ∈ wsU := wU_t 425 (by decide +kernel) (by decide +kernel)
theorem se_Ex_step : Cond.selects R_Ex y_Ex_step y_Ex_step ∈ wsU := wU_t 426 (by decide +kernel) (by decide +kernel)
set_option maxRecDepth 20000 in
theorem cd_Ex_step : Cond.code y_Ex_step c_Ex_step 3 (some .int) ∈ wsU := wU_t 427 (rfl) (by decide +kernel)
theorem m_Ex_43 : Cond.methodLink R_Ex 43 y_Ex_onward ∈ wsU := wU_t 428 (by decide +kernel) (by decide +kernel)
theorem im_Ex_onward : Cond.instanceMethod y_Ex_onward ∈ wsU := wU_t 429 (by decide +kernel) (by decide +kernel)
theorem se_Ex_onward : Cond.selects R_Ex y_Ex_onward y_Ex_onward ∈ wsU := wU_t 430 (by decide +kernel) (by decide +kernel)
set_option maxRecDepth 20000 in
theorem cd_Ex_onward : Cond.code y_Ex_onward c_Ex_onward 4 (some .int) ∈ wsU := wU_t 431 (rfl) (by decide +kernel)
theorem m_Ws_115 : Cond.methodLink R_Ws 115 y_Ex_accepts ∈ wsU := wU_t 432 (by decide +kernel) (by decide +kernel)
theorem im_Ex_accepts : Cond.instanceMethod y_Ex_accepts ∈ wsU := wU_t 433 (by decide +kernel) (by decide +kernel)
theorem se_Ex_accepts : Cond.selects R_Ex y_Ex_accepts y_Ex_accepts ∈ wsU := wU_t 434 (by decide +kernel) (by decide +kernel)
set_option maxRecDepth 20000 in
theorem cd_Ex_accepts : Cond.code y_Ex_accepts c_Ex_accepts 2 (some .boolean) ∈ wsU := wU_t 435 (rfl) (by decide +kernel)
theorem m_Lw_83 : Cond.methodLink R_Lw 83 y_Lw_compare ∈ wsU := wU_t 436 (by decide +kernel) (by decide +kernel)
theorem sm_Lw_compare : Cond.static y_Lw_compare ∈ wsU := wU_t 437 (by decide +kernel) (by decide +kernel)
theorem m_Lw_25 : Cond.methodLink R_Lw 25 y_Ws_compare ∈ wsU := wU_t 439 (by decide +kernel) (by decide +kernel)
theorem im_Ws_compare : Cond.instanceMethod y_Ws_compare ∈ wsU := wU_t 440 (by decide +kernel) (by decide +kernel)
theorem se_Ws_compare : Cond.selects R_Ws y_Ws_compare y_Ws_compare ∈ wsU := wU_t 441 (by decide +kernel) (by decide +kernel)
set_option maxRecDepth 20000 in
theorem cd_Ws_compare : Cond.code y_Ws_compare c_Ws_compare 3 (some .int) ∈ wsU := wU_t 442 (rfl) (by decide +kernel)
theorem m_Ws_118 : Cond.methodLink R_Ws 118 y_Se_part ∈ wsU := wU_t 443 (by decide +kernel) (by decide +kernel)
theorem im_Se_part : Cond.instanceMethod y_Se_part ∈ wsU := wU_t 444 (by decide +kernel) (by decide +kernel)
theorem se_Se_part : Cond.selects R_Se y_Se_part y_Se_part ∈ wsU := wU_t 445 (by decide +kernel) (by decide +kernel)
set_option maxRecDepth 20000 in
theorem cd_Se_part : Cond.code y_Se_part c_Se_part 7 (some .int) ∈ wsU := wU_t 446 (rfl) (by decide +kernel)
theorem m_Se_29 : Cond.methodLink R_Se 29 y_Ar_fillL ∈ wsU := wU_t 447 (by decide +kernel) (by decide +kernel)
theorem sm_Ar_fillL : Cond.static y_Ar_fillL ∈ wsU := wU_t 448 (by decide +kernel) (by decide +kernel)
set_option maxRecDepth 20000 in
theorem cd_Ar_fillL : Cond.code y_Ar_fillL c_Ar_fillL 5 none ∈ wsU := wU_t 449 (rfl) (by decide +kernel)
theorem m_Se_37 : Cond.methodLink R_Se 37 y_Se_append ∈ wsU := wU_t 450 (by decide +kernel) (by decide +kernel)
theorem im_Se_append : Cond.instanceMethod y_Se_append ∈ wsU := wU_t 452 (by decide +kernel) (by decide +kernel)
set_option maxRecDepth 20000 in
theorem cd_Se_append : Cond.code y_Se_append c_Se_append 4 none ∈ wsU := wU_t 453 (rfl) (by decide +kernel)
theorem m_Se_75 : Cond.methodLink R_Se 75 y_Ar_copyI ∈ wsU := wU_t 454 (by decide +kernel) (by decide +kernel)
theorem sm_Ar_copyI : Cond.static y_Ar_copyI ∈ wsU := wU_t 455 (by decide +kernel) (by decide +kernel)
set_option maxRecDepth 20000 in
theorem cd_Ar_copyI : Cond.code y_Ar_copyI c_Ar_copyI 3 (some (.array .int)) ∈ wsU := wU_t 456 (rfl) (by decide +kernel)
theorem m_Ar_316 : Cond.methodLink R_Ar 316 ⟨"[I", "clone", "()Ljava/lang/Object;"⟩ ∈ wsU := wU_t 457 (by decide +kernel) (by decide +kernel)
theorem k_Ar_317 : Cond.classLink R_Ar 317 "[I" ∈ wsU := wU_t 463 (by decide +kernel) (by decide +kernel)
theorem m_Ar_304 : Cond.methodLink R_Ar 304 y_Mt_min ∈ wsU := wU_t 464 (by decide +kernel) (by decide +kernel)
theorem sm_Mt_min : Cond.static y_Mt_min ∈ wsU := wU_t 465 (by decide +kernel) (by decide +kernel)
set_option maxRecDepth 20000 in
theorem cd_Mt_min : Cond.code y_Mt_min c_Mt_min 2 (some .int) ∈ wsU := wU_t 466 (rfl) (by decide +kernel)
theorem m_Ar_150 : Cond.methodLink R_Ar 150 arraycopyName ∈ wsU := wU_t 467 (by decide +kernel) (by decide +kernel)
theorem sm_Sy_arraycopy : Cond.static arraycopyName ∈ wsU := wU_t 468 (by decide +kernel) (by decide +kernel)
theorem nm_Sy_arraycopy : Cond.native arraycopyName ∈ wsU := wU_t 469 (by decide +kernel) (by decide +kernel)
theorem co_Se_41 : Cond.constant R_Se 41 65537 ∈ wsU := wU_t 470 (by decide +kernel) (by decide +kernel)
theorem m_Se_42 : Cond.methodLink R_Se 42 y_Ex_accepts ∈ wsU := wU_t 471 (by decide +kernel) (by decide +kernel)
theorem m_Se_46 : Cond.methodLink R_Se 46 y_Se_whoAlone ∈ wsU := wU_t 472 (by decide +kernel) (by decide +kernel)
theorem sm_Se_whoAlone : Cond.static y_Se_whoAlone ∈ wsU := wU_t 473 (by decide +kernel) (by decide +kernel)
set_option maxRecDepth 20000 in
theorem cd_Se_whoAlone : Cond.code y_Se_whoAlone c_Se_whoAlone 2 (some .int) ∈ wsU := wU_t 474 (rfl) (by decide +kernel)
theorem m_Se_50 : Cond.methodLink R_Se 50 y_Se_spellWay ∈ wsU := wU_t 475 (by decide +kernel) (by decide +kernel)
theorem im_Se_spellWay : Cond.instanceMethod y_Se_spellWay ∈ wsU := wU_t 477 (by decide +kernel) (by decide +kernel)
set_option maxRecDepth 20000 in
theorem cd_Se_spellWay : Cond.code y_Se_spellWay c_Se_spellWay 6 none ∈ wsU := wU_t 478 (rfl) (by decide +kernel)
theorem m_Se_58 : Cond.methodLink R_Se 58 y_Wo_resize ∈ wsU := wU_t 479 (by decide +kernel) (by decide +kernel)
theorem im_Wo_resize : Cond.instanceMethod y_Wo_resize ∈ wsU := wU_t 480 (by decide +kernel) (by decide +kernel)
theorem se_Wo_resize : Cond.selects R_Wo y_Wo_resize y_Wo_resize ∈ wsU := wU_t 481 (by decide +kernel) (by decide +kernel)
set_option maxRecDepth 20000 in
theorem cd_Wo_resize : Cond.code y_Wo_resize c_Wo_resize 2 none ∈ wsU := wU_t 482 (rfl) (by decide +kernel)
theorem m_Se_54 : Cond.methodLink R_Se 54 y_Se_goOn ∈ wsU := wU_t 483 (by decide +kernel) (by decide +kernel)
theorem im_Se_goOn : Cond.instanceMethod y_Se_goOn ∈ wsU := wU_t 485 (by decide +kernel) (by decide +kernel)
set_option maxRecDepth 20000 in
theorem cd_Se_goOn : Cond.code y_Se_goOn c_Se_goOn 9 none ∈ wsU := wU_t 486 (rfl) (by decide +kernel)
theorem m_Se_64 : Cond.methodLink R_Se 64 y_Ex_onward ∈ wsU := wU_t 487 (by decide +kernel) (by decide +kernel)
theorem m_Se_71 : Cond.methodLink R_Se 71 y_Se_markIfNew ∈ wsU := wU_t 488 (by decide +kernel) (by decide +kernel)
theorem im_Se_markIfNew : Cond.instanceMethod y_Se_markIfNew ∈ wsU := wU_t 490 (by decide +kernel) (by decide +kernel)
set_option maxRecDepth 20000 in
theorem cd_Se_markIfNew : Cond.code y_Se_markIfNew c_Se_markIfNew 7 (some .boolean) ∈ wsU := wU_t 491 (rfl) (by decide +kernel)
theorem m_Lw_87 : Cond.methodLink R_Lw 87 y_Lw_contains ∈ wsU := wU_t 492 (by decide +kernel) (by decide +kernel)
theorem sm_Lw_contains : Cond.static y_Lw_contains ∈ wsU := wU_t 493 (by decide +kernel) (by decide +kernel)
theorem m_Lw_29 : Cond.methodLink R_Lw 29 y_Ws_contains ∈ wsU := wU_t 495 (by decide +kernel) (by decide +kernel)
theorem im_Ws_contains : Cond.instanceMethod y_Ws_contains ∈ wsU := wU_t 496 (by decide +kernel) (by decide +kernel)
theorem se_Ws_contains : Cond.selects R_Ws y_Ws_contains y_Ws_contains ∈ wsU := wU_t 497 (by decide +kernel) (by decide +kernel)
set_option maxRecDepth 20000 in
theorem cd_Ws_contains : Cond.code y_Ws_contains c_Ws_contains 3 (some .boolean) ∈ wsU := wU_t 498 (rfl) (by decide +kernel)
theorem m_Lw_90 : Cond.methodLink R_Lw 90 y_Lw_least ∈ wsU := wU_t 499 (by decide +kernel) (by decide +kernel)
theorem sm_Lw_least : Cond.static y_Lw_least ∈ wsU := wU_t 500 (by decide +kernel) (by decide +kernel)
theorem m_Lw_33 : Cond.methodLink R_Lw 33 y_Ws_least ∈ wsU := wU_t 502 (by decide +kernel) (by decide +kernel)
theorem im_Ws_least : Cond.instanceMethod y_Ws_least ∈ wsU := wU_t 503 (by decide +kernel) (by decide +kernel)
theorem se_Ws_least : Cond.selects R_Ws y_Ws_least y_Ws_least ∈ wsU := wU_t 504 (by decide +kernel) (by decide +kernel)
set_option maxRecDepth 20000 in
theorem cd_Ws_least : Cond.code y_Ws_least c_Ws_least 3 (some .int) ∈ wsU := wU_t 505 (rfl) (by decide +kernel)
theorem m_Lw_93 : Cond.methodLink R_Lw 93 y_Lw_count ∈ wsU := wU_t 506 (by decide +kernel) (by decide +kernel)
theorem sm_Lw_count : Cond.static y_Lw_count ∈ wsU := wU_t 507 (by decide +kernel) (by decide +kernel)
theorem m_Lw_36 : Cond.methodLink R_Lw 36 y_Ws_count ∈ wsU := wU_t 509 (by decide +kernel) (by decide +kernel)
theorem im_Ws_count : Cond.instanceMethod y_Ws_count ∈ wsU := wU_t 510 (by decide +kernel) (by decide +kernel)
theorem se_Ws_count : Cond.selects R_Ws y_Ws_count y_Ws_count ∈ wsU := wU_t 511 (by decide +kernel) (by decide +kernel)
set_option maxRecDepth 20000 in
theorem cd_Ws_count : Cond.code y_Ws_count c_Ws_count 3 (some .long) ∈ wsU := wU_t 512 (rfl) (by decide +kernel)
theorem m_Ws_123 : Cond.methodLink R_Ws 123 y_Ws_checkLength ∈ wsU := wU_t 513 (by decide +kernel) (by decide +kernel)
theorem sm_Ws_checkLength : Cond.static y_Ws_checkLength ∈ wsU := wU_t 514 (by decide +kernel) (by decide +kernel)
set_option maxRecDepth 20000 in
theorem cd_Ws_checkLength : Cond.code y_Ws_checkLength c_Ws_checkLength 1 none ∈ wsU := wU_t 515 (rfl) (by decide +kernel)
theorem m_Ws_126 : Cond.methodLink R_Ws 126 y_Ma_build ∈ wsU := wU_t 517 (by decide +kernel) (by decide +kernel)
theorem im_Ma_build : Cond.instanceMethod y_Ma_build ∈ wsU := wU_t 518 (by decide +kernel) (by decide +kernel)
theorem se_Ma_build : Cond.selects R_Ma y_Ma_build y_Ma_build ∈ wsU := wU_t 519 (by decide +kernel) (by decide +kernel)
set_option maxRecDepth 20000 in
theorem cd_Ma_build : Cond.code y_Ma_build c_Ma_build 6 none ∈ wsU := wU_t 520 (rfl) (by decide +kernel)
theorem m_Ma_40 : Cond.methodLink R_Ma 40 y_Ar_fillI ∈ wsU := wU_t 521 (by decide +kernel) (by decide +kernel)
theorem m_Ma_46 : Cond.methodLink R_Ma 46 y_Ma_numberOf ∈ wsU := wU_t 522 (by decide +kernel) (by decide +kernel)
theorem im_Ma_numberOf : Cond.instanceMethod y_Ma_numberOf ∈ wsU := wU_t 524 (by decide +kernel) (by decide +kernel)
set_option maxRecDepth 20000 in
theorem cd_Ma_numberOf : Cond.code y_Ma_numberOf c_Ma_numberOf 3 (some .int) ∈ wsU := wU_t 525 (rfl) (by decide +kernel)
theorem m_Ma_57 : Cond.methodLink R_Ma 57 y_Ex_accepts ∈ wsU := wU_t 526 (by decide +kernel) (by decide +kernel)
theorem m_Ma_50 : Cond.methodLink R_Ma 50 y_Ex_onward ∈ wsU := wU_t 527 (by decide +kernel) (by decide +kernel)
theorem m_Ws_130 : Cond.methodLink R_Ws 130 y_Ma_tally ∈ wsU := wU_t 528 (by decide +kernel) (by decide +kernel)
theorem im_Ma_tally : Cond.instanceMethod y_Ma_tally ∈ wsU := wU_t 529 (by decide +kernel) (by decide +kernel)
theorem se_Ma_tally : Cond.selects R_Ma y_Ma_tally y_Ma_tally ∈ wsU := wU_t 530 (by decide +kernel) (by decide +kernel)
set_option maxRecDepth 20000 in
theorem cd_Ma_tally : Cond.code y_Ma_tally c_Ma_tally 4 (some .long) ∈ wsU := wU_t 531 (rfl) (by decide +kernel)
theorem m_Ma_61 : Cond.methodLink R_Ma 61 y_Ma_tallyOver ∈ wsU := wU_t 532 (by decide +kernel) (by decide +kernel)
theorem im_Ma_tallyOver : Cond.instanceMethod y_Ma_tallyOver ∈ wsU := wU_t 534 (by decide +kernel) (by decide +kernel)
set_option maxRecDepth 20000 in
theorem cd_Ma_tallyOver : Cond.code y_Ma_tallyOver c_Ma_tallyOver 6 (some .long) ∈ wsU := wU_t 535 (rfl) (by decide +kernel)
theorem m_Lw_96 : Cond.methodLink R_Lw 96 y_Lw_word ∈ wsU := wU_t 536 (by decide +kernel) (by decide +kernel)
theorem sm_Lw_word : Cond.static y_Lw_word ∈ wsU := wU_t 537 (by decide +kernel) (by decide +kernel)
theorem m_Lw_40 : Cond.methodLink R_Lw 40 y_Ws_word ∈ wsU := wU_t 539 (by decide +kernel) (by decide +kernel)
theorem im_Ws_word : Cond.instanceMethod y_Ws_word ∈ wsU := wU_t 540 (by decide +kernel) (by decide +kernel)
theorem se_Ws_word : Cond.selects R_Ws y_Ws_word y_Ws_word ∈ wsU := wU_t 541 (by decide +kernel) (by decide +kernel)
set_option maxRecDepth 20000 in
theorem cd_Ws_word : Cond.code y_Ws_word c_Ws_word 5 (some .boolean) ∈ wsU := wU_t 542 (rfl) (by decide +kernel)
theorem m_Ws_136 : Cond.methodLink R_Ws 136 y_Wo_resize ∈ wsU := wU_t 544 (by decide +kernel) (by decide +kernel)
theorem m_Ws_139 : Cond.methodLink R_Ws 139 y_Ma_spell ∈ wsU := wU_t 545 (by decide +kernel) (by decide +kernel)
theorem im_Ma_spell : Cond.instanceMethod y_Ma_spell ∈ wsU := wU_t 546 (by decide +kernel) (by decide +kernel)
theorem se_Ma_spell : Cond.selects R_Ma y_Ma_spell y_Ma_spell ∈ wsU := wU_t 547 (by decide +kernel) (by decide +kernel)
set_option maxRecDepth 20000 in
theorem cd_Ma_spell : Cond.code y_Ma_spell c_Ma_spell 12 none ∈ wsU := wU_t 548 (rfl) (by decide +kernel)
theorem m_Ma_65 : Cond.methodLink R_Ma 65 y_Wo_resize ∈ wsU := wU_t 549 (by decide +kernel) (by decide +kernel)
theorem m_Lw_100 : Cond.methodLink R_Lw 100 y_Lw_states ∈ wsU := wU_t 550 (by decide +kernel) (by decide +kernel)
theorem sm_Lw_states : Cond.static y_Lw_states ∈ wsU := wU_t 551 (by decide +kernel) (by decide +kernel)
theorem m_Lw_44 : Cond.methodLink R_Lw 44 y_Ws_states ∈ wsU := wU_t 553 (by decide +kernel) (by decide +kernel)
theorem im_Ws_states : Cond.instanceMethod y_Ws_states ∈ wsU := wU_t 554 (by decide +kernel) (by decide +kernel)
theorem se_Ws_states : Cond.selects R_Ws y_Ws_states y_Ws_states ∈ wsU := wU_t 555 (by decide +kernel) (by decide +kernel)
set_option maxRecDepth 20000 in
theorem cd_Ws_states : Cond.code y_Ws_states c_Ws_states 2 (some .int) ∈ wsU := wU_t 556 (rfl) (by decide +kernel)
theorem m_Ws_143 : Cond.methodLink R_Ws 143 y_Ma_groups ∈ wsU := wU_t 557 (by decide +kernel) (by decide +kernel)
theorem im_Ma_groups : Cond.instanceMethod y_Ma_groups ∈ wsU := wU_t 558 (by decide +kernel) (by decide +kernel)
theorem se_Ma_groups : Cond.selects R_Ma y_Ma_groups y_Ma_groups ∈ wsU := wU_t 559 (by decide +kernel) (by decide +kernel)
set_option maxRecDepth 20000 in
theorem cd_Ma_groups : Cond.code y_Ma_groups c_Ma_groups 4 (some .int) ∈ wsU := wU_t 560 (rfl) (by decide +kernel)
theorem m_Ma_74 : Cond.methodLink R_Ma 74 arraycopyName ∈ wsU := wU_t 561 (by decide +kernel) (by decide +kernel)
theorem m_Ma_80 : Cond.methodLink R_Ma 80 y_Ma_refine ∈ wsU := wU_t 562 (by decide +kernel) (by decide +kernel)
theorem im_Ma_refine : Cond.instanceMethod y_Ma_refine ∈ wsU := wU_t 564 (by decide +kernel) (by decide +kernel)
set_option maxRecDepth 20000 in
theorem cd_Ma_refine : Cond.code y_Ma_refine c_Ma_refine 4 (some .int) ∈ wsU := wU_t 565 (rfl) (by decide +kernel)
theorem m_Ma_84 : Cond.methodLink R_Ma 84 y_Ma_firstLike ∈ wsU := wU_t 566 (by decide +kernel) (by decide +kernel)
theorem im_Ma_firstLike : Cond.instanceMethod y_Ma_firstLike ∈ wsU := wU_t 568 (by decide +kernel) (by decide +kernel)
set_option maxRecDepth 20000 in
theorem cd_Ma_firstLike : Cond.code y_Ma_firstLike c_Ma_firstLike 3 (some .int) ∈ wsU := wU_t 569 (rfl) (by decide +kernel)
theorem m_Ma_87 : Cond.methodLink R_Ma 87 y_Ma_alike ∈ wsU := wU_t 570 (by decide +kernel) (by decide +kernel)
theorem im_Ma_alike : Cond.instanceMethod y_Ma_alike ∈ wsU := wU_t 572 (by decide +kernel) (by decide +kernel)
set_option maxRecDepth 20000 in
theorem cd_Ma_alike : Cond.code y_Ma_alike c_Ma_alike 7 (some .boolean) ∈ wsU := wU_t 573 (rfl) (by decide +kernel)
theorem m_Lw_103 : Cond.methodLink R_Lw 103 y_Lw_turn ∈ wsU := wU_t 574 (by decide +kernel) (by decide +kernel)
theorem sm_Lw_turn : Cond.static y_Lw_turn ∈ wsU := wU_t 575 (by decide +kernel) (by decide +kernel)
theorem m_Lw_47 : Cond.methodLink R_Lw 47 y_Ws_turn ∈ wsU := wU_t 577 (by decide +kernel) (by decide +kernel)
theorem im_Ws_turn : Cond.instanceMethod y_Ws_turn ∈ wsU := wU_t 578 (by decide +kernel) (by decide +kernel)
theorem se_Ws_turn : Cond.selects R_Ws y_Ws_turn y_Ws_turn ∈ wsU := wU_t 579 (by decide +kernel) (by decide +kernel)
set_option maxRecDepth 20000 in
theorem cd_Ws_turn : Cond.code y_Ws_turn c_Ws_turn 3 none ∈ wsU := wU_t 580 (rfl) (by decide +kernel)
theorem m_Ws_146 : Cond.methodLink R_Ws 146 y_Ex_becomeReverse ∈ wsU := wU_t 581 (by decide +kernel) (by decide +kernel)
theorem im_Ex_becomeReverse : Cond.instanceMethod y_Ex_becomeReverse ∈ wsU := wU_t 582 (by decide +kernel) (by decide +kernel)
theorem se_Ex_becomeReverse : Cond.selects R_Ex y_Ex_becomeReverse y_Ex_becomeReverse ∈ wsU := wU_t 583 (by decide +kernel) (by decide +kernel)
set_option maxRecDepth 20000 in
theorem cd_Ex_becomeReverse : Cond.code y_Ex_becomeReverse c_Ex_becomeReverse 3 none ∈ wsU := wU_t 584 (rfl) (by decide +kernel)
theorem m_Ex_47 : Cond.methodLink R_Ex 47 y_Ex_clear ∈ wsU := wU_t 585 (by decide +kernel) (by decide +kernel)
theorem m_Ex_50 : Cond.methodLink R_Ex 50 y_Ex_link ∈ wsU := wU_t 586 (by decide +kernel) (by decide +kernel)
theorem m_Ex_54 : Cond.methodLink R_Ex 54 arraycopyName ∈ wsU := wU_t 587 (by decide +kernel) (by decide +kernel)
theorem m_Lw_111 : Cond.methodLink R_Lw 111 y_Lw_letter ∈ wsU := wU_t 588 (by decide +kernel) (by decide +kernel)
theorem sm_Lw_letter : Cond.static y_Lw_letter ∈ wsU := wU_t 589 (by decide +kernel) (by decide +kernel)
theorem k_Lw_54 : Cond.classLink R_Lw 54 "java/lang/IndexOutOfBoundsException" ∈ wsU := wU_t 591 (by decide +kernel) (by decide +kernel)
theorem m_Lw_51 : Cond.methodLink R_Lw 51 y_Ws_letter ∈ wsU := wU_t 592 (by decide +kernel) (by decide +kernel)
theorem im_Ws_letter : Cond.instanceMethod y_Ws_letter ∈ wsU := wU_t 593 (by decide +kernel) (by decide +kernel)
theorem se_Ws_letter : Cond.selects R_Ws y_Ws_letter y_Ws_letter ∈ wsU := wU_t 594 (by decide +kernel) (by decide +kernel)
set_option maxRecDepth 20000 in
theorem cd_Ws_letter : Cond.code y_Ws_letter c_Ws_letter 2 (some .int) ∈ wsU := wU_t 595 (rfl) (by decide +kernel)
theorem k_Ws_149 : Cond.classLink R_Ws 149 "java/lang/IndexOutOfBoundsException" ∈ wsU := wU_t 596 (by decide +kernel) (by decide +kernel)
theorem m_Ws_153 : Cond.methodLink R_Ws 153 ⟨"java/lang/IndexOutOfBoundsException", "<init>", "(Ljava/lang/String;)V"⟩ ∈ wsU := wU_t 606 (by decide +kernel) (by decide +kernel)
theorem k_Lw_57 : Cond.classLink R_Lw 57 R_Md ∈ wsU := wU_t 612 (by decide +kernel) (by decide +kernel)
theorem it_Md : Cond.instantiable R_Md 31 ∈ wsU := wU_t 613 (by decide +kernel) (by decide +kernel)
theorem m_Lw_59 : Cond.methodLink R_Lw 59 y_Md_init ∈ wsU := wU_t 614 (by decide +kernel) (by decide +kernel)
theorem im_Md_init : Cond.instanceMethod y_Md_init ∈ wsU := wU_t 615 (by decide +kernel) (by decide +kernel)
set_option maxRecDepth 20000 in
theorem cd_Md_init : Cond.code y_Md_init c_Md_init 1 none ∈ wsU := wU_t 616 (rfl) (by decide +kernel)
theorem m_Md_3 : Cond.methodLink R_Md 3 objectInit ∈ wsU := wU_t 617 (by decide +kernel) (by decide +kernel)
theorem co_Md_54 : Cond.constant R_Md 54 66049 ∈ wsU := wU_t 618 (by decide +kernel) (by decide +kernel)
theorem f_Md_83 : Cond.fieldLink R_Md 83 "WordSetsModel" "thrown" "I" ∈ wsU := wU_t 619 (by decide +kernel) (by decide +kernel)
theorem f_Md_90 : Cond.fieldLink R_Md 90 "WordSetsModel" "taped" "I" ∈ wsU := wU_t 620 (by decide +kernel) (by decide +kernel)
theorem f_Md_9 : Cond.fieldLink R_Md 9 "WordSetsModel" "tape" "[I" ∈ wsU := wU_t 621 (by decide +kernel) (by decide +kernel)
theorem f_Md_13 : Cond.fieldLink R_Md 13 "WordSetsModel" "place" "I" ∈ wsU := wU_t 622 (by decide +kernel) (by decide +kernel)
theorem f_Md_17 : Cond.fieldLink R_Md 17 "WordSetsModel" "many" "[I" ∈ wsU := wU_t 623 (by decide +kernel) (by decide +kernel)
theorem f_Md_20 : Cond.fieldLink R_Md 20 "WordSetsModel" "letter" "[I" ∈ wsU := wU_t 624 (by decide +kernel) (by decide +kernel)
theorem f_Md_23 : Cond.fieldLink R_Md 23 "WordSetsModel" "first" "[I" ∈ wsU := wU_t 625 (by decide +kernel) (by decide +kernel)
theorem f_Md_26 : Cond.fieldLink R_Md 26 "WordSetsModel" "last" "[I" ∈ wsU := wU_t 626 (by decide +kernel) (by decide +kernel)
theorem f_Md_29 : Cond.fieldLink R_Md 29 "WordSetsModel" "follow" "[I" ∈ wsU := wU_t 627 (by decide +kernel) (by decide +kernel)
theorem f_Md_32 : Cond.fieldLink R_Md 32 "WordSetsModel" "empty" "[Z" ∈ wsU := wU_t 628 (by decide +kernel) (by decide +kernel)
theorem f_Md_154 : Cond.fieldLink R_Md 154 "WordSetsModel" "size" "I" ∈ wsU := wU_t 629 (by decide +kernel) (by decide +kernel)
theorem f_Md_36 : Cond.fieldLink R_Md 36 "WordSetsModel" "word" "[I" ∈ wsU := wU_t 630 (by decide +kernel) (by decide +kernel)
theorem f_Md_93 : Cond.fieldLink R_Md 93 "WordSetsModel" "at" "I" ∈ wsU := wU_t 631 (by decide +kernel) (by decide +kernel)
theorem f_Md_99 : Cond.fieldLink R_Md 99 "WordSetsModel" "wrong" "I" ∈ wsU := wU_t 632 (by decide +kernel) (by decide +kernel)
theorem f_Md_118 : Cond.fieldLink R_Md 118 "WordSetsModel" "depth" "I" ∈ wsU := wU_t 633 (by decide +kernel) (by decide +kernel)
theorem f_Md_96 : Cond.fieldLink R_Md 96 "WordSetsModel" "parts" "I" ∈ wsU := wU_t 634 (by decide +kernel) (by decide +kernel)
theorem f_Md_39 : Cond.fieldLink R_Md 39 "WordSetsModel" "partEmpty" "[Z" ∈ wsU := wU_t 635 (by decide +kernel) (by decide +kernel)
theorem f_Md_42 : Cond.fieldLink R_Md 42 "WordSetsModel" "partFirst" "[I" ∈ wsU := wU_t 636 (by decide +kernel) (by decide +kernel)
theorem f_Md_45 : Cond.fieldLink R_Md 45 "WordSetsModel" "partLast" "[I" ∈ wsU := wU_t 637 (by decide +kernel) (by decide +kernel)
theorem f_Md_102 : Cond.fieldLink R_Md 102 "WordSetsModel" "letters" "I" ∈ wsU := wU_t 638 (by decide +kernel) (by decide +kernel)
theorem f_Md_48 : Cond.fieldLink R_Md 48 "WordSetsModel" "newLetter" "[I" ∈ wsU := wU_t 639 (by decide +kernel) (by decide +kernel)
theorem f_Md_51 : Cond.fieldLink R_Md 51 "WordSetsModel" "newFollow" "[I" ∈ wsU := wU_t 640 (by decide +kernel) (by decide +kernel)
theorem f_Md_55 : Cond.fieldLink R_Md 55 "WordSetsModel" "found" "[I" ∈ wsU := wU_t 641 (by decide +kernel) (by decide +kernel)
theorem f_Md_58 : Cond.fieldLink R_Md 58 "WordSetsModel" "from" "[I" ∈ wsU := wU_t 642 (by decide +kernel) (by decide +kernel)
theorem f_Md_61 : Cond.fieldLink R_Md 61 "WordSetsModel" "by" "[I" ∈ wsU := wU_t 643 (by decide +kernel) (by decide +kernel)
theorem f_Md_64 : Cond.fieldLink R_Md 64 "WordSetsModel" "known" "[Z" ∈ wsU := wU_t 644 (by decide +kernel) (by decide +kernel)
theorem f_Md_67 : Cond.fieldLink R_Md 67 "WordSetsModel" "ways" "[J" ∈ wsU := wU_t 645 (by decide +kernel) (by decide +kernel)
theorem f_Md_71 : Cond.fieldLink R_Md 71 "WordSetsModel" "part" "[I" ∈ wsU := wU_t 646 (by decide +kernel) (by decide +kernel)
theorem f_Md_74 : Cond.fieldLink R_Md 74 "WordSetsModel" "newPart" "[I" ∈ wsU := wU_t 647 (by decide +kernel) (by decide +kernel)
theorem f_Md_77 : Cond.fieldLink R_Md 77 "WordSetsModel" "sumOf" "[I" ∈ wsU := wU_t 648 (by decide +kernel) (by decide +kernel)
theorem f_Md_80 : Cond.fieldLink R_Md 80 "WordSetsModel" "rowOf" "[I" ∈ wsU := wU_t 649 (by decide +kernel) (by decide +kernel)
theorem ac_boolean : Cond.arrayClass .boolean ∈ wsU := wU_t 713 (by decide +kernel) (by decide +kernel)
theorem m_Lw_68 : Cond.methodLink R_Lw 68 y_Md_thrown ∈ wsU := wU_t 714 (by decide +kernel) (by decide +kernel)
theorem im_Md_thrown : Cond.instanceMethod y_Md_thrown ∈ wsU := wU_t 715 (by decide +kernel) (by decide +kernel)
theorem se_Md_thrown : Cond.selects R_Md y_Md_thrown y_Md_thrown ∈ wsU := wU_t 716 (by decide +kernel) (by decide +kernel)
set_option maxRecDepth 20000 in
theorem cd_Md_thrown : Cond.code y_Md_thrown c_Md_thrown 1 (some .int) ∈ wsU := wU_t 717 (rfl) (by decide +kernel)
theorem m_Lw_67 : Cond.methodLink R_Lw 67 y_Md_feed ∈ wsU := wU_t 718 (by decide +kernel) (by decide +kernel)
theorem im_Md_feed : Cond.instanceMethod y_Md_feed ∈ wsU := wU_t 719 (by decide +kernel) (by decide +kernel)
theorem se_Md_feed : Cond.selects R_Md y_Md_feed y_Md_feed ∈ wsU := wU_t 720 (by decide +kernel) (by decide +kernel)
set_option maxRecDepth 20000 in
theorem cd_Md_feed : Cond.code y_Md_feed c_Md_feed 5 (some .int) ∈ wsU := wU_t 721 (rfl) (by decide +kernel)
theorem m_Md_86 : Cond.methodLink R_Md 86 y_Md_in ∈ wsU := wU_t 722 (by decide +kernel) (by decide +kernel)
theorem sm_Md_in : Cond.static y_Md_in ∈ wsU := wU_t 723 (by decide +kernel) (by decide +kernel)
set_option maxRecDepth 20000 in
theorem cd_Md_in : Cond.code y_Md_in c_Md_in 3 (some .boolean) ∈ wsU := wU_t 724 (rfl) (by decide +kernel)
theorem m_Lw_75 : Cond.methodLink R_Lw 75 y_Md_read ∈ wsU := wU_t 725 (by decide +kernel) (by decide +kernel)
theorem im_Md_read : Cond.instanceMethod y_Md_read ∈ wsU := wU_t 726 (by decide +kernel) (by decide +kernel)
theorem se_Md_read : Cond.selects R_Md y_Md_read y_Md_read ∈ wsU := wU_t 727 (by decide +kernel) (by decide +kernel)
set_option maxRecDepth 20000 in
theorem cd_Md_read : Cond.code y_Md_read c_Md_read 4 (some .int) ∈ wsU := wU_t 728 (rfl) (by decide +kernel)
theorem m_Md_135 : Cond.methodLink R_Md 135 y_Md_isSlot ∈ wsU := wU_t 729 (by decide +kernel) (by decide +kernel)
theorem sm_Md_isSlot : Cond.static y_Md_isSlot ∈ wsU := wU_t 730 (by decide +kernel) (by decide +kernel)
set_option maxRecDepth 20000 in
theorem cd_Md_isSlot : Cond.code y_Md_isSlot c_Md_isSlot 1 (some .boolean) ∈ wsU := wU_t 731 (rfl) (by decide +kernel)
theorem m_Md_139 : Cond.methodLink R_Md 139 y_Md_sum ∈ wsU := wU_t 732 (by decide +kernel) (by decide +kernel)
theorem im_Md_sum : Cond.instanceMethod y_Md_sum ∈ wsU := wU_t 734 (by decide +kernel) (by decide +kernel)
set_option maxRecDepth 20000 in
theorem cd_Md_sum : Cond.code y_Md_sum c_Md_sum 4 (some .int) ∈ wsU := wU_t 735 (rfl) (by decide +kernel)
theorem m_Md_110 : Cond.methodLink R_Md 110 y_Md_see ∈ wsU := wU_t 736 (by decide +kernel) (by decide +kernel)
theorem im_Md_see : Cond.instanceMethod y_Md_see ∈ wsU := wU_t 738 (by decide +kernel) (by decide +kernel)
set_option maxRecDepth 20000 in
theorem cd_Md_see : Cond.code y_Md_see c_Md_see 1 (some .int) ∈ wsU := wU_t 739 (rfl) (by decide +kernel)
theorem m_Md_121 : Cond.methodLink R_Md 121 y_Md_atom ∈ wsU := wU_t 740 (by decide +kernel) (by decide +kernel)
theorem im_Md_atom : Cond.instanceMethod y_Md_atom ∈ wsU := wU_t 742 (by decide +kernel) (by decide +kernel)
set_option maxRecDepth 20000 in
theorem cd_Md_atom : Cond.code y_Md_atom c_Md_atom 2 (some .int) ∈ wsU := wU_t 743 (rfl) (by decide +kernel)
theorem m_Md_105 : Cond.methodLink R_Md 105 y_Md_wrong ∈ wsU := wU_t 744 (by decide +kernel) (by decide +kernel)
theorem im_Md_wrong : Cond.instanceMethod y_Md_wrong ∈ wsU := wU_t 746 (by decide +kernel) (by decide +kernel)
set_option maxRecDepth 20000 in
theorem cd_Md_wrong : Cond.code y_Md_wrong c_Md_wrong 1 none ∈ wsU := wU_t 747 (rfl) (by decide +kernel)
theorem m_Md_107 : Cond.methodLink R_Md 107 y_Md_part ∈ wsU := wU_t 748 (by decide +kernel) (by decide +kernel)
theorem im_Md_part : Cond.instanceMethod y_Md_part ∈ wsU := wU_t 750 (by decide +kernel) (by decide +kernel)
set_option maxRecDepth 20000 in
theorem cd_Md_part : Cond.code y_Md_part c_Md_part 4 (some .int) ∈ wsU := wU_t 751 (rfl) (by decide +kernel)
theorem m_Md_125 : Cond.methodLink R_Md 125 y_Md_repeated ∈ wsU := wU_t 752 (by decide +kernel) (by decide +kernel)
theorem im_Md_repeated : Cond.instanceMethod y_Md_repeated ∈ wsU := wU_t 754 (by decide +kernel) (by decide +kernel)
set_option maxRecDepth 20000 in
theorem cd_Md_repeated : Cond.code y_Md_repeated c_Md_repeated 3 (some .int) ∈ wsU := wU_t 755 (rfl) (by decide +kernel)
theorem m_Md_114 : Cond.methodLink R_Md 114 y_Md_follows ∈ wsU := wU_t 756 (by decide +kernel) (by decide +kernel)
theorem im_Md_follows : Cond.instanceMethod y_Md_follows ∈ wsU := wU_t 758 (by decide +kernel) (by decide +kernel)
set_option maxRecDepth 20000 in
theorem cd_Md_follows : Cond.code y_Md_follows c_Md_follows 4 none ∈ wsU := wU_t 759 (rfl) (by decide +kernel)
theorem m_Md_128 : Cond.methodLink R_Md 128 y_Md_behind ∈ wsU := wU_t 760 (by decide +kernel) (by decide +kernel)
theorem im_Md_behind : Cond.instanceMethod y_Md_behind ∈ wsU := wU_t 762 (by decide +kernel) (by decide +kernel)
set_option maxRecDepth 20000 in
theorem cd_Md_behind : Cond.code y_Md_behind c_Md_behind 3 (some .int) ∈ wsU := wU_t 763 (rfl) (by decide +kernel)
theorem m_Md_132 : Cond.methodLink R_Md 132 y_Md_either ∈ wsU := wU_t 764 (by decide +kernel) (by decide +kernel)
theorem im_Md_either : Cond.instanceMethod y_Md_either ∈ wsU := wU_t 766 (by decide +kernel) (by decide +kernel)
set_option maxRecDepth 20000 in
theorem cd_Md_either : Cond.code y_Md_either c_Md_either 3 (some .int) ∈ wsU := wU_t 767 (rfl) (by decide +kernel)
theorem m_Md_142 : Cond.methodLink R_Md 142 y_Md_says ∈ wsU := wU_t 768 (by decide +kernel) (by decide +kernel)
theorem im_Md_says : Cond.instanceMethod y_Md_says ∈ wsU := wU_t 770 (by decide +kernel) (by decide +kernel)
set_option maxRecDepth 20000 in
theorem cd_Md_says : Cond.code y_Md_says c_Md_says 2 (some .boolean) ∈ wsU := wU_t 771 (rfl) (by decide +kernel)
theorem m_Lw_79 : Cond.methodLink R_Lw 79 y_Md_place ∈ wsU := wU_t 772 (by decide +kernel) (by decide +kernel)
theorem im_Md_place : Cond.instanceMethod y_Md_place ∈ wsU := wU_t 773 (by decide +kernel) (by decide +kernel)
theorem se_Md_place : Cond.selects R_Md y_Md_place y_Md_place ∈ wsU := wU_t 774 (by decide +kernel) (by decide +kernel)
set_option maxRecDepth 20000 in
theorem cd_Md_place : Cond.code y_Md_place c_Md_place 1 (some .int) ∈ wsU := wU_t 775 (rfl) (by decide +kernel)
theorem m_Lw_82 : Cond.methodLink R_Lw 82 y_Md_has ∈ wsU := wU_t 776 (by decide +kernel) (by decide +kernel)
theorem im_Md_has : Cond.instanceMethod y_Md_has ∈ wsU := wU_t 777 (by decide +kernel) (by decide +kernel)
theorem se_Md_has : Cond.selects R_Md y_Md_has y_Md_has ∈ wsU := wU_t 778 (by decide +kernel) (by decide +kernel)
set_option maxRecDepth 20000 in
theorem cd_Md_has : Cond.code y_Md_has c_Md_has 5 (some .boolean) ∈ wsU := wU_t 779 (rfl) (by decide +kernel)
theorem m_Md_146 : Cond.methodLink R_Md 146 y_Md_step ∈ wsU := wU_t 780 (by decide +kernel) (by decide +kernel)
theorem im_Md_step : Cond.instanceMethod y_Md_step ∈ wsU := wU_t 782 (by decide +kernel) (by decide +kernel)
set_option maxRecDepth 20000 in
theorem cd_Md_step : Cond.code y_Md_step c_Md_step 7 (some .int) ∈ wsU := wU_t 783 (rfl) (by decide +kernel)
theorem m_Md_150 : Cond.methodLink R_Md 150 y_Md_tells ∈ wsU := wU_t 784 (by decide +kernel) (by decide +kernel)
theorem im_Md_tells : Cond.instanceMethod y_Md_tells ∈ wsU := wU_t 786 (by decide +kernel) (by decide +kernel)
set_option maxRecDepth 20000 in
theorem cd_Md_tells : Cond.code y_Md_tells c_Md_tells 3 (some .boolean) ∈ wsU := wU_t 787 (rfl) (by decide +kernel)
theorem m_Lw_86 : Cond.methodLink R_Lw 86 y_Md_compare ∈ wsU := wU_t 788 (by decide +kernel) (by decide +kernel)
theorem im_Md_compare : Cond.instanceMethod y_Md_compare ∈ wsU := wU_t 789 (by decide +kernel) (by decide +kernel)
theorem se_Md_compare : Cond.selects R_Md y_Md_compare y_Md_compare ∈ wsU := wU_t 790 (by decide +kernel) (by decide +kernel)
set_option maxRecDepth 20000 in
theorem cd_Md_compare : Cond.code y_Md_compare c_Md_compare 4 (some .int) ∈ wsU := wU_t 791 (rfl) (by decide +kernel)
theorem m_Md_158 : Cond.methodLink R_Md 158 y_Md_seek ∈ wsU := wU_t 792 (by decide +kernel) (by decide +kernel)
theorem im_Md_seek : Cond.instanceMethod y_Md_seek ∈ wsU := wU_t 794 (by decide +kernel) (by decide +kernel)
set_option maxRecDepth 20000 in
theorem cd_Md_seek : Cond.code y_Md_seek c_Md_seek 12 (some .int) ∈ wsU := wU_t 795 (rfl) (by decide +kernel)
theorem co_Md_157 : Cond.constant R_Md 157 66048 ∈ wsU := wU_t 796 (by decide +kernel) (by decide +kernel)
theorem m_Md_161 : Cond.methodLink R_Md 161 y_Md_spell ∈ wsU := wU_t 797 (by decide +kernel) (by decide +kernel)
theorem im_Md_spell : Cond.instanceMethod y_Md_spell ∈ wsU := wU_t 799 (by decide +kernel) (by decide +kernel)
set_option maxRecDepth 20000 in
theorem cd_Md_spell : Cond.code y_Md_spell c_Md_spell 4 none ∈ wsU := wU_t 800 (rfl) (by decide +kernel)
theorem m_Lw_89 : Cond.methodLink R_Lw 89 y_Md_contains ∈ wsU := wU_t 801 (by decide +kernel) (by decide +kernel)
theorem im_Md_contains : Cond.instanceMethod y_Md_contains ∈ wsU := wU_t 802 (by decide +kernel) (by decide +kernel)
theorem se_Md_contains : Cond.selects R_Md y_Md_contains y_Md_contains ∈ wsU := wU_t 803 (by decide +kernel) (by decide +kernel)
set_option maxRecDepth 20000 in
theorem cd_Md_contains : Cond.code y_Md_contains c_Md_contains 4 (some .boolean) ∈ wsU := wU_t 804 (rfl) (by decide +kernel)
theorem m_Lw_92 : Cond.methodLink R_Lw 92 y_Md_least ∈ wsU := wU_t 805 (by decide +kernel) (by decide +kernel)
theorem im_Md_least : Cond.instanceMethod y_Md_least ∈ wsU := wU_t 806 (by decide +kernel) (by decide +kernel)
theorem se_Md_least : Cond.selects R_Md y_Md_least y_Md_least ∈ wsU := wU_t 807 (by decide +kernel) (by decide +kernel)
set_option maxRecDepth 20000 in
theorem cd_Md_least : Cond.code y_Md_least c_Md_least 3 (some .int) ∈ wsU := wU_t 808 (rfl) (by decide +kernel)
theorem m_Lw_95 : Cond.methodLink R_Lw 95 y_Md_count ∈ wsU := wU_t 809 (by decide +kernel) (by decide +kernel)
theorem im_Md_count : Cond.instanceMethod y_Md_count ∈ wsU := wU_t 810 (by decide +kernel) (by decide +kernel)
theorem se_Md_count : Cond.selects R_Md y_Md_count y_Md_count ∈ wsU := wU_t 811 (by decide +kernel) (by decide +kernel)
set_option maxRecDepth 20000 in
theorem cd_Md_count : Cond.code y_Md_count c_Md_count 3 (some .long) ∈ wsU := wU_t 812 (rfl) (by decide +kernel)
theorem m_Md_165 : Cond.methodLink R_Md 165 y_Md_reckon ∈ wsU := wU_t 813 (by decide +kernel) (by decide +kernel)
theorem im_Md_reckon : Cond.instanceMethod y_Md_reckon ∈ wsU := wU_t 815 (by decide +kernel) (by decide +kernel)
set_option maxRecDepth 20000 in
theorem cd_Md_reckon : Cond.code y_Md_reckon c_Md_reckon 8 none ∈ wsU := wU_t 816 (rfl) (by decide +kernel)
theorem m_Lw_99 : Cond.methodLink R_Lw 99 y_Md_word ∈ wsU := wU_t 817 (by decide +kernel) (by decide +kernel)
theorem im_Md_word : Cond.instanceMethod y_Md_word ∈ wsU := wU_t 818 (by decide +kernel) (by decide +kernel)
theorem se_Md_word : Cond.selects R_Md y_Md_word y_Md_word ∈ wsU := wU_t 819 (by decide +kernel) (by decide +kernel)
set_option maxRecDepth 20000 in
theorem cd_Md_word : Cond.code y_Md_word c_Md_word 10 (some .boolean) ∈ wsU := wU_t 820 (rfl) (by decide +kernel)
theorem m_Lw_102 : Cond.methodLink R_Lw 102 y_Md_states ∈ wsU := wU_t 821 (by decide +kernel) (by decide +kernel)
theorem im_Md_states : Cond.instanceMethod y_Md_states ∈ wsU := wU_t 822 (by decide +kernel) (by decide +kernel)
theorem se_Md_states : Cond.selects R_Md y_Md_states y_Md_states ∈ wsU := wU_t 823 (by decide +kernel) (by decide +kernel)
set_option maxRecDepth 20000 in
theorem cd_Md_states : Cond.code y_Md_states c_Md_states 6 (some .int) ∈ wsU := wU_t 824 (rfl) (by decide +kernel)
theorem m_Md_168 : Cond.methodLink R_Md 168 y_Md_split ∈ wsU := wU_t 825 (by decide +kernel) (by decide +kernel)
theorem im_Md_split : Cond.instanceMethod y_Md_split ∈ wsU := wU_t 827 (by decide +kernel) (by decide +kernel)
set_option maxRecDepth 20000 in
theorem cd_Md_split : Cond.code y_Md_split c_Md_split 10 (some .int) ∈ wsU := wU_t 828 (rfl) (by decide +kernel)
theorem m_Lw_106 : Cond.methodLink R_Lw 106 y_Md_turn ∈ wsU := wU_t 829 (by decide +kernel) (by decide +kernel)
theorem im_Md_turn : Cond.instanceMethod y_Md_turn ∈ wsU := wU_t 830 (by decide +kernel) (by decide +kernel)
theorem se_Md_turn : Cond.selects R_Md y_Md_turn y_Md_turn ∈ wsU := wU_t 831 (by decide +kernel) (by decide +kernel)
set_option maxRecDepth 20000 in
theorem cd_Md_turn : Cond.code y_Md_turn c_Md_turn 9 none ∈ wsU := wU_t 832 (rfl) (by decide +kernel)
theorem m_Lw_110 : Cond.methodLink R_Lw 110 y_Md_size ∈ wsU := wU_t 833 (by decide +kernel) (by decide +kernel)
theorem im_Md_size : Cond.instanceMethod y_Md_size ∈ wsU := wU_t 834 (by decide +kernel) (by decide +kernel)
theorem se_Md_size : Cond.selects R_Md y_Md_size y_Md_size ∈ wsU := wU_t 835 (by decide +kernel) (by decide +kernel)
set_option maxRecDepth 20000 in
theorem cd_Md_size : Cond.code y_Md_size c_Md_size 1 (some .int) ∈ wsU := wU_t 836 (rfl) (by decide +kernel)
theorem m_Lw_113 : Cond.methodLink R_Lw 113 y_Md_letter ∈ wsU := wU_t 837 (by decide +kernel) (by decide +kernel)
theorem im_Md_letter : Cond.instanceMethod y_Md_letter ∈ wsU := wU_t 838 (by decide +kernel) (by decide +kernel)
theorem se_Md_letter : Cond.selects R_Md y_Md_letter y_Md_letter ∈ wsU := wU_t 839 (by decide +kernel) (by decide +kernel)
set_option maxRecDepth 20000 in
theorem cd_Md_letter : Cond.code y_Md_letter c_Md_letter 2 (some .int) ∈ wsU := wU_t 840 (rfl) (by decide +kernel)
theorem co_Lw_60 : Cond.constantLong R_Lw 60 4294967295 ∈ wsU := wU_t 841 (by decide +kernel) (by decide +kernel)
theorem se_Pr_beginSum : Cond.selects R_Pr y_Pr_beginSum y_Pr_beginSum ∈ wsU := wU_p 1 (by decide +kernel) (by decide +kernel)
theorem se_Pr_accept : Cond.selects R_Pr y_Pr_accept y_Pr_accept ∈ wsU := wU_p 2 (by decide +kernel) (by decide +kernel)
theorem se_Pr_acceptRepeat : Cond.selects R_Pr y_Pr_acceptRepeat y_Pr_acceptRepeat ∈ wsU := wU_p 3 (by decide +kernel) (by decide +kernel)
theorem se_Pr_joinFactor : Cond.selects R_Pr y_Pr_joinFactor y_Pr_joinFactor ∈ wsU := wU_p 4 (by decide +kernel) (by decide +kernel)
theorem se_Pr_acceptLetter : Cond.selects R_Pr y_Pr_acceptLetter y_Pr_acceptLetter ∈ wsU := wU_p 5 (by decide +kernel) (by decide +kernel)
theorem se_Pr_setFactor : Cond.selects R_Pr y_Pr_setFactor y_Pr_setFactor ∈ wsU := wU_p 6 (by decide +kernel) (by decide +kernel)
theorem se_Pr_acceptOpening : Cond.selects R_Pr y_Pr_acceptOpening y_Pr_acceptOpening ∈ wsU := wU_p 7 (by decide +kernel) (by decide +kernel)
theorem se_Pr_acceptClosing : Cond.selects R_Pr y_Pr_acceptClosing y_Pr_acceptClosing ∈ wsU := wU_p 8 (by decide +kernel) (by decide +kernel)
theorem se_Pr_endRow : Cond.selects R_Pr y_Pr_endRow y_Pr_endRow ∈ wsU := wU_p 9 (by decide +kernel) (by decide +kernel)
theorem se_Ws_putSpare : Cond.selects R_Ws y_Ws_putSpare y_Ws_putSpare ∈ wsU := wU_p 10 (by decide +kernel) (by decide +kernel)
theorem se_Se_append : Cond.selects R_Se y_Se_append y_Se_append ∈ wsU := wU_p 11 (by decide +kernel) (by decide +kernel)
theorem se_Se_spellWay : Cond.selects R_Se y_Se_spellWay y_Se_spellWay ∈ wsU := wU_p 12 (by decide +kernel) (by decide +kernel)
theorem se_Se_goOn : Cond.selects R_Se y_Se_goOn y_Se_goOn ∈ wsU := wU_p 13 (by decide +kernel) (by decide +kernel)
theorem se_Se_markIfNew : Cond.selects R_Se y_Se_markIfNew y_Se_markIfNew ∈ wsU := wU_p 14 (by decide +kernel) (by decide +kernel)
theorem se_Ma_numberOf : Cond.selects R_Ma y_Ma_numberOf y_Ma_numberOf ∈ wsU := wU_p 15 (by decide +kernel) (by decide +kernel)
theorem se_Ma_tallyOver : Cond.selects R_Ma y_Ma_tallyOver y_Ma_tallyOver ∈ wsU := wU_p 16 (by decide +kernel) (by decide +kernel)
theorem se_Ma_refine : Cond.selects R_Ma y_Ma_refine y_Ma_refine ∈ wsU := wU_p 17 (by decide +kernel) (by decide +kernel)
theorem se_Ma_firstLike : Cond.selects R_Ma y_Ma_firstLike y_Ma_firstLike ∈ wsU := wU_p 18 (by decide +kernel) (by decide +kernel)
theorem se_Ma_alike : Cond.selects R_Ma y_Ma_alike y_Ma_alike ∈ wsU := wU_p 19 (by decide +kernel) (by decide +kernel)
theorem se_Md_sum : Cond.selects R_Md y_Md_sum y_Md_sum ∈ wsU := wU_p 20 (by decide +kernel) (by decide +kernel)
theorem se_Md_see : Cond.selects R_Md y_Md_see y_Md_see ∈ wsU := wU_p 21 (by decide +kernel) (by decide +kernel)
theorem se_Md_atom : Cond.selects R_Md y_Md_atom y_Md_atom ∈ wsU := wU_p 22 (by decide +kernel) (by decide +kernel)
theorem se_Md_wrong : Cond.selects R_Md y_Md_wrong y_Md_wrong ∈ wsU := wU_p 23 (by decide +kernel) (by decide +kernel)
theorem se_Md_part : Cond.selects R_Md y_Md_part y_Md_part ∈ wsU := wU_p 24 (by decide +kernel) (by decide +kernel)
theorem se_Md_repeated : Cond.selects R_Md y_Md_repeated y_Md_repeated ∈ wsU := wU_p 25 (by decide +kernel) (by decide +kernel)
theorem se_Md_follows : Cond.selects R_Md y_Md_follows y_Md_follows ∈ wsU := wU_p 26 (by decide +kernel) (by decide +kernel)
theorem se_Md_behind : Cond.selects R_Md y_Md_behind y_Md_behind ∈ wsU := wU_p 27 (by decide +kernel) (by decide +kernel)
theorem se_Md_either : Cond.selects R_Md y_Md_either y_Md_either ∈ wsU := wU_p 28 (by decide +kernel) (by decide +kernel)
theorem se_Md_says : Cond.selects R_Md y_Md_says y_Md_says ∈ wsU := wU_p 29 (by decide +kernel) (by decide +kernel)
theorem se_Md_step : Cond.selects R_Md y_Md_step y_Md_step ∈ wsU := wU_p 30 (by decide +kernel) (by decide +kernel)
theorem se_Md_tells : Cond.selects R_Md y_Md_tells y_Md_tells ∈ wsU := wU_p 31 (by decide +kernel) (by decide +kernel)
theorem se_Md_seek : Cond.selects R_Md y_Md_seek y_Md_seek ∈ wsU := wU_p 32 (by decide +kernel) (by decide +kernel)
theorem se_Md_spell : Cond.selects R_Md y_Md_spell y_Md_spell ∈ wsU := wU_p 33 (by decide +kernel) (by decide +kernel)
theorem se_Md_reckon : Cond.selects R_Md y_Md_reckon y_Md_reckon ∈ wsU := wU_p 34 (by decide +kernel) (by decide +kernel)
theorem se_Md_split : Cond.selects R_Md y_Md_split y_Md_split ∈ wsU := wU_p 35 (by decide +kernel) (by decide +kernel)
abbrev vwCl : List vw_C := [(R_Ex, T_Ex, 4), (R_Ma, T_Ma, 8), (R_Pr, T_Pr, 5), (R_Pt, T_Pt, 3), (R_Se, T_Se, 5), (R_Ta, T_Ta, 2), (R_Wo, T_Wo, 2), (R_Ws, T_Ws, 9), (R_Md, T_Md, 31)]
end
section
theorem d_Ws_init_0 : decode c_Ws_init 0 = .ok (.aload_n 0, 1) := by decide +kernel
theorem d_Ws_init_1 : decode c_Ws_init 1 = .ok (.invokespecial 1, 3) := by decide +kernel
theorem d_Ws_init_4 : decode c_Ws_init 4 = .ok (.aload_n 0, 1) := by decide +kernel
theorem d_Ws_init_5 : decode c_Ws_init 5 = .ok (.new 7, 3) := by decide +kernel
theorem d_Ws_init_8 : decode c_Ws_init 8 = .ok (.dup, 1) := by decide +kernel
theorem d_Ws_init_9 : decode c_Ws_init 9 = .ok (.invokespecial 9, 3) := by decide +kernel
theorem d_Ws_init_12 : decode c_Ws_init 12 = .ok (.putfield 10, 3) := by decide +kernel
theorem d_Ws_init_15 : decode c_Ws_init 15 = .ok (.aload_n 0, 1) := by decide +kernel
theorem d_Ws_init_16 : decode c_Ws_init 16 = .ok (.iconst 4, 1) := by decide +kernel
theorem d_Ws_init_17 : decode c_Ws_init 17 = .ok (.anewarray 16, 3) := by decide +kernel
theorem d_Ws_init_20 : decode c_Ws_init 20 = .ok (.putfield 18, 3) := by decide +kernel
theorem d_Ws_init_23 : decode c_Ws_init 23 = .ok (.aload_n 0, 1) := by decide +kernel
theorem d_Ws_init_24 : decode c_Ws_init 24 = .ok (.new 16, 3) := by decide +kernel
theorem d_Ws_init_27 : decode c_Ws_init 27 = .ok (.dup, 1) := by decide +kernel
theorem d_Ws_init_28 : decode c_Ws_init 28 = .ok (.invokespecial 22, 3) := by decide +kernel
theorem d_Ws_init_31 : decode c_Ws_init 31 = .ok (.putfield 23, 3) := by decide +kernel
theorem d_Ws_init_34 : decode c_Ws_init 34 = .ok (.aload_n 0, 1) := by decide +kernel
theorem d_Ws_init_35 : decode c_Ws_init 35 = .ok (.new 27, 3) := by decide +kernel
theorem d_Ws_init_38 : decode c_Ws_init 38 = .ok (.dup, 1) := by decide +kernel
theorem d_Ws_init_39 : decode c_Ws_init 39 = .ok (.invokespecial 29, 3) := by decide +kernel
theorem d_Ws_init_42 : decode c_Ws_init 42 = .ok (.putfield 30, 3) := by decide +kernel
theorem d_Ws_init_45 : decode c_Ws_init 45 = .ok (.aload_n 0, 1) := by decide +kernel
theorem d_Ws_init_46 : decode c_Ws_init 46 = .ok (.new 34, 3) := by decide +kernel
theorem d_Ws_init_49 : decode c_Ws_init 49 = .ok (.dup, 1) := by decide +kernel
theorem d_Ws_init_50 : decode c_Ws_init 50 = .ok (.invokespecial 36, 3) := by decide +kernel
theorem d_Ws_init_53 : decode c_Ws_init 53 = .ok (.putfield 37, 3) := by decide +kernel
theorem d_Ws_init_56 : decode c_Ws_init 56 = .ok (.aload_n 0, 1) := by decide +kernel
theorem d_Ws_init_57 : decode c_Ws_init 57 = .ok (.new 41, 3) := by decide +kernel
theorem d_Ws_init_60 : decode c_Ws_init 60 = .ok (.dup, 1) := by decide +kernel
theorem d_Ws_init_61 : decode c_Ws_init 61 = .ok (.invokespecial 43, 3) := by decide +kernel
theorem d_Ws_init_64 : decode c_Ws_init 64 = .ok (.putfield 44, 3) := by decide +kernel
theorem d_Ws_init_67 : decode c_Ws_init 67 = .ok (.aload_n 0, 1) := by decide +kernel
theorem d_Ws_init_68 : decode c_Ws_init 68 = .ok (.new 48, 3) := by decide +kernel
theorem d_Ws_init_71 : decode c_Ws_init 71 = .ok (.dup, 1) := by decide +kernel
theorem d_Ws_init_72 : decode c_Ws_init 72 = .ok (.invokespecial 50, 3) := by decide +kernel
theorem d_Ws_init_75 : decode c_Ws_init 75 = .ok (.putfield 51, 3) := by decide +kernel
theorem d_Ws_init_78 : decode c_Ws_init 78 = .ok (.aload_n 0, 1) := by decide +kernel
theorem d_Ws_init_79 : decode c_Ws_init 79 = .ok (.new 16, 3) := by decide +kernel
theorem d_Ws_init_82 : decode c_Ws_init 82 = .ok (.dup, 1) := by decide +kernel
theorem d_Ws_init_83 : decode c_Ws_init 83 = .ok (.invokespecial 22, 3) := by decide +kernel
theorem d_Ws_init_86 : decode c_Ws_init 86 = .ok (.putfield 55, 3) := by decide +kernel
theorem d_Ws_init_89 : decode c_Ws_init 89 = .ok (.aload_n 0, 1) := by decide +kernel
theorem d_Ws_init_90 : decode c_Ws_init 90 = .ok (.iconst (-1), 1) := by decide +kernel
theorem d_Ws_init_91 : decode c_Ws_init 91 = .ok (.putfield 58, 3) := by decide +kernel
theorem d_Ws_init_94 : decode c_Ws_init 94 = .ok (.iconst 0, 1) := by decide +kernel
theorem d_Ws_init_95 : decode c_Ws_init 95 = .ok (.istore_n 1, 1) := by decide +kernel
theorem d_Ws_init_96 : decode c_Ws_init 96 = .ok (.iload_n 1, 1) := by decide +kernel
theorem d_Ws_init_97 : decode c_Ws_init 97 = .ok (.iconst 4, 1) := by decide +kernel
theorem d_Ws_init_98 : decode c_Ws_init 98 = .ok (.if_icmp .ge 22, 3) := by decide +kernel
theorem d_Ws_init_101 : decode c_Ws_init 101 = .ok (.aload_n 0, 1) := by decide +kernel
theorem d_Ws_init_102 : decode c_Ws_init 102 = .ok (.getfield 18, 3) := by decide +kernel
theorem d_Ws_init_105 : decode c_Ws_init 105 = .ok (.iload_n 1, 1) := by decide +kernel
theorem d_Ws_init_106 : decode c_Ws_init 106 = .ok (.new 16, 3) := by decide +kernel
theorem d_Ws_init_109 : decode c_Ws_init 109 = .ok (.dup, 1) := by decide +kernel
theorem d_Ws_init_110 : decode c_Ws_init 110 = .ok (.invokespecial 22, 3) := by decide +kernel
theorem d_Ws_init_113 : decode c_Ws_init 113 = .ok (.aastore, 1) := by decide +kernel
theorem d_Ws_init_114 : decode c_Ws_init 114 = .ok (.iinc 1 1, 3) := by decide +kernel
theorem d_Ws_init_117 : decode c_Ws_init 117 = .ok (.goto (-21), 3) := by decide +kernel
theorem d_Ws_init_120 : decode c_Ws_init 120 = .ok (.return_, 1) := by decide +kernel
theorem d_Ta_init_0 : decode c_Ta_init 0 = .ok (.aload_n 0, 1) := by decide +kernel
theorem d_Ta_init_1 : decode c_Ta_init 1 = .ok (.invokespecial 3, 3) := by decide +kernel
theorem d_Ta_init_4 : decode c_Ta_init 4 = .ok (.aload_n 0, 1) := by decide +kernel
theorem d_Ta_init_5 : decode c_Ta_init 5 = .ok (.bipush 80, 2) := by decide +kernel
theorem d_Ta_init_7 : decode c_Ta_init 7 = .ok (.newarray .int, 2) := by decide +kernel
theorem d_Ta_init_9 : decode c_Ta_init 9 = .ok (.putfield 9, 3) := by decide +kernel
theorem d_Ta_init_12 : decode c_Ta_init 12 = .ok (.aload_n 0, 1) := by decide +kernel
theorem d_Ta_init_13 : decode c_Ta_init 13 = .ok (.iconst 0, 1) := by decide +kernel
theorem d_Ta_init_14 : decode c_Ta_init 14 = .ok (.putfield 15, 3) := by decide +kernel
theorem d_Ta_init_17 : decode c_Ta_init 17 = .ok (.return_, 1) := by decide +kernel
theorem d_Ex_init_0 : decode c_Ex_init 0 = .ok (.aload_n 0, 1) := by decide +kernel
theorem d_Ex_init_1 : decode c_Ex_init 1 = .ok (.invokespecial 5, 3) := by decide +kernel
theorem d_Ex_init_4 : decode c_Ex_init 4 = .ok (.aload_n 0, 1) := by decide +kernel
theorem d_Ex_init_5 : decode c_Ex_init 5 = .ok (.bipush 9, 2) := by decide +kernel
theorem d_Ex_init_7 : decode c_Ex_init 7 = .ok (.newarray .int, 2) := by decide +kernel
theorem d_Ex_init_9 : decode c_Ex_init 9 = .ok (.putfield 11, 3) := by decide +kernel
theorem d_Ex_init_12 : decode c_Ex_init 12 = .ok (.aload_n 0, 1) := by decide +kernel
theorem d_Ex_init_13 : decode c_Ex_init 13 = .ok (.iconst 4, 1) := by decide +kernel
theorem d_Ex_init_14 : decode c_Ex_init 14 = .ok (.newarray .int, 2) := by decide +kernel
theorem d_Ex_init_16 : decode c_Ex_init 16 = .ok (.putfield 15, 3) := by decide +kernel
theorem d_Ex_init_19 : decode c_Ex_init 19 = .ok (.aload_n 0, 1) := by decide +kernel
theorem d_Ex_init_20 : decode c_Ex_init 20 = .ok (.iconst 0, 1) := by decide +kernel
theorem d_Ex_init_21 : decode c_Ex_init 21 = .ok (.putfield 18, 3) := by decide +kernel
theorem d_Ex_init_24 : decode c_Ex_init 24 = .ok (.aload_n 0, 1) := by decide +kernel
theorem d_Ex_init_25 : decode c_Ex_init 25 = .ok (.iconst 0, 1) := by decide +kernel
theorem d_Ex_init_26 : decode c_Ex_init 26 = .ok (.putfield 22, 3) := by decide +kernel
theorem d_Ex_init_29 : decode c_Ex_init 29 = .ok (.return_, 1) := by decide +kernel
theorem d_Pr_init_0 : decode c_Pr_init 0 = .ok (.aload_n 0, 1) := by decide +kernel
theorem d_Pr_init_1 : decode c_Pr_init 1 = .ok (.invokespecial 3, 3) := by decide +kernel
theorem d_Pr_init_4 : decode c_Pr_init 4 = .ok (.aload_n 0, 1) := by decide +kernel
theorem d_Pr_init_5 : decode c_Pr_init 5 = .ok (.bipush 9, 2) := by decide +kernel
theorem d_Pr_init_7 : decode c_Pr_init 7 = .ok (.anewarray 9, 3) := by decide +kernel
theorem d_Pr_init_10 : decode c_Pr_init 10 = .ok (.putfield 11, 3) := by decide +kernel
theorem d_Pr_init_13 : decode c_Pr_init 13 = .ok (.aload_n 0, 1) := by decide +kernel
theorem d_Pr_init_14 : decode c_Pr_init 14 = .ok (.bipush 9, 2) := by decide +kernel
theorem d_Pr_init_16 : decode c_Pr_init 16 = .ok (.anewarray 9, 3) := by decide +kernel
theorem d_Pr_init_19 : decode c_Pr_init 19 = .ok (.putfield 17, 3) := by decide +kernel
theorem d_Pr_init_22 : decode c_Pr_init 22 = .ok (.aload_n 0, 1) := by decide +kernel
theorem d_Pr_init_23 : decode c_Pr_init 23 = .ok (.new 9, 3) := by decide +kernel
theorem d_Pr_init_26 : decode c_Pr_init 26 = .ok (.dup, 1) := by decide +kernel
theorem d_Pr_init_27 : decode c_Pr_init 27 = .ok (.invokespecial 20, 3) := by decide +kernel
theorem d_Pr_init_30 : decode c_Pr_init 30 = .ok (.putfield 21, 3) := by decide +kernel
theorem d_Pr_init_33 : decode c_Pr_init 33 = .ok (.aload_n 0, 1) := by decide +kernel
theorem d_Pr_init_34 : decode c_Pr_init 34 = .ok (.iconst 0, 1) := by decide +kernel
theorem d_Pr_init_35 : decode c_Pr_init 35 = .ok (.putfield 25, 3) := by decide +kernel
theorem d_Pr_init_38 : decode c_Pr_init 38 = .ok (.aload_n 0, 1) := by decide +kernel
theorem d_Pr_init_39 : decode c_Pr_init 39 = .ok (.iconst 0, 1) := by decide +kernel
theorem d_Pr_init_40 : decode c_Pr_init 40 = .ok (.putfield 29, 3) := by decide +kernel
theorem d_Pr_init_43 : decode c_Pr_init 43 = .ok (.iconst 0, 1) := by decide +kernel
theorem d_Pr_init_44 : decode c_Pr_init 44 = .ok (.istore_n 1, 1) := by decide +kernel
theorem d_Pr_init_45 : decode c_Pr_init 45 = .ok (.iload_n 1, 1) := by decide +kernel
theorem d_Pr_init_46 : decode c_Pr_init 46 = .ok (.bipush 8, 2) := by decide +kernel
theorem d_Pr_init_48 : decode c_Pr_init 48 = .ok (.if_icmp .gt 35, 3) := by decide +kernel
theorem d_Pr_init_51 : decode c_Pr_init 51 = .ok (.aload_n 0, 1) := by decide +kernel
theorem d_Pr_init_52 : decode c_Pr_init 52 = .ok (.getfield 11, 3) := by decide +kernel
theorem d_Pr_init_55 : decode c_Pr_init 55 = .ok (.iload_n 1, 1) := by decide +kernel
theorem d_Pr_init_56 : decode c_Pr_init 56 = .ok (.new 9, 3) := by decide +kernel
theorem d_Pr_init_59 : decode c_Pr_init 59 = .ok (.dup, 1) := by decide +kernel
theorem d_Pr_init_60 : decode c_Pr_init 60 = .ok (.invokespecial 20, 3) := by decide +kernel
theorem d_Pr_init_63 : decode c_Pr_init 63 = .ok (.aastore, 1) := by decide +kernel
theorem d_Pr_init_64 : decode c_Pr_init 64 = .ok (.aload_n 0, 1) := by decide +kernel
theorem d_Pr_init_65 : decode c_Pr_init 65 = .ok (.getfield 17, 3) := by decide +kernel
theorem d_Pr_init_68 : decode c_Pr_init 68 = .ok (.iload_n 1, 1) := by decide +kernel
theorem d_Pr_init_69 : decode c_Pr_init 69 = .ok (.new 9, 3) := by decide +kernel
theorem d_Pr_init_72 : decode c_Pr_init 72 = .ok (.dup, 1) := by decide +kernel
theorem d_Pr_init_73 : decode c_Pr_init 73 = .ok (.invokespecial 20, 3) := by decide +kernel
theorem d_Pr_init_76 : decode c_Pr_init 76 = .ok (.aastore, 1) := by decide +kernel
theorem d_Pr_init_77 : decode c_Pr_init 77 = .ok (.iinc 1 1, 3) := by decide +kernel
theorem d_Pr_init_80 : decode c_Pr_init 80 = .ok (.goto (-35), 3) := by decide +kernel
theorem d_Pr_init_83 : decode c_Pr_init 83 = .ok (.return_, 1) := by decide +kernel
theorem d_Pt_init_0 : decode c_Pt_init 0 = .ok (.aload_n 0, 1) := by decide +kernel
theorem d_Pt_init_1 : decode c_Pt_init 1 = .ok (.invokespecial 1, 3) := by decide +kernel
theorem d_Pt_init_4 : decode c_Pt_init 4 = .ok (.aload_n 0, 1) := by decide +kernel
theorem d_Pt_init_5 : decode c_Pt_init 5 = .ok (.iconst 0, 1) := by decide +kernel
theorem d_Pt_init_6 : decode c_Pt_init 6 = .ok (.putfield 7, 3) := by decide +kernel
theorem d_Pt_init_9 : decode c_Pt_init 9 = .ok (.aload_n 0, 1) := by decide +kernel
theorem d_Pt_init_10 : decode c_Pt_init 10 = .ok (.iconst 0, 1) := by decide +kernel
theorem d_Pt_init_11 : decode c_Pt_init 11 = .ok (.putfield 13, 3) := by decide +kernel
theorem d_Pt_init_14 : decode c_Pt_init 14 = .ok (.aload_n 0, 1) := by decide +kernel
theorem d_Pt_init_15 : decode c_Pt_init 15 = .ok (.iconst 0, 1) := by decide +kernel
theorem d_Pt_init_16 : decode c_Pt_init 16 = .ok (.putfield 16, 3) := by decide +kernel
theorem d_Pt_init_19 : decode c_Pt_init 19 = .ok (.return_, 1) := by decide +kernel
theorem d_Ma_init_0 : decode c_Ma_init 0 = .ok (.aload_n 0, 1) := by decide +kernel
theorem d_Ma_init_1 : decode c_Ma_init 1 = .ok (.invokespecial 5, 3) := by decide +kernel
theorem d_Ma_init_4 : decode c_Ma_init 4 = .ok (.aload_n 0, 1) := by decide +kernel
theorem d_Ma_init_5 : decode c_Ma_init 5 = .ok (.sipush 257, 3) := by decide +kernel
theorem d_Ma_init_8 : decode c_Ma_init 8 = .ok (.newarray .int, 2) := by decide +kernel
theorem d_Ma_init_10 : decode c_Ma_init 10 = .ok (.putfield 13, 3) := by decide +kernel
theorem d_Ma_init_13 : decode c_Ma_init 13 = .ok (.aload_n 0, 1) := by decide +kernel
theorem d_Ma_init_14 : decode c_Ma_init 14 = .ok (.sipush 257, 3) := by decide +kernel
theorem d_Ma_init_17 : decode c_Ma_init 17 = .ok (.newarray .int, 2) := by decide +kernel
theorem d_Ma_init_19 : decode c_Ma_init 19 = .ok (.putfield 17, 3) := by decide +kernel
theorem d_Ma_init_22 : decode c_Ma_init 22 = .ok (.aload_n 0, 1) := by decide +kernel
theorem d_Ma_init_23 : decode c_Ma_init 23 = .ok (.sipush 1028, 3) := by decide +kernel
theorem d_Ma_init_26 : decode c_Ma_init 26 = .ok (.newarray .int, 2) := by decide +kernel
theorem d_Ma_init_28 : decode c_Ma_init 28 = .ok (.putfield 20, 3) := by decide +kernel
theorem d_Ma_init_31 : decode c_Ma_init 31 = .ok (.aload_n 0, 1) := by decide +kernel
theorem d_Ma_init_32 : decode c_Ma_init 32 = .ok (.sipush 257, 3) := by decide +kernel
theorem d_Ma_init_35 : decode c_Ma_init 35 = .ok (.newarray .int, 2) := by decide +kernel
theorem d_Ma_init_37 : decode c_Ma_init 37 = .ok (.putfield 23, 3) := by decide +kernel
theorem d_Ma_init_40 : decode c_Ma_init 40 = .ok (.aload_n 0, 1) := by decide +kernel
theorem d_Ma_init_41 : decode c_Ma_init 41 = .ok (.sipush 257, 3) := by decide +kernel
theorem d_Ma_init_44 : decode c_Ma_init 44 = .ok (.newarray .int, 2) := by decide +kernel
theorem d_Ma_init_46 : decode c_Ma_init 46 = .ok (.putfield 26, 3) := by decide +kernel
theorem d_Ma_init_49 : decode c_Ma_init 49 = .ok (.aload_n 0, 1) := by decide +kernel
theorem d_Ma_init_50 : decode c_Ma_init 50 = .ok (.sipush 257, 3) := by decide +kernel
theorem d_Ma_init_53 : decode c_Ma_init 53 = .ok (.newarray .int, 2) := by decide +kernel
theorem d_Ma_init_55 : decode c_Ma_init 55 = .ok (.putfield 29, 3) := by decide +kernel
theorem d_Ma_init_58 : decode c_Ma_init 58 = .ok (.aload_n 0, 1) := by decide +kernel
theorem d_Ma_init_59 : decode c_Ma_init 59 = .ok (.sipush 7967, 3) := by decide +kernel
theorem d_Ma_init_62 : decode c_Ma_init 62 = .ok (.newarray .long, 2) := by decide +kernel
theorem d_Ma_init_64 : decode c_Ma_init 64 = .ok (.putfield 32, 3) := by decide +kernel
theorem d_Ma_init_67 : decode c_Ma_init 67 = .ok (.aload_n 0, 1) := by decide +kernel
theorem d_Ma_init_68 : decode c_Ma_init 68 = .ok (.iconst 0, 1) := by decide +kernel
theorem d_Ma_init_69 : decode c_Ma_init 69 = .ok (.putfield 36, 3) := by decide +kernel
theorem d_Ma_init_72 : decode c_Ma_init 72 = .ok (.return_, 1) := by decide +kernel
theorem d_Se_init_0 : decode c_Se_init 0 = .ok (.aload_n 0, 1) := by decide +kernel
theorem d_Se_init_1 : decode c_Se_init 1 = .ok (.invokespecial 3, 3) := by decide +kernel
theorem d_Se_init_4 : decode c_Se_init 4 = .ok (.aload_n 0, 1) := by decide +kernel
theorem d_Se_init_5 : decode c_Se_init 5 = .ok (.sipush 1024, 3) := by decide +kernel
theorem d_Se_init_8 : decode c_Se_init 8 = .ok (.newarray .long, 2) := by decide +kernel
theorem d_Se_init_10 : decode c_Se_init 10 = .ok (.putfield 9, 3) := by decide +kernel
theorem d_Se_init_13 : decode c_Se_init 13 = .ok (.aload_n 0, 1) := by decide +kernel
theorem d_Se_init_14 : decode c_Se_init 14 = .ok (.bipush 64, 2) := by decide +kernel
theorem d_Se_init_16 : decode c_Se_init 16 = .ok (.newarray .int, 2) := by decide +kernel
theorem d_Se_init_18 : decode c_Se_init 18 = .ok (.putfield 15, 3) := by decide +kernel
theorem d_Se_init_21 : decode c_Se_init 21 = .ok (.aload_n 0, 1) := by decide +kernel
theorem d_Se_init_22 : decode c_Se_init 22 = .ok (.bipush 64, 2) := by decide +kernel
theorem d_Se_init_24 : decode c_Se_init 24 = .ok (.newarray .int, 2) := by decide +kernel
theorem d_Se_init_26 : decode c_Se_init 26 = .ok (.putfield 19, 3) := by decide +kernel
theorem d_Se_init_29 : decode c_Se_init 29 = .ok (.aload_n 0, 1) := by decide +kernel
theorem d_Se_init_30 : decode c_Se_init 30 = .ok (.bipush 64, 2) := by decide +kernel
theorem d_Se_init_32 : decode c_Se_init 32 = .ok (.newarray .int, 2) := by decide +kernel
theorem d_Se_init_34 : decode c_Se_init 34 = .ok (.putfield 22, 3) := by decide +kernel
theorem d_Se_init_37 : decode c_Se_init 37 = .ok (.aload_n 0, 1) := by decide +kernel
theorem d_Se_init_38 : decode c_Se_init 38 = .ok (.iconst 0, 1) := by decide +kernel
theorem d_Se_init_39 : decode c_Se_init 39 = .ok (.putfield 25, 3) := by decide +kernel
theorem d_Se_init_42 : decode c_Se_init 42 = .ok (.return_, 1) := by decide +kernel
theorem d_Wo_init_0 : decode c_Wo_init 0 = .ok (.aload_n 0, 1) := by decide +kernel
theorem d_Wo_init_1 : decode c_Wo_init 1 = .ok (.invokespecial 3, 3) := by decide +kernel
theorem d_Wo_init_4 : decode c_Wo_init 4 = .ok (.aload_n 0, 1) := by decide +kernel
theorem d_Wo_init_5 : decode c_Wo_init 5 = .ok (.bipush 30, 2) := by decide +kernel
theorem d_Wo_init_7 : decode c_Wo_init 7 = .ok (.newarray .int, 2) := by decide +kernel
theorem d_Wo_init_9 : decode c_Wo_init 9 = .ok (.putfield 9, 3) := by decide +kernel
theorem d_Wo_init_12 : decode c_Wo_init 12 = .ok (.aload_n 0, 1) := by decide +kernel
theorem d_Wo_init_13 : decode c_Wo_init 13 = .ok (.iconst 0, 1) := by decide +kernel
theorem d_Wo_init_14 : decode c_Wo_init 14 = .ok (.putfield 15, 3) := by decide +kernel
theorem d_Wo_init_17 : decode c_Wo_init 17 = .ok (.return_, 1) := by decide +kernel
theorem d_Ws_place_0 : decode c_Ws_place 0 = .ok (.aload_n 0, 1) := by decide +kernel
theorem d_Ws_place_1 : decode c_Ws_place 1 = .ok (.getfield 58, 3) := by decide +kernel
theorem d_Ws_place_4 : decode c_Ws_place 4 = .ok (.ireturn, 1) := by decide +kernel
theorem d_Ws_size_0 : decode c_Ws_size 0 = .ok (.aload_n 0, 1) := by decide +kernel
theorem d_Ws_size_1 : decode c_Ws_size 1 = .ok (.getfield 51, 3) := by decide +kernel
theorem d_Ws_size_4 : decode c_Ws_size 4 = .ok (.getfield 122, 3) := by decide +kernel
theorem d_Ws_size_7 : decode c_Ws_size 7 = .ok (.ireturn, 1) := by decide +kernel
theorem d_Ws_feed_0 : decode c_Ws_feed 0 = .ok (.iload_n 3, 1) := by decide +kernel
theorem d_Ws_feed_1 : decode c_Ws_feed 1 = .ok (.iconst 1, 1) := by decide +kernel
theorem d_Ws_feed_2 : decode c_Ws_feed 2 = .ok (.if_icmp .lt 9, 3) := by decide +kernel
theorem d_Ws_feed_5 : decode c_Ws_feed 5 = .ok (.iload_n 3, 1) := by decide +kernel
theorem d_Ws_feed_6 : decode c_Ws_feed 6 = .ok (.bipush 8, 2) := by decide +kernel
theorem d_Ws_feed_8 : decode c_Ws_feed 8 = .ok (.if_icmp .le 13, 3) := by decide +kernel
theorem d_Ws_feed_11 : decode c_Ws_feed 11 = .ok (.new 62, 3) := by decide +kernel
theorem d_Ws_feed_14 : decode c_Ws_feed 14 = .ok (.dup, 1) := by decide +kernel
theorem d_Ws_feed_15 : decode c_Ws_feed 15 = .ok (.ldc 64, 2) := by decide +kernel
theorem d_Ws_feed_17 : decode c_Ws_feed 17 = .ok (.invokespecial 66, 3) := by decide +kernel
theorem d_Ws_feed_20 : decode c_Ws_feed 20 = .ok (.athrow, 1) := by decide +kernel
theorem d_Ws_feed_21 : decode c_Ws_feed 21 = .ok (.aload_n 0, 1) := by decide +kernel
theorem d_Ws_feed_22 : decode c_Ws_feed 22 = .ok (.getfield 10, 3) := by decide +kernel
theorem d_Ws_feed_25 : decode c_Ws_feed 25 = .ok (.lload_n 1, 1) := by decide +kernel
theorem d_Ws_feed_26 : decode c_Ws_feed 26 = .ok (.iload_n 3, 1) := by decide +kernel
theorem d_Ws_feed_27 : decode c_Ws_feed 27 = .ok (.invokevirtual 69, 3) := by decide +kernel
theorem d_Ws_feed_30 : decode c_Ws_feed 30 = .ok (.ifCond .ne 13, 3) := by decide +kernel
theorem d_Ws_feed_33 : decode c_Ws_feed 33 = .ok (.new 73, 3) := by decide +kernel
theorem d_Ws_feed_36 : decode c_Ws_feed 36 = .ok (.dup, 1) := by decide +kernel
theorem d_Ws_feed_37 : decode c_Ws_feed 37 = .ok (.ldc 75, 2) := by decide +kernel
theorem d_Ws_feed_39 : decode c_Ws_feed 39 = .ok (.invokespecial 77, 3) := by decide +kernel
theorem d_Ws_feed_42 : decode c_Ws_feed 42 = .ok (.athrow, 1) := by decide +kernel
theorem d_Ws_feed_43 : decode c_Ws_feed 43 = .ok (.aload_n 0, 1) := by decide +kernel
theorem d_Ws_feed_44 : decode c_Ws_feed 44 = .ok (.getfield 10, 3) := by decide +kernel
theorem d_Ws_feed_47 : decode c_Ws_feed 47 = .ok (.getfield 78, 3) := by decide +kernel
theorem d_Ws_feed_50 : decode c_Ws_feed 50 = .ok (.ireturn, 1) := by decide +kernel
theorem d_Ta_append_0 : decode c_Ta_append 0 = .ok (.aload_n 0, 1) := by decide +kernel
theorem d_Ta_append_1 : decode c_Ta_append 1 = .ok (.getfield 15, 3) := by decide +kernel
theorem d_Ta_append_4 : decode c_Ta_append 4 = .ok (.iload_n 3, 1) := by decide +kernel
theorem d_Ta_append_5 : decode c_Ta_append 5 = .ok (.iadd, 1) := by decide +kernel
theorem d_Ta_append_6 : decode c_Ta_append 6 = .ok (.bipush 80, 2) := by decide +kernel
theorem d_Ta_append_8 : decode c_Ta_append 8 = .ok (.if_icmp .le 5, 3) := by decide +kernel
theorem d_Ta_append_11 : decode c_Ta_append 11 = .ok (.iconst 0, 1) := by decide +kernel
theorem d_Ta_append_12 : decode c_Ta_append 12 = .ok (.ireturn, 1) := by decide +kernel
theorem d_Ta_append_13 : decode c_Ta_append 13 = .ok (.iload_n 3, 1) := by decide +kernel
theorem d_Ta_append_14 : decode c_Ta_append 14 = .ok (.iconst 1, 1) := by decide +kernel
theorem d_Ta_append_15 : decode c_Ta_append 15 = .ok (.isub, 1) := by decide +kernel
theorem d_Ta_append_16 : decode c_Ta_append 16 = .ok (.istore 4, 2) := by decide +kernel
theorem d_Ta_append_18 : decode c_Ta_append 18 = .ok (.iload 4, 2) := by decide +kernel
theorem d_Ta_append_20 : decode c_Ta_append 20 = .ok (.ifCond .lt 40, 3) := by decide +kernel
theorem d_Ta_append_23 : decode c_Ta_append 23 = .ok (.aload_n 0, 1) := by decide +kernel
theorem d_Ta_append_24 : decode c_Ta_append 24 = .ok (.getfield 9, 3) := by decide +kernel
theorem d_Ta_append_27 : decode c_Ta_append 27 = .ok (.aload_n 0, 1) := by decide +kernel
theorem d_Ta_append_28 : decode c_Ta_append 28 = .ok (.getfield 15, 3) := by decide +kernel
theorem d_Ta_append_31 : decode c_Ta_append 31 = .ok (.lload_n 1, 1) := by decide +kernel
theorem d_Ta_append_32 : decode c_Ta_append 32 = .ok (.bipush 8, 2) := by decide +kernel
theorem d_Ta_append_34 : decode c_Ta_append 34 = .ok (.iload 4, 2) := by decide +kernel
theorem d_Ta_append_36 : decode c_Ta_append 36 = .ok (.imul, 1) := by decide +kernel
theorem d_Ta_append_37 : decode c_Ta_append 37 = .ok (.lushr, 1) := by decide +kernel
theorem d_Ta_append_38 : decode c_Ta_append 38 = .ok (.l2i, 1) := by decide +kernel
theorem d_Ta_append_39 : decode c_Ta_append 39 = .ok (.sipush 255, 3) := by decide +kernel
theorem d_Ta_append_42 : decode c_Ta_append 42 = .ok (.iand, 1) := by decide +kernel
theorem d_Ta_append_43 : decode c_Ta_append 43 = .ok (.iastore, 1) := by decide +kernel
theorem d_Ta_append_44 : decode c_Ta_append 44 = .ok (.aload_n 0, 1) := by decide +kernel
theorem d_Ta_append_45 : decode c_Ta_append 45 = .ok (.dup, 1) := by decide +kernel
theorem d_Ta_append_46 : decode c_Ta_append 46 = .ok (.getfield 15, 3) := by decide +kernel
theorem d_Ta_append_49 : decode c_Ta_append 49 = .ok (.iconst 1, 1) := by decide +kernel
theorem d_Ta_append_50 : decode c_Ta_append 50 = .ok (.iadd, 1) := by decide +kernel
theorem d_Ta_append_51 : decode c_Ta_append 51 = .ok (.putfield 15, 3) := by decide +kernel
theorem d_Ta_append_54 : decode c_Ta_append 54 = .ok (.iinc 4 (-1), 3) := by decide +kernel
theorem d_Ta_append_57 : decode c_Ta_append 57 = .ok (.goto (-39), 3) := by decide +kernel
theorem d_Ta_append_60 : decode c_Ta_append 60 = .ok (.iconst 1, 1) := by decide +kernel
theorem d_Ta_append_61 : decode c_Ta_append 61 = .ok (.ireturn, 1) := by decide +kernel
theorem d_Ws_read_0 : decode c_Ws_read 0 = .ok (.aload_n 0, 1) := by decide +kernel
theorem d_Ws_read_1 : decode c_Ws_read 1 = .ok (.getfield 10, 3) := by decide +kernel
theorem d_Ws_read_4 : decode c_Ws_read 4 = .ok (.invokevirtual 81, 3) := by decide +kernel
theorem d_Ws_read_7 : decode c_Ws_read 7 = .ok (.istore_n 2, 1) := by decide +kernel
theorem d_Ws_read_8 : decode c_Ws_read 8 = .ok (.iload_n 1, 1) := by decide +kernel
theorem d_Ws_read_9 : decode c_Ws_read 9 = .ok (.invokestatic 85, 3) := by decide +kernel
theorem d_Ws_read_12 : decode c_Ws_read 12 = .ok (.aload_n 0, 1) := by decide +kernel
theorem d_Ws_read_13 : decode c_Ws_read 13 = .ok (.aload_n 0, 1) := by decide +kernel
theorem d_Ws_read_14 : decode c_Ws_read 14 = .ok (.getfield 30, 3) := by decide +kernel
theorem d_Ws_read_17 : decode c_Ws_read 17 = .ok (.aload_n 0, 1) := by decide +kernel
theorem d_Ws_read_18 : decode c_Ws_read 18 = .ok (.getfield 10, 3) := by decide +kernel
theorem d_Ws_read_21 : decode c_Ws_read 21 = .ok (.getfield 89, 3) := by decide +kernel
theorem d_Ws_read_24 : decode c_Ws_read 24 = .ok (.iload_n 2, 1) := by decide +kernel
theorem d_Ws_read_25 : decode c_Ws_read 25 = .ok (.aload_n 0, 1) := by decide +kernel
theorem d_Ws_read_26 : decode c_Ws_read 26 = .ok (.getfield 55, 3) := by decide +kernel
theorem d_Ws_read_29 : decode c_Ws_read 29 = .ok (.invokevirtual 93, 3) := by decide +kernel
theorem d_Ws_read_32 : decode c_Ws_read 32 = .ok (.putfield 58, 3) := by decide +kernel
theorem d_Ws_read_35 : decode c_Ws_read 35 = .ok (.aload_n 0, 1) := by decide +kernel
theorem d_Ws_read_36 : decode c_Ws_read 36 = .ok (.getfield 58, 3) := by decide +kernel
theorem d_Ws_read_39 : decode c_Ws_read 39 = .ok (.ifCond .lt 13, 3) := by decide +kernel
theorem d_Ws_read_42 : decode c_Ws_read 42 = .ok (.new 62, 3) := by decide +kernel
theorem d_Ws_read_45 : decode c_Ws_read 45 = .ok (.dup, 1) := by decide +kernel
theorem d_Ws_read_46 : decode c_Ws_read 46 = .ok (.ldc 97, 2) := by decide +kernel
theorem d_Ws_read_48 : decode c_Ws_read 48 = .ok (.invokespecial 66, 3) := by decide +kernel
theorem d_Ws_read_51 : decode c_Ws_read 51 = .ok (.athrow, 1) := by decide +kernel
theorem d_Ws_read_52 : decode c_Ws_read 52 = .ok (.aload_n 0, 1) := by decide +kernel
theorem d_Ws_read_53 : decode c_Ws_read 53 = .ok (.iload_n 1, 1) := by decide +kernel
theorem d_Ws_read_54 : decode c_Ws_read 54 = .ok (.invokevirtual 99, 3) := by decide +kernel
theorem d_Ws_read_57 : decode c_Ws_read 57 = .ok (.aload_n 0, 1) := by decide +kernel
theorem d_Ws_read_58 : decode c_Ws_read 58 = .ok (.getfield 18, 3) := by decide +kernel
theorem d_Ws_read_61 : decode c_Ws_read 61 = .ok (.iload_n 1, 1) := by decide +kernel
theorem d_Ws_read_62 : decode c_Ws_read 62 = .ok (.aaload, 1) := by decide +kernel
theorem d_Ws_read_63 : decode c_Ws_read 63 = .ok (.getfield 102, 3) := by decide +kernel
theorem d_Ws_read_66 : decode c_Ws_read 66 = .ok (.ireturn, 1) := by decide +kernel
theorem d_Ta_useUp_0 : decode c_Ta_useUp 0 = .ok (.aload_n 0, 1) := by decide +kernel
theorem d_Ta_useUp_1 : decode c_Ta_useUp 1 = .ok (.getfield 15, 3) := by decide +kernel
theorem d_Ta_useUp_4 : decode c_Ta_useUp 4 = .ok (.istore_n 1, 1) := by decide +kernel
theorem d_Ta_useUp_5 : decode c_Ta_useUp 5 = .ok (.aload_n 0, 1) := by decide +kernel
theorem d_Ta_useUp_6 : decode c_Ta_useUp 6 = .ok (.iconst 0, 1) := by decide +kernel
theorem d_Ta_useUp_7 : decode c_Ta_useUp 7 = .ok (.putfield 15, 3) := by decide +kernel
theorem d_Ta_useUp_10 : decode c_Ta_useUp 10 = .ok (.iload_n 1, 1) := by decide +kernel
theorem d_Ta_useUp_11 : decode c_Ta_useUp 11 = .ok (.ireturn, 1) := by decide +kernel
theorem d_Ws_checkSlot_0 : decode c_Ws_checkSlot 0 = .ok (.iload_n 0, 1) := by decide +kernel
theorem d_Ws_checkSlot_1 : decode c_Ws_checkSlot 1 = .ok (.ifCond .lt 8, 3) := by decide +kernel
theorem d_Ws_checkSlot_4 : decode c_Ws_checkSlot 4 = .ok (.iload_n 0, 1) := by decide +kernel
theorem d_Ws_checkSlot_5 : decode c_Ws_checkSlot 5 = .ok (.iconst 4, 1) := by decide +kernel
theorem d_Ws_checkSlot_6 : decode c_Ws_checkSlot 6 = .ok (.if_icmp .lt 13, 3) := by decide +kernel
theorem d_Ws_checkSlot_9 : decode c_Ws_checkSlot 9 = .ok (.new 62, 3) := by decide +kernel
theorem d_Ws_checkSlot_12 : decode c_Ws_checkSlot 12 = .ok (.dup, 1) := by decide +kernel
theorem d_Ws_checkSlot_13 : decode c_Ws_checkSlot 13 = .ok (.ldc 156, 2) := by decide +kernel
theorem d_Ws_checkSlot_15 : decode c_Ws_checkSlot 15 = .ok (.invokespecial 66, 3) := by decide +kernel
theorem d_Ws_checkSlot_18 : decode c_Ws_checkSlot 18 = .ok (.athrow, 1) := by decide +kernel
theorem d_Ws_checkSlot_19 : decode c_Ws_checkSlot 19 = .ok (.return_, 1) := by decide +kernel
theorem d_Pr_parse_0 : decode c_Pr_parse 0 = .ok (.aload_n 3, 1) := by decide +kernel
theorem d_Pr_parse_1 : decode c_Pr_parse 1 = .ok (.invokevirtual 33, 3) := by decide +kernel
theorem d_Pr_parse_4 : decode c_Pr_parse 4 = .ok (.aload_n 0, 1) := by decide +kernel
theorem d_Pr_parse_5 : decode c_Pr_parse 5 = .ok (.iconst 0, 1) := by decide +kernel
theorem d_Pr_parse_6 : decode c_Pr_parse 6 = .ok (.putfield 29, 3) := by decide +kernel
theorem d_Pr_parse_9 : decode c_Pr_parse 9 = .ok (.aload_n 0, 1) := by decide +kernel
theorem d_Pr_parse_10 : decode c_Pr_parse 10 = .ok (.iconst 0, 1) := by decide +kernel
theorem d_Pr_parse_11 : decode c_Pr_parse 11 = .ok (.putfield 25, 3) := by decide +kernel
theorem d_Pr_parse_14 : decode c_Pr_parse 14 = .ok (.aload_n 0, 1) := by decide +kernel
theorem d_Pr_parse_15 : decode c_Pr_parse 15 = .ok (.invokevirtual 38, 3) := by decide +kernel
theorem d_Pr_parse_18 : decode c_Pr_parse 18 = .ok (.iconst 0, 1) := by decide +kernel
theorem d_Pr_parse_19 : decode c_Pr_parse 19 = .ok (.istore 4, 2) := by decide +kernel
theorem d_Pr_parse_21 : decode c_Pr_parse 21 = .ok (.iload 4, 2) := by decide +kernel
theorem d_Pr_parse_23 : decode c_Pr_parse 23 = .ok (.iload_n 2, 1) := by decide +kernel
theorem d_Pr_parse_24 : decode c_Pr_parse 24 = .ok (.if_icmp .ge 24, 3) := by decide +kernel
theorem d_Pr_parse_27 : decode c_Pr_parse 27 = .ok (.aload_n 0, 1) := by decide +kernel
theorem d_Pr_parse_28 : decode c_Pr_parse 28 = .ok (.aload_n 1, 1) := by decide +kernel
theorem d_Pr_parse_29 : decode c_Pr_parse 29 = .ok (.iload 4, 2) := by decide +kernel
theorem d_Pr_parse_31 : decode c_Pr_parse 31 = .ok (.iaload, 1) := by decide +kernel
theorem d_Pr_parse_32 : decode c_Pr_parse 32 = .ok (.aload_n 3, 1) := by decide +kernel
theorem d_Pr_parse_33 : decode c_Pr_parse 33 = .ok (.invokevirtual 41, 3) := by decide +kernel
theorem d_Pr_parse_36 : decode c_Pr_parse 36 = .ok (.ifCond .ne 6, 3) := by decide +kernel
theorem d_Pr_parse_39 : decode c_Pr_parse 39 = .ok (.iload 4, 2) := by decide +kernel
theorem d_Pr_parse_41 : decode c_Pr_parse 41 = .ok (.ireturn, 1) := by decide +kernel
theorem d_Pr_parse_42 : decode c_Pr_parse 42 = .ok (.iinc 4 1, 3) := by decide +kernel
theorem d_Pr_parse_45 : decode c_Pr_parse 45 = .ok (.goto (-24), 3) := by decide +kernel
theorem d_Pr_parse_48 : decode c_Pr_parse 48 = .ok (.aload_n 0, 1) := by decide +kernel
theorem d_Pr_parse_49 : decode c_Pr_parse 49 = .ok (.aload_n 3, 1) := by decide +kernel
theorem d_Pr_parse_50 : decode c_Pr_parse 50 = .ok (.invokevirtual 45, 3) := by decide +kernel
theorem d_Pr_parse_53 : decode c_Pr_parse 53 = .ok (.ifCond .eq 10, 3) := by decide +kernel
theorem d_Pr_parse_56 : decode c_Pr_parse 56 = .ok (.aload_n 0, 1) := by decide +kernel
theorem d_Pr_parse_57 : decode c_Pr_parse 57 = .ok (.getfield 29, 3) := by decide +kernel
theorem d_Pr_parse_60 : decode c_Pr_parse 60 = .ok (.ifCond .le 5, 3) := by decide +kernel
theorem d_Pr_parse_63 : decode c_Pr_parse 63 = .ok (.iload_n 2, 1) := by decide +kernel
theorem d_Pr_parse_64 : decode c_Pr_parse 64 = .ok (.ireturn, 1) := by decide +kernel
theorem d_Pr_parse_65 : decode c_Pr_parse 65 = .ok (.aload_n 0, 1) := by decide +kernel
theorem d_Pr_parse_66 : decode c_Pr_parse 66 = .ok (.invokevirtual 49, 3) := by decide +kernel
theorem d_Pr_parse_69 : decode c_Pr_parse 69 = .ok (.aload_n 3, 1) := by decide +kernel
theorem d_Pr_parse_70 : decode c_Pr_parse 70 = .ok (.aload_n 0, 1) := by decide +kernel
theorem d_Pr_parse_71 : decode c_Pr_parse 71 = .ok (.getfield 11, 3) := by decide +kernel
theorem d_Pr_parse_74 : decode c_Pr_parse 74 = .ok (.iconst 0, 1) := by decide +kernel
theorem d_Pr_parse_75 : decode c_Pr_parse 75 = .ok (.aaload, 1) := by decide +kernel
theorem d_Pr_parse_76 : decode c_Pr_parse 76 = .ok (.invokevirtual 52, 3) := by decide +kernel
theorem d_Pr_parse_79 : decode c_Pr_parse 79 = .ok (.iconst (-1), 1) := by decide +kernel
theorem d_Pr_parse_80 : decode c_Pr_parse 80 = .ok (.ireturn, 1) := by decide +kernel
theorem d_Ex_clear_0 : decode c_Ex_clear 0 = .ok (.aload_n 0, 1) := by decide +kernel
theorem d_Ex_clear_1 : decode c_Ex_clear 1 = .ok (.getfield 11, 3) := by decide +kernel
theorem d_Ex_clear_4 : decode c_Ex_clear 4 = .ok (.iconst 0, 1) := by decide +kernel
theorem d_Ex_clear_5 : decode c_Ex_clear 5 = .ok (.invokestatic 25, 3) := by decide +kernel
theorem d_Ex_clear_8 : decode c_Ex_clear 8 = .ok (.aload_n 0, 1) := by decide +kernel
theorem d_Ex_clear_9 : decode c_Ex_clear 9 = .ok (.getfield 15, 3) := by decide +kernel
theorem d_Ex_clear_12 : decode c_Ex_clear 12 = .ok (.iconst 0, 1) := by decide +kernel
theorem d_Ex_clear_13 : decode c_Ex_clear 13 = .ok (.invokestatic 25, 3) := by decide +kernel
theorem d_Ex_clear_16 : decode c_Ex_clear 16 = .ok (.aload_n 0, 1) := by decide +kernel
theorem d_Ex_clear_17 : decode c_Ex_clear 17 = .ok (.iconst 0, 1) := by decide +kernel
theorem d_Ex_clear_18 : decode c_Ex_clear 18 = .ok (.putfield 18, 3) := by decide +kernel
theorem d_Ex_clear_21 : decode c_Ex_clear 21 = .ok (.aload_n 0, 1) := by decide +kernel
theorem d_Ex_clear_22 : decode c_Ex_clear 22 = .ok (.iconst 0, 1) := by decide +kernel
theorem d_Ex_clear_23 : decode c_Ex_clear 23 = .ok (.putfield 22, 3) := by decide +kernel
theorem d_Ex_clear_26 : decode c_Ex_clear 26 = .ok (.return_, 1) := by decide +kernel
theorem d_Pr_beginSum_0 : decode c_Pr_beginSum 0 = .ok (.aload_n 0, 1) := by decide +kernel
theorem d_Pr_beginSum_1 : decode c_Pr_beginSum 1 = .ok (.getfield 11, 3) := by decide +kernel
theorem d_Pr_beginSum_4 : decode c_Pr_beginSum 4 = .ok (.aload_n 0, 1) := by decide +kernel
theorem d_Pr_beginSum_5 : decode c_Pr_beginSum 5 = .ok (.getfield 29, 3) := by decide +kernel
theorem d_Pr_beginSum_8 : decode c_Pr_beginSum 8 = .ok (.aaload, 1) := by decide +kernel
theorem d_Pr_beginSum_9 : decode c_Pr_beginSum 9 = .ok (.iconst 0, 1) := by decide +kernel
theorem d_Pr_beginSum_10 : decode c_Pr_beginSum 10 = .ok (.iconst 0, 1) := by decide +kernel
theorem d_Pr_beginSum_11 : decode c_Pr_beginSum 11 = .ok (.iconst 0, 1) := by decide +kernel
theorem d_Pr_beginSum_12 : decode c_Pr_beginSum 12 = .ok (.invokevirtual 93, 3) := by decide +kernel
theorem d_Pr_beginSum_15 : decode c_Pr_beginSum 15 = .ok (.aload_n 0, 1) := by decide +kernel
theorem d_Pr_beginSum_16 : decode c_Pr_beginSum 16 = .ok (.getfield 17, 3) := by decide +kernel
theorem d_Pr_beginSum_19 : decode c_Pr_beginSum 19 = .ok (.aload_n 0, 1) := by decide +kernel
theorem d_Pr_beginSum_20 : decode c_Pr_beginSum 20 = .ok (.getfield 29, 3) := by decide +kernel
theorem d_Pr_beginSum_23 : decode c_Pr_beginSum 23 = .ok (.aaload, 1) := by decide +kernel
theorem d_Pr_beginSum_24 : decode c_Pr_beginSum 24 = .ok (.iconst 0, 1) := by decide +kernel
theorem d_Pr_beginSum_25 : decode c_Pr_beginSum 25 = .ok (.iconst 0, 1) := by decide +kernel
theorem d_Pr_beginSum_26 : decode c_Pr_beginSum 26 = .ok (.iconst 1, 1) := by decide +kernel
theorem d_Pr_beginSum_27 : decode c_Pr_beginSum 27 = .ok (.invokevirtual 93, 3) := by decide +kernel
theorem d_Pr_beginSum_30 : decode c_Pr_beginSum 30 = .ok (.return_, 1) := by decide +kernel
theorem d_Pt_become_0 : decode c_Pt_become 0 = .ok (.aload_n 0, 1) := by decide +kernel
theorem d_Pt_become_1 : decode c_Pt_become 1 = .ok (.iload_n 1, 1) := by decide +kernel
theorem d_Pt_become_2 : decode c_Pt_become 2 = .ok (.putfield 7, 3) := by decide +kernel
theorem d_Pt_become_5 : decode c_Pt_become 5 = .ok (.aload_n 0, 1) := by decide +kernel
theorem d_Pt_become_6 : decode c_Pt_become 6 = .ok (.iload_n 2, 1) := by decide +kernel
theorem d_Pt_become_7 : decode c_Pt_become 7 = .ok (.putfield 13, 3) := by decide +kernel
theorem d_Pt_become_10 : decode c_Pt_become 10 = .ok (.aload_n 0, 1) := by decide +kernel
theorem d_Pt_become_11 : decode c_Pt_become 11 = .ok (.iload_n 3, 1) := by decide +kernel
theorem d_Pt_become_12 : decode c_Pt_become 12 = .ok (.putfield 16, 3) := by decide +kernel
theorem d_Pt_become_15 : decode c_Pt_become 15 = .ok (.return_, 1) := by decide +kernel
theorem d_Pr_accept_0 : decode c_Pr_accept 0 = .ok (.iload_n 1, 1) := by decide +kernel
theorem d_Pr_accept_1 : decode c_Pr_accept 1 = .ok (.bipush 42, 2) := by decide +kernel
theorem d_Pr_accept_3 : decode c_Pr_accept 3 = .ok (.if_icmp .eq 15, 3) := by decide +kernel
theorem d_Pr_accept_6 : decode c_Pr_accept 6 = .ok (.iload_n 1, 1) := by decide +kernel
theorem d_Pr_accept_7 : decode c_Pr_accept 7 = .ok (.bipush 43, 2) := by decide +kernel
theorem d_Pr_accept_9 : decode c_Pr_accept 9 = .ok (.if_icmp .eq 9, 3) := by decide +kernel
theorem d_Pr_accept_12 : decode c_Pr_accept 12 = .ok (.iload_n 1, 1) := by decide +kernel
theorem d_Pr_accept_13 : decode c_Pr_accept 13 = .ok (.bipush 63, 2) := by decide +kernel
theorem d_Pr_accept_15 : decode c_Pr_accept 15 = .ok (.if_icmp .ne 10, 3) := by decide +kernel
theorem d_Pr_accept_18 : decode c_Pr_accept 18 = .ok (.aload_n 0, 1) := by decide +kernel
theorem d_Pr_accept_19 : decode c_Pr_accept 19 = .ok (.iload_n 1, 1) := by decide +kernel
theorem d_Pr_accept_20 : decode c_Pr_accept 20 = .ok (.aload_n 2, 1) := by decide +kernel
theorem d_Pr_accept_21 : decode c_Pr_accept 21 = .ok (.invokevirtual 56, 3) := by decide +kernel
theorem d_Pr_accept_24 : decode c_Pr_accept 24 = .ok (.ireturn, 1) := by decide +kernel
theorem d_Pr_accept_25 : decode c_Pr_accept 25 = .ok (.aload_n 0, 1) := by decide +kernel
theorem d_Pr_accept_26 : decode c_Pr_accept 26 = .ok (.aload_n 2, 1) := by decide +kernel
theorem d_Pr_accept_27 : decode c_Pr_accept 27 = .ok (.invokevirtual 45, 3) := by decide +kernel
theorem d_Pr_accept_30 : decode c_Pr_accept 30 = .ok (.istore_n 3, 1) := by decide +kernel
theorem d_Pr_accept_31 : decode c_Pr_accept 31 = .ok (.iload_n 1, 1) := by decide +kernel
theorem d_Pr_accept_32 : decode c_Pr_accept 32 = .ok (.lookupswitch 141 #[(40, 113), (41, 118), (48, 94), (49, 94), (97, 84), (98, 84), (99, 84), (100, 84), (124, 135)], 84) := by decide +kernel
theorem d_Pr_accept_116 : decode c_Pr_accept 116 = .ok (.aload_n 0, 1) := by decide +kernel
theorem d_Pr_accept_117 : decode c_Pr_accept 117 = .ok (.iload_n 1, 1) := by decide +kernel
theorem d_Pr_accept_118 : decode c_Pr_accept 118 = .ok (.bipush 97, 2) := by decide +kernel
theorem d_Pr_accept_120 : decode c_Pr_accept 120 = .ok (.isub, 1) := by decide +kernel
theorem d_Pr_accept_121 : decode c_Pr_accept 121 = .ok (.aload_n 2, 1) := by decide +kernel
theorem d_Pr_accept_122 : decode c_Pr_accept 122 = .ok (.invokevirtual 59, 3) := by decide +kernel
theorem d_Pr_accept_125 : decode c_Pr_accept 125 = .ok (.ireturn, 1) := by decide +kernel
theorem d_Pr_accept_126 : decode c_Pr_accept 126 = .ok (.aload_n 0, 1) := by decide +kernel
theorem d_Pr_accept_127 : decode c_Pr_accept 127 = .ok (.iconst 0, 1) := by decide +kernel
theorem d_Pr_accept_128 : decode c_Pr_accept 128 = .ok (.iconst 0, 1) := by decide +kernel
theorem d_Pr_accept_129 : decode c_Pr_accept 129 = .ok (.iload_n 1, 1) := by decide +kernel
theorem d_Pr_accept_130 : decode c_Pr_accept 130 = .ok (.bipush 49, 2) := by decide +kernel
theorem d_Pr_accept_132 : decode c_Pr_accept 132 = .ok (.if_icmp .ne 7, 3) := by decide +kernel
theorem d_Pr_accept_135 : decode c_Pr_accept 135 = .ok (.iconst 1, 1) := by decide +kernel
theorem d_Pr_accept_136 : decode c_Pr_accept 136 = .ok (.goto 4, 3) := by decide +kernel
theorem d_Pr_accept_139 : decode c_Pr_accept 139 = .ok (.iconst 0, 1) := by decide +kernel
theorem d_Pr_accept_140 : decode c_Pr_accept 140 = .ok (.invokevirtual 62, 3) := by decide +kernel
theorem d_Pr_accept_143 : decode c_Pr_accept 143 = .ok (.iconst 1, 1) := by decide +kernel
theorem d_Pr_accept_144 : decode c_Pr_accept 144 = .ok (.ireturn, 1) := by decide +kernel
theorem d_Pr_accept_145 : decode c_Pr_accept 145 = .ok (.aload_n 0, 1) := by decide +kernel
theorem d_Pr_accept_146 : decode c_Pr_accept 146 = .ok (.invokevirtual 66, 3) := by decide +kernel
theorem d_Pr_accept_149 : decode c_Pr_accept 149 = .ok (.ireturn, 1) := by decide +kernel
theorem d_Pr_accept_150 : decode c_Pr_accept 150 = .ok (.iload_n 3, 1) := by decide +kernel
theorem d_Pr_accept_151 : decode c_Pr_accept 151 = .ok (.ifCond .eq 14, 3) := by decide +kernel
theorem d_Pr_accept_154 : decode c_Pr_accept 154 = .ok (.aload_n 0, 1) := by decide +kernel
theorem d_Pr_accept_155 : decode c_Pr_accept 155 = .ok (.invokevirtual 70, 3) := by decide +kernel
theorem d_Pr_accept_158 : decode c_Pr_accept 158 = .ok (.ifCond .eq 7, 3) := by decide +kernel
theorem d_Pr_accept_161 : decode c_Pr_accept 161 = .ok (.iconst 1, 1) := by decide +kernel
theorem d_Pr_accept_162 : decode c_Pr_accept 162 = .ok (.goto 4, 3) := by decide +kernel
theorem d_Pr_accept_165 : decode c_Pr_accept 165 = .ok (.iconst 0, 1) := by decide +kernel
theorem d_Pr_accept_166 : decode c_Pr_accept 166 = .ok (.ireturn, 1) := by decide +kernel
theorem d_Pr_accept_167 : decode c_Pr_accept 167 = .ok (.aload_n 0, 1) := by decide +kernel
theorem d_Pr_accept_168 : decode c_Pr_accept 168 = .ok (.invokevirtual 49, 3) := by decide +kernel
theorem d_Pr_accept_171 : decode c_Pr_accept 171 = .ok (.iload_n 3, 1) := by decide +kernel
theorem d_Pr_accept_172 : decode c_Pr_accept 172 = .ok (.ireturn, 1) := by decide +kernel
theorem d_Pr_accept_173 : decode c_Pr_accept 173 = .ok (.iconst 0, 1) := by decide +kernel
theorem d_Pr_accept_174 : decode c_Pr_accept 174 = .ok (.ireturn, 1) := by decide +kernel
theorem d_Pr_acceptRepeat_0 : decode c_Pr_acceptRepeat 0 = .ok (.aload_n 0, 1) := by decide +kernel
theorem d_Pr_acceptRepeat_1 : decode c_Pr_acceptRepeat 1 = .ok (.getfield 25, 3) := by decide +kernel
theorem d_Pr_acceptRepeat_4 : decode c_Pr_acceptRepeat 4 = .ok (.ifCond .eq 12, 3) := by decide +kernel
theorem d_Pr_acceptRepeat_7 : decode c_Pr_acceptRepeat 7 = .ok (.aload_n 0, 1) := by decide +kernel
theorem d_Pr_acceptRepeat_8 : decode c_Pr_acceptRepeat 8 = .ok (.getfield 21, 3) := by decide +kernel
theorem d_Pr_acceptRepeat_11 : decode c_Pr_acceptRepeat 11 = .ok (.iload_n 1, 1) := by decide +kernel
theorem d_Pr_acceptRepeat_12 : decode c_Pr_acceptRepeat 12 = .ok (.aload_n 2, 1) := by decide +kernel
theorem d_Pr_acceptRepeat_13 : decode c_Pr_acceptRepeat 13 = .ok (.invokevirtual 73, 3) := by decide +kernel
theorem d_Pr_acceptRepeat_16 : decode c_Pr_acceptRepeat 16 = .ok (.aload_n 0, 1) := by decide +kernel
theorem d_Pr_acceptRepeat_17 : decode c_Pr_acceptRepeat 17 = .ok (.getfield 25, 3) := by decide +kernel
theorem d_Pr_acceptRepeat_20 : decode c_Pr_acceptRepeat 20 = .ok (.ireturn, 1) := by decide +kernel
theorem d_Pt_repeat_0 : decode c_Pt_repeat 0 = .ok (.iload_n 1, 1) := by decide +kernel
theorem d_Pt_repeat_1 : decode c_Pt_repeat 1 = .ok (.bipush 63, 2) := by decide +kernel
theorem d_Pt_repeat_3 : decode c_Pt_repeat 3 = .ok (.if_icmp .eq 15, 3) := by decide +kernel
theorem d_Pt_repeat_6 : decode c_Pt_repeat 6 = .ok (.aload_n 2, 1) := by decide +kernel
theorem d_Pt_repeat_7 : decode c_Pt_repeat 7 = .ok (.aload_n 0, 1) := by decide +kernel
theorem d_Pt_repeat_8 : decode c_Pt_repeat 8 = .ok (.getfield 13, 3) := by decide +kernel
theorem d_Pt_repeat_11 : decode c_Pt_repeat 11 = .ok (.aload_n 0, 1) := by decide +kernel
theorem d_Pt_repeat_12 : decode c_Pt_repeat 12 = .ok (.getfield 7, 3) := by decide +kernel
theorem d_Pt_repeat_15 : decode c_Pt_repeat 15 = .ok (.invokevirtual 24, 3) := by decide +kernel
theorem d_Pt_repeat_18 : decode c_Pt_repeat 18 = .ok (.aload_n 0, 1) := by decide +kernel
theorem d_Pt_repeat_19 : decode c_Pt_repeat 19 = .ok (.aload_n 0, 1) := by decide +kernel
theorem d_Pt_repeat_20 : decode c_Pt_repeat 20 = .ok (.getfield 16, 3) := by decide +kernel
theorem d_Pt_repeat_23 : decode c_Pt_repeat 23 = .ok (.ifCond .ne 9, 3) := by decide +kernel
theorem d_Pt_repeat_26 : decode c_Pt_repeat 26 = .ok (.iload_n 1, 1) := by decide +kernel
theorem d_Pt_repeat_27 : decode c_Pt_repeat 27 = .ok (.bipush 43, 2) := by decide +kernel
theorem d_Pt_repeat_29 : decode c_Pt_repeat 29 = .ok (.if_icmp .eq 7, 3) := by decide +kernel
theorem d_Pt_repeat_32 : decode c_Pt_repeat 32 = .ok (.iconst 1, 1) := by decide +kernel
theorem d_Pt_repeat_33 : decode c_Pt_repeat 33 = .ok (.goto 4, 3) := by decide +kernel
theorem d_Pt_repeat_36 : decode c_Pt_repeat 36 = .ok (.iconst 0, 1) := by decide +kernel
theorem d_Pt_repeat_37 : decode c_Pt_repeat 37 = .ok (.putfield 16, 3) := by decide +kernel
theorem d_Pt_repeat_40 : decode c_Pt_repeat 40 = .ok (.return_, 1) := by decide +kernel
theorem d_Ex_link_0 : decode c_Ex_link 0 = .ok (.iconst 0, 1) := by decide +kernel
theorem d_Ex_link_1 : decode c_Ex_link 1 = .ok (.istore_n 3, 1) := by decide +kernel
theorem d_Ex_link_2 : decode c_Ex_link 2 = .ok (.iload_n 3, 1) := by decide +kernel
theorem d_Ex_link_3 : decode c_Ex_link 3 = .ok (.bipush 8, 2) := by decide +kernel
theorem d_Ex_link_5 : decode c_Ex_link 5 = .ok (.if_icmp .gt 27, 3) := by decide +kernel
theorem d_Ex_link_8 : decode c_Ex_link 8 = .ok (.iload_n 1, 1) := by decide +kernel
theorem d_Ex_link_9 : decode c_Ex_link 9 = .ok (.iload_n 3, 1) := by decide +kernel
theorem d_Ex_link_10 : decode c_Ex_link 10 = .ok (.ishr, 1) := by decide +kernel
theorem d_Ex_link_11 : decode c_Ex_link 11 = .ok (.iconst 1, 1) := by decide +kernel
theorem d_Ex_link_12 : decode c_Ex_link 12 = .ok (.iand, 1) := by decide +kernel
theorem d_Ex_link_13 : decode c_Ex_link 13 = .ok (.ifCond .eq 13, 3) := by decide +kernel
theorem d_Ex_link_16 : decode c_Ex_link 16 = .ok (.aload_n 0, 1) := by decide +kernel
theorem d_Ex_link_17 : decode c_Ex_link 17 = .ok (.getfield 11, 3) := by decide +kernel
theorem d_Ex_link_20 : decode c_Ex_link 20 = .ok (.iload_n 3, 1) := by decide +kernel
theorem d_Ex_link_21 : decode c_Ex_link 21 = .ok (.dup2, 1) := by decide +kernel
theorem d_Ex_link_22 : decode c_Ex_link 22 = .ok (.iaload, 1) := by decide +kernel
theorem d_Ex_link_23 : decode c_Ex_link 23 = .ok (.iload_n 2, 1) := by decide +kernel
theorem d_Ex_link_24 : decode c_Ex_link 24 = .ok (.ior, 1) := by decide +kernel
theorem d_Ex_link_25 : decode c_Ex_link 25 = .ok (.iastore, 1) := by decide +kernel
theorem d_Ex_link_26 : decode c_Ex_link 26 = .ok (.iinc 3 1, 3) := by decide +kernel
theorem d_Ex_link_29 : decode c_Ex_link 29 = .ok (.goto (-27), 3) := by decide +kernel
theorem d_Ex_link_32 : decode c_Ex_link 32 = .ok (.return_, 1) := by decide +kernel
theorem d_Pr_joinFactor_0 : decode c_Pr_joinFactor 0 = .ok (.aload_n 0, 1) := by decide +kernel
theorem d_Pr_joinFactor_1 : decode c_Pr_joinFactor 1 = .ok (.getfield 25, 3) := by decide +kernel
theorem d_Pr_joinFactor_4 : decode c_Pr_joinFactor 4 = .ok (.istore_n 2, 1) := by decide +kernel
theorem d_Pr_joinFactor_5 : decode c_Pr_joinFactor 5 = .ok (.iload_n 2, 1) := by decide +kernel
theorem d_Pr_joinFactor_6 : decode c_Pr_joinFactor 6 = .ok (.ifCond .eq 20, 3) := by decide +kernel
theorem d_Pr_joinFactor_9 : decode c_Pr_joinFactor 9 = .ok (.aload_n 0, 1) := by decide +kernel
theorem d_Pr_joinFactor_10 : decode c_Pr_joinFactor 10 = .ok (.getfield 17, 3) := by decide +kernel
theorem d_Pr_joinFactor_13 : decode c_Pr_joinFactor 13 = .ok (.aload_n 0, 1) := by decide +kernel
theorem d_Pr_joinFactor_14 : decode c_Pr_joinFactor 14 = .ok (.getfield 29, 3) := by decide +kernel
theorem d_Pr_joinFactor_17 : decode c_Pr_joinFactor 17 = .ok (.aaload, 1) := by decide +kernel
theorem d_Pr_joinFactor_18 : decode c_Pr_joinFactor 18 = .ok (.aload_n 0, 1) := by decide +kernel
theorem d_Pr_joinFactor_19 : decode c_Pr_joinFactor 19 = .ok (.getfield 21, 3) := by decide +kernel
theorem d_Pr_joinFactor_22 : decode c_Pr_joinFactor 22 = .ok (.aload_n 1, 1) := by decide +kernel
theorem d_Pr_joinFactor_23 : decode c_Pr_joinFactor 23 = .ok (.invokevirtual 96, 3) := by decide +kernel
theorem d_Pr_joinFactor_26 : decode c_Pr_joinFactor 26 = .ok (.aload_n 0, 1) := by decide +kernel
theorem d_Pr_joinFactor_27 : decode c_Pr_joinFactor 27 = .ok (.iconst 0, 1) := by decide +kernel
theorem d_Pr_joinFactor_28 : decode c_Pr_joinFactor 28 = .ok (.putfield 25, 3) := by decide +kernel
theorem d_Pr_joinFactor_31 : decode c_Pr_joinFactor 31 = .ok (.iload_n 2, 1) := by decide +kernel
theorem d_Pr_joinFactor_32 : decode c_Pr_joinFactor 32 = .ok (.ireturn, 1) := by decide +kernel
theorem d_Pt_addBehind_0 : decode c_Pt_addBehind 0 = .ok (.aload_n 2, 1) := by decide +kernel
theorem d_Pt_addBehind_1 : decode c_Pt_addBehind 1 = .ok (.aload_n 0, 1) := by decide +kernel
theorem d_Pt_addBehind_2 : decode c_Pt_addBehind 2 = .ok (.getfield 13, 3) := by decide +kernel
theorem d_Pt_addBehind_5 : decode c_Pt_addBehind 5 = .ok (.aload_n 1, 1) := by decide +kernel
theorem d_Pt_addBehind_6 : decode c_Pt_addBehind 6 = .ok (.getfield 7, 3) := by decide +kernel
theorem d_Pt_addBehind_9 : decode c_Pt_addBehind 9 = .ok (.invokevirtual 24, 3) := by decide +kernel
theorem d_Pt_addBehind_12 : decode c_Pt_addBehind 12 = .ok (.aload_n 0, 1) := by decide +kernel
theorem d_Pt_addBehind_13 : decode c_Pt_addBehind 13 = .ok (.getfield 16, 3) := by decide +kernel
theorem d_Pt_addBehind_16 : decode c_Pt_addBehind 16 = .ok (.ifCond .eq 15, 3) := by decide +kernel
theorem d_Pt_addBehind_19 : decode c_Pt_addBehind 19 = .ok (.aload_n 0, 1) := by decide +kernel
theorem d_Pt_addBehind_20 : decode c_Pt_addBehind 20 = .ok (.getfield 7, 3) := by decide +kernel
theorem d_Pt_addBehind_23 : decode c_Pt_addBehind 23 = .ok (.aload_n 1, 1) := by decide +kernel
theorem d_Pt_addBehind_24 : decode c_Pt_addBehind 24 = .ok (.getfield 7, 3) := by decide +kernel
theorem d_Pt_addBehind_27 : decode c_Pt_addBehind 27 = .ok (.ior, 1) := by decide +kernel
theorem d_Pt_addBehind_28 : decode c_Pt_addBehind 28 = .ok (.goto 7, 3) := by decide +kernel
theorem d_Pt_addBehind_31 : decode c_Pt_addBehind 31 = .ok (.aload_n 0, 1) := by decide +kernel
theorem d_Pt_addBehind_32 : decode c_Pt_addBehind 32 = .ok (.getfield 7, 3) := by decide +kernel
theorem d_Pt_addBehind_35 : decode c_Pt_addBehind 35 = .ok (.istore_n 3, 1) := by decide +kernel
theorem d_Pt_addBehind_36 : decode c_Pt_addBehind 36 = .ok (.aload_n 1, 1) := by decide +kernel
theorem d_Pt_addBehind_37 : decode c_Pt_addBehind 37 = .ok (.getfield 16, 3) := by decide +kernel
theorem d_Pt_addBehind_40 : decode c_Pt_addBehind 40 = .ok (.ifCond .eq 15, 3) := by decide +kernel
theorem d_Pt_addBehind_43 : decode c_Pt_addBehind 43 = .ok (.aload_n 0, 1) := by decide +kernel
theorem d_Pt_addBehind_44 : decode c_Pt_addBehind 44 = .ok (.getfield 13, 3) := by decide +kernel
theorem d_Pt_addBehind_47 : decode c_Pt_addBehind 47 = .ok (.aload_n 1, 1) := by decide +kernel
theorem d_Pt_addBehind_48 : decode c_Pt_addBehind 48 = .ok (.getfield 13, 3) := by decide +kernel
theorem d_Pt_addBehind_51 : decode c_Pt_addBehind 51 = .ok (.ior, 1) := by decide +kernel
theorem d_Pt_addBehind_52 : decode c_Pt_addBehind 52 = .ok (.goto 7, 3) := by decide +kernel
theorem d_Pt_addBehind_55 : decode c_Pt_addBehind 55 = .ok (.aload_n 1, 1) := by decide +kernel
theorem d_Pt_addBehind_56 : decode c_Pt_addBehind 56 = .ok (.getfield 13, 3) := by decide +kernel
theorem d_Pt_addBehind_59 : decode c_Pt_addBehind 59 = .ok (.istore 4, 2) := by decide +kernel
theorem d_Pt_addBehind_61 : decode c_Pt_addBehind 61 = .ok (.aload_n 0, 1) := by decide +kernel
theorem d_Pt_addBehind_62 : decode c_Pt_addBehind 62 = .ok (.iload_n 3, 1) := by decide +kernel
theorem d_Pt_addBehind_63 : decode c_Pt_addBehind 63 = .ok (.iload 4, 2) := by decide +kernel
theorem d_Pt_addBehind_65 : decode c_Pt_addBehind 65 = .ok (.aload_n 0, 1) := by decide +kernel
theorem d_Pt_addBehind_66 : decode c_Pt_addBehind 66 = .ok (.getfield 16, 3) := by decide +kernel
theorem d_Pt_addBehind_69 : decode c_Pt_addBehind 69 = .ok (.ifCond .eq 14, 3) := by decide +kernel
theorem d_Pt_addBehind_72 : decode c_Pt_addBehind 72 = .ok (.aload_n 1, 1) := by decide +kernel
theorem d_Pt_addBehind_73 : decode c_Pt_addBehind 73 = .ok (.getfield 16, 3) := by decide +kernel
theorem d_Pt_addBehind_76 : decode c_Pt_addBehind 76 = .ok (.ifCond .eq 7, 3) := by decide +kernel
theorem d_Pt_addBehind_79 : decode c_Pt_addBehind 79 = .ok (.iconst 1, 1) := by decide +kernel
theorem d_Pt_addBehind_80 : decode c_Pt_addBehind 80 = .ok (.goto 4, 3) := by decide +kernel
theorem d_Pt_addBehind_83 : decode c_Pt_addBehind 83 = .ok (.iconst 0, 1) := by decide +kernel
theorem d_Pt_addBehind_84 : decode c_Pt_addBehind 84 = .ok (.invokevirtual 20, 3) := by decide +kernel
theorem d_Pt_addBehind_87 : decode c_Pt_addBehind 87 = .ok (.return_, 1) := by decide +kernel
theorem d_Pr_acceptLetter_0 : decode c_Pr_acceptLetter 0 = .ok (.aload_n 2, 1) := by decide +kernel
theorem d_Pr_acceptLetter_1 : decode c_Pr_acceptLetter 1 = .ok (.getfield 77, 3) := by decide +kernel
theorem d_Pr_acceptLetter_4 : decode c_Pr_acceptLetter 4 = .ok (.bipush 8, 2) := by decide +kernel
theorem d_Pr_acceptLetter_6 : decode c_Pr_acceptLetter 6 = .ok (.if_icmp .lt 5, 3) := by decide +kernel
theorem d_Pr_acceptLetter_9 : decode c_Pr_acceptLetter 9 = .ok (.iconst 0, 1) := by decide +kernel
theorem d_Pr_acceptLetter_10 : decode c_Pr_acceptLetter 10 = .ok (.ireturn, 1) := by decide +kernel
theorem d_Pr_acceptLetter_11 : decode c_Pr_acceptLetter 11 = .ok (.aload_n 2, 1) := by decide +kernel
theorem d_Pr_acceptLetter_12 : decode c_Pr_acceptLetter 12 = .ok (.iload_n 1, 1) := by decide +kernel
theorem d_Pr_acceptLetter_13 : decode c_Pr_acceptLetter 13 = .ok (.invokevirtual 80, 3) := by decide +kernel
theorem d_Pr_acceptLetter_16 : decode c_Pr_acceptLetter 16 = .ok (.istore_n 3, 1) := by decide +kernel
theorem d_Pr_acceptLetter_17 : decode c_Pr_acceptLetter 17 = .ok (.aload_n 0, 1) := by decide +kernel
theorem d_Pr_acceptLetter_18 : decode c_Pr_acceptLetter 18 = .ok (.iload_n 3, 1) := by decide +kernel
theorem d_Pr_acceptLetter_19 : decode c_Pr_acceptLetter 19 = .ok (.iload_n 3, 1) := by decide +kernel
theorem d_Pr_acceptLetter_20 : decode c_Pr_acceptLetter 20 = .ok (.iconst 0, 1) := by decide +kernel
theorem d_Pr_acceptLetter_21 : decode c_Pr_acceptLetter 21 = .ok (.invokevirtual 62, 3) := by decide +kernel
theorem d_Pr_acceptLetter_24 : decode c_Pr_acceptLetter 24 = .ok (.iconst 1, 1) := by decide +kernel
theorem d_Pr_acceptLetter_25 : decode c_Pr_acceptLetter 25 = .ok (.ireturn, 1) := by decide +kernel
theorem d_Ex_addLetter_0 : decode c_Ex_addLetter 0 = .ok (.iconst 1, 1) := by decide +kernel
theorem d_Ex_addLetter_1 : decode c_Ex_addLetter 1 = .ok (.aload_n 0, 1) := by decide +kernel
theorem d_Ex_addLetter_2 : decode c_Ex_addLetter 2 = .ok (.getfield 22, 3) := by decide +kernel
theorem d_Ex_addLetter_5 : decode c_Ex_addLetter 5 = .ok (.ishl, 1) := by decide +kernel
theorem d_Ex_addLetter_6 : decode c_Ex_addLetter 6 = .ok (.istore_n 2, 1) := by decide +kernel
theorem d_Ex_addLetter_7 : decode c_Ex_addLetter 7 = .ok (.aload_n 0, 1) := by decide +kernel
theorem d_Ex_addLetter_8 : decode c_Ex_addLetter 8 = .ok (.getfield 15, 3) := by decide +kernel
theorem d_Ex_addLetter_11 : decode c_Ex_addLetter 11 = .ok (.iload_n 1, 1) := by decide +kernel
theorem d_Ex_addLetter_12 : decode c_Ex_addLetter 12 = .ok (.dup2, 1) := by decide +kernel
theorem d_Ex_addLetter_13 : decode c_Ex_addLetter 13 = .ok (.iaload, 1) := by decide +kernel
theorem d_Ex_addLetter_14 : decode c_Ex_addLetter 14 = .ok (.iload_n 2, 1) := by decide +kernel
theorem d_Ex_addLetter_15 : decode c_Ex_addLetter 15 = .ok (.ior, 1) := by decide +kernel
theorem d_Ex_addLetter_16 : decode c_Ex_addLetter 16 = .ok (.iastore, 1) := by decide +kernel
theorem d_Ex_addLetter_17 : decode c_Ex_addLetter 17 = .ok (.aload_n 0, 1) := by decide +kernel
theorem d_Ex_addLetter_18 : decode c_Ex_addLetter 18 = .ok (.dup, 1) := by decide +kernel
theorem d_Ex_addLetter_19 : decode c_Ex_addLetter 19 = .ok (.getfield 22, 3) := by decide +kernel
theorem d_Ex_addLetter_22 : decode c_Ex_addLetter 22 = .ok (.iconst 1, 1) := by decide +kernel
theorem d_Ex_addLetter_23 : decode c_Ex_addLetter 23 = .ok (.iadd, 1) := by decide +kernel
theorem d_Ex_addLetter_24 : decode c_Ex_addLetter 24 = .ok (.putfield 22, 3) := by decide +kernel
theorem d_Ex_addLetter_27 : decode c_Ex_addLetter 27 = .ok (.iload_n 2, 1) := by decide +kernel
theorem d_Ex_addLetter_28 : decode c_Ex_addLetter 28 = .ok (.ireturn, 1) := by decide +kernel
theorem d_Pr_setFactor_0 : decode c_Pr_setFactor 0 = .ok (.aload_n 0, 1) := by decide +kernel
theorem d_Pr_setFactor_1 : decode c_Pr_setFactor 1 = .ok (.getfield 21, 3) := by decide +kernel
theorem d_Pr_setFactor_4 : decode c_Pr_setFactor 4 = .ok (.iload_n 1, 1) := by decide +kernel
theorem d_Pr_setFactor_5 : decode c_Pr_setFactor 5 = .ok (.iload_n 2, 1) := by decide +kernel
theorem d_Pr_setFactor_6 : decode c_Pr_setFactor 6 = .ok (.iload_n 3, 1) := by decide +kernel
theorem d_Pr_setFactor_7 : decode c_Pr_setFactor 7 = .ok (.invokevirtual 93, 3) := by decide +kernel
theorem d_Pr_setFactor_10 : decode c_Pr_setFactor 10 = .ok (.aload_n 0, 1) := by decide +kernel
theorem d_Pr_setFactor_11 : decode c_Pr_setFactor 11 = .ok (.iconst 1, 1) := by decide +kernel
theorem d_Pr_setFactor_12 : decode c_Pr_setFactor 12 = .ok (.putfield 25, 3) := by decide +kernel
theorem d_Pr_setFactor_15 : decode c_Pr_setFactor 15 = .ok (.return_, 1) := by decide +kernel
theorem d_Pr_acceptOpening_0 : decode c_Pr_acceptOpening 0 = .ok (.aload_n 0, 1) := by decide +kernel
theorem d_Pr_acceptOpening_1 : decode c_Pr_acceptOpening 1 = .ok (.getfield 29, 3) := by decide +kernel
theorem d_Pr_acceptOpening_4 : decode c_Pr_acceptOpening 4 = .ok (.bipush 8, 2) := by decide +kernel
theorem d_Pr_acceptOpening_6 : decode c_Pr_acceptOpening 6 = .ok (.if_icmp .lt 5, 3) := by decide +kernel
theorem d_Pr_acceptOpening_9 : decode c_Pr_acceptOpening 9 = .ok (.iconst 0, 1) := by decide +kernel
theorem d_Pr_acceptOpening_10 : decode c_Pr_acceptOpening 10 = .ok (.ireturn, 1) := by decide +kernel
theorem d_Pr_acceptOpening_11 : decode c_Pr_acceptOpening 11 = .ok (.aload_n 0, 1) := by decide +kernel
theorem d_Pr_acceptOpening_12 : decode c_Pr_acceptOpening 12 = .ok (.dup, 1) := by decide +kernel
theorem d_Pr_acceptOpening_13 : decode c_Pr_acceptOpening 13 = .ok (.getfield 29, 3) := by decide +kernel
theorem d_Pr_acceptOpening_16 : decode c_Pr_acceptOpening 16 = .ok (.iconst 1, 1) := by decide +kernel
theorem d_Pr_acceptOpening_17 : decode c_Pr_acceptOpening 17 = .ok (.iadd, 1) := by decide +kernel
theorem d_Pr_acceptOpening_18 : decode c_Pr_acceptOpening 18 = .ok (.putfield 29, 3) := by decide +kernel
theorem d_Pr_acceptOpening_21 : decode c_Pr_acceptOpening 21 = .ok (.aload_n 0, 1) := by decide +kernel
theorem d_Pr_acceptOpening_22 : decode c_Pr_acceptOpening 22 = .ok (.invokevirtual 38, 3) := by decide +kernel
theorem d_Pr_acceptOpening_25 : decode c_Pr_acceptOpening 25 = .ok (.iconst 1, 1) := by decide +kernel
theorem d_Pr_acceptOpening_26 : decode c_Pr_acceptOpening 26 = .ok (.ireturn, 1) := by decide +kernel
theorem d_Pr_acceptClosing_0 : decode c_Pr_acceptClosing 0 = .ok (.aload_n 0, 1) := by decide +kernel
theorem d_Pr_acceptClosing_1 : decode c_Pr_acceptClosing 1 = .ok (.getfield 29, 3) := by decide +kernel
theorem d_Pr_acceptClosing_4 : decode c_Pr_acceptClosing 4 = .ok (.ifCond .gt 5, 3) := by decide +kernel
theorem d_Pr_acceptClosing_7 : decode c_Pr_acceptClosing 7 = .ok (.iconst 0, 1) := by decide +kernel
theorem d_Pr_acceptClosing_8 : decode c_Pr_acceptClosing 8 = .ok (.ireturn, 1) := by decide +kernel
theorem d_Pr_acceptClosing_9 : decode c_Pr_acceptClosing 9 = .ok (.aload_n 0, 1) := by decide +kernel
theorem d_Pr_acceptClosing_10 : decode c_Pr_acceptClosing 10 = .ok (.invokevirtual 49, 3) := by decide +kernel
theorem d_Pr_acceptClosing_13 : decode c_Pr_acceptClosing 13 = .ok (.aload_n 0, 1) := by decide +kernel
theorem d_Pr_acceptClosing_14 : decode c_Pr_acceptClosing 14 = .ok (.getfield 11, 3) := by decide +kernel
theorem d_Pr_acceptClosing_17 : decode c_Pr_acceptClosing 17 = .ok (.aload_n 0, 1) := by decide +kernel
theorem d_Pr_acceptClosing_18 : decode c_Pr_acceptClosing 18 = .ok (.getfield 29, 3) := by decide +kernel
theorem d_Pr_acceptClosing_21 : decode c_Pr_acceptClosing 21 = .ok (.aaload, 1) := by decide +kernel
theorem d_Pr_acceptClosing_22 : decode c_Pr_acceptClosing 22 = .ok (.astore_n 1, 1) := by decide +kernel
theorem d_Pr_acceptClosing_23 : decode c_Pr_acceptClosing 23 = .ok (.aload_n 0, 1) := by decide +kernel
theorem d_Pr_acceptClosing_24 : decode c_Pr_acceptClosing 24 = .ok (.dup, 1) := by decide +kernel
theorem d_Pr_acceptClosing_25 : decode c_Pr_acceptClosing 25 = .ok (.getfield 29, 3) := by decide +kernel
theorem d_Pr_acceptClosing_28 : decode c_Pr_acceptClosing 28 = .ok (.iconst 1, 1) := by decide +kernel
theorem d_Pr_acceptClosing_29 : decode c_Pr_acceptClosing 29 = .ok (.isub, 1) := by decide +kernel
theorem d_Pr_acceptClosing_30 : decode c_Pr_acceptClosing 30 = .ok (.putfield 29, 3) := by decide +kernel
theorem d_Pr_acceptClosing_33 : decode c_Pr_acceptClosing 33 = .ok (.aload_n 0, 1) := by decide +kernel
theorem d_Pr_acceptClosing_34 : decode c_Pr_acceptClosing 34 = .ok (.aload_n 1, 1) := by decide +kernel
theorem d_Pr_acceptClosing_35 : decode c_Pr_acceptClosing 35 = .ok (.getfield 84, 3) := by decide +kernel
theorem d_Pr_acceptClosing_38 : decode c_Pr_acceptClosing 38 = .ok (.aload_n 1, 1) := by decide +kernel
theorem d_Pr_acceptClosing_39 : decode c_Pr_acceptClosing 39 = .ok (.getfield 87, 3) := by decide +kernel
theorem d_Pr_acceptClosing_42 : decode c_Pr_acceptClosing 42 = .ok (.aload_n 1, 1) := by decide +kernel
theorem d_Pr_acceptClosing_43 : decode c_Pr_acceptClosing 43 = .ok (.getfield 90, 3) := by decide +kernel
theorem d_Pr_acceptClosing_46 : decode c_Pr_acceptClosing 46 = .ok (.invokevirtual 62, 3) := by decide +kernel
theorem d_Pr_acceptClosing_49 : decode c_Pr_acceptClosing 49 = .ok (.iconst 1, 1) := by decide +kernel
theorem d_Pr_acceptClosing_50 : decode c_Pr_acceptClosing 50 = .ok (.ireturn, 1) := by decide +kernel
theorem d_Pr_endRow_0 : decode c_Pr_endRow 0 = .ok (.aload_n 0, 1) := by decide +kernel
theorem d_Pr_endRow_1 : decode c_Pr_endRow 1 = .ok (.getfield 11, 3) := by decide +kernel
theorem d_Pr_endRow_4 : decode c_Pr_endRow 4 = .ok (.aload_n 0, 1) := by decide +kernel
theorem d_Pr_endRow_5 : decode c_Pr_endRow 5 = .ok (.getfield 29, 3) := by decide +kernel
theorem d_Pr_endRow_8 : decode c_Pr_endRow 8 = .ok (.aaload, 1) := by decide +kernel
theorem d_Pr_endRow_9 : decode c_Pr_endRow 9 = .ok (.aload_n 0, 1) := by decide +kernel
theorem d_Pr_endRow_10 : decode c_Pr_endRow 10 = .ok (.getfield 17, 3) := by decide +kernel
theorem d_Pr_endRow_13 : decode c_Pr_endRow 13 = .ok (.aload_n 0, 1) := by decide +kernel
theorem d_Pr_endRow_14 : decode c_Pr_endRow 14 = .ok (.getfield 29, 3) := by decide +kernel
theorem d_Pr_endRow_17 : decode c_Pr_endRow 17 = .ok (.aaload, 1) := by decide +kernel
theorem d_Pr_endRow_18 : decode c_Pr_endRow 18 = .ok (.invokevirtual 100, 3) := by decide +kernel
theorem d_Pr_endRow_21 : decode c_Pr_endRow 21 = .ok (.aload_n 0, 1) := by decide +kernel
theorem d_Pr_endRow_22 : decode c_Pr_endRow 22 = .ok (.getfield 17, 3) := by decide +kernel
theorem d_Pr_endRow_25 : decode c_Pr_endRow 25 = .ok (.aload_n 0, 1) := by decide +kernel
theorem d_Pr_endRow_26 : decode c_Pr_endRow 26 = .ok (.getfield 29, 3) := by decide +kernel
theorem d_Pr_endRow_29 : decode c_Pr_endRow 29 = .ok (.aaload, 1) := by decide +kernel
theorem d_Pr_endRow_30 : decode c_Pr_endRow 30 = .ok (.iconst 0, 1) := by decide +kernel
theorem d_Pr_endRow_31 : decode c_Pr_endRow 31 = .ok (.iconst 0, 1) := by decide +kernel
theorem d_Pr_endRow_32 : decode c_Pr_endRow 32 = .ok (.iconst 1, 1) := by decide +kernel
theorem d_Pr_endRow_33 : decode c_Pr_endRow 33 = .ok (.invokevirtual 93, 3) := by decide +kernel
theorem d_Pr_endRow_36 : decode c_Pr_endRow 36 = .ok (.return_, 1) := by decide +kernel
theorem d_Pt_addAlternative_0 : decode c_Pt_addAlternative 0 = .ok (.aload_n 0, 1) := by decide +kernel
theorem d_Pt_addAlternative_1 : decode c_Pt_addAlternative 1 = .ok (.aload_n 0, 1) := by decide +kernel
theorem d_Pt_addAlternative_2 : decode c_Pt_addAlternative 2 = .ok (.getfield 7, 3) := by decide +kernel
theorem d_Pt_addAlternative_5 : decode c_Pt_addAlternative 5 = .ok (.aload_n 1, 1) := by decide +kernel
theorem d_Pt_addAlternative_6 : decode c_Pt_addAlternative 6 = .ok (.getfield 7, 3) := by decide +kernel
theorem d_Pt_addAlternative_9 : decode c_Pt_addAlternative 9 = .ok (.ior, 1) := by decide +kernel
theorem d_Pt_addAlternative_10 : decode c_Pt_addAlternative 10 = .ok (.aload_n 0, 1) := by decide +kernel
theorem d_Pt_addAlternative_11 : decode c_Pt_addAlternative 11 = .ok (.getfield 13, 3) := by decide +kernel
theorem d_Pt_addAlternative_14 : decode c_Pt_addAlternative 14 = .ok (.aload_n 1, 1) := by decide +kernel
theorem d_Pt_addAlternative_15 : decode c_Pt_addAlternative 15 = .ok (.getfield 13, 3) := by decide +kernel
theorem d_Pt_addAlternative_18 : decode c_Pt_addAlternative 18 = .ok (.ior, 1) := by decide +kernel
theorem d_Pt_addAlternative_19 : decode c_Pt_addAlternative 19 = .ok (.aload_n 0, 1) := by decide +kernel
theorem d_Pt_addAlternative_20 : decode c_Pt_addAlternative 20 = .ok (.getfield 16, 3) := by decide +kernel
theorem d_Pt_addAlternative_23 : decode c_Pt_addAlternative 23 = .ok (.ifCond .ne 10, 3) := by decide +kernel
theorem d_Pt_addAlternative_26 : decode c_Pt_addAlternative 26 = .ok (.aload_n 1, 1) := by decide +kernel
theorem d_Pt_addAlternative_27 : decode c_Pt_addAlternative 27 = .ok (.getfield 16, 3) := by decide +kernel
theorem d_Pt_addAlternative_30 : decode c_Pt_addAlternative 30 = .ok (.ifCond .eq 7, 3) := by decide +kernel
theorem d_Pt_addAlternative_33 : decode c_Pt_addAlternative 33 = .ok (.iconst 1, 1) := by decide +kernel
theorem d_Pt_addAlternative_34 : decode c_Pt_addAlternative 34 = .ok (.goto 4, 3) := by decide +kernel
theorem d_Pt_addAlternative_37 : decode c_Pt_addAlternative 37 = .ok (.iconst 0, 1) := by decide +kernel
theorem d_Pt_addAlternative_38 : decode c_Pt_addAlternative 38 = .ok (.invokevirtual 20, 3) := by decide +kernel
theorem d_Pt_addAlternative_41 : decode c_Pt_addAlternative 41 = .ok (.return_, 1) := by decide +kernel
theorem d_Ex_setWhole_0 : decode c_Ex_setWhole 0 = .ok (.aload_n 0, 1) := by decide +kernel
theorem d_Ex_setWhole_1 : decode c_Ex_setWhole 1 = .ok (.getfield 11, 3) := by decide +kernel
theorem d_Ex_setWhole_4 : decode c_Ex_setWhole 4 = .ok (.bipush 8, 2) := by decide +kernel
theorem d_Ex_setWhole_6 : decode c_Ex_setWhole 6 = .ok (.aload_n 1, 1) := by decide +kernel
theorem d_Ex_setWhole_7 : decode c_Ex_setWhole 7 = .ok (.getfield 31, 3) := by decide +kernel
theorem d_Ex_setWhole_10 : decode c_Ex_setWhole 10 = .ok (.iastore, 1) := by decide +kernel
theorem d_Ex_setWhole_11 : decode c_Ex_setWhole 11 = .ok (.aload_n 0, 1) := by decide +kernel
theorem d_Ex_setWhole_12 : decode c_Ex_setWhole 12 = .ok (.aload_n 1, 1) := by decide +kernel
theorem d_Ex_setWhole_13 : decode c_Ex_setWhole 13 = .ok (.getfield 36, 3) := by decide +kernel
theorem d_Ex_setWhole_16 : decode c_Ex_setWhole 16 = .ok (.ifCond .eq 14, 3) := by decide +kernel
theorem d_Ex_setWhole_19 : decode c_Ex_setWhole 19 = .ok (.aload_n 1, 1) := by decide +kernel
theorem d_Ex_setWhole_20 : decode c_Ex_setWhole 20 = .ok (.getfield 40, 3) := by decide +kernel
theorem d_Ex_setWhole_23 : decode c_Ex_setWhole 23 = .ok (.sipush 256, 3) := by decide +kernel
theorem d_Ex_setWhole_26 : decode c_Ex_setWhole 26 = .ok (.ior, 1) := by decide +kernel
theorem d_Ex_setWhole_27 : decode c_Ex_setWhole 27 = .ok (.goto 7, 3) := by decide +kernel
theorem d_Ex_setWhole_30 : decode c_Ex_setWhole 30 = .ok (.aload_n 1, 1) := by decide +kernel
theorem d_Ex_setWhole_31 : decode c_Ex_setWhole 31 = .ok (.getfield 40, 3) := by decide +kernel
theorem d_Ex_setWhole_34 : decode c_Ex_setWhole 34 = .ok (.putfield 18, 3) := by decide +kernel
theorem d_Ex_setWhole_37 : decode c_Ex_setWhole 37 = .ok (.return_, 1) := by decide +kernel
theorem d_Ws_putSpare_0 : decode c_Ws_putSpare 0 = .ok (.aload_n 0, 1) := by decide +kernel
theorem d_Ws_putSpare_1 : decode c_Ws_putSpare 1 = .ok (.getfield 18, 3) := by decide +kernel
theorem d_Ws_putSpare_4 : decode c_Ws_putSpare 4 = .ok (.iload_n 1, 1) := by decide +kernel
theorem d_Ws_putSpare_5 : decode c_Ws_putSpare 5 = .ok (.aaload, 1) := by decide +kernel
theorem d_Ws_putSpare_6 : decode c_Ws_putSpare 6 = .ok (.astore_n 2, 1) := by decide +kernel
theorem d_Ws_putSpare_7 : decode c_Ws_putSpare 7 = .ok (.aload_n 0, 1) := by decide +kernel
theorem d_Ws_putSpare_8 : decode c_Ws_putSpare 8 = .ok (.getfield 18, 3) := by decide +kernel
theorem d_Ws_putSpare_11 : decode c_Ws_putSpare 11 = .ok (.iload_n 1, 1) := by decide +kernel
theorem d_Ws_putSpare_12 : decode c_Ws_putSpare 12 = .ok (.aload_n 0, 1) := by decide +kernel
theorem d_Ws_putSpare_13 : decode c_Ws_putSpare 13 = .ok (.getfield 55, 3) := by decide +kernel
theorem d_Ws_putSpare_16 : decode c_Ws_putSpare 16 = .ok (.aastore, 1) := by decide +kernel
theorem d_Ws_putSpare_17 : decode c_Ws_putSpare 17 = .ok (.aload_n 0, 1) := by decide +kernel
theorem d_Ws_putSpare_18 : decode c_Ws_putSpare 18 = .ok (.aload_n 2, 1) := by decide +kernel
theorem d_Ws_putSpare_19 : decode c_Ws_putSpare 19 = .ok (.putfield 55, 3) := by decide +kernel
theorem d_Ws_putSpare_22 : decode c_Ws_putSpare 22 = .ok (.return_, 1) := by decide +kernel
theorem d_Ws_has_0 : decode c_Ws_has 0 = .ok (.aload_n 0, 1) := by decide +kernel
theorem d_Ws_has_1 : decode c_Ws_has 1 = .ok (.getfield 10, 3) := by decide +kernel
theorem d_Ws_has_4 : decode c_Ws_has 4 = .ok (.invokevirtual 81, 3) := by decide +kernel
theorem d_Ws_has_7 : decode c_Ws_has 7 = .ok (.istore_n 2, 1) := by decide +kernel
theorem d_Ws_has_8 : decode c_Ws_has 8 = .ok (.iload_n 1, 1) := by decide +kernel
theorem d_Ws_has_9 : decode c_Ws_has 9 = .ok (.invokestatic 85, 3) := by decide +kernel
theorem d_Ws_has_12 : decode c_Ws_has 12 = .ok (.aload_n 0, 1) := by decide +kernel
theorem d_Ws_has_13 : decode c_Ws_has 13 = .ok (.getfield 10, 3) := by decide +kernel
theorem d_Ws_has_16 : decode c_Ws_has 16 = .ok (.iload_n 2, 1) := by decide +kernel
theorem d_Ws_has_17 : decode c_Ws_has 17 = .ok (.invokevirtual 105, 3) := by decide +kernel
theorem d_Ws_has_20 : decode c_Ws_has 20 = .ok (.ifCond .ne 13, 3) := by decide +kernel
theorem d_Ws_has_23 : decode c_Ws_has 23 = .ok (.new 62, 3) := by decide +kernel
theorem d_Ws_has_26 : decode c_Ws_has 26 = .ok (.dup, 1) := by decide +kernel
theorem d_Ws_has_27 : decode c_Ws_has 27 = .ok (.ldc 109, 2) := by decide +kernel
theorem d_Ws_has_29 : decode c_Ws_has 29 = .ok (.invokespecial 66, 3) := by decide +kernel
theorem d_Ws_has_32 : decode c_Ws_has 32 = .ok (.athrow, 1) := by decide +kernel
theorem d_Ws_has_33 : decode c_Ws_has 33 = .ok (.aload_n 0, 1) := by decide +kernel
theorem d_Ws_has_34 : decode c_Ws_has 34 = .ok (.getfield 18, 3) := by decide +kernel
theorem d_Ws_has_37 : decode c_Ws_has 37 = .ok (.iload_n 1, 1) := by decide +kernel
theorem d_Ws_has_38 : decode c_Ws_has 38 = .ok (.aaload, 1) := by decide +kernel
theorem d_Ws_has_39 : decode c_Ws_has 39 = .ok (.astore_n 3, 1) := by decide +kernel
theorem d_Ws_has_40 : decode c_Ws_has 40 = .ok (.sipush 256, 3) := by decide +kernel
theorem d_Ws_has_43 : decode c_Ws_has 43 = .ok (.istore 4, 2) := by decide +kernel
theorem d_Ws_has_45 : decode c_Ws_has 45 = .ok (.iconst 0, 1) := by decide +kernel
theorem d_Ws_has_46 : decode c_Ws_has 46 = .ok (.istore 5, 2) := by decide +kernel
theorem d_Ws_has_48 : decode c_Ws_has 48 = .ok (.iload 5, 2) := by decide +kernel
theorem d_Ws_has_50 : decode c_Ws_has 50 = .ok (.iload_n 2, 1) := by decide +kernel
theorem d_Ws_has_51 : decode c_Ws_has 51 = .ok (.if_icmp .ge 30, 3) := by decide +kernel
theorem d_Ws_has_54 : decode c_Ws_has 54 = .ok (.aload_n 3, 1) := by decide +kernel
theorem d_Ws_has_55 : decode c_Ws_has 55 = .ok (.iload 4, 2) := by decide +kernel
theorem d_Ws_has_57 : decode c_Ws_has 57 = .ok (.aload_n 0, 1) := by decide +kernel
theorem d_Ws_has_58 : decode c_Ws_has 58 = .ok (.getfield 10, 3) := by decide +kernel
theorem d_Ws_has_61 : decode c_Ws_has 61 = .ok (.getfield 89, 3) := by decide +kernel
theorem d_Ws_has_64 : decode c_Ws_has 64 = .ok (.iload 5, 2) := by decide +kernel
theorem d_Ws_has_66 : decode c_Ws_has 66 = .ok (.iaload, 1) := by decide +kernel
theorem d_Ws_has_67 : decode c_Ws_has 67 = .ok (.bipush 97, 2) := by decide +kernel
theorem d_Ws_has_69 : decode c_Ws_has 69 = .ok (.isub, 1) := by decide +kernel
theorem d_Ws_has_70 : decode c_Ws_has 70 = .ok (.invokevirtual 111, 3) := by decide +kernel
theorem d_Ws_has_73 : decode c_Ws_has 73 = .ok (.istore 4, 2) := by decide +kernel
theorem d_Ws_has_75 : decode c_Ws_has 75 = .ok (.iinc 5 1, 3) := by decide +kernel
theorem d_Ws_has_78 : decode c_Ws_has 78 = .ok (.goto (-30), 3) := by decide +kernel
theorem d_Ws_has_81 : decode c_Ws_has 81 = .ok (.aload_n 3, 1) := by decide +kernel
theorem d_Ws_has_82 : decode c_Ws_has 82 = .ok (.iload 4, 2) := by decide +kernel
theorem d_Ws_has_84 : decode c_Ws_has 84 = .ok (.invokevirtual 115, 3) := by decide +kernel
theorem d_Ws_has_87 : decode c_Ws_has 87 = .ok (.ireturn, 1) := by decide +kernel
theorem d_Ta_isWord_0 : decode c_Ta_isWord 0 = .ok (.iconst 0, 1) := by decide +kernel
theorem d_Ta_isWord_1 : decode c_Ta_isWord 1 = .ok (.istore_n 2, 1) := by decide +kernel
theorem d_Ta_isWord_2 : decode c_Ta_isWord 2 = .ok (.iload_n 2, 1) := by decide +kernel
theorem d_Ta_isWord_3 : decode c_Ta_isWord 3 = .ok (.iload_n 1, 1) := by decide +kernel
theorem d_Ta_isWord_4 : decode c_Ta_isWord 4 = .ok (.if_icmp .ge 33, 3) := by decide +kernel
theorem d_Ta_isWord_7 : decode c_Ta_isWord 7 = .ok (.aload_n 0, 1) := by decide +kernel
theorem d_Ta_isWord_8 : decode c_Ta_isWord 8 = .ok (.getfield 9, 3) := by decide +kernel
theorem d_Ta_isWord_11 : decode c_Ta_isWord 11 = .ok (.iload_n 2, 1) := by decide +kernel
theorem d_Ta_isWord_12 : decode c_Ta_isWord 12 = .ok (.iaload, 1) := by decide +kernel
theorem d_Ta_isWord_13 : decode c_Ta_isWord 13 = .ok (.bipush 97, 2) := by decide +kernel
theorem d_Ta_isWord_15 : decode c_Ta_isWord 15 = .ok (.if_icmp .lt 14, 3) := by decide +kernel
theorem d_Ta_isWord_18 : decode c_Ta_isWord 18 = .ok (.aload_n 0, 1) := by decide +kernel
theorem d_Ta_isWord_19 : decode c_Ta_isWord 19 = .ok (.getfield 9, 3) := by decide +kernel
theorem d_Ta_isWord_22 : decode c_Ta_isWord 22 = .ok (.iload_n 2, 1) := by decide +kernel
theorem d_Ta_isWord_23 : decode c_Ta_isWord 23 = .ok (.iaload, 1) := by decide +kernel
theorem d_Ta_isWord_24 : decode c_Ta_isWord 24 = .ok (.bipush 100, 2) := by decide +kernel
theorem d_Ta_isWord_26 : decode c_Ta_isWord 26 = .ok (.if_icmp .le 5, 3) := by decide +kernel
theorem d_Ta_isWord_29 : decode c_Ta_isWord 29 = .ok (.iconst 0, 1) := by decide +kernel
theorem d_Ta_isWord_30 : decode c_Ta_isWord 30 = .ok (.ireturn, 1) := by decide +kernel
theorem d_Ta_isWord_31 : decode c_Ta_isWord 31 = .ok (.iinc 2 1, 3) := by decide +kernel
theorem d_Ta_isWord_34 : decode c_Ta_isWord 34 = .ok (.goto (-32), 3) := by decide +kernel
theorem d_Ta_isWord_37 : decode c_Ta_isWord 37 = .ok (.iconst 1, 1) := by decide +kernel
theorem d_Ta_isWord_38 : decode c_Ta_isWord 38 = .ok (.ireturn, 1) := by decide +kernel
theorem d_Ex_step_0 : decode c_Ex_step 0 = .ok (.aload_n 0, 1) := by decide +kernel
theorem d_Ex_step_1 : decode c_Ex_step 1 = .ok (.iload_n 1, 1) := by decide +kernel
theorem d_Ex_step_2 : decode c_Ex_step 2 = .ok (.invokevirtual 43, 3) := by decide +kernel
theorem d_Ex_step_5 : decode c_Ex_step 5 = .ok (.aload_n 0, 1) := by decide +kernel
theorem d_Ex_step_6 : decode c_Ex_step 6 = .ok (.getfield 15, 3) := by decide +kernel
theorem d_Ex_step_9 : decode c_Ex_step 9 = .ok (.iload_n 2, 1) := by decide +kernel
theorem d_Ex_step_10 : decode c_Ex_step 10 = .ok (.iaload, 1) := by decide +kernel
theorem d_Ex_step_11 : decode c_Ex_step 11 = .ok (.iand, 1) := by decide +kernel
theorem d_Ex_step_12 : decode c_Ex_step 12 = .ok (.ireturn, 1) := by decide +kernel
theorem d_Ex_onward_0 : decode c_Ex_onward 0 = .ok (.iconst 0, 1) := by decide +kernel
theorem d_Ex_onward_1 : decode c_Ex_onward 1 = .ok (.istore_n 2, 1) := by decide +kernel
theorem d_Ex_onward_2 : decode c_Ex_onward 2 = .ok (.iconst 0, 1) := by decide +kernel
theorem d_Ex_onward_3 : decode c_Ex_onward 3 = .ok (.istore_n 3, 1) := by decide +kernel
theorem d_Ex_onward_4 : decode c_Ex_onward 4 = .ok (.iload_n 3, 1) := by decide +kernel
theorem d_Ex_onward_5 : decode c_Ex_onward 5 = .ok (.bipush 8, 2) := by decide +kernel
theorem d_Ex_onward_7 : decode c_Ex_onward 7 = .ok (.if_icmp .gt 26, 3) := by decide +kernel
theorem d_Ex_onward_10 : decode c_Ex_onward 10 = .ok (.iload_n 1, 1) := by decide +kernel
theorem d_Ex_onward_11 : decode c_Ex_onward 11 = .ok (.iload_n 3, 1) := by decide +kernel
theorem d_Ex_onward_12 : decode c_Ex_onward 12 = .ok (.ishr, 1) := by decide +kernel
theorem d_Ex_onward_13 : decode c_Ex_onward 13 = .ok (.iconst 1, 1) := by decide +kernel
theorem d_Ex_onward_14 : decode c_Ex_onward 14 = .ok (.iand, 1) := by decide +kernel
theorem d_Ex_onward_15 : decode c_Ex_onward 15 = .ok (.ifCond .eq 12, 3) := by decide +kernel
theorem d_Ex_onward_18 : decode c_Ex_onward 18 = .ok (.iload_n 2, 1) := by decide +kernel
theorem d_Ex_onward_19 : decode c_Ex_onward 19 = .ok (.aload_n 0, 1) := by decide +kernel
theorem d_Ex_onward_20 : decode c_Ex_onward 20 = .ok (.getfield 11, 3) := by decide +kernel
theorem d_Ex_onward_23 : decode c_Ex_onward 23 = .ok (.iload_n 3, 1) := by decide +kernel
theorem d_Ex_onward_24 : decode c_Ex_onward 24 = .ok (.iaload, 1) := by decide +kernel
theorem d_Ex_onward_25 : decode c_Ex_onward 25 = .ok (.ior, 1) := by decide +kernel
theorem d_Ex_onward_26 : decode c_Ex_onward 26 = .ok (.istore_n 2, 1) := by decide +kernel
theorem d_Ex_onward_27 : decode c_Ex_onward 27 = .ok (.iinc 3 1, 3) := by decide +kernel
theorem d_Ex_onward_30 : decode c_Ex_onward 30 = .ok (.goto (-26), 3) := by decide +kernel
theorem d_Ex_onward_33 : decode c_Ex_onward 33 = .ok (.iload_n 2, 1) := by decide +kernel
theorem d_Ex_onward_34 : decode c_Ex_onward 34 = .ok (.ireturn, 1) := by decide +kernel
theorem d_Ex_accepts_0 : decode c_Ex_accepts 0 = .ok (.iload_n 1, 1) := by decide +kernel
theorem d_Ex_accepts_1 : decode c_Ex_accepts 1 = .ok (.aload_n 0, 1) := by decide +kernel
theorem d_Ex_accepts_2 : decode c_Ex_accepts 2 = .ok (.getfield 18, 3) := by decide +kernel
theorem d_Ex_accepts_5 : decode c_Ex_accepts 5 = .ok (.iand, 1) := by decide +kernel
theorem d_Ex_accepts_6 : decode c_Ex_accepts 6 = .ok (.ifCond .eq 7, 3) := by decide +kernel
theorem d_Ex_accepts_9 : decode c_Ex_accepts 9 = .ok (.iconst 1, 1) := by decide +kernel
theorem d_Ex_accepts_10 : decode c_Ex_accepts 10 = .ok (.goto 4, 3) := by decide +kernel
theorem d_Ex_accepts_13 : decode c_Ex_accepts 13 = .ok (.iconst 0, 1) := by decide +kernel
theorem d_Ex_accepts_14 : decode c_Ex_accepts 14 = .ok (.ireturn, 1) := by decide +kernel
theorem d_Ws_compare_0 : decode c_Ws_compare 0 = .ok (.iload_n 1, 1) := by decide +kernel
theorem d_Ws_compare_1 : decode c_Ws_compare 1 = .ok (.invokestatic 85, 3) := by decide +kernel
theorem d_Ws_compare_4 : decode c_Ws_compare 4 = .ok (.iload_n 2, 1) := by decide +kernel
theorem d_Ws_compare_5 : decode c_Ws_compare 5 = .ok (.invokestatic 85, 3) := by decide +kernel
theorem d_Ws_compare_8 : decode c_Ws_compare 8 = .ok (.aload_n 0, 1) := by decide +kernel
theorem d_Ws_compare_9 : decode c_Ws_compare 9 = .ok (.getfield 44, 3) := by decide +kernel
theorem d_Ws_compare_12 : decode c_Ws_compare 12 = .ok (.aload_n 0, 1) := by decide +kernel
theorem d_Ws_compare_13 : decode c_Ws_compare 13 = .ok (.getfield 18, 3) := by decide +kernel
theorem d_Ws_compare_16 : decode c_Ws_compare 16 = .ok (.iload_n 1, 1) := by decide +kernel
theorem d_Ws_compare_17 : decode c_Ws_compare 17 = .ok (.aaload, 1) := by decide +kernel
theorem d_Ws_compare_18 : decode c_Ws_compare 18 = .ok (.aload_n 0, 1) := by decide +kernel
theorem d_Ws_compare_19 : decode c_Ws_compare 19 = .ok (.getfield 18, 3) := by decide +kernel
theorem d_Ws_compare_22 : decode c_Ws_compare 22 = .ok (.iload_n 2, 1) := by decide +kernel
theorem d_Ws_compare_23 : decode c_Ws_compare 23 = .ok (.aaload, 1) := by decide +kernel
theorem d_Ws_compare_24 : decode c_Ws_compare 24 = .ok (.iconst 3, 1) := by decide +kernel
theorem d_Ws_compare_25 : decode c_Ws_compare 25 = .ok (.aload_n 0, 1) := by decide +kernel
theorem d_Ws_compare_26 : decode c_Ws_compare 26 = .ok (.getfield 51, 3) := by decide +kernel
theorem d_Ws_compare_29 : decode c_Ws_compare 29 = .ok (.invokevirtual 118, 3) := by decide +kernel
theorem d_Ws_compare_32 : decode c_Ws_compare 32 = .ok (.ireturn, 1) := by decide +kernel
theorem d_Se_part_0 : decode c_Se_part 0 = .ok (.aload_n 0, 1) := by decide +kernel
theorem d_Se_part_1 : decode c_Se_part 1 = .ok (.getfield 9, 3) := by decide +kernel
theorem d_Se_part_4 : decode c_Se_part 4 = .ok (.lconst 0, 1) := by decide +kernel
theorem d_Se_part_5 : decode c_Se_part 5 = .ok (.invokestatic 29, 3) := by decide +kernel
theorem d_Se_part_8 : decode c_Se_part 8 = .ok (.aload_n 0, 1) := by decide +kernel
theorem d_Se_part_9 : decode c_Se_part 9 = .ok (.iconst 0, 1) := by decide +kernel
theorem d_Se_part_10 : decode c_Se_part 10 = .ok (.putfield 25, 3) := by decide +kernel
theorem d_Se_part_13 : decode c_Se_part 13 = .ok (.aload_n 0, 1) := by decide +kernel
theorem d_Se_part_14 : decode c_Se_part 14 = .ok (.sipush 256, 3) := by decide +kernel
theorem d_Se_part_17 : decode c_Se_part 17 = .ok (.sipush 256, 3) := by decide +kernel
theorem d_Se_part_20 : decode c_Se_part 20 = .ok (.iconst 0, 1) := by decide +kernel
theorem d_Se_part_21 : decode c_Se_part 21 = .ok (.invokevirtual 37, 3) := by decide +kernel
theorem d_Se_part_24 : decode c_Se_part 24 = .ok (.iconst 0, 1) := by decide +kernel
theorem d_Se_part_25 : decode c_Se_part 25 = .ok (.istore 5, 2) := by decide +kernel
theorem d_Se_part_27 : decode c_Se_part 27 = .ok (.iload 5, 2) := by decide +kernel
theorem d_Se_part_29 : decode c_Se_part 29 = .ok (.aload_n 0, 1) := by decide +kernel
theorem d_Se_part_30 : decode c_Se_part 30 = .ok (.getfield 25, 3) := by decide +kernel
theorem d_Se_part_33 : decode c_Se_part 33 = .ok (.if_icmp .ge 69, 3) := by decide +kernel
theorem d_Se_part_36 : decode c_Se_part 36 = .ok (.iload 5, 2) := by decide +kernel
theorem d_Se_part_38 : decode c_Se_part 38 = .ok (.ldc 41, 2) := by decide +kernel
theorem d_Se_part_40 : decode c_Se_part 40 = .ok (.if_icmp .ge 62, 3) := by decide +kernel
theorem d_Se_part_43 : decode c_Se_part 43 = .ok (.aload_n 1, 1) := by decide +kernel
theorem d_Se_part_44 : decode c_Se_part 44 = .ok (.aload_n 0, 1) := by decide +kernel
theorem d_Se_part_45 : decode c_Se_part 45 = .ok (.getfield 15, 3) := by decide +kernel
theorem d_Se_part_48 : decode c_Se_part 48 = .ok (.iload 5, 2) := by decide +kernel
theorem d_Se_part_50 : decode c_Se_part 50 = .ok (.iaload, 1) := by decide +kernel
theorem d_Se_part_51 : decode c_Se_part 51 = .ok (.invokevirtual 42, 3) := by decide +kernel
theorem d_Se_part_54 : decode c_Se_part 54 = .ok (.aload_n 2, 1) := by decide +kernel
theorem d_Se_part_55 : decode c_Se_part 55 = .ok (.aload_n 0, 1) := by decide +kernel
theorem d_Se_part_56 : decode c_Se_part 56 = .ok (.getfield 19, 3) := by decide +kernel
theorem d_Se_part_59 : decode c_Se_part 59 = .ok (.iload 5, 2) := by decide +kernel
theorem d_Se_part_61 : decode c_Se_part 61 = .ok (.iaload, 1) := by decide +kernel
theorem d_Se_part_62 : decode c_Se_part 62 = .ok (.invokevirtual 42, 3) := by decide +kernel
theorem d_Se_part_65 : decode c_Se_part 65 = .ok (.invokestatic 46, 3) := by decide +kernel
theorem d_Se_part_68 : decode c_Se_part 68 = .ok (.iload_n 3, 1) := by decide +kernel
theorem d_Se_part_69 : decode c_Se_part 69 = .ok (.iand, 1) := by decide +kernel
theorem d_Se_part_70 : decode c_Se_part 70 = .ok (.istore 6, 2) := by decide +kernel
theorem d_Se_part_72 : decode c_Se_part 72 = .ok (.iload 6, 2) := by decide +kernel
theorem d_Se_part_74 : decode c_Se_part 74 = .ok (.ifCond .eq 14, 3) := by decide +kernel
theorem d_Se_part_77 : decode c_Se_part 77 = .ok (.aload_n 0, 1) := by decide +kernel
theorem d_Se_part_78 : decode c_Se_part 78 = .ok (.iload 5, 2) := by decide +kernel
theorem d_Se_part_80 : decode c_Se_part 80 = .ok (.aload 4, 2) := by decide +kernel
theorem d_Se_part_82 : decode c_Se_part 82 = .ok (.invokevirtual 50, 3) := by decide +kernel
theorem d_Se_part_85 : decode c_Se_part 85 = .ok (.iload 6, 2) := by decide +kernel
theorem d_Se_part_87 : decode c_Se_part 87 = .ok (.ireturn, 1) := by decide +kernel
theorem d_Se_part_88 : decode c_Se_part 88 = .ok (.aload_n 0, 1) := by decide +kernel
theorem d_Se_part_89 : decode c_Se_part 89 = .ok (.iload 5, 2) := by decide +kernel
theorem d_Se_part_91 : decode c_Se_part 91 = .ok (.aload_n 1, 1) := by decide +kernel
theorem d_Se_part_92 : decode c_Se_part 92 = .ok (.aload_n 2, 1) := by decide +kernel
theorem d_Se_part_93 : decode c_Se_part 93 = .ok (.invokevirtual 54, 3) := by decide +kernel
theorem d_Se_part_96 : decode c_Se_part 96 = .ok (.iinc 5 1, 3) := by decide +kernel
theorem d_Se_part_99 : decode c_Se_part 99 = .ok (.goto (-72), 3) := by decide +kernel
theorem d_Se_part_102 : decode c_Se_part 102 = .ok (.aload 4, 2) := by decide +kernel
theorem d_Se_part_104 : decode c_Se_part 104 = .ok (.iconst 0, 1) := by decide +kernel
theorem d_Se_part_105 : decode c_Se_part 105 = .ok (.invokevirtual 58, 3) := by decide +kernel
theorem d_Se_part_108 : decode c_Se_part 108 = .ok (.iconst 0, 1) := by decide +kernel
theorem d_Se_part_109 : decode c_Se_part 109 = .ok (.ireturn, 1) := by decide +kernel
theorem d_Se_append_0 : decode c_Se_append 0 = .ok (.aload_n 0, 1) := by decide +kernel
theorem d_Se_append_1 : decode c_Se_append 1 = .ok (.getfield 25, 3) := by decide +kernel
theorem d_Se_append_4 : decode c_Se_append 4 = .ok (.aload_n 0, 1) := by decide +kernel
theorem d_Se_append_5 : decode c_Se_append 5 = .ok (.getfield 15, 3) := by decide +kernel
theorem d_Se_append_8 : decode c_Se_append 8 = .ok (.arraylength, 1) := by decide +kernel
theorem d_Se_append_9 : decode c_Se_append 9 = .ok (.if_icmp .lt 54, 3) := by decide +kernel
theorem d_Se_append_12 : decode c_Se_append 12 = .ok (.aload_n 0, 1) := by decide +kernel
theorem d_Se_append_13 : decode c_Se_append 13 = .ok (.aload_n 0, 1) := by decide +kernel
theorem d_Se_append_14 : decode c_Se_append 14 = .ok (.getfield 15, 3) := by decide +kernel
theorem d_Se_append_17 : decode c_Se_append 17 = .ok (.iconst 2, 1) := by decide +kernel
theorem d_Se_append_18 : decode c_Se_append 18 = .ok (.aload_n 0, 1) := by decide +kernel
theorem d_Se_append_19 : decode c_Se_append 19 = .ok (.getfield 25, 3) := by decide +kernel
theorem d_Se_append_22 : decode c_Se_append 22 = .ok (.imul, 1) := by decide +kernel
theorem d_Se_append_23 : decode c_Se_append 23 = .ok (.invokestatic 75, 3) := by decide +kernel
theorem d_Se_append_26 : decode c_Se_append 26 = .ok (.putfield 15, 3) := by decide +kernel
theorem d_Se_append_29 : decode c_Se_append 29 = .ok (.aload_n 0, 1) := by decide +kernel
theorem d_Se_append_30 : decode c_Se_append 30 = .ok (.aload_n 0, 1) := by decide +kernel
theorem d_Se_append_31 : decode c_Se_append 31 = .ok (.getfield 19, 3) := by decide +kernel
theorem d_Se_append_34 : decode c_Se_append 34 = .ok (.iconst 2, 1) := by decide +kernel
theorem d_Se_append_35 : decode c_Se_append 35 = .ok (.aload_n 0, 1) := by decide +kernel
theorem d_Se_append_36 : decode c_Se_append 36 = .ok (.getfield 25, 3) := by decide +kernel
theorem d_Se_append_39 : decode c_Se_append 39 = .ok (.imul, 1) := by decide +kernel
theorem d_Se_append_40 : decode c_Se_append 40 = .ok (.invokestatic 75, 3) := by decide +kernel
theorem d_Se_append_43 : decode c_Se_append 43 = .ok (.putfield 19, 3) := by decide +kernel
theorem d_Se_append_46 : decode c_Se_append 46 = .ok (.aload_n 0, 1) := by decide +kernel
theorem d_Se_append_47 : decode c_Se_append 47 = .ok (.aload_n 0, 1) := by decide +kernel
theorem d_Se_append_48 : decode c_Se_append 48 = .ok (.getfield 22, 3) := by decide +kernel
theorem d_Se_append_51 : decode c_Se_append 51 = .ok (.iconst 2, 1) := by decide +kernel
theorem d_Se_append_52 : decode c_Se_append 52 = .ok (.aload_n 0, 1) := by decide +kernel
theorem d_Se_append_53 : decode c_Se_append 53 = .ok (.getfield 25, 3) := by decide +kernel
theorem d_Se_append_56 : decode c_Se_append 56 = .ok (.imul, 1) := by decide +kernel
theorem d_Se_append_57 : decode c_Se_append 57 = .ok (.invokestatic 75, 3) := by decide +kernel
theorem d_Se_append_60 : decode c_Se_append 60 = .ok (.putfield 22, 3) := by decide +kernel
theorem d_Se_append_63 : decode c_Se_append 63 = .ok (.aload_n 0, 1) := by decide +kernel
theorem d_Se_append_64 : decode c_Se_append 64 = .ok (.getfield 15, 3) := by decide +kernel
theorem d_Se_append_67 : decode c_Se_append 67 = .ok (.aload_n 0, 1) := by decide +kernel
theorem d_Se_append_68 : decode c_Se_append 68 = .ok (.getfield 25, 3) := by decide +kernel
theorem d_Se_append_71 : decode c_Se_append 71 = .ok (.iload_n 1, 1) := by decide +kernel
theorem d_Se_append_72 : decode c_Se_append 72 = .ok (.iastore, 1) := by decide +kernel
theorem d_Se_append_73 : decode c_Se_append 73 = .ok (.aload_n 0, 1) := by decide +kernel
theorem d_Se_append_74 : decode c_Se_append 74 = .ok (.getfield 19, 3) := by decide +kernel
theorem d_Se_append_77 : decode c_Se_append 77 = .ok (.aload_n 0, 1) := by decide +kernel
theorem d_Se_append_78 : decode c_Se_append 78 = .ok (.getfield 25, 3) := by decide +kernel
theorem d_Se_append_81 : decode c_Se_append 81 = .ok (.iload_n 2, 1) := by decide +kernel
theorem d_Se_append_82 : decode c_Se_append 82 = .ok (.iastore, 1) := by decide +kernel
theorem d_Se_append_83 : decode c_Se_append 83 = .ok (.aload_n 0, 1) := by decide +kernel
theorem d_Se_append_84 : decode c_Se_append 84 = .ok (.getfield 22, 3) := by decide +kernel
theorem d_Se_append_87 : decode c_Se_append 87 = .ok (.aload_n 0, 1) := by decide +kernel
theorem d_Se_append_88 : decode c_Se_append 88 = .ok (.getfield 25, 3) := by decide +kernel
theorem d_Se_append_91 : decode c_Se_append 91 = .ok (.iload_n 3, 1) := by decide +kernel
theorem d_Se_append_92 : decode c_Se_append 92 = .ok (.iastore, 1) := by decide +kernel
theorem d_Se_append_93 : decode c_Se_append 93 = .ok (.aload_n 0, 1) := by decide +kernel
theorem d_Se_append_94 : decode c_Se_append 94 = .ok (.dup, 1) := by decide +kernel
theorem d_Se_append_95 : decode c_Se_append 95 = .ok (.getfield 25, 3) := by decide +kernel
theorem d_Se_append_98 : decode c_Se_append 98 = .ok (.iconst 1, 1) := by decide +kernel
theorem d_Se_append_99 : decode c_Se_append 99 = .ok (.iadd, 1) := by decide +kernel
theorem d_Se_append_100 : decode c_Se_append 100 = .ok (.putfield 25, 3) := by decide +kernel
theorem d_Se_append_103 : decode c_Se_append 103 = .ok (.return_, 1) := by decide +kernel
theorem d_Se_whoAlone_0 : decode c_Se_whoAlone 0 = .ok (.iload_n 0, 1) := by decide +kernel
theorem d_Se_whoAlone_1 : decode c_Se_whoAlone 1 = .ok (.iload_n 1, 1) := by decide +kernel
theorem d_Se_whoAlone_2 : decode c_Se_whoAlone 2 = .ok (.if_icmp .ne 5, 3) := by decide +kernel
theorem d_Se_whoAlone_5 : decode c_Se_whoAlone 5 = .ok (.iconst 0, 1) := by decide +kernel
theorem d_Se_whoAlone_6 : decode c_Se_whoAlone 6 = .ok (.ireturn, 1) := by decide +kernel
theorem d_Se_whoAlone_7 : decode c_Se_whoAlone 7 = .ok (.iload_n 0, 1) := by decide +kernel
theorem d_Se_whoAlone_8 : decode c_Se_whoAlone 8 = .ok (.ifCond .eq 7, 3) := by decide +kernel
theorem d_Se_whoAlone_11 : decode c_Se_whoAlone 11 = .ok (.iconst 1, 1) := by decide +kernel
theorem d_Se_whoAlone_12 : decode c_Se_whoAlone 12 = .ok (.goto 4, 3) := by decide +kernel
theorem d_Se_whoAlone_15 : decode c_Se_whoAlone 15 = .ok (.iconst 2, 1) := by decide +kernel
theorem d_Se_whoAlone_16 : decode c_Se_whoAlone 16 = .ok (.ireturn, 1) := by decide +kernel
theorem d_Se_spellWay_0 : decode c_Se_spellWay 0 = .ok (.iconst 0, 1) := by decide +kernel
theorem d_Se_spellWay_1 : decode c_Se_spellWay 1 = .ok (.istore_n 3, 1) := by decide +kernel
theorem d_Se_spellWay_2 : decode c_Se_spellWay 2 = .ok (.iload_n 1, 1) := by decide +kernel
theorem d_Se_spellWay_3 : decode c_Se_spellWay 3 = .ok (.istore 4, 2) := by decide +kernel
theorem d_Se_spellWay_5 : decode c_Se_spellWay 5 = .ok (.iload 4, 2) := by decide +kernel
theorem d_Se_spellWay_7 : decode c_Se_spellWay 7 = .ok (.ifCond .le 28, 3) := by decide +kernel
theorem d_Se_spellWay_10 : decode c_Se_spellWay 10 = .ok (.iload_n 3, 1) := by decide +kernel
theorem d_Se_spellWay_11 : decode c_Se_spellWay 11 = .ok (.aload_n 0, 1) := by decide +kernel
theorem d_Se_spellWay_12 : decode c_Se_spellWay 12 = .ok (.getfield 25, 3) := by decide +kernel
theorem d_Se_spellWay_15 : decode c_Se_spellWay 15 = .ok (.if_icmp .ge 20, 3) := by decide +kernel
theorem d_Se_spellWay_18 : decode c_Se_spellWay 18 = .ok (.iinc 3 1, 3) := by decide +kernel
theorem d_Se_spellWay_21 : decode c_Se_spellWay 21 = .ok (.aload_n 0, 1) := by decide +kernel
theorem d_Se_spellWay_22 : decode c_Se_spellWay 22 = .ok (.getfield 22, 3) := by decide +kernel
theorem d_Se_spellWay_25 : decode c_Se_spellWay 25 = .ok (.iload 4, 2) := by decide +kernel
theorem d_Se_spellWay_27 : decode c_Se_spellWay 27 = .ok (.iaload, 1) := by decide +kernel
theorem d_Se_spellWay_28 : decode c_Se_spellWay 28 = .ok (.iconst 4, 1) := by decide +kernel
theorem d_Se_spellWay_29 : decode c_Se_spellWay 29 = .ok (.idiv, 1) := by decide +kernel
theorem d_Se_spellWay_30 : decode c_Se_spellWay 30 = .ok (.istore 4, 2) := by decide +kernel
theorem d_Se_spellWay_32 : decode c_Se_spellWay 32 = .ok (.goto (-27), 3) := by decide +kernel
theorem d_Se_spellWay_35 : decode c_Se_spellWay 35 = .ok (.aload_n 2, 1) := by decide +kernel
theorem d_Se_spellWay_36 : decode c_Se_spellWay 36 = .ok (.iload_n 3, 1) := by decide +kernel
theorem d_Se_spellWay_37 : decode c_Se_spellWay 37 = .ok (.invokevirtual 58, 3) := by decide +kernel
theorem d_Se_spellWay_40 : decode c_Se_spellWay 40 = .ok (.iload_n 1, 1) := by decide +kernel
theorem d_Se_spellWay_41 : decode c_Se_spellWay 41 = .ok (.istore 4, 2) := by decide +kernel
theorem d_Se_spellWay_43 : decode c_Se_spellWay 43 = .ok (.iload_n 3, 1) := by decide +kernel
theorem d_Se_spellWay_44 : decode c_Se_spellWay 44 = .ok (.iconst 1, 1) := by decide +kernel
theorem d_Se_spellWay_45 : decode c_Se_spellWay 45 = .ok (.isub, 1) := by decide +kernel
theorem d_Se_spellWay_46 : decode c_Se_spellWay 46 = .ok (.istore 5, 2) := by decide +kernel
theorem d_Se_spellWay_48 : decode c_Se_spellWay 48 = .ok (.iload 5, 2) := by decide +kernel
theorem d_Se_spellWay_50 : decode c_Se_spellWay 50 = .ok (.ifCond .lt 36, 3) := by decide +kernel
theorem d_Se_spellWay_53 : decode c_Se_spellWay 53 = .ok (.aload_n 2, 1) := by decide +kernel
theorem d_Se_spellWay_54 : decode c_Se_spellWay 54 = .ok (.getfield 79, 3) := by decide +kernel
theorem d_Se_spellWay_57 : decode c_Se_spellWay 57 = .ok (.iload 5, 2) := by decide +kernel
theorem d_Se_spellWay_59 : decode c_Se_spellWay 59 = .ok (.aload_n 0, 1) := by decide +kernel
theorem d_Se_spellWay_60 : decode c_Se_spellWay 60 = .ok (.getfield 22, 3) := by decide +kernel
theorem d_Se_spellWay_63 : decode c_Se_spellWay 63 = .ok (.iload 4, 2) := by decide +kernel
theorem d_Se_spellWay_65 : decode c_Se_spellWay 65 = .ok (.iaload, 1) := by decide +kernel
theorem d_Se_spellWay_66 : decode c_Se_spellWay 66 = .ok (.iconst 4, 1) := by decide +kernel
theorem d_Se_spellWay_67 : decode c_Se_spellWay 67 = .ok (.irem, 1) := by decide +kernel
theorem d_Se_spellWay_68 : decode c_Se_spellWay 68 = .ok (.iastore, 1) := by decide +kernel
theorem d_Se_spellWay_69 : decode c_Se_spellWay 69 = .ok (.aload_n 0, 1) := by decide +kernel
theorem d_Se_spellWay_70 : decode c_Se_spellWay 70 = .ok (.getfield 22, 3) := by decide +kernel
theorem d_Se_spellWay_73 : decode c_Se_spellWay 73 = .ok (.iload 4, 2) := by decide +kernel
theorem d_Se_spellWay_75 : decode c_Se_spellWay 75 = .ok (.iaload, 1) := by decide +kernel
theorem d_Se_spellWay_76 : decode c_Se_spellWay 76 = .ok (.iconst 4, 1) := by decide +kernel
theorem d_Se_spellWay_77 : decode c_Se_spellWay 77 = .ok (.idiv, 1) := by decide +kernel
theorem d_Se_spellWay_78 : decode c_Se_spellWay 78 = .ok (.istore 4, 2) := by decide +kernel
theorem d_Se_spellWay_80 : decode c_Se_spellWay 80 = .ok (.iinc 5 (-1), 3) := by decide +kernel
theorem d_Se_spellWay_83 : decode c_Se_spellWay 83 = .ok (.goto (-35), 3) := by decide +kernel
theorem d_Se_spellWay_86 : decode c_Se_spellWay 86 = .ok (.return_, 1) := by decide +kernel
theorem d_Wo_resize_0 : decode c_Wo_resize 0 = .ok (.iload_n 1, 1) := by decide +kernel
theorem d_Wo_resize_1 : decode c_Wo_resize 1 = .ok (.aload_n 0, 1) := by decide +kernel
theorem d_Wo_resize_2 : decode c_Wo_resize 2 = .ok (.getfield 9, 3) := by decide +kernel
theorem d_Wo_resize_5 : decode c_Wo_resize 5 = .ok (.arraylength, 1) := by decide +kernel
theorem d_Wo_resize_6 : decode c_Wo_resize 6 = .ok (.if_icmp .le 10, 3) := by decide +kernel
theorem d_Wo_resize_9 : decode c_Wo_resize 9 = .ok (.aload_n 0, 1) := by decide +kernel
theorem d_Wo_resize_10 : decode c_Wo_resize 10 = .ok (.iload_n 1, 1) := by decide +kernel
theorem d_Wo_resize_11 : decode c_Wo_resize 11 = .ok (.newarray .int, 2) := by decide +kernel
theorem d_Wo_resize_13 : decode c_Wo_resize 13 = .ok (.putfield 9, 3) := by decide +kernel
theorem d_Wo_resize_16 : decode c_Wo_resize 16 = .ok (.aload_n 0, 1) := by decide +kernel
theorem d_Wo_resize_17 : decode c_Wo_resize 17 = .ok (.iload_n 1, 1) := by decide +kernel
theorem d_Wo_resize_18 : decode c_Wo_resize 18 = .ok (.putfield 15, 3) := by decide +kernel
theorem d_Wo_resize_21 : decode c_Wo_resize 21 = .ok (.return_, 1) := by decide +kernel
theorem d_Se_goOn_0 : decode c_Se_goOn 0 = .ok (.aload_n 2, 1) := by decide +kernel
theorem d_Se_goOn_1 : decode c_Se_goOn 1 = .ok (.aload_n 0, 1) := by decide +kernel
theorem d_Se_goOn_2 : decode c_Se_goOn 2 = .ok (.getfield 15, 3) := by decide +kernel
theorem d_Se_goOn_5 : decode c_Se_goOn 5 = .ok (.iload_n 1, 1) := by decide +kernel
theorem d_Se_goOn_6 : decode c_Se_goOn 6 = .ok (.iaload, 1) := by decide +kernel
theorem d_Se_goOn_7 : decode c_Se_goOn 7 = .ok (.invokevirtual 64, 3) := by decide +kernel
theorem d_Se_goOn_10 : decode c_Se_goOn 10 = .ok (.istore 4, 2) := by decide +kernel
theorem d_Se_goOn_12 : decode c_Se_goOn 12 = .ok (.aload_n 3, 1) := by decide +kernel
theorem d_Se_goOn_13 : decode c_Se_goOn 13 = .ok (.aload_n 0, 1) := by decide +kernel
theorem d_Se_goOn_14 : decode c_Se_goOn 14 = .ok (.getfield 19, 3) := by decide +kernel
theorem d_Se_goOn_17 : decode c_Se_goOn 17 = .ok (.iload_n 1, 1) := by decide +kernel
theorem d_Se_goOn_18 : decode c_Se_goOn 18 = .ok (.iaload, 1) := by decide +kernel
theorem d_Se_goOn_19 : decode c_Se_goOn 19 = .ok (.invokevirtual 64, 3) := by decide +kernel
theorem d_Se_goOn_22 : decode c_Se_goOn 22 = .ok (.istore 5, 2) := by decide +kernel
theorem d_Se_goOn_24 : decode c_Se_goOn 24 = .ok (.iconst 0, 1) := by decide +kernel
theorem d_Se_goOn_25 : decode c_Se_goOn 25 = .ok (.istore 6, 2) := by decide +kernel
theorem d_Se_goOn_27 : decode c_Se_goOn 27 = .ok (.iload 6, 2) := by decide +kernel
theorem d_Se_goOn_29 : decode c_Se_goOn 29 = .ok (.iconst 4, 1) := by decide +kernel
theorem d_Se_goOn_30 : decode c_Se_goOn 30 = .ok (.if_icmp .ge 58, 3) := by decide +kernel
theorem d_Se_goOn_33 : decode c_Se_goOn 33 = .ok (.iload 4, 2) := by decide +kernel
theorem d_Se_goOn_35 : decode c_Se_goOn 35 = .ok (.aload_n 2, 1) := by decide +kernel
theorem d_Se_goOn_36 : decode c_Se_goOn 36 = .ok (.getfield 68, 3) := by decide +kernel
theorem d_Se_goOn_39 : decode c_Se_goOn 39 = .ok (.iload 6, 2) := by decide +kernel
theorem d_Se_goOn_41 : decode c_Se_goOn 41 = .ok (.iaload, 1) := by decide +kernel
theorem d_Se_goOn_42 : decode c_Se_goOn 42 = .ok (.iand, 1) := by decide +kernel
theorem d_Se_goOn_43 : decode c_Se_goOn 43 = .ok (.istore 7, 2) := by decide +kernel
theorem d_Se_goOn_45 : decode c_Se_goOn 45 = .ok (.iload 5, 2) := by decide +kernel
theorem d_Se_goOn_47 : decode c_Se_goOn 47 = .ok (.aload_n 3, 1) := by decide +kernel
theorem d_Se_goOn_48 : decode c_Se_goOn 48 = .ok (.getfield 68, 3) := by decide +kernel
theorem d_Se_goOn_51 : decode c_Se_goOn 51 = .ok (.iload 6, 2) := by decide +kernel
theorem d_Se_goOn_53 : decode c_Se_goOn 53 = .ok (.iaload, 1) := by decide +kernel
theorem d_Se_goOn_54 : decode c_Se_goOn 54 = .ok (.iand, 1) := by decide +kernel
theorem d_Se_goOn_55 : decode c_Se_goOn 55 = .ok (.istore 8, 2) := by decide +kernel
theorem d_Se_goOn_57 : decode c_Se_goOn 57 = .ok (.aload_n 0, 1) := by decide +kernel
theorem d_Se_goOn_58 : decode c_Se_goOn 58 = .ok (.iload 7, 2) := by decide +kernel
theorem d_Se_goOn_60 : decode c_Se_goOn 60 = .ok (.iload 8, 2) := by decide +kernel
theorem d_Se_goOn_62 : decode c_Se_goOn 62 = .ok (.invokevirtual 71, 3) := by decide +kernel
theorem d_Se_goOn_65 : decode c_Se_goOn 65 = .ok (.ifCond .eq 17, 3) := by decide +kernel
theorem d_Se_goOn_68 : decode c_Se_goOn 68 = .ok (.aload_n 0, 1) := by decide +kernel
theorem d_Se_goOn_69 : decode c_Se_goOn 69 = .ok (.iload 7, 2) := by decide +kernel
theorem d_Se_goOn_71 : decode c_Se_goOn 71 = .ok (.iload 8, 2) := by decide +kernel
theorem d_Se_goOn_73 : decode c_Se_goOn 73 = .ok (.iload_n 1, 1) := by decide +kernel
theorem d_Se_goOn_74 : decode c_Se_goOn 74 = .ok (.iconst 4, 1) := by decide +kernel
theorem d_Se_goOn_75 : decode c_Se_goOn 75 = .ok (.imul, 1) := by decide +kernel
theorem d_Se_goOn_76 : decode c_Se_goOn 76 = .ok (.iload 6, 2) := by decide +kernel
theorem d_Se_goOn_78 : decode c_Se_goOn 78 = .ok (.iadd, 1) := by decide +kernel
theorem d_Se_goOn_79 : decode c_Se_goOn 79 = .ok (.invokevirtual 37, 3) := by decide +kernel
theorem d_Se_goOn_82 : decode c_Se_goOn 82 = .ok (.iinc 6 1, 3) := by decide +kernel
theorem d_Se_goOn_85 : decode c_Se_goOn 85 = .ok (.goto (-58), 3) := by decide +kernel
theorem d_Se_goOn_88 : decode c_Se_goOn 88 = .ok (.return_, 1) := by decide +kernel
theorem d_Se_markIfNew_0 : decode c_Se_markIfNew 0 = .ok (.iload_n 1, 1) := by decide +kernel
theorem d_Se_markIfNew_1 : decode c_Se_markIfNew 1 = .ok (.bipush 8, 2) := by decide +kernel
theorem d_Se_markIfNew_3 : decode c_Se_markIfNew 3 = .ok (.ishl, 1) := by decide +kernel
theorem d_Se_markIfNew_4 : decode c_Se_markIfNew 4 = .ok (.iload_n 2, 1) := by decide +kernel
theorem d_Se_markIfNew_5 : decode c_Se_markIfNew 5 = .ok (.ior, 1) := by decide +kernel
theorem d_Se_markIfNew_6 : decode c_Se_markIfNew 6 = .ok (.istore_n 3, 1) := by decide +kernel
theorem d_Se_markIfNew_7 : decode c_Se_markIfNew 7 = .ok (.lconst 1, 1) := by decide +kernel
theorem d_Se_markIfNew_8 : decode c_Se_markIfNew 8 = .ok (.iload_n 3, 1) := by decide +kernel
theorem d_Se_markIfNew_9 : decode c_Se_markIfNew 9 = .ok (.bipush 63, 2) := by decide +kernel
theorem d_Se_markIfNew_11 : decode c_Se_markIfNew 11 = .ok (.iand, 1) := by decide +kernel
theorem d_Se_markIfNew_12 : decode c_Se_markIfNew 12 = .ok (.lshl, 1) := by decide +kernel
theorem d_Se_markIfNew_13 : decode c_Se_markIfNew 13 = .ok (.lstore 4, 2) := by decide +kernel
theorem d_Se_markIfNew_15 : decode c_Se_markIfNew 15 = .ok (.aload_n 0, 1) := by decide +kernel
theorem d_Se_markIfNew_16 : decode c_Se_markIfNew 16 = .ok (.getfield 9, 3) := by decide +kernel
theorem d_Se_markIfNew_19 : decode c_Se_markIfNew 19 = .ok (.iload_n 3, 1) := by decide +kernel
theorem d_Se_markIfNew_20 : decode c_Se_markIfNew 20 = .ok (.bipush 6, 2) := by decide +kernel
theorem d_Se_markIfNew_22 : decode c_Se_markIfNew 22 = .ok (.ishr, 1) := by decide +kernel
theorem d_Se_markIfNew_23 : decode c_Se_markIfNew 23 = .ok (.laload, 1) := by decide +kernel
theorem d_Se_markIfNew_24 : decode c_Se_markIfNew 24 = .ok (.lload 4, 2) := by decide +kernel
theorem d_Se_markIfNew_26 : decode c_Se_markIfNew 26 = .ok (.land, 1) := by decide +kernel
theorem d_Se_markIfNew_27 : decode c_Se_markIfNew 27 = .ok (.lconst 0, 1) := by decide +kernel
theorem d_Se_markIfNew_28 : decode c_Se_markIfNew 28 = .ok (.lcmp, 1) := by decide +kernel
theorem d_Se_markIfNew_29 : decode c_Se_markIfNew 29 = .ok (.ifCond .ne 7, 3) := by decide +kernel
theorem d_Se_markIfNew_32 : decode c_Se_markIfNew 32 = .ok (.iconst 1, 1) := by decide +kernel
theorem d_Se_markIfNew_33 : decode c_Se_markIfNew 33 = .ok (.goto 4, 3) := by decide +kernel
theorem d_Se_markIfNew_36 : decode c_Se_markIfNew 36 = .ok (.iconst 0, 1) := by decide +kernel
theorem d_Se_markIfNew_37 : decode c_Se_markIfNew 37 = .ok (.istore 6, 2) := by decide +kernel
theorem d_Se_markIfNew_39 : decode c_Se_markIfNew 39 = .ok (.aload_n 0, 1) := by decide +kernel
theorem d_Se_markIfNew_40 : decode c_Se_markIfNew 40 = .ok (.getfield 9, 3) := by decide +kernel
theorem d_Se_markIfNew_43 : decode c_Se_markIfNew 43 = .ok (.iload_n 3, 1) := by decide +kernel
theorem d_Se_markIfNew_44 : decode c_Se_markIfNew 44 = .ok (.bipush 6, 2) := by decide +kernel
theorem d_Se_markIfNew_46 : decode c_Se_markIfNew 46 = .ok (.ishr, 1) := by decide +kernel
theorem d_Se_markIfNew_47 : decode c_Se_markIfNew 47 = .ok (.dup2, 1) := by decide +kernel
theorem d_Se_markIfNew_48 : decode c_Se_markIfNew 48 = .ok (.laload, 1) := by decide +kernel
theorem d_Se_markIfNew_49 : decode c_Se_markIfNew 49 = .ok (.lload 4, 2) := by decide +kernel
theorem d_Se_markIfNew_51 : decode c_Se_markIfNew 51 = .ok (.lor, 1) := by decide +kernel
theorem d_Se_markIfNew_52 : decode c_Se_markIfNew 52 = .ok (.lastore, 1) := by decide +kernel
theorem d_Se_markIfNew_53 : decode c_Se_markIfNew 53 = .ok (.iload 6, 2) := by decide +kernel
theorem d_Se_markIfNew_55 : decode c_Se_markIfNew 55 = .ok (.ireturn, 1) := by decide +kernel
theorem d_Ws_contains_0 : decode c_Ws_contains 0 = .ok (.iload_n 1, 1) := by decide +kernel
theorem d_Ws_contains_1 : decode c_Ws_contains 1 = .ok (.invokestatic 85, 3) := by decide +kernel
theorem d_Ws_contains_4 : decode c_Ws_contains 4 = .ok (.iload_n 2, 1) := by decide +kernel
theorem d_Ws_contains_5 : decode c_Ws_contains 5 = .ok (.invokestatic 85, 3) := by decide +kernel
theorem d_Ws_contains_8 : decode c_Ws_contains 8 = .ok (.aload_n 0, 1) := by decide +kernel
theorem d_Ws_contains_9 : decode c_Ws_contains 9 = .ok (.getfield 44, 3) := by decide +kernel
theorem d_Ws_contains_12 : decode c_Ws_contains 12 = .ok (.aload_n 0, 1) := by decide +kernel
theorem d_Ws_contains_13 : decode c_Ws_contains 13 = .ok (.getfield 18, 3) := by decide +kernel
theorem d_Ws_contains_16 : decode c_Ws_contains 16 = .ok (.iload_n 1, 1) := by decide +kernel
theorem d_Ws_contains_17 : decode c_Ws_contains 17 = .ok (.aaload, 1) := by decide +kernel
theorem d_Ws_contains_18 : decode c_Ws_contains 18 = .ok (.aload_n 0, 1) := by decide +kernel
theorem d_Ws_contains_19 : decode c_Ws_contains 19 = .ok (.getfield 18, 3) := by decide +kernel
theorem d_Ws_contains_22 : decode c_Ws_contains 22 = .ok (.iload_n 2, 1) := by decide +kernel
theorem d_Ws_contains_23 : decode c_Ws_contains 23 = .ok (.aaload, 1) := by decide +kernel
theorem d_Ws_contains_24 : decode c_Ws_contains 24 = .ok (.iconst 2, 1) := by decide +kernel
theorem d_Ws_contains_25 : decode c_Ws_contains 25 = .ok (.aload_n 0, 1) := by decide +kernel
theorem d_Ws_contains_26 : decode c_Ws_contains 26 = .ok (.getfield 51, 3) := by decide +kernel
theorem d_Ws_contains_29 : decode c_Ws_contains 29 = .ok (.invokevirtual 118, 3) := by decide +kernel
theorem d_Ws_contains_32 : decode c_Ws_contains 32 = .ok (.ifCond .ne 7, 3) := by decide +kernel
theorem d_Ws_contains_35 : decode c_Ws_contains 35 = .ok (.iconst 1, 1) := by decide +kernel
theorem d_Ws_contains_36 : decode c_Ws_contains 36 = .ok (.goto 4, 3) := by decide +kernel
theorem d_Ws_contains_39 : decode c_Ws_contains 39 = .ok (.iconst 0, 1) := by decide +kernel
theorem d_Ws_contains_40 : decode c_Ws_contains 40 = .ok (.ireturn, 1) := by decide +kernel
theorem d_Ws_least_0 : decode c_Ws_least 0 = .ok (.iload_n 1, 1) := by decide +kernel
theorem d_Ws_least_1 : decode c_Ws_least 1 = .ok (.invokestatic 85, 3) := by decide +kernel
theorem d_Ws_least_4 : decode c_Ws_least 4 = .ok (.aload_n 0, 1) := by decide +kernel
theorem d_Ws_least_5 : decode c_Ws_least 5 = .ok (.getfield 44, 3) := by decide +kernel
theorem d_Ws_least_8 : decode c_Ws_least 8 = .ok (.aload_n 0, 1) := by decide +kernel
theorem d_Ws_least_9 : decode c_Ws_least 9 = .ok (.getfield 18, 3) := by decide +kernel
theorem d_Ws_least_12 : decode c_Ws_least 12 = .ok (.iload_n 1, 1) := by decide +kernel
theorem d_Ws_least_13 : decode c_Ws_least 13 = .ok (.aaload, 1) := by decide +kernel
theorem d_Ws_least_14 : decode c_Ws_least 14 = .ok (.aload_n 0, 1) := by decide +kernel
theorem d_Ws_least_15 : decode c_Ws_least 15 = .ok (.getfield 23, 3) := by decide +kernel
theorem d_Ws_least_18 : decode c_Ws_least 18 = .ok (.iconst 1, 1) := by decide +kernel
theorem d_Ws_least_19 : decode c_Ws_least 19 = .ok (.aload_n 0, 1) := by decide +kernel
theorem d_Ws_least_20 : decode c_Ws_least 20 = .ok (.getfield 51, 3) := by decide +kernel
theorem d_Ws_least_23 : decode c_Ws_least 23 = .ok (.invokevirtual 118, 3) := by decide +kernel
theorem d_Ws_least_26 : decode c_Ws_least 26 = .ok (.istore_n 2, 1) := by decide +kernel
theorem d_Ws_least_27 : decode c_Ws_least 27 = .ok (.iload_n 2, 1) := by decide +kernel
theorem d_Ws_least_28 : decode c_Ws_least 28 = .ok (.ifCond .ne 7, 3) := by decide +kernel
theorem d_Ws_least_31 : decode c_Ws_least 31 = .ok (.iconst (-1), 1) := by decide +kernel
theorem d_Ws_least_32 : decode c_Ws_least 32 = .ok (.goto 10, 3) := by decide +kernel
theorem d_Ws_least_35 : decode c_Ws_least 35 = .ok (.aload_n 0, 1) := by decide +kernel
theorem d_Ws_least_36 : decode c_Ws_least 36 = .ok (.getfield 51, 3) := by decide +kernel
theorem d_Ws_least_39 : decode c_Ws_least 39 = .ok (.getfield 122, 3) := by decide +kernel
theorem d_Ws_least_42 : decode c_Ws_least 42 = .ok (.ireturn, 1) := by decide +kernel
theorem d_Ws_count_0 : decode c_Ws_count 0 = .ok (.iload_n 1, 1) := by decide +kernel
theorem d_Ws_count_1 : decode c_Ws_count 1 = .ok (.invokestatic 85, 3) := by decide +kernel
theorem d_Ws_count_4 : decode c_Ws_count 4 = .ok (.iload_n 2, 1) := by decide +kernel
theorem d_Ws_count_5 : decode c_Ws_count 5 = .ok (.invokestatic 123, 3) := by decide +kernel
theorem d_Ws_count_8 : decode c_Ws_count 8 = .ok (.aload_n 0, 1) := by decide +kernel
theorem d_Ws_count_9 : decode c_Ws_count 9 = .ok (.getfield 37, 3) := by decide +kernel
theorem d_Ws_count_12 : decode c_Ws_count 12 = .ok (.aload_n 0, 1) := by decide +kernel
theorem d_Ws_count_13 : decode c_Ws_count 13 = .ok (.getfield 18, 3) := by decide +kernel
theorem d_Ws_count_16 : decode c_Ws_count 16 = .ok (.iload_n 1, 1) := by decide +kernel
theorem d_Ws_count_17 : decode c_Ws_count 17 = .ok (.aaload, 1) := by decide +kernel
theorem d_Ws_count_18 : decode c_Ws_count 18 = .ok (.invokevirtual 126, 3) := by decide +kernel
theorem d_Ws_count_21 : decode c_Ws_count 21 = .ok (.aload_n 0, 1) := by decide +kernel
theorem d_Ws_count_22 : decode c_Ws_count 22 = .ok (.getfield 37, 3) := by decide +kernel
theorem d_Ws_count_25 : decode c_Ws_count 25 = .ok (.iload_n 2, 1) := by decide +kernel
theorem d_Ws_count_26 : decode c_Ws_count 26 = .ok (.invokevirtual 130, 3) := by decide +kernel
theorem d_Ws_count_29 : decode c_Ws_count 29 = .ok (.lreturn, 1) := by decide +kernel
theorem d_Ws_checkLength_0 : decode c_Ws_checkLength 0 = .ok (.iload_n 0, 1) := by decide +kernel
theorem d_Ws_checkLength_1 : decode c_Ws_checkLength 1 = .ok (.ifCond .lt 9, 3) := by decide +kernel
theorem d_Ws_checkLength_4 : decode c_Ws_checkLength 4 = .ok (.iload_n 0, 1) := by decide +kernel
theorem d_Ws_checkLength_5 : decode c_Ws_checkLength 5 = .ok (.bipush 30, 2) := by decide +kernel
theorem d_Ws_checkLength_7 : decode c_Ws_checkLength 7 = .ok (.if_icmp .le 13, 3) := by decide +kernel
theorem d_Ws_checkLength_10 : decode c_Ws_checkLength 10 = .ok (.new 62, 3) := by decide +kernel
theorem d_Ws_checkLength_13 : decode c_Ws_checkLength 13 = .ok (.dup, 1) := by decide +kernel
theorem d_Ws_checkLength_14 : decode c_Ws_checkLength 14 = .ok (.ldc 158, 2) := by decide +kernel
theorem d_Ws_checkLength_16 : decode c_Ws_checkLength 16 = .ok (.invokespecial 66, 3) := by decide +kernel
theorem d_Ws_checkLength_19 : decode c_Ws_checkLength 19 = .ok (.athrow, 1) := by decide +kernel
theorem d_Ws_checkLength_20 : decode c_Ws_checkLength 20 = .ok (.return_, 1) := by decide +kernel
theorem d_Ma_build_0 : decode c_Ma_build 0 = .ok (.aload_n 0, 1) := by decide +kernel
theorem d_Ma_build_1 : decode c_Ma_build 1 = .ok (.getfield 17, 3) := by decide +kernel
theorem d_Ma_build_4 : decode c_Ma_build 4 = .ok (.iconst (-1), 1) := by decide +kernel
theorem d_Ma_build_5 : decode c_Ma_build 5 = .ok (.invokestatic 40, 3) := by decide +kernel
theorem d_Ma_build_8 : decode c_Ma_build 8 = .ok (.aload_n 0, 1) := by decide +kernel
theorem d_Ma_build_9 : decode c_Ma_build 9 = .ok (.iconst 0, 1) := by decide +kernel
theorem d_Ma_build_10 : decode c_Ma_build 10 = .ok (.putfield 36, 3) := by decide +kernel
theorem d_Ma_build_13 : decode c_Ma_build 13 = .ok (.aload_n 0, 1) := by decide +kernel
theorem d_Ma_build_14 : decode c_Ma_build 14 = .ok (.sipush 256, 3) := by decide +kernel
theorem d_Ma_build_17 : decode c_Ma_build 17 = .ok (.aload_n 1, 1) := by decide +kernel
theorem d_Ma_build_18 : decode c_Ma_build 18 = .ok (.invokevirtual 46, 3) := by decide +kernel
theorem d_Ma_build_21 : decode c_Ma_build 21 = .ok (.pop, 1) := by decide +kernel
theorem d_Ma_build_22 : decode c_Ma_build 22 = .ok (.iconst 0, 1) := by decide +kernel
theorem d_Ma_build_23 : decode c_Ma_build 23 = .ok (.istore_n 2, 1) := by decide +kernel
theorem d_Ma_build_24 : decode c_Ma_build 24 = .ok (.iload_n 2, 1) := by decide +kernel
theorem d_Ma_build_25 : decode c_Ma_build 25 = .ok (.aload_n 0, 1) := by decide +kernel
theorem d_Ma_build_26 : decode c_Ma_build 26 = .ok (.getfield 36, 3) := by decide +kernel
theorem d_Ma_build_29 : decode c_Ma_build 29 = .ok (.if_icmp .ge 71, 3) := by decide +kernel
theorem d_Ma_build_32 : decode c_Ma_build 32 = .ok (.iload_n 2, 1) := by decide +kernel
theorem d_Ma_build_33 : decode c_Ma_build 33 = .ok (.sipush 257, 3) := by decide +kernel
theorem d_Ma_build_36 : decode c_Ma_build 36 = .ok (.if_icmp .ge 64, 3) := by decide +kernel
theorem d_Ma_build_39 : decode c_Ma_build 39 = .ok (.aload_n 1, 1) := by decide +kernel
theorem d_Ma_build_40 : decode c_Ma_build 40 = .ok (.aload_n 0, 1) := by decide +kernel
theorem d_Ma_build_41 : decode c_Ma_build 41 = .ok (.getfield 13, 3) := by decide +kernel
theorem d_Ma_build_44 : decode c_Ma_build 44 = .ok (.iload_n 2, 1) := by decide +kernel
theorem d_Ma_build_45 : decode c_Ma_build 45 = .ok (.iaload, 1) := by decide +kernel
theorem d_Ma_build_46 : decode c_Ma_build 46 = .ok (.invokevirtual 50, 3) := by decide +kernel
theorem d_Ma_build_49 : decode c_Ma_build 49 = .ok (.istore_n 3, 1) := by decide +kernel
theorem d_Ma_build_50 : decode c_Ma_build 50 = .ok (.iconst 0, 1) := by decide +kernel
theorem d_Ma_build_51 : decode c_Ma_build 51 = .ok (.istore 4, 2) := by decide +kernel
theorem d_Ma_build_53 : decode c_Ma_build 53 = .ok (.iload 4, 2) := by decide +kernel
theorem d_Ma_build_55 : decode c_Ma_build 55 = .ok (.iconst 4, 1) := by decide +kernel
theorem d_Ma_build_56 : decode c_Ma_build 56 = .ok (.if_icmp .ge 38, 3) := by decide +kernel
theorem d_Ma_build_59 : decode c_Ma_build 59 = .ok (.iload_n 3, 1) := by decide +kernel
theorem d_Ma_build_60 : decode c_Ma_build 60 = .ok (.aload_n 1, 1) := by decide +kernel
theorem d_Ma_build_61 : decode c_Ma_build 61 = .ok (.getfield 54, 3) := by decide +kernel
theorem d_Ma_build_64 : decode c_Ma_build 64 = .ok (.iload 4, 2) := by decide +kernel
theorem d_Ma_build_66 : decode c_Ma_build 66 = .ok (.iaload, 1) := by decide +kernel
theorem d_Ma_build_67 : decode c_Ma_build 67 = .ok (.iand, 1) := by decide +kernel
theorem d_Ma_build_68 : decode c_Ma_build 68 = .ok (.istore 5, 2) := by decide +kernel
theorem d_Ma_build_70 : decode c_Ma_build 70 = .ok (.aload_n 0, 1) := by decide +kernel
theorem d_Ma_build_71 : decode c_Ma_build 71 = .ok (.getfield 20, 3) := by decide +kernel
theorem d_Ma_build_74 : decode c_Ma_build 74 = .ok (.iload_n 2, 1) := by decide +kernel
theorem d_Ma_build_75 : decode c_Ma_build 75 = .ok (.iconst 4, 1) := by decide +kernel
theorem d_Ma_build_76 : decode c_Ma_build 76 = .ok (.imul, 1) := by decide +kernel
theorem d_Ma_build_77 : decode c_Ma_build 77 = .ok (.iload 4, 2) := by decide +kernel
theorem d_Ma_build_79 : decode c_Ma_build 79 = .ok (.iadd, 1) := by decide +kernel
theorem d_Ma_build_80 : decode c_Ma_build 80 = .ok (.aload_n 0, 1) := by decide +kernel
theorem d_Ma_build_81 : decode c_Ma_build 81 = .ok (.iload 5, 2) := by decide +kernel
theorem d_Ma_build_83 : decode c_Ma_build 83 = .ok (.aload_n 1, 1) := by decide +kernel
theorem d_Ma_build_84 : decode c_Ma_build 84 = .ok (.invokevirtual 46, 3) := by decide +kernel
theorem d_Ma_build_87 : decode c_Ma_build 87 = .ok (.iastore, 1) := by decide +kernel
theorem d_Ma_build_88 : decode c_Ma_build 88 = .ok (.iinc 4 1, 3) := by decide +kernel
theorem d_Ma_build_91 : decode c_Ma_build 91 = .ok (.goto (-38), 3) := by decide +kernel
theorem d_Ma_build_94 : decode c_Ma_build 94 = .ok (.iinc 2 1, 3) := by decide +kernel
theorem d_Ma_build_97 : decode c_Ma_build 97 = .ok (.goto (-73), 3) := by decide +kernel
theorem d_Ma_build_100 : decode c_Ma_build 100 = .ok (.return_, 1) := by decide +kernel
theorem d_Ma_numberOf_0 : decode c_Ma_numberOf 0 = .ok (.aload_n 0, 1) := by decide +kernel
theorem d_Ma_numberOf_1 : decode c_Ma_numberOf 1 = .ok (.getfield 17, 3) := by decide +kernel
theorem d_Ma_numberOf_4 : decode c_Ma_numberOf 4 = .ok (.iload_n 1, 1) := by decide +kernel
theorem d_Ma_numberOf_5 : decode c_Ma_numberOf 5 = .ok (.iaload, 1) := by decide +kernel
theorem d_Ma_numberOf_6 : decode c_Ma_numberOf 6 = .ok (.ifCond .ge 55, 3) := by decide +kernel
theorem d_Ma_numberOf_9 : decode c_Ma_numberOf 9 = .ok (.aload_n 0, 1) := by decide +kernel
theorem d_Ma_numberOf_10 : decode c_Ma_numberOf 10 = .ok (.getfield 17, 3) := by decide +kernel
theorem d_Ma_numberOf_13 : decode c_Ma_numberOf 13 = .ok (.iload_n 1, 1) := by decide +kernel
theorem d_Ma_numberOf_14 : decode c_Ma_numberOf 14 = .ok (.aload_n 0, 1) := by decide +kernel
theorem d_Ma_numberOf_15 : decode c_Ma_numberOf 15 = .ok (.getfield 36, 3) := by decide +kernel
theorem d_Ma_numberOf_18 : decode c_Ma_numberOf 18 = .ok (.iastore, 1) := by decide +kernel
theorem d_Ma_numberOf_19 : decode c_Ma_numberOf 19 = .ok (.aload_n 0, 1) := by decide +kernel
theorem d_Ma_numberOf_20 : decode c_Ma_numberOf 20 = .ok (.getfield 13, 3) := by decide +kernel
theorem d_Ma_numberOf_23 : decode c_Ma_numberOf 23 = .ok (.aload_n 0, 1) := by decide +kernel
theorem d_Ma_numberOf_24 : decode c_Ma_numberOf 24 = .ok (.getfield 36, 3) := by decide +kernel
theorem d_Ma_numberOf_27 : decode c_Ma_numberOf 27 = .ok (.iload_n 1, 1) := by decide +kernel
theorem d_Ma_numberOf_28 : decode c_Ma_numberOf 28 = .ok (.iastore, 1) := by decide +kernel
theorem d_Ma_numberOf_29 : decode c_Ma_numberOf 29 = .ok (.aload_n 0, 1) := by decide +kernel
theorem d_Ma_numberOf_30 : decode c_Ma_numberOf 30 = .ok (.getfield 23, 3) := by decide +kernel
theorem d_Ma_numberOf_33 : decode c_Ma_numberOf 33 = .ok (.aload_n 0, 1) := by decide +kernel
theorem d_Ma_numberOf_34 : decode c_Ma_numberOf 34 = .ok (.getfield 36, 3) := by decide +kernel
theorem d_Ma_numberOf_37 : decode c_Ma_numberOf 37 = .ok (.aload_n 2, 1) := by decide +kernel
theorem d_Ma_numberOf_38 : decode c_Ma_numberOf 38 = .ok (.iload_n 1, 1) := by decide +kernel
theorem d_Ma_numberOf_39 : decode c_Ma_numberOf 39 = .ok (.invokevirtual 57, 3) := by decide +kernel
theorem d_Ma_numberOf_42 : decode c_Ma_numberOf 42 = .ok (.ifCond .eq 7, 3) := by decide +kernel
theorem d_Ma_numberOf_45 : decode c_Ma_numberOf 45 = .ok (.iconst 1, 1) := by decide +kernel
theorem d_Ma_numberOf_46 : decode c_Ma_numberOf 46 = .ok (.goto 4, 3) := by decide +kernel
theorem d_Ma_numberOf_49 : decode c_Ma_numberOf 49 = .ok (.iconst 0, 1) := by decide +kernel
theorem d_Ma_numberOf_50 : decode c_Ma_numberOf 50 = .ok (.iastore, 1) := by decide +kernel
theorem d_Ma_numberOf_51 : decode c_Ma_numberOf 51 = .ok (.aload_n 0, 1) := by decide +kernel
theorem d_Ma_numberOf_52 : decode c_Ma_numberOf 52 = .ok (.dup, 1) := by decide +kernel
theorem d_Ma_numberOf_53 : decode c_Ma_numberOf 53 = .ok (.getfield 36, 3) := by decide +kernel
theorem d_Ma_numberOf_56 : decode c_Ma_numberOf 56 = .ok (.iconst 1, 1) := by decide +kernel
theorem d_Ma_numberOf_57 : decode c_Ma_numberOf 57 = .ok (.iadd, 1) := by decide +kernel
theorem d_Ma_numberOf_58 : decode c_Ma_numberOf 58 = .ok (.putfield 36, 3) := by decide +kernel
theorem d_Ma_numberOf_61 : decode c_Ma_numberOf 61 = .ok (.aload_n 0, 1) := by decide +kernel
theorem d_Ma_numberOf_62 : decode c_Ma_numberOf 62 = .ok (.getfield 17, 3) := by decide +kernel
theorem d_Ma_numberOf_65 : decode c_Ma_numberOf 65 = .ok (.iload_n 1, 1) := by decide +kernel
theorem d_Ma_numberOf_66 : decode c_Ma_numberOf 66 = .ok (.iaload, 1) := by decide +kernel
theorem d_Ma_numberOf_67 : decode c_Ma_numberOf 67 = .ok (.ireturn, 1) := by decide +kernel
theorem d_Ma_tally_0 : decode c_Ma_tally 0 = .ok (.iconst 0, 1) := by decide +kernel
theorem d_Ma_tally_1 : decode c_Ma_tally 1 = .ok (.istore_n 2, 1) := by decide +kernel
theorem d_Ma_tally_2 : decode c_Ma_tally 2 = .ok (.iload_n 2, 1) := by decide +kernel
theorem d_Ma_tally_3 : decode c_Ma_tally 3 = .ok (.aload_n 0, 1) := by decide +kernel
theorem d_Ma_tally_4 : decode c_Ma_tally 4 = .ok (.getfield 36, 3) := by decide +kernel
theorem d_Ma_tally_7 : decode c_Ma_tally 7 = .ok (.if_icmp .ge 22, 3) := by decide +kernel
theorem d_Ma_tally_10 : decode c_Ma_tally 10 = .ok (.aload_n 0, 1) := by decide +kernel
theorem d_Ma_tally_11 : decode c_Ma_tally 11 = .ok (.getfield 32, 3) := by decide +kernel
theorem d_Ma_tally_14 : decode c_Ma_tally 14 = .ok (.iload_n 2, 1) := by decide +kernel
theorem d_Ma_tally_15 : decode c_Ma_tally 15 = .ok (.aload_n 0, 1) := by decide +kernel
theorem d_Ma_tally_16 : decode c_Ma_tally 16 = .ok (.getfield 23, 3) := by decide +kernel
theorem d_Ma_tally_19 : decode c_Ma_tally 19 = .ok (.iload_n 2, 1) := by decide +kernel
theorem d_Ma_tally_20 : decode c_Ma_tally 20 = .ok (.iaload, 1) := by decide +kernel
theorem d_Ma_tally_21 : decode c_Ma_tally 21 = .ok (.i2l, 1) := by decide +kernel
theorem d_Ma_tally_22 : decode c_Ma_tally 22 = .ok (.lastore, 1) := by decide +kernel
theorem d_Ma_tally_23 : decode c_Ma_tally 23 = .ok (.iinc 2 1, 3) := by decide +kernel
theorem d_Ma_tally_26 : decode c_Ma_tally 26 = .ok (.goto (-24), 3) := by decide +kernel
theorem d_Ma_tally_29 : decode c_Ma_tally 29 = .ok (.iconst 1, 1) := by decide +kernel
theorem d_Ma_tally_30 : decode c_Ma_tally 30 = .ok (.istore_n 2, 1) := by decide +kernel
theorem d_Ma_tally_31 : decode c_Ma_tally 31 = .ok (.iload_n 2, 1) := by decide +kernel
theorem d_Ma_tally_32 : decode c_Ma_tally 32 = .ok (.iload_n 1, 1) := by decide +kernel
theorem d_Ma_tally_33 : decode c_Ma_tally 33 = .ok (.if_icmp .gt 49, 3) := by decide +kernel
theorem d_Ma_tally_36 : decode c_Ma_tally 36 = .ok (.iconst 0, 1) := by decide +kernel
theorem d_Ma_tally_37 : decode c_Ma_tally 37 = .ok (.istore_n 3, 1) := by decide +kernel
theorem d_Ma_tally_38 : decode c_Ma_tally 38 = .ok (.iload_n 3, 1) := by decide +kernel
theorem d_Ma_tally_39 : decode c_Ma_tally 39 = .ok (.aload_n 0, 1) := by decide +kernel
theorem d_Ma_tally_40 : decode c_Ma_tally 40 = .ok (.getfield 36, 3) := by decide +kernel
theorem d_Ma_tally_43 : decode c_Ma_tally 43 = .ok (.if_icmp .ge 33, 3) := by decide +kernel
theorem d_Ma_tally_46 : decode c_Ma_tally 46 = .ok (.aload_n 0, 1) := by decide +kernel
theorem d_Ma_tally_47 : decode c_Ma_tally 47 = .ok (.getfield 32, 3) := by decide +kernel
theorem d_Ma_tally_50 : decode c_Ma_tally 50 = .ok (.iload_n 2, 1) := by decide +kernel
theorem d_Ma_tally_51 : decode c_Ma_tally 51 = .ok (.sipush 257, 3) := by decide +kernel
theorem d_Ma_tally_54 : decode c_Ma_tally 54 = .ok (.imul, 1) := by decide +kernel
theorem d_Ma_tally_55 : decode c_Ma_tally 55 = .ok (.iload_n 3, 1) := by decide +kernel
theorem d_Ma_tally_56 : decode c_Ma_tally 56 = .ok (.iadd, 1) := by decide +kernel
theorem d_Ma_tally_57 : decode c_Ma_tally 57 = .ok (.aload_n 0, 1) := by decide +kernel
theorem d_Ma_tally_58 : decode c_Ma_tally 58 = .ok (.iload_n 3, 1) := by decide +kernel
theorem d_Ma_tally_59 : decode c_Ma_tally 59 = .ok (.iload_n 2, 1) := by decide +kernel
theorem d_Ma_tally_60 : decode c_Ma_tally 60 = .ok (.iconst 1, 1) := by decide +kernel
theorem d_Ma_tally_61 : decode c_Ma_tally 61 = .ok (.isub, 1) := by decide +kernel
theorem d_Ma_tally_62 : decode c_Ma_tally 62 = .ok (.sipush 257, 3) := by decide +kernel
theorem d_Ma_tally_65 : decode c_Ma_tally 65 = .ok (.imul, 1) := by decide +kernel
theorem d_Ma_tally_66 : decode c_Ma_tally 66 = .ok (.invokevirtual 61, 3) := by decide +kernel
theorem d_Ma_tally_69 : decode c_Ma_tally 69 = .ok (.lastore, 1) := by decide +kernel
theorem d_Ma_tally_70 : decode c_Ma_tally 70 = .ok (.iinc 3 1, 3) := by decide +kernel
theorem d_Ma_tally_73 : decode c_Ma_tally 73 = .ok (.goto (-35), 3) := by decide +kernel
theorem d_Ma_tally_76 : decode c_Ma_tally 76 = .ok (.iinc 2 1, 3) := by decide +kernel
theorem d_Ma_tally_79 : decode c_Ma_tally 79 = .ok (.goto (-48), 3) := by decide +kernel
theorem d_Ma_tally_82 : decode c_Ma_tally 82 = .ok (.aload_n 0, 1) := by decide +kernel
theorem d_Ma_tally_83 : decode c_Ma_tally 83 = .ok (.getfield 32, 3) := by decide +kernel
theorem d_Ma_tally_86 : decode c_Ma_tally 86 = .ok (.iload_n 1, 1) := by decide +kernel
theorem d_Ma_tally_87 : decode c_Ma_tally 87 = .ok (.sipush 257, 3) := by decide +kernel
theorem d_Ma_tally_90 : decode c_Ma_tally 90 = .ok (.imul, 1) := by decide +kernel
theorem d_Ma_tally_91 : decode c_Ma_tally 91 = .ok (.laload, 1) := by decide +kernel
theorem d_Ma_tally_92 : decode c_Ma_tally 92 = .ok (.lreturn, 1) := by decide +kernel
theorem d_Ma_tallyOver_0 : decode c_Ma_tallyOver 0 = .ok (.lconst 0, 1) := by decide +kernel
theorem d_Ma_tallyOver_1 : decode c_Ma_tallyOver 1 = .ok (.lstore_n 3, 1) := by decide +kernel
theorem d_Ma_tallyOver_2 : decode c_Ma_tallyOver 2 = .ok (.iconst 0, 1) := by decide +kernel
theorem d_Ma_tallyOver_3 : decode c_Ma_tallyOver 3 = .ok (.istore 5, 2) := by decide +kernel
theorem d_Ma_tallyOver_5 : decode c_Ma_tallyOver 5 = .ok (.iload 5, 2) := by decide +kernel
theorem d_Ma_tallyOver_7 : decode c_Ma_tallyOver 7 = .ok (.iconst 4, 1) := by decide +kernel
theorem d_Ma_tallyOver_8 : decode c_Ma_tallyOver 8 = .ok (.if_icmp .ge 30, 3) := by decide +kernel
theorem d_Ma_tallyOver_11 : decode c_Ma_tallyOver 11 = .ok (.lload_n 3, 1) := by decide +kernel
theorem d_Ma_tallyOver_12 : decode c_Ma_tallyOver 12 = .ok (.aload_n 0, 1) := by decide +kernel
theorem d_Ma_tallyOver_13 : decode c_Ma_tallyOver 13 = .ok (.getfield 32, 3) := by decide +kernel
theorem d_Ma_tallyOver_16 : decode c_Ma_tallyOver 16 = .ok (.iload_n 2, 1) := by decide +kernel
theorem d_Ma_tallyOver_17 : decode c_Ma_tallyOver 17 = .ok (.aload_n 0, 1) := by decide +kernel
theorem d_Ma_tallyOver_18 : decode c_Ma_tallyOver 18 = .ok (.getfield 20, 3) := by decide +kernel
theorem d_Ma_tallyOver_21 : decode c_Ma_tallyOver 21 = .ok (.iload_n 1, 1) := by decide +kernel
theorem d_Ma_tallyOver_22 : decode c_Ma_tallyOver 22 = .ok (.iconst 4, 1) := by decide +kernel
theorem d_Ma_tallyOver_23 : decode c_Ma_tallyOver 23 = .ok (.imul, 1) := by decide +kernel
theorem d_Ma_tallyOver_24 : decode c_Ma_tallyOver 24 = .ok (.iload 5, 2) := by decide +kernel
theorem d_Ma_tallyOver_26 : decode c_Ma_tallyOver 26 = .ok (.iadd, 1) := by decide +kernel
theorem d_Ma_tallyOver_27 : decode c_Ma_tallyOver 27 = .ok (.iaload, 1) := by decide +kernel
theorem d_Ma_tallyOver_28 : decode c_Ma_tallyOver 28 = .ok (.iadd, 1) := by decide +kernel
theorem d_Ma_tallyOver_29 : decode c_Ma_tallyOver 29 = .ok (.laload, 1) := by decide +kernel
theorem d_Ma_tallyOver_30 : decode c_Ma_tallyOver 30 = .ok (.ladd, 1) := by decide +kernel
theorem d_Ma_tallyOver_31 : decode c_Ma_tallyOver 31 = .ok (.lstore_n 3, 1) := by decide +kernel
theorem d_Ma_tallyOver_32 : decode c_Ma_tallyOver 32 = .ok (.iinc 5 1, 3) := by decide +kernel
theorem d_Ma_tallyOver_35 : decode c_Ma_tallyOver 35 = .ok (.goto (-30), 3) := by decide +kernel
theorem d_Ma_tallyOver_38 : decode c_Ma_tallyOver 38 = .ok (.lload_n 3, 1) := by decide +kernel
theorem d_Ma_tallyOver_39 : decode c_Ma_tallyOver 39 = .ok (.lreturn, 1) := by decide +kernel
theorem d_Ws_word_0 : decode c_Ws_word 0 = .ok (.iload_n 1, 1) := by decide +kernel
theorem d_Ws_word_1 : decode c_Ws_word 1 = .ok (.invokestatic 85, 3) := by decide +kernel
theorem d_Ws_word_4 : decode c_Ws_word 4 = .ok (.iload_n 2, 1) := by decide +kernel
theorem d_Ws_word_5 : decode c_Ws_word 5 = .ok (.invokestatic 123, 3) := by decide +kernel
theorem d_Ws_word_8 : decode c_Ws_word 8 = .ok (.lload_n 3, 1) := by decide +kernel
theorem d_Ws_word_9 : decode c_Ws_word 9 = .ok (.lconst 0, 1) := by decide +kernel
theorem d_Ws_word_10 : decode c_Ws_word 10 = .ok (.lcmp, 1) := by decide +kernel
theorem d_Ws_word_11 : decode c_Ws_word 11 = .ok (.ifCond .ge 13, 3) := by decide +kernel
theorem d_Ws_word_14 : decode c_Ws_word 14 = .ok (.new 62, 3) := by decide +kernel
theorem d_Ws_word_17 : decode c_Ws_word 17 = .ok (.dup, 1) := by decide +kernel
theorem d_Ws_word_18 : decode c_Ws_word 18 = .ok (.ldc 134, 2) := by decide +kernel
theorem d_Ws_word_20 : decode c_Ws_word 20 = .ok (.invokespecial 66, 3) := by decide +kernel
theorem d_Ws_word_23 : decode c_Ws_word 23 = .ok (.athrow, 1) := by decide +kernel
theorem d_Ws_word_24 : decode c_Ws_word 24 = .ok (.aload_n 0, 1) := by decide +kernel
theorem d_Ws_word_25 : decode c_Ws_word 25 = .ok (.getfield 37, 3) := by decide +kernel
theorem d_Ws_word_28 : decode c_Ws_word 28 = .ok (.aload_n 0, 1) := by decide +kernel
theorem d_Ws_word_29 : decode c_Ws_word 29 = .ok (.getfield 18, 3) := by decide +kernel
theorem d_Ws_word_32 : decode c_Ws_word 32 = .ok (.iload_n 1, 1) := by decide +kernel
theorem d_Ws_word_33 : decode c_Ws_word 33 = .ok (.aaload, 1) := by decide +kernel
theorem d_Ws_word_34 : decode c_Ws_word 34 = .ok (.invokevirtual 126, 3) := by decide +kernel
theorem d_Ws_word_37 : decode c_Ws_word 37 = .ok (.lload_n 3, 1) := by decide +kernel
theorem d_Ws_word_38 : decode c_Ws_word 38 = .ok (.aload_n 0, 1) := by decide +kernel
theorem d_Ws_word_39 : decode c_Ws_word 39 = .ok (.getfield 37, 3) := by decide +kernel
theorem d_Ws_word_42 : decode c_Ws_word 42 = .ok (.iload_n 2, 1) := by decide +kernel
theorem d_Ws_word_43 : decode c_Ws_word 43 = .ok (.invokevirtual 130, 3) := by decide +kernel
theorem d_Ws_word_46 : decode c_Ws_word 46 = .ok (.lcmp, 1) := by decide +kernel
theorem d_Ws_word_47 : decode c_Ws_word 47 = .ok (.ifCond .lt 13, 3) := by decide +kernel
theorem d_Ws_word_50 : decode c_Ws_word 50 = .ok (.aload_n 0, 1) := by decide +kernel
theorem d_Ws_word_51 : decode c_Ws_word 51 = .ok (.getfield 51, 3) := by decide +kernel
theorem d_Ws_word_54 : decode c_Ws_word 54 = .ok (.iconst 0, 1) := by decide +kernel
theorem d_Ws_word_55 : decode c_Ws_word 55 = .ok (.invokevirtual 136, 3) := by decide +kernel
theorem d_Ws_word_58 : decode c_Ws_word 58 = .ok (.iconst 0, 1) := by decide +kernel
theorem d_Ws_word_59 : decode c_Ws_word 59 = .ok (.ireturn, 1) := by decide +kernel
theorem d_Ws_word_60 : decode c_Ws_word 60 = .ok (.aload_n 0, 1) := by decide +kernel
theorem d_Ws_word_61 : decode c_Ws_word 61 = .ok (.getfield 37, 3) := by decide +kernel
theorem d_Ws_word_64 : decode c_Ws_word 64 = .ok (.iload_n 2, 1) := by decide +kernel
theorem d_Ws_word_65 : decode c_Ws_word 65 = .ok (.lload_n 3, 1) := by decide +kernel
theorem d_Ws_word_66 : decode c_Ws_word 66 = .ok (.aload_n 0, 1) := by decide +kernel
theorem d_Ws_word_67 : decode c_Ws_word 67 = .ok (.getfield 51, 3) := by decide +kernel
theorem d_Ws_word_70 : decode c_Ws_word 70 = .ok (.invokevirtual 139, 3) := by decide +kernel
theorem d_Ws_word_73 : decode c_Ws_word 73 = .ok (.iconst 1, 1) := by decide +kernel
theorem d_Ws_word_74 : decode c_Ws_word 74 = .ok (.ireturn, 1) := by decide +kernel
theorem d_Ma_spell_0 : decode c_Ma_spell 0 = .ok (.aload 4, 2) := by decide +kernel
theorem d_Ma_spell_2 : decode c_Ma_spell 2 = .ok (.iload_n 1, 1) := by decide +kernel
theorem d_Ma_spell_3 : decode c_Ma_spell 3 = .ok (.invokevirtual 65, 3) := by decide +kernel
theorem d_Ma_spell_6 : decode c_Ma_spell 6 = .ok (.iconst 0, 1) := by decide +kernel
theorem d_Ma_spell_7 : decode c_Ma_spell 7 = .ok (.istore 5, 2) := by decide +kernel
theorem d_Ma_spell_9 : decode c_Ma_spell 9 = .ok (.lload_n 2, 1) := by decide +kernel
theorem d_Ma_spell_10 : decode c_Ma_spell 10 = .ok (.lstore 6, 2) := by decide +kernel
theorem d_Ma_spell_12 : decode c_Ma_spell 12 = .ok (.iconst 0, 1) := by decide +kernel
theorem d_Ma_spell_13 : decode c_Ma_spell 13 = .ok (.istore 8, 2) := by decide +kernel
theorem d_Ma_spell_15 : decode c_Ma_spell 15 = .ok (.iload 8, 2) := by decide +kernel
theorem d_Ma_spell_17 : decode c_Ma_spell 17 = .ok (.iload_n 1, 1) := by decide +kernel
theorem d_Ma_spell_18 : decode c_Ma_spell 18 = .ok (.if_icmp .ge 106, 3) := by decide +kernel
theorem d_Ma_spell_21 : decode c_Ma_spell 21 = .ok (.iload_n 1, 1) := by decide +kernel
theorem d_Ma_spell_22 : decode c_Ma_spell 22 = .ok (.iconst 1, 1) := by decide +kernel
theorem d_Ma_spell_23 : decode c_Ma_spell 23 = .ok (.isub, 1) := by decide +kernel
theorem d_Ma_spell_24 : decode c_Ma_spell 24 = .ok (.iload 8, 2) := by decide +kernel
theorem d_Ma_spell_26 : decode c_Ma_spell 26 = .ok (.isub, 1) := by decide +kernel
theorem d_Ma_spell_27 : decode c_Ma_spell 27 = .ok (.sipush 257, 3) := by decide +kernel
theorem d_Ma_spell_30 : decode c_Ma_spell 30 = .ok (.imul, 1) := by decide +kernel
theorem d_Ma_spell_31 : decode c_Ma_spell 31 = .ok (.istore 9, 2) := by decide +kernel
theorem d_Ma_spell_33 : decode c_Ma_spell 33 = .ok (.iconst 0, 1) := by decide +kernel
theorem d_Ma_spell_34 : decode c_Ma_spell 34 = .ok (.istore 10, 2) := by decide +kernel
theorem d_Ma_spell_36 : decode c_Ma_spell 36 = .ok (.aload_n 0, 1) := by decide +kernel
theorem d_Ma_spell_37 : decode c_Ma_spell 37 = .ok (.getfield 20, 3) := by decide +kernel
theorem d_Ma_spell_40 : decode c_Ma_spell 40 = .ok (.iload 5, 2) := by decide +kernel
theorem d_Ma_spell_42 : decode c_Ma_spell 42 = .ok (.iconst 4, 1) := by decide +kernel
theorem d_Ma_spell_43 : decode c_Ma_spell 43 = .ok (.imul, 1) := by decide +kernel
theorem d_Ma_spell_44 : decode c_Ma_spell 44 = .ok (.iaload, 1) := by decide +kernel
theorem d_Ma_spell_45 : decode c_Ma_spell 45 = .ok (.istore 11, 2) := by decide +kernel
theorem d_Ma_spell_47 : decode c_Ma_spell 47 = .ok (.iload 10, 2) := by decide +kernel
theorem d_Ma_spell_49 : decode c_Ma_spell 49 = .ok (.iconst 3, 1) := by decide +kernel
theorem d_Ma_spell_50 : decode c_Ma_spell 50 = .ok (.if_icmp .ge 54, 3) := by decide +kernel
theorem d_Ma_spell_53 : decode c_Ma_spell 53 = .ok (.lload 6, 2) := by decide +kernel
theorem d_Ma_spell_55 : decode c_Ma_spell 55 = .ok (.aload_n 0, 1) := by decide +kernel
theorem d_Ma_spell_56 : decode c_Ma_spell 56 = .ok (.getfield 32, 3) := by decide +kernel
theorem d_Ma_spell_59 : decode c_Ma_spell 59 = .ok (.iload 9, 2) := by decide +kernel
theorem d_Ma_spell_61 : decode c_Ma_spell 61 = .ok (.iload 11, 2) := by decide +kernel
theorem d_Ma_spell_63 : decode c_Ma_spell 63 = .ok (.iadd, 1) := by decide +kernel
theorem d_Ma_spell_64 : decode c_Ma_spell 64 = .ok (.laload, 1) := by decide +kernel
theorem d_Ma_spell_65 : decode c_Ma_spell 65 = .ok (.lcmp, 1) := by decide +kernel
theorem d_Ma_spell_66 : decode c_Ma_spell 66 = .ok (.ifCond .lt 38, 3) := by decide +kernel
theorem d_Ma_spell_69 : decode c_Ma_spell 69 = .ok (.lload 6, 2) := by decide +kernel
theorem d_Ma_spell_71 : decode c_Ma_spell 71 = .ok (.aload_n 0, 1) := by decide +kernel
theorem d_Ma_spell_72 : decode c_Ma_spell 72 = .ok (.getfield 32, 3) := by decide +kernel
theorem d_Ma_spell_75 : decode c_Ma_spell 75 = .ok (.iload 9, 2) := by decide +kernel
theorem d_Ma_spell_77 : decode c_Ma_spell 77 = .ok (.iload 11, 2) := by decide +kernel
theorem d_Ma_spell_79 : decode c_Ma_spell 79 = .ok (.iadd, 1) := by decide +kernel
theorem d_Ma_spell_80 : decode c_Ma_spell 80 = .ok (.laload, 1) := by decide +kernel
theorem d_Ma_spell_81 : decode c_Ma_spell 81 = .ok (.lsub, 1) := by decide +kernel
theorem d_Ma_spell_82 : decode c_Ma_spell 82 = .ok (.lstore 6, 2) := by decide +kernel
theorem d_Ma_spell_84 : decode c_Ma_spell 84 = .ok (.iinc 10 1, 3) := by decide +kernel
theorem d_Ma_spell_87 : decode c_Ma_spell 87 = .ok (.aload_n 0, 1) := by decide +kernel
theorem d_Ma_spell_88 : decode c_Ma_spell 88 = .ok (.getfield 20, 3) := by decide +kernel
theorem d_Ma_spell_91 : decode c_Ma_spell 91 = .ok (.iload 5, 2) := by decide +kernel
theorem d_Ma_spell_93 : decode c_Ma_spell 93 = .ok (.iconst 4, 1) := by decide +kernel
theorem d_Ma_spell_94 : decode c_Ma_spell 94 = .ok (.imul, 1) := by decide +kernel
theorem d_Ma_spell_95 : decode c_Ma_spell 95 = .ok (.iload 10, 2) := by decide +kernel
theorem d_Ma_spell_97 : decode c_Ma_spell 97 = .ok (.iadd, 1) := by decide +kernel
theorem d_Ma_spell_98 : decode c_Ma_spell 98 = .ok (.iaload, 1) := by decide +kernel
theorem d_Ma_spell_99 : decode c_Ma_spell 99 = .ok (.istore 11, 2) := by decide +kernel
theorem d_Ma_spell_101 : decode c_Ma_spell 101 = .ok (.goto (-54), 3) := by decide +kernel
theorem d_Ma_spell_104 : decode c_Ma_spell 104 = .ok (.aload 4, 2) := by decide +kernel
theorem d_Ma_spell_106 : decode c_Ma_spell 106 = .ok (.getfield 71, 3) := by decide +kernel
theorem d_Ma_spell_109 : decode c_Ma_spell 109 = .ok (.iload 8, 2) := by decide +kernel
theorem d_Ma_spell_111 : decode c_Ma_spell 111 = .ok (.iload 10, 2) := by decide +kernel
theorem d_Ma_spell_113 : decode c_Ma_spell 113 = .ok (.iastore, 1) := by decide +kernel
theorem d_Ma_spell_114 : decode c_Ma_spell 114 = .ok (.iload 11, 2) := by decide +kernel
theorem d_Ma_spell_116 : decode c_Ma_spell 116 = .ok (.istore 5, 2) := by decide +kernel
theorem d_Ma_spell_118 : decode c_Ma_spell 118 = .ok (.iinc 8 1, 3) := by decide +kernel
theorem d_Ma_spell_121 : decode c_Ma_spell 121 = .ok (.goto (-106), 3) := by decide +kernel
theorem d_Ma_spell_124 : decode c_Ma_spell 124 = .ok (.return_, 1) := by decide +kernel
theorem d_Ws_states_0 : decode c_Ws_states 0 = .ok (.iload_n 1, 1) := by decide +kernel
theorem d_Ws_states_1 : decode c_Ws_states 1 = .ok (.invokestatic 85, 3) := by decide +kernel
theorem d_Ws_states_4 : decode c_Ws_states 4 = .ok (.aload_n 0, 1) := by decide +kernel
theorem d_Ws_states_5 : decode c_Ws_states 5 = .ok (.getfield 37, 3) := by decide +kernel
theorem d_Ws_states_8 : decode c_Ws_states 8 = .ok (.aload_n 0, 1) := by decide +kernel
theorem d_Ws_states_9 : decode c_Ws_states 9 = .ok (.getfield 18, 3) := by decide +kernel
theorem d_Ws_states_12 : decode c_Ws_states 12 = .ok (.iload_n 1, 1) := by decide +kernel
theorem d_Ws_states_13 : decode c_Ws_states 13 = .ok (.aaload, 1) := by decide +kernel
theorem d_Ws_states_14 : decode c_Ws_states 14 = .ok (.invokevirtual 126, 3) := by decide +kernel
theorem d_Ws_states_17 : decode c_Ws_states 17 = .ok (.aload_n 0, 1) := by decide +kernel
theorem d_Ws_states_18 : decode c_Ws_states 18 = .ok (.getfield 37, 3) := by decide +kernel
theorem d_Ws_states_21 : decode c_Ws_states 21 = .ok (.invokevirtual 143, 3) := by decide +kernel
theorem d_Ws_states_24 : decode c_Ws_states 24 = .ok (.ireturn, 1) := by decide +kernel
theorem d_Ma_groups_0 : decode c_Ma_groups 0 = .ok (.aload_n 0, 1) := by decide +kernel
theorem d_Ma_groups_1 : decode c_Ma_groups 1 = .ok (.getfield 23, 3) := by decide +kernel
theorem d_Ma_groups_4 : decode c_Ma_groups 4 = .ok (.iconst 0, 1) := by decide +kernel
theorem d_Ma_groups_5 : decode c_Ma_groups 5 = .ok (.aload_n 0, 1) := by decide +kernel
theorem d_Ma_groups_6 : decode c_Ma_groups 6 = .ok (.getfield 26, 3) := by decide +kernel
theorem d_Ma_groups_9 : decode c_Ma_groups 9 = .ok (.iconst 0, 1) := by decide +kernel
theorem d_Ma_groups_10 : decode c_Ma_groups 10 = .ok (.aload_n 0, 1) := by decide +kernel
theorem d_Ma_groups_11 : decode c_Ma_groups 11 = .ok (.getfield 36, 3) := by decide +kernel
theorem d_Ma_groups_14 : decode c_Ma_groups 14 = .ok (.invokestatic 74, 3) := by decide +kernel
theorem d_Ma_groups_17 : decode c_Ma_groups 17 = .ok (.iconst 0, 1) := by decide +kernel
theorem d_Ma_groups_18 : decode c_Ma_groups 18 = .ok (.istore_n 1, 1) := by decide +kernel
theorem d_Ma_groups_19 : decode c_Ma_groups 19 = .ok (.iconst 0, 1) := by decide +kernel
theorem d_Ma_groups_20 : decode c_Ma_groups 20 = .ok (.istore_n 2, 1) := by decide +kernel
theorem d_Ma_groups_21 : decode c_Ma_groups 21 = .ok (.iload_n 2, 1) := by decide +kernel
theorem d_Ma_groups_22 : decode c_Ma_groups 22 = .ok (.aload_n 0, 1) := by decide +kernel
theorem d_Ma_groups_23 : decode c_Ma_groups 23 = .ok (.getfield 36, 3) := by decide +kernel
theorem d_Ma_groups_26 : decode c_Ma_groups 26 = .ok (.if_icmp .gt 23, 3) := by decide +kernel
theorem d_Ma_groups_29 : decode c_Ma_groups 29 = .ok (.aload_n 0, 1) := by decide +kernel
theorem d_Ma_groups_30 : decode c_Ma_groups 30 = .ok (.invokevirtual 80, 3) := by decide +kernel
theorem d_Ma_groups_33 : decode c_Ma_groups 33 = .ok (.istore_n 3, 1) := by decide +kernel
theorem d_Ma_groups_34 : decode c_Ma_groups 34 = .ok (.iload_n 3, 1) := by decide +kernel
theorem d_Ma_groups_35 : decode c_Ma_groups 35 = .ok (.iload_n 1, 1) := by decide +kernel
theorem d_Ma_groups_36 : decode c_Ma_groups 36 = .ok (.if_icmp .ne 5, 3) := by decide +kernel
theorem d_Ma_groups_39 : decode c_Ma_groups 39 = .ok (.iload_n 1, 1) := by decide +kernel
theorem d_Ma_groups_40 : decode c_Ma_groups 40 = .ok (.ireturn, 1) := by decide +kernel
theorem d_Ma_groups_41 : decode c_Ma_groups 41 = .ok (.iload_n 3, 1) := by decide +kernel
theorem d_Ma_groups_42 : decode c_Ma_groups 42 = .ok (.istore_n 1, 1) := by decide +kernel
theorem d_Ma_groups_43 : decode c_Ma_groups 43 = .ok (.iinc 2 1, 3) := by decide +kernel
theorem d_Ma_groups_46 : decode c_Ma_groups 46 = .ok (.goto (-25), 3) := by decide +kernel
theorem d_Ma_groups_49 : decode c_Ma_groups 49 = .ok (.iload_n 1, 1) := by decide +kernel
theorem d_Ma_groups_50 : decode c_Ma_groups 50 = .ok (.ireturn, 1) := by decide +kernel
theorem d_Ma_refine_0 : decode c_Ma_refine 0 = .ok (.iconst 0, 1) := by decide +kernel
theorem d_Ma_refine_1 : decode c_Ma_refine 1 = .ok (.istore_n 1, 1) := by decide +kernel
theorem d_Ma_refine_2 : decode c_Ma_refine 2 = .ok (.iconst 0, 1) := by decide +kernel
theorem d_Ma_refine_3 : decode c_Ma_refine 3 = .ok (.istore_n 2, 1) := by decide +kernel
theorem d_Ma_refine_4 : decode c_Ma_refine 4 = .ok (.iload_n 2, 1) := by decide +kernel
theorem d_Ma_refine_5 : decode c_Ma_refine 5 = .ok (.aload_n 0, 1) := by decide +kernel
theorem d_Ma_refine_6 : decode c_Ma_refine 6 = .ok (.getfield 36, 3) := by decide +kernel
theorem d_Ma_refine_9 : decode c_Ma_refine 9 = .ok (.if_icmp .ge 45, 3) := by decide +kernel
theorem d_Ma_refine_12 : decode c_Ma_refine 12 = .ok (.aload_n 0, 1) := by decide +kernel
theorem d_Ma_refine_13 : decode c_Ma_refine 13 = .ok (.iload_n 2, 1) := by decide +kernel
theorem d_Ma_refine_14 : decode c_Ma_refine 14 = .ok (.invokevirtual 84, 3) := by decide +kernel
theorem d_Ma_refine_17 : decode c_Ma_refine 17 = .ok (.istore_n 3, 1) := by decide +kernel
theorem d_Ma_refine_18 : decode c_Ma_refine 18 = .ok (.iload_n 3, 1) := by decide +kernel
theorem d_Ma_refine_19 : decode c_Ma_refine 19 = .ok (.iload_n 2, 1) := by decide +kernel
theorem d_Ma_refine_20 : decode c_Ma_refine 20 = .ok (.if_icmp .ge 18, 3) := by decide +kernel
theorem d_Ma_refine_23 : decode c_Ma_refine 23 = .ok (.aload_n 0, 1) := by decide +kernel
theorem d_Ma_refine_24 : decode c_Ma_refine 24 = .ok (.getfield 29, 3) := by decide +kernel
theorem d_Ma_refine_27 : decode c_Ma_refine 27 = .ok (.iload_n 2, 1) := by decide +kernel
theorem d_Ma_refine_28 : decode c_Ma_refine 28 = .ok (.aload_n 0, 1) := by decide +kernel
theorem d_Ma_refine_29 : decode c_Ma_refine 29 = .ok (.getfield 29, 3) := by decide +kernel
theorem d_Ma_refine_32 : decode c_Ma_refine 32 = .ok (.iload_n 3, 1) := by decide +kernel
theorem d_Ma_refine_33 : decode c_Ma_refine 33 = .ok (.iaload, 1) := by decide +kernel
theorem d_Ma_refine_34 : decode c_Ma_refine 34 = .ok (.iastore, 1) := by decide +kernel
theorem d_Ma_refine_35 : decode c_Ma_refine 35 = .ok (.goto 13, 3) := by decide +kernel
theorem d_Ma_refine_38 : decode c_Ma_refine 38 = .ok (.aload_n 0, 1) := by decide +kernel
theorem d_Ma_refine_39 : decode c_Ma_refine 39 = .ok (.getfield 29, 3) := by decide +kernel
theorem d_Ma_refine_42 : decode c_Ma_refine 42 = .ok (.iload_n 2, 1) := by decide +kernel
theorem d_Ma_refine_43 : decode c_Ma_refine 43 = .ok (.iload_n 1, 1) := by decide +kernel
theorem d_Ma_refine_44 : decode c_Ma_refine 44 = .ok (.iastore, 1) := by decide +kernel
theorem d_Ma_refine_45 : decode c_Ma_refine 45 = .ok (.iinc 1 1, 3) := by decide +kernel
theorem d_Ma_refine_48 : decode c_Ma_refine 48 = .ok (.iinc 2 1, 3) := by decide +kernel
theorem d_Ma_refine_51 : decode c_Ma_refine 51 = .ok (.goto (-47), 3) := by decide +kernel
theorem d_Ma_refine_54 : decode c_Ma_refine 54 = .ok (.aload_n 0, 1) := by decide +kernel
theorem d_Ma_refine_55 : decode c_Ma_refine 55 = .ok (.getfield 29, 3) := by decide +kernel
theorem d_Ma_refine_58 : decode c_Ma_refine 58 = .ok (.iconst 0, 1) := by decide +kernel
theorem d_Ma_refine_59 : decode c_Ma_refine 59 = .ok (.aload_n 0, 1) := by decide +kernel
theorem d_Ma_refine_60 : decode c_Ma_refine 60 = .ok (.getfield 26, 3) := by decide +kernel
theorem d_Ma_refine_63 : decode c_Ma_refine 63 = .ok (.iconst 0, 1) := by decide +kernel
theorem d_Ma_refine_64 : decode c_Ma_refine 64 = .ok (.aload_n 0, 1) := by decide +kernel
theorem d_Ma_refine_65 : decode c_Ma_refine 65 = .ok (.getfield 36, 3) := by decide +kernel
theorem d_Ma_refine_68 : decode c_Ma_refine 68 = .ok (.invokestatic 74, 3) := by decide +kernel
theorem d_Ma_refine_71 : decode c_Ma_refine 71 = .ok (.iload_n 1, 1) := by decide +kernel
theorem d_Ma_refine_72 : decode c_Ma_refine 72 = .ok (.ireturn, 1) := by decide +kernel
theorem d_Ma_firstLike_0 : decode c_Ma_firstLike 0 = .ok (.iconst 0, 1) := by decide +kernel
theorem d_Ma_firstLike_1 : decode c_Ma_firstLike 1 = .ok (.istore_n 2, 1) := by decide +kernel
theorem d_Ma_firstLike_2 : decode c_Ma_firstLike 2 = .ok (.iload_n 2, 1) := by decide +kernel
theorem d_Ma_firstLike_3 : decode c_Ma_firstLike 3 = .ok (.iload_n 1, 1) := by decide +kernel
theorem d_Ma_firstLike_4 : decode c_Ma_firstLike 4 = .ok (.if_icmp .ge 20, 3) := by decide +kernel
theorem d_Ma_firstLike_7 : decode c_Ma_firstLike 7 = .ok (.aload_n 0, 1) := by decide +kernel
theorem d_Ma_firstLike_8 : decode c_Ma_firstLike 8 = .ok (.iload_n 2, 1) := by decide +kernel
theorem d_Ma_firstLike_9 : decode c_Ma_firstLike 9 = .ok (.iload_n 1, 1) := by decide +kernel
theorem d_Ma_firstLike_10 : decode c_Ma_firstLike 10 = .ok (.invokevirtual 87, 3) := by decide +kernel
theorem d_Ma_firstLike_13 : decode c_Ma_firstLike 13 = .ok (.ifCond .eq 5, 3) := by decide +kernel
theorem d_Ma_firstLike_16 : decode c_Ma_firstLike 16 = .ok (.iload_n 2, 1) := by decide +kernel
theorem d_Ma_firstLike_17 : decode c_Ma_firstLike 17 = .ok (.ireturn, 1) := by decide +kernel
theorem d_Ma_firstLike_18 : decode c_Ma_firstLike 18 = .ok (.iinc 2 1, 3) := by decide +kernel
theorem d_Ma_firstLike_21 : decode c_Ma_firstLike 21 = .ok (.goto (-19), 3) := by decide +kernel
theorem d_Ma_firstLike_24 : decode c_Ma_firstLike 24 = .ok (.iload_n 1, 1) := by decide +kernel
theorem d_Ma_firstLike_25 : decode c_Ma_firstLike 25 = .ok (.ireturn, 1) := by decide +kernel
theorem d_Ma_alike_0 : decode c_Ma_alike 0 = .ok (.aload_n 0, 1) := by decide +kernel
theorem d_Ma_alike_1 : decode c_Ma_alike 1 = .ok (.getfield 26, 3) := by decide +kernel
theorem d_Ma_alike_4 : decode c_Ma_alike 4 = .ok (.iload_n 1, 1) := by decide +kernel
theorem d_Ma_alike_5 : decode c_Ma_alike 5 = .ok (.iaload, 1) := by decide +kernel
theorem d_Ma_alike_6 : decode c_Ma_alike 6 = .ok (.aload_n 0, 1) := by decide +kernel
theorem d_Ma_alike_7 : decode c_Ma_alike 7 = .ok (.getfield 26, 3) := by decide +kernel
theorem d_Ma_alike_10 : decode c_Ma_alike 10 = .ok (.iload_n 2, 1) := by decide +kernel
theorem d_Ma_alike_11 : decode c_Ma_alike 11 = .ok (.iaload, 1) := by decide +kernel
theorem d_Ma_alike_12 : decode c_Ma_alike 12 = .ok (.if_icmp .ne 7, 3) := by decide +kernel
theorem d_Ma_alike_15 : decode c_Ma_alike 15 = .ok (.iconst 1, 1) := by decide +kernel
theorem d_Ma_alike_16 : decode c_Ma_alike 16 = .ok (.goto 4, 3) := by decide +kernel
theorem d_Ma_alike_19 : decode c_Ma_alike 19 = .ok (.iconst 0, 1) := by decide +kernel
theorem d_Ma_alike_20 : decode c_Ma_alike 20 = .ok (.istore_n 3, 1) := by decide +kernel
theorem d_Ma_alike_21 : decode c_Ma_alike 21 = .ok (.iconst 0, 1) := by decide +kernel
theorem d_Ma_alike_22 : decode c_Ma_alike 22 = .ok (.istore 4, 2) := by decide +kernel
theorem d_Ma_alike_24 : decode c_Ma_alike 24 = .ok (.iload 4, 2) := by decide +kernel
theorem d_Ma_alike_26 : decode c_Ma_alike 26 = .ok (.iconst 4, 1) := by decide +kernel
theorem d_Ma_alike_27 : decode c_Ma_alike 27 = .ok (.if_icmp .ge 62, 3) := by decide +kernel
theorem d_Ma_alike_30 : decode c_Ma_alike 30 = .ok (.iload_n 3, 1) := by decide +kernel
theorem d_Ma_alike_31 : decode c_Ma_alike 31 = .ok (.ifCond .eq 58, 3) := by decide +kernel
theorem d_Ma_alike_34 : decode c_Ma_alike 34 = .ok (.aload_n 0, 1) := by decide +kernel
theorem d_Ma_alike_35 : decode c_Ma_alike 35 = .ok (.getfield 20, 3) := by decide +kernel
theorem d_Ma_alike_38 : decode c_Ma_alike 38 = .ok (.iload_n 1, 1) := by decide +kernel
theorem d_Ma_alike_39 : decode c_Ma_alike 39 = .ok (.iconst 4, 1) := by decide +kernel
theorem d_Ma_alike_40 : decode c_Ma_alike 40 = .ok (.imul, 1) := by decide +kernel
theorem d_Ma_alike_41 : decode c_Ma_alike 41 = .ok (.iload 4, 2) := by decide +kernel
theorem d_Ma_alike_43 : decode c_Ma_alike 43 = .ok (.iadd, 1) := by decide +kernel
theorem d_Ma_alike_44 : decode c_Ma_alike 44 = .ok (.iaload, 1) := by decide +kernel
theorem d_Ma_alike_45 : decode c_Ma_alike 45 = .ok (.istore 5, 2) := by decide +kernel
theorem d_Ma_alike_47 : decode c_Ma_alike 47 = .ok (.aload_n 0, 1) := by decide +kernel
theorem d_Ma_alike_48 : decode c_Ma_alike 48 = .ok (.getfield 20, 3) := by decide +kernel
theorem d_Ma_alike_51 : decode c_Ma_alike 51 = .ok (.iload_n 2, 1) := by decide +kernel
theorem d_Ma_alike_52 : decode c_Ma_alike 52 = .ok (.iconst 4, 1) := by decide +kernel
theorem d_Ma_alike_53 : decode c_Ma_alike 53 = .ok (.imul, 1) := by decide +kernel
theorem d_Ma_alike_54 : decode c_Ma_alike 54 = .ok (.iload 4, 2) := by decide +kernel
theorem d_Ma_alike_56 : decode c_Ma_alike 56 = .ok (.iadd, 1) := by decide +kernel
theorem d_Ma_alike_57 : decode c_Ma_alike 57 = .ok (.iaload, 1) := by decide +kernel
theorem d_Ma_alike_58 : decode c_Ma_alike 58 = .ok (.istore 6, 2) := by decide +kernel
theorem d_Ma_alike_60 : decode c_Ma_alike 60 = .ok (.aload_n 0, 1) := by decide +kernel
theorem d_Ma_alike_61 : decode c_Ma_alike 61 = .ok (.getfield 26, 3) := by decide +kernel
theorem d_Ma_alike_64 : decode c_Ma_alike 64 = .ok (.iload 5, 2) := by decide +kernel
theorem d_Ma_alike_66 : decode c_Ma_alike 66 = .ok (.iaload, 1) := by decide +kernel
theorem d_Ma_alike_67 : decode c_Ma_alike 67 = .ok (.aload_n 0, 1) := by decide +kernel
theorem d_Ma_alike_68 : decode c_Ma_alike 68 = .ok (.getfield 26, 3) := by decide +kernel
theorem d_Ma_alike_71 : decode c_Ma_alike 71 = .ok (.iload 6, 2) := by decide +kernel
theorem d_Ma_alike_73 : decode c_Ma_alike 73 = .ok (.iaload, 1) := by decide +kernel
theorem d_Ma_alike_74 : decode c_Ma_alike 74 = .ok (.if_icmp .ne 7, 3) := by decide +kernel
theorem d_Ma_alike_77 : decode c_Ma_alike 77 = .ok (.iconst 1, 1) := by decide +kernel
theorem d_Ma_alike_78 : decode c_Ma_alike 78 = .ok (.goto 4, 3) := by decide +kernel
theorem d_Ma_alike_81 : decode c_Ma_alike 81 = .ok (.iconst 0, 1) := by decide +kernel
theorem d_Ma_alike_82 : decode c_Ma_alike 82 = .ok (.istore_n 3, 1) := by decide +kernel
theorem d_Ma_alike_83 : decode c_Ma_alike 83 = .ok (.iinc 4 1, 3) := by decide +kernel
theorem d_Ma_alike_86 : decode c_Ma_alike 86 = .ok (.goto (-62), 3) := by decide +kernel
theorem d_Ma_alike_89 : decode c_Ma_alike 89 = .ok (.iload_n 3, 1) := by decide +kernel
theorem d_Ma_alike_90 : decode c_Ma_alike 90 = .ok (.ireturn, 1) := by decide +kernel
theorem d_Ws_turn_0 : decode c_Ws_turn 0 = .ok (.iload_n 1, 1) := by decide +kernel
theorem d_Ws_turn_1 : decode c_Ws_turn 1 = .ok (.invokestatic 85, 3) := by decide +kernel
theorem d_Ws_turn_4 : decode c_Ws_turn 4 = .ok (.iload_n 2, 1) := by decide +kernel
theorem d_Ws_turn_5 : decode c_Ws_turn 5 = .ok (.invokestatic 85, 3) := by decide +kernel
theorem d_Ws_turn_8 : decode c_Ws_turn 8 = .ok (.aload_n 0, 1) := by decide +kernel
theorem d_Ws_turn_9 : decode c_Ws_turn 9 = .ok (.getfield 55, 3) := by decide +kernel
theorem d_Ws_turn_12 : decode c_Ws_turn 12 = .ok (.aload_n 0, 1) := by decide +kernel
theorem d_Ws_turn_13 : decode c_Ws_turn 13 = .ok (.getfield 18, 3) := by decide +kernel
theorem d_Ws_turn_16 : decode c_Ws_turn 16 = .ok (.iload_n 1, 1) := by decide +kernel
theorem d_Ws_turn_17 : decode c_Ws_turn 17 = .ok (.aaload, 1) := by decide +kernel
theorem d_Ws_turn_18 : decode c_Ws_turn 18 = .ok (.invokevirtual 146, 3) := by decide +kernel
theorem d_Ws_turn_21 : decode c_Ws_turn 21 = .ok (.aload_n 0, 1) := by decide +kernel
theorem d_Ws_turn_22 : decode c_Ws_turn 22 = .ok (.iload_n 2, 1) := by decide +kernel
theorem d_Ws_turn_23 : decode c_Ws_turn 23 = .ok (.invokevirtual 99, 3) := by decide +kernel
theorem d_Ws_turn_26 : decode c_Ws_turn 26 = .ok (.return_, 1) := by decide +kernel
theorem d_Ex_becomeReverse_0 : decode c_Ex_becomeReverse 0 = .ok (.aload_n 0, 1) := by decide +kernel
theorem d_Ex_becomeReverse_1 : decode c_Ex_becomeReverse 1 = .ok (.invokevirtual 47, 3) := by decide +kernel
theorem d_Ex_becomeReverse_4 : decode c_Ex_becomeReverse 4 = .ok (.iconst 0, 1) := by decide +kernel
theorem d_Ex_becomeReverse_5 : decode c_Ex_becomeReverse 5 = .ok (.istore_n 2, 1) := by decide +kernel
theorem d_Ex_becomeReverse_6 : decode c_Ex_becomeReverse 6 = .ok (.iload_n 2, 1) := by decide +kernel
theorem d_Ex_becomeReverse_7 : decode c_Ex_becomeReverse 7 = .ok (.bipush 8, 2) := by decide +kernel
theorem d_Ex_becomeReverse_9 : decode c_Ex_becomeReverse 9 = .ok (.if_icmp .ge 22, 3) := by decide +kernel
theorem d_Ex_becomeReverse_12 : decode c_Ex_becomeReverse 12 = .ok (.aload_n 0, 1) := by decide +kernel
theorem d_Ex_becomeReverse_13 : decode c_Ex_becomeReverse 13 = .ok (.aload_n 1, 1) := by decide +kernel
theorem d_Ex_becomeReverse_14 : decode c_Ex_becomeReverse 14 = .ok (.getfield 11, 3) := by decide +kernel
theorem d_Ex_becomeReverse_17 : decode c_Ex_becomeReverse 17 = .ok (.iload_n 2, 1) := by decide +kernel
theorem d_Ex_becomeReverse_18 : decode c_Ex_becomeReverse 18 = .ok (.iaload, 1) := by decide +kernel
theorem d_Ex_becomeReverse_19 : decode c_Ex_becomeReverse 19 = .ok (.iconst 1, 1) := by decide +kernel
theorem d_Ex_becomeReverse_20 : decode c_Ex_becomeReverse 20 = .ok (.iload_n 2, 1) := by decide +kernel
theorem d_Ex_becomeReverse_21 : decode c_Ex_becomeReverse 21 = .ok (.ishl, 1) := by decide +kernel
theorem d_Ex_becomeReverse_22 : decode c_Ex_becomeReverse 22 = .ok (.invokevirtual 50, 3) := by decide +kernel
theorem d_Ex_becomeReverse_25 : decode c_Ex_becomeReverse 25 = .ok (.iinc 2 1, 3) := by decide +kernel
theorem d_Ex_becomeReverse_28 : decode c_Ex_becomeReverse 28 = .ok (.goto (-22), 3) := by decide +kernel
theorem d_Ex_becomeReverse_31 : decode c_Ex_becomeReverse 31 = .ok (.aload_n 0, 1) := by decide +kernel
theorem d_Ex_becomeReverse_32 : decode c_Ex_becomeReverse 32 = .ok (.getfield 11, 3) := by decide +kernel
theorem d_Ex_becomeReverse_35 : decode c_Ex_becomeReverse 35 = .ok (.bipush 8, 2) := by decide +kernel
theorem d_Ex_becomeReverse_37 : decode c_Ex_becomeReverse 37 = .ok (.aload_n 1, 1) := by decide +kernel
theorem d_Ex_becomeReverse_38 : decode c_Ex_becomeReverse 38 = .ok (.getfield 18, 3) := by decide +kernel
theorem d_Ex_becomeReverse_41 : decode c_Ex_becomeReverse 41 = .ok (.sipush (-257), 3) := by decide +kernel
theorem d_Ex_becomeReverse_44 : decode c_Ex_becomeReverse 44 = .ok (.iand, 1) := by decide +kernel
theorem d_Ex_becomeReverse_45 : decode c_Ex_becomeReverse 45 = .ok (.iastore, 1) := by decide +kernel
theorem d_Ex_becomeReverse_46 : decode c_Ex_becomeReverse 46 = .ok (.aload_n 0, 1) := by decide +kernel
theorem d_Ex_becomeReverse_47 : decode c_Ex_becomeReverse 47 = .ok (.aload_n 1, 1) := by decide +kernel
theorem d_Ex_becomeReverse_48 : decode c_Ex_becomeReverse 48 = .ok (.getfield 11, 3) := by decide +kernel
theorem d_Ex_becomeReverse_51 : decode c_Ex_becomeReverse 51 = .ok (.bipush 8, 2) := by decide +kernel
theorem d_Ex_becomeReverse_53 : decode c_Ex_becomeReverse 53 = .ok (.iaload, 1) := by decide +kernel
theorem d_Ex_becomeReverse_54 : decode c_Ex_becomeReverse 54 = .ok (.aload_n 1, 1) := by decide +kernel
theorem d_Ex_becomeReverse_55 : decode c_Ex_becomeReverse 55 = .ok (.getfield 18, 3) := by decide +kernel
theorem d_Ex_becomeReverse_58 : decode c_Ex_becomeReverse 58 = .ok (.sipush 256, 3) := by decide +kernel
theorem d_Ex_becomeReverse_61 : decode c_Ex_becomeReverse 61 = .ok (.iand, 1) := by decide +kernel
theorem d_Ex_becomeReverse_62 : decode c_Ex_becomeReverse 62 = .ok (.ior, 1) := by decide +kernel
theorem d_Ex_becomeReverse_63 : decode c_Ex_becomeReverse 63 = .ok (.putfield 18, 3) := by decide +kernel
theorem d_Ex_becomeReverse_66 : decode c_Ex_becomeReverse 66 = .ok (.aload_n 1, 1) := by decide +kernel
theorem d_Ex_becomeReverse_67 : decode c_Ex_becomeReverse 67 = .ok (.getfield 15, 3) := by decide +kernel
theorem d_Ex_becomeReverse_70 : decode c_Ex_becomeReverse 70 = .ok (.iconst 0, 1) := by decide +kernel
theorem d_Ex_becomeReverse_71 : decode c_Ex_becomeReverse 71 = .ok (.aload_n 0, 1) := by decide +kernel
theorem d_Ex_becomeReverse_72 : decode c_Ex_becomeReverse 72 = .ok (.getfield 15, 3) := by decide +kernel
theorem d_Ex_becomeReverse_75 : decode c_Ex_becomeReverse 75 = .ok (.iconst 0, 1) := by decide +kernel
theorem d_Ex_becomeReverse_76 : decode c_Ex_becomeReverse 76 = .ok (.iconst 4, 1) := by decide +kernel
theorem d_Ex_becomeReverse_77 : decode c_Ex_becomeReverse 77 = .ok (.invokestatic 54, 3) := by decide +kernel
theorem d_Ex_becomeReverse_80 : decode c_Ex_becomeReverse 80 = .ok (.aload_n 0, 1) := by decide +kernel
theorem d_Ex_becomeReverse_81 : decode c_Ex_becomeReverse 81 = .ok (.aload_n 1, 1) := by decide +kernel
theorem d_Ex_becomeReverse_82 : decode c_Ex_becomeReverse 82 = .ok (.getfield 22, 3) := by decide +kernel
theorem d_Ex_becomeReverse_85 : decode c_Ex_becomeReverse 85 = .ok (.putfield 22, 3) := by decide +kernel
theorem d_Ex_becomeReverse_88 : decode c_Ex_becomeReverse 88 = .ok (.return_, 1) := by decide +kernel
theorem d_Ws_letter_0 : decode c_Ws_letter 0 = .ok (.iload_n 1, 1) := by decide +kernel
theorem d_Ws_letter_1 : decode c_Ws_letter 1 = .ok (.ifCond .lt 14, 3) := by decide +kernel
theorem d_Ws_letter_4 : decode c_Ws_letter 4 = .ok (.iload_n 1, 1) := by decide +kernel
theorem d_Ws_letter_5 : decode c_Ws_letter 5 = .ok (.aload_n 0, 1) := by decide +kernel
theorem d_Ws_letter_6 : decode c_Ws_letter 6 = .ok (.getfield 51, 3) := by decide +kernel
theorem d_Ws_letter_9 : decode c_Ws_letter 9 = .ok (.getfield 122, 3) := by decide +kernel
theorem d_Ws_letter_12 : decode c_Ws_letter 12 = .ok (.if_icmp .lt 13, 3) := by decide +kernel
theorem d_Ws_letter_15 : decode c_Ws_letter 15 = .ok (.new 149, 3) := by decide +kernel
theorem d_Ws_letter_18 : decode c_Ws_letter 18 = .ok (.dup, 1) := by decide +kernel
theorem d_Ws_letter_19 : decode c_Ws_letter 19 = .ok (.ldc 151, 2) := by decide +kernel
theorem d_Ws_letter_21 : decode c_Ws_letter 21 = .ok (.invokespecial 153, 3) := by decide +kernel
theorem d_Ws_letter_24 : decode c_Ws_letter 24 = .ok (.athrow, 1) := by decide +kernel
theorem d_Ws_letter_25 : decode c_Ws_letter 25 = .ok (.aload_n 0, 1) := by decide +kernel
theorem d_Ws_letter_26 : decode c_Ws_letter 26 = .ok (.getfield 51, 3) := by decide +kernel
theorem d_Ws_letter_29 : decode c_Ws_letter 29 = .ok (.getfield 154, 3) := by decide +kernel
theorem d_Ws_letter_32 : decode c_Ws_letter 32 = .ok (.iload_n 1, 1) := by decide +kernel
theorem d_Ws_letter_33 : decode c_Ws_letter 33 = .ok (.iaload, 1) := by decide +kernel
theorem d_Ws_letter_34 : decode c_Ws_letter 34 = .ok (.ireturn, 1) := by decide +kernel
end
section
theorem d_Md_init_0 : decode c_Md_init 0 = .ok (.aload_n 0, 1) := by decide +kernel
theorem d_Md_init_1 : decode c_Md_init 1 = .ok (.invokespecial 3, 3) := by decide +kernel
theorem d_Md_init_4 : decode c_Md_init 4 = .ok (.aload_n 0, 1) := by decide +kernel
theorem d_Md_init_5 : decode c_Md_init 5 = .ok (.bipush 80, 2) := by decide +kernel
theorem d_Md_init_7 : decode c_Md_init 7 = .ok (.newarray .int, 2) := by decide +kernel
theorem d_Md_init_9 : decode c_Md_init 9 = .ok (.putfield 9, 3) := by decide +kernel
theorem d_Md_init_12 : decode c_Md_init 12 = .ok (.aload_n 0, 1) := by decide +kernel
theorem d_Md_init_13 : decode c_Md_init 13 = .ok (.iconst (-1), 1) := by decide +kernel
theorem d_Md_init_14 : decode c_Md_init 14 = .ok (.putfield 13, 3) := by decide +kernel
theorem d_Md_init_17 : decode c_Md_init 17 = .ok (.aload_n 0, 1) := by decide +kernel
theorem d_Md_init_18 : decode c_Md_init 18 = .ok (.iconst 4, 1) := by decide +kernel
theorem d_Md_init_19 : decode c_Md_init 19 = .ok (.newarray .int, 2) := by decide +kernel
theorem d_Md_init_21 : decode c_Md_init 21 = .ok (.putfield 17, 3) := by decide +kernel
theorem d_Md_init_24 : decode c_Md_init 24 = .ok (.aload_n 0, 1) := by decide +kernel
theorem d_Md_init_25 : decode c_Md_init 25 = .ok (.bipush 32, 2) := by decide +kernel
theorem d_Md_init_27 : decode c_Md_init 27 = .ok (.newarray .int, 2) := by decide +kernel
theorem d_Md_init_29 : decode c_Md_init 29 = .ok (.putfield 20, 3) := by decide +kernel
theorem d_Md_init_32 : decode c_Md_init 32 = .ok (.aload_n 0, 1) := by decide +kernel
theorem d_Md_init_33 : decode c_Md_init 33 = .ok (.iconst 4, 1) := by decide +kernel
theorem d_Md_init_34 : decode c_Md_init 34 = .ok (.newarray .int, 2) := by decide +kernel
theorem d_Md_init_36 : decode c_Md_init 36 = .ok (.putfield 23, 3) := by decide +kernel
theorem d_Md_init_39 : decode c_Md_init 39 = .ok (.aload_n 0, 1) := by decide +kernel
theorem d_Md_init_40 : decode c_Md_init 40 = .ok (.iconst 4, 1) := by decide +kernel
theorem d_Md_init_41 : decode c_Md_init 41 = .ok (.newarray .int, 2) := by decide +kernel
theorem d_Md_init_43 : decode c_Md_init 43 = .ok (.putfield 26, 3) := by decide +kernel
theorem d_Md_init_46 : decode c_Md_init 46 = .ok (.aload_n 0, 1) := by decide +kernel
theorem d_Md_init_47 : decode c_Md_init 47 = .ok (.bipush 32, 2) := by decide +kernel
theorem d_Md_init_49 : decode c_Md_init 49 = .ok (.newarray .int, 2) := by decide +kernel
theorem d_Md_init_51 : decode c_Md_init 51 = .ok (.putfield 29, 3) := by decide +kernel
theorem d_Md_init_54 : decode c_Md_init 54 = .ok (.aload_n 0, 1) := by decide +kernel
theorem d_Md_init_55 : decode c_Md_init 55 = .ok (.iconst 4, 1) := by decide +kernel
theorem d_Md_init_56 : decode c_Md_init 56 = .ok (.newarray .boolean, 2) := by decide +kernel
theorem d_Md_init_58 : decode c_Md_init 58 = .ok (.putfield 32, 3) := by decide +kernel
theorem d_Md_init_61 : decode c_Md_init 61 = .ok (.aload_n 0, 1) := by decide +kernel
theorem d_Md_init_62 : decode c_Md_init 62 = .ok (.sipush 2400, 3) := by decide +kernel
theorem d_Md_init_65 : decode c_Md_init 65 = .ok (.newarray .int, 2) := by decide +kernel
theorem d_Md_init_67 : decode c_Md_init 67 = .ok (.putfield 36, 3) := by decide +kernel
theorem d_Md_init_70 : decode c_Md_init 70 = .ok (.aload_n 0, 1) := by decide +kernel
theorem d_Md_init_71 : decode c_Md_init 71 = .ok (.sipush 400, 3) := by decide +kernel
theorem d_Md_init_74 : decode c_Md_init 74 = .ok (.newarray .boolean, 2) := by decide +kernel
theorem d_Md_init_76 : decode c_Md_init 76 = .ok (.putfield 39, 3) := by decide +kernel
theorem d_Md_init_79 : decode c_Md_init 79 = .ok (.aload_n 0, 1) := by decide +kernel
theorem d_Md_init_80 : decode c_Md_init 80 = .ok (.sipush 400, 3) := by decide +kernel
theorem d_Md_init_83 : decode c_Md_init 83 = .ok (.newarray .int, 2) := by decide +kernel
theorem d_Md_init_85 : decode c_Md_init 85 = .ok (.putfield 42, 3) := by decide +kernel
theorem d_Md_init_88 : decode c_Md_init 88 = .ok (.aload_n 0, 1) := by decide +kernel
theorem d_Md_init_89 : decode c_Md_init 89 = .ok (.sipush 400, 3) := by decide +kernel
theorem d_Md_init_92 : decode c_Md_init 92 = .ok (.newarray .int, 2) := by decide +kernel
theorem d_Md_init_94 : decode c_Md_init 94 = .ok (.putfield 45, 3) := by decide +kernel
theorem d_Md_init_97 : decode c_Md_init 97 = .ok (.aload_n 0, 1) := by decide +kernel
theorem d_Md_init_98 : decode c_Md_init 98 = .ok (.bipush 8, 2) := by decide +kernel
theorem d_Md_init_100 : decode c_Md_init 100 = .ok (.newarray .int, 2) := by decide +kernel
theorem d_Md_init_102 : decode c_Md_init 102 = .ok (.putfield 48, 3) := by decide +kernel
theorem d_Md_init_105 : decode c_Md_init 105 = .ok (.aload_n 0, 1) := by decide +kernel
theorem d_Md_init_106 : decode c_Md_init 106 = .ok (.bipush 8, 2) := by decide +kernel
theorem d_Md_init_108 : decode c_Md_init 108 = .ok (.newarray .int, 2) := by decide +kernel
theorem d_Md_init_110 : decode c_Md_init 110 = .ok (.putfield 51, 3) := by decide +kernel
theorem d_Md_init_113 : decode c_Md_init 113 = .ok (.aload_n 0, 1) := by decide +kernel
theorem d_Md_init_114 : decode c_Md_init 114 = .ok (.ldc 54, 2) := by decide +kernel
theorem d_Md_init_116 : decode c_Md_init 116 = .ok (.newarray .int, 2) := by decide +kernel
theorem d_Md_init_118 : decode c_Md_init 118 = .ok (.putfield 55, 3) := by decide +kernel
theorem d_Md_init_121 : decode c_Md_init 121 = .ok (.aload_n 0, 1) := by decide +kernel
theorem d_Md_init_122 : decode c_Md_init 122 = .ok (.ldc 54, 2) := by decide +kernel
theorem d_Md_init_124 : decode c_Md_init 124 = .ok (.newarray .int, 2) := by decide +kernel
theorem d_Md_init_126 : decode c_Md_init 126 = .ok (.putfield 58, 3) := by decide +kernel
theorem d_Md_init_129 : decode c_Md_init 129 = .ok (.aload_n 0, 1) := by decide +kernel
theorem d_Md_init_130 : decode c_Md_init 130 = .ok (.ldc 54, 2) := by decide +kernel
theorem d_Md_init_132 : decode c_Md_init 132 = .ok (.newarray .int, 2) := by decide +kernel
theorem d_Md_init_134 : decode c_Md_init 134 = .ok (.putfield 61, 3) := by decide +kernel
theorem d_Md_init_137 : decode c_Md_init 137 = .ok (.aload_n 0, 1) := by decide +kernel
theorem d_Md_init_138 : decode c_Md_init 138 = .ok (.ldc 54, 2) := by decide +kernel
theorem d_Md_init_140 : decode c_Md_init 140 = .ok (.newarray .boolean, 2) := by decide +kernel
theorem d_Md_init_142 : decode c_Md_init 142 = .ok (.putfield 64, 3) := by decide +kernel
theorem d_Md_init_145 : decode c_Md_init 145 = .ok (.aload_n 0, 1) := by decide +kernel
theorem d_Md_init_146 : decode c_Md_init 146 = .ok (.sipush 7967, 3) := by decide +kernel
theorem d_Md_init_149 : decode c_Md_init 149 = .ok (.newarray .long, 2) := by decide +kernel
theorem d_Md_init_151 : decode c_Md_init 151 = .ok (.putfield 67, 3) := by decide +kernel
theorem d_Md_init_154 : decode c_Md_init 154 = .ok (.aload_n 0, 1) := by decide +kernel
theorem d_Md_init_155 : decode c_Md_init 155 = .ok (.sipush 257, 3) := by decide +kernel
theorem d_Md_init_158 : decode c_Md_init 158 = .ok (.newarray .int, 2) := by decide +kernel
theorem d_Md_init_160 : decode c_Md_init 160 = .ok (.putfield 71, 3) := by decide +kernel
theorem d_Md_init_163 : decode c_Md_init 163 = .ok (.aload_n 0, 1) := by decide +kernel
theorem d_Md_init_164 : decode c_Md_init 164 = .ok (.sipush 257, 3) := by decide +kernel
theorem d_Md_init_167 : decode c_Md_init 167 = .ok (.newarray .int, 2) := by decide +kernel
theorem d_Md_init_169 : decode c_Md_init 169 = .ok (.putfield 74, 3) := by decide +kernel
theorem d_Md_init_172 : decode c_Md_init 172 = .ok (.aload_n 0, 1) := by decide +kernel
theorem d_Md_init_173 : decode c_Md_init 173 = .ok (.bipush 9, 2) := by decide +kernel
theorem d_Md_init_175 : decode c_Md_init 175 = .ok (.newarray .int, 2) := by decide +kernel
theorem d_Md_init_177 : decode c_Md_init 177 = .ok (.putfield 77, 3) := by decide +kernel
theorem d_Md_init_180 : decode c_Md_init 180 = .ok (.aload_n 0, 1) := by decide +kernel
theorem d_Md_init_181 : decode c_Md_init 181 = .ok (.bipush 9, 2) := by decide +kernel
theorem d_Md_init_183 : decode c_Md_init 183 = .ok (.newarray .int, 2) := by decide +kernel
theorem d_Md_init_185 : decode c_Md_init 185 = .ok (.putfield 80, 3) := by decide +kernel
theorem d_Md_init_188 : decode c_Md_init 188 = .ok (.return_, 1) := by decide +kernel
theorem d_Md_thrown_0 : decode c_Md_thrown 0 = .ok (.aload_n 0, 1) := by decide +kernel
theorem d_Md_thrown_1 : decode c_Md_thrown 1 = .ok (.getfield 83, 3) := by decide +kernel
theorem d_Md_thrown_4 : decode c_Md_thrown 4 = .ok (.ireturn, 1) := by decide +kernel
theorem d_Md_feed_0 : decode c_Md_feed 0 = .ok (.aload_n 0, 1) := by decide +kernel
theorem d_Md_feed_1 : decode c_Md_feed 1 = .ok (.iload_n 3, 1) := by decide +kernel
theorem d_Md_feed_2 : decode c_Md_feed 2 = .ok (.iconst 1, 1) := by decide +kernel
theorem d_Md_feed_3 : decode c_Md_feed 3 = .ok (.bipush 8, 2) := by decide +kernel
theorem d_Md_feed_5 : decode c_Md_feed 5 = .ok (.invokestatic 86, 3) := by decide +kernel
theorem d_Md_feed_8 : decode c_Md_feed 8 = .ok (.ifCond .ne 7, 3) := by decide +kernel
theorem d_Md_feed_11 : decode c_Md_feed 11 = .ok (.iconst 1, 1) := by decide +kernel
theorem d_Md_feed_12 : decode c_Md_feed 12 = .ok (.goto 19, 3) := by decide +kernel
theorem d_Md_feed_15 : decode c_Md_feed 15 = .ok (.aload_n 0, 1) := by decide +kernel
theorem d_Md_feed_16 : decode c_Md_feed 16 = .ok (.getfield 90, 3) := by decide +kernel
theorem d_Md_feed_19 : decode c_Md_feed 19 = .ok (.iload_n 3, 1) := by decide +kernel
theorem d_Md_feed_20 : decode c_Md_feed 20 = .ok (.iadd, 1) := by decide +kernel
theorem d_Md_feed_21 : decode c_Md_feed 21 = .ok (.bipush 80, 2) := by decide +kernel
theorem d_Md_feed_23 : decode c_Md_feed 23 = .ok (.if_icmp .le 7, 3) := by decide +kernel
theorem d_Md_feed_26 : decode c_Md_feed 26 = .ok (.iconst 2, 1) := by decide +kernel
theorem d_Md_feed_27 : decode c_Md_feed 27 = .ok (.goto 4, 3) := by decide +kernel
theorem d_Md_feed_30 : decode c_Md_feed 30 = .ok (.iconst 0, 1) := by decide +kernel
theorem d_Md_feed_31 : decode c_Md_feed 31 = .ok (.putfield 83, 3) := by decide +kernel
theorem d_Md_feed_34 : decode c_Md_feed 34 = .ok (.aload_n 0, 1) := by decide +kernel
theorem d_Md_feed_35 : decode c_Md_feed 35 = .ok (.getfield 83, 3) := by decide +kernel
theorem d_Md_feed_38 : decode c_Md_feed 38 = .ok (.ifCond .le 5, 3) := by decide +kernel
theorem d_Md_feed_41 : decode c_Md_feed 41 = .ok (.iconst 0, 1) := by decide +kernel
theorem d_Md_feed_42 : decode c_Md_feed 42 = .ok (.ireturn, 1) := by decide +kernel
theorem d_Md_feed_43 : decode c_Md_feed 43 = .ok (.iload_n 3, 1) := by decide +kernel
theorem d_Md_feed_44 : decode c_Md_feed 44 = .ok (.iconst 1, 1) := by decide +kernel
theorem d_Md_feed_45 : decode c_Md_feed 45 = .ok (.isub, 1) := by decide +kernel
theorem d_Md_feed_46 : decode c_Md_feed 46 = .ok (.istore 4, 2) := by decide +kernel
theorem d_Md_feed_48 : decode c_Md_feed 48 = .ok (.iload 4, 2) := by decide +kernel
theorem d_Md_feed_50 : decode c_Md_feed 50 = .ok (.ifCond .lt 40, 3) := by decide +kernel
theorem d_Md_feed_53 : decode c_Md_feed 53 = .ok (.aload_n 0, 1) := by decide +kernel
theorem d_Md_feed_54 : decode c_Md_feed 54 = .ok (.getfield 9, 3) := by decide +kernel
theorem d_Md_feed_57 : decode c_Md_feed 57 = .ok (.aload_n 0, 1) := by decide +kernel
theorem d_Md_feed_58 : decode c_Md_feed 58 = .ok (.getfield 90, 3) := by decide +kernel
theorem d_Md_feed_61 : decode c_Md_feed 61 = .ok (.lload_n 1, 1) := by decide +kernel
theorem d_Md_feed_62 : decode c_Md_feed 62 = .ok (.bipush 8, 2) := by decide +kernel
theorem d_Md_feed_64 : decode c_Md_feed 64 = .ok (.iload 4, 2) := by decide +kernel
theorem d_Md_feed_66 : decode c_Md_feed 66 = .ok (.imul, 1) := by decide +kernel
theorem d_Md_feed_67 : decode c_Md_feed 67 = .ok (.lshr, 1) := by decide +kernel
theorem d_Md_feed_68 : decode c_Md_feed 68 = .ok (.l2i, 1) := by decide +kernel
theorem d_Md_feed_69 : decode c_Md_feed 69 = .ok (.sipush 255, 3) := by decide +kernel
theorem d_Md_feed_72 : decode c_Md_feed 72 = .ok (.iand, 1) := by decide +kernel
theorem d_Md_feed_73 : decode c_Md_feed 73 = .ok (.iastore, 1) := by decide +kernel
theorem d_Md_feed_74 : decode c_Md_feed 74 = .ok (.aload_n 0, 1) := by decide +kernel
theorem d_Md_feed_75 : decode c_Md_feed 75 = .ok (.dup, 1) := by decide +kernel
theorem d_Md_feed_76 : decode c_Md_feed 76 = .ok (.getfield 90, 3) := by decide +kernel
theorem d_Md_feed_79 : decode c_Md_feed 79 = .ok (.iconst 1, 1) := by decide +kernel
theorem d_Md_feed_80 : decode c_Md_feed 80 = .ok (.iadd, 1) := by decide +kernel
theorem d_Md_feed_81 : decode c_Md_feed 81 = .ok (.putfield 90, 3) := by decide +kernel
theorem d_Md_feed_84 : decode c_Md_feed 84 = .ok (.iinc 4 (-1), 3) := by decide +kernel
theorem d_Md_feed_87 : decode c_Md_feed 87 = .ok (.goto (-39), 3) := by decide +kernel
theorem d_Md_feed_90 : decode c_Md_feed 90 = .ok (.aload_n 0, 1) := by decide +kernel
theorem d_Md_feed_91 : decode c_Md_feed 91 = .ok (.getfield 90, 3) := by decide +kernel
theorem d_Md_feed_94 : decode c_Md_feed 94 = .ok (.ireturn, 1) := by decide +kernel
theorem d_Md_in_0 : decode c_Md_in 0 = .ok (.iload_n 0, 1) := by decide +kernel
theorem d_Md_in_1 : decode c_Md_in 1 = .ok (.iload_n 1, 1) := by decide +kernel
theorem d_Md_in_2 : decode c_Md_in 2 = .ok (.if_icmp .lt 12, 3) := by decide +kernel
theorem d_Md_in_5 : decode c_Md_in 5 = .ok (.iload_n 0, 1) := by decide +kernel
theorem d_Md_in_6 : decode c_Md_in 6 = .ok (.iload_n 2, 1) := by decide +kernel
theorem d_Md_in_7 : decode c_Md_in 7 = .ok (.if_icmp .gt 7, 3) := by decide +kernel
theorem d_Md_in_10 : decode c_Md_in 10 = .ok (.iconst 1, 1) := by decide +kernel
theorem d_Md_in_11 : decode c_Md_in 11 = .ok (.goto 4, 3) := by decide +kernel
theorem d_Md_in_14 : decode c_Md_in 14 = .ok (.iconst 0, 1) := by decide +kernel
theorem d_Md_in_15 : decode c_Md_in 15 = .ok (.ireturn, 1) := by decide +kernel
theorem d_Md_read_0 : decode c_Md_read 0 = .ok (.iload_n 1, 1) := by decide +kernel
theorem d_Md_read_1 : decode c_Md_read 1 = .ok (.invokestatic 135, 3) := by decide +kernel
theorem d_Md_read_4 : decode c_Md_read 4 = .ok (.ifCond .ne 15, 3) := by decide +kernel
theorem d_Md_read_7 : decode c_Md_read 7 = .ok (.aload_n 0, 1) := by decide +kernel
theorem d_Md_read_8 : decode c_Md_read 8 = .ok (.iconst 0, 1) := by decide +kernel
theorem d_Md_read_9 : decode c_Md_read 9 = .ok (.putfield 90, 3) := by decide +kernel
theorem d_Md_read_12 : decode c_Md_read 12 = .ok (.aload_n 0, 1) := by decide +kernel
theorem d_Md_read_13 : decode c_Md_read 13 = .ok (.iconst 1, 1) := by decide +kernel
theorem d_Md_read_14 : decode c_Md_read 14 = .ok (.putfield 83, 3) := by decide +kernel
theorem d_Md_read_17 : decode c_Md_read 17 = .ok (.iconst 0, 1) := by decide +kernel
theorem d_Md_read_18 : decode c_Md_read 18 = .ok (.ireturn, 1) := by decide +kernel
theorem d_Md_read_19 : decode c_Md_read 19 = .ok (.aload_n 0, 1) := by decide +kernel
theorem d_Md_read_20 : decode c_Md_read 20 = .ok (.iconst 0, 1) := by decide +kernel
theorem d_Md_read_21 : decode c_Md_read 21 = .ok (.putfield 93, 3) := by decide +kernel
theorem d_Md_read_24 : decode c_Md_read 24 = .ok (.aload_n 0, 1) := by decide +kernel
theorem d_Md_read_25 : decode c_Md_read 25 = .ok (.iconst (-1), 1) := by decide +kernel
theorem d_Md_read_26 : decode c_Md_read 26 = .ok (.putfield 99, 3) := by decide +kernel
theorem d_Md_read_29 : decode c_Md_read 29 = .ok (.aload_n 0, 1) := by decide +kernel
theorem d_Md_read_30 : decode c_Md_read 30 = .ok (.iconst 0, 1) := by decide +kernel
theorem d_Md_read_31 : decode c_Md_read 31 = .ok (.putfield 118, 3) := by decide +kernel
theorem d_Md_read_34 : decode c_Md_read 34 = .ok (.aload_n 0, 1) := by decide +kernel
theorem d_Md_read_35 : decode c_Md_read 35 = .ok (.iconst 0, 1) := by decide +kernel
theorem d_Md_read_36 : decode c_Md_read 36 = .ok (.putfield 96, 3) := by decide +kernel
theorem d_Md_read_39 : decode c_Md_read 39 = .ok (.aload_n 0, 1) := by decide +kernel
theorem d_Md_read_40 : decode c_Md_read 40 = .ok (.iconst 0, 1) := by decide +kernel
theorem d_Md_read_41 : decode c_Md_read 41 = .ok (.putfield 102, 3) := by decide +kernel
theorem d_Md_read_44 : decode c_Md_read 44 = .ok (.aload_n 0, 1) := by decide +kernel
theorem d_Md_read_45 : decode c_Md_read 45 = .ok (.invokevirtual 139, 3) := by decide +kernel
theorem d_Md_read_48 : decode c_Md_read 48 = .ok (.istore_n 2, 1) := by decide +kernel
theorem d_Md_read_49 : decode c_Md_read 49 = .ok (.aload_n 0, 1) := by decide +kernel
theorem d_Md_read_50 : decode c_Md_read 50 = .ok (.getfield 99, 3) := by decide +kernel
theorem d_Md_read_53 : decode c_Md_read 53 = .ok (.ifCond .ge 14, 3) := by decide +kernel
theorem d_Md_read_56 : decode c_Md_read 56 = .ok (.aload_n 0, 1) := by decide +kernel
theorem d_Md_read_57 : decode c_Md_read 57 = .ok (.invokevirtual 110, 3) := by decide +kernel
theorem d_Md_read_60 : decode c_Md_read 60 = .ok (.ifCond .lt 7, 3) := by decide +kernel
theorem d_Md_read_63 : decode c_Md_read 63 = .ok (.aload_n 0, 1) := by decide +kernel
theorem d_Md_read_64 : decode c_Md_read 64 = .ok (.invokevirtual 105, 3) := by decide +kernel
theorem d_Md_read_67 : decode c_Md_read 67 = .ok (.aload_n 0, 1) := by decide +kernel
theorem d_Md_read_68 : decode c_Md_read 68 = .ok (.iconst 0, 1) := by decide +kernel
theorem d_Md_read_69 : decode c_Md_read 69 = .ok (.putfield 90, 3) := by decide +kernel
theorem d_Md_read_72 : decode c_Md_read 72 = .ok (.aload_n 0, 1) := by decide +kernel
theorem d_Md_read_73 : decode c_Md_read 73 = .ok (.aload_n 0, 1) := by decide +kernel
theorem d_Md_read_74 : decode c_Md_read 74 = .ok (.getfield 99, 3) := by decide +kernel
theorem d_Md_read_77 : decode c_Md_read 77 = .ok (.putfield 13, 3) := by decide +kernel
theorem d_Md_read_80 : decode c_Md_read 80 = .ok (.aload_n 0, 1) := by decide +kernel
theorem d_Md_read_81 : decode c_Md_read 81 = .ok (.aload_n 0, 1) := by decide +kernel
theorem d_Md_read_82 : decode c_Md_read 82 = .ok (.getfield 99, 3) := by decide +kernel
theorem d_Md_read_85 : decode c_Md_read 85 = .ok (.ifCond .ge 7, 3) := by decide +kernel
theorem d_Md_read_88 : decode c_Md_read 88 = .ok (.iconst 1, 1) := by decide +kernel
theorem d_Md_read_89 : decode c_Md_read 89 = .ok (.goto 4, 3) := by decide +kernel
theorem d_Md_read_92 : decode c_Md_read 92 = .ok (.iconst 0, 1) := by decide +kernel
theorem d_Md_read_93 : decode c_Md_read 93 = .ok (.invokevirtual 142, 3) := by decide +kernel
theorem d_Md_read_96 : decode c_Md_read 96 = .ok (.ifCond .ne 5, 3) := by decide +kernel
theorem d_Md_read_99 : decode c_Md_read 99 = .ok (.iconst 0, 1) := by decide +kernel
theorem d_Md_read_100 : decode c_Md_read 100 = .ok (.ireturn, 1) := by decide +kernel
theorem d_Md_read_101 : decode c_Md_read 101 = .ok (.aload_n 0, 1) := by decide +kernel
theorem d_Md_read_102 : decode c_Md_read 102 = .ok (.getfield 17, 3) := by decide +kernel
theorem d_Md_read_105 : decode c_Md_read 105 = .ok (.iload_n 1, 1) := by decide +kernel
theorem d_Md_read_106 : decode c_Md_read 106 = .ok (.aload_n 0, 1) := by decide +kernel
theorem d_Md_read_107 : decode c_Md_read 107 = .ok (.getfield 102, 3) := by decide +kernel
theorem d_Md_read_110 : decode c_Md_read 110 = .ok (.iastore, 1) := by decide +kernel
theorem d_Md_read_111 : decode c_Md_read 111 = .ok (.aload_n 0, 1) := by decide +kernel
theorem d_Md_read_112 : decode c_Md_read 112 = .ok (.getfield 23, 3) := by decide +kernel
theorem d_Md_read_115 : decode c_Md_read 115 = .ok (.iload_n 1, 1) := by decide +kernel
theorem d_Md_read_116 : decode c_Md_read 116 = .ok (.aload_n 0, 1) := by decide +kernel
theorem d_Md_read_117 : decode c_Md_read 117 = .ok (.getfield 42, 3) := by decide +kernel
theorem d_Md_read_120 : decode c_Md_read 120 = .ok (.iload_n 2, 1) := by decide +kernel
theorem d_Md_read_121 : decode c_Md_read 121 = .ok (.iaload, 1) := by decide +kernel
theorem d_Md_read_122 : decode c_Md_read 122 = .ok (.iastore, 1) := by decide +kernel
theorem d_Md_read_123 : decode c_Md_read 123 = .ok (.aload_n 0, 1) := by decide +kernel
theorem d_Md_read_124 : decode c_Md_read 124 = .ok (.getfield 26, 3) := by decide +kernel
theorem d_Md_read_127 : decode c_Md_read 127 = .ok (.iload_n 1, 1) := by decide +kernel
theorem d_Md_read_128 : decode c_Md_read 128 = .ok (.aload_n 0, 1) := by decide +kernel
theorem d_Md_read_129 : decode c_Md_read 129 = .ok (.getfield 45, 3) := by decide +kernel
theorem d_Md_read_132 : decode c_Md_read 132 = .ok (.iload_n 2, 1) := by decide +kernel
theorem d_Md_read_133 : decode c_Md_read 133 = .ok (.iaload, 1) := by decide +kernel
theorem d_Md_read_134 : decode c_Md_read 134 = .ok (.iastore, 1) := by decide +kernel
theorem d_Md_read_135 : decode c_Md_read 135 = .ok (.aload_n 0, 1) := by decide +kernel
theorem d_Md_read_136 : decode c_Md_read 136 = .ok (.getfield 32, 3) := by decide +kernel
theorem d_Md_read_139 : decode c_Md_read 139 = .ok (.iload_n 1, 1) := by decide +kernel
theorem d_Md_read_140 : decode c_Md_read 140 = .ok (.aload_n 0, 1) := by decide +kernel
theorem d_Md_read_141 : decode c_Md_read 141 = .ok (.getfield 39, 3) := by decide +kernel
theorem d_Md_read_144 : decode c_Md_read 144 = .ok (.iload_n 2, 1) := by decide +kernel
theorem d_Md_read_145 : decode c_Md_read 145 = .ok (.baload, 1) := by decide +kernel
theorem d_Md_read_146 : decode c_Md_read 146 = .ok (.bastore, 1) := by decide +kernel
theorem d_Md_read_147 : decode c_Md_read 147 = .ok (.iconst 0, 1) := by decide +kernel
theorem d_Md_read_148 : decode c_Md_read 148 = .ok (.istore_n 3, 1) := by decide +kernel
theorem d_Md_read_149 : decode c_Md_read 149 = .ok (.iload_n 3, 1) := by decide +kernel
theorem d_Md_read_150 : decode c_Md_read 150 = .ok (.aload_n 0, 1) := by decide +kernel
theorem d_Md_read_151 : decode c_Md_read 151 = .ok (.getfield 102, 3) := by decide +kernel
theorem d_Md_read_154 : decode c_Md_read 154 = .ok (.if_icmp .ge 43, 3) := by decide +kernel
theorem d_Md_read_157 : decode c_Md_read 157 = .ok (.aload_n 0, 1) := by decide +kernel
theorem d_Md_read_158 : decode c_Md_read 158 = .ok (.getfield 20, 3) := by decide +kernel
theorem d_Md_read_161 : decode c_Md_read 161 = .ok (.iload_n 1, 1) := by decide +kernel
theorem d_Md_read_162 : decode c_Md_read 162 = .ok (.bipush 8, 2) := by decide +kernel
theorem d_Md_read_164 : decode c_Md_read 164 = .ok (.imul, 1) := by decide +kernel
theorem d_Md_read_165 : decode c_Md_read 165 = .ok (.iload_n 3, 1) := by decide +kernel
theorem d_Md_read_166 : decode c_Md_read 166 = .ok (.iadd, 1) := by decide +kernel
theorem d_Md_read_167 : decode c_Md_read 167 = .ok (.aload_n 0, 1) := by decide +kernel
theorem d_Md_read_168 : decode c_Md_read 168 = .ok (.getfield 48, 3) := by decide +kernel
theorem d_Md_read_171 : decode c_Md_read 171 = .ok (.iload_n 3, 1) := by decide +kernel
theorem d_Md_read_172 : decode c_Md_read 172 = .ok (.iaload, 1) := by decide +kernel
theorem d_Md_read_173 : decode c_Md_read 173 = .ok (.iastore, 1) := by decide +kernel
theorem d_Md_read_174 : decode c_Md_read 174 = .ok (.aload_n 0, 1) := by decide +kernel
theorem d_Md_read_175 : decode c_Md_read 175 = .ok (.getfield 29, 3) := by decide +kernel
theorem d_Md_read_178 : decode c_Md_read 178 = .ok (.iload_n 1, 1) := by decide +kernel
theorem d_Md_read_179 : decode c_Md_read 179 = .ok (.bipush 8, 2) := by decide +kernel
theorem d_Md_read_181 : decode c_Md_read 181 = .ok (.imul, 1) := by decide +kernel
theorem d_Md_read_182 : decode c_Md_read 182 = .ok (.iload_n 3, 1) := by decide +kernel
theorem d_Md_read_183 : decode c_Md_read 183 = .ok (.iadd, 1) := by decide +kernel
theorem d_Md_read_184 : decode c_Md_read 184 = .ok (.aload_n 0, 1) := by decide +kernel
theorem d_Md_read_185 : decode c_Md_read 185 = .ok (.getfield 51, 3) := by decide +kernel
theorem d_Md_read_188 : decode c_Md_read 188 = .ok (.iload_n 3, 1) := by decide +kernel
theorem d_Md_read_189 : decode c_Md_read 189 = .ok (.iaload, 1) := by decide +kernel
theorem d_Md_read_190 : decode c_Md_read 190 = .ok (.iastore, 1) := by decide +kernel
theorem d_Md_read_191 : decode c_Md_read 191 = .ok (.iinc 3 1, 3) := by decide +kernel
theorem d_Md_read_194 : decode c_Md_read 194 = .ok (.goto (-45), 3) := by decide +kernel
theorem d_Md_read_197 : decode c_Md_read 197 = .ok (.aload_n 0, 1) := by decide +kernel
theorem d_Md_read_198 : decode c_Md_read 198 = .ok (.getfield 102, 3) := by decide +kernel
theorem d_Md_read_201 : decode c_Md_read 201 = .ok (.ireturn, 1) := by decide +kernel
theorem d_Md_isSlot_0 : decode c_Md_isSlot 0 = .ok (.iload_n 0, 1) := by decide +kernel
theorem d_Md_isSlot_1 : decode c_Md_isSlot 1 = .ok (.iconst 0, 1) := by decide +kernel
theorem d_Md_isSlot_2 : decode c_Md_isSlot 2 = .ok (.iconst 3, 1) := by decide +kernel
theorem d_Md_isSlot_3 : decode c_Md_isSlot 3 = .ok (.invokestatic 86, 3) := by decide +kernel
theorem d_Md_isSlot_6 : decode c_Md_isSlot 6 = .ok (.ireturn, 1) := by decide +kernel
theorem d_Md_sum_0 : decode c_Md_sum 0 = .ok (.aload_n 0, 1) := by decide +kernel
theorem d_Md_sum_1 : decode c_Md_sum 1 = .ok (.getfield 77, 3) := by decide +kernel
theorem d_Md_sum_4 : decode c_Md_sum 4 = .ok (.iconst 0, 1) := by decide +kernel
theorem d_Md_sum_5 : decode c_Md_sum 5 = .ok (.iconst (-1), 1) := by decide +kernel
theorem d_Md_sum_6 : decode c_Md_sum 6 = .ok (.iastore, 1) := by decide +kernel
theorem d_Md_sum_7 : decode c_Md_sum 7 = .ok (.aload_n 0, 1) := by decide +kernel
theorem d_Md_sum_8 : decode c_Md_sum 8 = .ok (.getfield 80, 3) := by decide +kernel
theorem d_Md_sum_11 : decode c_Md_sum 11 = .ok (.iconst 0, 1) := by decide +kernel
theorem d_Md_sum_12 : decode c_Md_sum 12 = .ok (.iconst (-1), 1) := by decide +kernel
theorem d_Md_sum_13 : decode c_Md_sum 13 = .ok (.iastore, 1) := by decide +kernel
theorem d_Md_sum_14 : decode c_Md_sum 14 = .ok (.iconst 1, 1) := by decide +kernel
theorem d_Md_sum_15 : decode c_Md_sum 15 = .ok (.istore_n 1, 1) := by decide +kernel
theorem d_Md_sum_16 : decode c_Md_sum 16 = .ok (.iload_n 1, 1) := by decide +kernel
theorem d_Md_sum_17 : decode c_Md_sum 17 = .ok (.ifCond .eq 292, 3) := by decide +kernel
theorem d_Md_sum_20 : decode c_Md_sum 20 = .ok (.aload_n 0, 1) := by decide +kernel
theorem d_Md_sum_21 : decode c_Md_sum 21 = .ok (.getfield 99, 3) := by decide +kernel
theorem d_Md_sum_24 : decode c_Md_sum 24 = .ok (.ifCond .ge 285, 3) := by decide +kernel
theorem d_Md_sum_27 : decode c_Md_sum 27 = .ok (.aload_n 0, 1) := by decide +kernel
theorem d_Md_sum_28 : decode c_Md_sum 28 = .ok (.invokevirtual 110, 3) := by decide +kernel
theorem d_Md_sum_31 : decode c_Md_sum 31 = .ok (.bipush 40, 2) := by decide +kernel
theorem d_Md_sum_33 : decode c_Md_sum 33 = .ok (.if_icmp .ne 55, 3) := by decide +kernel
theorem d_Md_sum_36 : decode c_Md_sum 36 = .ok (.aload_n 0, 1) := by decide +kernel
theorem d_Md_sum_37 : decode c_Md_sum 37 = .ok (.getfield 118, 3) := by decide +kernel
theorem d_Md_sum_40 : decode c_Md_sum 40 = .ok (.bipush 8, 2) := by decide +kernel
theorem d_Md_sum_42 : decode c_Md_sum 42 = .ok (.if_icmp .ge 46, 3) := by decide +kernel
theorem d_Md_sum_45 : decode c_Md_sum 45 = .ok (.aload_n 0, 1) := by decide +kernel
theorem d_Md_sum_46 : decode c_Md_sum 46 = .ok (.dup, 1) := by decide +kernel
theorem d_Md_sum_47 : decode c_Md_sum 47 = .ok (.getfield 118, 3) := by decide +kernel
theorem d_Md_sum_50 : decode c_Md_sum 50 = .ok (.iconst 1, 1) := by decide +kernel
theorem d_Md_sum_51 : decode c_Md_sum 51 = .ok (.iadd, 1) := by decide +kernel
theorem d_Md_sum_52 : decode c_Md_sum 52 = .ok (.putfield 118, 3) := by decide +kernel
theorem d_Md_sum_55 : decode c_Md_sum 55 = .ok (.aload_n 0, 1) := by decide +kernel
theorem d_Md_sum_56 : decode c_Md_sum 56 = .ok (.dup, 1) := by decide +kernel
theorem d_Md_sum_57 : decode c_Md_sum 57 = .ok (.getfield 93, 3) := by decide +kernel
theorem d_Md_sum_60 : decode c_Md_sum 60 = .ok (.iconst 1, 1) := by decide +kernel
theorem d_Md_sum_61 : decode c_Md_sum 61 = .ok (.iadd, 1) := by decide +kernel
theorem d_Md_sum_62 : decode c_Md_sum 62 = .ok (.putfield 93, 3) := by decide +kernel
theorem d_Md_sum_65 : decode c_Md_sum 65 = .ok (.aload_n 0, 1) := by decide +kernel
theorem d_Md_sum_66 : decode c_Md_sum 66 = .ok (.getfield 77, 3) := by decide +kernel
theorem d_Md_sum_69 : decode c_Md_sum 69 = .ok (.aload_n 0, 1) := by decide +kernel
theorem d_Md_sum_70 : decode c_Md_sum 70 = .ok (.getfield 118, 3) := by decide +kernel
theorem d_Md_sum_73 : decode c_Md_sum 73 = .ok (.iconst (-1), 1) := by decide +kernel
theorem d_Md_sum_74 : decode c_Md_sum 74 = .ok (.iastore, 1) := by decide +kernel
theorem d_Md_sum_75 : decode c_Md_sum 75 = .ok (.aload_n 0, 1) := by decide +kernel
theorem d_Md_sum_76 : decode c_Md_sum 76 = .ok (.getfield 80, 3) := by decide +kernel
theorem d_Md_sum_79 : decode c_Md_sum 79 = .ok (.aload_n 0, 1) := by decide +kernel
theorem d_Md_sum_80 : decode c_Md_sum 80 = .ok (.getfield 118, 3) := by decide +kernel
theorem d_Md_sum_83 : decode c_Md_sum 83 = .ok (.iconst (-1), 1) := by decide +kernel
theorem d_Md_sum_84 : decode c_Md_sum 84 = .ok (.iastore, 1) := by decide +kernel
theorem d_Md_sum_85 : decode c_Md_sum 85 = .ok (.goto (-69), 3) := by decide +kernel
theorem d_Md_sum_88 : decode c_Md_sum 88 = .ok (.aload_n 0, 1) := by decide +kernel
theorem d_Md_sum_89 : decode c_Md_sum 89 = .ok (.aload_n 0, 1) := by decide +kernel
theorem d_Md_sum_90 : decode c_Md_sum 90 = .ok (.invokevirtual 110, 3) := by decide +kernel
theorem d_Md_sum_93 : decode c_Md_sum 93 = .ok (.invokevirtual 121, 3) := by decide +kernel
theorem d_Md_sum_96 : decode c_Md_sum 96 = .ok (.istore_n 2, 1) := by decide +kernel
theorem d_Md_sum_97 : decode c_Md_sum 97 = .ok (.aload_n 0, 1) := by decide +kernel
theorem d_Md_sum_98 : decode c_Md_sum 98 = .ok (.getfield 99, 3) := by decide +kernel
theorem d_Md_sum_101 : decode c_Md_sum 101 = .ok (.ifCond .ge 7, 3) := by decide +kernel
theorem d_Md_sum_104 : decode c_Md_sum 104 = .ok (.iconst 1, 1) := by decide +kernel
theorem d_Md_sum_105 : decode c_Md_sum 105 = .ok (.goto 4, 3) := by decide +kernel
theorem d_Md_sum_108 : decode c_Md_sum 108 = .ok (.iconst 0, 1) := by decide +kernel
theorem d_Md_sum_109 : decode c_Md_sum 109 = .ok (.istore_n 3, 1) := by decide +kernel
theorem d_Md_sum_110 : decode c_Md_sum 110 = .ok (.iload_n 3, 1) := by decide +kernel
theorem d_Md_sum_111 : decode c_Md_sum 111 = .ok (.ifCond .eq 105, 3) := by decide +kernel
theorem d_Md_sum_114 : decode c_Md_sum 114 = .ok (.aload_n 0, 1) := by decide +kernel
theorem d_Md_sum_115 : decode c_Md_sum 115 = .ok (.getfield 80, 3) := by decide +kernel
theorem d_Md_sum_118 : decode c_Md_sum 118 = .ok (.aload_n 0, 1) := by decide +kernel
theorem d_Md_sum_119 : decode c_Md_sum 119 = .ok (.getfield 118, 3) := by decide +kernel
theorem d_Md_sum_122 : decode c_Md_sum 122 = .ok (.aload_n 0, 1) := by decide +kernel
theorem d_Md_sum_123 : decode c_Md_sum 123 = .ok (.aload_n 0, 1) := by decide +kernel
theorem d_Md_sum_124 : decode c_Md_sum 124 = .ok (.getfield 80, 3) := by decide +kernel
theorem d_Md_sum_127 : decode c_Md_sum 127 = .ok (.aload_n 0, 1) := by decide +kernel
theorem d_Md_sum_128 : decode c_Md_sum 128 = .ok (.getfield 118, 3) := by decide +kernel
theorem d_Md_sum_131 : decode c_Md_sum 131 = .ok (.iaload, 1) := by decide +kernel
theorem d_Md_sum_132 : decode c_Md_sum 132 = .ok (.aload_n 0, 1) := by decide +kernel
theorem d_Md_sum_133 : decode c_Md_sum 133 = .ok (.iload_n 2, 1) := by decide +kernel
theorem d_Md_sum_134 : decode c_Md_sum 134 = .ok (.invokevirtual 125, 3) := by decide +kernel
theorem d_Md_sum_137 : decode c_Md_sum 137 = .ok (.invokevirtual 128, 3) := by decide +kernel
theorem d_Md_sum_140 : decode c_Md_sum 140 = .ok (.iastore, 1) := by decide +kernel
theorem d_Md_sum_141 : decode c_Md_sum 141 = .ok (.aload_n 0, 1) := by decide +kernel
theorem d_Md_sum_142 : decode c_Md_sum 142 = .ok (.invokevirtual 110, 3) := by decide +kernel
theorem d_Md_sum_145 : decode c_Md_sum 145 = .ok (.bipush 41, 2) := by decide +kernel
theorem d_Md_sum_147 : decode c_Md_sum 147 = .ok (.if_icmp .ne 14, 3) := by decide +kernel
theorem d_Md_sum_150 : decode c_Md_sum 150 = .ok (.aload_n 0, 1) := by decide +kernel
theorem d_Md_sum_151 : decode c_Md_sum 151 = .ok (.getfield 118, 3) := by decide +kernel
theorem d_Md_sum_154 : decode c_Md_sum 154 = .ok (.ifCond .le 7, 3) := by decide +kernel
theorem d_Md_sum_157 : decode c_Md_sum 157 = .ok (.iconst 1, 1) := by decide +kernel
theorem d_Md_sum_158 : decode c_Md_sum 158 = .ok (.goto 4, 3) := by decide +kernel
theorem d_Md_sum_161 : decode c_Md_sum 161 = .ok (.iconst 0, 1) := by decide +kernel
theorem d_Md_sum_162 : decode c_Md_sum 162 = .ok (.istore_n 3, 1) := by decide +kernel
theorem d_Md_sum_163 : decode c_Md_sum 163 = .ok (.iload_n 3, 1) := by decide +kernel
theorem d_Md_sum_164 : decode c_Md_sum 164 = .ok (.ifCond .ne 6, 3) := by decide +kernel
theorem d_Md_sum_167 : decode c_Md_sum 167 = .ok (.goto (-57), 3) := by decide +kernel
theorem d_Md_sum_170 : decode c_Md_sum 170 = .ok (.aload_n 0, 1) := by decide +kernel
theorem d_Md_sum_171 : decode c_Md_sum 171 = .ok (.aload_n 0, 1) := by decide +kernel
theorem d_Md_sum_172 : decode c_Md_sum 172 = .ok (.getfield 77, 3) := by decide +kernel
theorem d_Md_sum_175 : decode c_Md_sum 175 = .ok (.aload_n 0, 1) := by decide +kernel
theorem d_Md_sum_176 : decode c_Md_sum 176 = .ok (.getfield 118, 3) := by decide +kernel
theorem d_Md_sum_179 : decode c_Md_sum 179 = .ok (.iaload, 1) := by decide +kernel
theorem d_Md_sum_180 : decode c_Md_sum 180 = .ok (.aload_n 0, 1) := by decide +kernel
theorem d_Md_sum_181 : decode c_Md_sum 181 = .ok (.getfield 80, 3) := by decide +kernel
theorem d_Md_sum_184 : decode c_Md_sum 184 = .ok (.aload_n 0, 1) := by decide +kernel
theorem d_Md_sum_185 : decode c_Md_sum 185 = .ok (.getfield 118, 3) := by decide +kernel
theorem d_Md_sum_188 : decode c_Md_sum 188 = .ok (.iaload, 1) := by decide +kernel
theorem d_Md_sum_189 : decode c_Md_sum 189 = .ok (.invokevirtual 132, 3) := by decide +kernel
theorem d_Md_sum_192 : decode c_Md_sum 192 = .ok (.istore_n 2, 1) := by decide +kernel
theorem d_Md_sum_193 : decode c_Md_sum 193 = .ok (.aload_n 0, 1) := by decide +kernel
theorem d_Md_sum_194 : decode c_Md_sum 194 = .ok (.dup, 1) := by decide +kernel
theorem d_Md_sum_195 : decode c_Md_sum 195 = .ok (.getfield 118, 3) := by decide +kernel
theorem d_Md_sum_198 : decode c_Md_sum 198 = .ok (.iconst 1, 1) := by decide +kernel
theorem d_Md_sum_199 : decode c_Md_sum 199 = .ok (.isub, 1) := by decide +kernel
theorem d_Md_sum_200 : decode c_Md_sum 200 = .ok (.putfield 118, 3) := by decide +kernel
theorem d_Md_sum_203 : decode c_Md_sum 203 = .ok (.aload_n 0, 1) := by decide +kernel
theorem d_Md_sum_204 : decode c_Md_sum 204 = .ok (.dup, 1) := by decide +kernel
theorem d_Md_sum_205 : decode c_Md_sum 205 = .ok (.getfield 93, 3) := by decide +kernel
theorem d_Md_sum_208 : decode c_Md_sum 208 = .ok (.iconst 1, 1) := by decide +kernel
theorem d_Md_sum_209 : decode c_Md_sum 209 = .ok (.iadd, 1) := by decide +kernel
theorem d_Md_sum_210 : decode c_Md_sum 210 = .ok (.putfield 93, 3) := by decide +kernel
theorem d_Md_sum_213 : decode c_Md_sum 213 = .ok (.goto (-103), 3) := by decide +kernel
theorem d_Md_sum_216 : decode c_Md_sum 216 = .ok (.aload_n 0, 1) := by decide +kernel
theorem d_Md_sum_217 : decode c_Md_sum 217 = .ok (.getfield 99, 3) := by decide +kernel
theorem d_Md_sum_220 : decode c_Md_sum 220 = .ok (.ifCond .lt 5, 3) := by decide +kernel
theorem d_Md_sum_223 : decode c_Md_sum 223 = .ok (.iconst 0, 1) := by decide +kernel
theorem d_Md_sum_224 : decode c_Md_sum 224 = .ok (.ireturn, 1) := by decide +kernel
theorem d_Md_sum_225 : decode c_Md_sum 225 = .ok (.aload_n 0, 1) := by decide +kernel
theorem d_Md_sum_226 : decode c_Md_sum 226 = .ok (.invokevirtual 110, 3) := by decide +kernel
theorem d_Md_sum_229 : decode c_Md_sum 229 = .ok (.bipush 124, 2) := by decide +kernel
theorem d_Md_sum_231 : decode c_Md_sum 231 = .ok (.if_icmp .ne 57, 3) := by decide +kernel
theorem d_Md_sum_234 : decode c_Md_sum 234 = .ok (.aload_n 0, 1) := by decide +kernel
theorem d_Md_sum_235 : decode c_Md_sum 235 = .ok (.getfield 77, 3) := by decide +kernel
theorem d_Md_sum_238 : decode c_Md_sum 238 = .ok (.aload_n 0, 1) := by decide +kernel
theorem d_Md_sum_239 : decode c_Md_sum 239 = .ok (.getfield 118, 3) := by decide +kernel
theorem d_Md_sum_242 : decode c_Md_sum 242 = .ok (.aload_n 0, 1) := by decide +kernel
theorem d_Md_sum_243 : decode c_Md_sum 243 = .ok (.aload_n 0, 1) := by decide +kernel
theorem d_Md_sum_244 : decode c_Md_sum 244 = .ok (.getfield 77, 3) := by decide +kernel
theorem d_Md_sum_247 : decode c_Md_sum 247 = .ok (.aload_n 0, 1) := by decide +kernel
theorem d_Md_sum_248 : decode c_Md_sum 248 = .ok (.getfield 118, 3) := by decide +kernel
theorem d_Md_sum_251 : decode c_Md_sum 251 = .ok (.iaload, 1) := by decide +kernel
theorem d_Md_sum_252 : decode c_Md_sum 252 = .ok (.aload_n 0, 1) := by decide +kernel
theorem d_Md_sum_253 : decode c_Md_sum 253 = .ok (.getfield 80, 3) := by decide +kernel
theorem d_Md_sum_256 : decode c_Md_sum 256 = .ok (.aload_n 0, 1) := by decide +kernel
theorem d_Md_sum_257 : decode c_Md_sum 257 = .ok (.getfield 118, 3) := by decide +kernel
theorem d_Md_sum_260 : decode c_Md_sum 260 = .ok (.iaload, 1) := by decide +kernel
theorem d_Md_sum_261 : decode c_Md_sum 261 = .ok (.invokevirtual 132, 3) := by decide +kernel
theorem d_Md_sum_264 : decode c_Md_sum 264 = .ok (.iastore, 1) := by decide +kernel
theorem d_Md_sum_265 : decode c_Md_sum 265 = .ok (.aload_n 0, 1) := by decide +kernel
theorem d_Md_sum_266 : decode c_Md_sum 266 = .ok (.getfield 80, 3) := by decide +kernel
theorem d_Md_sum_269 : decode c_Md_sum 269 = .ok (.aload_n 0, 1) := by decide +kernel
theorem d_Md_sum_270 : decode c_Md_sum 270 = .ok (.getfield 118, 3) := by decide +kernel
theorem d_Md_sum_273 : decode c_Md_sum 273 = .ok (.iconst (-1), 1) := by decide +kernel
theorem d_Md_sum_274 : decode c_Md_sum 274 = .ok (.iastore, 1) := by decide +kernel
theorem d_Md_sum_275 : decode c_Md_sum 275 = .ok (.aload_n 0, 1) := by decide +kernel
theorem d_Md_sum_276 : decode c_Md_sum 276 = .ok (.dup, 1) := by decide +kernel
theorem d_Md_sum_277 : decode c_Md_sum 277 = .ok (.getfield 93, 3) := by decide +kernel
theorem d_Md_sum_280 : decode c_Md_sum 280 = .ok (.iconst 1, 1) := by decide +kernel
theorem d_Md_sum_281 : decode c_Md_sum 281 = .ok (.iadd, 1) := by decide +kernel
theorem d_Md_sum_282 : decode c_Md_sum 282 = .ok (.putfield 93, 3) := by decide +kernel
theorem d_Md_sum_285 : decode c_Md_sum 285 = .ok (.goto 21, 3) := by decide +kernel
theorem d_Md_sum_288 : decode c_Md_sum 288 = .ok (.aload_n 0, 1) := by decide +kernel
theorem d_Md_sum_289 : decode c_Md_sum 289 = .ok (.invokevirtual 110, 3) := by decide +kernel
theorem d_Md_sum_292 : decode c_Md_sum 292 = .ok (.ifCond .lt 12, 3) := by decide +kernel
theorem d_Md_sum_295 : decode c_Md_sum 295 = .ok (.aload_n 0, 1) := by decide +kernel
theorem d_Md_sum_296 : decode c_Md_sum 296 = .ok (.invokevirtual 110, 3) := by decide +kernel
theorem d_Md_sum_299 : decode c_Md_sum 299 = .ok (.bipush 41, 2) := by decide +kernel
theorem d_Md_sum_301 : decode c_Md_sum 301 = .ok (.if_icmp .ne 5, 3) := by decide +kernel
theorem d_Md_sum_304 : decode c_Md_sum 304 = .ok (.iconst 0, 1) := by decide +kernel
theorem d_Md_sum_305 : decode c_Md_sum 305 = .ok (.istore_n 1, 1) := by decide +kernel
theorem d_Md_sum_306 : decode c_Md_sum 306 = .ok (.goto (-290), 3) := by decide +kernel
theorem d_Md_sum_309 : decode c_Md_sum 309 = .ok (.aload_n 0, 1) := by decide +kernel
theorem d_Md_sum_310 : decode c_Md_sum 310 = .ok (.getfield 99, 3) := by decide +kernel
theorem d_Md_sum_313 : decode c_Md_sum 313 = .ok (.ifCond .ge 14, 3) := by decide +kernel
theorem d_Md_sum_316 : decode c_Md_sum 316 = .ok (.aload_n 0, 1) := by decide +kernel
theorem d_Md_sum_317 : decode c_Md_sum 317 = .ok (.getfield 118, 3) := by decide +kernel
theorem d_Md_sum_320 : decode c_Md_sum 320 = .ok (.ifCond .le 7, 3) := by decide +kernel
theorem d_Md_sum_323 : decode c_Md_sum 323 = .ok (.aload_n 0, 1) := by decide +kernel
theorem d_Md_sum_324 : decode c_Md_sum 324 = .ok (.invokevirtual 105, 3) := by decide +kernel
theorem d_Md_sum_327 : decode c_Md_sum 327 = .ok (.aload_n 0, 1) := by decide +kernel
theorem d_Md_sum_328 : decode c_Md_sum 328 = .ok (.getfield 99, 3) := by decide +kernel
theorem d_Md_sum_331 : decode c_Md_sum 331 = .ok (.ifCond .ge 22, 3) := by decide +kernel
theorem d_Md_sum_334 : decode c_Md_sum 334 = .ok (.aload_n 0, 1) := by decide +kernel
theorem d_Md_sum_335 : decode c_Md_sum 335 = .ok (.aload_n 0, 1) := by decide +kernel
theorem d_Md_sum_336 : decode c_Md_sum 336 = .ok (.getfield 77, 3) := by decide +kernel
theorem d_Md_sum_339 : decode c_Md_sum 339 = .ok (.iconst 0, 1) := by decide +kernel
theorem d_Md_sum_340 : decode c_Md_sum 340 = .ok (.iaload, 1) := by decide +kernel
theorem d_Md_sum_341 : decode c_Md_sum 341 = .ok (.aload_n 0, 1) := by decide +kernel
theorem d_Md_sum_342 : decode c_Md_sum 342 = .ok (.getfield 80, 3) := by decide +kernel
theorem d_Md_sum_345 : decode c_Md_sum 345 = .ok (.iconst 0, 1) := by decide +kernel
theorem d_Md_sum_346 : decode c_Md_sum 346 = .ok (.iaload, 1) := by decide +kernel
theorem d_Md_sum_347 : decode c_Md_sum 347 = .ok (.invokevirtual 132, 3) := by decide +kernel
theorem d_Md_sum_350 : decode c_Md_sum 350 = .ok (.goto 4, 3) := by decide +kernel
theorem d_Md_sum_353 : decode c_Md_sum 353 = .ok (.iconst 0, 1) := by decide +kernel
theorem d_Md_sum_354 : decode c_Md_sum 354 = .ok (.ireturn, 1) := by decide +kernel
theorem d_Md_see_0 : decode c_Md_see 0 = .ok (.aload_n 0, 1) := by decide +kernel
theorem d_Md_see_1 : decode c_Md_see 1 = .ok (.getfield 93, 3) := by decide +kernel
theorem d_Md_see_4 : decode c_Md_see 4 = .ok (.aload_n 0, 1) := by decide +kernel
theorem d_Md_see_5 : decode c_Md_see 5 = .ok (.getfield 90, 3) := by decide +kernel
theorem d_Md_see_8 : decode c_Md_see 8 = .ok (.if_icmp .ge 15, 3) := by decide +kernel
theorem d_Md_see_11 : decode c_Md_see 11 = .ok (.aload_n 0, 1) := by decide +kernel
theorem d_Md_see_12 : decode c_Md_see 12 = .ok (.getfield 9, 3) := by decide +kernel
theorem d_Md_see_15 : decode c_Md_see 15 = .ok (.aload_n 0, 1) := by decide +kernel
theorem d_Md_see_16 : decode c_Md_see 16 = .ok (.getfield 93, 3) := by decide +kernel
theorem d_Md_see_19 : decode c_Md_see 19 = .ok (.iaload, 1) := by decide +kernel
theorem d_Md_see_20 : decode c_Md_see 20 = .ok (.goto 4, 3) := by decide +kernel
theorem d_Md_see_23 : decode c_Md_see 23 = .ok (.iconst (-1), 1) := by decide +kernel
theorem d_Md_see_24 : decode c_Md_see 24 = .ok (.ireturn, 1) := by decide +kernel
theorem d_Md_atom_0 : decode c_Md_atom 0 = .ok (.iload_n 1, 1) := by decide +kernel
theorem d_Md_atom_1 : decode c_Md_atom 1 = .ok (.bipush 48, 2) := by decide +kernel
theorem d_Md_atom_3 : decode c_Md_atom 3 = .ok (.if_icmp .eq 36, 3) := by decide +kernel
theorem d_Md_atom_6 : decode c_Md_atom 6 = .ok (.iload_n 1, 1) := by decide +kernel
theorem d_Md_atom_7 : decode c_Md_atom 7 = .ok (.bipush 49, 2) := by decide +kernel
theorem d_Md_atom_9 : decode c_Md_atom 9 = .ok (.if_icmp .eq 30, 3) := by decide +kernel
theorem d_Md_atom_12 : decode c_Md_atom 12 = .ok (.iload_n 1, 1) := by decide +kernel
theorem d_Md_atom_13 : decode c_Md_atom 13 = .ok (.bipush 97, 2) := by decide +kernel
theorem d_Md_atom_15 : decode c_Md_atom 15 = .ok (.if_icmp .lt 18, 3) := by decide +kernel
theorem d_Md_atom_18 : decode c_Md_atom 18 = .ok (.iload_n 1, 1) := by decide +kernel
theorem d_Md_atom_19 : decode c_Md_atom 19 = .ok (.bipush 100, 2) := by decide +kernel
theorem d_Md_atom_21 : decode c_Md_atom 21 = .ok (.if_icmp .gt 12, 3) := by decide +kernel
theorem d_Md_atom_24 : decode c_Md_atom 24 = .ok (.aload_n 0, 1) := by decide +kernel
theorem d_Md_atom_25 : decode c_Md_atom 25 = .ok (.getfield 102, 3) := by decide +kernel
theorem d_Md_atom_28 : decode c_Md_atom 28 = .ok (.bipush 8, 2) := by decide +kernel
theorem d_Md_atom_30 : decode c_Md_atom 30 = .ok (.if_icmp .ne 9, 3) := by decide +kernel
theorem d_Md_atom_33 : decode c_Md_atom 33 = .ok (.aload_n 0, 1) := by decide +kernel
theorem d_Md_atom_34 : decode c_Md_atom 34 = .ok (.invokevirtual 105, 3) := by decide +kernel
theorem d_Md_atom_37 : decode c_Md_atom 37 = .ok (.iconst 0, 1) := by decide +kernel
theorem d_Md_atom_38 : decode c_Md_atom 38 = .ok (.ireturn, 1) := by decide +kernel
theorem d_Md_atom_39 : decode c_Md_atom 39 = .ok (.aload_n 0, 1) := by decide +kernel
theorem d_Md_atom_40 : decode c_Md_atom 40 = .ok (.dup, 1) := by decide +kernel
theorem d_Md_atom_41 : decode c_Md_atom 41 = .ok (.getfield 93, 3) := by decide +kernel
theorem d_Md_atom_44 : decode c_Md_atom 44 = .ok (.iconst 1, 1) := by decide +kernel
theorem d_Md_atom_45 : decode c_Md_atom 45 = .ok (.iadd, 1) := by decide +kernel
theorem d_Md_atom_46 : decode c_Md_atom 46 = .ok (.putfield 93, 3) := by decide +kernel
theorem d_Md_atom_49 : decode c_Md_atom 49 = .ok (.iload_n 1, 1) := by decide +kernel
theorem d_Md_atom_50 : decode c_Md_atom 50 = .ok (.bipush 48, 2) := by decide +kernel
theorem d_Md_atom_52 : decode c_Md_atom 52 = .ok (.if_icmp .eq 9, 3) := by decide +kernel
theorem d_Md_atom_55 : decode c_Md_atom 55 = .ok (.iload_n 1, 1) := by decide +kernel
theorem d_Md_atom_56 : decode c_Md_atom 56 = .ok (.bipush 49, 2) := by decide +kernel
theorem d_Md_atom_58 : decode c_Md_atom 58 = .ok (.if_icmp .ne 21, 3) := by decide +kernel
theorem d_Md_atom_61 : decode c_Md_atom 61 = .ok (.aload_n 0, 1) := by decide +kernel
theorem d_Md_atom_62 : decode c_Md_atom 62 = .ok (.iload_n 1, 1) := by decide +kernel
theorem d_Md_atom_63 : decode c_Md_atom 63 = .ok (.bipush 49, 2) := by decide +kernel
theorem d_Md_atom_65 : decode c_Md_atom 65 = .ok (.if_icmp .ne 7, 3) := by decide +kernel
theorem d_Md_atom_68 : decode c_Md_atom 68 = .ok (.iconst 1, 1) := by decide +kernel
theorem d_Md_atom_69 : decode c_Md_atom 69 = .ok (.goto 4, 3) := by decide +kernel
theorem d_Md_atom_72 : decode c_Md_atom 72 = .ok (.iconst 0, 1) := by decide +kernel
theorem d_Md_atom_73 : decode c_Md_atom 73 = .ok (.iconst 0, 1) := by decide +kernel
theorem d_Md_atom_74 : decode c_Md_atom 74 = .ok (.iconst 0, 1) := by decide +kernel
theorem d_Md_atom_75 : decode c_Md_atom 75 = .ok (.invokevirtual 107, 3) := by decide +kernel
theorem d_Md_atom_78 : decode c_Md_atom 78 = .ok (.ireturn, 1) := by decide +kernel
theorem d_Md_atom_79 : decode c_Md_atom 79 = .ok (.aload_n 0, 1) := by decide +kernel
theorem d_Md_atom_80 : decode c_Md_atom 80 = .ok (.getfield 48, 3) := by decide +kernel
theorem d_Md_atom_83 : decode c_Md_atom 83 = .ok (.aload_n 0, 1) := by decide +kernel
theorem d_Md_atom_84 : decode c_Md_atom 84 = .ok (.getfield 102, 3) := by decide +kernel
theorem d_Md_atom_87 : decode c_Md_atom 87 = .ok (.iload_n 1, 1) := by decide +kernel
theorem d_Md_atom_88 : decode c_Md_atom 88 = .ok (.bipush 97, 2) := by decide +kernel
theorem d_Md_atom_90 : decode c_Md_atom 90 = .ok (.isub, 1) := by decide +kernel
theorem d_Md_atom_91 : decode c_Md_atom 91 = .ok (.iastore, 1) := by decide +kernel
theorem d_Md_atom_92 : decode c_Md_atom 92 = .ok (.aload_n 0, 1) := by decide +kernel
theorem d_Md_atom_93 : decode c_Md_atom 93 = .ok (.getfield 51, 3) := by decide +kernel
theorem d_Md_atom_96 : decode c_Md_atom 96 = .ok (.aload_n 0, 1) := by decide +kernel
theorem d_Md_atom_97 : decode c_Md_atom 97 = .ok (.getfield 102, 3) := by decide +kernel
theorem d_Md_atom_100 : decode c_Md_atom 100 = .ok (.iconst 0, 1) := by decide +kernel
theorem d_Md_atom_101 : decode c_Md_atom 101 = .ok (.iastore, 1) := by decide +kernel
theorem d_Md_atom_102 : decode c_Md_atom 102 = .ok (.aload_n 0, 1) := by decide +kernel
theorem d_Md_atom_103 : decode c_Md_atom 103 = .ok (.dup, 1) := by decide +kernel
theorem d_Md_atom_104 : decode c_Md_atom 104 = .ok (.getfield 102, 3) := by decide +kernel
theorem d_Md_atom_107 : decode c_Md_atom 107 = .ok (.iconst 1, 1) := by decide +kernel
theorem d_Md_atom_108 : decode c_Md_atom 108 = .ok (.iadd, 1) := by decide +kernel
theorem d_Md_atom_109 : decode c_Md_atom 109 = .ok (.putfield 102, 3) := by decide +kernel
theorem d_Md_atom_112 : decode c_Md_atom 112 = .ok (.aload_n 0, 1) := by decide +kernel
theorem d_Md_atom_113 : decode c_Md_atom 113 = .ok (.iconst 0, 1) := by decide +kernel
theorem d_Md_atom_114 : decode c_Md_atom 114 = .ok (.iconst 1, 1) := by decide +kernel
theorem d_Md_atom_115 : decode c_Md_atom 115 = .ok (.aload_n 0, 1) := by decide +kernel
theorem d_Md_atom_116 : decode c_Md_atom 116 = .ok (.getfield 102, 3) := by decide +kernel
theorem d_Md_atom_119 : decode c_Md_atom 119 = .ok (.iconst 1, 1) := by decide +kernel
theorem d_Md_atom_120 : decode c_Md_atom 120 = .ok (.isub, 1) := by decide +kernel
theorem d_Md_atom_121 : decode c_Md_atom 121 = .ok (.ishl, 1) := by decide +kernel
theorem d_Md_atom_122 : decode c_Md_atom 122 = .ok (.iconst 1, 1) := by decide +kernel
theorem d_Md_atom_123 : decode c_Md_atom 123 = .ok (.aload_n 0, 1) := by decide +kernel
theorem d_Md_atom_124 : decode c_Md_atom 124 = .ok (.getfield 102, 3) := by decide +kernel
theorem d_Md_atom_127 : decode c_Md_atom 127 = .ok (.iconst 1, 1) := by decide +kernel
theorem d_Md_atom_128 : decode c_Md_atom 128 = .ok (.isub, 1) := by decide +kernel
theorem d_Md_atom_129 : decode c_Md_atom 129 = .ok (.ishl, 1) := by decide +kernel
theorem d_Md_atom_130 : decode c_Md_atom 130 = .ok (.invokevirtual 107, 3) := by decide +kernel
theorem d_Md_atom_133 : decode c_Md_atom 133 = .ok (.ireturn, 1) := by decide +kernel
theorem d_Md_wrong_0 : decode c_Md_wrong 0 = .ok (.aload_n 0, 1) := by decide +kernel
theorem d_Md_wrong_1 : decode c_Md_wrong 1 = .ok (.getfield 99, 3) := by decide +kernel
theorem d_Md_wrong_4 : decode c_Md_wrong 4 = .ok (.ifCond .ge 11, 3) := by decide +kernel
theorem d_Md_wrong_7 : decode c_Md_wrong 7 = .ok (.aload_n 0, 1) := by decide +kernel
theorem d_Md_wrong_8 : decode c_Md_wrong 8 = .ok (.aload_n 0, 1) := by decide +kernel
theorem d_Md_wrong_9 : decode c_Md_wrong 9 = .ok (.getfield 93, 3) := by decide +kernel
theorem d_Md_wrong_12 : decode c_Md_wrong 12 = .ok (.putfield 99, 3) := by decide +kernel
theorem d_Md_wrong_15 : decode c_Md_wrong 15 = .ok (.return_, 1) := by decide +kernel
theorem d_Md_part_0 : decode c_Md_part 0 = .ok (.aload_n 0, 1) := by decide +kernel
theorem d_Md_part_1 : decode c_Md_part 1 = .ok (.getfield 39, 3) := by decide +kernel
theorem d_Md_part_4 : decode c_Md_part 4 = .ok (.aload_n 0, 1) := by decide +kernel
theorem d_Md_part_5 : decode c_Md_part 5 = .ok (.getfield 96, 3) := by decide +kernel
theorem d_Md_part_8 : decode c_Md_part 8 = .ok (.iload_n 1, 1) := by decide +kernel
theorem d_Md_part_9 : decode c_Md_part 9 = .ok (.bastore, 1) := by decide +kernel
theorem d_Md_part_10 : decode c_Md_part 10 = .ok (.aload_n 0, 1) := by decide +kernel
theorem d_Md_part_11 : decode c_Md_part 11 = .ok (.getfield 42, 3) := by decide +kernel
theorem d_Md_part_14 : decode c_Md_part 14 = .ok (.aload_n 0, 1) := by decide +kernel
theorem d_Md_part_15 : decode c_Md_part 15 = .ok (.getfield 96, 3) := by decide +kernel
theorem d_Md_part_18 : decode c_Md_part 18 = .ok (.iload_n 2, 1) := by decide +kernel
theorem d_Md_part_19 : decode c_Md_part 19 = .ok (.iastore, 1) := by decide +kernel
theorem d_Md_part_20 : decode c_Md_part 20 = .ok (.aload_n 0, 1) := by decide +kernel
theorem d_Md_part_21 : decode c_Md_part 21 = .ok (.getfield 45, 3) := by decide +kernel
theorem d_Md_part_24 : decode c_Md_part 24 = .ok (.aload_n 0, 1) := by decide +kernel
theorem d_Md_part_25 : decode c_Md_part 25 = .ok (.getfield 96, 3) := by decide +kernel
theorem d_Md_part_28 : decode c_Md_part 28 = .ok (.iload_n 3, 1) := by decide +kernel
theorem d_Md_part_29 : decode c_Md_part 29 = .ok (.iastore, 1) := by decide +kernel
theorem d_Md_part_30 : decode c_Md_part 30 = .ok (.aload_n 0, 1) := by decide +kernel
theorem d_Md_part_31 : decode c_Md_part 31 = .ok (.dup, 1) := by decide +kernel
theorem d_Md_part_32 : decode c_Md_part 32 = .ok (.getfield 96, 3) := by decide +kernel
theorem d_Md_part_35 : decode c_Md_part 35 = .ok (.iconst 1, 1) := by decide +kernel
theorem d_Md_part_36 : decode c_Md_part 36 = .ok (.iadd, 1) := by decide +kernel
theorem d_Md_part_37 : decode c_Md_part 37 = .ok (.putfield 96, 3) := by decide +kernel
theorem d_Md_part_40 : decode c_Md_part 40 = .ok (.aload_n 0, 1) := by decide +kernel
theorem d_Md_part_41 : decode c_Md_part 41 = .ok (.getfield 96, 3) := by decide +kernel
theorem d_Md_part_44 : decode c_Md_part 44 = .ok (.iconst 1, 1) := by decide +kernel
theorem d_Md_part_45 : decode c_Md_part 45 = .ok (.isub, 1) := by decide +kernel
theorem d_Md_part_46 : decode c_Md_part 46 = .ok (.ireturn, 1) := by decide +kernel
theorem d_Md_repeated_0 : decode c_Md_repeated 0 = .ok (.iload_n 1, 1) := by decide +kernel
theorem d_Md_repeated_1 : decode c_Md_repeated 1 = .ok (.istore_n 2, 1) := by decide +kernel
theorem d_Md_repeated_2 : decode c_Md_repeated 2 = .ok (.aload_n 0, 1) := by decide +kernel
theorem d_Md_repeated_3 : decode c_Md_repeated 3 = .ok (.invokevirtual 110, 3) := by decide +kernel
theorem d_Md_repeated_6 : decode c_Md_repeated 6 = .ok (.bipush 42, 2) := by decide +kernel
theorem d_Md_repeated_8 : decode c_Md_repeated 8 = .ok (.if_icmp .eq 21, 3) := by decide +kernel
theorem d_Md_repeated_11 : decode c_Md_repeated 11 = .ok (.aload_n 0, 1) := by decide +kernel
theorem d_Md_repeated_12 : decode c_Md_repeated 12 = .ok (.invokevirtual 110, 3) := by decide +kernel
theorem d_Md_repeated_15 : decode c_Md_repeated 15 = .ok (.bipush 43, 2) := by decide +kernel
theorem d_Md_repeated_17 : decode c_Md_repeated 17 = .ok (.if_icmp .eq 12, 3) := by decide +kernel
theorem d_Md_repeated_20 : decode c_Md_repeated 20 = .ok (.aload_n 0, 1) := by decide +kernel
theorem d_Md_repeated_21 : decode c_Md_repeated 21 = .ok (.invokevirtual 110, 3) := by decide +kernel
theorem d_Md_repeated_24 : decode c_Md_repeated 24 = .ok (.bipush 63, 2) := by decide +kernel
theorem d_Md_repeated_26 : decode c_Md_repeated 26 = .ok (.if_icmp .ne 81, 3) := by decide +kernel
theorem d_Md_repeated_29 : decode c_Md_repeated 29 = .ok (.aload_n 0, 1) := by decide +kernel
theorem d_Md_repeated_30 : decode c_Md_repeated 30 = .ok (.invokevirtual 110, 3) := by decide +kernel
theorem d_Md_repeated_33 : decode c_Md_repeated 33 = .ok (.bipush 63, 2) := by decide +kernel
theorem d_Md_repeated_35 : decode c_Md_repeated 35 = .ok (.if_icmp .eq 19, 3) := by decide +kernel
theorem d_Md_repeated_38 : decode c_Md_repeated 38 = .ok (.aload_n 0, 1) := by decide +kernel
theorem d_Md_repeated_39 : decode c_Md_repeated 39 = .ok (.aload_n 0, 1) := by decide +kernel
theorem d_Md_repeated_40 : decode c_Md_repeated 40 = .ok (.getfield 45, 3) := by decide +kernel
theorem d_Md_repeated_43 : decode c_Md_repeated 43 = .ok (.iload_n 2, 1) := by decide +kernel
theorem d_Md_repeated_44 : decode c_Md_repeated 44 = .ok (.iaload, 1) := by decide +kernel
theorem d_Md_repeated_45 : decode c_Md_repeated 45 = .ok (.aload_n 0, 1) := by decide +kernel
theorem d_Md_repeated_46 : decode c_Md_repeated 46 = .ok (.getfield 42, 3) := by decide +kernel
theorem d_Md_repeated_49 : decode c_Md_repeated 49 = .ok (.iload_n 2, 1) := by decide +kernel
theorem d_Md_repeated_50 : decode c_Md_repeated 50 = .ok (.iaload, 1) := by decide +kernel
theorem d_Md_repeated_51 : decode c_Md_repeated 51 = .ok (.invokevirtual 114, 3) := by decide +kernel
theorem d_Md_repeated_54 : decode c_Md_repeated 54 = .ok (.aload_n 0, 1) := by decide +kernel
theorem d_Md_repeated_55 : decode c_Md_repeated 55 = .ok (.aload_n 0, 1) := by decide +kernel
theorem d_Md_repeated_56 : decode c_Md_repeated 56 = .ok (.getfield 39, 3) := by decide +kernel
theorem d_Md_repeated_59 : decode c_Md_repeated 59 = .ok (.iload_n 2, 1) := by decide +kernel
theorem d_Md_repeated_60 : decode c_Md_repeated 60 = .ok (.baload, 1) := by decide +kernel
theorem d_Md_repeated_61 : decode c_Md_repeated 61 = .ok (.ifCond .ne 12, 3) := by decide +kernel
theorem d_Md_repeated_64 : decode c_Md_repeated 64 = .ok (.aload_n 0, 1) := by decide +kernel
theorem d_Md_repeated_65 : decode c_Md_repeated 65 = .ok (.invokevirtual 110, 3) := by decide +kernel
theorem d_Md_repeated_68 : decode c_Md_repeated 68 = .ok (.bipush 43, 2) := by decide +kernel
theorem d_Md_repeated_70 : decode c_Md_repeated 70 = .ok (.if_icmp .eq 7, 3) := by decide +kernel
theorem d_Md_repeated_73 : decode c_Md_repeated 73 = .ok (.iconst 1, 1) := by decide +kernel
theorem d_Md_repeated_74 : decode c_Md_repeated 74 = .ok (.goto 4, 3) := by decide +kernel
theorem d_Md_repeated_77 : decode c_Md_repeated 77 = .ok (.iconst 0, 1) := by decide +kernel
theorem d_Md_repeated_78 : decode c_Md_repeated 78 = .ok (.aload_n 0, 1) := by decide +kernel
theorem d_Md_repeated_79 : decode c_Md_repeated 79 = .ok (.getfield 42, 3) := by decide +kernel
theorem d_Md_repeated_82 : decode c_Md_repeated 82 = .ok (.iload_n 2, 1) := by decide +kernel
theorem d_Md_repeated_83 : decode c_Md_repeated 83 = .ok (.iaload, 1) := by decide +kernel
theorem d_Md_repeated_84 : decode c_Md_repeated 84 = .ok (.aload_n 0, 1) := by decide +kernel
theorem d_Md_repeated_85 : decode c_Md_repeated 85 = .ok (.getfield 45, 3) := by decide +kernel
theorem d_Md_repeated_88 : decode c_Md_repeated 88 = .ok (.iload_n 2, 1) := by decide +kernel
theorem d_Md_repeated_89 : decode c_Md_repeated 89 = .ok (.iaload, 1) := by decide +kernel
theorem d_Md_repeated_90 : decode c_Md_repeated 90 = .ok (.invokevirtual 107, 3) := by decide +kernel
theorem d_Md_repeated_93 : decode c_Md_repeated 93 = .ok (.istore_n 2, 1) := by decide +kernel
theorem d_Md_repeated_94 : decode c_Md_repeated 94 = .ok (.aload_n 0, 1) := by decide +kernel
theorem d_Md_repeated_95 : decode c_Md_repeated 95 = .ok (.dup, 1) := by decide +kernel
theorem d_Md_repeated_96 : decode c_Md_repeated 96 = .ok (.getfield 93, 3) := by decide +kernel
theorem d_Md_repeated_99 : decode c_Md_repeated 99 = .ok (.iconst 1, 1) := by decide +kernel
theorem d_Md_repeated_100 : decode c_Md_repeated 100 = .ok (.iadd, 1) := by decide +kernel
theorem d_Md_repeated_101 : decode c_Md_repeated 101 = .ok (.putfield 93, 3) := by decide +kernel
theorem d_Md_repeated_104 : decode c_Md_repeated 104 = .ok (.goto (-102), 3) := by decide +kernel
theorem d_Md_repeated_107 : decode c_Md_repeated 107 = .ok (.iload_n 2, 1) := by decide +kernel
theorem d_Md_repeated_108 : decode c_Md_repeated 108 = .ok (.ireturn, 1) := by decide +kernel
theorem d_Md_follows_0 : decode c_Md_follows 0 = .ok (.iconst 0, 1) := by decide +kernel
theorem d_Md_follows_1 : decode c_Md_follows 1 = .ok (.istore_n 3, 1) := by decide +kernel
theorem d_Md_follows_2 : decode c_Md_follows 2 = .ok (.iload_n 3, 1) := by decide +kernel
theorem d_Md_follows_3 : decode c_Md_follows 3 = .ok (.bipush 8, 2) := by decide +kernel
theorem d_Md_follows_5 : decode c_Md_follows 5 = .ok (.if_icmp .ge 32, 3) := by decide +kernel
theorem d_Md_follows_8 : decode c_Md_follows 8 = .ok (.iload_n 1, 1) := by decide +kernel
theorem d_Md_follows_9 : decode c_Md_follows 9 = .ok (.iload_n 3, 1) := by decide +kernel
theorem d_Md_follows_10 : decode c_Md_follows 10 = .ok (.ishr, 1) := by decide +kernel
theorem d_Md_follows_11 : decode c_Md_follows 11 = .ok (.iconst 1, 1) := by decide +kernel
theorem d_Md_follows_12 : decode c_Md_follows 12 = .ok (.iand, 1) := by decide +kernel
theorem d_Md_follows_13 : decode c_Md_follows 13 = .ok (.iconst 1, 1) := by decide +kernel
theorem d_Md_follows_14 : decode c_Md_follows 14 = .ok (.if_icmp .ne 17, 3) := by decide +kernel
theorem d_Md_follows_17 : decode c_Md_follows 17 = .ok (.aload_n 0, 1) := by decide +kernel
theorem d_Md_follows_18 : decode c_Md_follows 18 = .ok (.getfield 51, 3) := by decide +kernel
theorem d_Md_follows_21 : decode c_Md_follows 21 = .ok (.iload_n 3, 1) := by decide +kernel
theorem d_Md_follows_22 : decode c_Md_follows 22 = .ok (.aload_n 0, 1) := by decide +kernel
theorem d_Md_follows_23 : decode c_Md_follows 23 = .ok (.getfield 51, 3) := by decide +kernel
theorem d_Md_follows_26 : decode c_Md_follows 26 = .ok (.iload_n 3, 1) := by decide +kernel
theorem d_Md_follows_27 : decode c_Md_follows 27 = .ok (.iaload, 1) := by decide +kernel
theorem d_Md_follows_28 : decode c_Md_follows 28 = .ok (.iload_n 2, 1) := by decide +kernel
theorem d_Md_follows_29 : decode c_Md_follows 29 = .ok (.ior, 1) := by decide +kernel
theorem d_Md_follows_30 : decode c_Md_follows 30 = .ok (.iastore, 1) := by decide +kernel
theorem d_Md_follows_31 : decode c_Md_follows 31 = .ok (.iinc 3 1, 3) := by decide +kernel
theorem d_Md_follows_34 : decode c_Md_follows 34 = .ok (.goto (-32), 3) := by decide +kernel
theorem d_Md_follows_37 : decode c_Md_follows 37 = .ok (.return_, 1) := by decide +kernel
theorem d_Md_behind_0 : decode c_Md_behind 0 = .ok (.iload_n 1, 1) := by decide +kernel
theorem d_Md_behind_1 : decode c_Md_behind 1 = .ok (.ifCond .ge 5, 3) := by decide +kernel
theorem d_Md_behind_4 : decode c_Md_behind 4 = .ok (.iload_n 2, 1) := by decide +kernel
theorem d_Md_behind_5 : decode c_Md_behind 5 = .ok (.ireturn, 1) := by decide +kernel
theorem d_Md_behind_6 : decode c_Md_behind 6 = .ok (.aload_n 0, 1) := by decide +kernel
theorem d_Md_behind_7 : decode c_Md_behind 7 = .ok (.aload_n 0, 1) := by decide +kernel
theorem d_Md_behind_8 : decode c_Md_behind 8 = .ok (.getfield 45, 3) := by decide +kernel
theorem d_Md_behind_11 : decode c_Md_behind 11 = .ok (.iload_n 1, 1) := by decide +kernel
theorem d_Md_behind_12 : decode c_Md_behind 12 = .ok (.iaload, 1) := by decide +kernel
theorem d_Md_behind_13 : decode c_Md_behind 13 = .ok (.aload_n 0, 1) := by decide +kernel
theorem d_Md_behind_14 : decode c_Md_behind 14 = .ok (.getfield 42, 3) := by decide +kernel
theorem d_Md_behind_17 : decode c_Md_behind 17 = .ok (.iload_n 2, 1) := by decide +kernel
theorem d_Md_behind_18 : decode c_Md_behind 18 = .ok (.iaload, 1) := by decide +kernel
theorem d_Md_behind_19 : decode c_Md_behind 19 = .ok (.invokevirtual 114, 3) := by decide +kernel
theorem d_Md_behind_22 : decode c_Md_behind 22 = .ok (.aload_n 0, 1) := by decide +kernel
theorem d_Md_behind_23 : decode c_Md_behind 23 = .ok (.aload_n 0, 1) := by decide +kernel
theorem d_Md_behind_24 : decode c_Md_behind 24 = .ok (.getfield 39, 3) := by decide +kernel
theorem d_Md_behind_27 : decode c_Md_behind 27 = .ok (.iload_n 1, 1) := by decide +kernel
theorem d_Md_behind_28 : decode c_Md_behind 28 = .ok (.baload, 1) := by decide +kernel
theorem d_Md_behind_29 : decode c_Md_behind 29 = .ok (.ifCond .eq 16, 3) := by decide +kernel
theorem d_Md_behind_32 : decode c_Md_behind 32 = .ok (.aload_n 0, 1) := by decide +kernel
theorem d_Md_behind_33 : decode c_Md_behind 33 = .ok (.getfield 39, 3) := by decide +kernel
theorem d_Md_behind_36 : decode c_Md_behind 36 = .ok (.iload_n 2, 1) := by decide +kernel
theorem d_Md_behind_37 : decode c_Md_behind 37 = .ok (.baload, 1) := by decide +kernel
theorem d_Md_behind_38 : decode c_Md_behind 38 = .ok (.ifCond .eq 7, 3) := by decide +kernel
theorem d_Md_behind_41 : decode c_Md_behind 41 = .ok (.iconst 1, 1) := by decide +kernel
theorem d_Md_behind_42 : decode c_Md_behind 42 = .ok (.goto 4, 3) := by decide +kernel
theorem d_Md_behind_45 : decode c_Md_behind 45 = .ok (.iconst 0, 1) := by decide +kernel
theorem d_Md_behind_46 : decode c_Md_behind 46 = .ok (.aload_n 0, 1) := by decide +kernel
theorem d_Md_behind_47 : decode c_Md_behind 47 = .ok (.getfield 42, 3) := by decide +kernel
theorem d_Md_behind_50 : decode c_Md_behind 50 = .ok (.iload_n 1, 1) := by decide +kernel
theorem d_Md_behind_51 : decode c_Md_behind 51 = .ok (.iaload, 1) := by decide +kernel
theorem d_Md_behind_52 : decode c_Md_behind 52 = .ok (.aload_n 0, 1) := by decide +kernel
theorem d_Md_behind_53 : decode c_Md_behind 53 = .ok (.getfield 39, 3) := by decide +kernel
theorem d_Md_behind_56 : decode c_Md_behind 56 = .ok (.iload_n 1, 1) := by decide +kernel
theorem d_Md_behind_57 : decode c_Md_behind 57 = .ok (.baload, 1) := by decide +kernel
theorem d_Md_behind_58 : decode c_Md_behind 58 = .ok (.ifCond .eq 12, 3) := by decide +kernel
theorem d_Md_behind_61 : decode c_Md_behind 61 = .ok (.aload_n 0, 1) := by decide +kernel
theorem d_Md_behind_62 : decode c_Md_behind 62 = .ok (.getfield 42, 3) := by decide +kernel
theorem d_Md_behind_65 : decode c_Md_behind 65 = .ok (.iload_n 2, 1) := by decide +kernel
theorem d_Md_behind_66 : decode c_Md_behind 66 = .ok (.iaload, 1) := by decide +kernel
theorem d_Md_behind_67 : decode c_Md_behind 67 = .ok (.goto 4, 3) := by decide +kernel
theorem d_Md_behind_70 : decode c_Md_behind 70 = .ok (.iconst 0, 1) := by decide +kernel
theorem d_Md_behind_71 : decode c_Md_behind 71 = .ok (.ior, 1) := by decide +kernel
theorem d_Md_behind_72 : decode c_Md_behind 72 = .ok (.aload_n 0, 1) := by decide +kernel
theorem d_Md_behind_73 : decode c_Md_behind 73 = .ok (.getfield 45, 3) := by decide +kernel
theorem d_Md_behind_76 : decode c_Md_behind 76 = .ok (.iload_n 2, 1) := by decide +kernel
theorem d_Md_behind_77 : decode c_Md_behind 77 = .ok (.iaload, 1) := by decide +kernel
theorem d_Md_behind_78 : decode c_Md_behind 78 = .ok (.aload_n 0, 1) := by decide +kernel
theorem d_Md_behind_79 : decode c_Md_behind 79 = .ok (.getfield 39, 3) := by decide +kernel
theorem d_Md_behind_82 : decode c_Md_behind 82 = .ok (.iload_n 2, 1) := by decide +kernel
theorem d_Md_behind_83 : decode c_Md_behind 83 = .ok (.baload, 1) := by decide +kernel
theorem d_Md_behind_84 : decode c_Md_behind 84 = .ok (.ifCond .eq 12, 3) := by decide +kernel
theorem d_Md_behind_87 : decode c_Md_behind 87 = .ok (.aload_n 0, 1) := by decide +kernel
theorem d_Md_behind_88 : decode c_Md_behind 88 = .ok (.getfield 45, 3) := by decide +kernel
theorem d_Md_behind_91 : decode c_Md_behind 91 = .ok (.iload_n 1, 1) := by decide +kernel
theorem d_Md_behind_92 : decode c_Md_behind 92 = .ok (.iaload, 1) := by decide +kernel
theorem d_Md_behind_93 : decode c_Md_behind 93 = .ok (.goto 4, 3) := by decide +kernel
theorem d_Md_behind_96 : decode c_Md_behind 96 = .ok (.iconst 0, 1) := by decide +kernel
theorem d_Md_behind_97 : decode c_Md_behind 97 = .ok (.ior, 1) := by decide +kernel
theorem d_Md_behind_98 : decode c_Md_behind 98 = .ok (.invokevirtual 107, 3) := by decide +kernel
theorem d_Md_behind_101 : decode c_Md_behind 101 = .ok (.ireturn, 1) := by decide +kernel
theorem d_Md_either_0 : decode c_Md_either 0 = .ok (.iload_n 1, 1) := by decide +kernel
theorem d_Md_either_1 : decode c_Md_either 1 = .ok (.ifCond .ge 7, 3) := by decide +kernel
theorem d_Md_either_4 : decode c_Md_either 4 = .ok (.iload_n 2, 1) := by decide +kernel
theorem d_Md_either_5 : decode c_Md_either 5 = .ok (.goto 56, 3) := by decide +kernel
theorem d_Md_either_8 : decode c_Md_either 8 = .ok (.aload_n 0, 1) := by decide +kernel
theorem d_Md_either_9 : decode c_Md_either 9 = .ok (.aload_n 0, 1) := by decide +kernel
theorem d_Md_either_10 : decode c_Md_either 10 = .ok (.getfield 39, 3) := by decide +kernel
theorem d_Md_either_13 : decode c_Md_either 13 = .ok (.iload_n 1, 1) := by decide +kernel
theorem d_Md_either_14 : decode c_Md_either 14 = .ok (.baload, 1) := by decide +kernel
theorem d_Md_either_15 : decode c_Md_either 15 = .ok (.ifCond .ne 12, 3) := by decide +kernel
theorem d_Md_either_18 : decode c_Md_either 18 = .ok (.aload_n 0, 1) := by decide +kernel
theorem d_Md_either_19 : decode c_Md_either 19 = .ok (.getfield 39, 3) := by decide +kernel
theorem d_Md_either_22 : decode c_Md_either 22 = .ok (.iload_n 2, 1) := by decide +kernel
theorem d_Md_either_23 : decode c_Md_either 23 = .ok (.baload, 1) := by decide +kernel
theorem d_Md_either_24 : decode c_Md_either 24 = .ok (.ifCond .eq 7, 3) := by decide +kernel
theorem d_Md_either_27 : decode c_Md_either 27 = .ok (.iconst 1, 1) := by decide +kernel
theorem d_Md_either_28 : decode c_Md_either 28 = .ok (.goto 4, 3) := by decide +kernel
theorem d_Md_either_31 : decode c_Md_either 31 = .ok (.iconst 0, 1) := by decide +kernel
theorem d_Md_either_32 : decode c_Md_either 32 = .ok (.aload_n 0, 1) := by decide +kernel
theorem d_Md_either_33 : decode c_Md_either 33 = .ok (.getfield 42, 3) := by decide +kernel
theorem d_Md_either_36 : decode c_Md_either 36 = .ok (.iload_n 1, 1) := by decide +kernel
theorem d_Md_either_37 : decode c_Md_either 37 = .ok (.iaload, 1) := by decide +kernel
theorem d_Md_either_38 : decode c_Md_either 38 = .ok (.aload_n 0, 1) := by decide +kernel
theorem d_Md_either_39 : decode c_Md_either 39 = .ok (.getfield 42, 3) := by decide +kernel
theorem d_Md_either_42 : decode c_Md_either 42 = .ok (.iload_n 2, 1) := by decide +kernel
theorem d_Md_either_43 : decode c_Md_either 43 = .ok (.iaload, 1) := by decide +kernel
theorem d_Md_either_44 : decode c_Md_either 44 = .ok (.ior, 1) := by decide +kernel
theorem d_Md_either_45 : decode c_Md_either 45 = .ok (.aload_n 0, 1) := by decide +kernel
theorem d_Md_either_46 : decode c_Md_either 46 = .ok (.getfield 45, 3) := by decide +kernel
theorem d_Md_either_49 : decode c_Md_either 49 = .ok (.iload_n 1, 1) := by decide +kernel
theorem d_Md_either_50 : decode c_Md_either 50 = .ok (.iaload, 1) := by decide +kernel
theorem d_Md_either_51 : decode c_Md_either 51 = .ok (.aload_n 0, 1) := by decide +kernel
theorem d_Md_either_52 : decode c_Md_either 52 = .ok (.getfield 45, 3) := by decide +kernel
theorem d_Md_either_55 : decode c_Md_either 55 = .ok (.iload_n 2, 1) := by decide +kernel
theorem d_Md_either_56 : decode c_Md_either 56 = .ok (.iaload, 1) := by decide +kernel
theorem d_Md_either_57 : decode c_Md_either 57 = .ok (.ior, 1) := by decide +kernel
theorem d_Md_either_58 : decode c_Md_either 58 = .ok (.invokevirtual 107, 3) := by decide +kernel
theorem d_Md_either_61 : decode c_Md_either 61 = .ok (.ireturn, 1) := by decide +kernel
theorem d_Md_says_0 : decode c_Md_says 0 = .ok (.aload_n 0, 1) := by decide +kernel
theorem d_Md_says_1 : decode c_Md_says 1 = .ok (.iload_n 1, 1) := by decide +kernel
theorem d_Md_says_2 : decode c_Md_says 2 = .ok (.ifCond .eq 7, 3) := by decide +kernel
theorem d_Md_says_5 : decode c_Md_says 5 = .ok (.iconst 0, 1) := by decide +kernel
theorem d_Md_says_6 : decode c_Md_says 6 = .ok (.goto 4, 3) := by decide +kernel
theorem d_Md_says_9 : decode c_Md_says 9 = .ok (.iconst 1, 1) := by decide +kernel
theorem d_Md_says_10 : decode c_Md_says 10 = .ok (.putfield 83, 3) := by decide +kernel
theorem d_Md_says_13 : decode c_Md_says 13 = .ok (.iload_n 1, 1) := by decide +kernel
theorem d_Md_says_14 : decode c_Md_says 14 = .ok (.ireturn, 1) := by decide +kernel
theorem d_Md_place_0 : decode c_Md_place 0 = .ok (.aload_n 0, 1) := by decide +kernel
theorem d_Md_place_1 : decode c_Md_place 1 = .ok (.iconst 0, 1) := by decide +kernel
theorem d_Md_place_2 : decode c_Md_place 2 = .ok (.putfield 83, 3) := by decide +kernel
theorem d_Md_place_5 : decode c_Md_place 5 = .ok (.aload_n 0, 1) := by decide +kernel
theorem d_Md_place_6 : decode c_Md_place 6 = .ok (.getfield 13, 3) := by decide +kernel
theorem d_Md_place_9 : decode c_Md_place 9 = .ok (.ireturn, 1) := by decide +kernel
theorem d_Md_has_0 : decode c_Md_has 0 = .ok (.iload_n 1, 1) := by decide +kernel
theorem d_Md_has_1 : decode c_Md_has 1 = .ok (.invokestatic 135, 3) := by decide +kernel
theorem d_Md_has_4 : decode c_Md_has 4 = .ok (.istore_n 2, 1) := by decide +kernel
theorem d_Md_has_5 : decode c_Md_has 5 = .ok (.sipush 256, 3) := by decide +kernel
theorem d_Md_has_8 : decode c_Md_has 8 = .ok (.istore_n 3, 1) := by decide +kernel
theorem d_Md_has_9 : decode c_Md_has 9 = .ok (.iconst 0, 1) := by decide +kernel
theorem d_Md_has_10 : decode c_Md_has 10 = .ok (.istore 4, 2) := by decide +kernel
theorem d_Md_has_12 : decode c_Md_has 12 = .ok (.iload 4, 2) := by decide +kernel
theorem d_Md_has_14 : decode c_Md_has 14 = .ok (.aload_n 0, 1) := by decide +kernel
theorem d_Md_has_15 : decode c_Md_has 15 = .ok (.getfield 90, 3) := by decide +kernel
theorem d_Md_has_18 : decode c_Md_has 18 = .ok (.if_icmp .ge 52, 3) := by decide +kernel
theorem d_Md_has_21 : decode c_Md_has 21 = .ok (.aload_n 0, 1) := by decide +kernel
theorem d_Md_has_22 : decode c_Md_has 22 = .ok (.getfield 9, 3) := by decide +kernel
theorem d_Md_has_25 : decode c_Md_has 25 = .ok (.iload 4, 2) := by decide +kernel
theorem d_Md_has_27 : decode c_Md_has 27 = .ok (.iaload, 1) := by decide +kernel
theorem d_Md_has_28 : decode c_Md_has 28 = .ok (.bipush 97, 2) := by decide +kernel
theorem d_Md_has_30 : decode c_Md_has 30 = .ok (.bipush 100, 2) := by decide +kernel
theorem d_Md_has_32 : decode c_Md_has 32 = .ok (.invokestatic 86, 3) := by decide +kernel
theorem d_Md_has_35 : decode c_Md_has 35 = .ok (.ifCond .ne 8, 3) := by decide +kernel
theorem d_Md_has_38 : decode c_Md_has 38 = .ok (.iconst 0, 1) := by decide +kernel
theorem d_Md_has_39 : decode c_Md_has 39 = .ok (.istore_n 2, 1) := by decide +kernel
theorem d_Md_has_40 : decode c_Md_has 40 = .ok (.goto 24, 3) := by decide +kernel
theorem d_Md_has_43 : decode c_Md_has 43 = .ok (.iload_n 2, 1) := by decide +kernel
theorem d_Md_has_44 : decode c_Md_has 44 = .ok (.ifCond .eq 20, 3) := by decide +kernel
theorem d_Md_has_47 : decode c_Md_has 47 = .ok (.aload_n 0, 1) := by decide +kernel
theorem d_Md_has_48 : decode c_Md_has 48 = .ok (.iload_n 1, 1) := by decide +kernel
theorem d_Md_has_49 : decode c_Md_has 49 = .ok (.iload_n 3, 1) := by decide +kernel
theorem d_Md_has_50 : decode c_Md_has 50 = .ok (.aload_n 0, 1) := by decide +kernel
theorem d_Md_has_51 : decode c_Md_has 51 = .ok (.getfield 9, 3) := by decide +kernel
theorem d_Md_has_54 : decode c_Md_has 54 = .ok (.iload 4, 2) := by decide +kernel
theorem d_Md_has_56 : decode c_Md_has 56 = .ok (.iaload, 1) := by decide +kernel
theorem d_Md_has_57 : decode c_Md_has 57 = .ok (.bipush 97, 2) := by decide +kernel
theorem d_Md_has_59 : decode c_Md_has 59 = .ok (.isub, 1) := by decide +kernel
theorem d_Md_has_60 : decode c_Md_has 60 = .ok (.invokevirtual 146, 3) := by decide +kernel
theorem d_Md_has_63 : decode c_Md_has 63 = .ok (.istore_n 3, 1) := by decide +kernel
theorem d_Md_has_64 : decode c_Md_has 64 = .ok (.iinc 4 1, 3) := by decide +kernel
theorem d_Md_has_67 : decode c_Md_has 67 = .ok (.goto (-55), 3) := by decide +kernel
theorem d_Md_has_70 : decode c_Md_has 70 = .ok (.aload_n 0, 1) := by decide +kernel
theorem d_Md_has_71 : decode c_Md_has 71 = .ok (.iconst 0, 1) := by decide +kernel
theorem d_Md_has_72 : decode c_Md_has 72 = .ok (.putfield 90, 3) := by decide +kernel
theorem d_Md_has_75 : decode c_Md_has 75 = .ok (.aload_n 0, 1) := by decide +kernel
theorem d_Md_has_76 : decode c_Md_has 76 = .ok (.iload_n 2, 1) := by decide +kernel
theorem d_Md_has_77 : decode c_Md_has 77 = .ok (.invokevirtual 142, 3) := by decide +kernel
theorem d_Md_has_80 : decode c_Md_has 80 = .ok (.ifCond .eq 16, 3) := by decide +kernel
theorem d_Md_has_83 : decode c_Md_has 83 = .ok (.aload_n 0, 1) := by decide +kernel
theorem d_Md_has_84 : decode c_Md_has 84 = .ok (.iload_n 1, 1) := by decide +kernel
theorem d_Md_has_85 : decode c_Md_has 85 = .ok (.iload_n 3, 1) := by decide +kernel
theorem d_Md_has_86 : decode c_Md_has 86 = .ok (.invokevirtual 150, 3) := by decide +kernel
theorem d_Md_has_89 : decode c_Md_has 89 = .ok (.ifCond .eq 7, 3) := by decide +kernel
theorem d_Md_has_92 : decode c_Md_has 92 = .ok (.iconst 1, 1) := by decide +kernel
theorem d_Md_has_93 : decode c_Md_has 93 = .ok (.goto 4, 3) := by decide +kernel
theorem d_Md_has_96 : decode c_Md_has 96 = .ok (.iconst 0, 1) := by decide +kernel
theorem d_Md_has_97 : decode c_Md_has 97 = .ok (.ireturn, 1) := by decide +kernel
theorem d_Md_step_0 : decode c_Md_step 0 = .ok (.iload_n 2, 1) := by decide +kernel
theorem d_Md_step_1 : decode c_Md_step 1 = .ok (.sipush 256, 3) := by decide +kernel
theorem d_Md_step_4 : decode c_Md_step 4 = .ok (.if_icmp .ne 12, 3) := by decide +kernel
theorem d_Md_step_7 : decode c_Md_step 7 = .ok (.aload_n 0, 1) := by decide +kernel
theorem d_Md_step_8 : decode c_Md_step 8 = .ok (.getfield 23, 3) := by decide +kernel
theorem d_Md_step_11 : decode c_Md_step 11 = .ok (.iload_n 1, 1) := by decide +kernel
theorem d_Md_step_12 : decode c_Md_step 12 = .ok (.iaload, 1) := by decide +kernel
theorem d_Md_step_13 : decode c_Md_step 13 = .ok (.goto 4, 3) := by decide +kernel
theorem d_Md_step_16 : decode c_Md_step 16 = .ok (.iconst 0, 1) := by decide +kernel
theorem d_Md_step_17 : decode c_Md_step 17 = .ok (.istore 4, 2) := by decide +kernel
theorem d_Md_step_19 : decode c_Md_step 19 = .ok (.iconst 0, 1) := by decide +kernel
theorem d_Md_step_20 : decode c_Md_step 20 = .ok (.istore 5, 2) := by decide +kernel
theorem d_Md_step_22 : decode c_Md_step 22 = .ok (.iload 5, 2) := by decide +kernel
theorem d_Md_step_24 : decode c_Md_step 24 = .ok (.aload_n 0, 1) := by decide +kernel
theorem d_Md_step_25 : decode c_Md_step 25 = .ok (.getfield 17, 3) := by decide +kernel
theorem d_Md_step_28 : decode c_Md_step 28 = .ok (.iload_n 1, 1) := by decide +kernel
theorem d_Md_step_29 : decode c_Md_step 29 = .ok (.iaload, 1) := by decide +kernel
theorem d_Md_step_30 : decode c_Md_step 30 = .ok (.if_icmp .ge 43, 3) := by decide +kernel
theorem d_Md_step_33 : decode c_Md_step 33 = .ok (.iload_n 2, 1) := by decide +kernel
theorem d_Md_step_34 : decode c_Md_step 34 = .ok (.sipush 256, 3) := by decide +kernel
theorem d_Md_step_37 : decode c_Md_step 37 = .ok (.if_icmp .eq 36, 3) := by decide +kernel
theorem d_Md_step_40 : decode c_Md_step 40 = .ok (.iload_n 2, 1) := by decide +kernel
theorem d_Md_step_41 : decode c_Md_step 41 = .ok (.iload 5, 2) := by decide +kernel
theorem d_Md_step_43 : decode c_Md_step 43 = .ok (.ishr, 1) := by decide +kernel
theorem d_Md_step_44 : decode c_Md_step 44 = .ok (.iconst 1, 1) := by decide +kernel
theorem d_Md_step_45 : decode c_Md_step 45 = .ok (.iand, 1) := by decide +kernel
theorem d_Md_step_46 : decode c_Md_step 46 = .ok (.iconst 1, 1) := by decide +kernel
theorem d_Md_step_47 : decode c_Md_step 47 = .ok (.if_icmp .ne 20, 3) := by decide +kernel
theorem d_Md_step_50 : decode c_Md_step 50 = .ok (.iload 4, 2) := by decide +kernel
theorem d_Md_step_52 : decode c_Md_step 52 = .ok (.aload_n 0, 1) := by decide +kernel
theorem d_Md_step_53 : decode c_Md_step 53 = .ok (.getfield 29, 3) := by decide +kernel
theorem d_Md_step_56 : decode c_Md_step 56 = .ok (.iload_n 1, 1) := by decide +kernel
theorem d_Md_step_57 : decode c_Md_step 57 = .ok (.bipush 8, 2) := by decide +kernel
theorem d_Md_step_59 : decode c_Md_step 59 = .ok (.imul, 1) := by decide +kernel
theorem d_Md_step_60 : decode c_Md_step 60 = .ok (.iload 5, 2) := by decide +kernel
theorem d_Md_step_62 : decode c_Md_step 62 = .ok (.iadd, 1) := by decide +kernel
theorem d_Md_step_63 : decode c_Md_step 63 = .ok (.iaload, 1) := by decide +kernel
theorem d_Md_step_64 : decode c_Md_step 64 = .ok (.ior, 1) := by decide +kernel
theorem d_Md_step_65 : decode c_Md_step 65 = .ok (.istore 4, 2) := by decide +kernel
theorem d_Md_step_67 : decode c_Md_step 67 = .ok (.iinc 5 1, 3) := by decide +kernel
theorem d_Md_step_70 : decode c_Md_step 70 = .ok (.goto (-48), 3) := by decide +kernel
theorem d_Md_step_73 : decode c_Md_step 73 = .ok (.iconst 0, 1) := by decide +kernel
theorem d_Md_step_74 : decode c_Md_step 74 = .ok (.istore 5, 2) := by decide +kernel
theorem d_Md_step_76 : decode c_Md_step 76 = .ok (.iconst 0, 1) := by decide +kernel
theorem d_Md_step_77 : decode c_Md_step 77 = .ok (.istore 6, 2) := by decide +kernel
theorem d_Md_step_79 : decode c_Md_step 79 = .ok (.iload 6, 2) := by decide +kernel
theorem d_Md_step_81 : decode c_Md_step 81 = .ok (.aload_n 0, 1) := by decide +kernel
theorem d_Md_step_82 : decode c_Md_step 82 = .ok (.getfield 17, 3) := by decide +kernel
theorem d_Md_step_85 : decode c_Md_step 85 = .ok (.iload_n 1, 1) := by decide +kernel
theorem d_Md_step_86 : decode c_Md_step 86 = .ok (.iaload, 1) := by decide +kernel
theorem d_Md_step_87 : decode c_Md_step 87 = .ok (.if_icmp .ge 45, 3) := by decide +kernel
theorem d_Md_step_90 : decode c_Md_step 90 = .ok (.iload 4, 2) := by decide +kernel
theorem d_Md_step_92 : decode c_Md_step 92 = .ok (.iload 6, 2) := by decide +kernel
theorem d_Md_step_94 : decode c_Md_step 94 = .ok (.ishr, 1) := by decide +kernel
theorem d_Md_step_95 : decode c_Md_step 95 = .ok (.iconst 1, 1) := by decide +kernel
theorem d_Md_step_96 : decode c_Md_step 96 = .ok (.iand, 1) := by decide +kernel
theorem d_Md_step_97 : decode c_Md_step 97 = .ok (.iconst 1, 1) := by decide +kernel
theorem d_Md_step_98 : decode c_Md_step 98 = .ok (.if_icmp .ne 28, 3) := by decide +kernel
theorem d_Md_step_101 : decode c_Md_step 101 = .ok (.aload_n 0, 1) := by decide +kernel
theorem d_Md_step_102 : decode c_Md_step 102 = .ok (.getfield 20, 3) := by decide +kernel
theorem d_Md_step_105 : decode c_Md_step 105 = .ok (.iload_n 1, 1) := by decide +kernel
theorem d_Md_step_106 : decode c_Md_step 106 = .ok (.bipush 8, 2) := by decide +kernel
theorem d_Md_step_108 : decode c_Md_step 108 = .ok (.imul, 1) := by decide +kernel
theorem d_Md_step_109 : decode c_Md_step 109 = .ok (.iload 6, 2) := by decide +kernel
theorem d_Md_step_111 : decode c_Md_step 111 = .ok (.iadd, 1) := by decide +kernel
theorem d_Md_step_112 : decode c_Md_step 112 = .ok (.iaload, 1) := by decide +kernel
theorem d_Md_step_113 : decode c_Md_step 113 = .ok (.iload_n 3, 1) := by decide +kernel
theorem d_Md_step_114 : decode c_Md_step 114 = .ok (.if_icmp .ne 12, 3) := by decide +kernel
theorem d_Md_step_117 : decode c_Md_step 117 = .ok (.iload 5, 2) := by decide +kernel
theorem d_Md_step_119 : decode c_Md_step 119 = .ok (.iconst 1, 1) := by decide +kernel
theorem d_Md_step_120 : decode c_Md_step 120 = .ok (.iload 6, 2) := by decide +kernel
theorem d_Md_step_122 : decode c_Md_step 122 = .ok (.ishl, 1) := by decide +kernel
theorem d_Md_step_123 : decode c_Md_step 123 = .ok (.ior, 1) := by decide +kernel
theorem d_Md_step_124 : decode c_Md_step 124 = .ok (.istore 5, 2) := by decide +kernel
theorem d_Md_step_126 : decode c_Md_step 126 = .ok (.iinc 6 1, 3) := by decide +kernel
theorem d_Md_step_129 : decode c_Md_step 129 = .ok (.goto (-50), 3) := by decide +kernel
theorem d_Md_step_132 : decode c_Md_step 132 = .ok (.iload 5, 2) := by decide +kernel
theorem d_Md_step_134 : decode c_Md_step 134 = .ok (.ireturn, 1) := by decide +kernel
theorem d_Md_tells_0 : decode c_Md_tells 0 = .ok (.iload_n 2, 1) := by decide +kernel
theorem d_Md_tells_1 : decode c_Md_tells 1 = .ok (.sipush 256, 3) := by decide +kernel
theorem d_Md_tells_4 : decode c_Md_tells 4 = .ok (.if_icmp .ne 12, 3) := by decide +kernel
theorem d_Md_tells_7 : decode c_Md_tells 7 = .ok (.aload_n 0, 1) := by decide +kernel
theorem d_Md_tells_8 : decode c_Md_tells 8 = .ok (.getfield 32, 3) := by decide +kernel
theorem d_Md_tells_11 : decode c_Md_tells 11 = .ok (.iload_n 1, 1) := by decide +kernel
theorem d_Md_tells_12 : decode c_Md_tells 12 = .ok (.baload, 1) := by decide +kernel
theorem d_Md_tells_13 : decode c_Md_tells 13 = .ok (.goto 19, 3) := by decide +kernel
theorem d_Md_tells_16 : decode c_Md_tells 16 = .ok (.iload_n 2, 1) := by decide +kernel
theorem d_Md_tells_17 : decode c_Md_tells 17 = .ok (.aload_n 0, 1) := by decide +kernel
theorem d_Md_tells_18 : decode c_Md_tells 18 = .ok (.getfield 26, 3) := by decide +kernel
theorem d_Md_tells_21 : decode c_Md_tells 21 = .ok (.iload_n 1, 1) := by decide +kernel
theorem d_Md_tells_22 : decode c_Md_tells 22 = .ok (.iaload, 1) := by decide +kernel
theorem d_Md_tells_23 : decode c_Md_tells 23 = .ok (.iand, 1) := by decide +kernel
theorem d_Md_tells_24 : decode c_Md_tells 24 = .ok (.ifCond .eq 7, 3) := by decide +kernel
theorem d_Md_tells_27 : decode c_Md_tells 27 = .ok (.iconst 1, 1) := by decide +kernel
theorem d_Md_tells_28 : decode c_Md_tells 28 = .ok (.goto 4, 3) := by decide +kernel
theorem d_Md_tells_31 : decode c_Md_tells 31 = .ok (.iconst 0, 1) := by decide +kernel
theorem d_Md_tells_32 : decode c_Md_tells 32 = .ok (.ireturn, 1) := by decide +kernel
theorem d_Md_compare_0 : decode c_Md_compare 0 = .ok (.aload_n 0, 1) := by decide +kernel
theorem d_Md_compare_1 : decode c_Md_compare 1 = .ok (.iload_n 1, 1) := by decide +kernel
theorem d_Md_compare_2 : decode c_Md_compare 2 = .ok (.invokestatic 135, 3) := by decide +kernel
theorem d_Md_compare_5 : decode c_Md_compare 5 = .ok (.ifCond .eq 14, 3) := by decide +kernel
theorem d_Md_compare_8 : decode c_Md_compare 8 = .ok (.iload_n 2, 1) := by decide +kernel
theorem d_Md_compare_9 : decode c_Md_compare 9 = .ok (.invokestatic 135, 3) := by decide +kernel
theorem d_Md_compare_12 : decode c_Md_compare 12 = .ok (.ifCond .eq 7, 3) := by decide +kernel
theorem d_Md_compare_15 : decode c_Md_compare 15 = .ok (.iconst 1, 1) := by decide +kernel
theorem d_Md_compare_16 : decode c_Md_compare 16 = .ok (.goto 4, 3) := by decide +kernel
theorem d_Md_compare_19 : decode c_Md_compare 19 = .ok (.iconst 0, 1) := by decide +kernel
theorem d_Md_compare_20 : decode c_Md_compare 20 = .ok (.invokevirtual 142, 3) := by decide +kernel
theorem d_Md_compare_23 : decode c_Md_compare 23 = .ok (.ifCond .ne 5, 3) := by decide +kernel
theorem d_Md_compare_26 : decode c_Md_compare 26 = .ok (.iconst 0, 1) := by decide +kernel
theorem d_Md_compare_27 : decode c_Md_compare 27 = .ok (.ireturn, 1) := by decide +kernel
theorem d_Md_compare_28 : decode c_Md_compare 28 = .ok (.aload_n 0, 1) := by decide +kernel
theorem d_Md_compare_29 : decode c_Md_compare 29 = .ok (.iload_n 1, 1) := by decide +kernel
theorem d_Md_compare_30 : decode c_Md_compare 30 = .ok (.iload_n 2, 1) := by decide +kernel
theorem d_Md_compare_31 : decode c_Md_compare 31 = .ok (.iconst 1, 1) := by decide +kernel
theorem d_Md_compare_32 : decode c_Md_compare 32 = .ok (.invokevirtual 158, 3) := by decide +kernel
theorem d_Md_compare_35 : decode c_Md_compare 35 = .ok (.istore_n 3, 1) := by decide +kernel
theorem d_Md_compare_36 : decode c_Md_compare 36 = .ok (.aload_n 0, 1) := by decide +kernel
theorem d_Md_compare_37 : decode c_Md_compare 37 = .ok (.iconst 0, 1) := by decide +kernel
theorem d_Md_compare_38 : decode c_Md_compare 38 = .ok (.putfield 154, 3) := by decide +kernel
theorem d_Md_compare_41 : decode c_Md_compare 41 = .ok (.iload_n 3, 1) := by decide +kernel
theorem d_Md_compare_42 : decode c_Md_compare 42 = .ok (.ifCond .ge 5, 3) := by decide +kernel
theorem d_Md_compare_45 : decode c_Md_compare 45 = .ok (.iconst 0, 1) := by decide +kernel
theorem d_Md_compare_46 : decode c_Md_compare 46 = .ok (.ireturn, 1) := by decide +kernel
theorem d_Md_compare_47 : decode c_Md_compare 47 = .ok (.aload_n 0, 1) := by decide +kernel
theorem d_Md_compare_48 : decode c_Md_compare 48 = .ok (.iload_n 3, 1) := by decide +kernel
theorem d_Md_compare_49 : decode c_Md_compare 49 = .ok (.invokevirtual 161, 3) := by decide +kernel
theorem d_Md_compare_52 : decode c_Md_compare 52 = .ok (.aload_n 0, 1) := by decide +kernel
theorem d_Md_compare_53 : decode c_Md_compare 53 = .ok (.iload_n 1, 1) := by decide +kernel
theorem d_Md_compare_54 : decode c_Md_compare 54 = .ok (.aload_n 0, 1) := by decide +kernel
theorem d_Md_compare_55 : decode c_Md_compare 55 = .ok (.getfield 55, 3) := by decide +kernel
theorem d_Md_compare_58 : decode c_Md_compare 58 = .ok (.iload_n 3, 1) := by decide +kernel
theorem d_Md_compare_59 : decode c_Md_compare 59 = .ok (.iaload, 1) := by decide +kernel
theorem d_Md_compare_60 : decode c_Md_compare 60 = .ok (.sipush 257, 3) := by decide +kernel
theorem d_Md_compare_63 : decode c_Md_compare 63 = .ok (.idiv, 1) := by decide +kernel
theorem d_Md_compare_64 : decode c_Md_compare 64 = .ok (.invokevirtual 150, 3) := by decide +kernel
theorem d_Md_compare_67 : decode c_Md_compare 67 = .ok (.ifCond .eq 7, 3) := by decide +kernel
theorem d_Md_compare_70 : decode c_Md_compare 70 = .ok (.iconst 1, 1) := by decide +kernel
theorem d_Md_compare_71 : decode c_Md_compare 71 = .ok (.goto 4, 3) := by decide +kernel
theorem d_Md_compare_74 : decode c_Md_compare 74 = .ok (.iconst 2, 1) := by decide +kernel
theorem d_Md_compare_75 : decode c_Md_compare 75 = .ok (.ireturn, 1) := by decide +kernel
theorem d_Md_seek_0 : decode c_Md_seek 0 = .ok (.iconst 0, 1) := by decide +kernel
theorem d_Md_seek_1 : decode c_Md_seek 1 = .ok (.istore 4, 2) := by decide +kernel
theorem d_Md_seek_3 : decode c_Md_seek 3 = .ok (.iload 4, 2) := by decide +kernel
theorem d_Md_seek_5 : decode c_Md_seek 5 = .ok (.ldc 54, 2) := by decide +kernel
theorem d_Md_seek_7 : decode c_Md_seek 7 = .ok (.if_icmp .ge 17, 3) := by decide +kernel
theorem d_Md_seek_10 : decode c_Md_seek 10 = .ok (.aload_n 0, 1) := by decide +kernel
theorem d_Md_seek_11 : decode c_Md_seek 11 = .ok (.getfield 64, 3) := by decide +kernel
theorem d_Md_seek_14 : decode c_Md_seek 14 = .ok (.iload 4, 2) := by decide +kernel
theorem d_Md_seek_16 : decode c_Md_seek 16 = .ok (.iconst 0, 1) := by decide +kernel
theorem d_Md_seek_17 : decode c_Md_seek 17 = .ok (.bastore, 1) := by decide +kernel
theorem d_Md_seek_18 : decode c_Md_seek 18 = .ok (.iinc 4 1, 3) := by decide +kernel
theorem d_Md_seek_21 : decode c_Md_seek 21 = .ok (.goto (-18), 3) := by decide +kernel
theorem d_Md_seek_24 : decode c_Md_seek 24 = .ok (.iconst 1, 1) := by decide +kernel
theorem d_Md_seek_25 : decode c_Md_seek 25 = .ok (.istore 4, 2) := by decide +kernel
theorem d_Md_seek_27 : decode c_Md_seek 27 = .ok (.aload_n 0, 1) := by decide +kernel
theorem d_Md_seek_28 : decode c_Md_seek 28 = .ok (.getfield 55, 3) := by decide +kernel
theorem d_Md_seek_31 : decode c_Md_seek 31 = .ok (.iconst 0, 1) := by decide +kernel
theorem d_Md_seek_32 : decode c_Md_seek 32 = .ok (.ldc 157, 2) := by decide +kernel
theorem d_Md_seek_34 : decode c_Md_seek 34 = .ok (.iastore, 1) := by decide +kernel
theorem d_Md_seek_35 : decode c_Md_seek 35 = .ok (.aload_n 0, 1) := by decide +kernel
theorem d_Md_seek_36 : decode c_Md_seek 36 = .ok (.getfield 58, 3) := by decide +kernel
theorem d_Md_seek_39 : decode c_Md_seek 39 = .ok (.iconst 0, 1) := by decide +kernel
theorem d_Md_seek_40 : decode c_Md_seek 40 = .ok (.iconst (-1), 1) := by decide +kernel
theorem d_Md_seek_41 : decode c_Md_seek 41 = .ok (.iastore, 1) := by decide +kernel
theorem d_Md_seek_42 : decode c_Md_seek 42 = .ok (.aload_n 0, 1) := by decide +kernel
theorem d_Md_seek_43 : decode c_Md_seek 43 = .ok (.getfield 64, 3) := by decide +kernel
theorem d_Md_seek_46 : decode c_Md_seek 46 = .ok (.aload_n 0, 1) := by decide +kernel
theorem d_Md_seek_47 : decode c_Md_seek 47 = .ok (.getfield 55, 3) := by decide +kernel
theorem d_Md_seek_50 : decode c_Md_seek 50 = .ok (.iconst 0, 1) := by decide +kernel
theorem d_Md_seek_51 : decode c_Md_seek 51 = .ok (.iaload, 1) := by decide +kernel
theorem d_Md_seek_52 : decode c_Md_seek 52 = .ok (.iconst 1, 1) := by decide +kernel
theorem d_Md_seek_53 : decode c_Md_seek 53 = .ok (.bastore, 1) := by decide +kernel
theorem d_Md_seek_54 : decode c_Md_seek 54 = .ok (.iconst 0, 1) := by decide +kernel
theorem d_Md_seek_55 : decode c_Md_seek 55 = .ok (.istore 5, 2) := by decide +kernel
theorem d_Md_seek_57 : decode c_Md_seek 57 = .ok (.iload 5, 2) := by decide +kernel
theorem d_Md_seek_59 : decode c_Md_seek 59 = .ok (.iload 4, 2) := by decide +kernel
theorem d_Md_seek_61 : decode c_Md_seek 61 = .ok (.if_icmp .ge 185, 3) := by decide +kernel
theorem d_Md_seek_64 : decode c_Md_seek 64 = .ok (.aload_n 0, 1) := by decide +kernel
theorem d_Md_seek_65 : decode c_Md_seek 65 = .ok (.getfield 55, 3) := by decide +kernel
theorem d_Md_seek_68 : decode c_Md_seek 68 = .ok (.iload 5, 2) := by decide +kernel
theorem d_Md_seek_70 : decode c_Md_seek 70 = .ok (.iaload, 1) := by decide +kernel
theorem d_Md_seek_71 : decode c_Md_seek 71 = .ok (.sipush 257, 3) := by decide +kernel
theorem d_Md_seek_74 : decode c_Md_seek 74 = .ok (.idiv, 1) := by decide +kernel
theorem d_Md_seek_75 : decode c_Md_seek 75 = .ok (.istore 6, 2) := by decide +kernel
theorem d_Md_seek_77 : decode c_Md_seek 77 = .ok (.aload_n 0, 1) := by decide +kernel
theorem d_Md_seek_78 : decode c_Md_seek 78 = .ok (.getfield 55, 3) := by decide +kernel
theorem d_Md_seek_81 : decode c_Md_seek 81 = .ok (.iload 5, 2) := by decide +kernel
theorem d_Md_seek_83 : decode c_Md_seek 83 = .ok (.iaload, 1) := by decide +kernel
theorem d_Md_seek_84 : decode c_Md_seek 84 = .ok (.sipush 257, 3) := by decide +kernel
theorem d_Md_seek_87 : decode c_Md_seek 87 = .ok (.irem, 1) := by decide +kernel
theorem d_Md_seek_88 : decode c_Md_seek 88 = .ok (.istore 7, 2) := by decide +kernel
theorem d_Md_seek_90 : decode c_Md_seek 90 = .ok (.aload_n 0, 1) := by decide +kernel
theorem d_Md_seek_91 : decode c_Md_seek 91 = .ok (.iload_n 1, 1) := by decide +kernel
theorem d_Md_seek_92 : decode c_Md_seek 92 = .ok (.iload 6, 2) := by decide +kernel
theorem d_Md_seek_94 : decode c_Md_seek 94 = .ok (.invokevirtual 150, 3) := by decide +kernel
theorem d_Md_seek_97 : decode c_Md_seek 97 = .ok (.istore 8, 2) := by decide +kernel
theorem d_Md_seek_99 : decode c_Md_seek 99 = .ok (.aload_n 0, 1) := by decide +kernel
theorem d_Md_seek_100 : decode c_Md_seek 100 = .ok (.iload_n 2, 1) := by decide +kernel
theorem d_Md_seek_101 : decode c_Md_seek 101 = .ok (.iload 7, 2) := by decide +kernel
theorem d_Md_seek_103 : decode c_Md_seek 103 = .ok (.invokevirtual 150, 3) := by decide +kernel
theorem d_Md_seek_106 : decode c_Md_seek 106 = .ok (.istore 9, 2) := by decide +kernel
theorem d_Md_seek_108 : decode c_Md_seek 108 = .ok (.iload_n 3, 1) := by decide +kernel
theorem d_Md_seek_109 : decode c_Md_seek 109 = .ok (.iconst 1, 1) := by decide +kernel
theorem d_Md_seek_110 : decode c_Md_seek 110 = .ok (.if_icmp .ne 13, 3) := by decide +kernel
theorem d_Md_seek_113 : decode c_Md_seek 113 = .ok (.iload 8, 2) := by decide +kernel
theorem d_Md_seek_115 : decode c_Md_seek 115 = .ok (.iload 9, 2) := by decide +kernel
theorem d_Md_seek_117 : decode c_Md_seek 117 = .ok (.if_icmp .eq 32, 3) := by decide +kernel
theorem d_Md_seek_120 : decode c_Md_seek 120 = .ok (.goto 26, 3) := by decide +kernel
theorem d_Md_seek_123 : decode c_Md_seek 123 = .ok (.iload_n 3, 1) := by decide +kernel
theorem d_Md_seek_124 : decode c_Md_seek 124 = .ok (.iconst 2, 1) := by decide +kernel
theorem d_Md_seek_125 : decode c_Md_seek 125 = .ok (.if_icmp .ne 16, 3) := by decide +kernel
theorem d_Md_seek_128 : decode c_Md_seek 128 = .ok (.iload 9, 2) := by decide +kernel
theorem d_Md_seek_130 : decode c_Md_seek 130 = .ok (.ifCond .eq 19, 3) := by decide +kernel
theorem d_Md_seek_133 : decode c_Md_seek 133 = .ok (.iload 8, 2) := by decide +kernel
theorem d_Md_seek_135 : decode c_Md_seek 135 = .ok (.ifCond .ne 14, 3) := by decide +kernel
theorem d_Md_seek_138 : decode c_Md_seek 138 = .ok (.goto 8, 3) := by decide +kernel
theorem d_Md_seek_141 : decode c_Md_seek 141 = .ok (.iload 8, 2) := by decide +kernel
theorem d_Md_seek_143 : decode c_Md_seek 143 = .ok (.ifCond .eq 6, 3) := by decide +kernel
theorem d_Md_seek_146 : decode c_Md_seek 146 = .ok (.iload 5, 2) := by decide +kernel
theorem d_Md_seek_148 : decode c_Md_seek 148 = .ok (.ireturn, 1) := by decide +kernel
theorem d_Md_seek_149 : decode c_Md_seek 149 = .ok (.iconst 0, 1) := by decide +kernel
theorem d_Md_seek_150 : decode c_Md_seek 150 = .ok (.istore 10, 2) := by decide +kernel
theorem d_Md_seek_152 : decode c_Md_seek 152 = .ok (.iload 10, 2) := by decide +kernel
theorem d_Md_seek_154 : decode c_Md_seek 154 = .ok (.iconst 4, 1) := by decide +kernel
theorem d_Md_seek_155 : decode c_Md_seek 155 = .ok (.if_icmp .ge 85, 3) := by decide +kernel
theorem d_Md_seek_158 : decode c_Md_seek 158 = .ok (.aload_n 0, 1) := by decide +kernel
theorem d_Md_seek_159 : decode c_Md_seek 159 = .ok (.iload_n 1, 1) := by decide +kernel
theorem d_Md_seek_160 : decode c_Md_seek 160 = .ok (.iload 6, 2) := by decide +kernel
theorem d_Md_seek_162 : decode c_Md_seek 162 = .ok (.iload 10, 2) := by decide +kernel
theorem d_Md_seek_164 : decode c_Md_seek 164 = .ok (.invokevirtual 146, 3) := by decide +kernel
theorem d_Md_seek_167 : decode c_Md_seek 167 = .ok (.sipush 257, 3) := by decide +kernel
theorem d_Md_seek_170 : decode c_Md_seek 170 = .ok (.imul, 1) := by decide +kernel
theorem d_Md_seek_171 : decode c_Md_seek 171 = .ok (.aload_n 0, 1) := by decide +kernel
theorem d_Md_seek_172 : decode c_Md_seek 172 = .ok (.iload_n 2, 1) := by decide +kernel
theorem d_Md_seek_173 : decode c_Md_seek 173 = .ok (.iload 7, 2) := by decide +kernel
theorem d_Md_seek_175 : decode c_Md_seek 175 = .ok (.iload 10, 2) := by decide +kernel
theorem d_Md_seek_177 : decode c_Md_seek 177 = .ok (.invokevirtual 146, 3) := by decide +kernel
theorem d_Md_seek_180 : decode c_Md_seek 180 = .ok (.iadd, 1) := by decide +kernel
theorem d_Md_seek_181 : decode c_Md_seek 181 = .ok (.istore 11, 2) := by decide +kernel
theorem d_Md_seek_183 : decode c_Md_seek 183 = .ok (.aload_n 0, 1) := by decide +kernel
theorem d_Md_seek_184 : decode c_Md_seek 184 = .ok (.getfield 64, 3) := by decide +kernel
theorem d_Md_seek_187 : decode c_Md_seek 187 = .ok (.iload 11, 2) := by decide +kernel
theorem d_Md_seek_189 : decode c_Md_seek 189 = .ok (.baload, 1) := by decide +kernel
theorem d_Md_seek_190 : decode c_Md_seek 190 = .ok (.ifCond .eq 6, 3) := by decide +kernel
theorem d_Md_seek_193 : decode c_Md_seek 193 = .ok (.goto 41, 3) := by decide +kernel
theorem d_Md_seek_196 : decode c_Md_seek 196 = .ok (.aload_n 0, 1) := by decide +kernel
theorem d_Md_seek_197 : decode c_Md_seek 197 = .ok (.getfield 64, 3) := by decide +kernel
theorem d_Md_seek_200 : decode c_Md_seek 200 = .ok (.iload 11, 2) := by decide +kernel
theorem d_Md_seek_202 : decode c_Md_seek 202 = .ok (.iconst 1, 1) := by decide +kernel
theorem d_Md_seek_203 : decode c_Md_seek 203 = .ok (.bastore, 1) := by decide +kernel
theorem d_Md_seek_204 : decode c_Md_seek 204 = .ok (.aload_n 0, 1) := by decide +kernel
theorem d_Md_seek_205 : decode c_Md_seek 205 = .ok (.getfield 55, 3) := by decide +kernel
theorem d_Md_seek_208 : decode c_Md_seek 208 = .ok (.iload 4, 2) := by decide +kernel
theorem d_Md_seek_210 : decode c_Md_seek 210 = .ok (.iload 11, 2) := by decide +kernel
theorem d_Md_seek_212 : decode c_Md_seek 212 = .ok (.iastore, 1) := by decide +kernel
theorem d_Md_seek_213 : decode c_Md_seek 213 = .ok (.aload_n 0, 1) := by decide +kernel
theorem d_Md_seek_214 : decode c_Md_seek 214 = .ok (.getfield 58, 3) := by decide +kernel
theorem d_Md_seek_217 : decode c_Md_seek 217 = .ok (.iload 4, 2) := by decide +kernel
theorem d_Md_seek_219 : decode c_Md_seek 219 = .ok (.iload 5, 2) := by decide +kernel
theorem d_Md_seek_221 : decode c_Md_seek 221 = .ok (.iastore, 1) := by decide +kernel
theorem d_Md_seek_222 : decode c_Md_seek 222 = .ok (.aload_n 0, 1) := by decide +kernel
theorem d_Md_seek_223 : decode c_Md_seek 223 = .ok (.getfield 61, 3) := by decide +kernel
theorem d_Md_seek_226 : decode c_Md_seek 226 = .ok (.iload 4, 2) := by decide +kernel
theorem d_Md_seek_228 : decode c_Md_seek 228 = .ok (.iload 10, 2) := by decide +kernel
theorem d_Md_seek_230 : decode c_Md_seek 230 = .ok (.iastore, 1) := by decide +kernel
theorem d_Md_seek_231 : decode c_Md_seek 231 = .ok (.iinc 4 1, 3) := by decide +kernel
theorem d_Md_seek_234 : decode c_Md_seek 234 = .ok (.iinc 10 1, 3) := by decide +kernel
theorem d_Md_seek_237 : decode c_Md_seek 237 = .ok (.goto (-85), 3) := by decide +kernel
theorem d_Md_seek_240 : decode c_Md_seek 240 = .ok (.iinc 5 1, 3) := by decide +kernel
theorem d_Md_seek_243 : decode c_Md_seek 243 = .ok (.goto (-186), 3) := by decide +kernel
theorem d_Md_seek_246 : decode c_Md_seek 246 = .ok (.iconst (-1), 1) := by decide +kernel
theorem d_Md_seek_247 : decode c_Md_seek 247 = .ok (.ireturn, 1) := by decide +kernel
theorem d_Md_spell_0 : decode c_Md_spell 0 = .ok (.aload_n 0, 1) := by decide +kernel
theorem d_Md_spell_1 : decode c_Md_spell 1 = .ok (.iconst 0, 1) := by decide +kernel
theorem d_Md_spell_2 : decode c_Md_spell 2 = .ok (.putfield 154, 3) := by decide +kernel
theorem d_Md_spell_5 : decode c_Md_spell 5 = .ok (.iload_n 1, 1) := by decide +kernel
theorem d_Md_spell_6 : decode c_Md_spell 6 = .ok (.istore_n 2, 1) := by decide +kernel
theorem d_Md_spell_7 : decode c_Md_spell 7 = .ok (.aload_n 0, 1) := by decide +kernel
theorem d_Md_spell_8 : decode c_Md_spell 8 = .ok (.getfield 58, 3) := by decide +kernel
theorem d_Md_spell_11 : decode c_Md_spell 11 = .ok (.iload_n 2, 1) := by decide +kernel
theorem d_Md_spell_12 : decode c_Md_spell 12 = .ok (.iaload, 1) := by decide +kernel
theorem d_Md_spell_13 : decode c_Md_spell 13 = .ok (.ifCond .lt 23, 3) := by decide +kernel
theorem d_Md_spell_16 : decode c_Md_spell 16 = .ok (.aload_n 0, 1) := by decide +kernel
theorem d_Md_spell_17 : decode c_Md_spell 17 = .ok (.dup, 1) := by decide +kernel
theorem d_Md_spell_18 : decode c_Md_spell 18 = .ok (.getfield 154, 3) := by decide +kernel
theorem d_Md_spell_21 : decode c_Md_spell 21 = .ok (.iconst 1, 1) := by decide +kernel
theorem d_Md_spell_22 : decode c_Md_spell 22 = .ok (.iadd, 1) := by decide +kernel
theorem d_Md_spell_23 : decode c_Md_spell 23 = .ok (.putfield 154, 3) := by decide +kernel
theorem d_Md_spell_26 : decode c_Md_spell 26 = .ok (.aload_n 0, 1) := by decide +kernel
theorem d_Md_spell_27 : decode c_Md_spell 27 = .ok (.getfield 58, 3) := by decide +kernel
theorem d_Md_spell_30 : decode c_Md_spell 30 = .ok (.iload_n 2, 1) := by decide +kernel
theorem d_Md_spell_31 : decode c_Md_spell 31 = .ok (.iaload, 1) := by decide +kernel
theorem d_Md_spell_32 : decode c_Md_spell 32 = .ok (.istore_n 2, 1) := by decide +kernel
theorem d_Md_spell_33 : decode c_Md_spell 33 = .ok (.goto (-26), 3) := by decide +kernel
theorem d_Md_spell_36 : decode c_Md_spell 36 = .ok (.aload_n 0, 1) := by decide +kernel
theorem d_Md_spell_37 : decode c_Md_spell 37 = .ok (.getfield 154, 3) := by decide +kernel
theorem d_Md_spell_40 : decode c_Md_spell 40 = .ok (.istore_n 2, 1) := by decide +kernel
theorem d_Md_spell_41 : decode c_Md_spell 41 = .ok (.iload_n 1, 1) := by decide +kernel
theorem d_Md_spell_42 : decode c_Md_spell 42 = .ok (.istore_n 3, 1) := by decide +kernel
theorem d_Md_spell_43 : decode c_Md_spell 43 = .ok (.aload_n 0, 1) := by decide +kernel
theorem d_Md_spell_44 : decode c_Md_spell 44 = .ok (.getfield 58, 3) := by decide +kernel
theorem d_Md_spell_47 : decode c_Md_spell 47 = .ok (.iload_n 3, 1) := by decide +kernel
theorem d_Md_spell_48 : decode c_Md_spell 48 = .ok (.iaload, 1) := by decide +kernel
theorem d_Md_spell_49 : decode c_Md_spell 49 = .ok (.ifCond .lt 28, 3) := by decide +kernel
theorem d_Md_spell_52 : decode c_Md_spell 52 = .ok (.iinc 2 (-1), 3) := by decide +kernel
theorem d_Md_spell_55 : decode c_Md_spell 55 = .ok (.aload_n 0, 1) := by decide +kernel
theorem d_Md_spell_56 : decode c_Md_spell 56 = .ok (.getfield 36, 3) := by decide +kernel
theorem d_Md_spell_59 : decode c_Md_spell 59 = .ok (.iload_n 2, 1) := by decide +kernel
theorem d_Md_spell_60 : decode c_Md_spell 60 = .ok (.aload_n 0, 1) := by decide +kernel
theorem d_Md_spell_61 : decode c_Md_spell 61 = .ok (.getfield 61, 3) := by decide +kernel
theorem d_Md_spell_64 : decode c_Md_spell 64 = .ok (.iload_n 3, 1) := by decide +kernel
theorem d_Md_spell_65 : decode c_Md_spell 65 = .ok (.iaload, 1) := by decide +kernel
theorem d_Md_spell_66 : decode c_Md_spell 66 = .ok (.iastore, 1) := by decide +kernel
theorem d_Md_spell_67 : decode c_Md_spell 67 = .ok (.aload_n 0, 1) := by decide +kernel
theorem d_Md_spell_68 : decode c_Md_spell 68 = .ok (.getfield 58, 3) := by decide +kernel
theorem d_Md_spell_71 : decode c_Md_spell 71 = .ok (.iload_n 3, 1) := by decide +kernel
theorem d_Md_spell_72 : decode c_Md_spell 72 = .ok (.iaload, 1) := by decide +kernel
theorem d_Md_spell_73 : decode c_Md_spell 73 = .ok (.istore_n 3, 1) := by decide +kernel
theorem d_Md_spell_74 : decode c_Md_spell 74 = .ok (.goto (-31), 3) := by decide +kernel
theorem d_Md_spell_77 : decode c_Md_spell 77 = .ok (.return_, 1) := by decide +kernel
theorem d_Md_contains_0 : decode c_Md_contains 0 = .ok (.aload_n 0, 1) := by decide +kernel
theorem d_Md_contains_1 : decode c_Md_contains 1 = .ok (.iload_n 1, 1) := by decide +kernel
theorem d_Md_contains_2 : decode c_Md_contains 2 = .ok (.invokestatic 135, 3) := by decide +kernel
theorem d_Md_contains_5 : decode c_Md_contains 5 = .ok (.ifCond .eq 14, 3) := by decide +kernel
theorem d_Md_contains_8 : decode c_Md_contains 8 = .ok (.iload_n 2, 1) := by decide +kernel
theorem d_Md_contains_9 : decode c_Md_contains 9 = .ok (.invokestatic 135, 3) := by decide +kernel
theorem d_Md_contains_12 : decode c_Md_contains 12 = .ok (.ifCond .eq 7, 3) := by decide +kernel
theorem d_Md_contains_15 : decode c_Md_contains 15 = .ok (.iconst 1, 1) := by decide +kernel
theorem d_Md_contains_16 : decode c_Md_contains 16 = .ok (.goto 4, 3) := by decide +kernel
theorem d_Md_contains_19 : decode c_Md_contains 19 = .ok (.iconst 0, 1) := by decide +kernel
theorem d_Md_contains_20 : decode c_Md_contains 20 = .ok (.invokevirtual 142, 3) := by decide +kernel
theorem d_Md_contains_23 : decode c_Md_contains 23 = .ok (.ifCond .ne 5, 3) := by decide +kernel
theorem d_Md_contains_26 : decode c_Md_contains 26 = .ok (.iconst 0, 1) := by decide +kernel
theorem d_Md_contains_27 : decode c_Md_contains 27 = .ok (.ireturn, 1) := by decide +kernel
theorem d_Md_contains_28 : decode c_Md_contains 28 = .ok (.aload_n 0, 1) := by decide +kernel
theorem d_Md_contains_29 : decode c_Md_contains 29 = .ok (.iload_n 1, 1) := by decide +kernel
theorem d_Md_contains_30 : decode c_Md_contains 30 = .ok (.iload_n 2, 1) := by decide +kernel
theorem d_Md_contains_31 : decode c_Md_contains 31 = .ok (.iconst 2, 1) := by decide +kernel
theorem d_Md_contains_32 : decode c_Md_contains 32 = .ok (.invokevirtual 158, 3) := by decide +kernel
theorem d_Md_contains_35 : decode c_Md_contains 35 = .ok (.istore_n 3, 1) := by decide +kernel
theorem d_Md_contains_36 : decode c_Md_contains 36 = .ok (.aload_n 0, 1) := by decide +kernel
theorem d_Md_contains_37 : decode c_Md_contains 37 = .ok (.iconst 0, 1) := by decide +kernel
theorem d_Md_contains_38 : decode c_Md_contains 38 = .ok (.putfield 154, 3) := by decide +kernel
theorem d_Md_contains_41 : decode c_Md_contains 41 = .ok (.iload_n 3, 1) := by decide +kernel
theorem d_Md_contains_42 : decode c_Md_contains 42 = .ok (.ifCond .lt 8, 3) := by decide +kernel
theorem d_Md_contains_45 : decode c_Md_contains 45 = .ok (.aload_n 0, 1) := by decide +kernel
theorem d_Md_contains_46 : decode c_Md_contains 46 = .ok (.iload_n 3, 1) := by decide +kernel
theorem d_Md_contains_47 : decode c_Md_contains 47 = .ok (.invokevirtual 161, 3) := by decide +kernel
theorem d_Md_contains_50 : decode c_Md_contains 50 = .ok (.iload_n 3, 1) := by decide +kernel
theorem d_Md_contains_51 : decode c_Md_contains 51 = .ok (.ifCond .ge 7, 3) := by decide +kernel
theorem d_Md_contains_54 : decode c_Md_contains 54 = .ok (.iconst 1, 1) := by decide +kernel
theorem d_Md_contains_55 : decode c_Md_contains 55 = .ok (.goto 4, 3) := by decide +kernel
theorem d_Md_contains_58 : decode c_Md_contains 58 = .ok (.iconst 0, 1) := by decide +kernel
theorem d_Md_contains_59 : decode c_Md_contains 59 = .ok (.ireturn, 1) := by decide +kernel
theorem d_Md_least_0 : decode c_Md_least 0 = .ok (.aload_n 0, 1) := by decide +kernel
theorem d_Md_least_1 : decode c_Md_least 1 = .ok (.iload_n 1, 1) := by decide +kernel
theorem d_Md_least_2 : decode c_Md_least 2 = .ok (.invokestatic 135, 3) := by decide +kernel
theorem d_Md_least_5 : decode c_Md_least 5 = .ok (.invokevirtual 142, 3) := by decide +kernel
theorem d_Md_least_8 : decode c_Md_least 8 = .ok (.ifCond .ne 5, 3) := by decide +kernel
theorem d_Md_least_11 : decode c_Md_least 11 = .ok (.iconst 0, 1) := by decide +kernel
theorem d_Md_least_12 : decode c_Md_least 12 = .ok (.ireturn, 1) := by decide +kernel
theorem d_Md_least_13 : decode c_Md_least 13 = .ok (.aload_n 0, 1) := by decide +kernel
theorem d_Md_least_14 : decode c_Md_least 14 = .ok (.iload_n 1, 1) := by decide +kernel
theorem d_Md_least_15 : decode c_Md_least 15 = .ok (.iload_n 1, 1) := by decide +kernel
theorem d_Md_least_16 : decode c_Md_least 16 = .ok (.iconst 3, 1) := by decide +kernel
theorem d_Md_least_17 : decode c_Md_least 17 = .ok (.invokevirtual 158, 3) := by decide +kernel
theorem d_Md_least_20 : decode c_Md_least 20 = .ok (.istore_n 2, 1) := by decide +kernel
theorem d_Md_least_21 : decode c_Md_least 21 = .ok (.aload_n 0, 1) := by decide +kernel
theorem d_Md_least_22 : decode c_Md_least 22 = .ok (.iconst 0, 1) := by decide +kernel
theorem d_Md_least_23 : decode c_Md_least 23 = .ok (.putfield 154, 3) := by decide +kernel
theorem d_Md_least_26 : decode c_Md_least 26 = .ok (.iload_n 2, 1) := by decide +kernel
theorem d_Md_least_27 : decode c_Md_least 27 = .ok (.ifCond .ge 5, 3) := by decide +kernel
theorem d_Md_least_30 : decode c_Md_least 30 = .ok (.iconst (-1), 1) := by decide +kernel
theorem d_Md_least_31 : decode c_Md_least 31 = .ok (.ireturn, 1) := by decide +kernel
theorem d_Md_least_32 : decode c_Md_least 32 = .ok (.aload_n 0, 1) := by decide +kernel
theorem d_Md_least_33 : decode c_Md_least 33 = .ok (.iload_n 2, 1) := by decide +kernel
theorem d_Md_least_34 : decode c_Md_least 34 = .ok (.invokevirtual 161, 3) := by decide +kernel
theorem d_Md_least_37 : decode c_Md_least 37 = .ok (.aload_n 0, 1) := by decide +kernel
theorem d_Md_least_38 : decode c_Md_least 38 = .ok (.getfield 154, 3) := by decide +kernel
theorem d_Md_least_41 : decode c_Md_least 41 = .ok (.ireturn, 1) := by decide +kernel
theorem d_Md_count_0 : decode c_Md_count 0 = .ok (.aload_n 0, 1) := by decide +kernel
theorem d_Md_count_1 : decode c_Md_count 1 = .ok (.iload_n 1, 1) := by decide +kernel
theorem d_Md_count_2 : decode c_Md_count 2 = .ok (.invokestatic 135, 3) := by decide +kernel
theorem d_Md_count_5 : decode c_Md_count 5 = .ok (.ifCond .eq 17, 3) := by decide +kernel
theorem d_Md_count_8 : decode c_Md_count 8 = .ok (.iload_n 2, 1) := by decide +kernel
theorem d_Md_count_9 : decode c_Md_count 9 = .ok (.iconst 0, 1) := by decide +kernel
theorem d_Md_count_10 : decode c_Md_count 10 = .ok (.bipush 30, 2) := by decide +kernel
theorem d_Md_count_12 : decode c_Md_count 12 = .ok (.invokestatic 86, 3) := by decide +kernel
theorem d_Md_count_15 : decode c_Md_count 15 = .ok (.ifCond .eq 7, 3) := by decide +kernel
theorem d_Md_count_18 : decode c_Md_count 18 = .ok (.iconst 1, 1) := by decide +kernel
theorem d_Md_count_19 : decode c_Md_count 19 = .ok (.goto 4, 3) := by decide +kernel
theorem d_Md_count_22 : decode c_Md_count 22 = .ok (.iconst 0, 1) := by decide +kernel
theorem d_Md_count_23 : decode c_Md_count 23 = .ok (.invokevirtual 142, 3) := by decide +kernel
theorem d_Md_count_26 : decode c_Md_count 26 = .ok (.ifCond .ne 5, 3) := by decide +kernel
theorem d_Md_count_29 : decode c_Md_count 29 = .ok (.lconst 0, 1) := by decide +kernel
theorem d_Md_count_30 : decode c_Md_count 30 = .ok (.lreturn, 1) := by decide +kernel
theorem d_Md_count_31 : decode c_Md_count 31 = .ok (.aload_n 0, 1) := by decide +kernel
theorem d_Md_count_32 : decode c_Md_count 32 = .ok (.iload_n 1, 1) := by decide +kernel
theorem d_Md_count_33 : decode c_Md_count 33 = .ok (.iload_n 2, 1) := by decide +kernel
theorem d_Md_count_34 : decode c_Md_count 34 = .ok (.invokevirtual 165, 3) := by decide +kernel
theorem d_Md_count_37 : decode c_Md_count 37 = .ok (.aload_n 0, 1) := by decide +kernel
theorem d_Md_count_38 : decode c_Md_count 38 = .ok (.getfield 67, 3) := by decide +kernel
theorem d_Md_count_41 : decode c_Md_count 41 = .ok (.iload_n 2, 1) := by decide +kernel
theorem d_Md_count_42 : decode c_Md_count 42 = .ok (.sipush 257, 3) := by decide +kernel
theorem d_Md_count_45 : decode c_Md_count 45 = .ok (.imul, 1) := by decide +kernel
theorem d_Md_count_46 : decode c_Md_count 46 = .ok (.sipush 256, 3) := by decide +kernel
theorem d_Md_count_49 : decode c_Md_count 49 = .ok (.iadd, 1) := by decide +kernel
theorem d_Md_count_50 : decode c_Md_count 50 = .ok (.laload, 1) := by decide +kernel
theorem d_Md_count_51 : decode c_Md_count 51 = .ok (.lreturn, 1) := by decide +kernel
theorem d_Md_reckon_0 : decode c_Md_reckon 0 = .ok (.iconst 0, 1) := by decide +kernel
theorem d_Md_reckon_1 : decode c_Md_reckon 1 = .ok (.istore_n 3, 1) := by decide +kernel
theorem d_Md_reckon_2 : decode c_Md_reckon 2 = .ok (.iload_n 3, 1) := by decide +kernel
theorem d_Md_reckon_3 : decode c_Md_reckon 3 = .ok (.iload_n 2, 1) := by decide +kernel
theorem d_Md_reckon_4 : decode c_Md_reckon 4 = .ok (.if_icmp .gt 108, 3) := by decide +kernel
theorem d_Md_reckon_7 : decode c_Md_reckon 7 = .ok (.iconst 0, 1) := by decide +kernel
theorem d_Md_reckon_8 : decode c_Md_reckon 8 = .ok (.istore 4, 2) := by decide +kernel
theorem d_Md_reckon_10 : decode c_Md_reckon 10 = .ok (.iload 4, 2) := by decide +kernel
theorem d_Md_reckon_12 : decode c_Md_reckon 12 = .ok (.sipush 257, 3) := by decide +kernel
theorem d_Md_reckon_15 : decode c_Md_reckon 15 = .ok (.if_icmp .ge 91, 3) := by decide +kernel
theorem d_Md_reckon_18 : decode c_Md_reckon 18 = .ok (.iload_n 3, 1) := by decide +kernel
theorem d_Md_reckon_19 : decode c_Md_reckon 19 = .ok (.ifCond .ne 17, 3) := by decide +kernel
theorem d_Md_reckon_22 : decode c_Md_reckon 22 = .ok (.aload_n 0, 1) := by decide +kernel
theorem d_Md_reckon_23 : decode c_Md_reckon 23 = .ok (.iload_n 1, 1) := by decide +kernel
theorem d_Md_reckon_24 : decode c_Md_reckon 24 = .ok (.iload 4, 2) := by decide +kernel
theorem d_Md_reckon_26 : decode c_Md_reckon 26 = .ok (.invokevirtual 150, 3) := by decide +kernel
theorem d_Md_reckon_29 : decode c_Md_reckon 29 = .ok (.ifCond .eq 7, 3) := by decide +kernel
theorem d_Md_reckon_32 : decode c_Md_reckon 32 = .ok (.lconst 1, 1) := by decide +kernel
theorem d_Md_reckon_33 : decode c_Md_reckon 33 = .ok (.goto 4, 3) := by decide +kernel
theorem d_Md_reckon_36 : decode c_Md_reckon 36 = .ok (.lconst 0, 1) := by decide +kernel
theorem d_Md_reckon_37 : decode c_Md_reckon 37 = .ok (.lstore 5, 2) := by decide +kernel
theorem d_Md_reckon_39 : decode c_Md_reckon 39 = .ok (.iconst 0, 1) := by decide +kernel
theorem d_Md_reckon_40 : decode c_Md_reckon 40 = .ok (.istore 7, 2) := by decide +kernel
theorem d_Md_reckon_42 : decode c_Md_reckon 42 = .ok (.iload 7, 2) := by decide +kernel
theorem d_Md_reckon_44 : decode c_Md_reckon 44 = .ok (.iconst 4, 1) := by decide +kernel
theorem d_Md_reckon_45 : decode c_Md_reckon 45 = .ok (.if_icmp .ge 40, 3) := by decide +kernel
theorem d_Md_reckon_48 : decode c_Md_reckon 48 = .ok (.iload_n 3, 1) := by decide +kernel
theorem d_Md_reckon_49 : decode c_Md_reckon 49 = .ok (.ifCond .le 36, 3) := by decide +kernel
theorem d_Md_reckon_52 : decode c_Md_reckon 52 = .ok (.lload 5, 2) := by decide +kernel
theorem d_Md_reckon_54 : decode c_Md_reckon 54 = .ok (.aload_n 0, 1) := by decide +kernel
theorem d_Md_reckon_55 : decode c_Md_reckon 55 = .ok (.getfield 67, 3) := by decide +kernel
theorem d_Md_reckon_58 : decode c_Md_reckon 58 = .ok (.iload_n 3, 1) := by decide +kernel
theorem d_Md_reckon_59 : decode c_Md_reckon 59 = .ok (.iconst 1, 1) := by decide +kernel
theorem d_Md_reckon_60 : decode c_Md_reckon 60 = .ok (.isub, 1) := by decide +kernel
theorem d_Md_reckon_61 : decode c_Md_reckon 61 = .ok (.sipush 257, 3) := by decide +kernel
theorem d_Md_reckon_64 : decode c_Md_reckon 64 = .ok (.imul, 1) := by decide +kernel
theorem d_Md_reckon_65 : decode c_Md_reckon 65 = .ok (.aload_n 0, 1) := by decide +kernel
theorem d_Md_reckon_66 : decode c_Md_reckon 66 = .ok (.iload_n 1, 1) := by decide +kernel
theorem d_Md_reckon_67 : decode c_Md_reckon 67 = .ok (.iload 4, 2) := by decide +kernel
theorem d_Md_reckon_69 : decode c_Md_reckon 69 = .ok (.iload 7, 2) := by decide +kernel
theorem d_Md_reckon_71 : decode c_Md_reckon 71 = .ok (.invokevirtual 146, 3) := by decide +kernel
theorem d_Md_reckon_74 : decode c_Md_reckon 74 = .ok (.iadd, 1) := by decide +kernel
theorem d_Md_reckon_75 : decode c_Md_reckon 75 = .ok (.laload, 1) := by decide +kernel
theorem d_Md_reckon_76 : decode c_Md_reckon 76 = .ok (.ladd, 1) := by decide +kernel
theorem d_Md_reckon_77 : decode c_Md_reckon 77 = .ok (.lstore 5, 2) := by decide +kernel
theorem d_Md_reckon_79 : decode c_Md_reckon 79 = .ok (.iinc 7 1, 3) := by decide +kernel
theorem d_Md_reckon_82 : decode c_Md_reckon 82 = .ok (.goto (-40), 3) := by decide +kernel
theorem d_Md_reckon_85 : decode c_Md_reckon 85 = .ok (.aload_n 0, 1) := by decide +kernel
theorem d_Md_reckon_86 : decode c_Md_reckon 86 = .ok (.getfield 67, 3) := by decide +kernel
theorem d_Md_reckon_89 : decode c_Md_reckon 89 = .ok (.iload_n 3, 1) := by decide +kernel
theorem d_Md_reckon_90 : decode c_Md_reckon 90 = .ok (.sipush 257, 3) := by decide +kernel
theorem d_Md_reckon_93 : decode c_Md_reckon 93 = .ok (.imul, 1) := by decide +kernel
theorem d_Md_reckon_94 : decode c_Md_reckon 94 = .ok (.iload 4, 2) := by decide +kernel
theorem d_Md_reckon_96 : decode c_Md_reckon 96 = .ok (.iadd, 1) := by decide +kernel
theorem d_Md_reckon_97 : decode c_Md_reckon 97 = .ok (.lload 5, 2) := by decide +kernel
theorem d_Md_reckon_99 : decode c_Md_reckon 99 = .ok (.lastore, 1) := by decide +kernel
theorem d_Md_reckon_100 : decode c_Md_reckon 100 = .ok (.iinc 4 1, 3) := by decide +kernel
theorem d_Md_reckon_103 : decode c_Md_reckon 103 = .ok (.goto (-93), 3) := by decide +kernel
theorem d_Md_reckon_106 : decode c_Md_reckon 106 = .ok (.iinc 3 1, 3) := by decide +kernel
theorem d_Md_reckon_109 : decode c_Md_reckon 109 = .ok (.goto (-107), 3) := by decide +kernel
theorem d_Md_reckon_112 : decode c_Md_reckon 112 = .ok (.return_, 1) := by decide +kernel
theorem d_Md_word_0 : decode c_Md_word 0 = .ok (.aload_n 0, 1) := by decide +kernel
theorem d_Md_word_1 : decode c_Md_word 1 = .ok (.iload_n 1, 1) := by decide +kernel
theorem d_Md_word_2 : decode c_Md_word 2 = .ok (.invokestatic 135, 3) := by decide +kernel
theorem d_Md_word_5 : decode c_Md_word 5 = .ok (.ifCond .eq 23, 3) := by decide +kernel
theorem d_Md_word_8 : decode c_Md_word 8 = .ok (.iload_n 2, 1) := by decide +kernel
theorem d_Md_word_9 : decode c_Md_word 9 = .ok (.iconst 0, 1) := by decide +kernel
theorem d_Md_word_10 : decode c_Md_word 10 = .ok (.bipush 30, 2) := by decide +kernel
theorem d_Md_word_12 : decode c_Md_word 12 = .ok (.invokestatic 86, 3) := by decide +kernel
theorem d_Md_word_15 : decode c_Md_word 15 = .ok (.ifCond .eq 13, 3) := by decide +kernel
theorem d_Md_word_18 : decode c_Md_word 18 = .ok (.lload_n 3, 1) := by decide +kernel
theorem d_Md_word_19 : decode c_Md_word 19 = .ok (.lconst 0, 1) := by decide +kernel
theorem d_Md_word_20 : decode c_Md_word 20 = .ok (.lcmp, 1) := by decide +kernel
theorem d_Md_word_21 : decode c_Md_word 21 = .ok (.ifCond .lt 7, 3) := by decide +kernel
theorem d_Md_word_24 : decode c_Md_word 24 = .ok (.iconst 1, 1) := by decide +kernel
theorem d_Md_word_25 : decode c_Md_word 25 = .ok (.goto 4, 3) := by decide +kernel
theorem d_Md_word_28 : decode c_Md_word 28 = .ok (.iconst 0, 1) := by decide +kernel
theorem d_Md_word_29 : decode c_Md_word 29 = .ok (.invokevirtual 142, 3) := by decide +kernel
theorem d_Md_word_32 : decode c_Md_word 32 = .ok (.ifCond .ne 5, 3) := by decide +kernel
theorem d_Md_word_35 : decode c_Md_word 35 = .ok (.iconst 0, 1) := by decide +kernel
theorem d_Md_word_36 : decode c_Md_word 36 = .ok (.ireturn, 1) := by decide +kernel
theorem d_Md_word_37 : decode c_Md_word 37 = .ok (.aload_n 0, 1) := by decide +kernel
theorem d_Md_word_38 : decode c_Md_word 38 = .ok (.iload_n 1, 1) := by decide +kernel
theorem d_Md_word_39 : decode c_Md_word 39 = .ok (.iload_n 2, 1) := by decide +kernel
theorem d_Md_word_40 : decode c_Md_word 40 = .ok (.invokevirtual 165, 3) := by decide +kernel
theorem d_Md_word_43 : decode c_Md_word 43 = .ok (.aload_n 0, 1) := by decide +kernel
theorem d_Md_word_44 : decode c_Md_word 44 = .ok (.iconst 0, 1) := by decide +kernel
theorem d_Md_word_45 : decode c_Md_word 45 = .ok (.putfield 154, 3) := by decide +kernel
theorem d_Md_word_48 : decode c_Md_word 48 = .ok (.lload_n 3, 1) := by decide +kernel
theorem d_Md_word_49 : decode c_Md_word 49 = .ok (.lstore 5, 2) := by decide +kernel
theorem d_Md_word_51 : decode c_Md_word 51 = .ok (.lload 5, 2) := by decide +kernel
theorem d_Md_word_53 : decode c_Md_word 53 = .ok (.aload_n 0, 1) := by decide +kernel
theorem d_Md_word_54 : decode c_Md_word 54 = .ok (.getfield 67, 3) := by decide +kernel
theorem d_Md_word_57 : decode c_Md_word 57 = .ok (.iload_n 2, 1) := by decide +kernel
theorem d_Md_word_58 : decode c_Md_word 58 = .ok (.sipush 257, 3) := by decide +kernel
theorem d_Md_word_61 : decode c_Md_word 61 = .ok (.imul, 1) := by decide +kernel
theorem d_Md_word_62 : decode c_Md_word 62 = .ok (.sipush 256, 3) := by decide +kernel
theorem d_Md_word_65 : decode c_Md_word 65 = .ok (.iadd, 1) := by decide +kernel
theorem d_Md_word_66 : decode c_Md_word 66 = .ok (.laload, 1) := by decide +kernel
theorem d_Md_word_67 : decode c_Md_word 67 = .ok (.lcmp, 1) := by decide +kernel
theorem d_Md_word_68 : decode c_Md_word 68 = .ok (.ifCond .lt 5, 3) := by decide +kernel
theorem d_Md_word_71 : decode c_Md_word 71 = .ok (.iconst 0, 1) := by decide +kernel
theorem d_Md_word_72 : decode c_Md_word 72 = .ok (.ireturn, 1) := by decide +kernel
theorem d_Md_word_73 : decode c_Md_word 73 = .ok (.sipush 256, 3) := by decide +kernel
theorem d_Md_word_76 : decode c_Md_word 76 = .ok (.istore 7, 2) := by decide +kernel
theorem d_Md_word_78 : decode c_Md_word 78 = .ok (.iload_n 2, 1) := by decide +kernel
theorem d_Md_word_79 : decode c_Md_word 79 = .ok (.iconst 1, 1) := by decide +kernel
theorem d_Md_word_80 : decode c_Md_word 80 = .ok (.isub, 1) := by decide +kernel
theorem d_Md_word_81 : decode c_Md_word 81 = .ok (.istore 8, 2) := by decide +kernel
theorem d_Md_word_83 : decode c_Md_word 83 = .ok (.iload 8, 2) := by decide +kernel
theorem d_Md_word_85 : decode c_Md_word 85 = .ok (.ifCond .lt 103, 3) := by decide +kernel
theorem d_Md_word_88 : decode c_Md_word 88 = .ok (.iconst 0, 1) := by decide +kernel
theorem d_Md_word_89 : decode c_Md_word 89 = .ok (.istore 9, 2) := by decide +kernel
theorem d_Md_word_91 : decode c_Md_word 91 = .ok (.lload 5, 2) := by decide +kernel
theorem d_Md_word_93 : decode c_Md_word 93 = .ok (.aload_n 0, 1) := by decide +kernel
theorem d_Md_word_94 : decode c_Md_word 94 = .ok (.getfield 67, 3) := by decide +kernel
theorem d_Md_word_97 : decode c_Md_word 97 = .ok (.iload 8, 2) := by decide +kernel
theorem d_Md_word_99 : decode c_Md_word 99 = .ok (.sipush 257, 3) := by decide +kernel
theorem d_Md_word_102 : decode c_Md_word 102 = .ok (.imul, 1) := by decide +kernel
theorem d_Md_word_103 : decode c_Md_word 103 = .ok (.aload_n 0, 1) := by decide +kernel
theorem d_Md_word_104 : decode c_Md_word 104 = .ok (.iload_n 1, 1) := by decide +kernel
theorem d_Md_word_105 : decode c_Md_word 105 = .ok (.iload 7, 2) := by decide +kernel
theorem d_Md_word_107 : decode c_Md_word 107 = .ok (.iload 9, 2) := by decide +kernel
theorem d_Md_word_109 : decode c_Md_word 109 = .ok (.invokevirtual 146, 3) := by decide +kernel
theorem d_Md_word_112 : decode c_Md_word 112 = .ok (.iadd, 1) := by decide +kernel
theorem d_Md_word_113 : decode c_Md_word 113 = .ok (.laload, 1) := by decide +kernel
theorem d_Md_word_114 : decode c_Md_word 114 = .ok (.lcmp, 1) := by decide +kernel
theorem d_Md_word_115 : decode c_Md_word 115 = .ok (.ifCond .lt 35, 3) := by decide +kernel
theorem d_Md_word_118 : decode c_Md_word 118 = .ok (.lload 5, 2) := by decide +kernel
theorem d_Md_word_120 : decode c_Md_word 120 = .ok (.aload_n 0, 1) := by decide +kernel
theorem d_Md_word_121 : decode c_Md_word 121 = .ok (.getfield 67, 3) := by decide +kernel
theorem d_Md_word_124 : decode c_Md_word 124 = .ok (.iload 8, 2) := by decide +kernel
theorem d_Md_word_126 : decode c_Md_word 126 = .ok (.sipush 257, 3) := by decide +kernel
theorem d_Md_word_129 : decode c_Md_word 129 = .ok (.imul, 1) := by decide +kernel
theorem d_Md_word_130 : decode c_Md_word 130 = .ok (.aload_n 0, 1) := by decide +kernel
theorem d_Md_word_131 : decode c_Md_word 131 = .ok (.iload_n 1, 1) := by decide +kernel
theorem d_Md_word_132 : decode c_Md_word 132 = .ok (.iload 7, 2) := by decide +kernel
theorem d_Md_word_134 : decode c_Md_word 134 = .ok (.iload 9, 2) := by decide +kernel
theorem d_Md_word_136 : decode c_Md_word 136 = .ok (.invokevirtual 146, 3) := by decide +kernel
theorem d_Md_word_139 : decode c_Md_word 139 = .ok (.iadd, 1) := by decide +kernel
theorem d_Md_word_140 : decode c_Md_word 140 = .ok (.laload, 1) := by decide +kernel
theorem d_Md_word_141 : decode c_Md_word 141 = .ok (.lsub, 1) := by decide +kernel
theorem d_Md_word_142 : decode c_Md_word 142 = .ok (.lstore 5, 2) := by decide +kernel
theorem d_Md_word_144 : decode c_Md_word 144 = .ok (.iinc 9 1, 3) := by decide +kernel
theorem d_Md_word_147 : decode c_Md_word 147 = .ok (.goto (-56), 3) := by decide +kernel
theorem d_Md_word_150 : decode c_Md_word 150 = .ok (.aload_n 0, 1) := by decide +kernel
theorem d_Md_word_151 : decode c_Md_word 151 = .ok (.iload_n 1, 1) := by decide +kernel
theorem d_Md_word_152 : decode c_Md_word 152 = .ok (.iload 7, 2) := by decide +kernel
theorem d_Md_word_154 : decode c_Md_word 154 = .ok (.iload 9, 2) := by decide +kernel
theorem d_Md_word_156 : decode c_Md_word 156 = .ok (.invokevirtual 146, 3) := by decide +kernel
theorem d_Md_word_159 : decode c_Md_word 159 = .ok (.istore 7, 2) := by decide +kernel
theorem d_Md_word_161 : decode c_Md_word 161 = .ok (.aload_n 0, 1) := by decide +kernel
theorem d_Md_word_162 : decode c_Md_word 162 = .ok (.getfield 36, 3) := by decide +kernel
theorem d_Md_word_165 : decode c_Md_word 165 = .ok (.aload_n 0, 1) := by decide +kernel
theorem d_Md_word_166 : decode c_Md_word 166 = .ok (.getfield 154, 3) := by decide +kernel
theorem d_Md_word_169 : decode c_Md_word 169 = .ok (.iload 9, 2) := by decide +kernel
theorem d_Md_word_171 : decode c_Md_word 171 = .ok (.iastore, 1) := by decide +kernel
theorem d_Md_word_172 : decode c_Md_word 172 = .ok (.aload_n 0, 1) := by decide +kernel
theorem d_Md_word_173 : decode c_Md_word 173 = .ok (.dup, 1) := by decide +kernel
theorem d_Md_word_174 : decode c_Md_word 174 = .ok (.getfield 154, 3) := by decide +kernel
theorem d_Md_word_177 : decode c_Md_word 177 = .ok (.iconst 1, 1) := by decide +kernel
theorem d_Md_word_178 : decode c_Md_word 178 = .ok (.iadd, 1) := by decide +kernel
theorem d_Md_word_179 : decode c_Md_word 179 = .ok (.putfield 154, 3) := by decide +kernel
theorem d_Md_word_182 : decode c_Md_word 182 = .ok (.iinc 8 (-1), 3) := by decide +kernel
theorem d_Md_word_185 : decode c_Md_word 185 = .ok (.goto (-102), 3) := by decide +kernel
theorem d_Md_word_188 : decode c_Md_word 188 = .ok (.iconst 1, 1) := by decide +kernel
theorem d_Md_word_189 : decode c_Md_word 189 = .ok (.ireturn, 1) := by decide +kernel
theorem d_Md_states_0 : decode c_Md_states 0 = .ok (.aload_n 0, 1) := by decide +kernel
theorem d_Md_states_1 : decode c_Md_states 1 = .ok (.iload_n 1, 1) := by decide +kernel
theorem d_Md_states_2 : decode c_Md_states 2 = .ok (.invokestatic 135, 3) := by decide +kernel
theorem d_Md_states_5 : decode c_Md_states 5 = .ok (.invokevirtual 142, 3) := by decide +kernel
theorem d_Md_states_8 : decode c_Md_states 8 = .ok (.ifCond .ne 5, 3) := by decide +kernel
theorem d_Md_states_11 : decode c_Md_states 11 = .ok (.iconst 0, 1) := by decide +kernel
theorem d_Md_states_12 : decode c_Md_states 12 = .ok (.ireturn, 1) := by decide +kernel
theorem d_Md_states_13 : decode c_Md_states 13 = .ok (.iconst 0, 1) := by decide +kernel
theorem d_Md_states_14 : decode c_Md_states 14 = .ok (.istore_n 2, 1) := by decide +kernel
theorem d_Md_states_15 : decode c_Md_states 15 = .ok (.iload_n 2, 1) := by decide +kernel
theorem d_Md_states_16 : decode c_Md_states 16 = .ok (.sipush 257, 3) := by decide +kernel
theorem d_Md_states_19 : decode c_Md_states 19 = .ok (.if_icmp .ge 16, 3) := by decide +kernel
theorem d_Md_states_22 : decode c_Md_states 22 = .ok (.aload_n 0, 1) := by decide +kernel
theorem d_Md_states_23 : decode c_Md_states 23 = .ok (.getfield 64, 3) := by decide +kernel
theorem d_Md_states_26 : decode c_Md_states 26 = .ok (.iload_n 2, 1) := by decide +kernel
theorem d_Md_states_27 : decode c_Md_states 27 = .ok (.iconst 0, 1) := by decide +kernel
theorem d_Md_states_28 : decode c_Md_states 28 = .ok (.bastore, 1) := by decide +kernel
theorem d_Md_states_29 : decode c_Md_states 29 = .ok (.iinc 2 1, 3) := by decide +kernel
theorem d_Md_states_32 : decode c_Md_states 32 = .ok (.goto (-17), 3) := by decide +kernel
theorem d_Md_states_35 : decode c_Md_states 35 = .ok (.iconst 1, 1) := by decide +kernel
theorem d_Md_states_36 : decode c_Md_states 36 = .ok (.istore_n 2, 1) := by decide +kernel
theorem d_Md_states_37 : decode c_Md_states 37 = .ok (.aload_n 0, 1) := by decide +kernel
theorem d_Md_states_38 : decode c_Md_states 38 = .ok (.getfield 55, 3) := by decide +kernel
theorem d_Md_states_41 : decode c_Md_states 41 = .ok (.iconst 0, 1) := by decide +kernel
theorem d_Md_states_42 : decode c_Md_states 42 = .ok (.sipush 256, 3) := by decide +kernel
theorem d_Md_states_45 : decode c_Md_states 45 = .ok (.iastore, 1) := by decide +kernel
theorem d_Md_states_46 : decode c_Md_states 46 = .ok (.aload_n 0, 1) := by decide +kernel
theorem d_Md_states_47 : decode c_Md_states 47 = .ok (.getfield 64, 3) := by decide +kernel
theorem d_Md_states_50 : decode c_Md_states 50 = .ok (.sipush 256, 3) := by decide +kernel
theorem d_Md_states_53 : decode c_Md_states 53 = .ok (.iconst 1, 1) := by decide +kernel
theorem d_Md_states_54 : decode c_Md_states 54 = .ok (.bastore, 1) := by decide +kernel
theorem d_Md_states_55 : decode c_Md_states 55 = .ok (.iconst 0, 1) := by decide +kernel
theorem d_Md_states_56 : decode c_Md_states 56 = .ok (.istore_n 3, 1) := by decide +kernel
theorem d_Md_states_57 : decode c_Md_states 57 = .ok (.iload_n 3, 1) := by decide +kernel
theorem d_Md_states_58 : decode c_Md_states 58 = .ok (.iload_n 2, 1) := by decide +kernel
theorem d_Md_states_59 : decode c_Md_states 59 = .ok (.if_icmp .ge 71, 3) := by decide +kernel
theorem d_Md_states_62 : decode c_Md_states 62 = .ok (.iconst 0, 1) := by decide +kernel
theorem d_Md_states_63 : decode c_Md_states 63 = .ok (.istore 4, 2) := by decide +kernel
theorem d_Md_states_65 : decode c_Md_states 65 = .ok (.iload 4, 2) := by decide +kernel
theorem d_Md_states_67 : decode c_Md_states 67 = .ok (.iconst 4, 1) := by decide +kernel
theorem d_Md_states_68 : decode c_Md_states 68 = .ok (.if_icmp .ge 56, 3) := by decide +kernel
theorem d_Md_states_71 : decode c_Md_states 71 = .ok (.aload_n 0, 1) := by decide +kernel
theorem d_Md_states_72 : decode c_Md_states 72 = .ok (.iload_n 1, 1) := by decide +kernel
theorem d_Md_states_73 : decode c_Md_states 73 = .ok (.aload_n 0, 1) := by decide +kernel
theorem d_Md_states_74 : decode c_Md_states 74 = .ok (.getfield 55, 3) := by decide +kernel
theorem d_Md_states_77 : decode c_Md_states 77 = .ok (.iload_n 3, 1) := by decide +kernel
theorem d_Md_states_78 : decode c_Md_states 78 = .ok (.iaload, 1) := by decide +kernel
theorem d_Md_states_79 : decode c_Md_states 79 = .ok (.iload 4, 2) := by decide +kernel
theorem d_Md_states_81 : decode c_Md_states 81 = .ok (.invokevirtual 146, 3) := by decide +kernel
theorem d_Md_states_84 : decode c_Md_states 84 = .ok (.istore 5, 2) := by decide +kernel
theorem d_Md_states_86 : decode c_Md_states 86 = .ok (.aload_n 0, 1) := by decide +kernel
theorem d_Md_states_87 : decode c_Md_states 87 = .ok (.getfield 64, 3) := by decide +kernel
theorem d_Md_states_90 : decode c_Md_states 90 = .ok (.iload 5, 2) := by decide +kernel
theorem d_Md_states_92 : decode c_Md_states 92 = .ok (.baload, 1) := by decide +kernel
theorem d_Md_states_93 : decode c_Md_states 93 = .ok (.ifCond .eq 6, 3) := by decide +kernel
theorem d_Md_states_96 : decode c_Md_states 96 = .ok (.goto 22, 3) := by decide +kernel
theorem d_Md_states_99 : decode c_Md_states 99 = .ok (.aload_n 0, 1) := by decide +kernel
theorem d_Md_states_100 : decode c_Md_states 100 = .ok (.getfield 64, 3) := by decide +kernel
theorem d_Md_states_103 : decode c_Md_states 103 = .ok (.iload 5, 2) := by decide +kernel
theorem d_Md_states_105 : decode c_Md_states 105 = .ok (.iconst 1, 1) := by decide +kernel
theorem d_Md_states_106 : decode c_Md_states 106 = .ok (.bastore, 1) := by decide +kernel
theorem d_Md_states_107 : decode c_Md_states 107 = .ok (.aload_n 0, 1) := by decide +kernel
theorem d_Md_states_108 : decode c_Md_states 108 = .ok (.getfield 55, 3) := by decide +kernel
theorem d_Md_states_111 : decode c_Md_states 111 = .ok (.iload_n 2, 1) := by decide +kernel
theorem d_Md_states_112 : decode c_Md_states 112 = .ok (.iload 5, 2) := by decide +kernel
theorem d_Md_states_114 : decode c_Md_states 114 = .ok (.iastore, 1) := by decide +kernel
theorem d_Md_states_115 : decode c_Md_states 115 = .ok (.iinc 2 1, 3) := by decide +kernel
theorem d_Md_states_118 : decode c_Md_states 118 = .ok (.iinc 4 1, 3) := by decide +kernel
theorem d_Md_states_121 : decode c_Md_states 121 = .ok (.goto (-56), 3) := by decide +kernel
theorem d_Md_states_124 : decode c_Md_states 124 = .ok (.iinc 3 1, 3) := by decide +kernel
theorem d_Md_states_127 : decode c_Md_states 127 = .ok (.goto (-70), 3) := by decide +kernel
theorem d_Md_states_130 : decode c_Md_states 130 = .ok (.iconst 0, 1) := by decide +kernel
theorem d_Md_states_131 : decode c_Md_states 131 = .ok (.istore_n 3, 1) := by decide +kernel
theorem d_Md_states_132 : decode c_Md_states 132 = .ok (.iload_n 3, 1) := by decide +kernel
theorem d_Md_states_133 : decode c_Md_states 133 = .ok (.iload_n 2, 1) := by decide +kernel
theorem d_Md_states_134 : decode c_Md_states 134 = .ok (.if_icmp .ge 39, 3) := by decide +kernel
theorem d_Md_states_137 : decode c_Md_states 137 = .ok (.aload_n 0, 1) := by decide +kernel
theorem d_Md_states_138 : decode c_Md_states 138 = .ok (.getfield 71, 3) := by decide +kernel
theorem d_Md_states_141 : decode c_Md_states 141 = .ok (.aload_n 0, 1) := by decide +kernel
theorem d_Md_states_142 : decode c_Md_states 142 = .ok (.getfield 55, 3) := by decide +kernel
theorem d_Md_states_145 : decode c_Md_states 145 = .ok (.iload_n 3, 1) := by decide +kernel
theorem d_Md_states_146 : decode c_Md_states 146 = .ok (.iaload, 1) := by decide +kernel
theorem d_Md_states_147 : decode c_Md_states 147 = .ok (.aload_n 0, 1) := by decide +kernel
theorem d_Md_states_148 : decode c_Md_states 148 = .ok (.iload_n 1, 1) := by decide +kernel
theorem d_Md_states_149 : decode c_Md_states 149 = .ok (.aload_n 0, 1) := by decide +kernel
theorem d_Md_states_150 : decode c_Md_states 150 = .ok (.getfield 55, 3) := by decide +kernel
theorem d_Md_states_153 : decode c_Md_states 153 = .ok (.iload_n 3, 1) := by decide +kernel
theorem d_Md_states_154 : decode c_Md_states 154 = .ok (.iaload, 1) := by decide +kernel
theorem d_Md_states_155 : decode c_Md_states 155 = .ok (.invokevirtual 150, 3) := by decide +kernel
theorem d_Md_states_158 : decode c_Md_states 158 = .ok (.ifCond .eq 7, 3) := by decide +kernel
theorem d_Md_states_161 : decode c_Md_states 161 = .ok (.iconst 1, 1) := by decide +kernel
theorem d_Md_states_162 : decode c_Md_states 162 = .ok (.goto 4, 3) := by decide +kernel
theorem d_Md_states_165 : decode c_Md_states 165 = .ok (.iconst 0, 1) := by decide +kernel
theorem d_Md_states_166 : decode c_Md_states 166 = .ok (.iastore, 1) := by decide +kernel
theorem d_Md_states_167 : decode c_Md_states 167 = .ok (.iinc 3 1, 3) := by decide +kernel
theorem d_Md_states_170 : decode c_Md_states 170 = .ok (.goto (-38), 3) := by decide +kernel
theorem d_Md_states_173 : decode c_Md_states 173 = .ok (.iconst 0, 1) := by decide +kernel
theorem d_Md_states_174 : decode c_Md_states 174 = .ok (.istore_n 3, 1) := by decide +kernel
theorem d_Md_states_175 : decode c_Md_states 175 = .ok (.aload_n 0, 1) := by decide +kernel
theorem d_Md_states_176 : decode c_Md_states 176 = .ok (.iload_n 1, 1) := by decide +kernel
theorem d_Md_states_177 : decode c_Md_states 177 = .ok (.iload_n 2, 1) := by decide +kernel
theorem d_Md_states_178 : decode c_Md_states 178 = .ok (.invokevirtual 168, 3) := by decide +kernel
theorem d_Md_states_181 : decode c_Md_states 181 = .ok (.istore 4, 2) := by decide +kernel
theorem d_Md_states_183 : decode c_Md_states 183 = .ok (.iload 4, 2) := by decide +kernel
theorem d_Md_states_185 : decode c_Md_states 185 = .ok (.iload_n 3, 1) := by decide +kernel
theorem d_Md_states_186 : decode c_Md_states 186 = .ok (.if_icmp .eq 17, 3) := by decide +kernel
theorem d_Md_states_189 : decode c_Md_states 189 = .ok (.iload 4, 2) := by decide +kernel
theorem d_Md_states_191 : decode c_Md_states 191 = .ok (.istore_n 3, 1) := by decide +kernel
theorem d_Md_states_192 : decode c_Md_states 192 = .ok (.aload_n 0, 1) := by decide +kernel
theorem d_Md_states_193 : decode c_Md_states 193 = .ok (.iload_n 1, 1) := by decide +kernel
theorem d_Md_states_194 : decode c_Md_states 194 = .ok (.iload_n 2, 1) := by decide +kernel
theorem d_Md_states_195 : decode c_Md_states 195 = .ok (.invokevirtual 168, 3) := by decide +kernel
theorem d_Md_states_198 : decode c_Md_states 198 = .ok (.istore 4, 2) := by decide +kernel
theorem d_Md_states_200 : decode c_Md_states 200 = .ok (.goto (-17), 3) := by decide +kernel
theorem d_Md_states_203 : decode c_Md_states 203 = .ok (.iload 4, 2) := by decide +kernel
theorem d_Md_states_205 : decode c_Md_states 205 = .ok (.ireturn, 1) := by decide +kernel
theorem d_Md_split_0 : decode c_Md_split 0 = .ok (.iconst 0, 1) := by decide +kernel
theorem d_Md_split_1 : decode c_Md_split 1 = .ok (.istore_n 3, 1) := by decide +kernel
theorem d_Md_split_2 : decode c_Md_split 2 = .ok (.iconst 0, 1) := by decide +kernel
theorem d_Md_split_3 : decode c_Md_split 3 = .ok (.istore 4, 2) := by decide +kernel
theorem d_Md_split_5 : decode c_Md_split 5 = .ok (.iload 4, 2) := by decide +kernel
theorem d_Md_split_7 : decode c_Md_split 7 = .ok (.iload_n 2, 1) := by decide +kernel
theorem d_Md_split_8 : decode c_Md_split 8 = .ok (.if_icmp .ge 183, 3) := by decide +kernel
theorem d_Md_split_11 : decode c_Md_split 11 = .ok (.aload_n 0, 1) := by decide +kernel
theorem d_Md_split_12 : decode c_Md_split 12 = .ok (.getfield 55, 3) := by decide +kernel
theorem d_Md_split_15 : decode c_Md_split 15 = .ok (.iload 4, 2) := by decide +kernel
theorem d_Md_split_17 : decode c_Md_split 17 = .ok (.iaload, 1) := by decide +kernel
theorem d_Md_split_18 : decode c_Md_split 18 = .ok (.istore 5, 2) := by decide +kernel
theorem d_Md_split_20 : decode c_Md_split 20 = .ok (.aload_n 0, 1) := by decide +kernel
theorem d_Md_split_21 : decode c_Md_split 21 = .ok (.getfield 74, 3) := by decide +kernel
theorem d_Md_split_24 : decode c_Md_split 24 = .ok (.iload 5, 2) := by decide +kernel
theorem d_Md_split_26 : decode c_Md_split 26 = .ok (.iconst (-1), 1) := by decide +kernel
theorem d_Md_split_27 : decode c_Md_split 27 = .ok (.iastore, 1) := by decide +kernel
theorem d_Md_split_28 : decode c_Md_split 28 = .ok (.iconst 0, 1) := by decide +kernel
theorem d_Md_split_29 : decode c_Md_split 29 = .ok (.istore 6, 2) := by decide +kernel
theorem d_Md_split_31 : decode c_Md_split 31 = .ok (.iload 6, 2) := by decide +kernel
theorem d_Md_split_33 : decode c_Md_split 33 = .ok (.iload 4, 2) := by decide +kernel
theorem d_Md_split_35 : decode c_Md_split 35 = .ok (.if_icmp .ge 129, 3) := by decide +kernel
theorem d_Md_split_38 : decode c_Md_split 38 = .ok (.aload_n 0, 1) := by decide +kernel
theorem d_Md_split_39 : decode c_Md_split 39 = .ok (.getfield 74, 3) := by decide +kernel
theorem d_Md_split_42 : decode c_Md_split 42 = .ok (.iload 5, 2) := by decide +kernel
theorem d_Md_split_44 : decode c_Md_split 44 = .ok (.iaload, 1) := by decide +kernel
theorem d_Md_split_45 : decode c_Md_split 45 = .ok (.ifCond .ge 119, 3) := by decide +kernel
theorem d_Md_split_48 : decode c_Md_split 48 = .ok (.aload_n 0, 1) := by decide +kernel
theorem d_Md_split_49 : decode c_Md_split 49 = .ok (.getfield 55, 3) := by decide +kernel
theorem d_Md_split_52 : decode c_Md_split 52 = .ok (.iload 6, 2) := by decide +kernel
theorem d_Md_split_54 : decode c_Md_split 54 = .ok (.iaload, 1) := by decide +kernel
theorem d_Md_split_55 : decode c_Md_split 55 = .ok (.istore 7, 2) := by decide +kernel
theorem d_Md_split_57 : decode c_Md_split 57 = .ok (.aload_n 0, 1) := by decide +kernel
theorem d_Md_split_58 : decode c_Md_split 58 = .ok (.getfield 71, 3) := by decide +kernel
theorem d_Md_split_61 : decode c_Md_split 61 = .ok (.iload 7, 2) := by decide +kernel
theorem d_Md_split_63 : decode c_Md_split 63 = .ok (.iaload, 1) := by decide +kernel
theorem d_Md_split_64 : decode c_Md_split 64 = .ok (.aload_n 0, 1) := by decide +kernel
theorem d_Md_split_65 : decode c_Md_split 65 = .ok (.getfield 71, 3) := by decide +kernel
theorem d_Md_split_68 : decode c_Md_split 68 = .ok (.iload 5, 2) := by decide +kernel
theorem d_Md_split_70 : decode c_Md_split 70 = .ok (.iaload, 1) := by decide +kernel
theorem d_Md_split_71 : decode c_Md_split 71 = .ok (.if_icmp .ne 7, 3) := by decide +kernel
theorem d_Md_split_74 : decode c_Md_split 74 = .ok (.iconst 1, 1) := by decide +kernel
theorem d_Md_split_75 : decode c_Md_split 75 = .ok (.goto 4, 3) := by decide +kernel
theorem d_Md_split_78 : decode c_Md_split 78 = .ok (.iconst 0, 1) := by decide +kernel
theorem d_Md_split_79 : decode c_Md_split 79 = .ok (.istore 8, 2) := by decide +kernel
theorem d_Md_split_81 : decode c_Md_split 81 = .ok (.iconst 0, 1) := by decide +kernel
theorem d_Md_split_82 : decode c_Md_split 82 = .ok (.istore 9, 2) := by decide +kernel
theorem d_Md_split_84 : decode c_Md_split 84 = .ok (.iload 9, 2) := by decide +kernel
theorem d_Md_split_86 : decode c_Md_split 86 = .ok (.iconst 4, 1) := by decide +kernel
theorem d_Md_split_87 : decode c_Md_split 87 = .ok (.if_icmp .ge 52, 3) := by decide +kernel
theorem d_Md_split_90 : decode c_Md_split 90 = .ok (.iload 8, 2) := by decide +kernel
theorem d_Md_split_92 : decode c_Md_split 92 = .ok (.ifCond .eq 47, 3) := by decide +kernel
theorem d_Md_split_95 : decode c_Md_split 95 = .ok (.aload_n 0, 1) := by decide +kernel
theorem d_Md_split_96 : decode c_Md_split 96 = .ok (.getfield 71, 3) := by decide +kernel
theorem d_Md_split_99 : decode c_Md_split 99 = .ok (.aload_n 0, 1) := by decide +kernel
theorem d_Md_split_100 : decode c_Md_split 100 = .ok (.iload_n 1, 1) := by decide +kernel
theorem d_Md_split_101 : decode c_Md_split 101 = .ok (.iload 7, 2) := by decide +kernel
theorem d_Md_split_103 : decode c_Md_split 103 = .ok (.iload 9, 2) := by decide +kernel
theorem d_Md_split_105 : decode c_Md_split 105 = .ok (.invokevirtual 146, 3) := by decide +kernel
theorem d_Md_split_108 : decode c_Md_split 108 = .ok (.iaload, 1) := by decide +kernel
theorem d_Md_split_109 : decode c_Md_split 109 = .ok (.aload_n 0, 1) := by decide +kernel
theorem d_Md_split_110 : decode c_Md_split 110 = .ok (.getfield 71, 3) := by decide +kernel
theorem d_Md_split_113 : decode c_Md_split 113 = .ok (.aload_n 0, 1) := by decide +kernel
theorem d_Md_split_114 : decode c_Md_split 114 = .ok (.iload_n 1, 1) := by decide +kernel
theorem d_Md_split_115 : decode c_Md_split 115 = .ok (.iload 5, 2) := by decide +kernel
theorem d_Md_split_117 : decode c_Md_split 117 = .ok (.iload 9, 2) := by decide +kernel
theorem d_Md_split_119 : decode c_Md_split 119 = .ok (.invokevirtual 146, 3) := by decide +kernel
theorem d_Md_split_122 : decode c_Md_split 122 = .ok (.iaload, 1) := by decide +kernel
theorem d_Md_split_123 : decode c_Md_split 123 = .ok (.if_icmp .ne 7, 3) := by decide +kernel
theorem d_Md_split_126 : decode c_Md_split 126 = .ok (.iconst 1, 1) := by decide +kernel
theorem d_Md_split_127 : decode c_Md_split 127 = .ok (.goto 4, 3) := by decide +kernel
theorem d_Md_split_130 : decode c_Md_split 130 = .ok (.iconst 0, 1) := by decide +kernel
theorem d_Md_split_131 : decode c_Md_split 131 = .ok (.istore 8, 2) := by decide +kernel
theorem d_Md_split_133 : decode c_Md_split 133 = .ok (.iinc 9 1, 3) := by decide +kernel
theorem d_Md_split_136 : decode c_Md_split 136 = .ok (.goto (-52), 3) := by decide +kernel
theorem d_Md_split_139 : decode c_Md_split 139 = .ok (.iload 8, 2) := by decide +kernel
theorem d_Md_split_141 : decode c_Md_split 141 = .ok (.ifCond .eq 17, 3) := by decide +kernel
theorem d_Md_split_144 : decode c_Md_split 144 = .ok (.aload_n 0, 1) := by decide +kernel
theorem d_Md_split_145 : decode c_Md_split 145 = .ok (.getfield 74, 3) := by decide +kernel
theorem d_Md_split_148 : decode c_Md_split 148 = .ok (.iload 5, 2) := by decide +kernel
theorem d_Md_split_150 : decode c_Md_split 150 = .ok (.aload_n 0, 1) := by decide +kernel
theorem d_Md_split_151 : decode c_Md_split 151 = .ok (.getfield 74, 3) := by decide +kernel
theorem d_Md_split_154 : decode c_Md_split 154 = .ok (.iload 7, 2) := by decide +kernel
theorem d_Md_split_156 : decode c_Md_split 156 = .ok (.iaload, 1) := by decide +kernel
theorem d_Md_split_157 : decode c_Md_split 157 = .ok (.iastore, 1) := by decide +kernel
theorem d_Md_split_158 : decode c_Md_split 158 = .ok (.iinc 6 1, 3) := by decide +kernel
theorem d_Md_split_161 : decode c_Md_split 161 = .ok (.goto (-130), 3) := by decide +kernel
theorem d_Md_split_164 : decode c_Md_split 164 = .ok (.aload_n 0, 1) := by decide +kernel
theorem d_Md_split_165 : decode c_Md_split 165 = .ok (.getfield 74, 3) := by decide +kernel
theorem d_Md_split_168 : decode c_Md_split 168 = .ok (.iload 5, 2) := by decide +kernel
theorem d_Md_split_170 : decode c_Md_split 170 = .ok (.iaload, 1) := by decide +kernel
theorem d_Md_split_171 : decode c_Md_split 171 = .ok (.ifCond .ge 14, 3) := by decide +kernel
theorem d_Md_split_174 : decode c_Md_split 174 = .ok (.aload_n 0, 1) := by decide +kernel
theorem d_Md_split_175 : decode c_Md_split 175 = .ok (.getfield 74, 3) := by decide +kernel
theorem d_Md_split_178 : decode c_Md_split 178 = .ok (.iload 5, 2) := by decide +kernel
theorem d_Md_split_180 : decode c_Md_split 180 = .ok (.iload_n 3, 1) := by decide +kernel
theorem d_Md_split_181 : decode c_Md_split 181 = .ok (.iastore, 1) := by decide +kernel
theorem d_Md_split_182 : decode c_Md_split 182 = .ok (.iinc 3 1, 3) := by decide +kernel
theorem d_Md_split_185 : decode c_Md_split 185 = .ok (.iinc 4 1, 3) := by decide +kernel
theorem d_Md_split_188 : decode c_Md_split 188 = .ok (.goto (-183), 3) := by decide +kernel
theorem d_Md_split_191 : decode c_Md_split 191 = .ok (.iconst 0, 1) := by decide +kernel
theorem d_Md_split_192 : decode c_Md_split 192 = .ok (.istore 4, 2) := by decide +kernel
theorem d_Md_split_194 : decode c_Md_split 194 = .ok (.iload 4, 2) := by decide +kernel
theorem d_Md_split_196 : decode c_Md_split 196 = .ok (.iload_n 2, 1) := by decide +kernel
theorem d_Md_split_197 : decode c_Md_split 197 = .ok (.if_icmp .ge 33, 3) := by decide +kernel
theorem d_Md_split_200 : decode c_Md_split 200 = .ok (.aload_n 0, 1) := by decide +kernel
theorem d_Md_split_201 : decode c_Md_split 201 = .ok (.getfield 71, 3) := by decide +kernel
theorem d_Md_split_204 : decode c_Md_split 204 = .ok (.aload_n 0, 1) := by decide +kernel
theorem d_Md_split_205 : decode c_Md_split 205 = .ok (.getfield 55, 3) := by decide +kernel
theorem d_Md_split_208 : decode c_Md_split 208 = .ok (.iload 4, 2) := by decide +kernel
theorem d_Md_split_210 : decode c_Md_split 210 = .ok (.iaload, 1) := by decide +kernel
theorem d_Md_split_211 : decode c_Md_split 211 = .ok (.aload_n 0, 1) := by decide +kernel
theorem d_Md_split_212 : decode c_Md_split 212 = .ok (.getfield 74, 3) := by decide +kernel
theorem d_Md_split_215 : decode c_Md_split 215 = .ok (.aload_n 0, 1) := by decide +kernel
theorem d_Md_split_216 : decode c_Md_split 216 = .ok (.getfield 55, 3) := by decide +kernel
theorem d_Md_split_219 : decode c_Md_split 219 = .ok (.iload 4, 2) := by decide +kernel
theorem d_Md_split_221 : decode c_Md_split 221 = .ok (.iaload, 1) := by decide +kernel
theorem d_Md_split_222 : decode c_Md_split 222 = .ok (.iaload, 1) := by decide +kernel
theorem d_Md_split_223 : decode c_Md_split 223 = .ok (.iastore, 1) := by decide +kernel
theorem d_Md_split_224 : decode c_Md_split 224 = .ok (.iinc 4 1, 3) := by decide +kernel
theorem d_Md_split_227 : decode c_Md_split 227 = .ok (.goto (-33), 3) := by decide +kernel
theorem d_Md_split_230 : decode c_Md_split 230 = .ok (.iload_n 3, 1) := by decide +kernel
theorem d_Md_split_231 : decode c_Md_split 231 = .ok (.ireturn, 1) := by decide +kernel
theorem d_Md_turn_0 : decode c_Md_turn 0 = .ok (.aload_n 0, 1) := by decide +kernel
theorem d_Md_turn_1 : decode c_Md_turn 1 = .ok (.iload_n 1, 1) := by decide +kernel
theorem d_Md_turn_2 : decode c_Md_turn 2 = .ok (.invokestatic 135, 3) := by decide +kernel
theorem d_Md_turn_5 : decode c_Md_turn 5 = .ok (.ifCond .eq 14, 3) := by decide +kernel
theorem d_Md_turn_8 : decode c_Md_turn 8 = .ok (.iload_n 2, 1) := by decide +kernel
theorem d_Md_turn_9 : decode c_Md_turn 9 = .ok (.invokestatic 135, 3) := by decide +kernel
theorem d_Md_turn_12 : decode c_Md_turn 12 = .ok (.ifCond .eq 7, 3) := by decide +kernel
theorem d_Md_turn_15 : decode c_Md_turn 15 = .ok (.iconst 1, 1) := by decide +kernel
theorem d_Md_turn_16 : decode c_Md_turn 16 = .ok (.goto 4, 3) := by decide +kernel
theorem d_Md_turn_19 : decode c_Md_turn 19 = .ok (.iconst 0, 1) := by decide +kernel
theorem d_Md_turn_20 : decode c_Md_turn 20 = .ok (.invokevirtual 142, 3) := by decide +kernel
theorem d_Md_turn_23 : decode c_Md_turn 23 = .ok (.ifCond .ne 4, 3) := by decide +kernel
theorem d_Md_turn_26 : decode c_Md_turn 26 = .ok (.return_, 1) := by decide +kernel
theorem d_Md_turn_27 : decode c_Md_turn 27 = .ok (.aload_n 0, 1) := by decide +kernel
theorem d_Md_turn_28 : decode c_Md_turn 28 = .ok (.getfield 26, 3) := by decide +kernel
theorem d_Md_turn_31 : decode c_Md_turn 31 = .ok (.iload_n 1, 1) := by decide +kernel
theorem d_Md_turn_32 : decode c_Md_turn 32 = .ok (.iaload, 1) := by decide +kernel
theorem d_Md_turn_33 : decode c_Md_turn 33 = .ok (.istore_n 3, 1) := by decide +kernel
theorem d_Md_turn_34 : decode c_Md_turn 34 = .ok (.aload_n 0, 1) := by decide +kernel
theorem d_Md_turn_35 : decode c_Md_turn 35 = .ok (.getfield 23, 3) := by decide +kernel
theorem d_Md_turn_38 : decode c_Md_turn 38 = .ok (.iload_n 1, 1) := by decide +kernel
theorem d_Md_turn_39 : decode c_Md_turn 39 = .ok (.iaload, 1) := by decide +kernel
theorem d_Md_turn_40 : decode c_Md_turn 40 = .ok (.istore 4, 2) := by decide +kernel
theorem d_Md_turn_42 : decode c_Md_turn 42 = .ok (.aload_n 0, 1) := by decide +kernel
theorem d_Md_turn_43 : decode c_Md_turn 43 = .ok (.getfield 17, 3) := by decide +kernel
theorem d_Md_turn_46 : decode c_Md_turn 46 = .ok (.iload_n 1, 1) := by decide +kernel
theorem d_Md_turn_47 : decode c_Md_turn 47 = .ok (.iaload, 1) := by decide +kernel
theorem d_Md_turn_48 : decode c_Md_turn 48 = .ok (.istore 5, 2) := by decide +kernel
theorem d_Md_turn_50 : decode c_Md_turn 50 = .ok (.aload_n 0, 1) := by decide +kernel
theorem d_Md_turn_51 : decode c_Md_turn 51 = .ok (.getfield 32, 3) := by decide +kernel
theorem d_Md_turn_54 : decode c_Md_turn 54 = .ok (.iload_n 1, 1) := by decide +kernel
theorem d_Md_turn_55 : decode c_Md_turn 55 = .ok (.baload, 1) := by decide +kernel
theorem d_Md_turn_56 : decode c_Md_turn 56 = .ok (.istore 6, 2) := by decide +kernel
theorem d_Md_turn_58 : decode c_Md_turn 58 = .ok (.iconst 0, 1) := by decide +kernel
theorem d_Md_turn_59 : decode c_Md_turn 59 = .ok (.istore 7, 2) := by decide +kernel
theorem d_Md_turn_61 : decode c_Md_turn 61 = .ok (.iload 7, 2) := by decide +kernel
theorem d_Md_turn_63 : decode c_Md_turn 63 = .ok (.iload 5, 2) := by decide +kernel
theorem d_Md_turn_65 : decode c_Md_turn 65 = .ok (.if_icmp .ge 92, 3) := by decide +kernel
theorem d_Md_turn_68 : decode c_Md_turn 68 = .ok (.aload_n 0, 1) := by decide +kernel
theorem d_Md_turn_69 : decode c_Md_turn 69 = .ok (.getfield 48, 3) := by decide +kernel
theorem d_Md_turn_72 : decode c_Md_turn 72 = .ok (.iload 7, 2) := by decide +kernel
theorem d_Md_turn_74 : decode c_Md_turn 74 = .ok (.aload_n 0, 1) := by decide +kernel
theorem d_Md_turn_75 : decode c_Md_turn 75 = .ok (.getfield 20, 3) := by decide +kernel
theorem d_Md_turn_78 : decode c_Md_turn 78 = .ok (.iload_n 1, 1) := by decide +kernel
theorem d_Md_turn_79 : decode c_Md_turn 79 = .ok (.bipush 8, 2) := by decide +kernel
theorem d_Md_turn_81 : decode c_Md_turn 81 = .ok (.imul, 1) := by decide +kernel
theorem d_Md_turn_82 : decode c_Md_turn 82 = .ok (.iload 7, 2) := by decide +kernel
theorem d_Md_turn_84 : decode c_Md_turn 84 = .ok (.iadd, 1) := by decide +kernel
theorem d_Md_turn_85 : decode c_Md_turn 85 = .ok (.iaload, 1) := by decide +kernel
theorem d_Md_turn_86 : decode c_Md_turn 86 = .ok (.iastore, 1) := by decide +kernel
theorem d_Md_turn_87 : decode c_Md_turn 87 = .ok (.aload_n 0, 1) := by decide +kernel
theorem d_Md_turn_88 : decode c_Md_turn 88 = .ok (.getfield 51, 3) := by decide +kernel
theorem d_Md_turn_91 : decode c_Md_turn 91 = .ok (.iload 7, 2) := by decide +kernel
theorem d_Md_turn_93 : decode c_Md_turn 93 = .ok (.iconst 0, 1) := by decide +kernel
theorem d_Md_turn_94 : decode c_Md_turn 94 = .ok (.iastore, 1) := by decide +kernel
theorem d_Md_turn_95 : decode c_Md_turn 95 = .ok (.iconst 0, 1) := by decide +kernel
theorem d_Md_turn_96 : decode c_Md_turn 96 = .ok (.istore 8, 2) := by decide +kernel
theorem d_Md_turn_98 : decode c_Md_turn 98 = .ok (.iload 8, 2) := by decide +kernel
theorem d_Md_turn_100 : decode c_Md_turn 100 = .ok (.iload 5, 2) := by decide +kernel
theorem d_Md_turn_102 : decode c_Md_turn 102 = .ok (.if_icmp .ge 49, 3) := by decide +kernel
theorem d_Md_turn_105 : decode c_Md_turn 105 = .ok (.aload_n 0, 1) := by decide +kernel
theorem d_Md_turn_106 : decode c_Md_turn 106 = .ok (.getfield 29, 3) := by decide +kernel
theorem d_Md_turn_109 : decode c_Md_turn 109 = .ok (.iload_n 1, 1) := by decide +kernel
theorem d_Md_turn_110 : decode c_Md_turn 110 = .ok (.bipush 8, 2) := by decide +kernel
theorem d_Md_turn_112 : decode c_Md_turn 112 = .ok (.imul, 1) := by decide +kernel
theorem d_Md_turn_113 : decode c_Md_turn 113 = .ok (.iload 8, 2) := by decide +kernel
theorem d_Md_turn_115 : decode c_Md_turn 115 = .ok (.iadd, 1) := by decide +kernel
theorem d_Md_turn_116 : decode c_Md_turn 116 = .ok (.iaload, 1) := by decide +kernel
theorem d_Md_turn_117 : decode c_Md_turn 117 = .ok (.iload 7, 2) := by decide +kernel
theorem d_Md_turn_119 : decode c_Md_turn 119 = .ok (.ishr, 1) := by decide +kernel
theorem d_Md_turn_120 : decode c_Md_turn 120 = .ok (.iconst 1, 1) := by decide +kernel
theorem d_Md_turn_121 : decode c_Md_turn 121 = .ok (.iand, 1) := by decide +kernel
theorem d_Md_turn_122 : decode c_Md_turn 122 = .ok (.iconst 1, 1) := by decide +kernel
theorem d_Md_turn_123 : decode c_Md_turn 123 = .ok (.if_icmp .ne 22, 3) := by decide +kernel
theorem d_Md_turn_126 : decode c_Md_turn 126 = .ok (.aload_n 0, 1) := by decide +kernel
theorem d_Md_turn_127 : decode c_Md_turn 127 = .ok (.getfield 51, 3) := by decide +kernel
theorem d_Md_turn_130 : decode c_Md_turn 130 = .ok (.iload 7, 2) := by decide +kernel
theorem d_Md_turn_132 : decode c_Md_turn 132 = .ok (.aload_n 0, 1) := by decide +kernel
theorem d_Md_turn_133 : decode c_Md_turn 133 = .ok (.getfield 51, 3) := by decide +kernel
theorem d_Md_turn_136 : decode c_Md_turn 136 = .ok (.iload 7, 2) := by decide +kernel
theorem d_Md_turn_138 : decode c_Md_turn 138 = .ok (.iaload, 1) := by decide +kernel
theorem d_Md_turn_139 : decode c_Md_turn 139 = .ok (.iconst 1, 1) := by decide +kernel
theorem d_Md_turn_140 : decode c_Md_turn 140 = .ok (.iload 8, 2) := by decide +kernel
theorem d_Md_turn_142 : decode c_Md_turn 142 = .ok (.ishl, 1) := by decide +kernel
theorem d_Md_turn_143 : decode c_Md_turn 143 = .ok (.ior, 1) := by decide +kernel
theorem d_Md_turn_144 : decode c_Md_turn 144 = .ok (.iastore, 1) := by decide +kernel
theorem d_Md_turn_145 : decode c_Md_turn 145 = .ok (.iinc 8 1, 3) := by decide +kernel
theorem d_Md_turn_148 : decode c_Md_turn 148 = .ok (.goto (-50), 3) := by decide +kernel
theorem d_Md_turn_151 : decode c_Md_turn 151 = .ok (.iinc 7 1, 3) := by decide +kernel
theorem d_Md_turn_154 : decode c_Md_turn 154 = .ok (.goto (-93), 3) := by decide +kernel
theorem d_Md_turn_157 : decode c_Md_turn 157 = .ok (.aload_n 0, 1) := by decide +kernel
theorem d_Md_turn_158 : decode c_Md_turn 158 = .ok (.getfield 17, 3) := by decide +kernel
theorem d_Md_turn_161 : decode c_Md_turn 161 = .ok (.iload_n 2, 1) := by decide +kernel
theorem d_Md_turn_162 : decode c_Md_turn 162 = .ok (.iload 5, 2) := by decide +kernel
theorem d_Md_turn_164 : decode c_Md_turn 164 = .ok (.iastore, 1) := by decide +kernel
theorem d_Md_turn_165 : decode c_Md_turn 165 = .ok (.aload_n 0, 1) := by decide +kernel
theorem d_Md_turn_166 : decode c_Md_turn 166 = .ok (.getfield 23, 3) := by decide +kernel
theorem d_Md_turn_169 : decode c_Md_turn 169 = .ok (.iload_n 2, 1) := by decide +kernel
theorem d_Md_turn_170 : decode c_Md_turn 170 = .ok (.iload_n 3, 1) := by decide +kernel
theorem d_Md_turn_171 : decode c_Md_turn 171 = .ok (.iastore, 1) := by decide +kernel
theorem d_Md_turn_172 : decode c_Md_turn 172 = .ok (.aload_n 0, 1) := by decide +kernel
theorem d_Md_turn_173 : decode c_Md_turn 173 = .ok (.getfield 26, 3) := by decide +kernel
theorem d_Md_turn_176 : decode c_Md_turn 176 = .ok (.iload_n 2, 1) := by decide +kernel
theorem d_Md_turn_177 : decode c_Md_turn 177 = .ok (.iload 4, 2) := by decide +kernel
theorem d_Md_turn_179 : decode c_Md_turn 179 = .ok (.iastore, 1) := by decide +kernel
theorem d_Md_turn_180 : decode c_Md_turn 180 = .ok (.aload_n 0, 1) := by decide +kernel
theorem d_Md_turn_181 : decode c_Md_turn 181 = .ok (.getfield 32, 3) := by decide +kernel
theorem d_Md_turn_184 : decode c_Md_turn 184 = .ok (.iload_n 2, 1) := by decide +kernel
theorem d_Md_turn_185 : decode c_Md_turn 185 = .ok (.iload 6, 2) := by decide +kernel
theorem d_Md_turn_187 : decode c_Md_turn 187 = .ok (.bastore, 1) := by decide +kernel
theorem d_Md_turn_188 : decode c_Md_turn 188 = .ok (.iconst 0, 1) := by decide +kernel
theorem d_Md_turn_189 : decode c_Md_turn 189 = .ok (.istore 7, 2) := by decide +kernel
theorem d_Md_turn_191 : decode c_Md_turn 191 = .ok (.iload 7, 2) := by decide +kernel
theorem d_Md_turn_193 : decode c_Md_turn 193 = .ok (.iload 5, 2) := by decide +kernel
theorem d_Md_turn_195 : decode c_Md_turn 195 = .ok (.if_icmp .ge 47, 3) := by decide +kernel
theorem d_Md_turn_198 : decode c_Md_turn 198 = .ok (.aload_n 0, 1) := by decide +kernel
theorem d_Md_turn_199 : decode c_Md_turn 199 = .ok (.getfield 20, 3) := by decide +kernel
theorem d_Md_turn_202 : decode c_Md_turn 202 = .ok (.iload_n 2, 1) := by decide +kernel
theorem d_Md_turn_203 : decode c_Md_turn 203 = .ok (.bipush 8, 2) := by decide +kernel
theorem d_Md_turn_205 : decode c_Md_turn 205 = .ok (.imul, 1) := by decide +kernel
theorem d_Md_turn_206 : decode c_Md_turn 206 = .ok (.iload 7, 2) := by decide +kernel
theorem d_Md_turn_208 : decode c_Md_turn 208 = .ok (.iadd, 1) := by decide +kernel
theorem d_Md_turn_209 : decode c_Md_turn 209 = .ok (.aload_n 0, 1) := by decide +kernel
theorem d_Md_turn_210 : decode c_Md_turn 210 = .ok (.getfield 48, 3) := by decide +kernel
theorem d_Md_turn_213 : decode c_Md_turn 213 = .ok (.iload 7, 2) := by decide +kernel
theorem d_Md_turn_215 : decode c_Md_turn 215 = .ok (.iaload, 1) := by decide +kernel
theorem d_Md_turn_216 : decode c_Md_turn 216 = .ok (.iastore, 1) := by decide +kernel
theorem d_Md_turn_217 : decode c_Md_turn 217 = .ok (.aload_n 0, 1) := by decide +kernel
theorem d_Md_turn_218 : decode c_Md_turn 218 = .ok (.getfield 29, 3) := by decide +kernel
theorem d_Md_turn_221 : decode c_Md_turn 221 = .ok (.iload_n 2, 1) := by decide +kernel
theorem d_Md_turn_222 : decode c_Md_turn 222 = .ok (.bipush 8, 2) := by decide +kernel
theorem d_Md_turn_224 : decode c_Md_turn 224 = .ok (.imul, 1) := by decide +kernel
theorem d_Md_turn_225 : decode c_Md_turn 225 = .ok (.iload 7, 2) := by decide +kernel
theorem d_Md_turn_227 : decode c_Md_turn 227 = .ok (.iadd, 1) := by decide +kernel
theorem d_Md_turn_228 : decode c_Md_turn 228 = .ok (.aload_n 0, 1) := by decide +kernel
theorem d_Md_turn_229 : decode c_Md_turn 229 = .ok (.getfield 51, 3) := by decide +kernel
theorem d_Md_turn_232 : decode c_Md_turn 232 = .ok (.iload 7, 2) := by decide +kernel
theorem d_Md_turn_234 : decode c_Md_turn 234 = .ok (.iaload, 1) := by decide +kernel
theorem d_Md_turn_235 : decode c_Md_turn 235 = .ok (.iastore, 1) := by decide +kernel
theorem d_Md_turn_236 : decode c_Md_turn 236 = .ok (.iinc 7 1, 3) := by decide +kernel
theorem d_Md_turn_239 : decode c_Md_turn 239 = .ok (.goto (-48), 3) := by decide +kernel
theorem d_Md_turn_242 : decode c_Md_turn 242 = .ok (.return_, 1) := by decide +kernel
theorem d_Md_size_0 : decode c_Md_size 0 = .ok (.aload_n 0, 1) := by decide +kernel
theorem d_Md_size_1 : decode c_Md_size 1 = .ok (.iconst 0, 1) := by decide +kernel
theorem d_Md_size_2 : decode c_Md_size 2 = .ok (.putfield 83, 3) := by decide +kernel
theorem d_Md_size_5 : decode c_Md_size 5 = .ok (.aload_n 0, 1) := by decide +kernel
theorem d_Md_size_6 : decode c_Md_size 6 = .ok (.getfield 154, 3) := by decide +kernel
theorem d_Md_size_9 : decode c_Md_size 9 = .ok (.ireturn, 1) := by decide +kernel
theorem d_Md_letter_0 : decode c_Md_letter 0 = .ok (.aload_n 0, 1) := by decide +kernel
theorem d_Md_letter_1 : decode c_Md_letter 1 = .ok (.iload_n 1, 1) := by decide +kernel
theorem d_Md_letter_2 : decode c_Md_letter 2 = .ok (.iconst 0, 1) := by decide +kernel
theorem d_Md_letter_3 : decode c_Md_letter 3 = .ok (.aload_n 0, 1) := by decide +kernel
theorem d_Md_letter_4 : decode c_Md_letter 4 = .ok (.getfield 154, 3) := by decide +kernel
theorem d_Md_letter_7 : decode c_Md_letter 7 = .ok (.iconst 1, 1) := by decide +kernel
theorem d_Md_letter_8 : decode c_Md_letter 8 = .ok (.isub, 1) := by decide +kernel
theorem d_Md_letter_9 : decode c_Md_letter 9 = .ok (.invokestatic 86, 3) := by decide +kernel
theorem d_Md_letter_12 : decode c_Md_letter 12 = .ok (.ifCond .eq 7, 3) := by decide +kernel
theorem d_Md_letter_15 : decode c_Md_letter 15 = .ok (.iconst 0, 1) := by decide +kernel
theorem d_Md_letter_16 : decode c_Md_letter 16 = .ok (.goto 4, 3) := by decide +kernel
theorem d_Md_letter_19 : decode c_Md_letter 19 = .ok (.iconst 1, 1) := by decide +kernel
theorem d_Md_letter_20 : decode c_Md_letter 20 = .ok (.putfield 83, 3) := by decide +kernel
theorem d_Md_letter_23 : decode c_Md_letter 23 = .ok (.aload_n 0, 1) := by decide +kernel
theorem d_Md_letter_24 : decode c_Md_letter 24 = .ok (.getfield 83, 3) := by decide +kernel
theorem d_Md_letter_27 : decode c_Md_letter 27 = .ok (.ifCond .le 7, 3) := by decide +kernel
theorem d_Md_letter_30 : decode c_Md_letter 30 = .ok (.iconst 0, 1) := by decide +kernel
theorem d_Md_letter_31 : decode c_Md_letter 31 = .ok (.goto 9, 3) := by decide +kernel
theorem d_Md_letter_34 : decode c_Md_letter 34 = .ok (.aload_n 0, 1) := by decide +kernel
theorem d_Md_letter_35 : decode c_Md_letter 35 = .ok (.getfield 36, 3) := by decide +kernel
theorem d_Md_letter_38 : decode c_Md_letter 38 = .ok (.iload_n 1, 1) := by decide +kernel
theorem d_Md_letter_39 : decode c_Md_letter 39 = .ok (.iaload, 1) := by decide +kernel
theorem d_Md_letter_40 : decode c_Md_letter 40 = .ok (.ireturn, 1) := by decide +kernel
end
section
theorem d_Ar_fillI_0 : decode c_Ar_fillI 0 = .ok (.iconst 0, 1) := by decide +kernel
theorem d_Ar_fillI_1 : decode c_Ar_fillI 1 = .ok (.istore_n 2, 1) := by decide +kernel
theorem d_Ar_fillI_2 : decode c_Ar_fillI 2 = .ok (.aload_n 0, 1) := by decide +kernel
theorem d_Ar_fillI_3 : decode c_Ar_fillI 3 = .ok (.arraylength, 1) := by decide +kernel
theorem d_Ar_fillI_4 : decode c_Ar_fillI 4 = .ok (.istore_n 3, 1) := by decide +kernel
theorem d_Ar_fillI_5 : decode c_Ar_fillI 5 = .ok (.iload_n 2, 1) := by decide +kernel
theorem d_Ar_fillI_6 : decode c_Ar_fillI 6 = .ok (.iload_n 3, 1) := by decide +kernel
theorem d_Ar_fillI_7 : decode c_Ar_fillI 7 = .ok (.if_icmp .ge 13, 3) := by decide +kernel
theorem d_Ar_fillI_10 : decode c_Ar_fillI 10 = .ok (.aload_n 0, 1) := by decide +kernel
theorem d_Ar_fillI_11 : decode c_Ar_fillI 11 = .ok (.iload_n 2, 1) := by decide +kernel
theorem d_Ar_fillI_12 : decode c_Ar_fillI 12 = .ok (.iload_n 1, 1) := by decide +kernel
theorem d_Ar_fillI_13 : decode c_Ar_fillI 13 = .ok (.iastore, 1) := by decide +kernel
theorem d_Ar_fillI_14 : decode c_Ar_fillI 14 = .ok (.iinc 2 1, 3) := by decide +kernel
theorem d_Ar_fillI_17 : decode c_Ar_fillI 17 = .ok (.goto (-12), 3) := by decide +kernel
theorem d_Ar_fillI_20 : decode c_Ar_fillI 20 = .ok (.return_, 1) := by decide +kernel
theorem d_Ar_fillL_0 : decode c_Ar_fillL 0 = .ok (.iconst 0, 1) := by decide +kernel
theorem d_Ar_fillL_1 : decode c_Ar_fillL 1 = .ok (.istore_n 3, 1) := by decide +kernel
theorem d_Ar_fillL_2 : decode c_Ar_fillL 2 = .ok (.aload_n 0, 1) := by decide +kernel
theorem d_Ar_fillL_3 : decode c_Ar_fillL 3 = .ok (.arraylength, 1) := by decide +kernel
theorem d_Ar_fillL_4 : decode c_Ar_fillL 4 = .ok (.istore 4, 2) := by decide +kernel
theorem d_Ar_fillL_6 : decode c_Ar_fillL 6 = .ok (.iload_n 3, 1) := by decide +kernel
theorem d_Ar_fillL_7 : decode c_Ar_fillL 7 = .ok (.iload 4, 2) := by decide +kernel
theorem d_Ar_fillL_9 : decode c_Ar_fillL 9 = .ok (.if_icmp .ge 13, 3) := by decide +kernel
theorem d_Ar_fillL_12 : decode c_Ar_fillL 12 = .ok (.aload_n 0, 1) := by decide +kernel
theorem d_Ar_fillL_13 : decode c_Ar_fillL 13 = .ok (.iload_n 3, 1) := by decide +kernel
theorem d_Ar_fillL_14 : decode c_Ar_fillL 14 = .ok (.lload_n 1, 1) := by decide +kernel
theorem d_Ar_fillL_15 : decode c_Ar_fillL 15 = .ok (.lastore, 1) := by decide +kernel
theorem d_Ar_fillL_16 : decode c_Ar_fillL 16 = .ok (.iinc 3 1, 3) := by decide +kernel
theorem d_Ar_fillL_19 : decode c_Ar_fillL 19 = .ok (.goto (-13), 3) := by decide +kernel
theorem d_Ar_fillL_22 : decode c_Ar_fillL 22 = .ok (.return_, 1) := by decide +kernel
theorem d_Ar_copyI_0 : decode c_Ar_copyI 0 = .ok (.iload_n 1, 1) := by decide +kernel
theorem d_Ar_copyI_1 : decode c_Ar_copyI 1 = .ok (.aload_n 0, 1) := by decide +kernel
theorem d_Ar_copyI_2 : decode c_Ar_copyI 2 = .ok (.arraylength, 1) := by decide +kernel
theorem d_Ar_copyI_3 : decode c_Ar_copyI 3 = .ok (.if_icmp .ne 11, 3) := by decide +kernel
theorem d_Ar_copyI_6 : decode c_Ar_copyI 6 = .ok (.aload_n 0, 1) := by decide +kernel
theorem d_Ar_copyI_7 : decode c_Ar_copyI 7 = .ok (.invokevirtual 316, 3) := by decide +kernel
theorem d_Ar_copyI_10 : decode c_Ar_copyI 10 = .ok (.checkcast 317, 3) := by decide +kernel
theorem d_Ar_copyI_13 : decode c_Ar_copyI 13 = .ok (.areturn, 1) := by decide +kernel
theorem d_Ar_copyI_14 : decode c_Ar_copyI 14 = .ok (.iload_n 1, 1) := by decide +kernel
theorem d_Ar_copyI_15 : decode c_Ar_copyI 15 = .ok (.newarray .int, 2) := by decide +kernel
theorem d_Ar_copyI_17 : decode c_Ar_copyI 17 = .ok (.astore_n 2, 1) := by decide +kernel
theorem d_Ar_copyI_18 : decode c_Ar_copyI 18 = .ok (.aload_n 0, 1) := by decide +kernel
theorem d_Ar_copyI_19 : decode c_Ar_copyI 19 = .ok (.iconst 0, 1) := by decide +kernel
theorem d_Ar_copyI_20 : decode c_Ar_copyI 20 = .ok (.aload_n 2, 1) := by decide +kernel
theorem d_Ar_copyI_21 : decode c_Ar_copyI 21 = .ok (.iconst 0, 1) := by decide +kernel
theorem d_Ar_copyI_22 : decode c_Ar_copyI 22 = .ok (.aload_n 0, 1) := by decide +kernel
theorem d_Ar_copyI_23 : decode c_Ar_copyI 23 = .ok (.arraylength, 1) := by decide +kernel
theorem d_Ar_copyI_24 : decode c_Ar_copyI 24 = .ok (.iload_n 1, 1) := by decide +kernel
theorem d_Ar_copyI_25 : decode c_Ar_copyI 25 = .ok (.invokestatic 304, 3) := by decide +kernel
theorem d_Ar_copyI_28 : decode c_Ar_copyI 28 = .ok (.invokestatic 150, 3) := by decide +kernel
theorem d_Ar_copyI_31 : decode c_Ar_copyI 31 = .ok (.aload_n 2, 1) := by decide +kernel
theorem d_Ar_copyI_32 : decode c_Ar_copyI 32 = .ok (.areturn, 1) := by decide +kernel
theorem d_Mt_min_0 : decode c_Mt_min 0 = .ok (.iload_n 0, 1) := by decide +kernel
theorem d_Mt_min_1 : decode c_Mt_min 1 = .ok (.iload_n 1, 1) := by decide +kernel
theorem d_Mt_min_2 : decode c_Mt_min 2 = .ok (.if_icmp .gt 7, 3) := by decide +kernel
theorem d_Mt_min_5 : decode c_Mt_min 5 = .ok (.iload_n 0, 1) := by decide +kernel
theorem d_Mt_min_6 : decode c_Mt_min 6 = .ok (.goto 4, 3) := by decide +kernel
theorem d_Mt_min_9 : decode c_Mt_min 9 = .ok (.iload_n 1, 1) := by decide +kernel
theorem d_Mt_min_10 : decode c_Mt_min 10 = .ok (.ireturn, 1) := by decide +kernel
end
section
/-! BASE: arrays of natural numbers, the bundled world KW, one row an instruction over it, contracts in one form -/
def aN (F : Nat → Nat) : Nat → Int32 := fun j => nI (F j)
def aL (F : Nat → Nat) : Nat → Int64 := fun j => lN (F j)
theorem aN_at {F : Nat → Nat} {i : Nat} (h : i < 2 ^ 31) : aN F (nI i).toNatClampNeg = nI (F i) := by rw [nI_clamp h]; rfl
theorem aL_at {F : Nat → Nat} {i : Nat} (h : i < 2 ^ 31) : aL F (nI i).toNatClampNeg = lN (F i) := by rw [nI_clamp h]; rfl
theorem aN_up (F : Nat → Nat) (k v : Nat) : upd (aN F) k (nI v) = aN (va_up F k v) := by
  funext j
  by_cases h : j = k
  · subst h; rw [pk_us]; show _ = nI _; rw [va_up_self]
  · rw [pk_un h]; show nI _ = nI _; rw [va_up_ne _ _ h]
theorem aL_up (F : Nat → Nat) (k v : Nat) : vp_updL (aL F) k (lN v) = aL (va_up F k v) := by
  funext j
  by_cases h : j = k
  · subst h; rw [pk_uLs]; show _ = lN _; rw [va_up_self]
  · rw [pk_uLn h]; show lN _ = lN _; rw [va_up_ne _ _ h]
theorem kn_inc (i : Nat) : nI i + Int32.ofInt 1 = nI (i + 1) := nI_1 i
theorem kn_or (a b : Nat) : nI a ||| nI b = nI (a ||| b) := by
  apply Int32.toBitVec_inj.mp
  show BitVec.ofNat 32 a ||| BitVec.ofNat 32 b = BitVec.ofNat 32 (a ||| b)
  simp
theorem kn_and (a b : Nat) : nI a &&& nI b = nI (a &&& b) := by
  apply Int32.toBitVec_inj.mp
  show BitVec.ofNat 32 a &&& BitVec.ofNat 32 b = BitVec.ofNat 32 (a &&& b)
  simp
theorem kn_c (n : Nat) : nI n = Int32.ofNat n := rfl
/-- one bit of a set: (x >> p & 1) -/
theorem kn_bit {a k : Nat} (ha : a < 2 ^ 31) (hk : k < 32) : nI a >>> (nI k &&& 31) &&& nI 1 = nI (if a.testBit k then 1 else 0) := by
  have h1 : nI k &&& 31 = nI k := by
    have := pk_andN (n := k) (by omega) (m := 31) 5 (by decide)
    rw [this]; congr 1; omega
  have h2 : ((nI k &&& 31).toBitVec.smod 32).toNat = k := by
    have : ∀ k : Fin 32, ((nI k.val &&& 31).toBitVec.smod 32).toNat = k.val := by decide +kernel
    exact this ⟨k, hk⟩
  rw [pk_shrN ha _ k h2, kn_and]
  congr 1
  rw [Nat.and_one_is_mod, Nat.testBit_eq_decide_div_mod_eq]
  rcases Nat.mod_two_eq_zero_or_one (a / 2 ^ k) with h | h <;> simp [h]
theorem kn_shl1 {k : Nat} (hk : k < 31) : nI 1 <<< (nI k &&& 31) = nI (2 ^ k) := by
  have h2 : ((nI k &&& 31).toBitVec.smod 32).toNat = k := by
    have : ∀ k : Fin 32, ((nI k.val &&& 31).toBitVec.smod 32).toNat = k.val := by decide +kernel
    exact this ⟨k, by omega⟩
  have h3 : 1 * 2 ^ k < 2 ^ 32 := by
    have : 2 ^ k < 2 ^ 32 := Nat.pow_lt_pow_right (by omega) (by omega)
    omega
  rw [pk_shlN _ k h2 h3, Nat.one_mul]
abbrev tyA (k : Nat → ClassId) : List (ClassId × FieldType) := [(k 0, .int), (k 1, .long), (k 2, .boolean), (k 3, .object "WordSets$Expression"), (k 4, .object "WordSets$Part")]
/-- what stands fast in a method's body -/
def FX (p : Program) (s : State) (m : MethodId) (c : Code) (args : Array Value) (cc : ByteArray) (own : String) : Prop := p.tables.exec = Jvm.exec ∧ c.code = cc ∧ s.vm.findClass own = some m.cls ∧ ∀ w ∈ wsU, w.before args s = true
/-- the world: the cells, apart, in A; nothing else has changed since s; the classes are known -/
def KW (D : va_G) (k : Nat → ClassId) (A : Nat → Prop) (s : State) (ws : va_W) (H : Heap) (locs : List Loc) : Prop := va_P D vwCl ws H ∧ va_D A ws ∧ va_S A s.heap H locs ∧ va_K D vwCl (tyA k) s ∧ ∀ q : Nat, s.heap.size ≤ q → A q
theorem KW.sub {D : va_G} {k : Nat → ClassId} {A : Nat → Prop} {s : State} {ws ws' : va_W} {H : Heap} {locs : List Loc} (h : KW D k A s ws H locs) (is : List Nat) (hn : va_nd is = true) (hs : is.map (fun i => ws[i]?) = ws'.map some) : KW D k A s ws' H locs := by
  obtain ⟨h1, h2, h3, h4, h5⟩ := h
  refine ⟨h1.sub is ?_, h2.sub is hn hs, h3, h4, h5⟩
  rw [show (is.filterMap fun i => ws[i]?) = (is.map (fun i => ws[i]?)).filterMap id from by rw [List.filterMap_map]; rfl, hs, List.filterMap_map]
  simp
section KB
variable {p : Program} {l : Launch} {e : Env} {R : Room} {s : State} {m : MethodId} {args : Array Value} {below : List Frame} {meth : Method} {c : Code} {H : Heap} {locs : List Loc} {cells slots : Nat} {Q : State → Prop}
variable {cc : ByteArray} {pc : Nat} {ls : Array Slot} {rest : List Value} {own : String} {D : va_G} {k : Nat → ClassId} {A : Nat → Prop} {ws : va_W}
theorem tpi {x y : Int32} (h : x = y) (kk : W p l e R s m args below meth c H locs cells slots Q (F0 m pc ls (.int y :: rest))) : W p l e R s m args below meth c H locs cells slots Q (F0 m pc ls (.int x :: rest)) := by rw [h]; exact kk
theorem tpl {x y : Int64} (h : x = y) (kk : W p l e R s m args below meth c H locs cells slots Q (F0 m pc ls (.long y :: rest))) : W p l e R s m args below meth c H locs cells slots Q (F0 m pc ls (.long x :: rest)) := by rw [h]; exact kk
theorem kget (hX : FX p s m c args cc own) (hW : KW D k A s ws H locs) {C : String} {T : u_T} {N ci index : Nat} {ref : String} (hin : ∀ w ∈ u_ws C T N, w ∈ wsU) (q0 : Nat) {a : Nat} {fs : List Value} (he : ws[q0]? = some (a, .inr (ci, fs))) (hc : vwCl[ci]? = some (C, T, N)) (j : Nat) (hj : j < N) (hl : Cond.fieldLink own index ref (T j).2.1 (T j).2.2.1 ∈ wsU) (hs : (T j).1 = ref) {v : Value} (hv : fs[j]? = some v) (hdg : decode cc pc = .ok (.getfield index, 3))
    (kk : W p l e R s m args below meth c H locs cells slots Q (F0 m (pc + 3) ls (v :: rest))) : W p l e R s m args below meth c H locs cells slots Q (F0 m pc ls (.ref a :: rest)) := by
  obtain ⟨hx, hb, hown, hts⟩ := hX
  obtain ⟨hP, hD, hS, hK, hA⟩ := hW
  exact va_get hx hb hts hin hown hK hP q0 he hc j hj (hts _ hl) (fun x9 h9 => by rw [← hs]; exact h9) hv hdg kk
theorem kput (hX : FX p s m c args cc own) (hW : KW D k A s ws H locs) {C : String} {T : u_T} {N ci index : Nat} {ref : String} (hin : ∀ w ∈ u_ws C T N, w ∈ wsU) (ty0 : Nat → FieldType) (hty : ∀ k, k < N → parseFieldDescriptor (T k).2.2.1 = some (ty0 k)) (hnm : ∀ a, a < N → ∀ b, b < N → a ≠ b → (T a).2.1 ≠ (T b).2.1) (q0 : Nat) {a : Nat} {fs : List Value} (he : ws[q0]? = some (a, .inr (ci, fs))) (hc : vwCl[ci]? = some (C, T, N)) (j : Nat) (hj : j < N) (hl : Cond.fieldLink own index ref (T j).2.1 (T j).2.2.1 ∈ wsU) (hs : (T j).1 = ref) (hfin : (T j).2.2.2 = false) {v : Value} (hn : narrow (ty0 j) v = v) (hfit : fits (ty0 j) v = true) (hlen : j < fs.length) (hdg : decode cc pc = .ok (.putfield index, 3))
    (kk : ∀ (H1 : Heap) (locs1 : List Loc), KW D k A s (ws.set q0 (a, .inr (ci, fs.set j v))) H1 locs1 → W p l e R s m args below meth c H1 locs1 cells slots Q (F0 m (pc + 3) ls rest)) : W p l e R s m args below meth c H locs cells slots Q (F0 m pc ls (v :: .ref a :: rest)) := by
  obtain ⟨hx, hb, hown, hts⟩ := hX
  obtain ⟨hP, hD, hS, hK, hA⟩ := hW
  exact va_put hx hb hts hin ty0 hty hnm hown hK hP hD hS q0 he hc j hj (hts _ hl) (fun x9 h9 => by rw [← hs]; exact h9) hfin (hty j hj) hn hfit hlen hdg (fun H1 locs1 a1 a2 a3 => kk H1 locs1 ⟨a1, a2, a3, hK, hA⟩)
theorem kputF (hX : FX p s m c args cc own) (hW : KW D k A s ws H locs) (hin2 : meth.name = "<init>") {C : String} {T : u_T} {N ci index : Nat} {ref : String} (hin : ∀ w ∈ u_ws C T N, w ∈ wsU) (ty0 : Nat → FieldType) (hty : ∀ k, k < N → parseFieldDescriptor (T k).2.2.1 = some (ty0 k)) (hnm : ∀ a, a < N → ∀ b, b < N → a ≠ b → (T a).2.1 ≠ (T b).2.1) (q0 : Nat) {a : Nat} {fs : List Value} (he : ws[q0]? = some (a, .inr (ci, fs))) (hc : vwCl[ci]? = some (C, T, N)) (j : Nat) (hj : j < N) (hl : Cond.fieldLink own index ref (T j).2.1 (T j).2.2.1 ∈ wsU) (hs : (T j).1 = ref) (hfin : (T j).2.2.2 = true) (hdecl : (T j).1 = own) {v : Value} (hn : narrow (ty0 j) v = v) (hfit : fits (ty0 j) v = true) (hlen : j < fs.length) (hdg : decode cc pc = .ok (.putfield index, 3))
    (kk : ∀ (H1 : Heap) (locs1 : List Loc), KW D k A s (ws.set q0 (a, .inr (ci, fs.set j v))) H1 locs1 → W p l e R s m args below meth c H1 locs1 cells slots Q (F0 m (pc + 3) ls rest)) : W p l e R s m args below meth c H locs cells slots Q (F0 m pc ls (v :: .ref a :: rest)) := by
  obtain ⟨hx, hb, hown, hts⟩ := hX
  obtain ⟨hP, hD, hS, hK, hA⟩ := hW
  exact va_putF hx hb hts hin ty0 hty hnm hown hK hP hD hS q0 he hc j hj (hts _ hl) (fun x9 h9 => by rw [← hs]; exact h9) hfin hin2 hdecl (hty j hj) hn hfit hlen hdg (fun H1 locs1 a1 a2 a3 => kk H1 locs1 ⟨a1, a2, a3, hK, hA⟩)
theorem kiald (hX : FX p s m c args cc own) (hW : KW D k A s ws H locs) (q0 : Nat) {a n i : Nat} {F : Nat → Nat} (he : ws[q0]? = some (a, .inl (k 0, n, .inl (aN F)))) (hi : i < n) (hn : n < 2 ^ 31) (hdg : decode cc pc = .ok (.iaload, 1))
    (kk : W p l e R s m args below meth c H locs cells slots Q (F0 m (pc + 1) ls (.int (nI (F i)) :: rest))) : W p l e R s m args below meth c H locs cells slots Q (F0 m pc ls (.int (nI i) :: .ref a :: rest)) :=
  va_iald hX.1 hX.2.1 hW.2.2.2.1 hW.1 q0 0 he rfl (vp_in_nI hi hn) hdg (tpi (aN_at (by omega)) kk)
theorem kiast (hX : FX p s m c args cc own) (hW : KW D k A s ws H locs) (q0 : Nat) {a n i v : Nat} {F : Nat → Nat} (he : ws[q0]? = some (a, .inl (k 0, n, .inl (aN F)))) (hi : i < n) (hn : n < 2 ^ 31) (hdg : decode cc pc = .ok (.iastore, 1))
    (kk : ∀ (H1 : Heap) (locs1 : List Loc), KW D k A s (ws.set q0 (a, .inl (k 0, n, .inl (aN (va_up F i v))))) H1 locs1 → W p l e R s m args below meth c H1 locs1 cells slots Q (F0 m (pc + 1) ls rest)) : W p l e R s m args below meth c H locs cells slots Q (F0 m pc ls (.int (nI v) :: .int (nI i) :: .ref a :: rest)) := by
  obtain ⟨hP, hD, hS, hK, hA⟩ := hW
  refine va_iast hX.1 hX.2.1 hK hP hD hS q0 0 he rfl (vp_in_nI hi hn) hdg (fun H1 locs1 a1 a2 a3 => kk H1 locs1 ?_)
  rw [nI_clamp (by omega), aN_up] at a1 a2
  exact ⟨a1, a2, a3, hK, hA⟩
theorem klald (hX : FX p s m c args cc own) (hW : KW D k A s ws H locs) (q0 : Nat) {a n i : Nat} {F : Nat → Nat} (he : ws[q0]? = some (a, .inl (k 1, n, .inr (.inl (aL F))))) (hi : i < n) (hn : n < 2 ^ 31) (hdg : decode cc pc = .ok (.laload, 1))
    (kk : W p l e R s m args below meth c H locs cells slots Q (F0 m (pc + 1) ls (.long (lN (F i)) :: rest))) : W p l e R s m args below meth c H locs cells slots Q (F0 m pc ls (.int (nI i) :: .ref a :: rest)) :=
  va_lald hX.1 hX.2.1 hW.2.2.2.1 hW.1 q0 1 he rfl (vp_in_nI hi hn) hdg (tpl (aL_at (by omega)) kk)
theorem klast (hX : FX p s m c args cc own) (hW : KW D k A s ws H locs) (q0 : Nat) {a n i v : Nat} {F : Nat → Nat} (he : ws[q0]? = some (a, .inl (k 1, n, .inr (.inl (aL F))))) (hi : i < n) (hn : n < 2 ^ 31) (hdg : decode cc pc = .ok (.lastore, 1))
    (kk : ∀ (H1 : Heap) (locs1 : List Loc), KW D k A s (ws.set q0 (a, .inl (k 1, n, .inr (.inl (aL (va_up F i v)))))) H1 locs1 → W p l e R s m args below meth c H1 locs1 cells slots Q (F0 m (pc + 1) ls rest)) : W p l e R s m args below meth c H locs cells slots Q (F0 m pc ls (.long (lN v) :: .int (nI i) :: .ref a :: rest)) := by
  obtain ⟨hP, hD, hS, hK, hA⟩ := hW
  refine va_last hX.1 hX.2.1 hK hP hD hS q0 1 he rfl (vp_in_nI hi hn) hdg (fun H1 locs1 a1 a2 a3 => kk H1 locs1 ?_)
  rw [nI_clamp (by omega), aL_up] at a1 a2
  exact ⟨a1, a2, a3, hK, hA⟩
theorem kge (hX : FX p s m c args cc own) {a b : Nat} {off : Int} {tgt : Nat} (ha : a < 2 ^ 31) (hb2 : b < 2 ^ 31) (hdg : decode cc pc = .ok (.if_icmp .ge off, 3)) (ht : (pc : Int) + off = (tgt : Int))
    (kt : b ≤ a → W p l e R s m args below meth c H locs cells slots Q (F0 m tgt ls rest)) (kf : a < b → W p l e R s m args below meth c H locs cells slots Q (F0 m (pc + 3) ls rest)) : W p l e R s m args below meth c H locs cells slots Q (F0 m pc ls (.int (nI b) :: .int (nI a) :: rest)) :=
  lv_icmp_ge hX.1 hX.2.1 hdg ht (fun h => kt ((nI_leI hb2 ha).mp h)) (fun h => kf (Nat.lt_of_not_le fun q => h ((nI_leI hb2 ha).mpr q)))
theorem kgt (hX : FX p s m c args cc own) {a b : Nat} {off : Int} {tgt : Nat} (ha : a < 2 ^ 31) (hb2 : b < 2 ^ 31) (hdg : decode cc pc = .ok (.if_icmp .gt off, 3)) (ht : (pc : Int) + off = (tgt : Int))
    (kt : b < a → W p l e R s m args below meth c H locs cells slots Q (F0 m tgt ls rest)) (kf : a ≤ b → W p l e R s m args below meth c H locs cells slots Q (F0 m (pc + 3) ls rest)) : W p l e R s m args below meth c H locs cells slots Q (F0 m pc ls (.int (nI b) :: .int (nI a) :: rest)) :=
  lv_icmp_gt hX.1 hX.2.1 hdg ht (fun h => kt ((nI_ltI hb2 ha).mp h)) (fun h => kf (Nat.le_of_not_lt fun q => h ((nI_ltI hb2 ha).mpr q)))
theorem klt (hX : FX p s m c args cc own) {a b : Nat} {off : Int} {tgt : Nat} (ha : a < 2 ^ 31) (hb2 : b < 2 ^ 31) (hdg : decode cc pc = .ok (.if_icmp .lt off, 3)) (ht : (pc : Int) + off = (tgt : Int))
    (kt : a < b → W p l e R s m args below meth c H locs cells slots Q (F0 m tgt ls rest)) (kf : b ≤ a → W p l e R s m args below meth c H locs cells slots Q (F0 m (pc + 3) ls rest)) : W p l e R s m args below meth c H locs cells slots Q (F0 m pc ls (.int (nI b) :: .int (nI a) :: rest)) :=
  lv_icmp_lt hX.1 hX.2.1 hdg ht (fun h => kt ((nI_ltI ha hb2).mp h)) (fun h => kf (Nat.le_of_not_lt fun q => h ((nI_ltI ha hb2).mpr q)))
theorem kle (hX : FX p s m c args cc own) {a b : Nat} {off : Int} {tgt : Nat} (ha : a < 2 ^ 31) (hb2 : b < 2 ^ 31) (hdg : decode cc pc = .ok (.if_icmp .le off, 3)) (ht : (pc : Int) + off = (tgt : Int))
    (kt : a ≤ b → W p l e R s m args below meth c H locs cells slots Q (F0 m tgt ls rest)) (kf : b < a → W p l e R s m args below meth c H locs cells slots Q (F0 m (pc + 3) ls rest)) : W p l e R s m args below meth c H locs cells slots Q (F0 m pc ls (.int (nI b) :: .int (nI a) :: rest)) :=
  lv_icmp_le hX.1 hX.2.1 hdg ht (fun h => kt ((nI_leI ha hb2).mp h)) (fun h => kf (Nat.lt_of_not_le fun q => h ((nI_leI ha hb2).mpr q)))
theorem keq (hX : FX p s m c args cc own) {a b : Nat} {off : Int} {tgt : Nat} (ha : a < 2 ^ 31) (hb2 : b < 2 ^ 31) (hdg : decode cc pc = .ok (.if_icmp .eq off, 3)) (ht : (pc : Int) + off = (tgt : Int))
    (kt : a = b → W p l e R s m args below meth c H locs cells slots Q (F0 m tgt ls rest)) (kf : a ≠ b → W p l e R s m args below meth c H locs cells slots Q (F0 m (pc + 3) ls rest)) : W p l e R s m args below meth c H locs cells slots Q (F0 m pc ls (.int (nI b) :: .int (nI a) :: rest)) :=
  lv_icmp_eq hX.1 hX.2.1 hdg ht (fun h => kt ((nI_eq ha hb2).mp h)) (fun h => kf (fun q => h ((nI_eq ha hb2).mpr q)))
theorem kne (hX : FX p s m c args cc own) {a b : Nat} {off : Int} {tgt : Nat} (ha : a < 2 ^ 31) (hb2 : b < 2 ^ 31) (hdg : decode cc pc = .ok (.if_icmp .ne off, 3)) (ht : (pc : Int) + off = (tgt : Int))
    (kt : a ≠ b → W p l e R s m args below meth c H locs cells slots Q (F0 m tgt ls rest)) (kf : a = b → W p l e R s m args below meth c H locs cells slots Q (F0 m (pc + 3) ls rest)) : W p l e R s m args below meth c H locs cells slots Q (F0 m pc ls (.int (nI b) :: .int (nI a) :: rest)) :=
  lv_icmp_ne hX.1 hX.2.1 hdg ht (fun h => kt (fun q => h ((nI_eq ha hb2).mpr q))) (fun h => kf ((nI_eq ha hb2).mp h))
theorem kz (hX : FX p s m c args cc own) {a : Nat} {off : Int} {tgt : Nat} (ha : a < 2 ^ 31) (hdg : decode cc pc = .ok (.ifCond .eq off, 3)) (ht : (pc : Int) + off = (tgt : Int))
    (kt : a = 0 → W p l e R s m args below meth c H locs cells slots Q (F0 m tgt ls rest)) (kf : a ≠ 0 → W p l e R s m args below meth c H locs cells slots Q (F0 m (pc + 3) ls rest)) : W p l e R s m args below meth c H locs cells slots Q (F0 m pc ls (.int (nI a) :: rest)) :=
  lv_if_eq hX.1 hX.2.1 hdg ht (fun h => kt ((nI_eq ha (by decide)).mp h)) (fun h => kf (fun q => h ((nI_eq ha (by decide)).mpr q)))
theorem knz (hX : FX p s m c args cc own) {a : Nat} {off : Int} {tgt : Nat} (ha : a < 2 ^ 31) (hdg : decode cc pc = .ok (.ifCond .ne off, 3)) (ht : (pc : Int) + off = (tgt : Int))
    (kt : a ≠ 0 → W p l e R s m args below meth c H locs cells slots Q (F0 m tgt ls rest)) (kf : a = 0 → W p l e R s m args below meth c H locs cells slots Q (F0 m (pc + 3) ls rest)) : W p l e R s m args below meth c H locs cells slots Q (F0 m pc ls (.int (nI a) :: rest)) :=
  lv_if_ne hX.1 hX.2.1 hdg ht (fun h => kt (fun q => h ((nI_eq ha (by decide)).mpr q))) (fun h => kf ((nI_eq ha (by decide)).mp h))
end KB
/-- a contract's start: the answer's place, the cells ws, the classes -/
def kPre (D : va_G) (k : Nat → ClassId) (av : List Value) (ws : va_W) (sz : Nat) : Array Value → State → Prop := va_Pc av (fun U => U.heap.size = sz ∧ va_P D vwCl ws U.heap ∧ va_K D vwCl (tyA k) U ∧ va_D (fun _ => True) ws)
def kB {S : Type} (D : va_G) (k : Nat → ClassId) (w1 : S → va_W) (A : Nat → Prop) : S → State → Prop := fun u t => va_P D vwCl (w1 u) t.heap ∧ va_K D vwCl (tyA k) t ∧ va_D A (w1 u)
theorem kPre_blind {D : va_G} {k : Nat → ClassId} {av : List Value} {ws : va_W} {sz : Nat} : FrameBlind (kPre D k av ws sz) := fun a U g mk q => by
  obtain ⟨q0, q1, qP, qK, qD⟩ := q
  exact ⟨q0, q1, qP, va_K.moved (u := U) (U := U.calling g mk a) (Vm.Alike.refl U.vm) qK, qD⟩
/-- a method's contract out of its walk -/
theorem kMet {l : Launch} {y : MethodName} {cc : ByteArray} {maxL : Nat} {ret : Option FieldType} {rm : Room} {D : va_G} {k : Nat → ClassId} {av : List Value} {ws : va_W} {sz : Nat} {Qc : Array Value → State → Outcome → State → Prop} {mc ms : Nat} (hy : plainName y.cls = true) (hle : (lg_sl av).length ≤ maxL)
    (body : ∀ (p : Program) (e : Env) (s : State) (m : MethodId) (below : List Frame) (meth : Method) (c : Code) (ls : Array Slot), FX p s m c av.toArray cc y.cls → c.maxLocals = maxL → meth.sig.returnType = ret → meth.locks = false → meth.name = y.name → s.heap.size = sz → KW D k (va_A ws sz) s ws s.heap [] → lv_has ls maxL (lv_args 0 av) → ∀ Q : State → Prop, (∀ t, MQ below Qc av.toArray s mc ms (va_A ws sz) t → Q t) →
      W p l e rm s m av.toArray below meth c s.heap [] 0 0 Q (F0 m 0 ls [])) : Met l y (.code y cc maxL ret :: wsU) rm (kPre D k av ws sz) Qc mc ms (va_A ws sz) := by
  refine Met.ofW (cc := cc) (maxL := maxL) (ret := ret) hy rfl ?_
  intro p e s m args below meth c s₁ B hml hv
  obtain ⟨rfl, hsz, hP, hK, hD0⟩ := hv
  have hts := atoms_spec (ws := .code y cc maxL ret :: wsU) B.pre
  rw [lg_entry_eq]
  exact body p e s m below meth c _ ⟨B.exec, B.bytes, findClass_of_methodNamed B.named, fun w h => hts w (List.mem_cons_of_mem _ h)⟩ hml B.returns B.notSynchronized (name_of_methodNamed B.named B.method).1 hsz ⟨hP, hD0.self, va_S.rf, hK, fun q h => Or.inr (by rw [← hsz]; exact h)⟩ (lv_entry av hle) _ (fun _ h => h)
theorem wmono {p : Program} {l : Launch} {e : Env} {R : Room} {s : State} {m : MethodId} {args : Array Value} {below : List Frame} {meth : Method} {c : Code} {H : Heap} {locs : List Loc} {cells slots : Nat} {Q Q' : State → Prop} {g : JFrame} (hQ : ∀ t, Q' t → Q t) (h : W p l e R s m args below meth c H locs cells slots Q' g) : W p l e R s m args below meth c H locs cells slots Q g := fun T hT X => by
  obtain ⟨t, a, b⟩ := h T hT X
  exact ⟨t, a, hQ t b⟩
section KR
variable {p : Program} {l : Launch} {e : Env} {R : Room} {s : State} {m : MethodId} {args : Array Value} {below : List Frame} {meth : Method} {c : Code} {H : Heap} {locs : List Loc} {cells slots : Nat} {Q : State → Prop}
variable {cc : ByteArray} {pc : Nat} {ls : Array Slot} {own : String} {D : va_G} {k : Nat → ClassId} {A : Nat → Prop} {ws : va_W} {S : Type} {w1 : S → va_W}
theorem kiret {post : Int32 → S → Prop} {v : Int32} (hX : FX p s m c args cc own) (hr : meth.sig.returnType = some .int) (hlocks : meth.locks = false) (hQ : ∀ t, MQ below (va_Qi post (kB D k w1 A) A) args s cells slots A t → Q t) (u : S) (hW : KW D k A s (w1 u) H locs) (hp : post v u) (hdg : decode cc pc = .ok (.ireturn, 1)) : W p l e R s m args below meth c H locs cells slots Q (F0 m pc ls [.int v]) :=
  wmono hQ (W.iret hX.1 hX.2.1 hr (fun t ht hV => ⟨⟨v, u, rfl, hp, by rw [ht]; exact hW.1, va_K.moved hV.alike hW.2.2.2.1, hW.2.1⟩, hW.2.2.1.F ht⟩) hW.2.2.1.2.2 hdg)
theorem kzret {post : Int32 → S → Prop} {v : Int32} (hX : FX p s m c args cc own) (hr : meth.sig.returnType = some .boolean) (hlocks : meth.locks = false) (hQ : ∀ t, MQ below (va_Qi post (kB D k w1 A) A) args s cells slots A t → Q t) (u : S) (hW : KW D k A s (w1 u) H locs) (hp : post v u) (hv : v = nI 0 ∨ v = nI 1) (hdg : decode cc pc = .ok (.ireturn, 1)) : W p l e R s m args below meth c H locs cells slots Q (F0 m pc ls [.int v]) :=
  wmono hQ (W.zret hX.1 hX.2.1 hr (by rcases hv with rfl | rfl <;> decide +kernel) (fun t ht hV => ⟨⟨v, u, rfl, hp, by rw [ht]; exact hW.1, va_K.moved hV.alike hW.2.2.2.1, hW.2.1⟩, hW.2.2.1.F ht⟩) hW.2.2.1.2.2 hdg)
theorem klret {post : Int64 → S → Prop} {v : Int64} (hX : FX p s m c args cc own) (hr : meth.sig.returnType = some .long) (hlocks : meth.locks = false) (hQ : ∀ t, MQ below (va_Ql post (kB D k w1 A) A) args s cells slots A t → Q t) (u : S) (hW : KW D k A s (w1 u) H locs) (hp : post v u) (hdg : decode cc pc = .ok (.lreturn, 1)) : W p l e R s m args below meth c H locs cells slots Q (F0 m pc ls [.long v]) :=
  wmono hQ (W.lret hX.1 hX.2.1 hr (fun t ht hV => ⟨⟨v, u, rfl, hp, by rw [ht]; exact hW.1, va_K.moved hV.alike hW.2.2.2.1, hW.2.1⟩, hW.2.2.1.F ht⟩) hW.2.2.1.2.2 hdg)
theorem kvret {post : S → Prop} (hX : FX p s m c args cc own) (hr : meth.sig.returnType = none) (hlocks : meth.locks = false) (hQ : ∀ t, MQ below (va_Qv post (kB D k w1 A) A) args s cells slots A t → Q t) (u : S) (hW : KW D k A s (w1 u) H locs) (hp : post u) (hdg : decode cc pc = .ok (.return_, 1)) : W p l e R s m args below meth c H locs cells slots Q (F0 m pc ls []) :=
  wmono hQ (W.vret hX.1 hX.2.1 hr (fun t ht hV => ⟨⟨u, rfl, hp, by rw [ht]; exact hW.1, va_K.moved hV.alike hW.2.2.2.1, hW.2.1⟩, hW.2.2.1.F ht⟩) hW.2.2.1.2.2 hdg)
end KR
end
section
/-! CALLS: a callee's contract used in a walk: its cells wc out of ws, the rest wr unchanged, w1 what came back -/
section KC
variable {p : Program} {l : Launch} {e : Env} {R : Room} {s : State} {m : MethodId} {args : Array Value} {below : List Frame} {meth : Method} {c : Code} {H : Heap} {locs : List Loc} {cells slots : Nat} {Q : State → Prop}
variable {cc : ByteArray} {pc : Nat} {ls : Array Slot} {rest st0 : List Value} {own : String} {D : va_G} {k : Nat → ClassId} {A : Nat → Prop} {ws : va_W} {S : Type} {w1 : S → va_W}
variable {y : MethodName} {bytes : ByteArray} {maxL nL mc ms n index : Nat} {ret : Option FieldType} {rm : Room} {Qc : Array Value → State → Outcome → State → Prop} {wc wr : va_W} {b : Nat} {As : List Value}
/-- what a call of an instance method of the class C needs of the tables -/
theorem kRunV (hX : FX p s m c args cc own) (hml : c.maxLocals = nL) (hW : KW D k A s ws H locs) (hM : Met l y (.code y bytes maxL ret :: wsU) rm (kPre D k (.ref b :: As) wc H.size) Qc mc ms (va_A wc H.size))
    (h1 : Cond.methodLink own index y ∈ wsU) (h2 : Cond.instanceMethod y ∈ wsU) (h3 : Cond.selects y.cls y y ∈ wsU) (h4 : Cond.initialized y.cls ∈ wsU) (h5 : Cond.code y bytes maxL ret ∈ wsU) (isC : List Nat) (hn : va_nd isC = true) (hC : isC.map (fun i => ws[i]?) = wc.map some) {ci : Nat} {fs : List Value} {T : u_T} {N : Nat} (he : wc[0]? = some (b, .inr (ci, fs))) (hc : vwCl[ci]? = some (y.cls, T, N))
    (hd : y.cls ≠ "java/lang/invoke/MethodHandle" ∧ y.cls ≠ "java/lang/invoke/VarHandle" ∧ (parseMethodDescriptor y.desc).map (fun d => d.parameters.length) = some n) (hrm : rm.cells = mc ∧ rm.slots = ms ∧ rm.frames + 1 ≤ R.frames ∧ 8 + (maxL + 11) + rm.locals ≤ R.locals) (hAs : As.length = n) (hsize : ls.size = nL) (hst : st0 = As.reverse ++ .ref b :: rest) (hroom : (rest.map fun v => v.category).sum ≤ 8) (hdg : decode cc pc = .ok (.invokevirtual index, 3)) (hf : cells + mc ≤ R.cells ∧ slots + ms ≤ R.slots) :
    va_Run p l e R s m args below meth c H locs cells slots mc ms (F0 m pc ls st0) rest (Qc (Value.ref b :: As).toArray) (va_A wc H.size) := by
  have hWc := hW.sub isC hn hC
  obtain ⟨hx, hb, hown, hts⟩ := hX
  obtain ⟨hPc, hDc, hS, hK, hA⟩ := hWc
  have hG : GoodIn wsU (wsV own index y.cls y (.code y bytes maxL ret :: wsU)) := by
    intro w hw
    rcases List.mem_append.mp (show w ∈ ([.methodLink own index y, .instanceMethod y, .selects y.cls y y, .initialized y.cls] : List Cond) ++ (.code y bytes maxL ret :: wsU) from hw) with z | z
    · simp only [List.mem_cons, List.not_mem_nil, or_false] at z
      rcases z with rfl | rfl | rfl | rfl
      · exact ⟨h1, wU_good h1⟩
      · exact ⟨h2, wU_good h2⟩
      · exact ⟨h3, wU_good h3⟩
      · exact ⟨h4, wU_good h4⟩
    · exact wU_gT h5 w z
  exact va_runV (As := As) (rest := rest) (C := y.cls) ⟨hx, hb, hml, hown, hts⟩ hM (cwV n hts hG rfl hrm.1 hrm.2.1 ⟨rfl, hd⟩ hrm.2.2) ⟨kPre_blind, va_recv hK hPc hc he, fun U hU hV => ⟨rfl, by rw [hU], by rw [hU]; exact hPc, va_K.moved hV.alike hK, hDc.weaken (fun _ _ _ _ => trivial)⟩⟩ rfl hAs hsize hst (lv_room hroom) hdg hf
theorem kRunS (hX : FX p s m c args cc own) (hml : c.maxLocals = nL) (hW : KW D k A s ws H locs) (hM : Met l y (.code y bytes maxL ret :: wsU) rm (kPre D k As wc H.size) Qc mc ms (va_A wc H.size))
    (h1 : Cond.methodLink own index y ∈ wsU) (h2 : Cond.static y ∈ wsU) (h4 : Cond.initialized y.cls ∈ wsU) (h5 : Cond.code y bytes maxL ret ∈ wsU) (isC : List Nat) (hn : va_nd isC = true) (hC : isC.map (fun i => ws[i]?) = wc.map some)
    (hd : y.cls ≠ "java/lang/invoke/MethodHandle" ∧ y.cls ≠ "java/lang/invoke/VarHandle" ∧ (parseMethodDescriptor y.desc).map (fun d => d.parameters.length) = some n) (hrm : rm.cells = mc ∧ rm.slots = ms ∧ rm.frames + 1 ≤ R.frames ∧ 8 + (maxL + 11) + rm.locals ≤ R.locals) (hAs : As.length = n) (hsize : ls.size = nL) (hst : st0 = As.reverse ++ rest) (hroom : (rest.map fun v => v.category).sum ≤ 8) (hdg : decode cc pc = .ok (.invokestatic index, 3)) (hf : cells + mc ≤ R.cells ∧ slots + ms ≤ R.slots) :
    va_Run p l e R s m args below meth c H locs cells slots mc ms (F0 m pc ls st0) rest (Qc As.toArray) (va_A wc H.size) := by
  have hWc := hW.sub isC hn hC
  obtain ⟨hx, hb, hown, hts⟩ := hX
  obtain ⟨hPc, hDc, hS, hK, hA⟩ := hWc
  exact va_runS (As := As) (rest := rest) ⟨hx, hb, hml, hown, hts⟩ hM ⟨callB_of n hts (wU_gT h5) rfl hrm.1 hrm.2.1 (hts _ h4) (hts _ h1) hd hrm.2.2, hts _ h2⟩ ⟨kPre_blind, fun U hU hV => ⟨rfl, by rw [hU], by rw [hU]; exact hPc, va_K.moved hV.alike hK, hDc.weaken (fun _ _ _ _ => trivial)⟩⟩ rfl hAs hsize hst (lv_room hroom) hdg hf
theorem kRunI (hX : FX p s m c args cc own) (hml : c.maxLocals = nL) (hW : KW D k A s ws H locs) (hM : Met l y (.code y bytes maxL none :: wsU) rm (kPre D k (.ref b :: As) wc H.size) Qc mc ms (va_A wc H.size))
    (h1 : Cond.methodLink own index y ∈ wsU) (h2 : Cond.instanceMethod y ∈ wsU) (h4 : Cond.initialized y.cls ∈ wsU) (h5 : Cond.code y bytes maxL none ∈ wsU) (hy1 : y.name = "<init>") (isC : List Nat) (hn : va_nd isC = true) (hC : isC.map (fun i => ws[i]?) = wc.map some)
    (hd : y.cls ≠ "java/lang/invoke/MethodHandle" ∧ y.cls ≠ "java/lang/invoke/VarHandle" ∧ (parseMethodDescriptor y.desc).map (fun d => d.parameters.length) = some n) (hrm : rm.cells = mc ∧ rm.slots = ms ∧ rm.frames + 1 ≤ R.frames ∧ 8 + (maxL + 11) + rm.locals ≤ R.locals) (hAs : As.length = n) (hsize : ls.size = nL) (hst : st0 = As.reverse ++ .ref b :: rest) (hroom : (rest.map fun v => v.category).sum ≤ 8) (hdg : decode cc pc = .ok (.invokespecial index, 3)) (hf : cells + mc ≤ R.cells ∧ slots + ms ≤ R.slots) :
    va_Run p l e R s m args below meth c H locs cells slots mc ms (F0 m pc ls st0) rest (Qc (Value.ref b :: As).toArray) (va_A wc H.size) := by
  have hWc := hW.sub isC hn hC
  obtain ⟨hx, hb, hown, hts⟩ := hX
  obtain ⟨hPc, hDc, hS, hK, hA⟩ := hWc
  exact va_runI (As := As) (rest := rest) ⟨hx, hb, hml, hown, hts⟩ hM (cwI n hts (wU_gT h5) rfl hrm.1 hrm.2.1 (hts _ h4) (hts _ h1) (hts _ h2) hy1 hd hrm.2.2) ⟨kPre_blind, fun U hU hV => ⟨rfl, by rw [hU], by rw [hU]; exact hPc, va_K.moved hV.alike hK, hDc.weaken (fun _ _ _ _ => trivial)⟩⟩ rfl hAs hsize hst (lv_room hroom) hdg hf
end KC
/-- the cells at the places is, put anew -/
def setAll : va_W → List Nat → va_W → va_W
  | ws, i :: is, x :: xs => setAll (ws.set i x) is xs
  | ws, _, _ => ws
theorem setAll_at : ∀ (is : List Nat) (ws xs : va_W) (j : Nat) (q : Nat × va_E), (setAll ws is xs)[j]? = some q → (∃ n : Nat, is[n]? = some j ∧ xs[n]? = some q) ∨ ((j ∉ is ∨ is.length ≠ xs.length) ∧ ws[j]? = some q) := by
  intro is
  induction is with
  | nil => intro ws xs j q h; exact Or.inr ⟨Or.inl List.not_mem_nil, by simpa [setAll] using h⟩
  | cons i is ih =>
    intro ws xs j q h
    cases xs with
    | nil => exact Or.inr ⟨Or.inr (by simp), h⟩
    | cons x xs =>
      rcases ih (ws.set i x) xs j q h with ⟨n, h1, h2⟩ | ⟨h1, h2⟩
      · exact Or.inl ⟨n + 1, h1, h2⟩
      · by_cases hj : j = i
        · subst hj
          have hl : j < ws.length := by
            have := (List.getElem?_eq_some_iff.mp h2).1
            simpa using this
          rw [List.getElem?_set_self hl] at h2
          exact Or.inl ⟨0, rfl, h2⟩
        · rw [List.getElem?_set_ne (Ne.symm hj)] at h2
          refine Or.inr ⟨?_, h2⟩
          rcases h1 with h1 | h1
          · exact Or.inl (fun z => (List.mem_cons.mp z).elim hj h1)
          · exact Or.inr (by simpa using h1)
theorem nd_at {l : List Nat} (h : va_nd l = true) {i j a : Nat} (hi : l[i]? = some a) (hj : l[j]? = some a) : i = j := va_nd_inj l h i j a hi hj
theorem setAll_back {A0 : Nat → Prop} {D : va_G} {cl : List vw_C} {ws wc w1a w1b : va_W} {H H1 : Heap} (hP : va_P D cl ws H) (hD : va_D A0 ws) (isC : List Nat) (hC : isC.map (fun i => ws[i]?) = wc.map some)
    (hk : ∀ q : Nat, q < H.size → ¬ va_A wc H.size q → H1[q]? = H[q]?) (hF : ∀ q, va_A wc H.size q → A0 q) (hle : w1a.length = wc.length) (hP1 : va_P D cl (w1a ++ w1b) H1) (hD1 : va_D (va_A wc H.size) (w1a ++ w1b)) : va_P D cl (setAll ws isC w1a ++ w1b) H1 ∧ va_D A0 (setAll ws isC w1a ++ w1b) := by
  have hlc : isC.length = wc.length := by
    have h1 := congrArg List.length hC
    simpa using h1
  have hlen : isC.length = w1a.length := by omega
  have atC : ∀ (n i : Nat), isC[n]? = some i → ∃ q, wc[n]? = some q ∧ ws[i]? = some q := by
    intro n i hi
    have h1 : (isC.map (fun i => ws[i]?))[n]? = some (ws[i]?) := by rw [List.getElem?_map, hi]; rfl
    rw [hC, List.getElem?_map] at h1
    cases hq : wc[n]? with
    | none => rw [hq] at h1; cases h1
    | some q => rw [hq] at h1; exact ⟨q, rfl, (Option.some.inj h1).symm⟩
  have notA : ∀ (j : Nat) (q : Nat × va_E), j ∉ isC → ws[j]? = some q → ¬ va_A wc H.size q.1 := by
    intro j q hj hq h
    rcases h with ⟨n, e, h⟩ | h
    · have hn : n < wc.length := (List.getElem?_eq_some_iff.mp h).1
      have hn2 : n < isC.length := by omega
      obtain ⟨r, h3, h4⟩ := atC n (isC[n]) (List.getElem?_eq_getElem hn2)
      have h5 : r = (q.1, e) := Option.some.inj (h3.symm.trans h)
      have h6 := hD.1 j (isC[n]) q r hq h4 (by rw [h5])
      exact hj (by rw [h6]; exact List.getElem_mem hn2)
    · have := (hP j q hq).lt
      omega
  have inA : ∀ (n : Nat) (q : Nat × va_E), w1a[n]? = some q → (w1a ++ w1b)[n]? = some q := by
    intro n q h
    rw [List.getElem?_append_left (List.getElem?_eq_some_iff.mp h).1]; exact h
  have inB : ∀ (n : Nat) (q : Nat × va_E), w1b[n]? = some q → (w1a ++ w1b)[w1a.length + n]? = some q := by
    intro n q h
    rw [List.getElem?_append_right (by omega), show w1a.length + n - w1a.length = n by omega]; exact h
  have at2 : ∀ (j : Nat) (q : Nat × va_E), (setAll ws isC w1a)[j]? = some q → (∃ n : Nat, isC[n]? = some j ∧ w1a[n]? = some q) ∨ (j ∉ isC ∧ ws[j]? = some q) := by
    intro j q h
    rcases setAll_at isC ws w1a j q h with h1 | ⟨h1, h2⟩
    · exact Or.inl h1
    · exact Or.inr ⟨h1.resolve_right (fun z => z hlen), h2⟩
  refine ⟨va_P.app ?_ ?_, va_D.app ⟨?_, ?_⟩ ?_ ?_⟩
  · intro j q h
    rcases at2 j q h with ⟨n, h1, h2⟩ | ⟨h1, h2⟩
    · exact hP1 n q (inA n q h2)
    · exact (hP j q h2).kept (hk q.1 (hP j q h2).lt (notA j q h1 h2))
  · intro j q hq
    exact hP1 _ q (inB j q hq)
  · intro i j x y hx hy hxy
    rcases at2 i x hx with ⟨n, h1, h2⟩ | ⟨h1, h2⟩ <;> rcases at2 j y hy with ⟨n', h1', h2'⟩ | ⟨h1', h2'⟩
    · have e := hD1.1 n n' x y (inA n x h2) (inA n' y h2') hxy
      subst e
      exact Option.some.inj (h1.symm.trans h1')
    · exact absurd (by rw [← hxy]; exact hD1.2 n x (inA n x h2)) (notA j y h1' h2')
    · exact absurd (by rw [hxy]; exact hD1.2 n' y (inA n' y h2')) (notA i x h1 h2)
    · exact hD.1 i j x y h2 h2' hxy
  · intro j q hq
    rcases at2 j q hq with ⟨n, h1, h2⟩ | ⟨h1, h2⟩
    · exact hF _ (hD1.2 n q (inA n q h2))
    · exact hD.2 j q h2
  · refine ⟨fun i j x y hx hy hxy => ?_, fun j q hq => hF q.1 (hD1.2 _ q (inB j q hq))⟩
    have h1 := hD1.1 _ _ x y (inB i x hx) (inB j y hy) hxy
    omega
  · intro i j x y hx hy hxy
    rcases at2 i x hx with ⟨n, h1, h2⟩ | ⟨h1, h2⟩
    · have e := hD1.1 _ _ x y (inA n x h2) (inB j y hy) hxy
      have := (List.getElem?_eq_some_iff.mp h2).1
      omega
    · exact notA i x h1 h2 (by rw [hxy]; exact hD1.2 _ y (inB j y hy))
section KC2
variable {p : Program} {l : Launch} {e : Env} {R : Room} {s : State} {m : MethodId} {args : Array Value} {below : List Frame} {meth : Method} {c : Code} {H : Heap} {locs : List Loc} {cells slots : Nat} {Q : State → Prop}
variable {cc : ByteArray} {pc : Nat} {ls : Array Slot} {rest st0 : List Value} {own : String} {D : va_G} {k : Nat → ClassId} {A : Nat → Prop} {ws : va_W} {S : Type} {w1 w1b : S → va_W} {mc ms : Nat} {wc : va_W}
theorem kBack (hW : KW D k A s ws H locs) (isC : List Nat) (hC : isC.map (fun i => ws[i]?) = wc.map some) {u : S} {t : State} {H1 : Heap} {locs1 : List Loc} (ht : t.heap = H1) (had : (w1 u).length = wc.length) (hB : kB D k (fun u => w1 u ++ w1b u) (va_A wc H.size) u t) (hk1 : ∀ q : Nat, q < H.size → ¬ va_A wc H.size q → H1[q]? = H[q]?) (hS1 : va_S A s.heap H1 locs1) : KW D k A s (setAll ws isC (w1 u) ++ w1b u) H1 locs1 := by
  obtain ⟨hP, hD, hS, hK, hA⟩ := hW
  obtain ⟨hP1, hK1, hD1⟩ := hB
  rw [ht] at hP1
  obtain ⟨a1, a2⟩ := setAll_back hP hD isC hC hk1 (va_free hD hS hA isC hC) had hP1 hD1
  exact ⟨a1, a2, hS1, hK, hA⟩
theorem kBack0 (hW : KW D k A s ws H locs) (isC : List Nat) (hC : isC.map (fun i => ws[i]?) = wc.map some) {u : S} {t : State} {H1 : Heap} {locs1 : List Loc} (ht : t.heap = H1) (had : (w1 u).length = wc.length) (hB : kB D k w1 (va_A wc H.size) u t) (hk1 : ∀ q : Nat, q < H.size → ¬ va_A wc H.size q → H1[q]? = H[q]?) (hS1 : va_S A s.heap H1 locs1) : KW D k A s (setAll ws isC (w1 u)) H1 locs1 := by
  have h := kBack (w1 := w1) (w1b := fun _ => []) hW isC hC ht had (by obtain ⟨h1, h2, h3⟩ := hB; exact ⟨by show va_P D vwCl (w1 u ++ []) t.heap; rw [List.append_nil]; exact h1, h2, by show va_D _ (w1 u ++ []); rw [List.append_nil]; exact h3⟩) hk1 hS1
  rwa [List.append_nil] at h
theorem kCi {post : Int32 → S → Prop} {a : Array Value} (hW : KW D k A s ws H locs) (isC : List Nat) (hC : isC.map (fun i => ws[i]?) = wc.map some) (had : ∀ u : S, (w1 u).length = wc.length)
    (hr : va_Run p l e R s m args below meth c H locs cells slots mc ms (F0 m pc ls st0) rest (va_Qi post (kB D k w1 (va_A wc H.size)) (va_A wc H.size) a) (va_A wc H.size))
    (kk : ∀ (r : Int32) (u : S) (H1 : Heap) (locs1 : List Loc), post r u → KW D k A s (setAll ws isC (w1 u)) H1 locs1 → W p l e R s m args below meth c H1 locs1 (cells + mc) (slots + ms) Q (F0 m (pc + 3) ls (.int r :: rest))) : W p l e R s m args below meth c H locs cells slots Q (F0 m pc ls st0) :=
  va_calli hr hW.2.2.1 (fun q _ h => va_free hW.2.1 hW.2.2.1 hW.2.2.2.2 isC hC q h) (va_free hW.2.1 hW.2.2.1 hW.2.2.2.2 isC hC) (fun r u t H1 locs1 ht _ hp hB _ hk1 hS1 => kk r u H1 locs1 hp (kBack0 hW isC hC ht (had u) hB hk1 hS1))
theorem kCl {post : Int64 → S → Prop} {a : Array Value} (hW : KW D k A s ws H locs) (isC : List Nat) (hC : isC.map (fun i => ws[i]?) = wc.map some) (had : ∀ u : S, (w1 u).length = wc.length)
    (hr : va_Run p l e R s m args below meth c H locs cells slots mc ms (F0 m pc ls st0) rest (va_Ql post (kB D k w1 (va_A wc H.size)) (va_A wc H.size) a) (va_A wc H.size))
    (kk : ∀ (r : Int64) (u : S) (H1 : Heap) (locs1 : List Loc), post r u → KW D k A s (setAll ws isC (w1 u)) H1 locs1 → W p l e R s m args below meth c H1 locs1 (cells + mc) (slots + ms) Q (F0 m (pc + 3) ls (.long r :: rest))) : W p l e R s m args below meth c H locs cells slots Q (F0 m pc ls st0) :=
  va_calll hr hW.2.2.1 (fun q _ h => va_free hW.2.1 hW.2.2.1 hW.2.2.2.2 isC hC q h) (va_free hW.2.1 hW.2.2.1 hW.2.2.2.2 isC hC) (fun r u t H1 locs1 ht _ hp hB _ hk1 hS1 => kk r u H1 locs1 hp (kBack0 hW isC hC ht (had u) hB hk1 hS1))
theorem kCv {post : S → Prop} {a : Array Value} (hW : KW D k A s ws H locs) (isC : List Nat) (hC : isC.map (fun i => ws[i]?) = wc.map some) (had : ∀ u : S, (w1 u).length = wc.length)
    (hr : va_Run p l e R s m args below meth c H locs cells slots mc ms (F0 m pc ls st0) rest (va_Qv post (kB D k w1 (va_A wc H.size)) (va_A wc H.size) a) (va_A wc H.size))
    (kk : ∀ (u : S) (H1 : Heap) (locs1 : List Loc), post u → KW D k A s (setAll ws isC (w1 u)) H1 locs1 → W p l e R s m args below meth c H1 locs1 (cells + mc) (slots + ms) Q (F0 m (pc + 3) ls rest)) : W p l e R s m args below meth c H locs cells slots Q (F0 m pc ls st0) :=
  va_callv hr hW.2.2.1 (fun q _ h => va_free hW.2.1 hW.2.2.1 hW.2.2.2.2 isC hC q h) (va_free hW.2.1 hW.2.2.1 hW.2.2.2.2 isC hC) (fun u t H1 locs1 ht _ hp hB _ hk1 hS1 => kk u H1 locs1 hp (kBack0 hW isC hC ht (had u) hB hk1 hS1))
/-- the same where the callee makes cells: w1b come behind -/
theorem kCiN {post : Int32 → S → Prop} {a : Array Value} (hW : KW D k A s ws H locs) (isC : List Nat) (hC : isC.map (fun i => ws[i]?) = wc.map some) (had : ∀ u : S, (w1 u).length = wc.length)
    (hr : va_Run p l e R s m args below meth c H locs cells slots mc ms (F0 m pc ls st0) rest (va_Qi post (kB D k (fun u => w1 u ++ w1b u) (va_A wc H.size)) (va_A wc H.size) a) (va_A wc H.size))
    (kk : ∀ (r : Int32) (u : S) (H1 : Heap) (locs1 : List Loc), post r u → KW D k A s (setAll ws isC (w1 u) ++ w1b u) H1 locs1 → W p l e R s m args below meth c H1 locs1 (cells + mc) (slots + ms) Q (F0 m (pc + 3) ls (.int r :: rest))) : W p l e R s m args below meth c H locs cells slots Q (F0 m pc ls st0) :=
  va_calli hr hW.2.2.1 (fun q _ h => va_free hW.2.1 hW.2.2.1 hW.2.2.2.2 isC hC q h) (va_free hW.2.1 hW.2.2.1 hW.2.2.2.2 isC hC) (fun r u t H1 locs1 ht _ hp hB _ hk1 hS1 => kk r u H1 locs1 hp (kBack hW isC hC ht (had u) hB hk1 hS1))
theorem kCvN {post : S → Prop} {a : Array Value} (hW : KW D k A s ws H locs) (isC : List Nat) (hC : isC.map (fun i => ws[i]?) = wc.map some) (had : ∀ u : S, (w1 u).length = wc.length)
    (hr : va_Run p l e R s m args below meth c H locs cells slots mc ms (F0 m pc ls st0) rest (va_Qv post (kB D k (fun u => w1 u ++ w1b u) (va_A wc H.size)) (va_A wc H.size) a) (va_A wc H.size))
    (kk : ∀ (u : S) (H1 : Heap) (locs1 : List Loc), post u → KW D k A s (setAll ws isC (w1 u) ++ w1b u) H1 locs1 → W p l e R s m args below meth c H1 locs1 (cells + mc) (slots + ms) Q (F0 m (pc + 3) ls rest)) : W p l e R s m args below meth c H locs cells slots Q (F0 m pc ls st0) :=
  va_callv hr hW.2.2.1 (fun q _ h => va_free hW.2.1 hW.2.2.1 hW.2.2.2.2 isC hC q h) (va_free hW.2.1 hW.2.2.1 hW.2.2.2.2 isC hC) (fun u t H1 locs1 ht _ hp hB _ hk1 hS1 => kk u H1 locs1 hp (kBack hW isC hC ht (had u) hB hk1 hS1))
end KC2
/-- an array's contents beyond its length don't count -/
theorem kcong {D : va_G} {k : Nat → ClassId} {A : Nat → Prop} {s : State} {ws : va_W} {H : Heap} {locs : List Loc} (h : KW D k A s ws H locs) (q0 : Nat) {a n : Nat} {cA : ClassId} {f f' : Nat → Int32} (he : ws[q0]? = some (a, .inl (cA, n, .inl f))) (hf : ∀ j, j < n → f j = f' j) : KW D k A s (ws.set q0 (a, .inl (cA, n, .inl f'))) H locs := by
  obtain ⟨hP, hD, hS, hK, hA⟩ := h
  have h0 := hP q0 _ he
  refine ⟨hP.set hD he ?_ (fun _ _ => rfl), hD.set he, hS, hK, hA⟩
  have e1 : H[a]? = some (vp_cell cA (n, .inl f)) := h0
  show H[a]? = some (vp_cell cA (n, .inl f'))
  rw [e1]
  have : arrV cA n (fun j => Value.int (f j)) = arrV cA n (fun j => Value.int (f' j)) := by
    unfold arrV
    congr 1
    apply Array.ext
    · simp
    · intro i h1 h2
      simp at h1 ⊢
      exact hf i h1
  rw [vp_cell_i, vp_cell_i, this]
end
section
/-! MORE ROWS over KW: raw int arrays, booleans, arrays of references, making cells, copying -/
/-- numbers from -1 on -/
def nM (n : Nat) : Int32 := nI n - 1
def aM (F : Nat → Nat) : Nat → Int32 := fun j => nM (F j)
theorem nM_s (n : Nat) : nM (n + 1) = nI n := nI_pred n
theorem nM_0 : nM 0 = -1 := by decide +kernel
theorem nM_neg {n : Nat} (h : n < 2 ^ 31) : nM n < 0 ↔ n = 0 := by
  cases n with
  | zero => simp [nM_0]
  | succ n => rw [nM_s]; exact ⟨fun q => absurd q (nI_pos (by omega)), fun q => by omega⟩
theorem nM_ge {n : Nat} (h : n < 2 ^ 31) : 0 ≤ nM n ↔ 0 < n := by
  cases n with
  | zero => simp [nM_0]
  | succ n => rw [nM_s]; exact ⟨fun _ => by omega, fun _ => nI_pos' (by omega)⟩
theorem upd_a {α : Type} {f g : Nat → α} (h : ∀ j, f j = g j) : f = g := funext h
theorem aM_up (F : Nat → Nat) (k v : Nat) : upd (aM F) k (nM v) = aM (va_up F k v) := by
  funext j
  by_cases h : j = k
  · subst h; rw [pk_us]; show _ = nM _; rw [va_up_self]
  · rw [pk_un h]; show nM _ = nM _; rw [va_up_ne _ _ h]
section KB2
variable {p : Program} {l : Launch} {e : Env} {R : Room} {s : State} {m : MethodId} {args : Array Value} {below : List Frame} {meth : Method} {c : Code} {H : Heap} {locs : List Loc} {cells slots : Nat} {Q : State → Prop}
variable {cc : ByteArray} {pc : Nat} {ls : Array Slot} {rest : List Value} {own : String} {D : va_G} {k : Nat → ClassId} {A : Nat → Prop} {ws : va_W}
theorem kriald (hX : FX p s m c args cc own) (hW : KW D k A s ws H locs) (q0 : Nat) {a n i : Nat} {f : Nat → Int32} (he : ws[q0]? = some (a, .inl (k 0, n, .inl f))) (hi : i < n) (hn : n < 2 ^ 31) (hdg : decode cc pc = .ok (.iaload, 1))
    (kk : W p l e R s m args below meth c H locs cells slots Q (F0 m (pc + 1) ls (.int (f i) :: rest))) : W p l e R s m args below meth c H locs cells slots Q (F0 m pc ls (.int (nI i) :: .ref a :: rest)) :=
  va_iald hX.1 hX.2.1 hW.2.2.2.1 hW.1 q0 0 he rfl (vp_in_nI hi hn) hdg (tpi (by rw [nI_clamp (by omega)]) kk)
theorem kriast (hX : FX p s m c args cc own) (hW : KW D k A s ws H locs) (q0 : Nat) {a n i : Nat} {x : Int32} {f : Nat → Int32} (he : ws[q0]? = some (a, .inl (k 0, n, .inl f))) (hi : i < n) (hn : n < 2 ^ 31) (hdg : decode cc pc = .ok (.iastore, 1))
    (kk : ∀ (H1 : Heap) (locs1 : List Loc), KW D k A s (ws.set q0 (a, .inl (k 0, n, .inl (upd f i x)))) H1 locs1 → W p l e R s m args below meth c H1 locs1 cells slots Q (F0 m (pc + 1) ls rest)) : W p l e R s m args below meth c H locs cells slots Q (F0 m pc ls (.int x :: .int (nI i) :: .ref a :: rest)) := by
  obtain ⟨hP, hD, hS, hK, hA⟩ := hW
  refine va_iast hX.1 hX.2.1 hK hP hD hS q0 0 he rfl (vp_in_nI hi hn) hdg (fun H1 locs1 a1 a2 a3 => kk H1 locs1 ?_)
  rw [nI_clamp (by omega)] at a1 a2
  exact ⟨a1, a2, a3, hK, hA⟩
theorem krlast (hX : FX p s m c args cc own) (hW : KW D k A s ws H locs) (q0 : Nat) {a n i : Nat} {x : Int64} {f : Nat → Int64} (he : ws[q0]? = some (a, .inl (k 1, n, .inr (.inl f)))) (hi : i < n) (hn : n < 2 ^ 31) (hdg : decode cc pc = .ok (.lastore, 1))
    (kk : ∀ (H1 : Heap) (locs1 : List Loc), KW D k A s (ws.set q0 (a, .inl (k 1, n, .inr (.inl (vp_updL f i x))))) H1 locs1 → W p l e R s m args below meth c H1 locs1 cells slots Q (F0 m (pc + 1) ls rest)) : W p l e R s m args below meth c H locs cells slots Q (F0 m pc ls (.long x :: .int (nI i) :: .ref a :: rest)) := by
  obtain ⟨hP, hD, hS, hK, hA⟩ := hW
  refine va_last hX.1 hX.2.1 hK hP hD hS q0 1 he rfl (vp_in_nI hi hn) hdg (fun H1 locs1 a1 a2 a3 => kk H1 locs1 ?_)
  rw [nI_clamp (by omega)] at a1 a2
  exact ⟨a1, a2, a3, hK, hA⟩
theorem kzald (hX : FX p s m c args cc own) (hW : KW D k A s ws H locs) (q0 : Nat) {a n i : Nat} {F : Nat → Nat} (he : ws[q0]? = some (a, .inl (k 2, n, .inl (aN F)))) (hi : i < n) (hn : n < 2 ^ 31) (hdg : decode cc pc = .ok (.baload, 1))
    (kk : W p l e R s m args below meth c H locs cells slots Q (F0 m (pc + 1) ls (.int (nI (F i)) :: rest))) : W p l e R s m args below meth c H locs cells slots Q (F0 m pc ls (.int (nI i) :: .ref a :: rest)) :=
  va_zald hX.1 hX.2.1 hW.2.2.2.1 hW.1 q0 2 he rfl (vp_in_nI hi hn) hdg (tpi (aN_at (by omega)) kk)
theorem kzast (hX : FX p s m c args cc own) (hW : KW D k A s ws H locs) (q0 : Nat) {a n i v : Nat} {F : Nat → Nat} (he : ws[q0]? = some (a, .inl (k 2, n, .inl (aN F)))) (hi : i < n) (hn : n < 2 ^ 31) (hv : v ≤ 1) (hdg : decode cc pc = .ok (.bastore, 1))
    (kk : ∀ (H1 : Heap) (locs1 : List Loc), KW D k A s (ws.set q0 (a, .inl (k 2, n, .inl (aN (va_up F i v))))) H1 locs1 → W p l e R s m args below meth c H1 locs1 cells slots Q (F0 m (pc + 1) ls rest)) : W p l e R s m args below meth c H locs cells slots Q (F0 m pc ls (.int (nI v) :: .int (nI i) :: .ref a :: rest)) := by
  obtain ⟨hP, hD, hS, hK, hA⟩ := hW
  refine va_zast hX.1 hX.2.1 hK hP hD hS q0 2 he rfl (vp_in_nI hi hn) hdg (fun H1 locs1 a1 a2 a3 => kk H1 locs1 ?_)
  have hb : vp_nar .boolean (nI v) = nI v := by
    rcases (show v = 0 ∨ v = 1 by omega) with rfl | rfl <;> decide +kernel
  rw [nI_clamp (by omega), hb, aN_up] at a1 a2
  exact ⟨a1, a2, a3, hK, hA⟩
theorem kaald (hX : FX p s m c args cc own) (hW : KW D k A s ws H locs) (q0 t0 : Nat) {a n i b : Nat} {C : String} {f : Nat → Option Nat} (he : ws[q0]? = some (a, .inl (k t0, n, .inr (.inr (.inr (.inr f)))))) (ht : (tyA k)[t0]? = some (k t0, .object C)) (hi : i < n) (hn : n < 2 ^ 31) (hf : f i = some b) (hdg : decode cc pc = .ok (.aaload, 1))
    (kk : W p l e R s m args below meth c H locs cells slots Q (F0 m (pc + 1) ls (.ref b :: rest))) : W p l e R s m args below meth c H locs cells slots Q (F0 m pc ls (.int (nI i) :: .ref a :: rest)) :=
  va_aldq hX.1 hX.2.1 hW.2.2.2.1 hW.1 q0 t0 he ht (vp_in_nI hi hn) hdg (by rw [nI_clamp (by omega), hf]; exact kk)
theorem kaast (hX : FX p s m c args cc own) (hW : KW D k A s ws H locs) (q0 t0 qk ci : Nat) {a n i v : Nat} {r : vw_C} {vs : List Value} {f : Nat → Option Nat} (he : ws[q0]? = some (a, .inl (k t0, n, .inr (.inr (.inr (.inr f)))))) (ht : (tyA k)[t0]? = some (k t0, .object r.1)) (hv : ws[qk]? = some (v, .inr (ci, vs))) (hc : vwCl[ci]? = some r) (hi : i < n) (hn : n < 2 ^ 31) (hdg : decode cc pc = .ok (.aastore, 1))
    (kk : ∀ (H1 : Heap) (locs1 : List Loc), KW D k A s (ws.set q0 (a, .inl (k t0, n, .inr (.inr (.inr (.inr (va_up f i (some v)))))))) H1 locs1 → W p l e R s m args below meth c H1 locs1 cells slots Q (F0 m (pc + 1) ls rest)) : W p l e R s m args below meth c H locs cells slots Q (F0 m pc ls (.ref v :: .int (nI i) :: .ref a :: rest)) := by
  obtain ⟨hP, hD, hS, hK, hA⟩ := hW
  refine va_astq hX.1 hX.2.1 hK hP hD hS q0 t0 qk ci he ht hv hc (vp_in_nI hi hn) hdg (fun H1 locs1 a1 a2 a3 => kk H1 locs1 ?_)
  rw [nI_clamp (by omega)] at a1 a2
  exact ⟨a1, a2, a3, hK, hA⟩
theorem kalen (hX : FX p s m c args cc own) (hW : KW D k A s ws H locs) (q0 t0 : Nat) {a n : Nat} {x : (Nat → Int32) ⊕ (Nat → Int64) ⊕ (Nat → UInt32) ⊕ (Nat → UInt64) ⊕ (Nat → Option Nat)} (he : ws[q0]? = some (a, .inl (k t0, n, x))) {ty : FieldType} (ht : (tyA k)[t0]? = some (k t0, ty)) (hdg : decode cc pc = .ok (.arraylength, 1))
    (kk : W p l e R s m args below meth c H locs cells slots Q (F0 m (pc + 1) ls (.int (nI n) :: rest))) : W p l e R s m args below meth c H locs cells slots Q (F0 m pc ls (.ref a :: rest)) :=
  va_alen hX.1 hX.2.1 hW.2.2.2.1 hW.1 q0 t0 he ht rfl hdg kk
theorem kobj (hX : FX p s m c args cc own) (hml : c.maxLocals = ls.size) {idx a : Nat} (h1 : Cond.methodLink own idx objectInit ∈ wsU) (hf : 1 ≤ R.frames) (hl : (rest.map fun v => v.category).sum + 12 ≤ R.locals) (hdg : decode cc pc = .ok (.invokespecial idx, 3))
    (kk : W p l e R s m args below meth c H locs cells slots Q (F0 m (pc + 3) ls rest)) : W p l e R s m args below meth c H locs cells slots Q (F0 m pc ls (.ref a :: rest)) := by
  obtain ⟨hx, hb, hown, hts⟩ := hX
  refine W.objInit hx hb hown (hts _ h1) (hts _ im_Object_init) (hts _ cd_Object_init) rfl hml.symm rfl hdg hf ?_ kk
  show 2 * 0 + _ + 12 ≤ _
  omega
theorem knewI (hX : FX p s m c args cc own) (hW : KW D k A s ws H locs) {n : Nat} (hn : n < 2 ^ 27) (hc : cells + 1 ≤ R.cells) (hs : slots + n ≤ R.slots) (hdg : decode cc pc = .ok (.newarray .int, 2))
    (kk : ∀ (q : Nat) (H1 : Heap), KW D k A s (ws ++ [(q, .inl (k 0, n, .inl (aN (fun _ => 0))))]) H1 locs → W p l e R s m args below meth c H1 locs (cells + 1) (slots + n) Q (F0 m (pc + 2) ls (.ref q :: rest))) : W p l e R s m args below meth c H locs cells slots Q (F0 m pc ls (.int (nI n) :: rest)) := by
  obtain ⟨hP, hD, hS, hK, hA⟩ := hW
  refine va_newa (a0 := (n, .inl (aN (fun _ => 0)))) (atype := .int) (ty := .int) hX.1 hX.2.1 (hX.2.2.2 _ ac_int) rfl hK hP hD hS hA (fun cA => rfl) (nI_pos (by omega)) (nI_clamp (by omega)) (by simp [componentBytes]; omega) hc hs hdg (fun q cA H1 b1 b2 b3 b4 => ?_)
  have e0 : s.vm.findClass ("[" ++ FieldType.int.toString) = some (k 0) := (hK.2 0 (k 0, .int) rfl).2
  have e1 : s.vm.findClass ("[" ++ FieldType.int.toString) = some cA := (b1.2 5 (cA, .int) rfl).2
  have e2 : cA = k 0 := Option.some.inj (e1.symm.trans e0)
  subst e2
  exact kk q H1 ⟨b2, b3, b4, hK, hA⟩
theorem knewJ (hX : FX p s m c args cc own) (hW : KW D k A s ws H locs) {n : Nat} (hn : n < 2 ^ 26) (hc : cells + 1 ≤ R.cells) (hs : slots + n ≤ R.slots) (hdg : decode cc pc = .ok (.newarray .long, 2))
    (kk : ∀ (q : Nat) (H1 : Heap), KW D k A s (ws ++ [(q, .inl (k 1, n, .inr (.inl (aL (fun _ => 0)))))]) H1 locs → W p l e R s m args below meth c H1 locs (cells + 1) (slots + n) Q (F0 m (pc + 2) ls (.ref q :: rest))) : W p l e R s m args below meth c H locs cells slots Q (F0 m pc ls (.int (nI n) :: rest)) := by
  obtain ⟨hP, hD, hS, hK, hA⟩ := hW
  refine va_newa (a0 := (n, .inr (.inl (aL (fun _ => 0))))) (atype := .long) (ty := .long) hX.1 hX.2.1 (hX.2.2.2 _ ac_long) rfl hK hP hD hS hA (fun cA => rfl) (nI_pos (by omega)) (nI_clamp (by omega)) (by simp [componentBytes]; omega) hc hs hdg (fun q cA H1 b1 b2 b3 b4 => ?_)
  have e0 : s.vm.findClass ("[" ++ FieldType.long.toString) = some (k 1) := (hK.2 1 (k 1, .long) rfl).2
  have e1 : s.vm.findClass ("[" ++ FieldType.long.toString) = some cA := (b1.2 5 (cA, .long) rfl).2
  have e2 : cA = k 1 := Option.some.inj (e1.symm.trans e0)
  subst e2
  exact kk q H1 ⟨b2, b3, b4, hK, hA⟩
theorem knewZ (hX : FX p s m c args cc own) (hW : KW D k A s ws H locs) {n : Nat} (hn : n < 2 ^ 27) (hc : cells + 1 ≤ R.cells) (hs : slots + n ≤ R.slots) (hdg : decode cc pc = .ok (.newarray .boolean, 2))
    (kk : ∀ (q : Nat) (H1 : Heap), KW D k A s (ws ++ [(q, .inl (k 2, n, .inl (aN (fun _ => 0))))]) H1 locs → W p l e R s m args below meth c H1 locs (cells + 1) (slots + n) Q (F0 m (pc + 2) ls (.ref q :: rest))) : W p l e R s m args below meth c H locs cells slots Q (F0 m pc ls (.int (nI n) :: rest)) := by
  obtain ⟨hP, hD, hS, hK, hA⟩ := hW
  refine va_newa (a0 := (n, .inl (aN (fun _ => 0)))) (atype := .boolean) (ty := .boolean) hX.1 hX.2.1 (hX.2.2.2 _ ac_boolean) rfl hK hP hD hS hA (fun cA => rfl) (nI_pos (by omega)) (nI_clamp (by omega)) (by simp [componentBytes]; omega) hc hs hdg (fun q cA H1 b1 b2 b3 b4 => ?_)
  have e0 : s.vm.findClass ("[" ++ FieldType.boolean.toString) = some (k 2) := (hK.2 2 (k 2, .boolean) rfl).2
  have e1 : s.vm.findClass ("[" ++ FieldType.boolean.toString) = some cA := (b1.2 5 (cA, .boolean) rfl).2
  have e2 : cA = k 2 := Option.some.inj (e1.symm.trans e0)
  subst e2
  exact kk q H1 ⟨b2, b3, b4, hK, hA⟩
theorem knew (hX : FX p s m c args cc own) (hW : KW D k A s ws H locs) {C : String} {T : u_T} {N ci index : Nat} (hin : ∀ w ∈ u_ws C T N, w ∈ wsU) (ty : Nat → FieldType) (hty : ∀ k, k < N → parseFieldDescriptor (T k).2.2.1 = some (ty k)) (h1 : Cond.classLink own index C ∈ wsU) (h2 : Cond.instantiable C N ∈ wsU) (h3 : Cond.initialized C ∈ wsU) (hcl : vwCl[ci]? = some (C, T, N)) {fs : List Value} (hfs : ∀ j, j < N → defaultValue (ty j) = vp_V fs j) (hc : cells + 1 ≤ R.cells) (hs : slots + N ≤ R.slots) (hdg : decode cc pc = .ok (.new index, 3))
    (kk : ∀ (q : Nat) (H1 : Heap), KW D k A s (ws ++ [(q, .inr (ci, fs))]) H1 locs → W p l e R s m args below meth c H1 locs (cells + 1) (slots + N) Q (F0 m (pc + 3) ls (.ref q :: rest))) : W p l e R s m args below meth c H locs cells slots Q (F0 m pc ls rest) := by
  obtain ⟨hx, hb, hown, hts⟩ := hX
  obtain ⟨hP, hD, hS, hK, hA⟩ := hW
  exact va_new hx hb hts hin ty hty hown (hts _ h1) (hts _ h2) (hts _ h3) hK hP hD hS hA hcl hfs hc hs hdg (fun q H1 b2 b3 b4 => kk q H1 ⟨b2, b3, b4, hK, hA⟩)
theorem kcopy (hX : FX p s m c args cc own) (hml : c.maxLocals = ls.size) (hW : KW D k A s ws H locs) {index : Nat} (h1 : Cond.methodLink own index arraycopyName ∈ wsU) (q0 q1 : Nat) {a0 a n0 n1 sp dp n : Nat} {f g : Nat → Int32} (he0 : ws[q0]? = some (a0, .inl (k 0, n0, .inl f))) (he1 : ws[q1]? = some (a, .inl (k 0, n1, .inl g))) (g1 : sp + n ≤ n0) (g2 : dp + n ≤ n1) (g3 : n0 < 2 ^ 31) (g4 : n1 < 2 ^ 31) (hf : 1 ≤ R.frames) (hlo : (rest.map fun v => v.category).sum + (nativeFrameWords "java/lang/System" "arraycopy" 5 + 11) ≤ R.locals) (hdg : decode cc pc = .ok (.invokestatic index, 3))
    (kk : ∀ (H1 : Heap) (locs1 : List Loc), KW D k A s (ws.set q1 (a, .inl (k 0, n1, .inl (va_cpy f g sp dp n)))) H1 locs1 → W p l e R s m args below meth c H1 locs1 cells slots Q (F0 m (pc + 3) ls rest)) : W p l e R s m args below meth c H locs cells slots Q (F0 m pc ls (.int (nI n) :: .int (nI dp) :: .ref a :: .int (nI sp) :: .ref a0 :: rest)) := by
  obtain ⟨hx, hb, hown, hts⟩ := hX
  obtain ⟨hP, hD, hS, hK, hA⟩ := hW
  have c1 : (nI sp).toNatClampNeg = sp := nI_clamp (by omega)
  have c2 : (nI dp).toNatClampNeg = dp := nI_clamp (by omega)
  have c3 : (nI n).toNatClampNeg = n := nI_clamp (by omega)
  refine va_copyi hx hb hml hown (hts _ h1) (hts _ nm_Sy_arraycopy) (hts _ sm_Sy_arraycopy) (hts _ in_Sy) hK hP hD hS q0 q1 0 0 (ty := .int) he0 he1 rfl rfl rfl (nI_pos (by omega)) (nI_pos (by omega)) (nI_pos (by omega)) (by rw [c1, c3]; exact g1) (by rw [c2, c3]; exact g2) (fun i hi => rfl) hf hlo hdg (fun H1 locs1 b1 b2 b3 => kk H1 locs1 ?_)
  rw [c1, c2, c3] at b1 b2
  exact ⟨b1, b2, b3, hK, hA⟩
end KB2
end
section
/-! THE JDK's own methods: Arrays.fill of ints and of longs -/
def fil {α : Type} (f : Nat → α) (x : α) (i : Nat) : Nat → α := fun j => if j < i then x else f j
theorem fil_0 {α : Type} (f : Nat → α) (x : α) : fil f x 0 = f := by funext j; simp [fil]
theorem fil_s (f : Nat → Int32) (x : Int32) (i : Nat) : upd (fil f x i) i x = fil f x (i + 1) := by
  funext j
  by_cases h : j = i
  · subst h; rw [pk_us]; simp [fil]
  · rw [pk_un h]; simp only [fil]; by_cases h2 : j < i
    · rw [if_pos h2, if_pos (by omega)]
    · rw [if_neg h2, if_neg (by omega)]
theorem fil_sL (f : Nat → Int64) (x : Int64) (i : Nat) : vp_updL (fil f x i) i x = fil f x (i + 1) := by
  funext j
  by_cases h : j = i
  · subst h; rw [pk_uLs]; simp [fil]
  · rw [pk_uLn h]; simp only [fil]; by_cases h2 : j < i
    · rw [if_pos h2, if_pos (by omega)]
    · rw [if_neg h2, if_neg (by omega)]
theorem kcongL {D : va_G} {k : Nat → ClassId} {A : Nat → Prop} {s : State} {ws : va_W} {H : Heap} {locs : List Loc} (h : KW D k A s ws H locs) (q0 : Nat) {a n : Nat} {cA : ClassId} {f f' : Nat → Int64} (he : ws[q0]? = some (a, .inl (cA, n, .inr (.inl f)))) (hf : ∀ j, j < n → f j = f' j) : KW D k A s (ws.set q0 (a, .inl (cA, n, .inr (.inl f')))) H locs := by
  obtain ⟨hP, hD, hS, hK, hA⟩ := h
  have h0 := hP q0 _ he
  refine ⟨hP.set hD he ?_ (fun _ _ => rfl), hD.set he, hS, hK, hA⟩
  have e1 : H[a]? = some (vp_cell cA (n, .inr (.inl f))) := h0
  show H[a]? = some (vp_cell cA (n, .inr (.inl f')))
  rw [e1]
  have : arrV cA n (fun j => Value.long (f j)) = arrV cA n (fun j => Value.long (f' j)) := by
    unfold arrV
    congr 1
    apply Array.ext
    · simp
    · intro i h1 h2
      simp at h1 ⊢
      exact hf i h1
  show some (arrV cA n (fun j => Value.long (f j))) = some (arrV cA n (fun j => Value.long (f' j)))
  rw [this]
set_option maxHeartbeats 4000000 in
set_option maxRecDepth 100000 in
/-- fill(a, x) -/
theorem ok_Ar_fillI (l : Launch) (D : va_G) (k : Nat → ClassId) (sz : Nat) (a n : Nat) (f : Nat → Int32) (x : Int32) (hn : n < 2 ^ 31) : Met l y_Ar_fillI (.code y_Ar_fillI c_Ar_fillI 4 none :: wsU) ({ frames := 0, cells := 0, slots := 0, locals := 0 } : Room) (kPre D k [.ref a, .int x] [(a, .inl (k 0, n, .inl f))] sz) (va_Qv (fun (_ : Unit) => True) (kB D k (fun _ : Unit => [(a, .inl (k 0, n, .inl (fun _ => x)))]) (va_A [(a, .inl (k 0, n, .inl f))] sz)) (va_A [(a, .inl (k 0, n, .inl f))] sz)) 0 0 (va_A [(a, .inl (k 0, n, .inl f))] sz) := by
  refine kMet (by decide) (Nat.le_of_ble_eq_true rfl) ?_
  intro p e s m below meth c ls hX hml hr hlocks hin hsz hW hl Q hQ
  generalize hAe : va_A [(a, .inl (k 0, n, .inl f))] sz = A at hW hQ
  generalize hH0 : s.heap = H at hW ⊢
  generalize hl0 : ([] : List Loc) = locs at hW ⊢
  have hX : FX p s m c [.ref a, .int x].toArray c_Ar_fillI R_Ar := hX
  have hl : lv_has ls 4 [(0, .ref a), (1, .int x)] := hl
  refine lv_iconst (v := nI 0) hX.1 hX.2.1 d_Ar_fillI_0 (by decide) ?_
  refine lv_istore_n (lv' := [(2, .int (nI 0)), (0, .ref a), (1, .int x)]) hX.1 hX.2.1 d_Ar_fillI_1 rfl hl (by decide) rfl (fun ls hl => ?_)
  refine lv_aload_n hX.1 hX.2.1 d_Ar_fillI_2 rfl (lv_at hl 1 rfl) ?_
  refine kalen hX hW 0 0 rfl rfl d_Ar_fillI_3 ?_
  refine lv_istore_n (lv' := [(3, .int (nI n)), (2, .int (nI 0)), (0, .ref a), (1, .int x)]) hX.1 hX.2.1 d_Ar_fillI_4 rfl hl (by decide) rfl (fun ls hl => ?_)
  rw [← fil_0 f x] at hW
  have lp : ∀ (fu : Nat) (i : Nat) (H : Heap) (locs : List Loc) (ls : Array Slot), i ≤ n → n < i + fu →  KW D k A s [(a, .inl (k 0, n, .inl (fil f x i)))] H locs → lv_has ls 4 [(3, .int (nI n)), (2, .int (nI i)), (1, .int x), (0, .ref a)] → W p l e ({ frames := 0, cells := 0, slots := 0, locals := 0 } : Room) s m [.ref a, .int x].toArray below meth c H locs 0 0 Q (F0 m 5 ls []) := by
    intro fu
    induction fu with
    | zero => intro i H locs ls h1 h2 hW hl; exfalso; omega
    | succ fu ih =>
      intro i H locs ls h1 h2 hW hl
      refine lv_iload_n hX.1 hX.2.1 d_Ar_fillI_5 rfl (lv_at hl 1 rfl) ?_
      refine lv_iload_n hX.1 hX.2.1 d_Ar_fillI_6 rfl (lv_at hl 0 rfl) ?_
      refine kge hX (tgt := 20) (by omega) (by omega) d_Ar_fillI_7 (by decide) (fun h3 => ?_) (fun h3 => ?_)
      · have h4 : i = n := by omega
        subst h4
        have hW := kcong (f' := fun _ => x) hW 0 rfl (fun j hj => by simp [fil, hj])
        have hW : KW D k A s [(a, .inl (k 0, i, .inl (fun _ => x)))] H locs := hW
        exact kvret hX hr hlocks hQ () (hW) (trivial) d_Ar_fillI_20
      · refine lv_aload_n hX.1 hX.2.1 d_Ar_fillI_10 rfl (lv_at hl 3 rfl) ?_
        refine lv_iload_n hX.1 hX.2.1 d_Ar_fillI_11 rfl (lv_at hl 1 rfl) ?_
        refine lv_iload_n hX.1 hX.2.1 d_Ar_fillI_12 rfl (lv_at hl 2 rfl) ?_
        refine kriast hX hW 0 rfl (by omega) (by first | decide | omega) d_Ar_fillI_13 (fun H locs hW => ?_)
        have hW : KW D k A s [(a, .inl (k 0, n, .inl (upd (fil f x i) i x)))] H locs := hW
        rw [fil_s] at hW
        refine lv_iinc (v := nI (i + 1)) (lv' := [(2, .int (nI (i + 1))), (3, .int (nI n)), (1, .int x), (0, .ref a)]) hX.1 hX.2.1 d_Ar_fillI_14 hl (k := 1) rfl (kn_inc _) (by decide) rfl (fun ls hl => ?_)
        refine lv_goto (tgt := 5) hX.1 hX.2.1 d_Ar_fillI_17 (by decide) ?_
        exact ih (i + 1) H locs ls (by omega) (by omega) (hW) (lv_sub hl [1, 0, 2, 3] rfl)
  exact lp (n + 1) 0 H locs ls (by omega) (by omega) (hW) (lv_sub hl [0, 1, 3, 2] rfl)
set_option maxHeartbeats 4000000 in
set_option maxRecDepth 100000 in
/-- fill(a, x) -/
theorem ok_Ar_fillL (l : Launch) (D : va_G) (k : Nat → ClassId) (sz : Nat) (a n : Nat) (f : Nat → Int64) (x : Int64) (hn : n < 2 ^ 31) : Met l y_Ar_fillL (.code y_Ar_fillL c_Ar_fillL 5 none :: wsU) ({ frames := 0, cells := 0, slots := 0, locals := 0 } : Room) (kPre D k [.ref a, .long x] [(a, .inl (k 1, n, .inr (.inl f)))] sz) (va_Qv (fun (_ : Unit) => True) (kB D k (fun _ : Unit => [(a, .inl (k 1, n, .inr (.inl (fun _ => x))))]) (va_A [(a, .inl (k 1, n, .inr (.inl f)))] sz)) (va_A [(a, .inl (k 1, n, .inr (.inl f)))] sz)) 0 0 (va_A [(a, .inl (k 1, n, .inr (.inl f)))] sz) := by
  refine kMet (by decide) (Nat.le_of_ble_eq_true rfl) ?_
  intro p e s m below meth c ls hX hml hr hlocks hin hsz hW hl Q hQ
  generalize hAe : va_A [(a, .inl (k 1, n, .inr (.inl f)))] sz = A at hW hQ
  generalize hH0 : s.heap = H at hW ⊢
  generalize hl0 : ([] : List Loc) = locs at hW ⊢
  have hX : FX p s m c [.ref a, .long x].toArray c_Ar_fillL R_Ar := hX
  have hl : lv_has ls 5 [(0, .ref a), (1, .long x)] := hl
  refine lv_iconst (v := nI 0) hX.1 hX.2.1 d_Ar_fillL_0 (by decide) ?_
  refine lv_istore_n (lv' := [(3, .int (nI 0)), (0, .ref a), (1, .long x)]) hX.1 hX.2.1 d_Ar_fillL_1 rfl hl (by decide) rfl (fun ls hl => ?_)
  refine lv_aload_n hX.1 hX.2.1 d_Ar_fillL_2 rfl (lv_at hl 1 rfl) ?_
  refine kalen hX hW 0 1 rfl rfl d_Ar_fillL_3 ?_
  refine lv_istore (lv' := [(4, .int (nI n)), (3, .int (nI 0)), (0, .ref a), (1, .long x)]) hX.1 hX.2.1 d_Ar_fillL_4 hl (by decide) rfl (fun ls hl => ?_)
  rw [← fil_0 f x] at hW
  have lp : ∀ (fu : Nat) (i : Nat) (H : Heap) (locs : List Loc) (ls : Array Slot), i ≤ n → n < i + fu →  KW D k A s [(a, .inl (k 1, n, .inr (.inl (fil f x i))))] H locs → lv_has ls 5 [(4, .int (nI n)), (3, .int (nI i)), (1, .long x), (0, .ref a)] → W p l e ({ frames := 0, cells := 0, slots := 0, locals := 0 } : Room) s m [.ref a, .long x].toArray below meth c H locs 0 0 Q (F0 m 6 ls []) := by
    intro fu
    induction fu with
    | zero => intro i H locs ls h1 h2 hW hl; exfalso; omega
    | succ fu ih =>
      intro i H locs ls h1 h2 hW hl
      refine lv_iload_n hX.1 hX.2.1 d_Ar_fillL_6 rfl (lv_at hl 1 rfl) ?_
      refine lv_iload hX.1 hX.2.1 d_Ar_fillL_7 (lv_at hl 0 rfl) ?_
      refine kge hX (tgt := 22) (by omega) (by omega) d_Ar_fillL_9 (by decide) (fun h3 => ?_) (fun h3 => ?_)
      · have h4 : i = n := by omega
        subst h4
        have hW := kcongL (f' := fun _ => x) hW 0 rfl (fun j hj => by simp [fil, hj])
        have hW : KW D k A s [(a, .inl (k 1, i, .inr (.inl (fun _ => x))))] H locs := hW
        exact kvret hX hr hlocks hQ () (hW) (trivial) d_Ar_fillL_22
      · refine lv_aload_n hX.1 hX.2.1 d_Ar_fillL_12 rfl (lv_at hl 3 rfl) ?_
        refine lv_iload_n hX.1 hX.2.1 d_Ar_fillL_13 rfl (lv_at hl 1 rfl) ?_
        refine lv_lload_n hX.1 hX.2.1 d_Ar_fillL_14 rfl (lv_at hl 2 rfl) ?_
        refine krlast hX hW 0 rfl (by omega) (by first | decide | omega) d_Ar_fillL_15 (fun H locs hW => ?_)
        have hW : KW D k A s [(a, .inl (k 1, n, .inr (.inl (vp_updL (fil f x i) i x))))] H locs := hW
        rw [fil_sL] at hW
        refine lv_iinc (v := nI (i + 1)) (lv' := [(3, .int (nI (i + 1))), (4, .int (nI n)), (1, .long x), (0, .ref a)]) hX.1 hX.2.1 d_Ar_fillL_16 hl (k := 1) rfl (kn_inc _) (by decide) rfl (fun ls hl => ?_)
        refine lv_goto (tgt := 6) hX.1 hX.2.1 d_Ar_fillL_19 (by decide) ?_
        exact ih (i + 1) H locs ls (by omega) (by omega) (hW) (lv_sub hl [1, 0, 2, 3] rfl)
  exact lp (n + 1) 0 H locs ls (by omega) (by omega) (hW) (lv_sub hl [0, 1, 3, 2] rfl)
end
section
/-! booleans as numbers, numbers from -1 on at a branch, bytes of a long -/
theorem bT (b : Bool) : b.toNat < 2 ^ 31 := by cases b <;> decide
theorem bT1 (b : Bool) : b.toNat ≤ 1 := by cases b <;> decide
theorem bT_n (b : Bool) : narrow .boolean (.int (nI b.toNat)) = .int (nI b.toNat) := by cases b <;> decide +kernel
theorem bT_f (b : Bool) : fits .boolean (.int (nI b.toNat)) = true := by cases b <;> decide +kernel
theorem bT_r (b : Bool) : nI b.toNat = nI 0 ∨ nI b.toNat = nI 1 := by cases b <;> simp
theorem bT_0 {b : Bool} (h : b.toNat = 0) : b = false := by cases b <;> simp at h ⊢
theorem bT_1 {b : Bool} (h : b.toNat ≠ 0) : b = true := by cases b <;> simp at h ⊢
/-- byte i of a long -/
def byt (x : Int64) (i : Nat) : Nat := x.toBitVec.toNat / 2 ^ (8 * i) % 256
theorem byt_lt (x : Int64) (i : Nat) : byt x i < 256 := Nat.mod_lt _ (by decide)
theorem i32_eq {a b : Int32} (h : a.toBitVec.toNat = b.toBitVec.toNat) : a = b := Int32.toBitVec_inj.mp (BitVec.eq_of_toNat_eq h)
theorem byt_255 (y : Int32) : y &&& nI 255 = nI (y.toBitVec.toNat % 256) := pk_and y (m := nI 255) 8 (by decide +kernel)
theorem byt_sh : ∀ i, i < 8 → ((nI (8 * i)).toInt64.toUInt64 &&& Int64.toUInt64 63).toNat = 8 * i := by decide +kernel
theorem byt_sm : ∀ i, i < 8 → (((nI (8 * i)).toInt64 &&& 63).toBitVec.smod 64).toNat = 8 * i := by decide +kernel
theorem l2i_nat (x : Int64) : x.toInt32.toBitVec.toNat = x.toBitVec.toNat % 2 ^ 32 := by
  show (x.toBitVec.signExtend 32).toNat = _
  rw [BitVec.signExtend_eq_setWidth_of_le _ (by decide)]
  simp
theorem byt_u {x : Int64} {i : Nat} (hi : i < 8) : (x.toUInt64 >>> ((nI (8 * i)).toInt64.toUInt64 &&& Int64.toUInt64 63)).toInt64.toInt32 &&& nI 255 = nI (byt x i) := by
  rw [byt_255, l2i_nat]
  congr 1
  have h1 : ((x.toUInt64 >>> ((nI (8 * i)).toInt64.toUInt64 &&& Int64.toUInt64 63)).toInt64).toBitVec.toNat = x.toBitVec.toNat / 2 ^ (8 * i) := by
    show (x.toUInt64 >>> ((nI (8 * i)).toInt64.toUInt64 &&& Int64.toUInt64 63)).toNat = _
    rw [UInt64.toNat_shiftRight, byt_sh i hi, Nat.shiftRight_eq_div_pow, Nat.mod_eq_of_lt (by omega)]
    rfl
  rw [h1]
  unfold byt
  omega
theorem byt_s {x : Int64} {i : Nat} (hi : i < 8) : (x >>> ((nI (8 * i)).toInt64 &&& 63)).toInt32 &&& nI 255 = nI (byt x i) := by
  rw [byt_255, l2i_nat]
  congr 1
  have h1 : (x >>> ((nI (8 * i)).toInt64 &&& 63)).toBitVec = x.toBitVec.sshiftRight (8 * i) := by
    rw [Int64.toBitVec_shiftRight, BitVec.sshiftRight', byt_sm i hi]
  rw [h1, Nat.mod_mod_of_dvd _ (by decide)]
  unfold byt
  apply Nat.eq_of_testBit_eq
  intro j
  rw [show (256 : Nat) = 2 ^ 8 from rfl, Nat.testBit_mod_two_pow, Nat.testBit_mod_two_pow]
  by_cases hj : j < 8
  · simp only [hj, decide_true, Bool.true_and]
    rw [← Nat.shiftRight_eq_div_pow, Nat.testBit_shiftRight]
    have := BitVec.getLsbD_sshiftRight x.toBitVec (8 * i) j
    rw [BitVec.getLsbD, BitVec.getLsbD] at this
    rw [this]
    have h3 : 8 * i + j < 64 := by omega
    have h4 : ¬ 64 ≤ j := by omega
    simp [h3, h4]
  · simp [hj]
section KB3
variable {p : Program} {l : Launch} {e : Env} {R : Room} {s : State} {m : MethodId} {args : Array Value} {below : List Frame} {meth : Method} {c : Code} {H : Heap} {locs : List Loc} {cells slots : Nat} {Q : State → Prop}
variable {cc : ByteArray} {pc : Nat} {ls : Array Slot} {rest : List Value} {own : String} {D : va_G} {k : Nat → ClassId} {A : Nat → Prop} {ws : va_W}
theorem kltM (hX : FX p s m c args cc own) {a : Nat} {off : Int} {tgt : Nat} (ha : a < 2 ^ 31) (hdg : decode cc pc = .ok (.ifCond .lt off, 3)) (ht : (pc : Int) + off = (tgt : Int))
    (kt : a = 0 → W p l e R s m args below meth c H locs cells slots Q (F0 m tgt ls rest)) (kf : 0 < a → W p l e R s m args below meth c H locs cells slots Q (F0 m (pc + 3) ls rest)) : W p l e R s m args below meth c H locs cells slots Q (F0 m pc ls (.int (nM a) :: rest)) :=
  lv_if_lt hX.1 hX.2.1 hdg ht (fun h => kt ((nM_neg ha).mp h)) (fun h => kf (Nat.pos_of_ne_zero fun q => h ((nM_neg ha).mpr q)))
theorem kgeM (hX : FX p s m c args cc own) {a : Nat} {off : Int} {tgt : Nat} (ha : a < 2 ^ 31) (hdg : decode cc pc = .ok (.ifCond .ge off, 3)) (ht : (pc : Int) + off = (tgt : Int))
    (kt : 0 < a → W p l e R s m args below meth c H locs cells slots Q (F0 m tgt ls rest)) (kf : a = 0 → W p l e R s m args below meth c H locs cells slots Q (F0 m (pc + 3) ls rest)) : W p l e R s m args below meth c H locs cells slots Q (F0 m pc ls (.int (nM a) :: rest)) :=
  lv_if_ge hX.1 hX.2.1 hdg ht (fun h => kt ((nM_ge ha).mp h)) (fun h => kf (Nat.eq_zero_of_not_pos fun q => h ((nM_ge ha).mpr q)))
theorem kltN (hX : FX p s m c args cc own) {a : Nat} {off : Int} {tgt : Nat} (ha : a < 2 ^ 31) (hdg : decode cc pc = .ok (.ifCond .lt off, 3)) (ht : (pc : Int) + off = (tgt : Int))
    (kf : W p l e R s m args below meth c H locs cells slots Q (F0 m (pc + 3) ls rest)) : W p l e R s m args below meth c H locs cells slots Q (F0 m pc ls (.int (nI a) :: rest)) :=
  lv_if_lt hX.1 hX.2.1 hdg ht (fun h => absurd h (nI_pos ha)) (fun _ => kf)
theorem kgeN (hX : FX p s m c args cc own) {a : Nat} {off : Int} {tgt : Nat} (ha : a < 2 ^ 31) (hdg : decode cc pc = .ok (.ifCond .ge off, 3)) (ht : (pc : Int) + off = (tgt : Int))
    (kt : W p l e R s m args below meth c H locs cells slots Q (F0 m tgt ls rest)) : W p l e R s m args below meth c H locs cells slots Q (F0 m pc ls (.int (nI a) :: rest)) :=
  lv_if_ge hX.1 hX.2.1 hdg ht (fun _ => kt) (fun h => absurd (nI_pos' ha) h)
theorem kgtN (hX : FX p s m c args cc own) {a : Nat} {off : Int} {tgt : Nat} (ha : a < 2 ^ 31) (hdg : decode cc pc = .ok (.ifCond .gt off, 3)) (ht : (pc : Int) + off = (tgt : Int))
    (kt : 0 < a → W p l e R s m args below meth c H locs cells slots Q (F0 m tgt ls rest)) (kf : a = 0 → W p l e R s m args below meth c H locs cells slots Q (F0 m (pc + 3) ls rest)) : W p l e R s m args below meth c H locs cells slots Q (F0 m pc ls (.int (nI a) :: rest)) :=
  lv_if_gt hX.1 hX.2.1 hdg ht (fun h => kt (Nat.pos_of_ne_zero fun q => by rw [q] at h; exact absurd h (by decide))) (fun h => kf (Nat.eq_zero_of_not_pos fun q => h (by have := nI_lt (a := 0) q ha; exact this)))
theorem kleN (hX : FX p s m c args cc own) {a : Nat} {off : Int} {tgt : Nat} (ha : a < 2 ^ 31) (hdg : decode cc pc = .ok (.ifCond .le off, 3)) (ht : (pc : Int) + off = (tgt : Int))
    (kt : a = 0 → W p l e R s m args below meth c H locs cells slots Q (F0 m tgt ls rest)) (kf : 0 < a → W p l e R s m args below meth c H locs cells slots Q (F0 m (pc + 3) ls rest)) : W p l e R s m args below meth c H locs cells slots Q (F0 m pc ls (.int (nI a) :: rest)) :=
  lv_if_le hX.1 hX.2.1 hdg ht (fun h => kt (Nat.eq_zero_of_not_pos fun q => absurd h (nI_nle q ha))) (fun h => kf (Nat.pos_of_ne_zero fun q => h (by rw [q]; decide)))
end KB3
end
section
/-! THE EXPRESSION: step by step -/
def onw (FO : Nat → Nat) (S : Nat) : Nat → Nat
  | 0 => 0
  | p + 1 => onw FO S p ||| (if S.testBit p then FO p else 0)
def lnk (FO : Nat → Nat) (x y : Nat) : Nat → Nat → Nat
  | 0 => FO
  | p + 1 => if x.testBit p then va_up (lnk FO x y p) p (lnk FO x y p p ||| y) else lnk FO x y p
set_option maxHeartbeats 4000000 in
set_option maxRecDepth 100000 in
/-- accepts(S): whether S and ends have a position in common -/
theorem ok_Ex_accepts (l : Launch) (D : va_G) (k : Nat → ClassId) (sz : Nat) (h f g : Nat) (FO SP : Nat → Nat) (en n : Nat) (S : Nat) (hS : S < 512) (he : en < 512) : Met l y_Ex_accepts (.code y_Ex_accepts c_Ex_accepts 2 (some .boolean) :: wsU) ({ frames := 0, cells := 0, slots := 0, locals := 0 } : Room) (kPre D k [.ref h, .int (nI S)] [(h, .inr (0, [.ref f, .ref g, .int (nI en), .int (nI n)])), (f, .inl (k 0, 9, .inl (aN FO))), (g, .inl (k 0, 4, .inl (aN SP)))] sz) (va_Qi (fun (r : Int32) (_ : Unit) => r = nI (if S &&& en = 0 then 0 else 1)) (kB D k (fun _ : Unit => [(h, .inr (0, [.ref f, .ref g, .int (nI en), .int (nI n)])), (f, .inl (k 0, 9, .inl (aN FO))), (g, .inl (k 0, 4, .inl (aN SP)))]) (va_A [(h, .inr (0, [.ref f, .ref g, .int (nI en), .int (nI n)])), (f, .inl (k 0, 9, .inl (aN FO))), (g, .inl (k 0, 4, .inl (aN SP)))] sz)) (va_A [(h, .inr (0, [.ref f, .ref g, .int (nI en), .int (nI n)])), (f, .inl (k 0, 9, .inl (aN FO))), (g, .inl (k 0, 4, .inl (aN SP)))] sz)) 0 0 (va_A [(h, .inr (0, [.ref f, .ref g, .int (nI en), .int (nI n)])), (f, .inl (k 0, 9, .inl (aN FO))), (g, .inl (k 0, 4, .inl (aN SP)))] sz) := by
  refine kMet (by decide) (Nat.le_of_ble_eq_true rfl) ?_
  intro p e s m below meth c ls hX hml hr hlocks hin hsz hW hl Q hQ
  generalize hAe : va_A [(h, .inr (0, [.ref f, .ref g, .int (nI en), .int (nI n)])), (f, .inl (k 0, 9, .inl (aN FO))), (g, .inl (k 0, 4, .inl (aN SP)))] sz = A at hW hQ
  generalize hH0 : s.heap = H at hW ⊢
  generalize hl0 : ([] : List Loc) = locs at hW ⊢
  have hX : FX p s m c [.ref h, .int (nI S)].toArray c_Ex_accepts R_Ex := hX
  have hl : lv_has ls 2 [(0, .ref h), (1, .int (nI S))] := hl
  refine lv_iload_n hX.1 hX.2.1 d_Ex_accepts_0 rfl (lv_at hl 1 rfl) ?_
  refine lv_aload_n hX.1 hX.2.1 d_Ex_accepts_1 rfl (lv_at hl 0 rfl) ?_
  refine kget hX hW i_Ex 0 rfl rfl 2 (by decide) f_Ex_18 rfl rfl d_Ex_accepts_2 ?_
  refine lv_iand hX.1 hX.2.1 d_Ex_accepts_5 ?_
  refine tpi (y := nI (S &&& en)) (kn_and _ _) ?_
  have hlt : S &&& en < 512 := Nat.lt_of_le_of_lt Nat.and_le_left hS
  refine kz hX (tgt := 13) (by omega) d_Ex_accepts_6 (by decide) (fun h1 => ?_) (fun h1 => ?_)
  · refine lv_iconst (v := nI 0) hX.1 hX.2.1 d_Ex_accepts_13 (by decide) ?_
    exact kzret hX hr hlocks hQ () (hW) (by rw [if_pos h1]) (Or.inl rfl) d_Ex_accepts_14
  · refine lv_iconst (v := nI 1) hX.1 hX.2.1 d_Ex_accepts_9 (by decide) ?_
    refine lv_goto (tgt := 14) hX.1 hX.2.1 d_Ex_accepts_10 (by decide) ?_
    exact kzret hX hr hlocks hQ () (hW) (by rw [if_neg h1]) (Or.inr rfl) d_Ex_accepts_14
set_option maxHeartbeats 4000000 in
set_option maxRecDepth 100000 in
/-- onward(S): the positions that can come next -/
theorem ok_Ex_onward (l : Launch) (D : va_G) (k : Nat → ClassId) (sz : Nat) (h f g : Nat) (FO SP : Nat → Nat) (en n : Nat) (S : Nat) (hS : S < 512) : Met l y_Ex_onward (.code y_Ex_onward c_Ex_onward 4 (some .int) :: wsU) ({ frames := 0, cells := 0, slots := 0, locals := 0 } : Room) (kPre D k [.ref h, .int (nI S)] [(h, .inr (0, [.ref f, .ref g, .int (nI en), .int (nI n)])), (f, .inl (k 0, 9, .inl (aN FO))), (g, .inl (k 0, 4, .inl (aN SP)))] sz) (va_Qi (fun (r : Int32) (_ : Unit) => r = nI (onw FO S 9)) (kB D k (fun _ : Unit => [(h, .inr (0, [.ref f, .ref g, .int (nI en), .int (nI n)])), (f, .inl (k 0, 9, .inl (aN FO))), (g, .inl (k 0, 4, .inl (aN SP)))]) (va_A [(h, .inr (0, [.ref f, .ref g, .int (nI en), .int (nI n)])), (f, .inl (k 0, 9, .inl (aN FO))), (g, .inl (k 0, 4, .inl (aN SP)))] sz)) (va_A [(h, .inr (0, [.ref f, .ref g, .int (nI en), .int (nI n)])), (f, .inl (k 0, 9, .inl (aN FO))), (g, .inl (k 0, 4, .inl (aN SP)))] sz)) 0 0 (va_A [(h, .inr (0, [.ref f, .ref g, .int (nI en), .int (nI n)])), (f, .inl (k 0, 9, .inl (aN FO))), (g, .inl (k 0, 4, .inl (aN SP)))] sz) := by
  refine kMet (by decide) (Nat.le_of_ble_eq_true rfl) ?_
  intro p e s m below meth c ls hX hml hr hlocks hin hsz hW hl Q hQ
  generalize hAe : va_A [(h, .inr (0, [.ref f, .ref g, .int (nI en), .int (nI n)])), (f, .inl (k 0, 9, .inl (aN FO))), (g, .inl (k 0, 4, .inl (aN SP)))] sz = A at hW hQ
  generalize hH0 : s.heap = H at hW ⊢
  generalize hl0 : ([] : List Loc) = locs at hW ⊢
  have hX : FX p s m c [.ref h, .int (nI S)].toArray c_Ex_onward R_Ex := hX
  have hl : lv_has ls 4 [(0, .ref h), (1, .int (nI S))] := hl
  refine lv_iconst (v := nI 0) hX.1 hX.2.1 d_Ex_onward_0 (by decide) ?_
  refine lv_istore_n (lv' := [(2, .int (nI 0)), (0, .ref h), (1, .int (nI S))]) hX.1 hX.2.1 d_Ex_onward_1 rfl hl (by decide) rfl (fun ls hl => ?_)
  refine lv_iconst (v := nI 0) hX.1 hX.2.1 d_Ex_onward_2 (by decide) ?_
  refine lv_istore_n (lv' := [(3, .int (nI 0)), (2, .int (nI 0)), (0, .ref h), (1, .int (nI S))]) hX.1 hX.2.1 d_Ex_onward_3 rfl hl (by decide) rfl (fun ls hl => ?_)
  have lp : ∀ (fu : Nat) (i : Nat) (H : Heap) (locs : List Loc) (ls : Array Slot), i ≤ 9 → 9 < i + fu →  KW D k A s [(h, .inr (0, [.ref f, .ref g, .int (nI en), .int (nI n)])), (f, .inl (k 0, 9, .inl (aN FO))), (g, .inl (k 0, 4, .inl (aN SP)))] H locs → lv_has ls 4 [(3, .int (nI i)), (2, .int (nI (onw FO S i))), (1, .int (nI S)), (0, .ref h)] → W p l e ({ frames := 0, cells := 0, slots := 0, locals := 0 } : Room) s m [.ref h, .int (nI S)].toArray below meth c H locs 0 0 Q (F0 m 4 ls []) := by
    intro fu
    induction fu with
    | zero => intro i H locs ls h1 h2 hW hl; exfalso; omega
    | succ fu ih =>
      intro i H locs ls h1 h2 hW hl
      refine lv_iload_n hX.1 hX.2.1 d_Ex_onward_4 rfl (lv_at hl 0 rfl) ?_
      refine lv_bipush (v := nI 8) hX.1 hX.2.1 d_Ex_onward_5 (by decide) ?_
      refine kgt hX (tgt := 33) (by omega) (by omega) d_Ex_onward_7 (by decide) (fun h3 => ?_) (fun h3 => ?_)
      · have h4 : i = 9 := by omega
        subst h4
        refine lv_iload_n hX.1 hX.2.1 d_Ex_onward_33 rfl (lv_at hl 1 rfl) ?_
        exact kiret hX hr hlocks hQ () (hW) (rfl) d_Ex_onward_34
      · refine lv_iload_n hX.1 hX.2.1 d_Ex_onward_10 rfl (lv_at hl 2 rfl) ?_
        refine lv_iload_n hX.1 hX.2.1 d_Ex_onward_11 rfl (lv_at hl 0 rfl) ?_
        refine lv_ishr hX.1 hX.2.1 d_Ex_onward_12 ?_
        refine tpi (y := nI S >>> (nI i &&& 31)) (rfl) ?_
        refine lv_iconst (v := nI 1) hX.1 hX.2.1 d_Ex_onward_13 (by decide) ?_
        refine lv_iand hX.1 hX.2.1 d_Ex_onward_14 ?_
        refine tpi (y := nI (if S.testBit i then 1 else 0)) (kn_bit (by omega) (by omega)) ?_
        have h5 : i ≤ 8 := h3
        refine kz hX (tgt := 27) (by split <;> omega) d_Ex_onward_15 (by decide) (fun h4 => ?_) (fun h4 => ?_)
        · have h6 : S.testBit i = false := by cases hb : S.testBit i <;> simp [hb] at h4 ⊢
          have h7 : onw FO S (i + 1) = onw FO S i := by rw [onw, h6]; simp
          refine lv_iinc (v := nI (i + 1)) (lv' := [(3, .int (nI (i + 1))), (2, .int (nI (onw FO S i))), (1, .int (nI S)), (0, .ref h)]) hX.1 hX.2.1 d_Ex_onward_27 hl (k := 0) rfl (kn_inc _) (by decide) rfl (fun ls hl => ?_)
          refine lv_goto (tgt := 4) hX.1 hX.2.1 d_Ex_onward_30 (by decide) ?_
          rw [← h7] at hl
          exact ih (i + 1) H locs ls (by omega) (by omega) (hW) (lv_sub hl [0, 1, 2, 3] rfl)
        · have h6 : S.testBit i = true := by cases hb : S.testBit i <;> simp [hb] at h4 ⊢
          have h7 : onw FO S (i + 1) = onw FO S i ||| FO i := by rw [onw, h6]; simp
          refine lv_iload_n hX.1 hX.2.1 d_Ex_onward_18 rfl (lv_at hl 1 rfl) ?_
          refine lv_aload_n hX.1 hX.2.1 d_Ex_onward_19 rfl (lv_at hl 3 rfl) ?_
          refine kget hX hW i_Ex 0 rfl rfl 0 (by decide) f_Ex_11 rfl rfl d_Ex_onward_20 ?_
          refine lv_iload_n hX.1 hX.2.1 d_Ex_onward_23 rfl (lv_at hl 0 rfl) ?_
          refine kiald hX hW 1 rfl (by omega) (by first | decide | omega) d_Ex_onward_24 ?_
          refine lv_ior hX.1 hX.2.1 d_Ex_onward_25 ?_
          refine tpi (y := nI (onw FO S i ||| FO i)) (kn_or _ _) ?_
          refine lv_istore_n (lv' := [(2, .int (nI (onw FO S i ||| FO i))), (3, .int (nI i)), (1, .int (nI S)), (0, .ref h)]) hX.1 hX.2.1 d_Ex_onward_26 rfl hl (by decide) rfl (fun ls hl => ?_)
          refine lv_iinc (v := nI (i + 1)) (lv' := [(3, .int (nI (i + 1))), (2, .int (nI (onw FO S i ||| FO i))), (1, .int (nI S)), (0, .ref h)]) hX.1 hX.2.1 d_Ex_onward_27 hl (k := 1) rfl (kn_inc _) (by decide) rfl (fun ls hl => ?_)
          refine lv_goto (tgt := 4) hX.1 hX.2.1 d_Ex_onward_30 (by decide) ?_
          rw [← h7] at hl
          exact ih (i + 1) H locs ls (by omega) (by omega) (hW) (lv_sub hl [0, 1, 2, 3] rfl)
  exact lp 10 0 H locs ls (by omega) (by omega) (hW) (lv_sub hl [0, 1, 3, 2] rfl)
set_option maxHeartbeats 4000000 in
set_option maxRecDepth 100000 in
/-- step(S, a) -/
theorem ok_Ex_step (l : Launch) (D : va_G) (k : Nat → ClassId) (sz : Nat) (h f g : Nat) (FO SP : Nat → Nat) (en n : Nat) (S a : Nat) (hS : S < 512) (ha : a < 4) : Met l y_Ex_step (.code y_Ex_step c_Ex_step 3 (some .int) :: wsU) ({ frames := 1, cells := 0, slots := 0, locals := 30 } : Room) (kPre D k [.ref h, .int (nI S), .int (nI a)] [(h, .inr (0, [.ref f, .ref g, .int (nI en), .int (nI n)])), (f, .inl (k 0, 9, .inl (aN FO))), (g, .inl (k 0, 4, .inl (aN SP)))] sz) (va_Qi (fun (r : Int32) (_ : Unit) => r = nI (onw FO S 9 &&& SP a)) (kB D k (fun _ : Unit => [(h, .inr (0, [.ref f, .ref g, .int (nI en), .int (nI n)])), (f, .inl (k 0, 9, .inl (aN FO))), (g, .inl (k 0, 4, .inl (aN SP)))]) (va_A [(h, .inr (0, [.ref f, .ref g, .int (nI en), .int (nI n)])), (f, .inl (k 0, 9, .inl (aN FO))), (g, .inl (k 0, 4, .inl (aN SP)))] sz)) (va_A [(h, .inr (0, [.ref f, .ref g, .int (nI en), .int (nI n)])), (f, .inl (k 0, 9, .inl (aN FO))), (g, .inl (k 0, 4, .inl (aN SP)))] sz)) 0 0 (va_A [(h, .inr (0, [.ref f, .ref g, .int (nI en), .int (nI n)])), (f, .inl (k 0, 9, .inl (aN FO))), (g, .inl (k 0, 4, .inl (aN SP)))] sz) := by
  refine kMet (by decide) (Nat.le_of_ble_eq_true rfl) ?_
  intro p e s m below meth c ls hX hml hr hlocks hin hsz hW hl Q hQ
  generalize hAe : va_A [(h, .inr (0, [.ref f, .ref g, .int (nI en), .int (nI n)])), (f, .inl (k 0, 9, .inl (aN FO))), (g, .inl (k 0, 4, .inl (aN SP)))] sz = A at hW hQ
  generalize hH0 : s.heap = H at hW ⊢
  generalize hl0 : ([] : List Loc) = locs at hW ⊢
  have hX : FX p s m c [.ref h, .int (nI S), .int (nI a)].toArray c_Ex_step R_Ex := hX
  have hl : lv_has ls 3 [(0, .ref h), (1, .int (nI S)), (2, .int (nI a))] := hl
  refine lv_aload_n hX.1 hX.2.1 d_Ex_step_0 rfl (lv_at hl 0 rfl) ?_
  refine lv_iload_n hX.1 hX.2.1 d_Ex_step_1 rfl (lv_at hl 1 rfl) ?_
  refine kCi (wc := [(h, .inr (0, [.ref f, .ref g, .int (nI en), .int (nI n)])), (f, .inl (k 0, 9, .inl (aN FO))), (g, .inl (k 0, 4, .inl (aN SP)))]) hW [0, 1, 2] (by rfl) (by intro _; rfl) (kRunV (n := 1) (As := [.int (nI S)]) (rest := []) hX hml hW (ok_Ex_onward l D k H.size h f g FO SP en n S hS) m_Ex_43 im_Ex_onward se_Ex_onward in_Ex cd_Ex_onward [0, 1, 2] rfl rfl rfl rfl (by decide +kernel) ⟨rfl, rfl, by decide, by decide⟩ rfl hl.1 rfl (by decide) d_Ex_step_2 ⟨by first | exact Nat.zero_le _ | decide | omega, by first | exact Nat.zero_le _ | decide | omega⟩) (fun r u H locs hr1 hW => ?_)
  have hW : KW D k A s [(h, .inr (0, [.ref f, .ref g, .int (nI en), .int (nI n)])), (f, .inl (k 0, 9, .inl (aN FO))), (g, .inl (k 0, 4, .inl (aN SP)))] H locs := hW
  subst hr1
  refine lv_aload_n hX.1 hX.2.1 d_Ex_step_5 rfl (lv_at hl 0 rfl) ?_
  refine kget hX hW i_Ex 0 rfl rfl 1 (by decide) f_Ex_15 rfl rfl d_Ex_step_6 ?_
  refine lv_iload_n hX.1 hX.2.1 d_Ex_step_9 rfl (lv_at hl 2 rfl) ?_
  refine kiald hX hW 2 rfl (by omega) (by first | decide | omega) d_Ex_step_10 ?_
  refine lv_iand hX.1 hX.2.1 d_Ex_step_11 ?_
  refine tpi (y := nI (onw FO S 9 &&& SP a)) (kn_and _ _) ?_
  exact kiret hX hr hlocks hQ () (hW) (rfl) d_Ex_step_12
set_option maxHeartbeats 4000000 in
set_option maxRecDepth 100000 in
/-- link(x, y) -/
theorem ok_Ex_link (l : Launch) (D : va_G) (k : Nat → ClassId) (sz : Nat) (h f g : Nat) (FO SP : Nat → Nat) (en n : Nat) (x y : Nat) (hx : x < 512) : Met l y_Ex_link (.code y_Ex_link c_Ex_link 4 none :: wsU) ({ frames := 0, cells := 0, slots := 0, locals := 0 } : Room) (kPre D k [.ref h, .int (nI x), .int (nI y)] [(h, .inr (0, [.ref f, .ref g, .int (nI en), .int (nI n)])), (f, .inl (k 0, 9, .inl (aN FO))), (g, .inl (k 0, 4, .inl (aN SP)))] sz) (va_Qv (fun (_ : Unit) => True) (kB D k (fun _ : Unit => [(h, .inr (0, [.ref f, .ref g, .int (nI en), .int (nI n)])), (f, .inl (k 0, 9, .inl (aN (lnk FO x y 9)))), (g, .inl (k 0, 4, .inl (aN SP)))]) (va_A [(h, .inr (0, [.ref f, .ref g, .int (nI en), .int (nI n)])), (f, .inl (k 0, 9, .inl (aN FO))), (g, .inl (k 0, 4, .inl (aN SP)))] sz)) (va_A [(h, .inr (0, [.ref f, .ref g, .int (nI en), .int (nI n)])), (f, .inl (k 0, 9, .inl (aN FO))), (g, .inl (k 0, 4, .inl (aN SP)))] sz)) 0 0 (va_A [(h, .inr (0, [.ref f, .ref g, .int (nI en), .int (nI n)])), (f, .inl (k 0, 9, .inl (aN FO))), (g, .inl (k 0, 4, .inl (aN SP)))] sz) := by
  refine kMet (by decide) (Nat.le_of_ble_eq_true rfl) ?_
  intro p e s m below meth c ls hX hml hr hlocks hin hsz hW hl Q hQ
  generalize hAe : va_A [(h, .inr (0, [.ref f, .ref g, .int (nI en), .int (nI n)])), (f, .inl (k 0, 9, .inl (aN FO))), (g, .inl (k 0, 4, .inl (aN SP)))] sz = A at hW hQ
  generalize hH0 : s.heap = H at hW ⊢
  generalize hl0 : ([] : List Loc) = locs at hW ⊢
  have hX : FX p s m c [.ref h, .int (nI x), .int (nI y)].toArray c_Ex_link R_Ex := hX
  have hl : lv_has ls 4 [(0, .ref h), (1, .int (nI x)), (2, .int (nI y))] := hl
  refine lv_iconst (v := nI 0) hX.1 hX.2.1 d_Ex_link_0 (by decide) ?_
  refine lv_istore_n (lv' := [(3, .int (nI 0)), (0, .ref h), (1, .int (nI x)), (2, .int (nI y))]) hX.1 hX.2.1 d_Ex_link_1 rfl hl (by decide) rfl (fun ls hl => ?_)
  have hW : KW D k A s [(h, .inr (0, [.ref f, .ref g, .int (nI en), .int (nI n)])), (f, .inl (k 0, 9, .inl (aN (lnk FO x y 0)))), (g, .inl (k 0, 4, .inl (aN SP)))] H locs := hW
  have lp : ∀ (fu : Nat) (i : Nat) (H : Heap) (locs : List Loc) (ls : Array Slot), i ≤ 9 → 9 < i + fu →  KW D k A s [(h, .inr (0, [.ref f, .ref g, .int (nI en), .int (nI n)])), (f, .inl (k 0, 9, .inl (aN (lnk FO x y i)))), (g, .inl (k 0, 4, .inl (aN SP)))] H locs → lv_has ls 4 [(3, .int (nI i)), (2, .int (nI y)), (1, .int (nI x)), (0, .ref h)] → W p l e ({ frames := 0, cells := 0, slots := 0, locals := 0 } : Room) s m [.ref h, .int (nI x), .int (nI y)].toArray below meth c H locs 0 0 Q (F0 m 2 ls []) := by
    intro fu
    induction fu with
    | zero => intro i H locs ls h1 h2 hW hl; exfalso; omega
    | succ fu ih =>
      intro i H locs ls h1 h2 hW hl
      refine lv_iload_n hX.1 hX.2.1 d_Ex_link_2 rfl (lv_at hl 0 rfl) ?_
      refine lv_bipush (v := nI 8) hX.1 hX.2.1 d_Ex_link_3 (by decide) ?_
      refine kgt hX (tgt := 32) (by omega) (by omega) d_Ex_link_5 (by decide) (fun h3 => ?_) (fun h3 => ?_)
      · have h4 : i = 9 := by omega
        subst h4
        exact kvret hX hr hlocks hQ () (hW) (trivial) d_Ex_link_32
      · refine lv_iload_n hX.1 hX.2.1 d_Ex_link_8 rfl (lv_at hl 2 rfl) ?_
        refine lv_iload_n hX.1 hX.2.1 d_Ex_link_9 rfl (lv_at hl 0 rfl) ?_
        refine lv_ishr hX.1 hX.2.1 d_Ex_link_10 ?_
        refine tpi (y := nI x >>> (nI i &&& 31)) (rfl) ?_
        refine lv_iconst (v := nI 1) hX.1 hX.2.1 d_Ex_link_11 (by decide) ?_
        refine lv_iand hX.1 hX.2.1 d_Ex_link_12 ?_
        refine tpi (y := nI (if x.testBit i then 1 else 0)) (kn_bit (by omega) (by omega)) ?_
        have h5 : i ≤ 8 := h3
        refine kz hX (tgt := 26) (by split <;> omega) d_Ex_link_13 (by decide) (fun h4 => ?_) (fun h4 => ?_)
        · have h6 : x.testBit i = false := by cases hb : x.testBit i <;> simp [hb] at h4 ⊢
          have h7 : lnk FO x y (i + 1) = lnk FO x y i := by rw [lnk, h6]; simp
          refine lv_iinc (v := nI (i + 1)) (lv' := [(3, .int (nI (i + 1))), (2, .int (nI y)), (1, .int (nI x)), (0, .ref h)]) hX.1 hX.2.1 d_Ex_link_26 hl (k := 0) rfl (kn_inc _) (by decide) rfl (fun ls hl => ?_)
          refine lv_goto (tgt := 2) hX.1 hX.2.1 d_Ex_link_29 (by decide) ?_
          rw [← h7] at hW
          exact ih (i + 1) H locs ls (by omega) (by omega) (hW) (lv_sub hl [0, 1, 2, 3] rfl)
        · have h6 : x.testBit i = true := by cases hb : x.testBit i <;> simp [hb] at h4 ⊢
          have h7 : lnk FO x y (i + 1) = va_up (lnk FO x y i) i (lnk FO x y i i ||| y) := by rw [lnk, h6]; simp
          refine lv_aload_n hX.1 hX.2.1 d_Ex_link_16 rfl (lv_at hl 3 rfl) ?_
          refine kget hX hW i_Ex 0 rfl rfl 0 (by decide) f_Ex_11 rfl rfl d_Ex_link_17 ?_
          refine lv_iload_n hX.1 hX.2.1 d_Ex_link_20 rfl (lv_at hl 0 rfl) ?_
          refine lv_dup2_11 hX.1 hX.2.1 d_Ex_link_21 rfl rfl ?_
          refine kiald hX hW 1 rfl (by omega) (by first | decide | omega) d_Ex_link_22 ?_
          refine lv_iload_n hX.1 hX.2.1 d_Ex_link_23 rfl (lv_at hl 1 rfl) ?_
          refine lv_ior hX.1 hX.2.1 d_Ex_link_24 ?_
          refine tpi (y := nI (lnk FO x y i i ||| y)) (kn_or _ _) ?_
          refine kiast hX hW 1 rfl (by omega) (by first | decide | omega) d_Ex_link_25 (fun H locs hW => ?_)
          have hW : KW D k A s [(h, .inr (0, [.ref f, .ref g, .int (nI en), .int (nI n)])), (f, .inl (k 0, 9, .inl (aN (va_up (lnk FO x y i) i (lnk FO x y i i ||| y))))), (g, .inl (k 0, 4, .inl (aN SP)))] H locs := hW
          refine lv_iinc (v := nI (i + 1)) (lv' := [(3, .int (nI (i + 1))), (2, .int (nI y)), (1, .int (nI x)), (0, .ref h)]) hX.1 hX.2.1 d_Ex_link_26 hl (k := 0) rfl (kn_inc _) (by decide) rfl (fun ls hl => ?_)
          refine lv_goto (tgt := 2) hX.1 hX.2.1 d_Ex_link_29 (by decide) ?_
          rw [← h7] at hW
          exact ih (i + 1) H locs ls (by omega) (by omega) (hW) (lv_sub hl [0, 1, 2, 3] rfl)
  exact lp 10 0 H locs ls (by omega) (by omega) (hW) (lv_sub hl [0, 3, 2, 1] rfl)
end
section
/-! Expression (the rest), Part, Tape, Word -/
theorem and_m257 {a : Nat} (h : a < 512) : nI a &&& (-257) = nI (a % 256) := by
  have : ∀ a : Fin 512, nI a.val &&& (-257) = nI (a.val % 256) := by decide +kernel
  exact this ⟨a, h⟩
/-- the links turned around, of the first p positions -/
def rvl (FO : Nat → Nat) : Nat → Nat → Nat
  | 0 => fun _ => 0
  | p + 1 => lnk (rvl FO p) (FO p) (2 ^ p) 9
def tpw (B : Nat → Nat) (z : Nat) (x : Int64) (n : Nat) : Nat → Nat → Nat
  | 0 => B
  | m + 1 => va_up (tpw B z x n m) (z + m) (byt x (n - 1 - m))
/-- the first i bytes are letters -/
def isw (B : Nat → Nat) : Nat → Bool
  | 0 => true
  | i + 1 => isw B i && (decide (97 ≤ B i) && decide (B i ≤ 100))
set_option maxHeartbeats 4000000 in
set_option maxRecDepth 100000 in
/-- Expression() -/
theorem ok_Ex_init (l : Launch) (D : va_G) (k : Nat → ClassId) (sz : Nat) (h : Nat) : Met l y_Ex_init (.code y_Ex_init c_Ex_init 1 none :: wsU) ({ frames := 1, cells := 2, slots := 13, locals := 12 } : Room) (kPre D k [.ref h] [(h, .inr (0, [.null, .null, .int (nI 0), .int (nI 0)]))] sz) (va_Qv (fun (_ : Nat × Nat) => True) (kB D k (fun u : Nat × Nat => [(h, .inr (0, [.ref u.1, .ref u.2, .int (nI 0), .int (nI 0)]))] ++ [(u.1, .inl (k 0, 9, .inl (aN (fun _ => 0)))), (u.2, .inl (k 0, 4, .inl (aN (fun _ => 0))))]) (va_A [(h, .inr (0, [.null, .null, .int (nI 0), .int (nI 0)]))] sz)) (va_A [(h, .inr (0, [.null, .null, .int (nI 0), .int (nI 0)]))] sz)) 2 13 (va_A [(h, .inr (0, [.null, .null, .int (nI 0), .int (nI 0)]))] sz) := by
  refine kMet (by decide) (Nat.le_of_ble_eq_true rfl) ?_
  intro p e s m below meth c ls hX hml hr hlocks hin hsz hW hl Q hQ
  generalize hAe : va_A [(h, .inr (0, [.null, .null, .int (nI 0), .int (nI 0)]))] sz = A at hW hQ
  generalize hH0 : s.heap = H at hW ⊢
  generalize hl0 : ([] : List Loc) = locs at hW ⊢
  have hX : FX p s m c [.ref h].toArray c_Ex_init R_Ex := hX
  have hl : lv_has ls 1 [(0, .ref h)] := hl
  refine lv_aload_n hX.1 hX.2.1 d_Ex_init_0 rfl (lv_at hl 0 rfl) ?_
  refine kobj hX (hml.trans hl.1.symm) m_Ex_5 (by decide) (by decide) d_Ex_init_1 ?_
  refine lv_aload_n hX.1 hX.2.1 d_Ex_init_4 rfl (lv_at hl 0 rfl) ?_
  refine lv_bipush (v := nI 9) hX.1 hX.2.1 d_Ex_init_5 (by decide) ?_
  refine knewI hX hW (by first | decide | omega) (by first | decide | omega) (by first | decide | omega) d_Ex_init_7 (fun q7 H hW => ?_)
  have hW : KW D k A s [(h, .inr (0, [.null, .null, .int (nI 0), .int (nI 0)])), (q7, .inl (k 0, 9, .inl (aN (fun _ => 0))))] H locs := hW
  refine kputF hX hW hin i_Ex t_Ex t_Ex_ok n_Ex 0 rfl rfl 0 (by decide) f_Ex_11 rfl rfl rfl (rfl) (rfl) (Nat.le_of_ble_eq_true rfl) d_Ex_init_9 (fun H locs hW => ?_)
  have hW : KW D k A s [(h, .inr (0, [.ref q7, .null, .int (nI 0), .int (nI 0)])), (q7, .inl (k 0, 9, .inl (aN (fun _ => 0))))] H locs := hW
  refine lv_aload_n hX.1 hX.2.1 d_Ex_init_12 rfl (lv_at hl 0 rfl) ?_
  refine lv_iconst (v := nI 4) hX.1 hX.2.1 d_Ex_init_13 (by decide) ?_
  refine knewI hX hW (by first | decide | omega) (by first | decide | omega) (by first | decide | omega) d_Ex_init_14 (fun q14 H hW => ?_)
  have hW : KW D k A s [(h, .inr (0, [.ref q7, .null, .int (nI 0), .int (nI 0)])), (q7, .inl (k 0, 9, .inl (aN (fun _ => 0)))), (q14, .inl (k 0, 4, .inl (aN (fun _ => 0))))] H locs := hW
  refine kputF hX hW hin i_Ex t_Ex t_Ex_ok n_Ex 0 rfl rfl 1 (by decide) f_Ex_15 rfl rfl rfl (rfl) (rfl) (Nat.le_of_ble_eq_true rfl) d_Ex_init_16 (fun H locs hW => ?_)
  have hW : KW D k A s [(h, .inr (0, [.ref q7, .ref q14, .int (nI 0), .int (nI 0)])), (q7, .inl (k 0, 9, .inl (aN (fun _ => 0)))), (q14, .inl (k 0, 4, .inl (aN (fun _ => 0))))] H locs := hW
  refine lv_aload_n hX.1 hX.2.1 d_Ex_init_19 rfl (lv_at hl 0 rfl) ?_
  refine lv_iconst (v := nI 0) hX.1 hX.2.1 d_Ex_init_20 (by decide) ?_
  refine kput hX hW i_Ex t_Ex t_Ex_ok n_Ex 0 rfl rfl 2 (by decide) f_Ex_18 rfl rfl (rfl) (rfl) (Nat.le_of_ble_eq_true rfl) d_Ex_init_21 (fun H locs hW => ?_)
  have hW : KW D k A s [(h, .inr (0, [.ref q7, .ref q14, .int (nI 0), .int (nI 0)])), (q7, .inl (k 0, 9, .inl (aN (fun _ => 0)))), (q14, .inl (k 0, 4, .inl (aN (fun _ => 0))))] H locs := hW
  refine lv_aload_n hX.1 hX.2.1 d_Ex_init_24 rfl (lv_at hl 0 rfl) ?_
  refine lv_iconst (v := nI 0) hX.1 hX.2.1 d_Ex_init_25 (by decide) ?_
  refine kput hX hW i_Ex t_Ex t_Ex_ok n_Ex 0 rfl rfl 3 (by decide) f_Ex_22 rfl rfl (rfl) (rfl) (Nat.le_of_ble_eq_true rfl) d_Ex_init_26 (fun H locs hW => ?_)
  have hW : KW D k A s [(h, .inr (0, [.ref q7, .ref q14, .int (nI 0), .int (nI 0)])), (q7, .inl (k 0, 9, .inl (aN (fun _ => 0)))), (q14, .inl (k 0, 4, .inl (aN (fun _ => 0))))] H locs := hW
  refine W.widen (k := 2) (n := 13) (by omega) (by omega) ?_
  exact kvret hX hr hlocks hQ (q7, q14) (hW) (trivial) d_Ex_init_29
set_option maxHeartbeats 4000000 in
set_option maxRecDepth 100000 in
/-- clear() -/
theorem ok_Ex_clear (l : Launch) (D : va_G) (k : Nat → ClassId) (sz : Nat) (h f g : Nat) (FO SP : Nat → Nat) (en n : Nat) : Met l y_Ex_clear (.code y_Ex_clear c_Ex_clear 1 none :: wsU) ({ frames := 1, cells := 0, slots := 0, locals := 23 } : Room) (kPre D k [.ref h] [(h, .inr (0, [.ref f, .ref g, .int (nI en), .int (nI n)])), (f, .inl (k 0, 9, .inl (aN FO))), (g, .inl (k 0, 4, .inl (aN SP)))] sz) (va_Qv (fun (_ : Unit) => True) (kB D k (fun _ : Unit => [(h, .inr (0, [.ref f, .ref g, .int (nI 0), .int (nI 0)])), (f, .inl (k 0, 9, .inl (aN (fun _ => 0)))), (g, .inl (k 0, 4, .inl (aN (fun _ => 0))))]) (va_A [(h, .inr (0, [.ref f, .ref g, .int (nI en), .int (nI n)])), (f, .inl (k 0, 9, .inl (aN FO))), (g, .inl (k 0, 4, .inl (aN SP)))] sz)) (va_A [(h, .inr (0, [.ref f, .ref g, .int (nI en), .int (nI n)])), (f, .inl (k 0, 9, .inl (aN FO))), (g, .inl (k 0, 4, .inl (aN SP)))] sz)) 0 0 (va_A [(h, .inr (0, [.ref f, .ref g, .int (nI en), .int (nI n)])), (f, .inl (k 0, 9, .inl (aN FO))), (g, .inl (k 0, 4, .inl (aN SP)))] sz) := by
  refine kMet (by decide) (Nat.le_of_ble_eq_true rfl) ?_
  intro p e s m below meth c ls hX hml hr hlocks hin hsz hW hl Q hQ
  generalize hAe : va_A [(h, .inr (0, [.ref f, .ref g, .int (nI en), .int (nI n)])), (f, .inl (k 0, 9, .inl (aN FO))), (g, .inl (k 0, 4, .inl (aN SP)))] sz = A at hW hQ
  generalize hH0 : s.heap = H at hW ⊢
  generalize hl0 : ([] : List Loc) = locs at hW ⊢
  have hX : FX p s m c [.ref h].toArray c_Ex_clear R_Ex := hX
  have hl : lv_has ls 1 [(0, .ref h)] := hl
  refine lv_aload_n hX.1 hX.2.1 d_Ex_clear_0 rfl (lv_at hl 0 rfl) ?_
  refine kget hX hW i_Ex 0 rfl rfl 0 (by decide) f_Ex_11 rfl rfl d_Ex_clear_1 ?_
  refine lv_iconst (v := nI 0) hX.1 hX.2.1 d_Ex_clear_4 (by decide) ?_
  refine kCv (wc := [(f, .inl (k 0, 9, .inl (aN FO)))]) hW [1] (by rfl) (by intro _; rfl) (kRunS (n := 2) (As := [.ref f, .int (nI 0)]) (rest := []) hX hml hW (ok_Ar_fillI l D k H.size f 9 (aN FO) (nI 0) (by decide)) m_Ex_25 sm_Ar_fillI in_Ar cd_Ar_fillI [1] rfl rfl (by decide +kernel) ⟨rfl, rfl, by decide, by decide⟩ rfl hl.1 rfl (by decide) d_Ex_clear_5 ⟨by first | exact Nat.zero_le _ | decide | omega, by first | exact Nat.zero_le _ | decide | omega⟩) (fun u H locs _ hW => ?_)
  have hW : KW D k A s [(h, .inr (0, [.ref f, .ref g, .int (nI en), .int (nI n)])), (f, .inl (k 0, 9, .inl (aN (fun _ => 0)))), (g, .inl (k 0, 4, .inl (aN SP)))] H locs := hW
  refine lv_aload_n hX.1 hX.2.1 d_Ex_clear_8 rfl (lv_at hl 0 rfl) ?_
  refine kget hX hW i_Ex 0 rfl rfl 1 (by decide) f_Ex_15 rfl rfl d_Ex_clear_9 ?_
  refine lv_iconst (v := nI 0) hX.1 hX.2.1 d_Ex_clear_12 (by decide) ?_
  refine kCv (wc := [(g, .inl (k 0, 4, .inl (aN SP)))]) hW [2] (by rfl) (by intro _; rfl) (kRunS (n := 2) (As := [.ref g, .int (nI 0)]) (rest := []) hX hml hW (ok_Ar_fillI l D k H.size g 4 (aN SP) (nI 0) (by decide)) m_Ex_25 sm_Ar_fillI in_Ar cd_Ar_fillI [2] rfl rfl (by decide +kernel) ⟨rfl, rfl, by decide, by decide⟩ rfl hl.1 rfl (by decide) d_Ex_clear_13 ⟨by first | exact Nat.zero_le _ | decide | omega, by first | exact Nat.zero_le _ | decide | omega⟩) (fun u H locs _ hW => ?_)
  have hW : KW D k A s [(h, .inr (0, [.ref f, .ref g, .int (nI en), .int (nI n)])), (f, .inl (k 0, 9, .inl (aN (fun _ => 0)))), (g, .inl (k 0, 4, .inl (aN (fun _ => 0))))] H locs := hW
  refine lv_aload_n hX.1 hX.2.1 d_Ex_clear_16 rfl (lv_at hl 0 rfl) ?_
  refine lv_iconst (v := nI 0) hX.1 hX.2.1 d_Ex_clear_17 (by decide) ?_
  refine kput hX hW i_Ex t_Ex t_Ex_ok n_Ex 0 rfl rfl 2 (by decide) f_Ex_18 rfl rfl (rfl) (rfl) (Nat.le_of_ble_eq_true rfl) d_Ex_clear_18 (fun H locs hW => ?_)
  have hW : KW D k A s [(h, .inr (0, [.ref f, .ref g, .int (nI 0), .int (nI n)])), (f, .inl (k 0, 9, .inl (aN (fun _ => 0)))), (g, .inl (k 0, 4, .inl (aN (fun _ => 0))))] H locs := hW
  refine lv_aload_n hX.1 hX.2.1 d_Ex_clear_21 rfl (lv_at hl 0 rfl) ?_
  refine lv_iconst (v := nI 0) hX.1 hX.2.1 d_Ex_clear_22 (by decide) ?_
  refine kput hX hW i_Ex t_Ex t_Ex_ok n_Ex 0 rfl rfl 3 (by decide) f_Ex_22 rfl rfl (rfl) (rfl) (Nat.le_of_ble_eq_true rfl) d_Ex_clear_23 (fun H locs hW => ?_)
  have hW : KW D k A s [(h, .inr (0, [.ref f, .ref g, .int (nI 0), .int (nI 0)])), (f, .inl (k 0, 9, .inl (aN (fun _ => 0)))), (g, .inl (k 0, 4, .inl (aN (fun _ => 0))))] H locs := hW
  exact kvret hX hr hlocks hQ () (hW) (trivial) d_Ex_clear_26
set_option maxHeartbeats 4000000 in
set_option maxRecDepth 100000 in
/-- addLetter(a) -/
theorem ok_Ex_addLetter (l : Launch) (D : va_G) (k : Nat → ClassId) (sz : Nat) (h f g : Nat) (FO SP : Nat → Nat) (en n : Nat) (a : Nat) (ha : a < 4) (hn : n < 8) : Met l y_Ex_addLetter (.code y_Ex_addLetter c_Ex_addLetter 3 (some .int) :: wsU) ({ frames := 0, cells := 0, slots := 0, locals := 0 } : Room) (kPre D k [.ref h, .int (nI a)] [(h, .inr (0, [.ref f, .ref g, .int (nI en), .int (nI n)])), (f, .inl (k 0, 9, .inl (aN FO))), (g, .inl (k 0, 4, .inl (aN SP)))] sz) (va_Qi (fun (r : Int32) (_ : Unit) => r = nI (2 ^ n)) (kB D k (fun _ : Unit => [(h, .inr (0, [.ref f, .ref g, .int (nI en), .int (nI (n + 1))])), (f, .inl (k 0, 9, .inl (aN FO))), (g, .inl (k 0, 4, .inl (aN (va_up SP a (SP a ||| 2 ^ n)))))]) (va_A [(h, .inr (0, [.ref f, .ref g, .int (nI en), .int (nI n)])), (f, .inl (k 0, 9, .inl (aN FO))), (g, .inl (k 0, 4, .inl (aN SP)))] sz)) (va_A [(h, .inr (0, [.ref f, .ref g, .int (nI en), .int (nI n)])), (f, .inl (k 0, 9, .inl (aN FO))), (g, .inl (k 0, 4, .inl (aN SP)))] sz)) 0 0 (va_A [(h, .inr (0, [.ref f, .ref g, .int (nI en), .int (nI n)])), (f, .inl (k 0, 9, .inl (aN FO))), (g, .inl (k 0, 4, .inl (aN SP)))] sz) := by
  refine kMet (by decide) (Nat.le_of_ble_eq_true rfl) ?_
  intro p e s m below meth c ls hX hml hr hlocks hin hsz hW hl Q hQ
  generalize hAe : va_A [(h, .inr (0, [.ref f, .ref g, .int (nI en), .int (nI n)])), (f, .inl (k 0, 9, .inl (aN FO))), (g, .inl (k 0, 4, .inl (aN SP)))] sz = A at hW hQ
  generalize hH0 : s.heap = H at hW ⊢
  generalize hl0 : ([] : List Loc) = locs at hW ⊢
  have hX : FX p s m c [.ref h, .int (nI a)].toArray c_Ex_addLetter R_Ex := hX
  have hl : lv_has ls 3 [(0, .ref h), (1, .int (nI a))] := hl
  refine lv_iconst (v := nI 1) hX.1 hX.2.1 d_Ex_addLetter_0 (by decide) ?_
  refine lv_aload_n hX.1 hX.2.1 d_Ex_addLetter_1 rfl (lv_at hl 0 rfl) ?_
  refine kget hX hW i_Ex 0 rfl rfl 3 (by decide) f_Ex_22 rfl rfl d_Ex_addLetter_2 ?_
  refine lv_ishl hX.1 hX.2.1 d_Ex_addLetter_5 ?_
  refine tpi (y := nI (2 ^ n)) (kn_shl1 (by omega)) ?_
  refine lv_istore_n (lv' := [(2, .int (nI (2 ^ n))), (0, .ref h), (1, .int (nI a))]) hX.1 hX.2.1 d_Ex_addLetter_6 rfl hl (by decide) rfl (fun ls hl => ?_)
  refine lv_aload_n hX.1 hX.2.1 d_Ex_addLetter_7 rfl (lv_at hl 1 rfl) ?_
  refine kget hX hW i_Ex 0 rfl rfl 1 (by decide) f_Ex_15 rfl rfl d_Ex_addLetter_8 ?_
  refine lv_iload_n hX.1 hX.2.1 d_Ex_addLetter_11 rfl (lv_at hl 2 rfl) ?_
  refine lv_dup2_11 hX.1 hX.2.1 d_Ex_addLetter_12 rfl rfl ?_
  refine kiald hX hW 2 rfl (by omega) (by first | decide | omega) d_Ex_addLetter_13 ?_
  refine lv_iload_n hX.1 hX.2.1 d_Ex_addLetter_14 rfl (lv_at hl 0 rfl) ?_
  refine lv_ior hX.1 hX.2.1 d_Ex_addLetter_15 ?_
  refine tpi (y := nI (SP a ||| 2 ^ n)) (kn_or _ _) ?_
  refine kiast hX hW 2 rfl (by omega) (by first | decide | omega) d_Ex_addLetter_16 (fun H locs hW => ?_)
  have hW : KW D k A s [(h, .inr (0, [.ref f, .ref g, .int (nI en), .int (nI n)])), (f, .inl (k 0, 9, .inl (aN FO))), (g, .inl (k 0, 4, .inl (aN (va_up SP a (SP a ||| 2 ^ n)))))] H locs := hW
  refine lv_aload_n hX.1 hX.2.1 d_Ex_addLetter_17 rfl (lv_at hl 1 rfl) ?_
  refine lv_dup hX.1 hX.2.1 d_Ex_addLetter_18 rfl ?_
  refine kget hX hW i_Ex 0 rfl rfl 3 (by decide) f_Ex_22 rfl rfl d_Ex_addLetter_19 ?_
  refine lv_iconst (v := nI 1) hX.1 hX.2.1 d_Ex_addLetter_22 (by decide) ?_
  refine lv_iadd hX.1 hX.2.1 d_Ex_addLetter_23 ?_
  refine tpi (y := nI (n + 1)) (nI_1 _) ?_
  refine kput hX hW i_Ex t_Ex t_Ex_ok n_Ex 0 rfl rfl 3 (by decide) f_Ex_22 rfl rfl (rfl) (rfl) (Nat.le_of_ble_eq_true rfl) d_Ex_addLetter_24 (fun H locs hW => ?_)
  have hW : KW D k A s [(h, .inr (0, [.ref f, .ref g, .int (nI en), .int (nI (n + 1))])), (f, .inl (k 0, 9, .inl (aN FO))), (g, .inl (k 0, 4, .inl (aN (va_up SP a (SP a ||| 2 ^ n)))))] H locs := hW
  refine lv_iload_n hX.1 hX.2.1 d_Ex_addLetter_27 rfl (lv_at hl 0 rfl) ?_
  exact kiret hX hr hlocks hQ () (hW) (rfl) d_Ex_addLetter_28
set_option maxHeartbeats 4000000 in
set_option maxRecDepth 100000 in
/-- setWhole(part) -/
theorem ok_Ex_setWhole (l : Launch) (D : va_G) (k : Nat → ClassId) (sz : Nat) (h f g : Nat) (FO SP : Nat → Nat) (en n : Nat) (pt fi la : Nat) (em : Bool) : Met l y_Ex_setWhole (.code y_Ex_setWhole c_Ex_setWhole 2 none :: wsU) ({ frames := 0, cells := 0, slots := 0, locals := 0 } : Room) (kPre D k [.ref h, .ref pt] [(h, .inr (0, [.ref f, .ref g, .int (nI en), .int (nI n)])), (f, .inl (k 0, 9, .inl (aN FO))), (g, .inl (k 0, 4, .inl (aN SP))), (pt, .inr (3, [.int (nI fi), .int (nI la), .int (nI em.toNat)]))] sz) (va_Qv (fun (_ : Unit) => True) (kB D k (fun _ : Unit => [(h, .inr (0, [.ref f, .ref g, .int (nI (if em then la ||| 256 else la)), .int (nI n)])), (f, .inl (k 0, 9, .inl (aN (va_up FO 8 fi)))), (g, .inl (k 0, 4, .inl (aN SP))), (pt, .inr (3, [.int (nI fi), .int (nI la), .int (nI em.toNat)]))]) (va_A [(h, .inr (0, [.ref f, .ref g, .int (nI en), .int (nI n)])), (f, .inl (k 0, 9, .inl (aN FO))), (g, .inl (k 0, 4, .inl (aN SP))), (pt, .inr (3, [.int (nI fi), .int (nI la), .int (nI em.toNat)]))] sz)) (va_A [(h, .inr (0, [.ref f, .ref g, .int (nI en), .int (nI n)])), (f, .inl (k 0, 9, .inl (aN FO))), (g, .inl (k 0, 4, .inl (aN SP))), (pt, .inr (3, [.int (nI fi), .int (nI la), .int (nI em.toNat)]))] sz)) 0 0 (va_A [(h, .inr (0, [.ref f, .ref g, .int (nI en), .int (nI n)])), (f, .inl (k 0, 9, .inl (aN FO))), (g, .inl (k 0, 4, .inl (aN SP))), (pt, .inr (3, [.int (nI fi), .int (nI la), .int (nI em.toNat)]))] sz) := by
  refine kMet (by decide) (Nat.le_of_ble_eq_true rfl) ?_
  intro p e s m below meth c ls hX hml hr hlocks hin hsz hW hl Q hQ
  generalize hAe : va_A [(h, .inr (0, [.ref f, .ref g, .int (nI en), .int (nI n)])), (f, .inl (k 0, 9, .inl (aN FO))), (g, .inl (k 0, 4, .inl (aN SP))), (pt, .inr (3, [.int (nI fi), .int (nI la), .int (nI em.toNat)]))] sz = A at hW hQ
  generalize hH0 : s.heap = H at hW ⊢
  generalize hl0 : ([] : List Loc) = locs at hW ⊢
  have hX : FX p s m c [.ref h, .ref pt].toArray c_Ex_setWhole R_Ex := hX
  have hl : lv_has ls 2 [(0, .ref h), (1, .ref pt)] := hl
  refine lv_aload_n hX.1 hX.2.1 d_Ex_setWhole_0 rfl (lv_at hl 0 rfl) ?_
  refine kget hX hW i_Ex 0 rfl rfl 0 (by decide) f_Ex_11 rfl rfl d_Ex_setWhole_1 ?_
  refine lv_bipush (v := nI 8) hX.1 hX.2.1 d_Ex_setWhole_4 (by decide) ?_
  refine lv_aload_n hX.1 hX.2.1 d_Ex_setWhole_6 rfl (lv_at hl 1 rfl) ?_
  refine kget hX hW i_Pt 3 rfl rfl 0 (by decide) f_Ex_31 rfl rfl d_Ex_setWhole_7 ?_
  refine kiast hX hW 1 rfl (by omega) (by first | decide | omega) d_Ex_setWhole_10 (fun H locs hW => ?_)
  have hW : KW D k A s [(h, .inr (0, [.ref f, .ref g, .int (nI en), .int (nI n)])), (f, .inl (k 0, 9, .inl (aN (va_up FO 8 fi)))), (g, .inl (k 0, 4, .inl (aN SP))), (pt, .inr (3, [.int (nI fi), .int (nI la), .int (nI em.toNat)]))] H locs := hW
  refine lv_aload_n hX.1 hX.2.1 d_Ex_setWhole_11 rfl (lv_at hl 0 rfl) ?_
  refine lv_aload_n hX.1 hX.2.1 d_Ex_setWhole_12 rfl (lv_at hl 1 rfl) ?_
  refine kget hX hW i_Pt 3 rfl rfl 2 (by decide) f_Ex_36 rfl rfl d_Ex_setWhole_13 ?_
  have k34 : ∀ (v : Nat), v = (if em then la ||| 256 else la) → W p l e ({ frames := 0, cells := 0, slots := 0, locals := 0 } : Room) s m [.ref h, .ref pt].toArray below meth c H locs 0 0 Q (F0 m 34 ls [.int (nI v), .ref h]) := by
    intro v hv
    refine kput hX hW i_Ex t_Ex t_Ex_ok n_Ex 0 rfl rfl 2 (by decide) f_Ex_18 rfl rfl (rfl) (rfl) (Nat.le_of_ble_eq_true rfl) d_Ex_setWhole_34 (fun H locs hW => ?_)
    have hW : KW D k A s [(h, .inr (0, [.ref f, .ref g, .int (nI v), .int (nI n)])), (f, .inl (k 0, 9, .inl (aN (va_up FO 8 fi)))), (g, .inl (k 0, 4, .inl (aN SP))), (pt, .inr (3, [.int (nI fi), .int (nI la), .int (nI em.toNat)]))] H locs := hW
    subst hv
    exact kvret hX hr hlocks hQ () (hW) (trivial) d_Ex_setWhole_37
  refine kz hX (tgt := 30) (bT _) d_Ex_setWhole_16 (by decide) (fun h1 => ?_) (fun h1 => ?_)
  · refine lv_aload_n hX.1 hX.2.1 d_Ex_setWhole_30 rfl (lv_at hl 1 rfl) ?_
    refine kget hX hW i_Pt 3 rfl rfl 1 (by decide) f_Ex_40 rfl rfl d_Ex_setWhole_31 ?_
    exact k34 _ (by rw [bT_0 h1]; rfl)
  · refine lv_aload_n hX.1 hX.2.1 d_Ex_setWhole_19 rfl (lv_at hl 1 rfl) ?_
    refine kget hX hW i_Pt 3 rfl rfl 1 (by decide) f_Ex_40 rfl rfl d_Ex_setWhole_20 ?_
    refine lv_sipush (v := nI 256) hX.1 hX.2.1 d_Ex_setWhole_23 (by decide) ?_
    refine lv_ior hX.1 hX.2.1 d_Ex_setWhole_26 ?_
    refine tpi (y := nI (la ||| 256)) (kn_or _ _) ?_
    refine lv_goto (tgt := 34) hX.1 hX.2.1 d_Ex_setWhole_27 (by decide) ?_
    exact k34 _ (by rw [bT_1 h1]; rfl)
set_option maxHeartbeats 4000000 in
set_option maxRecDepth 100000 in
/-- Part() -/
theorem ok_Pt_init (l : Launch) (D : va_G) (k : Nat → ClassId) (sz : Nat) (pt : Nat) : Met l y_Pt_init (.code y_Pt_init c_Pt_init 1 none :: wsU) ({ frames := 1, cells := 0, slots := 0, locals := 12 } : Room) (kPre D k [.ref pt] [(pt, .inr (3, [.int (nI 0), .int (nI 0), .int (nI 0)]))] sz) (va_Qv (fun (_ : Unit) => True) (kB D k (fun _ : Unit => [(pt, .inr (3, [.int (nI 0), .int (nI 0), .int (nI false.toNat)]))]) (va_A [(pt, .inr (3, [.int (nI 0), .int (nI 0), .int (nI 0)]))] sz)) (va_A [(pt, .inr (3, [.int (nI 0), .int (nI 0), .int (nI 0)]))] sz)) 0 0 (va_A [(pt, .inr (3, [.int (nI 0), .int (nI 0), .int (nI 0)]))] sz) := by
  refine kMet (by decide) (Nat.le_of_ble_eq_true rfl) ?_
  intro p e s m below meth c ls hX hml hr hlocks hin hsz hW hl Q hQ
  generalize hAe : va_A [(pt, .inr (3, [.int (nI 0), .int (nI 0), .int (nI 0)]))] sz = A at hW hQ
  generalize hH0 : s.heap = H at hW ⊢
  generalize hl0 : ([] : List Loc) = locs at hW ⊢
  have hX : FX p s m c [.ref pt].toArray c_Pt_init R_Pt := hX
  have hl : lv_has ls 1 [(0, .ref pt)] := hl
  refine lv_aload_n hX.1 hX.2.1 d_Pt_init_0 rfl (lv_at hl 0 rfl) ?_
  refine kobj hX (hml.trans hl.1.symm) m_Pt_1 (by decide) (by decide) d_Pt_init_1 ?_
  refine lv_aload_n hX.1 hX.2.1 d_Pt_init_4 rfl (lv_at hl 0 rfl) ?_
  refine lv_iconst (v := nI 0) hX.1 hX.2.1 d_Pt_init_5 (by decide) ?_
  refine kput hX hW i_Pt t_Pt t_Pt_ok n_Pt 0 rfl rfl 0 (by decide) f_Pt_7 rfl rfl (rfl) (rfl) (Nat.le_of_ble_eq_true rfl) d_Pt_init_6 (fun H locs hW => ?_)
  have hW : KW D k A s [(pt, .inr (3, [.int (nI 0), .int (nI 0), .int (nI 0)]))] H locs := hW
  refine lv_aload_n hX.1 hX.2.1 d_Pt_init_9 rfl (lv_at hl 0 rfl) ?_
  refine lv_iconst (v := nI 0) hX.1 hX.2.1 d_Pt_init_10 (by decide) ?_
  refine kput hX hW i_Pt t_Pt t_Pt_ok n_Pt 0 rfl rfl 1 (by decide) f_Pt_13 rfl rfl (rfl) (rfl) (Nat.le_of_ble_eq_true rfl) d_Pt_init_11 (fun H locs hW => ?_)
  have hW : KW D k A s [(pt, .inr (3, [.int (nI 0), .int (nI 0), .int (nI 0)]))] H locs := hW
  refine lv_aload_n hX.1 hX.2.1 d_Pt_init_14 rfl (lv_at hl 0 rfl) ?_
  refine lv_iconst (v := nI 0) hX.1 hX.2.1 d_Pt_init_15 (by decide) ?_
  refine kput hX hW i_Pt t_Pt t_Pt_ok n_Pt 0 rfl rfl 2 (by decide) f_Pt_16 rfl rfl (rfl) (rfl) (Nat.le_of_ble_eq_true rfl) d_Pt_init_16 (fun H locs hW => ?_)
  have hW : KW D k A s [(pt, .inr (3, [.int (nI 0), .int (nI 0), .int (nI 0)]))] H locs := hW
  exact kvret hX hr hlocks hQ () (hW) (trivial) d_Pt_init_19
set_option maxHeartbeats 4000000 in
set_option maxRecDepth 100000 in
/-- become(x, y, z) -/
theorem ok_Pt_become (l : Launch) (D : va_G) (k : Nat → ClassId) (sz : Nat) (pt fi la : Nat) (em : Bool) (x y : Nat) (z : Bool) : Met l y_Pt_become (.code y_Pt_become c_Pt_become 4 none :: wsU) ({ frames := 0, cells := 0, slots := 0, locals := 0 } : Room) (kPre D k [.ref pt, .int (nI x), .int (nI y), .int (nI z.toNat)] [(pt, .inr (3, [.int (nI fi), .int (nI la), .int (nI em.toNat)]))] sz) (va_Qv (fun (_ : Unit) => True) (kB D k (fun _ : Unit => [(pt, .inr (3, [.int (nI x), .int (nI y), .int (nI z.toNat)]))]) (va_A [(pt, .inr (3, [.int (nI fi), .int (nI la), .int (nI em.toNat)]))] sz)) (va_A [(pt, .inr (3, [.int (nI fi), .int (nI la), .int (nI em.toNat)]))] sz)) 0 0 (va_A [(pt, .inr (3, [.int (nI fi), .int (nI la), .int (nI em.toNat)]))] sz) := by
  refine kMet (by decide) (Nat.le_of_ble_eq_true rfl) ?_
  intro p e s m below meth c ls hX hml hr hlocks hin hsz hW hl Q hQ
  generalize hAe : va_A [(pt, .inr (3, [.int (nI fi), .int (nI la), .int (nI em.toNat)]))] sz = A at hW hQ
  generalize hH0 : s.heap = H at hW ⊢
  generalize hl0 : ([] : List Loc) = locs at hW ⊢
  have hX : FX p s m c [.ref pt, .int (nI x), .int (nI y), .int (nI z.toNat)].toArray c_Pt_become R_Pt := hX
  have hl : lv_has ls 4 [(0, .ref pt), (1, .int (nI x)), (2, .int (nI y)), (3, .int (nI z.toNat))] := hl
  refine lv_aload_n hX.1 hX.2.1 d_Pt_become_0 rfl (lv_at hl 0 rfl) ?_
  refine lv_iload_n hX.1 hX.2.1 d_Pt_become_1 rfl (lv_at hl 1 rfl) ?_
  refine kput hX hW i_Pt t_Pt t_Pt_ok n_Pt 0 rfl rfl 0 (by decide) f_Pt_7 rfl rfl (rfl) (rfl) (Nat.le_of_ble_eq_true rfl) d_Pt_become_2 (fun H locs hW => ?_)
  have hW : KW D k A s [(pt, .inr (3, [.int (nI x), .int (nI la), .int (nI em.toNat)]))] H locs := hW
  refine lv_aload_n hX.1 hX.2.1 d_Pt_become_5 rfl (lv_at hl 0 rfl) ?_
  refine lv_iload_n hX.1 hX.2.1 d_Pt_become_6 rfl (lv_at hl 2 rfl) ?_
  refine kput hX hW i_Pt t_Pt t_Pt_ok n_Pt 0 rfl rfl 1 (by decide) f_Pt_13 rfl rfl (rfl) (rfl) (Nat.le_of_ble_eq_true rfl) d_Pt_become_7 (fun H locs hW => ?_)
  have hW : KW D k A s [(pt, .inr (3, [.int (nI x), .int (nI y), .int (nI em.toNat)]))] H locs := hW
  refine lv_aload_n hX.1 hX.2.1 d_Pt_become_10 rfl (lv_at hl 0 rfl) ?_
  refine lv_iload_n hX.1 hX.2.1 d_Pt_become_11 rfl (lv_at hl 3 rfl) ?_
  refine kput hX hW i_Pt t_Pt t_Pt_ok n_Pt 0 rfl rfl 2 (by decide) f_Pt_16 rfl rfl (bT_n _) (bT_f _) (Nat.le_of_ble_eq_true rfl) d_Pt_become_12 (fun H locs hW => ?_)
  have hW : KW D k A s [(pt, .inr (3, [.int (nI x), .int (nI y), .int (nI z.toNat)]))] H locs := hW
  exact kvret hX hr hlocks hQ () (hW) (trivial) d_Pt_become_15
set_option maxHeartbeats 4000000 in
set_option maxRecDepth 100000 in
/-- addAlternative(other) -/
theorem ok_Pt_addAlternative (l : Launch) (D : va_G) (k : Nat → ClassId) (sz : Nat) (pt fi la : Nat) (em : Bool) (pu fj lb : Nat) (en : Bool) : Met l y_Pt_addAlternative (.code y_Pt_addAlternative c_Pt_addAlternative 2 none :: wsU) ({ frames := 1, cells := 0, slots := 0, locals := 23 } : Room) (kPre D k [.ref pt, .ref pu] [(pt, .inr (3, [.int (nI fi), .int (nI la), .int (nI em.toNat)])), (pu, .inr (3, [.int (nI fj), .int (nI lb), .int (nI en.toNat)]))] sz) (va_Qv (fun (_ : Unit) => True) (kB D k (fun _ : Unit => [(pt, .inr (3, [.int (nI (fi ||| fj)), .int (nI (la ||| lb)), .int (nI ((em || en).toNat))])), (pu, .inr (3, [.int (nI fj), .int (nI lb), .int (nI en.toNat)]))]) (va_A [(pt, .inr (3, [.int (nI fi), .int (nI la), .int (nI em.toNat)])), (pu, .inr (3, [.int (nI fj), .int (nI lb), .int (nI en.toNat)]))] sz)) (va_A [(pt, .inr (3, [.int (nI fi), .int (nI la), .int (nI em.toNat)])), (pu, .inr (3, [.int (nI fj), .int (nI lb), .int (nI en.toNat)]))] sz)) 0 0 (va_A [(pt, .inr (3, [.int (nI fi), .int (nI la), .int (nI em.toNat)])), (pu, .inr (3, [.int (nI fj), .int (nI lb), .int (nI en.toNat)]))] sz) := by
  refine kMet (by decide) (Nat.le_of_ble_eq_true rfl) ?_
  intro p e s m below meth c ls hX hml hr hlocks hin hsz hW hl Q hQ
  generalize hAe : va_A [(pt, .inr (3, [.int (nI fi), .int (nI la), .int (nI em.toNat)])), (pu, .inr (3, [.int (nI fj), .int (nI lb), .int (nI en.toNat)]))] sz = A at hW hQ
  generalize hH0 : s.heap = H at hW ⊢
  generalize hl0 : ([] : List Loc) = locs at hW ⊢
  have hX : FX p s m c [.ref pt, .ref pu].toArray c_Pt_addAlternative R_Pt := hX
  have hl : lv_has ls 2 [(0, .ref pt), (1, .ref pu)] := hl
  refine lv_aload_n hX.1 hX.2.1 d_Pt_addAlternative_0 rfl (lv_at hl 0 rfl) ?_
  refine lv_aload_n hX.1 hX.2.1 d_Pt_addAlternative_1 rfl (lv_at hl 0 rfl) ?_
  refine kget hX hW i_Pt 0 rfl rfl 0 (by decide) f_Pt_7 rfl rfl d_Pt_addAlternative_2 ?_
  refine lv_aload_n hX.1 hX.2.1 d_Pt_addAlternative_5 rfl (lv_at hl 1 rfl) ?_
  refine kget hX hW i_Pt 1 rfl rfl 0 (by decide) f_Pt_7 rfl rfl d_Pt_addAlternative_6 ?_
  refine lv_ior hX.1 hX.2.1 d_Pt_addAlternative_9 ?_
  refine tpi (y := nI (fi ||| fj)) (kn_or _ _) ?_
  refine lv_aload_n hX.1 hX.2.1 d_Pt_addAlternative_10 rfl (lv_at hl 0 rfl) ?_
  refine kget hX hW i_Pt 0 rfl rfl 1 (by decide) f_Pt_13 rfl rfl d_Pt_addAlternative_11 ?_
  refine lv_aload_n hX.1 hX.2.1 d_Pt_addAlternative_14 rfl (lv_at hl 1 rfl) ?_
  refine kget hX hW i_Pt 1 rfl rfl 1 (by decide) f_Pt_13 rfl rfl d_Pt_addAlternative_15 ?_
  refine lv_ior hX.1 hX.2.1 d_Pt_addAlternative_18 ?_
  refine tpi (y := nI (la ||| lb)) (kn_or _ _) ?_
  refine lv_aload_n hX.1 hX.2.1 d_Pt_addAlternative_19 rfl (lv_at hl 0 rfl) ?_
  refine kget hX hW i_Pt 0 rfl rfl 2 (by decide) f_Pt_16 rfl rfl d_Pt_addAlternative_20 ?_
  have k38 : ∀ (v : Nat), v = (em || en).toNat → W p l e ({ frames := 1, cells := 0, slots := 0, locals := 23 } : Room) s m [.ref pt, .ref pu].toArray below meth c H locs 0 0 Q (F0 m 38 ls [.int (nI v), .int (nI (la ||| lb)), .int (nI (fi ||| fj)), .ref pt]) := by
    intro v hv
    subst hv
    refine kCv (wc := [(pt, .inr (3, [.int (nI fi), .int (nI la), .int (nI em.toNat)]))]) hW [0] (by rfl) (by intro _; rfl) (kRunV (n := 3) (As := [.int (nI (fi ||| fj)), .int (nI (la ||| lb)), .int (nI ((em || en).toNat))]) (rest := []) hX hml hW (ok_Pt_become l D k H.size pt fi la em (fi ||| fj) (la ||| lb) (em || en)) m_Pt_20 im_Pt_become se_Pt_become in_Pt cd_Pt_become [0] rfl rfl rfl rfl (by decide +kernel) ⟨rfl, rfl, by decide, by decide⟩ rfl hl.1 rfl (by decide) d_Pt_addAlternative_38 ⟨by first | exact Nat.zero_le _ | decide | omega, by first | exact Nat.zero_le _ | decide | omega⟩) (fun u H locs _ hW => ?_)
    have hW : KW D k A s [(pt, .inr (3, [.int (nI (fi ||| fj)), .int (nI (la ||| lb)), .int (nI ((em || en).toNat))])), (pu, .inr (3, [.int (nI fj), .int (nI lb), .int (nI en.toNat)]))] H locs := hW
    exact kvret hX hr hlocks hQ () (hW) (trivial) d_Pt_addAlternative_41
  refine knz hX (tgt := 33) (bT _) d_Pt_addAlternative_23 (by decide) (fun h1 => ?_) (fun h1 => ?_)
  · refine lv_iconst (v := nI 1) hX.1 hX.2.1 d_Pt_addAlternative_33 (by decide) ?_
    refine lv_goto (tgt := 38) hX.1 hX.2.1 d_Pt_addAlternative_34 (by decide) ?_
    exact k38 _ (by rw [bT_1 h1]; rfl)
  · refine lv_aload_n hX.1 hX.2.1 d_Pt_addAlternative_26 rfl (lv_at hl 1 rfl) ?_
    refine kget hX hW i_Pt 1 rfl rfl 2 (by decide) f_Pt_16 rfl rfl d_Pt_addAlternative_27 ?_
    refine kz hX (tgt := 37) (bT _) d_Pt_addAlternative_30 (by decide) (fun h2 => ?_) (fun h2 => ?_)
    · refine lv_iconst (v := nI 0) hX.1 hX.2.1 d_Pt_addAlternative_37 (by decide) ?_
      exact k38 _ (by rw [bT_0 h1, bT_0 h2]; rfl)
    · refine lv_iconst (v := nI 1) hX.1 hX.2.1 d_Pt_addAlternative_33 (by decide) ?_
      refine lv_goto (tgt := 38) hX.1 hX.2.1 d_Pt_addAlternative_34 (by decide) ?_
      exact k38 _ (by rw [bT_0 h1, bT_1 h2]; rfl)
set_option maxHeartbeats 4000000 in
set_option maxRecDepth 100000 in
/-- addBehind(other, target) -/
theorem ok_Pt_addBehind (l : Launch) (D : va_G) (k : Nat → ClassId) (sz : Nat) (pt fi la : Nat) (em : Bool) (pu fj lb : Nat) (eo : Bool) (h f g : Nat) (FO SP : Nat → Nat) (en n : Nat) (hla : la < 512) : Met l y_Pt_addBehind (.code y_Pt_addBehind c_Pt_addBehind 5 none :: wsU) ({ frames := 1, cells := 0, slots := 0, locals := 23 } : Room) (kPre D k [.ref pt, .ref pu, .ref h] [(pt, .inr (3, [.int (nI fi), .int (nI la), .int (nI em.toNat)])), (pu, .inr (3, [.int (nI fj), .int (nI lb), .int (nI eo.toNat)])), (h, .inr (0, [.ref f, .ref g, .int (nI en), .int (nI n)])), (f, .inl (k 0, 9, .inl (aN FO))), (g, .inl (k 0, 4, .inl (aN SP)))] sz) (va_Qv (fun (_ : Unit) => True) (kB D k (fun _ : Unit => [(pt, .inr (3, [.int (nI (if em then fi ||| fj else fi)), .int (nI (if eo then la ||| lb else lb)), .int (nI ((em && eo).toNat))])), (pu, .inr (3, [.int (nI fj), .int (nI lb), .int (nI eo.toNat)])), (h, .inr (0, [.ref f, .ref g, .int (nI en), .int (nI n)])), (f, .inl (k 0, 9, .inl (aN (lnk FO la fj 9)))), (g, .inl (k 0, 4, .inl (aN SP)))]) (va_A [(pt, .inr (3, [.int (nI fi), .int (nI la), .int (nI em.toNat)])), (pu, .inr (3, [.int (nI fj), .int (nI lb), .int (nI eo.toNat)])), (h, .inr (0, [.ref f, .ref g, .int (nI en), .int (nI n)])), (f, .inl (k 0, 9, .inl (aN FO))), (g, .inl (k 0, 4, .inl (aN SP)))] sz)) (va_A [(pt, .inr (3, [.int (nI fi), .int (nI la), .int (nI em.toNat)])), (pu, .inr (3, [.int (nI fj), .int (nI lb), .int (nI eo.toNat)])), (h, .inr (0, [.ref f, .ref g, .int (nI en), .int (nI n)])), (f, .inl (k 0, 9, .inl (aN FO))), (g, .inl (k 0, 4, .inl (aN SP)))] sz)) 0 0 (va_A [(pt, .inr (3, [.int (nI fi), .int (nI la), .int (nI em.toNat)])), (pu, .inr (3, [.int (nI fj), .int (nI lb), .int (nI eo.toNat)])), (h, .inr (0, [.ref f, .ref g, .int (nI en), .int (nI n)])), (f, .inl (k 0, 9, .inl (aN FO))), (g, .inl (k 0, 4, .inl (aN SP)))] sz) := by
  refine kMet (by decide) (Nat.le_of_ble_eq_true rfl) ?_
  intro p e s m below meth c ls hX hml hr hlocks hin hsz hW hl Q hQ
  generalize hAe : va_A [(pt, .inr (3, [.int (nI fi), .int (nI la), .int (nI em.toNat)])), (pu, .inr (3, [.int (nI fj), .int (nI lb), .int (nI eo.toNat)])), (h, .inr (0, [.ref f, .ref g, .int (nI en), .int (nI n)])), (f, .inl (k 0, 9, .inl (aN FO))), (g, .inl (k 0, 4, .inl (aN SP)))] sz = A at hW hQ
  generalize hH0 : s.heap = H at hW ⊢
  generalize hl0 : ([] : List Loc) = locs at hW ⊢
  have hX : FX p s m c [.ref pt, .ref pu, .ref h].toArray c_Pt_addBehind R_Pt := hX
  have hl : lv_has ls 5 [(0, .ref pt), (1, .ref pu), (2, .ref h)] := hl
  refine lv_aload_n hX.1 hX.2.1 d_Pt_addBehind_0 rfl (lv_at hl 2 rfl) ?_
  refine lv_aload_n hX.1 hX.2.1 d_Pt_addBehind_1 rfl (lv_at hl 0 rfl) ?_
  refine kget hX hW i_Pt 0 rfl rfl 1 (by decide) f_Pt_13 rfl rfl d_Pt_addBehind_2 ?_
  refine lv_aload_n hX.1 hX.2.1 d_Pt_addBehind_5 rfl (lv_at hl 1 rfl) ?_
  refine kget hX hW i_Pt 1 rfl rfl 0 (by decide) f_Pt_7 rfl rfl d_Pt_addBehind_6 ?_
  refine kCv (wc := [(h, .inr (0, [.ref f, .ref g, .int (nI en), .int (nI n)])), (f, .inl (k 0, 9, .inl (aN FO))), (g, .inl (k 0, 4, .inl (aN SP)))]) hW [2, 3, 4] (by rfl) (by intro _; rfl) (kRunV (n := 2) (As := [.int (nI la), .int (nI fj)]) (rest := []) hX hml hW (ok_Ex_link l D k H.size h f g FO SP en n la fj hla) m_Pt_24 im_Ex_link se_Ex_link in_Ex cd_Ex_link [2, 3, 4] rfl rfl rfl rfl (by decide +kernel) ⟨rfl, rfl, by decide, by decide⟩ rfl hl.1 rfl (by decide) d_Pt_addBehind_9 ⟨by first | exact Nat.zero_le _ | decide | omega, by first | exact Nat.zero_le _ | decide | omega⟩) (fun u H locs _ hW => ?_)
  have hW : KW D k A s [(pt, .inr (3, [.int (nI fi), .int (nI la), .int (nI em.toNat)])), (pu, .inr (3, [.int (nI fj), .int (nI lb), .int (nI eo.toNat)])), (h, .inr (0, [.ref f, .ref g, .int (nI en), .int (nI n)])), (f, .inl (k 0, 9, .inl (aN (lnk FO la fj 9)))), (g, .inl (k 0, 4, .inl (aN SP)))] H locs := hW
  refine lv_aload_n hX.1 hX.2.1 d_Pt_addBehind_12 rfl (lv_at hl 0 rfl) ?_
  refine kget hX hW i_Pt 0 rfl rfl 2 (by decide) f_Pt_16 rfl rfl d_Pt_addBehind_13 ?_
  have k35 : ∀ (v : Nat), v = (if em then fi ||| fj else fi) → W p l e ({ frames := 1, cells := 0, slots := 0, locals := 23 } : Room) s m [.ref pt, .ref pu, .ref h].toArray below meth c H locs 0 0 Q (F0 m 35 ls [.int (nI v)]) := by
    intro v hv
    refine lv_istore_n (lv' := [(3, .int (nI v)), (0, .ref pt), (1, .ref pu), (2, .ref h)]) hX.1 hX.2.1 d_Pt_addBehind_35 rfl hl (by decide) rfl (fun ls hl => ?_)
    refine lv_aload_n hX.1 hX.2.1 d_Pt_addBehind_36 rfl (lv_at hl 2 rfl) ?_
    refine kget hX hW i_Pt 1 rfl rfl 2 (by decide) f_Pt_16 rfl rfl d_Pt_addBehind_37 ?_
    have k59 : ∀ (u : Nat), u = (if eo then la ||| lb else lb) → W p l e ({ frames := 1, cells := 0, slots := 0, locals := 23 } : Room) s m [.ref pt, .ref pu, .ref h].toArray below meth c H locs 0 0 Q (F0 m 59 ls [.int (nI u)]) := by
      intro u hu
      refine lv_istore (lv' := [(4, .int (nI u)), (3, .int (nI v)), (0, .ref pt), (1, .ref pu), (2, .ref h)]) hX.1 hX.2.1 d_Pt_addBehind_59 hl (by decide) rfl (fun ls hl => ?_)
      refine lv_aload_n hX.1 hX.2.1 d_Pt_addBehind_61 rfl (lv_at hl 2 rfl) ?_
      refine lv_iload_n hX.1 hX.2.1 d_Pt_addBehind_62 rfl (lv_at hl 1 rfl) ?_
      refine lv_iload hX.1 hX.2.1 d_Pt_addBehind_63 (lv_at hl 0 rfl) ?_
      refine lv_aload_n hX.1 hX.2.1 d_Pt_addBehind_65 rfl (lv_at hl 2 rfl) ?_
      refine kget hX hW i_Pt 0 rfl rfl 2 (by decide) f_Pt_16 rfl rfl d_Pt_addBehind_66 ?_
      have k84 : ∀ (z : Nat), z = (em && eo).toNat → W p l e ({ frames := 1, cells := 0, slots := 0, locals := 23 } : Room) s m [.ref pt, .ref pu, .ref h].toArray below meth c H locs 0 0 Q (F0 m 84 ls [.int (nI z), .int (nI u), .int (nI v), .ref pt]) := by
        intro z hz
        subst hz
        refine kCv (wc := [(pt, .inr (3, [.int (nI fi), .int (nI la), .int (nI em.toNat)]))]) hW [0] (by rfl) (by intro _; rfl) (kRunV (n := 3) (As := [.int (nI v), .int (nI u), .int (nI ((em && eo).toNat))]) (rest := []) hX hml hW (ok_Pt_become l D k H.size pt fi la em v u (em && eo)) m_Pt_20 im_Pt_become se_Pt_become in_Pt cd_Pt_become [0] rfl rfl rfl rfl (by decide +kernel) ⟨rfl, rfl, by decide, by decide⟩ rfl hl.1 rfl (by decide) d_Pt_addBehind_84 ⟨by first | exact Nat.zero_le _ | decide | omega, by first | exact Nat.zero_le _ | decide | omega⟩) (fun _ H locs _ hW => ?_)
        have hW : KW D k A s [(pt, .inr (3, [.int (nI v), .int (nI u), .int (nI ((em && eo).toNat))])), (pu, .inr (3, [.int (nI fj), .int (nI lb), .int (nI eo.toNat)])), (h, .inr (0, [.ref f, .ref g, .int (nI en), .int (nI n)])), (f, .inl (k 0, 9, .inl (aN (lnk FO la fj 9)))), (g, .inl (k 0, 4, .inl (aN SP)))] H locs := hW
        subst hv hu
        exact kvret hX hr hlocks hQ () (hW) (trivial) d_Pt_addBehind_87
      refine kz hX (tgt := 83) (bT _) d_Pt_addBehind_69 (by decide) (fun h1 => ?_) (fun h1 => ?_)
      · refine lv_iconst (v := nI 0) hX.1 hX.2.1 d_Pt_addBehind_83 (by decide) ?_
        exact k84 _ (by rw [bT_0 h1]; rfl)
      · refine lv_aload_n hX.1 hX.2.1 d_Pt_addBehind_72 rfl (lv_at hl 3 rfl) ?_
        refine kget hX hW i_Pt 1 rfl rfl 2 (by decide) f_Pt_16 rfl rfl d_Pt_addBehind_73 ?_
        refine kz hX (tgt := 83) (bT _) d_Pt_addBehind_76 (by decide) (fun h2 => ?_) (fun h2 => ?_)
        · refine lv_iconst (v := nI 0) hX.1 hX.2.1 d_Pt_addBehind_83 (by decide) ?_
          exact k84 _ (by rw [bT_0 h2]; cases em <;> rfl)
        · refine lv_iconst (v := nI 1) hX.1 hX.2.1 d_Pt_addBehind_79 (by decide) ?_
          refine lv_goto (tgt := 84) hX.1 hX.2.1 d_Pt_addBehind_80 (by decide) ?_
          exact k84 _ (by rw [bT_1 h1, bT_1 h2]; rfl)
    refine kz hX (tgt := 55) (bT _) d_Pt_addBehind_40 (by decide) (fun h1 => ?_) (fun h1 => ?_)
    · refine lv_aload_n hX.1 hX.2.1 d_Pt_addBehind_55 rfl (lv_at hl 2 rfl) ?_
      refine kget hX hW i_Pt 1 rfl rfl 1 (by decide) f_Pt_13 rfl rfl d_Pt_addBehind_56 ?_
      exact k59 _ (by rw [bT_0 h1]; rfl)
    · refine lv_aload_n hX.1 hX.2.1 d_Pt_addBehind_43 rfl (lv_at hl 1 rfl) ?_
      refine kget hX hW i_Pt 0 rfl rfl 1 (by decide) f_Pt_13 rfl rfl d_Pt_addBehind_44 ?_
      refine lv_aload_n hX.1 hX.2.1 d_Pt_addBehind_47 rfl (lv_at hl 2 rfl) ?_
      refine kget hX hW i_Pt 1 rfl rfl 1 (by decide) f_Pt_13 rfl rfl d_Pt_addBehind_48 ?_
      refine lv_ior hX.1 hX.2.1 d_Pt_addBehind_51 ?_
      refine tpi (y := nI (la ||| lb)) (kn_or _ _) ?_
      refine lv_goto (tgt := 59) hX.1 hX.2.1 d_Pt_addBehind_52 (by decide) ?_
      exact k59 _ (by rw [bT_1 h1]; rfl)
  refine kz hX (tgt := 31) (bT _) d_Pt_addBehind_16 (by decide) (fun h1 => ?_) (fun h1 => ?_)
  · refine lv_aload_n hX.1 hX.2.1 d_Pt_addBehind_31 rfl (lv_at hl 0 rfl) ?_
    refine kget hX hW i_Pt 0 rfl rfl 0 (by decide) f_Pt_7 rfl rfl d_Pt_addBehind_32 ?_
    exact k35 _ (by rw [bT_0 h1]; rfl)
  · refine lv_aload_n hX.1 hX.2.1 d_Pt_addBehind_19 rfl (lv_at hl 0 rfl) ?_
    refine kget hX hW i_Pt 0 rfl rfl 0 (by decide) f_Pt_7 rfl rfl d_Pt_addBehind_20 ?_
    refine lv_aload_n hX.1 hX.2.1 d_Pt_addBehind_23 rfl (lv_at hl 1 rfl) ?_
    refine kget hX hW i_Pt 1 rfl rfl 0 (by decide) f_Pt_7 rfl rfl d_Pt_addBehind_24 ?_
    refine lv_ior hX.1 hX.2.1 d_Pt_addBehind_27 ?_
    refine tpi (y := nI (fi ||| fj)) (kn_or _ _) ?_
    refine lv_goto (tgt := 35) hX.1 hX.2.1 d_Pt_addBehind_28 (by decide) ?_
    exact k35 _ (by rw [bT_1 h1]; rfl)
set_option maxHeartbeats 4000000 in
set_option maxRecDepth 100000 in
/-- repeat(sign, target) -/
theorem ok_Pt_repeat (l : Launch) (D : va_G) (k : Nat → ClassId) (sz : Nat) (pt fi la : Nat) (em : Bool) (h f g : Nat) (FO SP : Nat → Nat) (en n : Nat) (sg : Nat) (hla : la < 512) (hsg : sg < 256) : Met l y_Pt_repeat (.code y_Pt_repeat c_Pt_repeat 3 none :: wsU) ({ frames := 1, cells := 0, slots := 0, locals := 23 } : Room) (kPre D k [.ref pt, .int (nI sg), .ref h] [(pt, .inr (3, [.int (nI fi), .int (nI la), .int (nI em.toNat)])), (h, .inr (0, [.ref f, .ref g, .int (nI en), .int (nI n)])), (f, .inl (k 0, 9, .inl (aN FO))), (g, .inl (k 0, 4, .inl (aN SP)))] sz) (va_Qv (fun (_ : Unit) => True) (kB D k (fun _ : Unit => [(pt, .inr (3, [.int (nI fi), .int (nI la), .int (nI ((em || decide (sg ≠ 43)).toNat))])), (h, .inr (0, [.ref f, .ref g, .int (nI en), .int (nI n)])), (f, .inl (k 0, 9, .inl (aN (if sg = 63 then FO else lnk FO la fi 9)))), (g, .inl (k 0, 4, .inl (aN SP)))]) (va_A [(pt, .inr (3, [.int (nI fi), .int (nI la), .int (nI em.toNat)])), (h, .inr (0, [.ref f, .ref g, .int (nI en), .int (nI n)])), (f, .inl (k 0, 9, .inl (aN FO))), (g, .inl (k 0, 4, .inl (aN SP)))] sz)) (va_A [(pt, .inr (3, [.int (nI fi), .int (nI la), .int (nI em.toNat)])), (h, .inr (0, [.ref f, .ref g, .int (nI en), .int (nI n)])), (f, .inl (k 0, 9, .inl (aN FO))), (g, .inl (k 0, 4, .inl (aN SP)))] sz)) 0 0 (va_A [(pt, .inr (3, [.int (nI fi), .int (nI la), .int (nI em.toNat)])), (h, .inr (0, [.ref f, .ref g, .int (nI en), .int (nI n)])), (f, .inl (k 0, 9, .inl (aN FO))), (g, .inl (k 0, 4, .inl (aN SP)))] sz) := by
  refine kMet (by decide) (Nat.le_of_ble_eq_true rfl) ?_
  intro p e s m below meth c ls hX hml hr hlocks hin hsz hW hl Q hQ
  generalize hAe : va_A [(pt, .inr (3, [.int (nI fi), .int (nI la), .int (nI em.toNat)])), (h, .inr (0, [.ref f, .ref g, .int (nI en), .int (nI n)])), (f, .inl (k 0, 9, .inl (aN FO))), (g, .inl (k 0, 4, .inl (aN SP)))] sz = A at hW hQ
  generalize hH0 : s.heap = H at hW ⊢
  generalize hl0 : ([] : List Loc) = locs at hW ⊢
  have hX : FX p s m c [.ref pt, .int (nI sg), .ref h].toArray c_Pt_repeat R_Pt := hX
  have hl : lv_has ls 3 [(0, .ref pt), (1, .int (nI sg)), (2, .ref h)] := hl
  refine lv_iload_n hX.1 hX.2.1 d_Pt_repeat_0 rfl (lv_at hl 1 rfl) ?_
  refine lv_bipush (v := nI 63) hX.1 hX.2.1 d_Pt_repeat_1 (by decide) ?_
  have k18 : ∀ (FO1 : Nat → Nat) (H : Heap) (locs : List Loc), FO1 = (if sg = 63 then FO else lnk FO la fi 9) → KW D k A s [(pt, .inr (3, [.int (nI fi), .int (nI la), .int (nI em.toNat)])), (h, .inr (0, [.ref f, .ref g, .int (nI en), .int (nI n)])), (f, .inl (k 0, 9, .inl (aN FO1))), (g, .inl (k 0, 4, .inl (aN SP)))] H locs → W p l e ({ frames := 1, cells := 0, slots := 0, locals := 23 } : Room) s m [.ref pt, .int (nI sg), .ref h].toArray below meth c H locs 0 0 Q (F0 m 18 ls []) := by
    intro FO1 H locs hF hW
    refine lv_aload_n hX.1 hX.2.1 d_Pt_repeat_18 rfl (lv_at hl 0 rfl) ?_
    refine lv_aload_n hX.1 hX.2.1 d_Pt_repeat_19 rfl (lv_at hl 0 rfl) ?_
    refine kget hX hW i_Pt 0 rfl rfl 2 (by decide) f_Pt_16 rfl rfl d_Pt_repeat_20 ?_
    have k37 : ∀ (v : Nat), v = (em || decide (sg ≠ 43)).toNat → W p l e ({ frames := 1, cells := 0, slots := 0, locals := 23 } : Room) s m [.ref pt, .int (nI sg), .ref h].toArray below meth c H locs 0 0 Q (F0 m 37 ls [.int (nI v), .ref pt]) := by
      intro v hv
      subst hv
      refine kput hX hW i_Pt t_Pt t_Pt_ok n_Pt 0 rfl rfl 2 (by decide) f_Pt_16 rfl rfl (bT_n _) (bT_f _) (Nat.le_of_ble_eq_true rfl) d_Pt_repeat_37 (fun H locs hW => ?_)
      have hW : KW D k A s [(pt, .inr (3, [.int (nI fi), .int (nI la), .int (nI ((em || decide (sg ≠ 43)).toNat))])), (h, .inr (0, [.ref f, .ref g, .int (nI en), .int (nI n)])), (f, .inl (k 0, 9, .inl (aN FO1))), (g, .inl (k 0, 4, .inl (aN SP)))] H locs := hW
      subst hF
      exact kvret hX hr hlocks hQ () (hW) (trivial) d_Pt_repeat_40
    refine knz hX (tgt := 32) (bT _) d_Pt_repeat_23 (by decide) (fun h1 => ?_) (fun h1 => ?_)
    · refine lv_iconst (v := nI 1) hX.1 hX.2.1 d_Pt_repeat_32 (by decide) ?_
      refine lv_goto (tgt := 37) hX.1 hX.2.1 d_Pt_repeat_33 (by decide) ?_
      exact k37 _ (by rw [bT_1 h1]; rfl)
    · refine lv_iload_n hX.1 hX.2.1 d_Pt_repeat_26 rfl (lv_at hl 1 rfl) ?_
      refine lv_bipush (v := nI 43) hX.1 hX.2.1 d_Pt_repeat_27 (by decide) ?_
      refine keq hX (tgt := 36) (by omega) (by omega) d_Pt_repeat_29 (by decide) (fun h2 => ?_) (fun h2 => ?_)
      · refine lv_iconst (v := nI 0) hX.1 hX.2.1 d_Pt_repeat_36 (by decide) ?_
        exact k37 _ (by rw [bT_0 h1, h2]; rfl)
      · refine lv_iconst (v := nI 1) hX.1 hX.2.1 d_Pt_repeat_32 (by decide) ?_
        refine lv_goto (tgt := 37) hX.1 hX.2.1 d_Pt_repeat_33 (by decide) ?_
        exact k37 _ (by rw [bT_0 h1]; simp [h2])
  refine keq hX (tgt := 18) (by omega) (by omega) d_Pt_repeat_3 (by decide) (fun h1 => ?_) (fun h1 => ?_)
  · exact k18 FO H locs (by rw [if_pos h1]) hW
  · refine lv_aload_n hX.1 hX.2.1 d_Pt_repeat_6 rfl (lv_at hl 2 rfl) ?_
    refine lv_aload_n hX.1 hX.2.1 d_Pt_repeat_7 rfl (lv_at hl 0 rfl) ?_
    refine kget hX hW i_Pt 0 rfl rfl 1 (by decide) f_Pt_13 rfl rfl d_Pt_repeat_8 ?_
    refine lv_aload_n hX.1 hX.2.1 d_Pt_repeat_11 rfl (lv_at hl 0 rfl) ?_
    refine kget hX hW i_Pt 0 rfl rfl 0 (by decide) f_Pt_7 rfl rfl d_Pt_repeat_12 ?_
    refine kCv (wc := [(h, .inr (0, [.ref f, .ref g, .int (nI en), .int (nI n)])), (f, .inl (k 0, 9, .inl (aN FO))), (g, .inl (k 0, 4, .inl (aN SP)))]) hW [1, 2, 3] (by rfl) (by intro _; rfl) (kRunV (n := 2) (As := [.int (nI la), .int (nI fi)]) (rest := []) hX hml hW (ok_Ex_link l D k H.size h f g FO SP en n la fi hla) m_Pt_24 im_Ex_link se_Ex_link in_Ex cd_Ex_link [1, 2, 3] rfl rfl rfl rfl (by decide +kernel) ⟨rfl, rfl, by decide, by decide⟩ rfl hl.1 rfl (by decide) d_Pt_repeat_15 ⟨by first | exact Nat.zero_le _ | decide | omega, by first | exact Nat.zero_le _ | decide | omega⟩) (fun u H locs _ hW => ?_)
    have hW : KW D k A s [(pt, .inr (3, [.int (nI fi), .int (nI la), .int (nI em.toNat)])), (h, .inr (0, [.ref f, .ref g, .int (nI en), .int (nI n)])), (f, .inl (k 0, 9, .inl (aN (lnk FO la fi 9)))), (g, .inl (k 0, 4, .inl (aN SP)))] H locs := hW
    exact k18 (lnk FO la fi 9) H locs (by rw [if_neg h1]) hW
end
section
/-! Expression.becomeReverse, Tape, Word -/
theorem kn_dec (j : Nat) : nI j + Int32.ofInt (-1) = nM j := by show nI j + (-1) = nI j - 1; rw [Int32.sub_eq_add_neg]
theorem isw_no (B : Nat → Nat) (i : Nat) : ∀ m, i < m → (decide (97 ≤ B i) && decide (B i ≤ 100)) = false → isw B m = false := by
  intro m
  induction m with
  | zero => intro h; omega
  | succ m ihm =>
    intro h hf
    rcases Nat.lt_or_ge i m with q | q
    · rw [isw, ihm q hf]; rfl
    · have : i = m := by omega
      subst this
      rw [isw, hf]; simp
set_option maxHeartbeats 4000000 in
set_option maxRecDepth 100000 in
/-- becomeReverse(other) -/
theorem ok_Ex_becomeReverse (l : Launch) (D : va_G) (k : Nat → ClassId) (sz : Nat) (h f g : Nat) (FO SP : Nat → Nat) (en n : Nat) (h2 f2 g2 : Nat) (FO2 SP2 : Nat → Nat) (e2 n2 : Nat) (hF : ∀ i, i < 8 → FO2 i < 512) (he2 : e2 < 512) : Met l y_Ex_becomeReverse (.code y_Ex_becomeReverse c_Ex_becomeReverse 3 none :: wsU) ({ frames := 2, cells := 0, slots := 0, locals := 43 } : Room) (kPre D k [.ref h, .ref h2] [(h, .inr (0, [.ref f, .ref g, .int (nI en), .int (nI n)])), (f, .inl (k 0, 9, .inl (aN FO))), (g, .inl (k 0, 4, .inl (aN SP))), (h2, .inr (0, [.ref f2, .ref g2, .int (nI e2), .int (nI n2)])), (f2, .inl (k 0, 9, .inl (aN FO2))), (g2, .inl (k 0, 4, .inl (aN SP2)))] sz) (va_Qv (fun (_ : Unit) => True) (kB D k (fun _ : Unit => [(h, .inr (0, [.ref f, .ref g, .int (nI (FO2 8 ||| (e2 &&& 256))), .int (nI n2)])), (f, .inl (k 0, 9, .inl (aN (va_up (rvl FO2 8) 8 (e2 % 256))))), (g, .inl (k 0, 4, .inl (aN SP2))), (h2, .inr (0, [.ref f2, .ref g2, .int (nI e2), .int (nI n2)])), (f2, .inl (k 0, 9, .inl (aN FO2))), (g2, .inl (k 0, 4, .inl (aN SP2)))]) (va_A [(h, .inr (0, [.ref f, .ref g, .int (nI en), .int (nI n)])), (f, .inl (k 0, 9, .inl (aN FO))), (g, .inl (k 0, 4, .inl (aN SP))), (h2, .inr (0, [.ref f2, .ref g2, .int (nI e2), .int (nI n2)])), (f2, .inl (k 0, 9, .inl (aN FO2))), (g2, .inl (k 0, 4, .inl (aN SP2)))] sz)) (va_A [(h, .inr (0, [.ref f, .ref g, .int (nI en), .int (nI n)])), (f, .inl (k 0, 9, .inl (aN FO))), (g, .inl (k 0, 4, .inl (aN SP))), (h2, .inr (0, [.ref f2, .ref g2, .int (nI e2), .int (nI n2)])), (f2, .inl (k 0, 9, .inl (aN FO2))), (g2, .inl (k 0, 4, .inl (aN SP2)))] sz)) 0 0 (va_A [(h, .inr (0, [.ref f, .ref g, .int (nI en), .int (nI n)])), (f, .inl (k 0, 9, .inl (aN FO))), (g, .inl (k 0, 4, .inl (aN SP))), (h2, .inr (0, [.ref f2, .ref g2, .int (nI e2), .int (nI n2)])), (f2, .inl (k 0, 9, .inl (aN FO2))), (g2, .inl (k 0, 4, .inl (aN SP2)))] sz) := by
  refine kMet (by decide) (Nat.le_of_ble_eq_true rfl) ?_
  intro p e s m below meth c ls hX hml hr hlocks hin hsz hW hl Q hQ
  generalize hAe : va_A [(h, .inr (0, [.ref f, .ref g, .int (nI en), .int (nI n)])), (f, .inl (k 0, 9, .inl (aN FO))), (g, .inl (k 0, 4, .inl (aN SP))), (h2, .inr (0, [.ref f2, .ref g2, .int (nI e2), .int (nI n2)])), (f2, .inl (k 0, 9, .inl (aN FO2))), (g2, .inl (k 0, 4, .inl (aN SP2)))] sz = A at hW hQ
  generalize hH0 : s.heap = H at hW ⊢
  generalize hl0 : ([] : List Loc) = locs at hW ⊢
  have hX : FX p s m c [.ref h, .ref h2].toArray c_Ex_becomeReverse R_Ex := hX
  have hl : lv_has ls 3 [(0, .ref h), (1, .ref h2)] := hl
  refine lv_aload_n hX.1 hX.2.1 d_Ex_becomeReverse_0 rfl (lv_at hl 0 rfl) ?_
  refine kCv (wc := [(h, .inr (0, [.ref f, .ref g, .int (nI en), .int (nI n)])), (f, .inl (k 0, 9, .inl (aN FO))), (g, .inl (k 0, 4, .inl (aN SP)))]) hW [0, 1, 2] (by rfl) (by intro _; rfl) (kRunV (n := 0) (As := []) (rest := []) hX hml hW (ok_Ex_clear l D k H.size h f g FO SP en n) m_Ex_47 im_Ex_clear se_Ex_clear in_Ex cd_Ex_clear [0, 1, 2] rfl rfl rfl rfl (by decide +kernel) ⟨rfl, rfl, by decide, by decide⟩ rfl hl.1 rfl (by decide) d_Ex_becomeReverse_1 ⟨by first | exact Nat.zero_le _ | decide | omega | (dsimp only; omega), by first | exact Nat.zero_le _ | decide | omega | (dsimp only; omega)⟩) (fun u H locs _ hW => ?_)
  have hW : KW D k A s [(h, .inr (0, [.ref f, .ref g, .int (nI 0), .int (nI 0)])), (f, .inl (k 0, 9, .inl (aN (fun _ => 0)))), (g, .inl (k 0, 4, .inl (aN (fun _ => 0)))), (h2, .inr (0, [.ref f2, .ref g2, .int (nI e2), .int (nI n2)])), (f2, .inl (k 0, 9, .inl (aN FO2))), (g2, .inl (k 0, 4, .inl (aN SP2)))] H locs := hW
  refine lv_iconst (v := nI 0) hX.1 hX.2.1 d_Ex_becomeReverse_4 (by decide) ?_
  refine lv_istore_n (lv' := [(2, .int (nI 0)), (0, .ref h), (1, .ref h2)]) hX.1 hX.2.1 d_Ex_becomeReverse_5 rfl hl (by decide) rfl (fun ls hl => ?_)
  have hW : KW D k A s [(h, .inr (0, [.ref f, .ref g, .int (nI 0), .int (nI 0)])), (f, .inl (k 0, 9, .inl (aN (rvl FO2 0)))), (g, .inl (k 0, 4, .inl (aN (fun _ => 0)))), (h2, .inr (0, [.ref f2, .ref g2, .int (nI e2), .int (nI n2)])), (f2, .inl (k 0, 9, .inl (aN FO2))), (g2, .inl (k 0, 4, .inl (aN SP2)))] H locs := hW
  have lp : ∀ (fu : Nat) (i : Nat) (H : Heap) (locs : List Loc) (ls : Array Slot), i ≤ 8 → 8 < i + fu →  KW D k A s [(h, .inr (0, [.ref f, .ref g, .int (nI 0), .int (nI 0)])), (f, .inl (k 0, 9, .inl (aN (rvl FO2 i)))), (g, .inl (k 0, 4, .inl (aN (fun _ => 0)))), (h2, .inr (0, [.ref f2, .ref g2, .int (nI e2), .int (nI n2)])), (f2, .inl (k 0, 9, .inl (aN FO2))), (g2, .inl (k 0, 4, .inl (aN SP2)))] H locs → lv_has ls 3 [(2, .int (nI i)), (1, .ref h2), (0, .ref h)] → W p l e ({ frames := 2, cells := 0, slots := 0, locals := 43 } : Room) s m [.ref h, .ref h2].toArray below meth c H locs 0 0 Q (F0 m 6 ls []) := by
    intro fu
    induction fu with
    | zero => intro i H locs ls lp1 lp2 hW hl; exfalso; omega
    | succ fu ih =>
      intro i H locs ls lp1 lp2 hW hl
      refine lv_iload_n hX.1 hX.2.1 d_Ex_becomeReverse_6 rfl (lv_at hl 0 rfl) ?_
      refine lv_bipush (v := nI 8) hX.1 hX.2.1 d_Ex_becomeReverse_7 (by decide) ?_
      refine kge hX (tgt := 31) (by omega) (by omega) d_Ex_becomeReverse_9 (by decide) (fun h3 => ?_) (fun h3 => ?_)
      · have h4 : i = 8 := by omega
        subst h4
        refine lv_aload_n hX.1 hX.2.1 d_Ex_becomeReverse_31 rfl (lv_at hl 2 rfl) ?_
        refine kget hX hW i_Ex 0 rfl rfl 0 (by decide) f_Ex_11 rfl rfl d_Ex_becomeReverse_32 ?_
        refine lv_bipush (v := nI 8) hX.1 hX.2.1 d_Ex_becomeReverse_35 (by decide) ?_
        refine lv_aload_n hX.1 hX.2.1 d_Ex_becomeReverse_37 rfl (lv_at hl 1 rfl) ?_
        refine kget hX hW i_Ex 3 rfl rfl 2 (by decide) f_Ex_18 rfl rfl d_Ex_becomeReverse_38 ?_
        refine lv_sipush (v := (-257)) hX.1 hX.2.1 d_Ex_becomeReverse_41 (by decide) ?_
        refine lv_iand hX.1 hX.2.1 d_Ex_becomeReverse_44 ?_
        refine tpi (y := nI (e2 % 256)) (and_m257 he2) ?_
        refine kiast hX hW 1 rfl (by omega) (by first | decide | omega) d_Ex_becomeReverse_45 (fun H locs hW => ?_)
        have hW : KW D k A s [(h, .inr (0, [.ref f, .ref g, .int (nI 0), .int (nI 0)])), (f, .inl (k 0, 9, .inl (aN (va_up (rvl FO2 8) 8 (e2 % 256))))), (g, .inl (k 0, 4, .inl (aN (fun _ => 0)))), (h2, .inr (0, [.ref f2, .ref g2, .int (nI e2), .int (nI n2)])), (f2, .inl (k 0, 9, .inl (aN FO2))), (g2, .inl (k 0, 4, .inl (aN SP2)))] H locs := hW
        refine lv_aload_n hX.1 hX.2.1 d_Ex_becomeReverse_46 rfl (lv_at hl 2 rfl) ?_
        refine lv_aload_n hX.1 hX.2.1 d_Ex_becomeReverse_47 rfl (lv_at hl 1 rfl) ?_
        refine kget hX hW i_Ex 3 rfl rfl 0 (by decide) f_Ex_11 rfl rfl d_Ex_becomeReverse_48 ?_
        refine lv_bipush (v := nI 8) hX.1 hX.2.1 d_Ex_becomeReverse_51 (by decide) ?_
        refine kiald hX hW 4 rfl (by omega) (by first | decide | omega) d_Ex_becomeReverse_53 ?_
        refine lv_aload_n hX.1 hX.2.1 d_Ex_becomeReverse_54 rfl (lv_at hl 1 rfl) ?_
        refine kget hX hW i_Ex 3 rfl rfl 2 (by decide) f_Ex_18 rfl rfl d_Ex_becomeReverse_55 ?_
        refine lv_sipush (v := nI 256) hX.1 hX.2.1 d_Ex_becomeReverse_58 (by decide) ?_
        refine lv_iand hX.1 hX.2.1 d_Ex_becomeReverse_61 ?_
        refine tpi (y := nI (e2 &&& 256)) (kn_and _ _) ?_
        refine lv_ior hX.1 hX.2.1 d_Ex_becomeReverse_62 ?_
        refine tpi (y := nI (FO2 8 ||| (e2 &&& 256))) (kn_or _ _) ?_
        refine kput hX hW i_Ex t_Ex t_Ex_ok n_Ex 0 rfl rfl 2 (by decide) f_Ex_18 rfl rfl (rfl) (rfl) (Nat.le_of_ble_eq_true rfl) d_Ex_becomeReverse_63 (fun H locs hW => ?_)
        have hW : KW D k A s [(h, .inr (0, [.ref f, .ref g, .int (nI (FO2 8 ||| (e2 &&& 256))), .int (nI 0)])), (f, .inl (k 0, 9, .inl (aN (va_up (rvl FO2 8) 8 (e2 % 256))))), (g, .inl (k 0, 4, .inl (aN (fun _ => 0)))), (h2, .inr (0, [.ref f2, .ref g2, .int (nI e2), .int (nI n2)])), (f2, .inl (k 0, 9, .inl (aN FO2))), (g2, .inl (k 0, 4, .inl (aN SP2)))] H locs := hW
        refine lv_aload_n hX.1 hX.2.1 d_Ex_becomeReverse_66 rfl (lv_at hl 1 rfl) ?_
        refine kget hX hW i_Ex 3 rfl rfl 1 (by decide) f_Ex_15 rfl rfl d_Ex_becomeReverse_67 ?_
        refine lv_iconst (v := nI 0) hX.1 hX.2.1 d_Ex_becomeReverse_70 (by decide) ?_
        refine lv_aload_n hX.1 hX.2.1 d_Ex_becomeReverse_71 rfl (lv_at hl 2 rfl) ?_
        refine kget hX hW i_Ex 0 rfl rfl 1 (by decide) f_Ex_15 rfl rfl d_Ex_becomeReverse_72 ?_
        refine lv_iconst (v := nI 0) hX.1 hX.2.1 d_Ex_becomeReverse_75 (by decide) ?_
        refine lv_iconst (v := nI 4) hX.1 hX.2.1 d_Ex_becomeReverse_76 (by decide) ?_
        refine kcopy (sp := 0) (dp := 0) (n := 4) hX (hml.trans hl.1.symm) hW m_Ex_54 5 2 rfl rfl (by decide) (by decide) (by decide) (by decide) (by decide) (by decide) d_Ex_becomeReverse_77 (fun H locs hW => ?_)
        have hW := kcong (f' := aN SP2) hW 2 rfl (fun j hj => sb_cpy0 hj)
        have hW : KW D k A s [(h, .inr (0, [.ref f, .ref g, .int (nI (FO2 8 ||| (e2 &&& 256))), .int (nI 0)])), (f, .inl (k 0, 9, .inl (aN (va_up (rvl FO2 8) 8 (e2 % 256))))), (g, .inl (k 0, 4, .inl (aN SP2))), (h2, .inr (0, [.ref f2, .ref g2, .int (nI e2), .int (nI n2)])), (f2, .inl (k 0, 9, .inl (aN FO2))), (g2, .inl (k 0, 4, .inl (aN SP2)))] H locs := hW
        refine lv_aload_n hX.1 hX.2.1 d_Ex_becomeReverse_80 rfl (lv_at hl 2 rfl) ?_
        refine lv_aload_n hX.1 hX.2.1 d_Ex_becomeReverse_81 rfl (lv_at hl 1 rfl) ?_
        refine kget hX hW i_Ex 3 rfl rfl 3 (by decide) f_Ex_22 rfl rfl d_Ex_becomeReverse_82 ?_
        refine kput hX hW i_Ex t_Ex t_Ex_ok n_Ex 0 rfl rfl 3 (by decide) f_Ex_22 rfl rfl (rfl) (rfl) (Nat.le_of_ble_eq_true rfl) d_Ex_becomeReverse_85 (fun H locs hW => ?_)
        have hW : KW D k A s [(h, .inr (0, [.ref f, .ref g, .int (nI (FO2 8 ||| (e2 &&& 256))), .int (nI n2)])), (f, .inl (k 0, 9, .inl (aN (va_up (rvl FO2 8) 8 (e2 % 256))))), (g, .inl (k 0, 4, .inl (aN SP2))), (h2, .inr (0, [.ref f2, .ref g2, .int (nI e2), .int (nI n2)])), (f2, .inl (k 0, 9, .inl (aN FO2))), (g2, .inl (k 0, 4, .inl (aN SP2)))] H locs := hW
        exact kvret hX hr hlocks hQ () (hW) (trivial) d_Ex_becomeReverse_88
      · refine lv_aload_n hX.1 hX.2.1 d_Ex_becomeReverse_12 rfl (lv_at hl 2 rfl) ?_
        refine lv_aload_n hX.1 hX.2.1 d_Ex_becomeReverse_13 rfl (lv_at hl 1 rfl) ?_
        refine kget hX hW i_Ex 3 rfl rfl 0 (by decide) f_Ex_11 rfl rfl d_Ex_becomeReverse_14 ?_
        refine lv_iload_n hX.1 hX.2.1 d_Ex_becomeReverse_17 rfl (lv_at hl 0 rfl) ?_
        refine kiald hX hW 4 rfl (by omega) (by first | decide | omega) d_Ex_becomeReverse_18 ?_
        refine lv_iconst (v := nI 1) hX.1 hX.2.1 d_Ex_becomeReverse_19 (by decide) ?_
        refine lv_iload_n hX.1 hX.2.1 d_Ex_becomeReverse_20 rfl (lv_at hl 0 rfl) ?_
        refine lv_ishl hX.1 hX.2.1 d_Ex_becomeReverse_21 ?_
        refine tpi (y := nI (2 ^ i)) (kn_shl1 (by omega)) ?_
        refine kCv (wc := [(h, .inr (0, [.ref f, .ref g, .int (nI 0), .int (nI 0)])), (f, .inl (k 0, 9, .inl (aN (rvl FO2 i)))), (g, .inl (k 0, 4, .inl (aN (fun _ => 0))))]) hW [0, 1, 2] (by rfl) (by intro _; rfl) (kRunV (n := 2) (As := [.int (nI (FO2 i)), .int (nI (2 ^ i))]) (rest := []) hX hml hW (ok_Ex_link l D k H.size h f g (rvl FO2 i) (fun _ => 0) 0 0 (FO2 i) (2 ^ i) (hF i h3)) m_Ex_50 im_Ex_link se_Ex_link in_Ex cd_Ex_link [0, 1, 2] rfl rfl rfl rfl (by decide +kernel) ⟨rfl, rfl, by decide, by decide⟩ rfl hl.1 rfl (by decide) d_Ex_becomeReverse_22 ⟨by first | exact Nat.zero_le _ | decide | omega | (dsimp only; omega), by first | exact Nat.zero_le _ | decide | omega | (dsimp only; omega)⟩) (fun u H locs _ hW => ?_)
        have hW : KW D k A s [(h, .inr (0, [.ref f, .ref g, .int (nI 0), .int (nI 0)])), (f, .inl (k 0, 9, .inl (aN (lnk (rvl FO2 i) (FO2 i) (2 ^ i) 9)))), (g, .inl (k 0, 4, .inl (aN (fun _ => 0)))), (h2, .inr (0, [.ref f2, .ref g2, .int (nI e2), .int (nI n2)])), (f2, .inl (k 0, 9, .inl (aN FO2))), (g2, .inl (k 0, 4, .inl (aN SP2)))] H locs := hW
        refine lv_iinc (v := nI (i + 1)) (lv' := [(2, .int (nI (i + 1))), (1, .ref h2), (0, .ref h)]) hX.1 hX.2.1 d_Ex_becomeReverse_25 hl (k := 0) rfl (kn_inc _) (by decide) rfl (fun ls hl => ?_)
        refine lv_goto (tgt := 6) hX.1 hX.2.1 d_Ex_becomeReverse_28 (by decide) ?_
        exact ih (i + 1) H locs ls (by omega) (by omega) hW (lv_sub hl [0, 1, 2] rfl)
  exact lp 9 0 H locs ls (by omega) (by omega) (hW) (lv_sub hl [0, 2, 1] rfl)
set_option maxHeartbeats 4000000 in
set_option maxRecDepth 100000 in
/-- Tape() -/
theorem ok_Ta_init (l : Launch) (D : va_G) (k : Nat → ClassId) (sz : Nat) (ta : Nat) : Met l y_Ta_init (.code y_Ta_init c_Ta_init 1 none :: wsU) ({ frames := 1, cells := 1, slots := 80, locals := 12 } : Room) (kPre D k [.ref ta] [(ta, .inr (5, [.null, .int (nI 0)]))] sz) (va_Qv (fun (_ : Nat) => True) (kB D k (fun u : Nat => [(ta, .inr (5, [.ref u, .int (nI 0)]))] ++ [(u, .inl (k 0, 80, .inl (aN (fun _ => 0))))]) (va_A [(ta, .inr (5, [.null, .int (nI 0)]))] sz)) (va_A [(ta, .inr (5, [.null, .int (nI 0)]))] sz)) 1 80 (va_A [(ta, .inr (5, [.null, .int (nI 0)]))] sz) := by
  refine kMet (by decide) (Nat.le_of_ble_eq_true rfl) ?_
  intro p e s m below meth c ls hX hml hr hlocks hin hsz hW hl Q hQ
  generalize hAe : va_A [(ta, .inr (5, [.null, .int (nI 0)]))] sz = A at hW hQ
  generalize hH0 : s.heap = H at hW ⊢
  generalize hl0 : ([] : List Loc) = locs at hW ⊢
  have hX : FX p s m c [.ref ta].toArray c_Ta_init R_Ta := hX
  have hl : lv_has ls 1 [(0, .ref ta)] := hl
  refine lv_aload_n hX.1 hX.2.1 d_Ta_init_0 rfl (lv_at hl 0 rfl) ?_
  refine kobj hX (hml.trans hl.1.symm) m_Ta_3 (by decide) (by decide) d_Ta_init_1 ?_
  refine lv_aload_n hX.1 hX.2.1 d_Ta_init_4 rfl (lv_at hl 0 rfl) ?_
  refine lv_bipush (v := nI 80) hX.1 hX.2.1 d_Ta_init_5 (by decide) ?_
  refine knewI hX hW (by first | decide | omega) (by first | decide | omega | (dsimp only; omega)) (by first | decide | omega | (dsimp only; omega)) d_Ta_init_7 (fun q7 H hW => ?_)
  have hW : KW D k A s [(ta, .inr (5, [.null, .int (nI 0)])), (q7, .inl (k 0, 80, .inl (aN (fun _ => 0))))] H locs := hW
  refine kputF hX hW hin i_Ta t_Ta t_Ta_ok n_Ta 0 rfl rfl 0 (by decide) f_Ta_9 rfl rfl rfl (rfl) (rfl) (Nat.le_of_ble_eq_true rfl) d_Ta_init_9 (fun H locs hW => ?_)
  have hW : KW D k A s [(ta, .inr (5, [.ref q7, .int (nI 0)])), (q7, .inl (k 0, 80, .inl (aN (fun _ => 0))))] H locs := hW
  refine lv_aload_n hX.1 hX.2.1 d_Ta_init_12 rfl (lv_at hl 0 rfl) ?_
  refine lv_iconst (v := nI 0) hX.1 hX.2.1 d_Ta_init_13 (by decide) ?_
  refine kput hX hW i_Ta t_Ta t_Ta_ok n_Ta 0 rfl rfl 1 (by decide) f_Ta_15 rfl rfl (rfl) (rfl) (Nat.le_of_ble_eq_true rfl) d_Ta_init_14 (fun H locs hW => ?_)
  have hW : KW D k A s [(ta, .inr (5, [.ref q7, .int (nI 0)])), (q7, .inl (k 0, 80, .inl (aN (fun _ => 0))))] H locs := hW
  refine W.widen (k := 1) (n := 80) (by omega) (by omega) ?_
  exact kvret hX hr hlocks hQ q7 (hW) (trivial) d_Ta_init_17
set_option maxHeartbeats 4000000 in
set_option maxRecDepth 100000 in
/-- useUp() -/
theorem ok_Ta_useUp (l : Launch) (D : va_G) (k : Nat → ClassId) (sz : Nat) (ta tb : Nat) (B : Nat → Nat) (z : Nat) : Met l y_Ta_useUp (.code y_Ta_useUp c_Ta_useUp 2 (some .int) :: wsU) ({ frames := 0, cells := 0, slots := 0, locals := 0 } : Room) (kPre D k [.ref ta] [(ta, .inr (5, [.ref tb, .int (nI z)])), (tb, .inl (k 0, 80, .inl (aN B)))] sz) (va_Qi (fun (r : Int32) (_ : Unit) => r = nI z) (kB D k (fun _ : Unit => [(ta, .inr (5, [.ref tb, .int (nI 0)])), (tb, .inl (k 0, 80, .inl (aN B)))]) (va_A [(ta, .inr (5, [.ref tb, .int (nI z)])), (tb, .inl (k 0, 80, .inl (aN B)))] sz)) (va_A [(ta, .inr (5, [.ref tb, .int (nI z)])), (tb, .inl (k 0, 80, .inl (aN B)))] sz)) 0 0 (va_A [(ta, .inr (5, [.ref tb, .int (nI z)])), (tb, .inl (k 0, 80, .inl (aN B)))] sz) := by
  refine kMet (by decide) (Nat.le_of_ble_eq_true rfl) ?_
  intro p e s m below meth c ls hX hml hr hlocks hin hsz hW hl Q hQ
  generalize hAe : va_A [(ta, .inr (5, [.ref tb, .int (nI z)])), (tb, .inl (k 0, 80, .inl (aN B)))] sz = A at hW hQ
  generalize hH0 : s.heap = H at hW ⊢
  generalize hl0 : ([] : List Loc) = locs at hW ⊢
  have hX : FX p s m c [.ref ta].toArray c_Ta_useUp R_Ta := hX
  have hl : lv_has ls 2 [(0, .ref ta)] := hl
  refine lv_aload_n hX.1 hX.2.1 d_Ta_useUp_0 rfl (lv_at hl 0 rfl) ?_
  refine kget hX hW i_Ta 0 rfl rfl 1 (by decide) f_Ta_15 rfl rfl d_Ta_useUp_1 ?_
  refine lv_istore_n (lv' := [(1, .int (nI z)), (0, .ref ta)]) hX.1 hX.2.1 d_Ta_useUp_4 rfl hl (by decide) rfl (fun ls hl => ?_)
  refine lv_aload_n hX.1 hX.2.1 d_Ta_useUp_5 rfl (lv_at hl 1 rfl) ?_
  refine lv_iconst (v := nI 0) hX.1 hX.2.1 d_Ta_useUp_6 (by decide) ?_
  refine kput hX hW i_Ta t_Ta t_Ta_ok n_Ta 0 rfl rfl 1 (by decide) f_Ta_15 rfl rfl (rfl) (rfl) (Nat.le_of_ble_eq_true rfl) d_Ta_useUp_7 (fun H locs hW => ?_)
  have hW : KW D k A s [(ta, .inr (5, [.ref tb, .int (nI 0)])), (tb, .inl (k 0, 80, .inl (aN B)))] H locs := hW
  refine lv_iload_n hX.1 hX.2.1 d_Ta_useUp_10 rfl (lv_at hl 0 rfl) ?_
  exact kiret hX hr hlocks hQ () (hW) (rfl) d_Ta_useUp_11
set_option maxHeartbeats 4000000 in
set_option maxRecDepth 100000 in
/-- isWord(n) -/
theorem ok_Ta_isWord (l : Launch) (D : va_G) (k : Nat → ClassId) (sz : Nat) (ta tb : Nat) (B : Nat → Nat) (z : Nat) (n : Nat) (hn : n ≤ 80) (hB : ∀ i, i < 80 → B i < 256) : Met l y_Ta_isWord (.code y_Ta_isWord c_Ta_isWord 3 (some .boolean) :: wsU) ({ frames := 0, cells := 0, slots := 0, locals := 0 } : Room) (kPre D k [.ref ta, .int (nI n)] [(ta, .inr (5, [.ref tb, .int (nI z)])), (tb, .inl (k 0, 80, .inl (aN B)))] sz) (va_Qi (fun (r : Int32) (_ : Unit) => r = nI (isw B n).toNat) (kB D k (fun _ : Unit => [(ta, .inr (5, [.ref tb, .int (nI z)])), (tb, .inl (k 0, 80, .inl (aN B)))]) (va_A [(ta, .inr (5, [.ref tb, .int (nI z)])), (tb, .inl (k 0, 80, .inl (aN B)))] sz)) (va_A [(ta, .inr (5, [.ref tb, .int (nI z)])), (tb, .inl (k 0, 80, .inl (aN B)))] sz)) 0 0 (va_A [(ta, .inr (5, [.ref tb, .int (nI z)])), (tb, .inl (k 0, 80, .inl (aN B)))] sz) := by
  refine kMet (by decide) (Nat.le_of_ble_eq_true rfl) ?_
  intro p e s m below meth c ls hX hml hr hlocks hin hsz hW hl Q hQ
  generalize hAe : va_A [(ta, .inr (5, [.ref tb, .int (nI z)])), (tb, .inl (k 0, 80, .inl (aN B)))] sz = A at hW hQ
  generalize hH0 : s.heap = H at hW ⊢
  generalize hl0 : ([] : List Loc) = locs at hW ⊢
  have hX : FX p s m c [.ref ta, .int (nI n)].toArray c_Ta_isWord R_Ta := hX
  have hl : lv_has ls 3 [(0, .ref ta), (1, .int (nI n))] := hl
  refine lv_iconst (v := nI 0) hX.1 hX.2.1 d_Ta_isWord_0 (by decide) ?_
  refine lv_istore_n (lv' := [(2, .int (nI 0)), (0, .ref ta), (1, .int (nI n))]) hX.1 hX.2.1 d_Ta_isWord_1 rfl hl (by decide) rfl (fun ls hl => ?_)
  have lp : ∀ (fu : Nat) (i : Nat) (H : Heap) (locs : List Loc) (ls : Array Slot), i ≤ n → n < i + fu → isw B n = (isw B i && isw B n) → isw B i = true →  KW D k A s [(ta, .inr (5, [.ref tb, .int (nI z)])), (tb, .inl (k 0, 80, .inl (aN B)))] H locs → lv_has ls 3 [(2, .int (nI i)), (1, .int (nI n)), (0, .ref ta)] → W p l e ({ frames := 0, cells := 0, slots := 0, locals := 0 } : Room) s m [.ref ta, .int (nI n)].toArray below meth c H locs 0 0 Q (F0 m 2 ls []) := by
    intro fu
    induction fu with
    | zero => intro i H locs ls h1 h2 h3 h3a hW hl; exfalso; omega
    | succ fu ih =>
      intro i H locs ls h1 h2 h3 h3a hW hl
      refine lv_iload_n hX.1 hX.2.1 d_Ta_isWord_2 rfl (lv_at hl 0 rfl) ?_
      refine lv_iload_n hX.1 hX.2.1 d_Ta_isWord_3 rfl (lv_at hl 1 rfl) ?_
      refine kge hX (tgt := 37) (by omega) (by omega) d_Ta_isWord_4 (by decide) (fun h4 => ?_) (fun h4 => ?_)
      · have h5 : i = n := by omega
        subst h5
        refine lv_iconst (v := nI 1) hX.1 hX.2.1 d_Ta_isWord_37 (by decide) ?_
        exact kzret hX hr hlocks hQ () (hW) (by rw [h3a]; rfl) (Or.inr rfl) d_Ta_isWord_38
      · have hBi := hB i (by omega)
        have hno := isw_no B i
        refine lv_aload_n hX.1 hX.2.1 d_Ta_isWord_7 rfl (lv_at hl 2 rfl) ?_
        refine kget hX hW i_Ta 0 rfl rfl 0 (by decide) f_Ta_9 rfl rfl d_Ta_isWord_8 ?_
        refine lv_iload_n hX.1 hX.2.1 d_Ta_isWord_11 rfl (lv_at hl 0 rfl) ?_
        refine kiald hX hW 1 rfl (by omega) (by first | decide | omega) d_Ta_isWord_12 ?_
        refine lv_bipush (v := nI 97) hX.1 hX.2.1 d_Ta_isWord_13 (by decide) ?_
        refine klt hX (tgt := 29) (by omega) (by omega) d_Ta_isWord_15 (by decide) (fun h6 => ?_) (fun h6 => ?_)
        · refine lv_iconst (v := nI 0) hX.1 hX.2.1 d_Ta_isWord_29 (by decide) ?_
          exact kzret hX hr hlocks hQ () (hW) (by rw [hno n (by omega) (by simp; omega)]; rfl) (Or.inl rfl) d_Ta_isWord_30
        · refine lv_aload_n hX.1 hX.2.1 d_Ta_isWord_18 rfl (lv_at hl 2 rfl) ?_
          refine kget hX hW i_Ta 0 rfl rfl 0 (by decide) f_Ta_9 rfl rfl d_Ta_isWord_19 ?_
          refine lv_iload_n hX.1 hX.2.1 d_Ta_isWord_22 rfl (lv_at hl 0 rfl) ?_
          refine kiald hX hW 1 rfl (by omega) (by first | decide | omega) d_Ta_isWord_23 ?_
          refine lv_bipush (v := nI 100) hX.1 hX.2.1 d_Ta_isWord_24 (by decide) ?_
          refine kle hX (tgt := 31) (by omega) (by omega) d_Ta_isWord_26 (by decide) (fun h7 => ?_) (fun h7 => ?_)
          · refine lv_iinc (v := nI (i + 1)) (lv' := [(2, .int (nI (i + 1))), (1, .int (nI n)), (0, .ref ta)]) hX.1 hX.2.1 d_Ta_isWord_31 hl (k := 0) rfl (kn_inc _) (by decide) rfl (fun ls hl => ?_)
            refine lv_goto (tgt := 2) hX.1 hX.2.1 d_Ta_isWord_34 (by decide) ?_
            exact ih (i + 1) H locs ls (by omega) (by omega) (by simp [isw, h3a, h6, h7]) (by simp [isw, h3a, h6, h7]) (hW) (lv_sub hl [0, 1, 2] rfl)
          · refine lv_iconst (v := nI 0) hX.1 hX.2.1 d_Ta_isWord_29 (by decide) ?_
            exact kzret hX hr hlocks hQ () (hW) (by rw [hno n (by omega) (by simp; omega)]; rfl) (Or.inl rfl) d_Ta_isWord_30
  exact lp (n + 1) 0 H locs ls (by omega) (by omega) (by simp [isw]) rfl (hW) (lv_sub hl [0, 2, 1] rfl)
set_option maxHeartbeats 4000000 in
set_option maxRecDepth 100000 in
/-- append(x, n) -/
theorem ok_Ta_append (l : Launch) (D : va_G) (k : Nat → ClassId) (sz : Nat) (ta tb : Nat) (B : Nat → Nat) (z : Nat) (x : Int64) (n : Nat) (h1n : 1 ≤ n) (hn : n ≤ 8) (hz : z ≤ 80) : Met l y_Ta_append (.code y_Ta_append c_Ta_append 5 (some .boolean) :: wsU) ({ frames := 0, cells := 0, slots := 0, locals := 0 } : Room) (kPre D k [.ref ta, .long x, .int (nI n)] [(ta, .inr (5, [.ref tb, .int (nI z)])), (tb, .inl (k 0, 80, .inl (aN B)))] sz) (va_Qi (fun (r : Int32) (_ : Unit) => r = nI (decide (z + n ≤ 80)).toNat) (kB D k (fun _ : Unit => [(ta, .inr (5, [.ref tb, .int (nI (if z + n ≤ 80 then z + n else z))])), (tb, .inl (k 0, 80, .inl (aN (if z + n ≤ 80 then tpw B z x n n else B))))]) (va_A [(ta, .inr (5, [.ref tb, .int (nI z)])), (tb, .inl (k 0, 80, .inl (aN B)))] sz)) (va_A [(ta, .inr (5, [.ref tb, .int (nI z)])), (tb, .inl (k 0, 80, .inl (aN B)))] sz)) 0 0 (va_A [(ta, .inr (5, [.ref tb, .int (nI z)])), (tb, .inl (k 0, 80, .inl (aN B)))] sz) := by
  refine kMet (by decide) (Nat.le_of_ble_eq_true rfl) ?_
  intro p e s m below meth c ls hX hml hr hlocks hin hsz hW hl Q hQ
  generalize hAe : va_A [(ta, .inr (5, [.ref tb, .int (nI z)])), (tb, .inl (k 0, 80, .inl (aN B)))] sz = A at hW hQ
  generalize hH0 : s.heap = H at hW ⊢
  generalize hl0 : ([] : List Loc) = locs at hW ⊢
  have hX : FX p s m c [.ref ta, .long x, .int (nI n)].toArray c_Ta_append R_Ta := hX
  have hl : lv_has ls 5 [(0, .ref ta), (1, .long x), (3, .int (nI n))] := hl
  refine lv_aload_n hX.1 hX.2.1 d_Ta_append_0 rfl (lv_at hl 0 rfl) ?_
  refine kget hX hW i_Ta 0 rfl rfl 1 (by decide) f_Ta_15 rfl rfl d_Ta_append_1 ?_
  refine lv_iload_n hX.1 hX.2.1 d_Ta_append_4 rfl (lv_at hl 2 rfl) ?_
  refine lv_iadd hX.1 hX.2.1 d_Ta_append_5 ?_
  refine tpi (y := nI (z + n)) (nI_add _ _) ?_
  refine lv_bipush (v := nI 80) hX.1 hX.2.1 d_Ta_append_6 (by decide) ?_
  refine kle hX (tgt := 13) (by omega) (by omega) d_Ta_append_8 (by decide) (fun h1 => ?_) (fun h1 => ?_)
  · refine lv_iload_n hX.1 hX.2.1 d_Ta_append_13 rfl (lv_at hl 2 rfl) ?_
    refine lv_iconst (v := nI 1) hX.1 hX.2.1 d_Ta_append_14 (by decide) ?_
    refine lv_isub hX.1 hX.2.1 d_Ta_append_15 ?_
    refine tpi (y := nM n) (rfl) ?_
    refine lv_istore (lv' := [(4, .int (nM n)), (0, .ref ta), (1, .long x), (3, .int (nI n))]) hX.1 hX.2.1 d_Ta_append_16 hl (by decide) rfl (fun ls hl => ?_)
    have lp : ∀ (fu : Nat) (j0 : Nat) (mm : Nat) (H : Heap) (locs : List Loc) (ls : Array Slot), j0 + mm = n → j0 < fu →  KW D k A s [(ta, .inr (5, [.ref tb, .int (nI (z + mm))])), (tb, .inl (k 0, 80, .inl (aN (tpw B z x n mm))))] H locs → lv_has ls 5 [(4, .int (nM j0)), (3, .int (nI n)), (1, .long x), (0, .ref ta)] → W p l e ({ frames := 0, cells := 0, slots := 0, locals := 0 } : Room) s m [.ref ta, .long x, .int (nI n)].toArray below meth c H locs 0 0 Q (F0 m 18 ls []) := by
      intro fu
      induction fu with
      | zero => intro j0 mm H locs ls g1 g2 hW hl; exfalso; omega
      | succ fu ih =>
        intro j0 mm H locs ls g1 g2 hW hl
        refine lv_iload hX.1 hX.2.1 d_Ta_append_18 (lv_at hl 0 rfl) ?_
        refine kltM hX (tgt := 60) (by omega) d_Ta_append_20 (by decide) (fun h2 => ?_) (fun h2 => ?_)
        · have h3 : mm = n := by omega
          subst h3
          subst h2
          refine lv_iconst (v := nI 1) hX.1 hX.2.1 d_Ta_append_60 (by decide) ?_
          exact kzret hX hr hlocks hQ () (by rw [if_pos h1, if_pos h1]; exact hW) (by simp [h1]) (Or.inr rfl) d_Ta_append_61
        · obtain ⟨j, rfl⟩ : ∃ j, j0 = j + 1 := ⟨j0 - 1, by omega⟩
          rw [nM_s] at hl
          refine lv_aload_n hX.1 hX.2.1 d_Ta_append_23 rfl (lv_at hl 3 rfl) ?_
          refine kget hX hW i_Ta 0 rfl rfl 0 (by decide) f_Ta_9 rfl rfl d_Ta_append_24 ?_
          refine lv_aload_n hX.1 hX.2.1 d_Ta_append_27 rfl (lv_at hl 3 rfl) ?_
          refine kget hX hW i_Ta 0 rfl rfl 1 (by decide) f_Ta_15 rfl rfl d_Ta_append_28 ?_
          refine lv_lload_n hX.1 hX.2.1 d_Ta_append_31 rfl (lv_at hl 2 rfl) ?_
          refine lv_bipush (v := nI 8) hX.1 hX.2.1 d_Ta_append_32 (by decide) ?_
          refine lv_iload hX.1 hX.2.1 d_Ta_append_34 (lv_at hl 0 rfl) ?_
          refine lv_imul hX.1 hX.2.1 d_Ta_append_36 ?_
          refine tpi (y := nI (8 * j)) (pk_mul _ _) ?_
          refine lv_lushr (v := (x.toUInt64 >>> ((nI (8 * j)).toInt64.toUInt64 &&& Int64.toUInt64 63)).toInt64) hX.1 hX.2.1 d_Ta_append_37 (rfl) ?_
          refine lv_l2i (v := ((x.toUInt64 >>> ((nI (8 * j)).toInt64.toUInt64 &&& Int64.toUInt64 63)).toInt64).toInt32) hX.1 hX.2.1 d_Ta_append_38 (rfl) ?_
          refine lv_sipush (v := nI 255) hX.1 hX.2.1 d_Ta_append_39 (by decide) ?_
          refine lv_iand hX.1 hX.2.1 d_Ta_append_42 ?_
          refine tpi (y := nI (byt x j)) (byt_u (by omega)) ?_
          refine kiast hX hW 1 rfl (by omega) (by first | decide | omega) d_Ta_append_43 (fun H locs hW => ?_)
          have hW : KW D k A s [(ta, .inr (5, [.ref tb, .int (nI (z + mm))])), (tb, .inl (k 0, 80, .inl (aN (va_up (tpw B z x n mm) (z + mm) (byt x j)))))] H locs := hW
          refine lv_aload_n hX.1 hX.2.1 d_Ta_append_44 rfl (lv_at hl 3 rfl) ?_
          refine lv_dup hX.1 hX.2.1 d_Ta_append_45 rfl ?_
          refine kget hX hW i_Ta 0 rfl rfl 1 (by decide) f_Ta_15 rfl rfl d_Ta_append_46 ?_
          refine lv_iconst (v := nI 1) hX.1 hX.2.1 d_Ta_append_49 (by decide) ?_
          refine lv_iadd hX.1 hX.2.1 d_Ta_append_50 ?_
          refine tpi (y := nI (z + mm + 1)) (nI_1 _) ?_
          refine kput hX hW i_Ta t_Ta t_Ta_ok n_Ta 0 rfl rfl 1 (by decide) f_Ta_15 rfl rfl (rfl) (rfl) (Nat.le_of_ble_eq_true rfl) d_Ta_append_51 (fun H locs hW => ?_)
          have hW : KW D k A s [(ta, .inr (5, [.ref tb, .int (nI (z + mm + 1))])), (tb, .inl (k 0, 80, .inl (aN (va_up (tpw B z x n mm) (z + mm) (byt x j)))))] H locs := hW
          refine lv_iinc (v := nM j) (lv' := [(4, .int (nM j)), (3, .int (nI n)), (1, .long x), (0, .ref ta)]) hX.1 hX.2.1 d_Ta_append_54 hl (k := 0) rfl (kn_dec j) (by decide) rfl (fun ls hl => ?_)
          refine lv_goto (tgt := 18) hX.1 hX.2.1 d_Ta_append_57 (by decide) ?_
          have e1 : n - 1 - mm = j := by omega
          have hW : KW D k A s [(ta, .inr (5, [.ref tb, .int (nI (z + (mm + 1)))])), (tb, .inl (k 0, 80, .inl (aN (tpw B z x n (mm + 1)))))] H locs := by rw [tpw, e1]; exact hW
          exact ih j (mm + 1) H locs ls (by omega) (by omega) (hW) (lv_sub hl [0, 1, 2, 3] rfl)
    exact lp (n + 1) n 0 H locs ls (by omega) (by omega) (hW) (lv_sub hl [0, 3, 2, 1] rfl)
  · refine lv_iconst (v := nI 0) hX.1 hX.2.1 d_Ta_append_11 (by decide) ?_
    exact kzret hX hr hlocks hQ () (by rw [if_neg (by omega), if_neg (by omega)]; exact hW) (by rw [show decide (z + n ≤ 80) = false by simp; omega]; rfl) (Or.inl rfl) d_Ta_append_12
set_option maxHeartbeats 4000000 in
set_option maxRecDepth 100000 in
/-- Word() -/
theorem ok_Wo_init (l : Launch) (D : va_G) (k : Nat → ClassId) (sz : Nat) (wo : Nat) : Met l y_Wo_init (.code y_Wo_init c_Wo_init 1 none :: wsU) ({ frames := 1, cells := 1, slots := 30, locals := 12 } : Room) (kPre D k [.ref wo] [(wo, .inr (6, [.null, .int (nI 0)]))] sz) (va_Qv (fun (_ : Nat) => True) (kB D k (fun u : Nat => [(wo, .inr (6, [.ref u, .int (nI 0)]))] ++ [(u, .inl (k 0, 30, .inl (aN (fun _ => 0))))]) (va_A [(wo, .inr (6, [.null, .int (nI 0)]))] sz)) (va_A [(wo, .inr (6, [.null, .int (nI 0)]))] sz)) 1 30 (va_A [(wo, .inr (6, [.null, .int (nI 0)]))] sz) := by
  refine kMet (by decide) (Nat.le_of_ble_eq_true rfl) ?_
  intro p e s m below meth c ls hX hml hr hlocks hin hsz hW hl Q hQ
  generalize hAe : va_A [(wo, .inr (6, [.null, .int (nI 0)]))] sz = A at hW hQ
  generalize hH0 : s.heap = H at hW ⊢
  generalize hl0 : ([] : List Loc) = locs at hW ⊢
  have hX : FX p s m c [.ref wo].toArray c_Wo_init R_Wo := hX
  have hl : lv_has ls 1 [(0, .ref wo)] := hl
  refine lv_aload_n hX.1 hX.2.1 d_Wo_init_0 rfl (lv_at hl 0 rfl) ?_
  refine kobj hX (hml.trans hl.1.symm) m_Wo_3 (by decide) (by decide) d_Wo_init_1 ?_
  refine lv_aload_n hX.1 hX.2.1 d_Wo_init_4 rfl (lv_at hl 0 rfl) ?_
  refine lv_bipush (v := nI 30) hX.1 hX.2.1 d_Wo_init_5 (by decide) ?_
  refine knewI hX hW (by first | decide | omega) (by first | decide | omega | (dsimp only; omega)) (by first | decide | omega | (dsimp only; omega)) d_Wo_init_7 (fun q7 H hW => ?_)
  have hW : KW D k A s [(wo, .inr (6, [.null, .int (nI 0)])), (q7, .inl (k 0, 30, .inl (aN (fun _ => 0))))] H locs := hW
  refine kput hX hW i_Wo t_Wo t_Wo_ok n_Wo 0 rfl rfl 0 (by decide) f_Wo_9 rfl rfl (rfl) (rfl) (Nat.le_of_ble_eq_true rfl) d_Wo_init_9 (fun H locs hW => ?_)
  have hW : KW D k A s [(wo, .inr (6, [.ref q7, .int (nI 0)])), (q7, .inl (k 0, 30, .inl (aN (fun _ => 0))))] H locs := hW
  refine lv_aload_n hX.1 hX.2.1 d_Wo_init_12 rfl (lv_at hl 0 rfl) ?_
  refine lv_iconst (v := nI 0) hX.1 hX.2.1 d_Wo_init_13 (by decide) ?_
  refine kput hX hW i_Wo t_Wo t_Wo_ok n_Wo 0 rfl rfl 1 (by decide) f_Wo_15 rfl rfl (rfl) (rfl) (Nat.le_of_ble_eq_true rfl) d_Wo_init_14 (fun H locs hW => ?_)
  have hW : KW D k A s [(wo, .inr (6, [.ref q7, .int (nI 0)])), (q7, .inl (k 0, 30, .inl (aN (fun _ => 0))))] H locs := hW
  refine W.widen (k := 1) (n := 30) (by omega) (by omega) ?_
  exact kvret hX hr hlocks hQ q7 (hW) (trivial) d_Wo_init_17
set_option maxHeartbeats 4000000 in
set_option maxRecDepth 100000 in
/-- resize(v) -/
theorem ok_Wo_resize (l : Launch) (D : va_G) (k : Nat → ClassId) (sz : Nat) (wo wl : Nat) (L : Nat → Nat) (z cp : Nat) (v : Nat) (hv : v < 2 ^ 20) (hc : cp < 2 ^ 20) : Met l y_Wo_resize (.code y_Wo_resize c_Wo_resize 2 none :: wsU) ({ frames := 0, cells := 1, slots := v, locals := 0 } : Room) (kPre D k [.ref wo, .int (nI v)] [(wo, .inr (6, [.ref wl, .int (nI z)])), (wl, .inl (k 0, cp, .inl (aN L)))] sz) (va_Qv (fun (_ : Nat) => True) (kB D k (fun u : Nat => [(wo, .inr (6, [.ref u, .int (nI v)])), (u, .inl (k 0, (if v ≤ cp then cp else v), .inl (aN (if v ≤ cp then L else fun _ => 0))))]) (va_A [(wo, .inr (6, [.ref wl, .int (nI z)])), (wl, .inl (k 0, cp, .inl (aN L)))] sz)) (va_A [(wo, .inr (6, [.ref wl, .int (nI z)])), (wl, .inl (k 0, cp, .inl (aN L)))] sz)) 1 v (va_A [(wo, .inr (6, [.ref wl, .int (nI z)])), (wl, .inl (k 0, cp, .inl (aN L)))] sz) := by
  refine kMet (by decide) (Nat.le_of_ble_eq_true rfl) ?_
  intro p e s m below meth c ls hX hml hr hlocks hin hsz hW hl Q hQ
  generalize hAe : va_A [(wo, .inr (6, [.ref wl, .int (nI z)])), (wl, .inl (k 0, cp, .inl (aN L)))] sz = A at hW hQ
  generalize hH0 : s.heap = H at hW ⊢
  generalize hl0 : ([] : List Loc) = locs at hW ⊢
  have hX : FX p s m c [.ref wo, .int (nI v)].toArray c_Wo_resize R_Wo := hX
  have hl : lv_has ls 2 [(0, .ref wo), (1, .int (nI v))] := hl
  refine lv_iload_n hX.1 hX.2.1 d_Wo_resize_0 rfl (lv_at hl 1 rfl) ?_
  refine lv_aload_n hX.1 hX.2.1 d_Wo_resize_1 rfl (lv_at hl 0 rfl) ?_
  refine kget hX hW i_Wo 0 rfl rfl 0 (by decide) f_Wo_9 rfl rfl d_Wo_resize_2 ?_
  refine kalen hX hW 1 0 rfl rfl d_Wo_resize_5 ?_
  refine kle hX (tgt := 16) (by omega) (by omega) d_Wo_resize_6 (by decide) (fun h1 => ?_) (fun h1 => ?_)
  · refine lv_aload_n hX.1 hX.2.1 d_Wo_resize_16 rfl (lv_at hl 0 rfl) ?_
    refine lv_iload_n hX.1 hX.2.1 d_Wo_resize_17 rfl (lv_at hl 1 rfl) ?_
    refine kput hX hW i_Wo t_Wo t_Wo_ok n_Wo 0 rfl rfl 1 (by decide) f_Wo_15 rfl rfl (rfl) (rfl) (Nat.le_of_ble_eq_true rfl) d_Wo_resize_18 (fun H locs hW => ?_)
    have hW : KW D k A s [(wo, .inr (6, [.ref wl, .int (nI v)])), (wl, .inl (k 0, cp, .inl (aN L)))] H locs := hW
    refine W.widen (k := 1) (n := v) (by omega) (by omega) ?_
    exact kvret hX hr hlocks hQ wl (by rw [if_pos h1, if_pos h1]; exact hW) (trivial) d_Wo_resize_21
  · refine lv_aload_n hX.1 hX.2.1 d_Wo_resize_9 rfl (lv_at hl 0 rfl) ?_
    refine lv_iload_n hX.1 hX.2.1 d_Wo_resize_10 rfl (lv_at hl 1 rfl) ?_
    refine knewI hX hW (by first | decide | omega) (by first | decide | omega | (dsimp only; omega)) (by first | decide | omega | (dsimp only; omega)) d_Wo_resize_11 (fun q11 H hW => ?_)
    have hW : KW D k A s [(wo, .inr (6, [.ref wl, .int (nI z)])), (wl, .inl (k 0, cp, .inl (aN L))), (q11, .inl (k 0, v, .inl (aN (fun _ => 0))))] H locs := hW
    refine kput hX hW i_Wo t_Wo t_Wo_ok n_Wo 0 rfl rfl 0 (by decide) f_Wo_9 rfl rfl (rfl) (rfl) (Nat.le_of_ble_eq_true rfl) d_Wo_resize_13 (fun H locs hW => ?_)
    have hW : KW D k A s [(wo, .inr (6, [.ref q11, .int (nI z)])), (wl, .inl (k 0, cp, .inl (aN L))), (q11, .inl (k 0, v, .inl (aN (fun _ => 0))))] H locs := hW
    refine lv_aload_n hX.1 hX.2.1 d_Wo_resize_16 rfl (lv_at hl 0 rfl) ?_
    refine lv_iload_n hX.1 hX.2.1 d_Wo_resize_17 rfl (lv_at hl 1 rfl) ?_
    refine kput hX hW i_Wo t_Wo t_Wo_ok n_Wo 0 rfl rfl 1 (by decide) f_Wo_15 rfl rfl (rfl) (rfl) (Nat.le_of_ble_eq_true rfl) d_Wo_resize_18 (fun H locs hW => ?_)
    have hW : KW D k A s [(wo, .inr (6, [.ref q11, .int (nI v)])), (wl, .inl (k 0, cp, .inl (aN L))), (q11, .inl (k 0, v, .inl (aN (fun _ => 0))))] H locs := hW
    refine W.widen (k := 1) (n := v) (by omega) (by omega) ?_
    exact kvret hX hr hlocks hQ q11 (by rw [if_neg (by omega), if_neg (by omega)]; exact hW.sub [0, 2] rfl rfl) (trivial) d_Wo_resize_21
end
section
/-! WHOLE-WORLD CALLS (the callee takes all cells), families of cells, the parser's world -/
section KC3
variable {p : Program} {l : Launch} {e : Env} {R : Room} {s : State} {m : MethodId} {args : Array Value} {below : List Frame} {meth : Method} {c : Code} {H : Heap} {locs : List Loc} {cells slots : Nat} {Q : State → Prop}
variable {cc : ByteArray} {pc : Nat} {ls : Array Slot} {rest st0 : List Value} {own : String} {D : va_G} {k : Nat → ClassId} {A : Nat → Prop} {ws : va_W} {S : Type} {w1 : S → va_W} {mc ms : Nat}
variable {y : MethodName} {bytes : ByteArray} {maxL nL n index : Nat} {ret : Option FieldType} {rm : Room} {Qc : Array Value → State → Outcome → State → Prop} {b : Nat} {As : List Value}
theorem kRunW (hX : FX p s m c args cc own) (hml : c.maxLocals = nL) (hW : KW D k A s ws H locs) (hM : Met l y (.code y bytes maxL ret :: wsU) rm (kPre D k (.ref b :: As) ws H.size) Qc mc ms (va_A ws H.size))
    (h1 : Cond.methodLink own index y ∈ wsU) (h2 : Cond.instanceMethod y ∈ wsU) (h3 : Cond.selects y.cls y y ∈ wsU) (h4 : Cond.initialized y.cls ∈ wsU) (h5 : Cond.code y bytes maxL ret ∈ wsU) {ci : Nat} {fs : List Value} {T : u_T} {N : Nat} (q0 : Nat) (he : ws[q0]? = some (b, .inr (ci, fs))) (hc : vwCl[ci]? = some (y.cls, T, N))
    (hd : y.cls ≠ "java/lang/invoke/MethodHandle" ∧ y.cls ≠ "java/lang/invoke/VarHandle" ∧ (parseMethodDescriptor y.desc).map (fun d => d.parameters.length) = some n) (hrm : rm.cells = mc ∧ rm.slots = ms ∧ rm.frames + 1 ≤ R.frames ∧ 8 + (maxL + 11) + rm.locals ≤ R.locals) (hAs : As.length = n) (hsize : ls.size = nL) (hst : st0 = As.reverse ++ .ref b :: rest) (hroom : (rest.map fun v => v.category).sum ≤ 8) (hdg : decode cc pc = .ok (.invokevirtual index, 3)) (hf : cells + mc ≤ R.cells ∧ slots + ms ≤ R.slots) :
    va_Run p l e R s m args below meth c H locs cells slots mc ms (F0 m pc ls st0) rest (Qc (Value.ref b :: As).toArray) (va_A ws H.size) := by
  obtain ⟨hx, hb, hown, hts⟩ := hX
  obtain ⟨hPc, hDc, hS, hK, hA⟩ := hW
  have hG : GoodIn wsU (wsV own index y.cls y (.code y bytes maxL ret :: wsU)) := by
    intro w hw
    rcases List.mem_append.mp (show w ∈ ([.methodLink own index y, .instanceMethod y, .selects y.cls y y, .initialized y.cls] : List Cond) ++ (.code y bytes maxL ret :: wsU) from hw) with z | z
    · simp only [List.mem_cons, List.not_mem_nil, or_false] at z
      rcases z with rfl | rfl | rfl | rfl
      · exact ⟨h1, wU_good h1⟩
      · exact ⟨h2, wU_good h2⟩
      · exact ⟨h3, wU_good h3⟩
      · exact ⟨h4, wU_good h4⟩
    · exact wU_gT h5 w z
  exact va_runV (As := As) (rest := rest) (C := y.cls) ⟨hx, hb, hml, hown, hts⟩ hM (cwV n hts hG rfl hrm.1 hrm.2.1 ⟨rfl, hd⟩ hrm.2.2) ⟨kPre_blind, va_recv hK hPc hc he, fun U hU hV => ⟨rfl, by rw [hU], by rw [hU]; exact hPc, va_K.moved hV.alike hK, hDc.weaken (fun _ _ _ _ => trivial)⟩⟩ rfl hAs hsize hst (lv_room hroom) hdg hf
theorem kfreeW (hW : KW D k A s ws H locs) : ∀ q, va_A ws H.size q → A q := by
  obtain ⟨hP, hD, hS, hK, hA⟩ := hW
  intro q h
  rcases h with ⟨n, e, h⟩ | h
  · exact hD.2 n _ h
  · exact hA q (Nat.le_trans hS.1 h)
theorem kBackW (hW : KW D k A s ws H locs) {u : S} {t : State} {H1 : Heap} {locs1 : List Loc} (ht : t.heap = H1) (hB : kB D k w1 (va_A ws H.size) u t) (hS1 : va_S A s.heap H1 locs1) : KW D k A s (w1 u) H1 locs1 := by
  obtain ⟨hP1, hK1, hD1⟩ := hB
  rw [ht] at hP1
  exact ⟨hP1, hD1.weaken (fun _ q _ h => kfreeW hW q.1 h), hS1, hW.2.2.2.1, hW.2.2.2.2⟩
theorem kWi {post : Int32 → S → Prop} {a : Array Value} (hW : KW D k A s ws H locs)
    (hr : va_Run p l e R s m args below meth c H locs cells slots mc ms (F0 m pc ls st0) rest (va_Qi post (kB D k w1 (va_A ws H.size)) (va_A ws H.size) a) (va_A ws H.size))
    (kk : ∀ (r : Int32) (u : S) (H1 : Heap) (locs1 : List Loc), post r u → KW D k A s (w1 u) H1 locs1 → W p l e R s m args below meth c H1 locs1 (cells + mc) (slots + ms) Q (F0 m (pc + 3) ls (.int r :: rest))) : W p l e R s m args below meth c H locs cells slots Q (F0 m pc ls st0) :=
  va_calli hr hW.2.2.1 (fun q _ h => kfreeW hW q h) (kfreeW hW) (fun r u t H1 locs1 ht _ hp hB _ hk1 hS1 => kk r u H1 locs1 hp (kBackW hW ht hB hS1))
theorem kWl {post : Int64 → S → Prop} {a : Array Value} (hW : KW D k A s ws H locs)
    (hr : va_Run p l e R s m args below meth c H locs cells slots mc ms (F0 m pc ls st0) rest (va_Ql post (kB D k w1 (va_A ws H.size)) (va_A ws H.size) a) (va_A ws H.size))
    (kk : ∀ (r : Int64) (u : S) (H1 : Heap) (locs1 : List Loc), post r u → KW D k A s (w1 u) H1 locs1 → W p l e R s m args below meth c H1 locs1 (cells + mc) (slots + ms) Q (F0 m (pc + 3) ls (.long r :: rest))) : W p l e R s m args below meth c H locs cells slots Q (F0 m pc ls st0) :=
  va_calll hr hW.2.2.1 (fun q _ h => kfreeW hW q h) (kfreeW hW) (fun r u t H1 locs1 ht _ hp hB _ hk1 hS1 => kk r u H1 locs1 hp (kBackW hW ht hB hS1))
theorem kWv {post : S → Prop} {a : Array Value} (hW : KW D k A s ws H locs)
    (hr : va_Run p l e R s m args below meth c H locs cells slots mc ms (F0 m pc ls st0) rest (va_Qv post (kB D k w1 (va_A ws H.size)) (va_A ws H.size) a) (va_A ws H.size))
    (kk : ∀ (u : S) (H1 : Heap) (locs1 : List Loc), post u → KW D k A s (w1 u) H1 locs1 → W p l e R s m args below meth c H1 locs1 (cells + mc) (slots + ms) Q (F0 m (pc + 3) ls rest)) : W p l e R s m args below meth c H locs cells slots Q (F0 m pc ls st0) :=
  va_callv hr hW.2.2.1 (fun q _ h => kfreeW hW q h) (kfreeW hW) (fun u t H1 locs1 ht _ hp hB _ hk1 hS1 => kk u H1 locs1 hp (kBackW hW ht hB hS1))
end KC3
def fam (n : Nat) (c : Nat → Nat × va_E) : va_W := (List.range n).map c
theorem fam_len (n : Nat) (c : Nat → Nat × va_E) : (fam n c).length = n := by simp [fam]
theorem fam_at {X Y : va_W} {n d : Nat} {c : Nat → Nat × va_E} (hd : d < n) : (X ++ (fam n c ++ Y))[X.length + d]? = some (c d) := by
  rw [List.getElem?_append_right (by omega), show X.length + d - X.length = d by omega, List.getElem?_append_left (by rw [fam_len]; exact hd)]
  simp [fam, hd]
theorem fam_set {X Y : va_W} {n d : Nat} {c : Nat → Nat × va_E} (hd : d < n) (x : Nat × va_E) : (X ++ (fam n c ++ Y)).set (X.length + d) x = X ++ (fam n (va_up c d x) ++ Y) := by
  apply List.ext_getElem?
  intro j
  rcases Nat.lt_or_ge j X.length with h | h
  · rw [List.getElem?_set_ne (by omega), List.getElem?_append_left h, List.getElem?_append_left h]
  · obtain ⟨i, rfl⟩ : ∃ i, j = X.length + i := ⟨j - X.length, by omega⟩
    rcases Nat.lt_or_ge i n with h2 | h2
    · rw [fam_at h2]
      by_cases hi : i = d
      · subst hi
        rw [List.getElem?_set_self (by rw [List.length_append, List.length_append, fam_len]; omega), va_up_self]
      · rw [List.getElem?_set_ne (by omega), fam_at h2, va_up_ne _ _ hi]
    · have e1 : ∀ c' : Nat → Nat × va_E, (X ++ (fam n c' ++ Y))[X.length + i]? = Y[i - n]? := by
        intro c'
        rw [List.getElem?_append_right (by omega), show X.length + i - X.length = i by omega, List.getElem?_append_right (by rw [fam_len]; omega), fam_len]
      rw [List.getElem?_set_ne (by omega), e1, e1]
abbrev PT : Type := Nat × Nat × Bool
def ptE (v : PT) : va_E := .inr (3, [.int (nI v.1), .int (nI v.2.1), .int (nI v.2.2.toNat)])
def pfm (q : Nat → Nat) (v : Nat → PT) : va_W := fam 9 (fun i => (q i, ptE (v i)))
theorem pfm_at {X Y : va_W} {d : Nat} {q : Nat → Nat} {v : Nat → PT} (hd : d < 9) : (X ++ (pfm q v ++ Y))[X.length + d]? = some (q d, ptE (v d)) := fam_at hd
theorem pfm_set {X Y : va_W} {d : Nat} {q : Nat → Nat} {v : Nat → PT} (hd : d < 9) (x : PT) : (X ++ (pfm q v ++ Y)).set (X.length + d) (q d, ptE x) = X ++ (pfm q (va_up v d x) ++ Y) := by
  unfold pfm
  rw [fam_set hd]
  congr 2
  unfold fam
  apply List.map_congr_left
  intro i _
  by_cases hi : i = d
  · subst hi; rw [va_up_self, va_up_self]
  · rw [va_up_ne _ _ hi, va_up_ne _ _ hi]
/-- the parser's cells, then what else there is -/
def prW (k : Nat → ClassId) (pr sa ra fc : Nat) (sq rq : Nat → Nat) (fw : Bool) (dp : Nat) (F : PT) (S Rw : Nat → PT) (Y : va_W) : va_W := [(pr, .inr (2, [.ref sa, .ref ra, .ref fc, .int (nI fw.toNat), .int (nI dp)])), (sa, .inl (k 4, 9, .inr (.inr (.inr (.inr (fun j => some (sq j))))))), (ra, .inl (k 4, 9, .inr (.inr (.inr (.inr (fun j => some (rq j))))))), (fc, ptE F)] ++ (pfm sq S ++ (pfm rq Rw ++ Y))
section PRW
variable {k : Nat → ClassId} {pr sa ra fc : Nat} {sq rq : Nat → Nat} {fw : Bool} {dp : Nat} {F : PT} {S Rw : Nat → PT} {Y : va_W} {d : Nat}
theorem prW_s (hd : d < 9) : (prW k pr sa ra fc sq rq fw dp F S Rw Y)[4 + d]? = some (sq d, ptE (S d)) := pfm_at (X := [_, _, _, _]) hd
theorem prW_assoc : prW k pr sa ra fc sq rq fw dp F S Rw Y = ([(pr, .inr (2, [.ref sa, .ref ra, .ref fc, .int (nI fw.toNat), .int (nI dp)])), (sa, .inl (k 4, 9, .inr (.inr (.inr (.inr (fun j => some (sq j))))))), (ra, .inl (k 4, 9, .inr (.inr (.inr (.inr (fun j => some (rq j))))))), (fc, ptE F)] ++ pfm sq S) ++ (pfm rq Rw ++ Y) := by
  unfold prW; rw [List.append_assoc]
theorem prW_len4 (X : va_W) (h : X.length = 4) : (X ++ pfm sq S).length = 13 := by rw [List.length_append, h]; unfold pfm; rw [fam_len]
theorem prW_r (hd : d < 9) : (prW k pr sa ra fc sq rq fw dp F S Rw Y)[13 + d]? = some (rq d, ptE (Rw d)) := by
  rw [prW_assoc]
  have h := pfm_at (X := [(pr, .inr (2, [.ref sa, .ref ra, .ref fc, .int (nI fw.toNat), .int (nI dp)])), (sa, .inl (k 4, 9, .inr (.inr (.inr (.inr (fun j => some (sq j))))))), (ra, .inl (k 4, 9, .inr (.inr (.inr (.inr (fun j => some (rq j))))))), (fc, ptE F)] ++ pfm sq S) (Y := Y) (q := rq) (v := Rw) hd
  rwa [prW_len4 _ rfl] at h
theorem prW_setS (hd : d < 9) (x : PT) : (prW k pr sa ra fc sq rq fw dp F S Rw Y).set (4 + d) (sq d, ptE x) = prW k pr sa ra fc sq rq fw dp F (va_up S d x) Rw Y := pfm_set (X := [_, _, _, _]) hd x
theorem prW_setR (hd : d < 9) (x : PT) : (prW k pr sa ra fc sq rq fw dp F S Rw Y).set (13 + d) (rq d, ptE x) = prW k pr sa ra fc sq rq fw dp F S (va_up Rw d x) Y := by
  rw [prW_assoc, prW_assoc]
  have h := pfm_set (X := [(pr, .inr (2, [.ref sa, .ref ra, .ref fc, .int (nI fw.toNat), .int (nI dp)])), (sa, .inl (k 4, 9, .inr (.inr (.inr (.inr (fun j => some (sq j))))))), (ra, .inl (k 4, 9, .inr (.inr (.inr (.inr (fun j => some (rq j))))))), (fc, ptE F)] ++ pfm sq S) (Y := Y) (q := rq) (v := Rw) hd x
  rwa [prW_len4 _ rfl] at h
end PRW
end
section
/-! THE PARSER -/
def alt (a b : PT) : PT := (a.1 ||| b.1, a.2.1 ||| b.2.1, a.2.2 || b.2.2)
def beh (a b : PT) : PT := (if a.2.2 then a.1 ||| b.1 else a.1, if b.2.2 then a.2.1 ||| b.2.1 else b.2.1, a.2.2 && b.2.2)
section PRY
variable {k : Nat → ClassId} {pr sa ra fc : Nat} {sq rq : Nat → Nat} {fw : Bool} {dp : Nat} {F : PT} {S Rw : Nat → PT} {Y : va_W}
theorem prW_22 : prW k pr sa ra fc sq rq fw dp F S Rw Y = (([(pr, .inr (2, [.ref sa, .ref ra, .ref fc, .int (nI fw.toNat), .int (nI dp)])), (sa, .inl (k 4, 9, .inr (.inr (.inr (.inr (fun j => some (sq j))))))), (ra, .inl (k 4, 9, .inr (.inr (.inr (.inr (fun j => some (rq j))))))), (fc, ptE F)] ++ pfm sq S) ++ pfm rq Rw) ++ Y := by
  unfold prW; simp only [List.append_assoc]
theorem prW_l22 (X : va_W) (h : X.length = 4) : ((X ++ pfm sq S) ++ pfm rq Rw).length = 22 := by rw [List.length_append, prW_len4 X h]; unfold pfm; rw [fam_len]
theorem prW_y (i : Nat) : (prW k pr sa ra fc sq rq fw dp F S Rw Y)[22 + i]? = Y[i]? := by
  rw [prW_22, List.getElem?_append_right (by rw [prW_l22 _ rfl]; omega), prW_l22 _ rfl, show 22 + i - 22 = i by omega]
theorem prW_setY (i : Nat) (x : Nat × va_E) : (prW k pr sa ra fc sq rq fw dp F S Rw Y).set (22 + i) x = prW k pr sa ra fc sq rq fw dp F S Rw (Y.set i x) := by
  rw [prW_22, prW_22, List.set_append_right _ _ (by rw [prW_l22 _ rfl]; omega), prW_l22 _ rfl, show 22 + i - 22 = i by omega]
end PRY
theorem va_up_id {α : Type} (f : Nat → α) (k : Nat) : va_up f k (f k) = f := by
  funext j
  by_cases h : j = k
  · subst h; rw [va_up_self]
  · rw [va_up_ne _ _ h]
set_option maxHeartbeats 4000000 in
set_option maxRecDepth 100000 in
/-- beginSum() -/
theorem ok_Pr_beginSum (l : Launch) (D : va_G) (k : Nat → ClassId) (sz : Nat) (pr sa ra fc : Nat) (sq rq : Nat → Nat) (fw : Bool) (dp : Nat) (F : PT) (S Rw : Nat → PT) (Y : va_W) (hdp : dp ≤ 8) : Met l y_Pr_beginSum (.code y_Pr_beginSum c_Pr_beginSum 1 none :: wsU) ({ frames := 1, cells := 0, slots := 0, locals := 23 } : Room) (kPre D k [.ref pr] (prW k pr sa ra fc sq rq fw dp F S Rw Y) sz) (va_Qv (fun (_ : Unit) => True) (kB D k (fun _ : Unit => (prW k pr sa ra fc sq rq fw dp F (va_up S dp (0, 0, false)) (va_up Rw dp (0, 0, true)) Y)) (va_A (prW k pr sa ra fc sq rq fw dp F S Rw Y) sz)) (va_A (prW k pr sa ra fc sq rq fw dp F S Rw Y) sz)) 0 0 (va_A (prW k pr sa ra fc sq rq fw dp F S Rw Y) sz) := by
  refine kMet (by decide) (Nat.le_of_ble_eq_true rfl) ?_
  intro p e s m below meth c ls hX hml hr hlocks hin hsz hW hl Q hQ
  generalize hAe : va_A (prW k pr sa ra fc sq rq fw dp F S Rw Y) sz = A at hW hQ
  generalize hH0 : s.heap = H at hW ⊢
  generalize hl0 : ([] : List Loc) = locs at hW ⊢
  have hX : FX p s m c [.ref pr].toArray c_Pr_beginSum R_Pr := hX
  have hl : lv_has ls 1 [(0, .ref pr)] := hl
  refine lv_aload_n hX.1 hX.2.1 d_Pr_beginSum_0 rfl (lv_at hl 0 rfl) ?_
  refine kget hX hW i_Pr 0 rfl rfl 0 (by decide) f_Pr_11 rfl rfl d_Pr_beginSum_1 ?_
  refine lv_aload_n hX.1 hX.2.1 d_Pr_beginSum_4 rfl (lv_at hl 0 rfl) ?_
  refine kget hX hW i_Pr 0 rfl rfl 4 (by decide) f_Pr_29 rfl rfl d_Pr_beginSum_5 ?_
  refine kaald (b := sq dp) hX hW 1 4 rfl rfl (by omega) (by decide) rfl d_Pr_beginSum_8 ?_
  refine lv_iconst (v := nI 0) hX.1 hX.2.1 d_Pr_beginSum_9 (by decide) ?_
  refine lv_iconst (v := nI 0) hX.1 hX.2.1 d_Pr_beginSum_10 (by decide) ?_
  refine lv_iconst (v := nI 0) hX.1 hX.2.1 d_Pr_beginSum_11 (by decide) ?_
  refine kCv (wc := [(sq dp, .inr (3, [.int (nI ((S dp).1)), .int (nI ((S dp).2.1)), .int (nI ((S dp).2.2.toNat))]))]) hW [4 + dp] (by simp only [List.map_cons, List.map_nil]; rw [prW_s (by omega)]; rfl) (by intro _; rfl) (kRunV (n := 3) (As := [.int (nI 0), .int (nI 0), .int (nI 0)]) (rest := []) hX hml hW (ok_Pt_become l D k H.size (sq dp) (S dp).1 (S dp).2.1 (S dp).2.2 0 0 false) m_Pr_93 im_Pt_become se_Pt_become in_Pt cd_Pt_become [4 + dp] (rfl) (by simp only [List.map_cons, List.map_nil]; rw [prW_s (by omega)]; rfl) rfl rfl (by decide +kernel) ⟨rfl, rfl, by decide, by decide⟩ rfl hl.1 rfl (by decide) d_Pr_beginSum_12 ⟨by decide, by decide⟩) (fun u H locs _ hW => ?_)
  have hW : KW D k A s (prW k pr sa ra fc sq rq fw dp F (va_up S dp (0, 0, false)) Rw Y) H locs := by rw [← prW_setS (d := dp) (by omega) (0, 0, false)]; exact hW
  refine lv_aload_n hX.1 hX.2.1 d_Pr_beginSum_15 rfl (lv_at hl 0 rfl) ?_
  refine kget hX hW i_Pr 0 rfl rfl 1 (by decide) f_Pr_17 rfl rfl d_Pr_beginSum_16 ?_
  refine lv_aload_n hX.1 hX.2.1 d_Pr_beginSum_19 rfl (lv_at hl 0 rfl) ?_
  refine kget hX hW i_Pr 0 rfl rfl 4 (by decide) f_Pr_29 rfl rfl d_Pr_beginSum_20 ?_
  refine kaald (b := rq dp) hX hW 2 4 rfl rfl (by omega) (by decide) rfl d_Pr_beginSum_23 ?_
  refine lv_iconst (v := nI 0) hX.1 hX.2.1 d_Pr_beginSum_24 (by decide) ?_
  refine lv_iconst (v := nI 0) hX.1 hX.2.1 d_Pr_beginSum_25 (by decide) ?_
  refine lv_iconst (v := nI 1) hX.1 hX.2.1 d_Pr_beginSum_26 (by decide) ?_
  refine kCv (wc := [(rq dp, .inr (3, [.int (nI ((Rw dp).1)), .int (nI ((Rw dp).2.1)), .int (nI ((Rw dp).2.2.toNat))]))]) hW [13 + dp] (by simp only [List.map_cons, List.map_nil]; rw [prW_r (by omega)]; rfl) (by intro _; rfl) (kRunV (n := 3) (As := [.int (nI 0), .int (nI 0), .int (nI 1)]) (rest := []) hX hml hW (ok_Pt_become l D k H.size (rq dp) (Rw dp).1 (Rw dp).2.1 (Rw dp).2.2 0 0 true) m_Pr_93 im_Pt_become se_Pt_become in_Pt cd_Pt_become [13 + dp] (rfl) (by simp only [List.map_cons, List.map_nil]; rw [prW_r (by omega)]; rfl) rfl rfl (by decide +kernel) ⟨rfl, rfl, by decide, by decide⟩ rfl hl.1 rfl (by decide) d_Pr_beginSum_27 ⟨by decide, by decide⟩) (fun u H locs _ hW => ?_)
  have hW : KW D k A s (prW k pr sa ra fc sq rq fw dp F (va_up S dp (0, 0, false)) (va_up Rw dp (0, 0, true)) Y) H locs := by rw [← prW_setR (d := dp) (by omega) (0, 0, true)]; exact hW
  exact kvret hX hr hlocks hQ () (hW) (trivial) d_Pr_beginSum_30
set_option maxHeartbeats 4000000 in
set_option maxRecDepth 100000 in
/-- endRow() -/
theorem ok_Pr_endRow (l : Launch) (D : va_G) (k : Nat → ClassId) (sz : Nat) (pr sa ra fc : Nat) (sq rq : Nat → Nat) (fw : Bool) (dp : Nat) (F : PT) (S Rw : Nat → PT) (Y : va_W) (hdp : dp ≤ 8) : Met l y_Pr_endRow (.code y_Pr_endRow c_Pr_endRow 1 none :: wsU) ({ frames := 2, cells := 0, slots := 0, locals := 44 } : Room) (kPre D k [.ref pr] (prW k pr sa ra fc sq rq fw dp F S Rw Y) sz) (va_Qv (fun (_ : Unit) => True) (kB D k (fun _ : Unit => (prW k pr sa ra fc sq rq fw dp F (va_up S dp (alt (S dp) (Rw dp))) (va_up Rw dp (0, 0, true)) Y)) (va_A (prW k pr sa ra fc sq rq fw dp F S Rw Y) sz)) (va_A (prW k pr sa ra fc sq rq fw dp F S Rw Y) sz)) 0 0 (va_A (prW k pr sa ra fc sq rq fw dp F S Rw Y) sz) := by
  refine kMet (by decide) (Nat.le_of_ble_eq_true rfl) ?_
  intro p e s m below meth c ls hX hml hr hlocks hin hsz hW hl Q hQ
  generalize hAe : va_A (prW k pr sa ra fc sq rq fw dp F S Rw Y) sz = A at hW hQ
  generalize hH0 : s.heap = H at hW ⊢
  generalize hl0 : ([] : List Loc) = locs at hW ⊢
  have hX : FX p s m c [.ref pr].toArray c_Pr_endRow R_Pr := hX
  have hl : lv_has ls 1 [(0, .ref pr)] := hl
  have hnd : va_nd [4 + dp, 13 + dp] = true := by simp [va_nd] <;> omega
  refine lv_aload_n hX.1 hX.2.1 d_Pr_endRow_0 rfl (lv_at hl 0 rfl) ?_
  refine kget hX hW i_Pr 0 rfl rfl 0 (by decide) f_Pr_11 rfl rfl d_Pr_endRow_1 ?_
  refine lv_aload_n hX.1 hX.2.1 d_Pr_endRow_4 rfl (lv_at hl 0 rfl) ?_
  refine kget hX hW i_Pr 0 rfl rfl 4 (by decide) f_Pr_29 rfl rfl d_Pr_endRow_5 ?_
  refine kaald (b := sq dp) hX hW 1 4 rfl rfl (by omega) (by decide) rfl d_Pr_endRow_8 ?_
  refine lv_aload_n hX.1 hX.2.1 d_Pr_endRow_9 rfl (lv_at hl 0 rfl) ?_
  refine kget hX hW i_Pr 0 rfl rfl 1 (by decide) f_Pr_17 rfl rfl d_Pr_endRow_10 ?_
  refine lv_aload_n hX.1 hX.2.1 d_Pr_endRow_13 rfl (lv_at hl 0 rfl) ?_
  refine kget hX hW i_Pr 0 rfl rfl 4 (by decide) f_Pr_29 rfl rfl d_Pr_endRow_14 ?_
  refine kaald (b := rq dp) hX hW 2 4 rfl rfl (by omega) (by decide) rfl d_Pr_endRow_17 ?_
  refine kCv (wc := [(sq dp, .inr (3, [.int (nI ((S dp).1)), .int (nI ((S dp).2.1)), .int (nI ((S dp).2.2.toNat))])), (rq dp, .inr (3, [.int (nI ((Rw dp).1)), .int (nI ((Rw dp).2.1)), .int (nI ((Rw dp).2.2.toNat))]))]) hW [4 + dp, 13 + dp] (by simp only [List.map_cons, List.map_nil]; rw [prW_s (by omega), prW_r (by omega)]; rfl) (by intro _; rfl) (kRunV (n := 1) (As := [.ref (rq dp)]) (rest := []) hX hml hW (ok_Pt_addAlternative l D k H.size (sq dp) (S dp).1 (S dp).2.1 (S dp).2.2 (rq dp) (Rw dp).1 (Rw dp).2.1 (Rw dp).2.2) m_Pr_100 im_Pt_addAlternative se_Pt_addAlternative in_Pt cd_Pt_addAlternative [4 + dp, 13 + dp] (hnd) (by simp only [List.map_cons, List.map_nil]; rw [prW_s (by omega), prW_r (by omega)]; rfl) rfl rfl (by decide +kernel) ⟨rfl, rfl, by decide, by decide⟩ rfl hl.1 rfl (by decide) d_Pr_endRow_18 ⟨by decide, by decide⟩) (fun u H locs _ hW => ?_)
  have e9 : ((prW k pr sa ra fc sq rq fw dp F S Rw Y).set (4 + dp) (sq dp, ptE (alt (S dp) (Rw dp)))).set (13 + dp) (rq dp, ptE (Rw dp)) = (prW k pr sa ra fc sq rq fw dp F (va_up S dp (alt (S dp) (Rw dp))) Rw Y) := by rw [prW_setS (by omega), prW_setR (by omega), va_up_id]
  have hW : KW D k A s (prW k pr sa ra fc sq rq fw dp F (va_up S dp (alt (S dp) (Rw dp))) Rw Y) H locs := by rw [← e9]; exact hW
  refine lv_aload_n hX.1 hX.2.1 d_Pr_endRow_21 rfl (lv_at hl 0 rfl) ?_
  refine kget hX hW i_Pr 0 rfl rfl 1 (by decide) f_Pr_17 rfl rfl d_Pr_endRow_22 ?_
  refine lv_aload_n hX.1 hX.2.1 d_Pr_endRow_25 rfl (lv_at hl 0 rfl) ?_
  refine kget hX hW i_Pr 0 rfl rfl 4 (by decide) f_Pr_29 rfl rfl d_Pr_endRow_26 ?_
  refine kaald (b := rq dp) hX hW 2 4 rfl rfl (by omega) (by decide) rfl d_Pr_endRow_29 ?_
  refine lv_iconst (v := nI 0) hX.1 hX.2.1 d_Pr_endRow_30 (by decide) ?_
  refine lv_iconst (v := nI 0) hX.1 hX.2.1 d_Pr_endRow_31 (by decide) ?_
  refine lv_iconst (v := nI 1) hX.1 hX.2.1 d_Pr_endRow_32 (by decide) ?_
  refine kCv (wc := [(rq dp, .inr (3, [.int (nI ((Rw dp).1)), .int (nI ((Rw dp).2.1)), .int (nI ((Rw dp).2.2.toNat))]))]) hW [13 + dp] (by simp only [List.map_cons, List.map_nil]; rw [prW_r (by omega)]; rfl) (by intro _; rfl) (kRunV (n := 3) (As := [.int (nI 0), .int (nI 0), .int (nI 1)]) (rest := []) hX hml hW (ok_Pt_become l D k H.size (rq dp) (Rw dp).1 (Rw dp).2.1 (Rw dp).2.2 0 0 true) m_Pr_93 im_Pt_become se_Pt_become in_Pt cd_Pt_become [13 + dp] (rfl) (by simp only [List.map_cons, List.map_nil]; rw [prW_r (by omega)]; rfl) rfl rfl (by decide +kernel) ⟨rfl, rfl, by decide, by decide⟩ rfl hl.1 rfl (by decide) d_Pr_endRow_33 ⟨by decide, by decide⟩) (fun u H locs _ hW => ?_)
  have hW : KW D k A s (prW k pr sa ra fc sq rq fw dp F (va_up S dp (alt (S dp) (Rw dp))) (va_up Rw dp (0, 0, true)) Y) H locs := by rw [← prW_setR (d := dp) (by omega) (0, 0, true)]; exact hW
  exact kvret hX hr hlocks hQ () (hW) (trivial) d_Pr_endRow_36
set_option maxHeartbeats 4000000 in
set_option maxRecDepth 100000 in
/-- setFactor(x, y, z) -/
theorem ok_Pr_setFactor (l : Launch) (D : va_G) (k : Nat → ClassId) (sz : Nat) (pr sa ra fc : Nat) (sq rq : Nat → Nat) (fw : Bool) (dp : Nat) (F : PT) (S Rw : Nat → PT) (Y : va_W) (x y : Nat) (z : Bool) : Met l y_Pr_setFactor (.code y_Pr_setFactor c_Pr_setFactor 4 none :: wsU) ({ frames := 1, cells := 0, slots := 0, locals := 23 } : Room) (kPre D k [.ref pr, .int (nI x), .int (nI y), .int (nI z.toNat)] (prW k pr sa ra fc sq rq fw dp F S Rw Y) sz) (va_Qv (fun (_ : Unit) => True) (kB D k (fun _ : Unit => (prW k pr sa ra fc sq rq true dp (x, y, z) S Rw Y)) (va_A (prW k pr sa ra fc sq rq fw dp F S Rw Y) sz)) (va_A (prW k pr sa ra fc sq rq fw dp F S Rw Y) sz)) 0 0 (va_A (prW k pr sa ra fc sq rq fw dp F S Rw Y) sz) := by
  refine kMet (by decide) (Nat.le_of_ble_eq_true rfl) ?_
  intro p e s m below meth c ls hX hml hr hlocks hin hsz hW hl Q hQ
  generalize hAe : va_A (prW k pr sa ra fc sq rq fw dp F S Rw Y) sz = A at hW hQ
  generalize hH0 : s.heap = H at hW ⊢
  generalize hl0 : ([] : List Loc) = locs at hW ⊢
  have hX : FX p s m c [.ref pr, .int (nI x), .int (nI y), .int (nI z.toNat)].toArray c_Pr_setFactor R_Pr := hX
  have hl : lv_has ls 4 [(0, .ref pr), (1, .int (nI x)), (2, .int (nI y)), (3, .int (nI z.toNat))] := hl
  refine lv_aload_n hX.1 hX.2.1 d_Pr_setFactor_0 rfl (lv_at hl 0 rfl) ?_
  refine kget hX hW i_Pr 0 rfl rfl 2 (by decide) f_Pr_21 rfl rfl d_Pr_setFactor_1 ?_
  refine lv_iload_n hX.1 hX.2.1 d_Pr_setFactor_4 rfl (lv_at hl 1 rfl) ?_
  refine lv_iload_n hX.1 hX.2.1 d_Pr_setFactor_5 rfl (lv_at hl 2 rfl) ?_
  refine lv_iload_n hX.1 hX.2.1 d_Pr_setFactor_6 rfl (lv_at hl 3 rfl) ?_
  refine kCv (wc := [(fc, .inr (3, [.int (nI F.1), .int (nI F.2.1), .int (nI F.2.2.toNat)]))]) hW [3] (rfl) (by intro _; rfl) (kRunV (n := 3) (As := [.int (nI x), .int (nI y), .int (nI z.toNat)]) (rest := []) hX hml hW (ok_Pt_become l D k H.size fc F.1 F.2.1 F.2.2 x y z) m_Pr_93 im_Pt_become se_Pt_become in_Pt cd_Pt_become [3] (rfl) (rfl) rfl rfl (by decide +kernel) ⟨rfl, rfl, by decide, by decide⟩ rfl hl.1 rfl (by decide) d_Pr_setFactor_7 ⟨by decide, by decide⟩) (fun u H locs _ hW => ?_)
  have hW : KW D k A s (prW k pr sa ra fc sq rq fw dp (x, y, z) S Rw Y) H locs := hW
  refine lv_aload_n hX.1 hX.2.1 d_Pr_setFactor_10 rfl (lv_at hl 0 rfl) ?_
  refine lv_iconst (v := nI 1) hX.1 hX.2.1 d_Pr_setFactor_11 (by decide) ?_
  refine kput hX hW i_Pr t_Pr t_Pr_ok n_Pr 0 rfl rfl 3 (by decide) f_Pr_25 rfl rfl (rfl) (rfl) (Nat.le_of_ble_eq_true rfl) d_Pr_setFactor_12 (fun H locs hW => ?_)
  have hW : KW D k A s (prW k pr sa ra fc sq rq true dp (x, y, z) S Rw Y) H locs := hW
  exact kvret hX hr hlocks hQ () (hW) (trivial) d_Pr_setFactor_15
set_option maxHeartbeats 4000000 in
set_option maxRecDepth 100000 in
/-- joinFactor(target) -/
theorem ok_Pr_joinFactor (l : Launch) (D : va_G) (k : Nat → ClassId) (sz : Nat) (pr sa ra fc : Nat) (sq rq : Nat → Nat) (fw : Bool) (dp : Nat) (F : PT) (S Rw : Nat → PT) (h f g : Nat) (FO SP : Nat → Nat) (en n : Nat) (Yr : va_W) (hdp : dp ≤ 8) (hla : (Rw dp).2.1 < 512) : Met l y_Pr_joinFactor (.code y_Pr_joinFactor c_Pr_joinFactor 3 (some .boolean) :: wsU) ({ frames := 2, cells := 0, slots := 0, locals := 47 } : Room) (kPre D k [.ref pr, .ref h] (prW k pr sa ra fc sq rq fw dp F S Rw ((h, .inr (0, [.ref f, .ref g, .int (nI en), .int (nI n)])) :: (f, .inl (k 0, 9, .inl (aN FO))) :: (g, .inl (k 0, 4, .inl (aN SP))) :: Yr)) sz) (va_Qi (fun (r : Int32) (_ : Unit) => r = nI fw.toNat) (kB D k (fun _ : Unit => (prW k pr sa ra fc sq rq false dp F S (if fw then va_up Rw dp (beh (Rw dp) F) else Rw) ((h, .inr (0, [.ref f, .ref g, .int (nI en), .int (nI n)])) :: (f, .inl (k 0, 9, .inl (aN (if fw then lnk FO (Rw dp).2.1 F.1 9 else FO)))) :: (g, .inl (k 0, 4, .inl (aN SP))) :: Yr))) (va_A (prW k pr sa ra fc sq rq fw dp F S Rw ((h, .inr (0, [.ref f, .ref g, .int (nI en), .int (nI n)])) :: (f, .inl (k 0, 9, .inl (aN FO))) :: (g, .inl (k 0, 4, .inl (aN SP))) :: Yr)) sz)) (va_A (prW k pr sa ra fc sq rq fw dp F S Rw ((h, .inr (0, [.ref f, .ref g, .int (nI en), .int (nI n)])) :: (f, .inl (k 0, 9, .inl (aN FO))) :: (g, .inl (k 0, 4, .inl (aN SP))) :: Yr)) sz)) 0 0 (va_A (prW k pr sa ra fc sq rq fw dp F S Rw ((h, .inr (0, [.ref f, .ref g, .int (nI en), .int (nI n)])) :: (f, .inl (k 0, 9, .inl (aN FO))) :: (g, .inl (k 0, 4, .inl (aN SP))) :: Yr)) sz) := by
  refine kMet (by decide) (Nat.le_of_ble_eq_true rfl) ?_
  intro p e s m below meth c ls hX hml hr hlocks hin hsz hW hl Q hQ
  generalize hAe : va_A (prW k pr sa ra fc sq rq fw dp F S Rw ((h, .inr (0, [.ref f, .ref g, .int (nI en), .int (nI n)])) :: (f, .inl (k 0, 9, .inl (aN FO))) :: (g, .inl (k 0, 4, .inl (aN SP))) :: Yr)) sz = A at hW hQ
  generalize hH0 : s.heap = H at hW ⊢
  generalize hl0 : ([] : List Loc) = locs at hW ⊢
  have hX : FX p s m c [.ref pr, .ref h].toArray c_Pr_joinFactor R_Pr := hX
  have hl : lv_has ls 3 [(0, .ref pr), (1, .ref h)] := hl
  refine lv_aload_n hX.1 hX.2.1 d_Pr_joinFactor_0 rfl (lv_at hl 0 rfl) ?_
  refine kget hX hW i_Pr 0 rfl rfl 3 (by decide) f_Pr_25 rfl rfl d_Pr_joinFactor_1 ?_
  refine lv_istore_n (lv' := [(2, .int (nI fw.toNat)), (0, .ref pr), (1, .ref h)]) hX.1 hX.2.1 d_Pr_joinFactor_4 rfl hl (by decide) rfl (fun ls hl => ?_)
  refine lv_iload_n hX.1 hX.2.1 d_Pr_joinFactor_5 rfl (lv_at hl 0 rfl) ?_
  have k26 : ∀ (Rw1 : Nat → PT) (FO1 : Nat → Nat) (H : Heap) (locs : List Loc), Rw1 = (if fw then va_up Rw dp (beh (Rw dp) F) else Rw) → FO1 = (if fw then lnk FO (Rw dp).2.1 F.1 9 else FO) → KW D k A s (prW k pr sa ra fc sq rq fw dp F S Rw1 ((h, .inr (0, [.ref f, .ref g, .int (nI en), .int (nI n)])) :: (f, .inl (k 0, 9, .inl (aN FO1))) :: (g, .inl (k 0, 4, .inl (aN SP))) :: Yr)) H locs → W p l e ({ frames := 2, cells := 0, slots := 0, locals := 47 } : Room) s m [.ref pr, .ref h].toArray below meth c H locs 0 0 Q (F0 m 26 ls []) := by
    intro Rw1 FO1 H locs hR1 hF1 hW
    refine lv_aload_n hX.1 hX.2.1 d_Pr_joinFactor_26 rfl (lv_at hl 1 rfl) ?_
    refine lv_iconst (v := nI 0) hX.1 hX.2.1 d_Pr_joinFactor_27 (by decide) ?_
    refine kput hX hW i_Pr t_Pr t_Pr_ok n_Pr 0 rfl rfl 3 (by decide) f_Pr_25 rfl rfl (rfl) (rfl) (Nat.le_of_ble_eq_true rfl) d_Pr_joinFactor_28 (fun H locs hW => ?_)
    have hW : KW D k A s (prW k pr sa ra fc sq rq false dp F S Rw1 ((h, .inr (0, [.ref f, .ref g, .int (nI en), .int (nI n)])) :: (f, .inl (k 0, 9, .inl (aN FO1))) :: (g, .inl (k 0, 4, .inl (aN SP))) :: Yr)) H locs := hW
    refine lv_iload_n hX.1 hX.2.1 d_Pr_joinFactor_31 rfl (lv_at hl 0 rfl) ?_
    subst hR1 hF1
    exact kzret hX hr hlocks hQ () (hW) (rfl) (bT_r _) d_Pr_joinFactor_32
  refine kz hX (tgt := 26) (bT _) d_Pr_joinFactor_6 (by decide) (fun h1 => ?_) (fun h1 => ?_)
  · exact k26 Rw FO H locs (by rw [bT_0 h1]; rfl) (by rw [bT_0 h1]; rfl) hW
  · have hnd : va_nd [13 + dp, 3, 22 + 0, 22 + 1, 22 + 2] = true := by simp [va_nd] <;> omega
    refine lv_aload_n hX.1 hX.2.1 d_Pr_joinFactor_9 rfl (lv_at hl 1 rfl) ?_
    refine kget hX hW i_Pr 0 rfl rfl 1 (by decide) f_Pr_17 rfl rfl d_Pr_joinFactor_10 ?_
    refine lv_aload_n hX.1 hX.2.1 d_Pr_joinFactor_13 rfl (lv_at hl 1 rfl) ?_
    refine kget hX hW i_Pr 0 rfl rfl 4 (by decide) f_Pr_29 rfl rfl d_Pr_joinFactor_14 ?_
    refine kaald (b := rq dp) hX hW 2 4 rfl rfl (by omega) (by decide) rfl d_Pr_joinFactor_17 ?_
    refine lv_aload_n hX.1 hX.2.1 d_Pr_joinFactor_18 rfl (lv_at hl 1 rfl) ?_
    refine kget hX hW i_Pr 0 rfl rfl 2 (by decide) f_Pr_21 rfl rfl d_Pr_joinFactor_19 ?_
    refine lv_aload_n hX.1 hX.2.1 d_Pr_joinFactor_22 rfl (lv_at hl 2 rfl) ?_
    refine kCv (wc := [(rq dp, .inr (3, [.int (nI ((Rw dp).1)), .int (nI ((Rw dp).2.1)), .int (nI ((Rw dp).2.2.toNat))])), (fc, .inr (3, [.int (nI F.1), .int (nI F.2.1), .int (nI F.2.2.toNat)]))] ++ [(h, .inr (0, [.ref f, .ref g, .int (nI en), .int (nI n)])), (f, .inl (k 0, 9, .inl (aN FO))), (g, .inl (k 0, 4, .inl (aN SP)))]) hW [13 + dp, 3, 22 + 0, 22 + 1, 22 + 2] (by simp only [List.map_cons, List.map_nil]; rw [prW_r (by omega), prW_y 0, prW_y 1, prW_y 2]; rfl) (by intro _; rfl) (kRunV (n := 2) (As := [.ref fc, .ref h]) (rest := []) hX hml hW (ok_Pt_addBehind l D k H.size (rq dp) (Rw dp).1 (Rw dp).2.1 (Rw dp).2.2 fc F.1 F.2.1 F.2.2 h f g FO SP en n hla) m_Pr_96 im_Pt_addBehind se_Pt_addBehind in_Pt cd_Pt_addBehind [13 + dp, 3, 22 + 0, 22 + 1, 22 + 2] (hnd) (by simp only [List.map_cons, List.map_nil]; rw [prW_r (by omega), prW_y 0, prW_y 1, prW_y 2]; rfl) rfl rfl (by decide +kernel) ⟨rfl, rfl, by decide, by decide⟩ rfl hl.1 rfl (by decide) d_Pr_joinFactor_23 ⟨by decide, by decide⟩) (fun u H locs _ hW => ?_)
    have e9 : (prW k pr sa ra fc sq rq fw dp F S Rw ((h, .inr (0, [.ref f, .ref g, .int (nI en), .int (nI n)])) :: (f, .inl (k 0, 9, .inl (aN FO))) :: (g, .inl (k 0, 4, .inl (aN SP))) :: Yr)).set (13 + dp) (rq dp, .inr (3, [.int (nI (if (Rw dp).2.2 then (Rw dp).1 ||| F.1 else (Rw dp).1)), .int (nI (if F.2.2 then (Rw dp).2.1 ||| F.2.1 else F.2.1)), .int (nI ((Rw dp).2.2 && F.2.2).toNat)])) = (prW k pr sa ra fc sq rq fw dp F S (va_up Rw dp (beh (Rw dp) F)) ((h, .inr (0, [.ref f, .ref g, .int (nI en), .int (nI n)])) :: (f, .inl (k 0, 9, .inl (aN FO))) :: (g, .inl (k 0, 4, .inl (aN SP))) :: Yr)) := prW_setR (by omega) (beh (Rw dp) F)
    have e8 : ∀ (Rw : Nat → PT) (Y : va_W), (prW k pr sa ra fc sq rq fw dp F S Rw Y).set 3 (fc, .inr (3, [.int (nI F.1), .int (nI F.2.1), .int (nI F.2.2.toNat)])) = prW k pr sa ra fc sq rq fw dp F S Rw Y := fun _ _ => rfl
    simp only [setAll] at hW
    rw [e9, e8, prW_setY 0, prW_setY 1, prW_setY 2] at hW
    have hW : KW D k A s (prW k pr sa ra fc sq rq fw dp F S (va_up Rw dp (beh (Rw dp) F)) ((h, .inr (0, [.ref f, .ref g, .int (nI en), .int (nI n)])) :: (f, .inl (k 0, 9, .inl (aN (lnk FO (Rw dp).2.1 F.1 9)))) :: (g, .inl (k 0, 4, .inl (aN SP))) :: Yr)) H locs := hW
    exact k26 _ _ H locs (by rw [bT_1 h1]; rfl) (by rw [bT_1 h1]; rfl) hW
end
section
/-! THE PARSER: opening, closing, letters, signs -/
set_option maxHeartbeats 4000000 in
set_option maxRecDepth 100000 in
/-- acceptOpening(), not too deep -/
theorem ok_Pr_openT (l : Launch) (D : va_G) (k : Nat → ClassId) (sz : Nat) (pr sa ra fc : Nat) (sq rq : Nat → Nat) (fw : Bool) (dp : Nat) (F : PT) (S Rw : Nat → PT) (Y : va_W) (hdp : dp < 8) : Met l y_Pr_acceptOpening (.code y_Pr_acceptOpening c_Pr_acceptOpening 1 (some .boolean) :: wsU) ({ frames := 2, cells := 0, slots := 0, locals := 43 } : Room) (kPre D k [.ref pr] (prW k pr sa ra fc sq rq fw dp F S Rw Y) sz) (va_Qi (fun (r : Int32) (_ : Unit) => r = nI 1) (kB D k (fun _ : Unit => (prW k pr sa ra fc sq rq fw (dp + 1) F (va_up S (dp + 1) (0, 0, false)) (va_up Rw (dp + 1) (0, 0, true)) Y)) (va_A (prW k pr sa ra fc sq rq fw dp F S Rw Y) sz)) (va_A (prW k pr sa ra fc sq rq fw dp F S Rw Y) sz)) 0 0 (va_A (prW k pr sa ra fc sq rq fw dp F S Rw Y) sz) := by
  refine kMet (by decide) (Nat.le_of_ble_eq_true rfl) ?_
  intro p e s m below meth c ls hX hml hr hlocks hin hsz hW hl Q hQ
  generalize hAe : va_A (prW k pr sa ra fc sq rq fw dp F S Rw Y) sz = A at hW hQ
  generalize hH0 : s.heap = H at hW ⊢
  generalize hl0 : ([] : List Loc) = locs at hW ⊢
  have hX : FX p s m c [.ref pr].toArray c_Pr_acceptOpening R_Pr := hX
  have hl : lv_has ls 1 [(0, .ref pr)] := hl
  refine lv_aload_n hX.1 hX.2.1 d_Pr_acceptOpening_0 rfl (lv_at hl 0 rfl) ?_
  refine kget hX hW i_Pr 0 rfl rfl 4 (by decide) f_Pr_29 rfl rfl d_Pr_acceptOpening_1 ?_
  refine lv_bipush (v := nI 8) hX.1 hX.2.1 d_Pr_acceptOpening_4 (by decide) ?_
  refine klt hX (tgt := 11) (by omega) (by omega) d_Pr_acceptOpening_6 (by decide) (fun h1 => ?_) (fun h1 => ?_)
  · refine lv_aload_n hX.1 hX.2.1 d_Pr_acceptOpening_11 rfl (lv_at hl 0 rfl) ?_
    refine lv_dup hX.1 hX.2.1 d_Pr_acceptOpening_12 rfl ?_
    refine kget hX hW i_Pr 0 rfl rfl 4 (by decide) f_Pr_29 rfl rfl d_Pr_acceptOpening_13 ?_
    refine lv_iconst (v := nI 1) hX.1 hX.2.1 d_Pr_acceptOpening_16 (by decide) ?_
    refine lv_iadd hX.1 hX.2.1 d_Pr_acceptOpening_17 ?_
    refine tpi (y := nI (dp + 1)) (nI_1 _) ?_
    refine kput hX hW i_Pr t_Pr t_Pr_ok n_Pr 0 rfl rfl 4 (by decide) f_Pr_29 rfl rfl (rfl) (rfl) (Nat.le_of_ble_eq_true rfl) d_Pr_acceptOpening_18 (fun H locs hW => ?_)
    have hW : KW D k A s (prW k pr sa ra fc sq rq fw (dp + 1) F S Rw Y) H locs := hW
    refine lv_aload_n hX.1 hX.2.1 d_Pr_acceptOpening_21 rfl (lv_at hl 0 rfl) ?_
    refine kWv hW (kRunW (n := 0) (As := []) (rest := []) hX hml hW (ok_Pr_beginSum l D k H.size pr sa ra fc sq rq fw (dp + 1) F S Rw Y (by omega)) m_Pr_38 im_Pr_beginSum se_Pr_beginSum in_Pr cd_Pr_beginSum 0 rfl rfl (by decide +kernel) ⟨rfl, rfl, by decide, by decide⟩ rfl hl.1 rfl (by decide) d_Pr_acceptOpening_22 ⟨by decide, by decide⟩) (fun u H locs _ hW => ?_)
    have hW : KW D k A s (prW k pr sa ra fc sq rq fw (dp + 1) F (va_up S (dp + 1) (0, 0, false)) (va_up Rw (dp + 1) (0, 0, true)) Y) H locs := hW
    refine lv_iconst (v := nI 1) hX.1 hX.2.1 d_Pr_acceptOpening_25 (by decide) ?_
    exact kzret hX hr hlocks hQ () (hW) (rfl) (Or.inr rfl) d_Pr_acceptOpening_26
  · omega
set_option maxHeartbeats 4000000 in
set_option maxRecDepth 100000 in
/-- acceptOpening(), too deep -/
theorem ok_Pr_openF (l : Launch) (D : va_G) (k : Nat → ClassId) (sz : Nat) (pr sa ra fc : Nat) (sq rq : Nat → Nat) (fw : Bool) (dp : Nat) (F : PT) (S Rw : Nat → PT) (Y : va_W) (hdp : 8 ≤ dp) (hdp2 : dp ≤ 8) : Met l y_Pr_acceptOpening (.code y_Pr_acceptOpening c_Pr_acceptOpening 1 (some .boolean) :: wsU) ({ frames := 2, cells := 0, slots := 0, locals := 43 } : Room) (kPre D k [.ref pr] (prW k pr sa ra fc sq rq fw dp F S Rw Y) sz) (va_Qi (fun (r : Int32) (_ : Unit) => r = nI 0) (kB D k (fun _ : Unit => (prW k pr sa ra fc sq rq fw dp F S Rw Y)) (va_A (prW k pr sa ra fc sq rq fw dp F S Rw Y) sz)) (va_A (prW k pr sa ra fc sq rq fw dp F S Rw Y) sz)) 0 0 (va_A (prW k pr sa ra fc sq rq fw dp F S Rw Y) sz) := by
  refine kMet (by decide) (Nat.le_of_ble_eq_true rfl) ?_
  intro p e s m below meth c ls hX hml hr hlocks hin hsz hW hl Q hQ
  generalize hAe : va_A (prW k pr sa ra fc sq rq fw dp F S Rw Y) sz = A at hW hQ
  generalize hH0 : s.heap = H at hW ⊢
  generalize hl0 : ([] : List Loc) = locs at hW ⊢
  have hX : FX p s m c [.ref pr].toArray c_Pr_acceptOpening R_Pr := hX
  have hl : lv_has ls 1 [(0, .ref pr)] := hl
  refine lv_aload_n hX.1 hX.2.1 d_Pr_acceptOpening_0 rfl (lv_at hl 0 rfl) ?_
  refine kget hX hW i_Pr 0 rfl rfl 4 (by decide) f_Pr_29 rfl rfl d_Pr_acceptOpening_1 ?_
  refine lv_bipush (v := nI 8) hX.1 hX.2.1 d_Pr_acceptOpening_4 (by decide) ?_
  refine klt hX (tgt := 11) (by omega) (by omega) d_Pr_acceptOpening_6 (by decide) (fun h1 => ?_) (fun h1 => ?_)
  · omega
  · refine lv_iconst (v := nI 0) hX.1 hX.2.1 d_Pr_acceptOpening_9 (by decide) ?_
    exact kzret hX hr hlocks hQ () (hW) (rfl) (Or.inl rfl) d_Pr_acceptOpening_10
set_option maxHeartbeats 4000000 in
set_option maxRecDepth 100000 in
/-- acceptClosing(), within brackets -/
theorem ok_Pr_closeT (l : Launch) (D : va_G) (k : Nat → ClassId) (sz : Nat) (pr sa ra fc : Nat) (sq rq : Nat → Nat) (fw : Bool) (dp : Nat) (F : PT) (S Rw : Nat → PT) (Y : va_W) (hdp : dp < 8) : Met l y_Pr_acceptClosing (.code y_Pr_acceptClosing c_Pr_acceptClosing 2 (some .boolean) :: wsU) ({ frames := 3, cells := 0, slots := 0, locals := 64 } : Room) (kPre D k [.ref pr] (prW k pr sa ra fc sq rq fw (dp + 1) F S Rw Y) sz) (va_Qi (fun (r : Int32) (_ : Unit) => r = nI 1) (kB D k (fun _ : Unit => (prW k pr sa ra fc sq rq true dp (alt (S (dp + 1)) (Rw (dp + 1))) (va_up S (dp + 1) (alt (S (dp + 1)) (Rw (dp + 1)))) (va_up Rw (dp + 1) (0, 0, true)) Y)) (va_A (prW k pr sa ra fc sq rq fw (dp + 1) F S Rw Y) sz)) (va_A (prW k pr sa ra fc sq rq fw (dp + 1) F S Rw Y) sz)) 0 0 (va_A (prW k pr sa ra fc sq rq fw (dp + 1) F S Rw Y) sz) := by
  refine kMet (by decide) (Nat.le_of_ble_eq_true rfl) ?_
  intro p e s m below meth c ls hX hml hr hlocks hin hsz hW hl Q hQ
  generalize hAe : va_A (prW k pr sa ra fc sq rq fw (dp + 1) F S Rw Y) sz = A at hW hQ
  generalize hH0 : s.heap = H at hW ⊢
  generalize hl0 : ([] : List Loc) = locs at hW ⊢
  have hX : FX p s m c [.ref pr].toArray c_Pr_acceptClosing R_Pr := hX
  have hl : lv_has ls 2 [(0, .ref pr)] := hl
  refine lv_aload_n hX.1 hX.2.1 d_Pr_acceptClosing_0 rfl (lv_at hl 0 rfl) ?_
  refine kget hX hW i_Pr 0 rfl rfl 4 (by decide) f_Pr_29 rfl rfl d_Pr_acceptClosing_1 ?_
  refine kgtN hX (tgt := 9) (by omega) d_Pr_acceptClosing_4 (by decide) (fun h1 => ?_) (fun h1 => ?_)
  · refine lv_aload_n hX.1 hX.2.1 d_Pr_acceptClosing_9 rfl (lv_at hl 0 rfl) ?_
    refine kWv hW (kRunW (n := 0) (As := []) (rest := []) hX hml hW (ok_Pr_endRow l D k H.size pr sa ra fc sq rq fw (dp + 1) F S Rw Y (by omega)) m_Pr_49 im_Pr_endRow se_Pr_endRow in_Pr cd_Pr_endRow 0 rfl rfl (by decide +kernel) ⟨rfl, rfl, by decide, by decide⟩ rfl hl.1 rfl (by decide) d_Pr_acceptClosing_10 ⟨by decide, by decide⟩) (fun u H locs _ hW => ?_)
    have hW : KW D k A s (prW k pr sa ra fc sq rq fw (dp + 1) F (va_up S (dp + 1) (alt (S (dp + 1)) (Rw (dp + 1)))) (va_up Rw (dp + 1) (0, 0, true)) Y) H locs := hW
    refine lv_aload_n hX.1 hX.2.1 d_Pr_acceptClosing_13 rfl (lv_at hl 0 rfl) ?_
    refine kget hX hW i_Pr 0 rfl rfl 0 (by decide) f_Pr_11 rfl rfl d_Pr_acceptClosing_14 ?_
    refine lv_aload_n hX.1 hX.2.1 d_Pr_acceptClosing_17 rfl (lv_at hl 0 rfl) ?_
    refine kget hX hW i_Pr 0 rfl rfl 4 (by decide) f_Pr_29 rfl rfl d_Pr_acceptClosing_18 ?_
    refine kaald (b := sq (dp + 1)) hX hW 1 4 rfl rfl (by omega) (by decide) rfl d_Pr_acceptClosing_21 ?_
    refine lv_astore_n (lv' := [(1, .ref (sq (dp + 1))), (0, .ref pr)]) hX.1 hX.2.1 d_Pr_acceptClosing_22 rfl hl (by decide) rfl (fun ls hl => ?_)
    refine lv_aload_n hX.1 hX.2.1 d_Pr_acceptClosing_23 rfl (lv_at hl 1 rfl) ?_
    refine lv_dup hX.1 hX.2.1 d_Pr_acceptClosing_24 rfl ?_
    refine kget hX hW i_Pr 0 rfl rfl 4 (by decide) f_Pr_29 rfl rfl d_Pr_acceptClosing_25 ?_
    refine lv_iconst (v := nI 1) hX.1 hX.2.1 d_Pr_acceptClosing_28 (by decide) ?_
    refine lv_isub hX.1 hX.2.1 d_Pr_acceptClosing_29 ?_
    refine tpi (y := nI dp) (nI_pred dp) ?_
    refine kput hX hW i_Pr t_Pr t_Pr_ok n_Pr 0 rfl rfl 4 (by decide) f_Pr_29 rfl rfl (rfl) (rfl) (Nat.le_of_ble_eq_true rfl) d_Pr_acceptClosing_30 (fun H locs hW => ?_)
    have hW : KW D k A s (prW k pr sa ra fc sq rq fw dp F (va_up S (dp + 1) (alt (S (dp + 1)) (Rw (dp + 1)))) (va_up Rw (dp + 1) (0, 0, true)) Y) H locs := hW
    refine lv_aload_n hX.1 hX.2.1 d_Pr_acceptClosing_33 rfl (lv_at hl 1 rfl) ?_
    refine lv_aload_n hX.1 hX.2.1 d_Pr_acceptClosing_34 rfl (lv_at hl 0 rfl) ?_
    refine kget hX hW i_Pt (4 + (dp + 1)) (prW_s (by omega)) rfl 0 (by decide) f_Pr_84 rfl rfl d_Pr_acceptClosing_35 ?_
    refine lv_aload_n hX.1 hX.2.1 d_Pr_acceptClosing_38 rfl (lv_at hl 0 rfl) ?_
    refine kget hX hW i_Pt (4 + (dp + 1)) (prW_s (by omega)) rfl 1 (by decide) f_Pr_87 rfl rfl d_Pr_acceptClosing_39 ?_
    refine lv_aload_n hX.1 hX.2.1 d_Pr_acceptClosing_42 rfl (lv_at hl 0 rfl) ?_
    refine kget hX hW i_Pt (4 + (dp + 1)) (prW_s (by omega)) rfl 2 (by decide) f_Pr_90 rfl rfl d_Pr_acceptClosing_43 ?_
    refine kWv hW (kRunW (n := 3) (As := [.int (nI (((va_up S (dp + 1) (alt (S (dp + 1)) (Rw (dp + 1)))) (dp + 1)).1)), .int (nI (((va_up S (dp + 1) (alt (S (dp + 1)) (Rw (dp + 1)))) (dp + 1)).2.1)), .int (nI (((va_up S (dp + 1) (alt (S (dp + 1)) (Rw (dp + 1)))) (dp + 1)).2.2.toNat))]) (rest := []) hX hml hW (ok_Pr_setFactor l D k H.size pr sa ra fc sq rq fw dp F (va_up S (dp + 1) (alt (S (dp + 1)) (Rw (dp + 1)))) (va_up Rw (dp + 1) (0, 0, true)) Y _ _ _) m_Pr_62 im_Pr_setFactor se_Pr_setFactor in_Pr cd_Pr_setFactor 0 rfl rfl (by decide +kernel) ⟨rfl, rfl, by decide, by decide⟩ rfl hl.1 rfl (by decide) d_Pr_acceptClosing_46 ⟨by decide, by decide⟩) (fun u H locs _ hW => ?_)
    have hW : KW D k A s (prW k pr sa ra fc sq rq true dp (alt (S (dp + 1)) (Rw (dp + 1))) (va_up S (dp + 1) (alt (S (dp + 1)) (Rw (dp + 1)))) (va_up Rw (dp + 1) (0, 0, true)) Y) H locs := by simp only [va_up_self] at hW; exact hW
    refine lv_iconst (v := nI 1) hX.1 hX.2.1 d_Pr_acceptClosing_49 (by decide) ?_
    exact kzret hX hr hlocks hQ () (hW) (rfl) (Or.inr rfl) d_Pr_acceptClosing_50
  · omega
set_option maxHeartbeats 4000000 in
set_option maxRecDepth 100000 in
/-- acceptClosing(), no bracket open -/
theorem ok_Pr_closeF (l : Launch) (D : va_G) (k : Nat → ClassId) (sz : Nat) (pr sa ra fc : Nat) (sq rq : Nat → Nat) (fw : Bool) (F : PT) (S Rw : Nat → PT) (Y : va_W) : Met l y_Pr_acceptClosing (.code y_Pr_acceptClosing c_Pr_acceptClosing 2 (some .boolean) :: wsU) ({ frames := 3, cells := 0, slots := 0, locals := 64 } : Room) (kPre D k [.ref pr] (prW k pr sa ra fc sq rq fw 0 F S Rw Y) sz) (va_Qi (fun (r : Int32) (_ : Unit) => r = nI 0) (kB D k (fun _ : Unit => (prW k pr sa ra fc sq rq fw 0 F S Rw Y)) (va_A (prW k pr sa ra fc sq rq fw 0 F S Rw Y) sz)) (va_A (prW k pr sa ra fc sq rq fw 0 F S Rw Y) sz)) 0 0 (va_A (prW k pr sa ra fc sq rq fw 0 F S Rw Y) sz) := by
  refine kMet (by decide) (Nat.le_of_ble_eq_true rfl) ?_
  intro p e s m below meth c ls hX hml hr hlocks hin hsz hW hl Q hQ
  generalize hAe : va_A (prW k pr sa ra fc sq rq fw 0 F S Rw Y) sz = A at hW hQ
  generalize hH0 : s.heap = H at hW ⊢
  generalize hl0 : ([] : List Loc) = locs at hW ⊢
  have hX : FX p s m c [.ref pr].toArray c_Pr_acceptClosing R_Pr := hX
  have hl : lv_has ls 2 [(0, .ref pr)] := hl
  refine lv_aload_n hX.1 hX.2.1 d_Pr_acceptClosing_0 rfl (lv_at hl 0 rfl) ?_
  refine kget hX hW i_Pr 0 rfl rfl 4 (by decide) f_Pr_29 rfl rfl d_Pr_acceptClosing_1 ?_
  refine kgtN hX (tgt := 9) (by decide) d_Pr_acceptClosing_4 (by decide) (fun h1 => ?_) (fun h1 => ?_)
  · omega
  · refine lv_iconst (v := nI 0) hX.1 hX.2.1 d_Pr_acceptClosing_7 (by decide) ?_
    exact kzret hX hr hlocks hQ () (hW) (rfl) (Or.inl rfl) d_Pr_acceptClosing_8
set_option maxHeartbeats 4000000 in
set_option maxRecDepth 100000 in
/-- acceptLetter(a), room for it -/
theorem ok_Pr_letterT (l : Launch) (D : va_G) (k : Nat → ClassId) (sz : Nat) (pr sa ra fc : Nat) (sq rq : Nat → Nat) (fw : Bool) (dp : Nat) (F : PT) (S Rw : Nat → PT) (h f g : Nat) (FO SP : Nat → Nat) (en n : Nat) (Yr : va_W) (a : Nat) (ha : a < 4) (hn : n < 8) : Met l y_Pr_acceptLetter (.code y_Pr_acceptLetter c_Pr_acceptLetter 4 (some .boolean) :: wsU) ({ frames := 2, cells := 0, slots := 0, locals := 46 } : Room) (kPre D k [.ref pr, .int (nI a), .ref h] (prW k pr sa ra fc sq rq fw dp F S Rw ((h, .inr (0, [.ref f, .ref g, .int (nI en), .int (nI n)])) :: (f, .inl (k 0, 9, .inl (aN FO))) :: (g, .inl (k 0, 4, .inl (aN SP))) :: Yr)) sz) (va_Qi (fun (r : Int32) (_ : Unit) => r = nI 1) (kB D k (fun _ : Unit => (prW k pr sa ra fc sq rq true dp (2 ^ n, 2 ^ n, false) S Rw ((h, .inr (0, [.ref f, .ref g, .int (nI en), .int (nI (n + 1))])) :: (f, .inl (k 0, 9, .inl (aN FO))) :: (g, .inl (k 0, 4, .inl (aN (va_up SP a (SP a ||| 2 ^ n))))) :: Yr))) (va_A (prW k pr sa ra fc sq rq fw dp F S Rw ((h, .inr (0, [.ref f, .ref g, .int (nI en), .int (nI n)])) :: (f, .inl (k 0, 9, .inl (aN FO))) :: (g, .inl (k 0, 4, .inl (aN SP))) :: Yr)) sz)) (va_A (prW k pr sa ra fc sq rq fw dp F S Rw ((h, .inr (0, [.ref f, .ref g, .int (nI en), .int (nI n)])) :: (f, .inl (k 0, 9, .inl (aN FO))) :: (g, .inl (k 0, 4, .inl (aN SP))) :: Yr)) sz)) 0 0 (va_A (prW k pr sa ra fc sq rq fw dp F S Rw ((h, .inr (0, [.ref f, .ref g, .int (nI en), .int (nI n)])) :: (f, .inl (k 0, 9, .inl (aN FO))) :: (g, .inl (k 0, 4, .inl (aN SP))) :: Yr)) sz) := by
  refine kMet (by decide) (Nat.le_of_ble_eq_true rfl) ?_
  intro p e s m below meth c ls hX hml hr hlocks hin hsz hW hl Q hQ
  generalize hAe : va_A (prW k pr sa ra fc sq rq fw dp F S Rw ((h, .inr (0, [.ref f, .ref g, .int (nI en), .int (nI n)])) :: (f, .inl (k 0, 9, .inl (aN FO))) :: (g, .inl (k 0, 4, .inl (aN SP))) :: Yr)) sz = A at hW hQ
  generalize hH0 : s.heap = H at hW ⊢
  generalize hl0 : ([] : List Loc) = locs at hW ⊢
  have hX : FX p s m c [.ref pr, .int (nI a), .ref h].toArray c_Pr_acceptLetter R_Pr := hX
  have hl : lv_has ls 4 [(0, .ref pr), (1, .int (nI a)), (2, .ref h)] := hl
  refine lv_aload_n hX.1 hX.2.1 d_Pr_acceptLetter_0 rfl (lv_at hl 2 rfl) ?_
  refine kget hX hW i_Ex (22 + 0) (prW_y 0) rfl 3 (by decide) f_Pr_77 rfl rfl d_Pr_acceptLetter_1 ?_
  refine lv_bipush (v := nI 8) hX.1 hX.2.1 d_Pr_acceptLetter_4 (by decide) ?_
  refine klt hX (tgt := 11) (by omega) (by omega) d_Pr_acceptLetter_6 (by decide) (fun h1 => ?_) (fun h1 => ?_)
  · refine lv_aload_n hX.1 hX.2.1 d_Pr_acceptLetter_11 rfl (lv_at hl 2 rfl) ?_
    refine lv_iload_n hX.1 hX.2.1 d_Pr_acceptLetter_12 rfl (lv_at hl 1 rfl) ?_
    refine kCi (wc := [(h, .inr (0, [.ref f, .ref g, .int (nI en), .int (nI n)])), (f, .inl (k 0, 9, .inl (aN FO))), (g, .inl (k 0, 4, .inl (aN SP)))]) hW [22 + 0, 22 + 1, 22 + 2] (by simp only [List.map_cons, List.map_nil]; rw [prW_y 0, prW_y 1, prW_y 2]; rfl) (by intro _; rfl) (kRunV (n := 1) (As := [.int (nI a)]) (rest := []) hX hml hW (ok_Ex_addLetter l D k H.size h f g FO SP en n a ha hn) m_Pr_80 im_Ex_addLetter se_Ex_addLetter in_Ex cd_Ex_addLetter [22 + 0, 22 + 1, 22 + 2] (by rfl) (by simp only [List.map_cons, List.map_nil]; rw [prW_y 0, prW_y 1, prW_y 2]; rfl) rfl rfl (by decide +kernel) ⟨rfl, rfl, by decide, by decide⟩ rfl hl.1 rfl (by decide) d_Pr_acceptLetter_13 ⟨by decide, by decide⟩) (fun r u H locs hr1 hW => ?_)
    subst hr1
    simp only [setAll] at hW
    rw [prW_setY 0, prW_setY 1, prW_setY 2] at hW
    have hW : KW D k A s (prW k pr sa ra fc sq rq fw dp F S Rw ((h, .inr (0, [.ref f, .ref g, .int (nI en), .int (nI (n + 1))])) :: (f, .inl (k 0, 9, .inl (aN FO))) :: (g, .inl (k 0, 4, .inl (aN (va_up SP a (SP a ||| 2 ^ n))))) :: Yr)) H locs := hW
    refine lv_istore_n (lv' := [(3, .int (nI (2 ^ n))), (0, .ref pr), (1, .int (nI a)), (2, .ref h)]) hX.1 hX.2.1 d_Pr_acceptLetter_16 rfl hl (by decide) rfl (fun ls hl => ?_)
    refine lv_aload_n hX.1 hX.2.1 d_Pr_acceptLetter_17 rfl (lv_at hl 1 rfl) ?_
    refine lv_iload_n hX.1 hX.2.1 d_Pr_acceptLetter_18 rfl (lv_at hl 0 rfl) ?_
    refine lv_iload_n hX.1 hX.2.1 d_Pr_acceptLetter_19 rfl (lv_at hl 0 rfl) ?_
    refine lv_iconst (v := nI 0) hX.1 hX.2.1 d_Pr_acceptLetter_20 (by decide) ?_
    refine kWv hW (kRunW (n := 3) (As := [.int (nI (2 ^ n)), .int (nI (2 ^ n)), .int (nI 0)]) (rest := []) hX hml hW (ok_Pr_setFactor l D k H.size pr sa ra fc sq rq fw dp F S Rw ((h, .inr (0, [.ref f, .ref g, .int (nI en), .int (nI (n + 1))])) :: (f, .inl (k 0, 9, .inl (aN FO))) :: (g, .inl (k 0, 4, .inl (aN (va_up SP a (SP a ||| 2 ^ n))))) :: Yr) (2 ^ n) (2 ^ n) false) m_Pr_62 im_Pr_setFactor se_Pr_setFactor in_Pr cd_Pr_setFactor 0 rfl rfl (by decide +kernel) ⟨rfl, rfl, by decide, by decide⟩ rfl hl.1 rfl (by decide) d_Pr_acceptLetter_21 ⟨by decide, by decide⟩) (fun u H locs _ hW => ?_)
    have hW : KW D k A s (prW k pr sa ra fc sq rq true dp (2 ^ n, 2 ^ n, false) S Rw ((h, .inr (0, [.ref f, .ref g, .int (nI en), .int (nI (n + 1))])) :: (f, .inl (k 0, 9, .inl (aN FO))) :: (g, .inl (k 0, 4, .inl (aN (va_up SP a (SP a ||| 2 ^ n))))) :: Yr)) H locs := hW
    refine lv_iconst (v := nI 1) hX.1 hX.2.1 d_Pr_acceptLetter_24 (by decide) ?_
    exact kzret hX hr hlocks hQ () (hW) (rfl) (Or.inr rfl) d_Pr_acceptLetter_25
  · omega
set_option maxHeartbeats 4000000 in
set_option maxRecDepth 100000 in
/-- acceptLetter(a), a ninth -/
theorem ok_Pr_letterF (l : Launch) (D : va_G) (k : Nat → ClassId) (sz : Nat) (pr sa ra fc : Nat) (sq rq : Nat → Nat) (fw : Bool) (dp : Nat) (F : PT) (S Rw : Nat → PT) (h f g : Nat) (FO SP : Nat → Nat) (en n : Nat) (Yr : va_W) (a : Nat) (hn : 8 ≤ n) (hn2 : n ≤ 8) : Met l y_Pr_acceptLetter (.code y_Pr_acceptLetter c_Pr_acceptLetter 4 (some .boolean) :: wsU) ({ frames := 2, cells := 0, slots := 0, locals := 46 } : Room) (kPre D k [.ref pr, .int (nI a), .ref h] (prW k pr sa ra fc sq rq fw dp F S Rw ((h, .inr (0, [.ref f, .ref g, .int (nI en), .int (nI n)])) :: (f, .inl (k 0, 9, .inl (aN FO))) :: (g, .inl (k 0, 4, .inl (aN SP))) :: Yr)) sz) (va_Qi (fun (r : Int32) (_ : Unit) => r = nI 0) (kB D k (fun _ : Unit => (prW k pr sa ra fc sq rq fw dp F S Rw ((h, .inr (0, [.ref f, .ref g, .int (nI en), .int (nI n)])) :: (f, .inl (k 0, 9, .inl (aN FO))) :: (g, .inl (k 0, 4, .inl (aN SP))) :: Yr))) (va_A (prW k pr sa ra fc sq rq fw dp F S Rw ((h, .inr (0, [.ref f, .ref g, .int (nI en), .int (nI n)])) :: (f, .inl (k 0, 9, .inl (aN FO))) :: (g, .inl (k 0, 4, .inl (aN SP))) :: Yr)) sz)) (va_A (prW k pr sa ra fc sq rq fw dp F S Rw ((h, .inr (0, [.ref f, .ref g, .int (nI en), .int (nI n)])) :: (f, .inl (k 0, 9, .inl (aN FO))) :: (g, .inl (k 0, 4, .inl (aN SP))) :: Yr)) sz)) 0 0 (va_A (prW k pr sa ra fc sq rq fw dp F S Rw ((h, .inr (0, [.ref f, .ref g, .int (nI en), .int (nI n)])) :: (f, .inl (k 0, 9, .inl (aN FO))) :: (g, .inl (k 0, 4, .inl (aN SP))) :: Yr)) sz) := by
  refine kMet (by decide) (Nat.le_of_ble_eq_true rfl) ?_
  intro p e s m below meth c ls hX hml hr hlocks hin hsz hW hl Q hQ
  generalize hAe : va_A (prW k pr sa ra fc sq rq fw dp F S Rw ((h, .inr (0, [.ref f, .ref g, .int (nI en), .int (nI n)])) :: (f, .inl (k 0, 9, .inl (aN FO))) :: (g, .inl (k 0, 4, .inl (aN SP))) :: Yr)) sz = A at hW hQ
  generalize hH0 : s.heap = H at hW ⊢
  generalize hl0 : ([] : List Loc) = locs at hW ⊢
  have hX : FX p s m c [.ref pr, .int (nI a), .ref h].toArray c_Pr_acceptLetter R_Pr := hX
  have hl : lv_has ls 4 [(0, .ref pr), (1, .int (nI a)), (2, .ref h)] := hl
  refine lv_aload_n hX.1 hX.2.1 d_Pr_acceptLetter_0 rfl (lv_at hl 2 rfl) ?_
  refine kget hX hW i_Ex (22 + 0) (prW_y 0) rfl 3 (by decide) f_Pr_77 rfl rfl d_Pr_acceptLetter_1 ?_
  refine lv_bipush (v := nI 8) hX.1 hX.2.1 d_Pr_acceptLetter_4 (by decide) ?_
  refine klt hX (tgt := 11) (by omega) (by omega) d_Pr_acceptLetter_6 (by decide) (fun h1 => ?_) (fun h1 => ?_)
  · omega
  · refine lv_iconst (v := nI 0) hX.1 hX.2.1 d_Pr_acceptLetter_9 (by decide) ?_
    exact kzret hX hr hlocks hQ () (hW) (rfl) (Or.inl rfl) d_Pr_acceptLetter_10
set_option maxHeartbeats 4000000 in
set_option maxRecDepth 100000 in
/-- acceptRepeat(sign), behind a factor -/
theorem ok_Pr_repT (l : Launch) (D : va_G) (k : Nat → ClassId) (sz : Nat) (pr sa ra fc : Nat) (sq rq : Nat → Nat) (dp : Nat) (F : PT) (S Rw : Nat → PT) (h f g : Nat) (FO SP : Nat → Nat) (en n : Nat) (Yr : va_W) (sg : Nat) (hsg : sg < 256) (hla : F.2.1 < 512) : Met l y_Pr_acceptRepeat (.code y_Pr_acceptRepeat c_Pr_acceptRepeat 3 (some .boolean) :: wsU) ({ frames := 2, cells := 0, slots := 0, locals := 45 } : Room) (kPre D k [.ref pr, .int (nI sg), .ref h] (prW k pr sa ra fc sq rq true dp F S Rw ((h, .inr (0, [.ref f, .ref g, .int (nI en), .int (nI n)])) :: (f, .inl (k 0, 9, .inl (aN FO))) :: (g, .inl (k 0, 4, .inl (aN SP))) :: Yr)) sz) (va_Qi (fun (r : Int32) (_ : Unit) => r = nI 1) (kB D k (fun _ : Unit => (prW k pr sa ra fc sq rq true dp (F.1, F.2.1, F.2.2 || decide (sg ≠ 43)) S Rw ((h, .inr (0, [.ref f, .ref g, .int (nI en), .int (nI n)])) :: (f, .inl (k 0, 9, .inl (aN (if sg = 63 then FO else lnk FO F.2.1 F.1 9)))) :: (g, .inl (k 0, 4, .inl (aN SP))) :: Yr))) (va_A (prW k pr sa ra fc sq rq true dp F S Rw ((h, .inr (0, [.ref f, .ref g, .int (nI en), .int (nI n)])) :: (f, .inl (k 0, 9, .inl (aN FO))) :: (g, .inl (k 0, 4, .inl (aN SP))) :: Yr)) sz)) (va_A (prW k pr sa ra fc sq rq true dp F S Rw ((h, .inr (0, [.ref f, .ref g, .int (nI en), .int (nI n)])) :: (f, .inl (k 0, 9, .inl (aN FO))) :: (g, .inl (k 0, 4, .inl (aN SP))) :: Yr)) sz)) 0 0 (va_A (prW k pr sa ra fc sq rq true dp F S Rw ((h, .inr (0, [.ref f, .ref g, .int (nI en), .int (nI n)])) :: (f, .inl (k 0, 9, .inl (aN FO))) :: (g, .inl (k 0, 4, .inl (aN SP))) :: Yr)) sz) := by
  refine kMet (by decide) (Nat.le_of_ble_eq_true rfl) ?_
  intro p e s m below meth c ls hX hml hr hlocks hin hsz hW hl Q hQ
  generalize hAe : va_A (prW k pr sa ra fc sq rq true dp F S Rw ((h, .inr (0, [.ref f, .ref g, .int (nI en), .int (nI n)])) :: (f, .inl (k 0, 9, .inl (aN FO))) :: (g, .inl (k 0, 4, .inl (aN SP))) :: Yr)) sz = A at hW hQ
  generalize hH0 : s.heap = H at hW ⊢
  generalize hl0 : ([] : List Loc) = locs at hW ⊢
  have hX : FX p s m c [.ref pr, .int (nI sg), .ref h].toArray c_Pr_acceptRepeat R_Pr := hX
  have hl : lv_has ls 3 [(0, .ref pr), (1, .int (nI sg)), (2, .ref h)] := hl
  refine lv_aload_n hX.1 hX.2.1 d_Pr_acceptRepeat_0 rfl (lv_at hl 0 rfl) ?_
  refine kget hX hW i_Pr 0 rfl rfl 3 (by decide) f_Pr_25 rfl rfl d_Pr_acceptRepeat_1 ?_
  refine kz hX (tgt := 16) (by decide) d_Pr_acceptRepeat_4 (by decide) (fun h1 => ?_) (fun h1 => ?_)
  · exact absurd h1 (by decide)
  · have hnd : va_nd [3, 22 + 0, 22 + 1, 22 + 2] = true := by rfl
    refine lv_aload_n hX.1 hX.2.1 d_Pr_acceptRepeat_7 rfl (lv_at hl 0 rfl) ?_
    refine kget hX hW i_Pr 0 rfl rfl 2 (by decide) f_Pr_21 rfl rfl d_Pr_acceptRepeat_8 ?_
    refine lv_iload_n hX.1 hX.2.1 d_Pr_acceptRepeat_11 rfl (lv_at hl 1 rfl) ?_
    refine lv_aload_n hX.1 hX.2.1 d_Pr_acceptRepeat_12 rfl (lv_at hl 2 rfl) ?_
    refine kCv (wc := [(fc, .inr (3, [.int (nI F.1), .int (nI F.2.1), .int (nI F.2.2.toNat)]))] ++ [(h, .inr (0, [.ref f, .ref g, .int (nI en), .int (nI n)])), (f, .inl (k 0, 9, .inl (aN FO))), (g, .inl (k 0, 4, .inl (aN SP)))]) hW [3, 22 + 0, 22 + 1, 22 + 2] (by simp only [List.map_cons, List.map_nil]; rw [prW_y 0, prW_y 1, prW_y 2]; rfl) (by intro _; rfl) (kRunV (n := 2) (As := [.int (nI sg), .ref h]) (rest := []) hX hml hW (ok_Pt_repeat l D k H.size fc F.1 F.2.1 F.2.2 h f g FO SP en n sg hla hsg) m_Pr_73 im_Pt_repeat se_Pt_repeat in_Pt cd_Pt_repeat [3, 22 + 0, 22 + 1, 22 + 2] (hnd) (by simp only [List.map_cons, List.map_nil]; rw [prW_y 0, prW_y 1, prW_y 2]; rfl) rfl rfl (by decide +kernel) ⟨rfl, rfl, by decide, by decide⟩ rfl hl.1 rfl (by decide) d_Pr_acceptRepeat_13 ⟨by decide, by decide⟩) (fun u H locs _ hW => ?_)
    have e8 : ∀ (F2 : PT) (Y : va_W), (prW k pr sa ra fc sq rq true dp F S Rw Y).set 3 (fc, .inr (3, [.int (nI F2.1), .int (nI F2.2.1), .int (nI F2.2.2.toNat)])) = prW k pr sa ra fc sq rq true dp F2 S Rw Y := fun _ _ => rfl
    simp only [setAll] at hW
    rw [e8 (F.1, F.2.1, F.2.2 || decide (sg ≠ 43)), prW_setY 0, prW_setY 1, prW_setY 2] at hW
    have hW : KW D k A s (prW k pr sa ra fc sq rq true dp (F.1, F.2.1, F.2.2 || decide (sg ≠ 43)) S Rw ((h, .inr (0, [.ref f, .ref g, .int (nI en), .int (nI n)])) :: (f, .inl (k 0, 9, .inl (aN (if sg = 63 then FO else lnk FO F.2.1 F.1 9)))) :: (g, .inl (k 0, 4, .inl (aN SP))) :: Yr)) H locs := hW
    refine lv_aload_n hX.1 hX.2.1 d_Pr_acceptRepeat_16 rfl (lv_at hl 0 rfl) ?_
    refine kget hX hW i_Pr 0 rfl rfl 3 (by decide) f_Pr_25 rfl rfl d_Pr_acceptRepeat_17 ?_
    exact kzret hX hr hlocks hQ () (hW) (rfl) (Or.inr rfl) d_Pr_acceptRepeat_20
set_option maxHeartbeats 4000000 in
set_option maxRecDepth 100000 in
/-- acceptRepeat(sign), behind nothing -/
theorem ok_Pr_repF (l : Launch) (D : va_G) (k : Nat → ClassId) (sz : Nat) (pr sa ra fc : Nat) (sq rq : Nat → Nat) (dp : Nat) (F : PT) (S Rw : Nat → PT) (h f g : Nat) (FO SP : Nat → Nat) (en n : Nat) (Yr : va_W) (sg : Nat) : Met l y_Pr_acceptRepeat (.code y_Pr_acceptRepeat c_Pr_acceptRepeat 3 (some .boolean) :: wsU) ({ frames := 2, cells := 0, slots := 0, locals := 45 } : Room) (kPre D k [.ref pr, .int (nI sg), .ref h] (prW k pr sa ra fc sq rq false dp F S Rw ((h, .inr (0, [.ref f, .ref g, .int (nI en), .int (nI n)])) :: (f, .inl (k 0, 9, .inl (aN FO))) :: (g, .inl (k 0, 4, .inl (aN SP))) :: Yr)) sz) (va_Qi (fun (r : Int32) (_ : Unit) => r = nI 0) (kB D k (fun _ : Unit => (prW k pr sa ra fc sq rq false dp F S Rw ((h, .inr (0, [.ref f, .ref g, .int (nI en), .int (nI n)])) :: (f, .inl (k 0, 9, .inl (aN FO))) :: (g, .inl (k 0, 4, .inl (aN SP))) :: Yr))) (va_A (prW k pr sa ra fc sq rq false dp F S Rw ((h, .inr (0, [.ref f, .ref g, .int (nI en), .int (nI n)])) :: (f, .inl (k 0, 9, .inl (aN FO))) :: (g, .inl (k 0, 4, .inl (aN SP))) :: Yr)) sz)) (va_A (prW k pr sa ra fc sq rq false dp F S Rw ((h, .inr (0, [.ref f, .ref g, .int (nI en), .int (nI n)])) :: (f, .inl (k 0, 9, .inl (aN FO))) :: (g, .inl (k 0, 4, .inl (aN SP))) :: Yr)) sz)) 0 0 (va_A (prW k pr sa ra fc sq rq false dp F S Rw ((h, .inr (0, [.ref f, .ref g, .int (nI en), .int (nI n)])) :: (f, .inl (k 0, 9, .inl (aN FO))) :: (g, .inl (k 0, 4, .inl (aN SP))) :: Yr)) sz) := by
  refine kMet (by decide) (Nat.le_of_ble_eq_true rfl) ?_
  intro p e s m below meth c ls hX hml hr hlocks hin hsz hW hl Q hQ
  generalize hAe : va_A (prW k pr sa ra fc sq rq false dp F S Rw ((h, .inr (0, [.ref f, .ref g, .int (nI en), .int (nI n)])) :: (f, .inl (k 0, 9, .inl (aN FO))) :: (g, .inl (k 0, 4, .inl (aN SP))) :: Yr)) sz = A at hW hQ
  generalize hH0 : s.heap = H at hW ⊢
  generalize hl0 : ([] : List Loc) = locs at hW ⊢
  have hX : FX p s m c [.ref pr, .int (nI sg), .ref h].toArray c_Pr_acceptRepeat R_Pr := hX
  have hl : lv_has ls 3 [(0, .ref pr), (1, .int (nI sg)), (2, .ref h)] := hl
  refine lv_aload_n hX.1 hX.2.1 d_Pr_acceptRepeat_0 rfl (lv_at hl 0 rfl) ?_
  refine kget hX hW i_Pr 0 rfl rfl 3 (by decide) f_Pr_25 rfl rfl d_Pr_acceptRepeat_1 ?_
  refine kz hX (tgt := 16) (by decide) d_Pr_acceptRepeat_4 (by decide) (fun h1 => ?_) (fun h1 => ?_)
  · refine lv_aload_n hX.1 hX.2.1 d_Pr_acceptRepeat_16 rfl (lv_at hl 0 rfl) ?_
    refine kget hX hW i_Pr 0 rfl rfl 3 (by decide) f_Pr_25 rfl rfl d_Pr_acceptRepeat_17 ?_
    exact kzret hX hr hlocks hQ () (hW) (rfl) (Or.inl rfl) d_Pr_acceptRepeat_20
  · exact absurd rfl h1
end
section
/-! THE PARSER: one byte, the whole text -/
abbrev PZ : Type := Bool × Nat × PT × (Nat → PT) × (Nat → PT) × (Nat → Nat) × (Nat → Nat) × Nat
/-- the waiting factor joins its row -/
def jn : PZ → PZ
  | (fw, dp, F, S, Rw, FO, SP, n) => (false, dp, F, S, if fw then va_up Rw dp (beh (Rw dp) F) else Rw, if fw then lnk FO (Rw dp).2.1 F.1 9 else FO, SP, n)
def acc2 (sg : Nat) (bf : Bool) : PZ → Bool × PZ
  | (fw, dp, F, S, Rw, FO, SP, n) =>
    if sg = 40 then (if dp < 8 then (true, (fw, dp + 1, F, va_up S (dp + 1) (0, 0, false), va_up Rw (dp + 1) (0, 0, true), FO, SP, n)) else (false, (fw, dp, F, S, Rw, FO, SP, n)))
    else if sg = 41 then (if bf = true ∧ 0 < dp then (true, (true, dp - 1, alt (S dp) (Rw dp), va_up S dp (alt (S dp) (Rw dp)), va_up Rw dp (0, 0, true), FO, SP, n)) else (false, (fw, dp, F, S, Rw, FO, SP, n)))
    else if sg = 48 ∨ sg = 49 then (true, (true, dp, (0, 0, decide (sg = 49)), S, Rw, FO, SP, n))
    else if 97 ≤ sg ∧ sg ≤ 100 then (if n < 8 then (true, (true, dp, (2 ^ n, 2 ^ n, false), S, Rw, FO, va_up SP (sg - 97) (SP (sg - 97) ||| 2 ^ n), n + 1)) else (false, (fw, dp, F, S, Rw, FO, SP, n)))
    else if sg = 124 then (bf, (fw, dp, F, va_up S dp (alt (S dp) (Rw dp)), va_up Rw dp (0, 0, true), FO, SP, n))
    else (false, (fw, dp, F, S, Rw, FO, SP, n))
/-- one byte: whether it may stand there, and what the parser holds then -/
def acc (sg : Nat) : PZ → Bool × PZ
  | (fw, dp, F, S, Rw, FO, SP, n) =>
    if sg = 42 ∨ sg = 43 ∨ sg = 63 then (fw, if fw then (true, dp, (F.1, F.2.1, F.2.2 || decide (sg ≠ 43)), S, Rw, if sg = 63 then FO else lnk FO F.2.1 F.1 9, SP, n) else (false, dp, F, S, Rw, FO, SP, n))
    else acc2 sg fw (jn (fw, dp, F, S, Rw, FO, SP, n))
def pzW (k : Nat → ClassId) (pr sa ra fc : Nat) (sq rq : Nat → Nat) (h f g en : Nat) (z : PZ) (Y : va_W) : va_W := prW k pr sa ra fc sq rq z.1 z.2.1 z.2.2.1 z.2.2.2.1 z.2.2.2.2.1 ((h, .inr (0, [.ref f, .ref g, .int (nI en), .int (nI z.2.2.2.2.2.2.2)])) :: (f, .inl (k 0, 9, .inl (aN z.2.2.2.2.2.1))) :: (g, .inl (k 0, 4, .inl (aN z.2.2.2.2.2.2.1))) :: Y)
theorem sw_acc {sg : Nat} (h : sg < 256) : Op.lookupswitch.offset (#[(40, 113), (41, 118), (48, 94), (49, 94), (97, 84), (98, 84), (99, 84), (100, 84), (124, 135)] : Array (Int × Int)).toList 141 (nI sg).toInt = (if sg = 40 then 113 else if sg = 41 then 118 else if sg = 48 ∨ sg = 49 then 94 else if 97 ≤ sg ∧ sg ≤ 100 then 84 else if sg = 124 then 135 else 141) := by
  have : ∀ x : Fin 256, Op.lookupswitch.offset (#[(40, 113), (41, 118), (48, 94), (49, 94), (97, 84), (98, 84), (99, 84), (100, 84), (124, 135)] : Array (Int × Int)).toList 141 (nI x.val).toInt = (if x.val = 40 then 113 else if x.val = 41 then 118 else if x.val = 48 ∨ x.val = 49 then 94 else if 97 ≤ x.val ∧ x.val ≤ 100 then 84 else if x.val = 124 then 135 else 141) := by decide +kernel
  exact this ⟨sg, h⟩
set_option maxHeartbeats 4000000 in
set_option maxRecDepth 100000 in
/-- accept(sign) -/
theorem ok_Pr_accept (l : Launch) (D : va_G) (k : Nat → ClassId) (sz : Nat) (pr sa ra fc : Nat) (sq rq : Nat → Nat) (fw : Bool) (dp : Nat) (F : PT) (S Rw : Nat → PT) (h f g : Nat) (FO SP : Nat → Nat) (en n : Nat) (Yr : va_W) (sg : Nat) (hsg : sg < 256) (hdp : dp ≤ 8) (hn : n ≤ 8) (hla : (Rw dp).2.1 < 512) (hF : F.2.1 < 512) : Met l y_Pr_accept (.code y_Pr_accept c_Pr_accept 4 (some .boolean) :: wsU) ({ frames := 4, cells := 0, slots := 0, locals := 85 } : Room) (kPre D k [.ref pr, .int (nI sg), .ref h] (prW k pr sa ra fc sq rq fw dp F S Rw ((h, .inr (0, [.ref f, .ref g, .int (nI en), .int (nI n)])) :: (f, .inl (k 0, 9, .inl (aN FO))) :: (g, .inl (k 0, 4, .inl (aN SP))) :: Yr)) sz) (va_Qi (fun (r : Int32) (_ : Unit) => r = nI (acc sg (fw, dp, F, S, Rw, FO, SP, n)).1.toNat) (kB D k (fun _ : Unit => pzW k pr sa ra fc sq rq h f g en (acc sg (fw, dp, F, S, Rw, FO, SP, n)).2 Yr) (va_A (prW k pr sa ra fc sq rq fw dp F S Rw ((h, .inr (0, [.ref f, .ref g, .int (nI en), .int (nI n)])) :: (f, .inl (k 0, 9, .inl (aN FO))) :: (g, .inl (k 0, 4, .inl (aN SP))) :: Yr)) sz)) (va_A (prW k pr sa ra fc sq rq fw dp F S Rw ((h, .inr (0, [.ref f, .ref g, .int (nI en), .int (nI n)])) :: (f, .inl (k 0, 9, .inl (aN FO))) :: (g, .inl (k 0, 4, .inl (aN SP))) :: Yr)) sz)) 0 0 (va_A (prW k pr sa ra fc sq rq fw dp F S Rw ((h, .inr (0, [.ref f, .ref g, .int (nI en), .int (nI n)])) :: (f, .inl (k 0, 9, .inl (aN FO))) :: (g, .inl (k 0, 4, .inl (aN SP))) :: Yr)) sz) := by
  refine kMet (by decide) (Nat.le_of_ble_eq_true rfl) ?_
  intro p e s m below meth c ls hX hml hr hlocks hin hsz hW hl Q hQ
  generalize hAe : va_A (prW k pr sa ra fc sq rq fw dp F S Rw ((h, .inr (0, [.ref f, .ref g, .int (nI en), .int (nI n)])) :: (f, .inl (k 0, 9, .inl (aN FO))) :: (g, .inl (k 0, 4, .inl (aN SP))) :: Yr)) sz = A at hW hQ
  generalize hH0 : s.heap = H at hW ⊢
  generalize hl0 : ([] : List Loc) = locs at hW ⊢
  have hX : FX p s m c [.ref pr, .int (nI sg), .ref h].toArray c_Pr_accept R_Pr := hX
  have hl : lv_has ls 4 [(0, .ref pr), (1, .int (nI sg)), (2, .ref h)] := hl
  obtain ⟨o, ho⟩ : ∃ o, acc sg (fw, dp, F, S, Rw, FO, SP, n) = o := ⟨_, rfl⟩
  rw [ho] at hQ
  have k18 : (sg = 42 ∨ sg = 43 ∨ sg = 63) → W p l e ({ frames := 4, cells := 0, slots := 0, locals := 85 } : Room) s m [.ref pr, .int (nI sg), .ref h].toArray below meth c H locs 0 0 Q (F0 m 18 ls []) := by
    intro hs
    refine lv_aload_n hX.1 hX.2.1 d_Pr_accept_18 rfl (lv_at hl 0 rfl) ?_
    refine lv_iload_n hX.1 hX.2.1 d_Pr_accept_19 rfl (lv_at hl 1 rfl) ?_
    refine lv_aload_n hX.1 hX.2.1 d_Pr_accept_20 rfl (lv_at hl 2 rfl) ?_
    cases fw with
    | false =>
      refine kWi hW (kRunW (n := 2) (As := [.int (nI sg), .ref h]) (rest := []) hX hml hW (ok_Pr_repF l D k H.size pr sa ra fc sq rq dp F S Rw h f g FO SP en n Yr sg) m_Pr_56 im_Pr_acceptRepeat se_Pr_acceptRepeat in_Pr cd_Pr_acceptRepeat 0 rfl rfl (by decide +kernel) ⟨rfl, rfl, by decide, by decide⟩ rfl hl.1 rfl (by decide) d_Pr_accept_21 ⟨by decide, by decide⟩) (fun r u H locs hr1 hW => ?_)
      subst hr1
      have ho2 : o = (false, (false, dp, F, S, Rw, FO, SP, n)) := by rw [← ho, acc, if_pos hs]; rfl
      subst ho2
      exact kzret hX hr hlocks hQ () (hW) (rfl) (Or.inl rfl) d_Pr_accept_24
    | true =>
      refine kWi hW (kRunW (n := 2) (As := [.int (nI sg), .ref h]) (rest := []) hX hml hW (ok_Pr_repT l D k H.size pr sa ra fc sq rq dp F S Rw h f g FO SP en n Yr sg hsg hF) m_Pr_56 im_Pr_acceptRepeat se_Pr_acceptRepeat in_Pr cd_Pr_acceptRepeat 0 rfl rfl (by decide +kernel) ⟨rfl, rfl, by decide, by decide⟩ rfl hl.1 rfl (by decide) d_Pr_accept_21 ⟨by decide, by decide⟩) (fun r u H locs hr1 hW => ?_)
      subst hr1
      have ho2 : o = (true, (true, dp, (F.1, F.2.1, F.2.2 || decide (sg ≠ 43)), S, Rw, if sg = 63 then FO else lnk FO F.2.1 F.1 9, SP, n)) := by rw [← ho, acc, if_pos hs]; rfl
      subst ho2
      exact kzret hX hr hlocks hQ () (hW) (rfl) (Or.inr rfl) d_Pr_accept_24
  have k25 : ¬ (sg = 42 ∨ sg = 43 ∨ sg = 63) → W p l e ({ frames := 4, cells := 0, slots := 0, locals := 85 } : Room) s m [.ref pr, .int (nI sg), .ref h].toArray below meth c H locs 0 0 Q (F0 m 25 ls []) := by
    intro hs
    rw [acc, if_neg hs, jn] at ho
    refine lv_aload_n hX.1 hX.2.1 d_Pr_accept_25 rfl (lv_at hl 0 rfl) ?_
    refine lv_aload_n hX.1 hX.2.1 d_Pr_accept_26 rfl (lv_at hl 2 rfl) ?_
    refine kWi hW (kRunW (n := 1) (As := [.ref h]) (rest := []) hX hml hW (ok_Pr_joinFactor l D k H.size pr sa ra fc sq rq fw dp F S Rw h f g FO SP en n Yr hdp hla) m_Pr_45 im_Pr_joinFactor se_Pr_joinFactor in_Pr cd_Pr_joinFactor 0 rfl rfl (by decide +kernel) ⟨rfl, rfl, by decide, by decide⟩ rfl hl.1 rfl (by decide) d_Pr_accept_27 ⟨by decide, by decide⟩) (fun r u H locs hr1 hW => ?_)
    subst hr1
    have hW : KW D k A s (prW k pr sa ra fc sq rq false dp F S (if fw then va_up Rw dp (beh (Rw dp) F) else Rw) ((h, .inr (0, [.ref f, .ref g, .int (nI en), .int (nI n)])) :: (f, .inl (k 0, 9, .inl (aN (if fw then lnk FO (Rw dp).2.1 F.1 9 else FO)))) :: (g, .inl (k 0, 4, .inl (aN SP))) :: Yr)) H locs := hW
    generalize hRe : (if fw then va_up Rw dp (beh (Rw dp) F) else Rw) = R1 at hW ho
    generalize hFe : (if fw then lnk FO (Rw dp).2.1 F.1 9 else FO) = F1 at hW ho
    refine lv_istore_n (lv' := [(3, .int (nI fw.toNat)), (0, .ref pr), (1, .int (nI sg)), (2, .ref h)]) hX.1 hX.2.1 d_Pr_accept_30 rfl hl (by decide) rfl (fun ls hl => ?_)
    refine lv_iload_n hX.1 hX.2.1 d_Pr_accept_31 rfl (lv_at hl 2 rfl) ?_
    by_cases c40 : sg = 40
    · refine lv_lookup (off := 113) (tgt := 145) hX.1 hX.2.1 d_Pr_accept_32 (by decide) (by rw [sw_acc hsg]; rw [if_pos c40]) (by decide) ?_
      refine lv_aload_n hX.1 hX.2.1 d_Pr_accept_145 rfl (lv_at hl 1 rfl) ?_
      rw [acc2, if_pos c40] at ho
      by_cases cd : dp < 8
      · rw [if_pos cd] at ho
        refine kWi hW (kRunW (n := 0) (As := []) (rest := []) hX hml hW (ok_Pr_openT l D k H.size pr sa ra fc sq rq false dp F S R1 ((h, .inr (0, [.ref f, .ref g, .int (nI en), .int (nI n)])) :: (f, .inl (k 0, 9, .inl (aN F1))) :: (g, .inl (k 0, 4, .inl (aN SP))) :: Yr) cd) m_Pr_66 im_Pr_acceptOpening se_Pr_acceptOpening in_Pr cd_Pr_acceptOpening 0 rfl rfl (by decide +kernel) ⟨rfl, rfl, by decide, by decide⟩ rfl hl.1 rfl (by decide) d_Pr_accept_146 ⟨by decide, by decide⟩) (fun r u H locs hr1 hW => ?_)
        subst hr1
        subst ho
        exact kzret hX hr hlocks hQ () (hW) (rfl) (Or.inr rfl) d_Pr_accept_149
      · rw [if_neg cd] at ho
        refine kWi hW (kRunW (n := 0) (As := []) (rest := []) hX hml hW (ok_Pr_openF l D k H.size pr sa ra fc sq rq false dp F S R1 ((h, .inr (0, [.ref f, .ref g, .int (nI en), .int (nI n)])) :: (f, .inl (k 0, 9, .inl (aN F1))) :: (g, .inl (k 0, 4, .inl (aN SP))) :: Yr) (by omega) hdp) m_Pr_66 im_Pr_acceptOpening se_Pr_acceptOpening in_Pr cd_Pr_acceptOpening 0 rfl rfl (by decide +kernel) ⟨rfl, rfl, by decide, by decide⟩ rfl hl.1 rfl (by decide) d_Pr_accept_146 ⟨by decide, by decide⟩) (fun r u H locs hr1 hW => ?_)
        subst hr1
        subst ho
        exact kzret hX hr hlocks hQ () (hW) (rfl) (Or.inl rfl) d_Pr_accept_149
    · by_cases c41 : sg = 41
      · refine lv_lookup (off := 118) (tgt := 150) hX.1 hX.2.1 d_Pr_accept_32 (by decide) (by rw [sw_acc hsg]; rw [if_neg c40, if_pos c41]) (by decide) ?_
        refine lv_iload_n hX.1 hX.2.1 d_Pr_accept_150 rfl (lv_at hl 0 rfl) ?_
        rw [acc2, if_neg c40, if_pos c41] at ho
        refine kz hX (tgt := 165) (bT _) d_Pr_accept_151 (by decide) (fun h1 => ?_) (fun h1 => ?_)
        · rw [if_neg (by rw [bT_0 h1]; simp)] at ho
          refine lv_iconst (v := nI 0) hX.1 hX.2.1 d_Pr_accept_165 (by decide) ?_
          subst ho
          exact kzret hX hr hlocks hQ () (hW) (rfl) (Or.inl rfl) d_Pr_accept_166
        · refine lv_aload_n hX.1 hX.2.1 d_Pr_accept_154 rfl (lv_at hl 1 rfl) ?_
          cases dp with
          | zero =>
            rw [if_neg (by simp)] at ho
            refine kWi hW (kRunW (n := 0) (As := []) (rest := []) hX hml hW (ok_Pr_closeF l D k H.size pr sa ra fc sq rq false F S R1 ((h, .inr (0, [.ref f, .ref g, .int (nI en), .int (nI n)])) :: (f, .inl (k 0, 9, .inl (aN F1))) :: (g, .inl (k 0, 4, .inl (aN SP))) :: Yr)) m_Pr_70 im_Pr_acceptClosing se_Pr_acceptClosing in_Pr cd_Pr_acceptClosing 0 rfl rfl (by decide +kernel) ⟨rfl, rfl, by decide, by decide⟩ rfl hl.1 rfl (by decide) d_Pr_accept_155 ⟨by decide, by decide⟩) (fun r u H locs hr1 hW => ?_)
            subst hr1
            refine kz hX (tgt := 165) (by decide) d_Pr_accept_158 (by decide) (fun h2 => ?_) (fun h2 => ?_)
            · refine lv_iconst (v := nI 0) hX.1 hX.2.1 d_Pr_accept_165 (by decide) ?_
              subst ho
              exact kzret hX hr hlocks hQ () (hW) (rfl) (Or.inl rfl) d_Pr_accept_166
            · exact absurd rfl h2
          | succ d =>
            rw [if_pos ⟨bT_1 h1, by omega⟩] at ho
            refine kWi hW (kRunW (n := 0) (As := []) (rest := []) hX hml hW (ok_Pr_closeT l D k H.size pr sa ra fc sq rq false d F S R1 ((h, .inr (0, [.ref f, .ref g, .int (nI en), .int (nI n)])) :: (f, .inl (k 0, 9, .inl (aN F1))) :: (g, .inl (k 0, 4, .inl (aN SP))) :: Yr) (by omega)) m_Pr_70 im_Pr_acceptClosing se_Pr_acceptClosing in_Pr cd_Pr_acceptClosing 0 rfl rfl (by decide +kernel) ⟨rfl, rfl, by decide, by decide⟩ rfl hl.1 rfl (by decide) d_Pr_accept_155 ⟨by decide, by decide⟩) (fun r u H locs hr1 hW => ?_)
            subst hr1
            refine kz hX (tgt := 165) (by decide) d_Pr_accept_158 (by decide) (fun h2 => ?_) (fun h2 => ?_)
            · exact absurd h2 (by decide)
            · refine lv_iconst (v := nI 1) hX.1 hX.2.1 d_Pr_accept_161 (by decide) ?_
              refine lv_goto (tgt := 166) hX.1 hX.2.1 d_Pr_accept_162 (by decide) ?_
              subst ho
              exact kzret hX hr hlocks hQ () (hW) (rfl) (Or.inr rfl) d_Pr_accept_166
      · by_cases c48 : sg = 48 ∨ sg = 49
        · refine lv_lookup (off := 94) (tgt := 126) hX.1 hX.2.1 d_Pr_accept_32 (by decide) (by rw [sw_acc hsg]; rw [if_neg c40, if_neg c41, if_pos c48]) (by decide) ?_
          rw [acc2, if_neg c40, if_neg c41, if_pos c48] at ho
          refine lv_aload_n hX.1 hX.2.1 d_Pr_accept_126 rfl (lv_at hl 1 rfl) ?_
          refine lv_iconst (v := nI 0) hX.1 hX.2.1 d_Pr_accept_127 (by decide) ?_
          refine lv_iconst (v := nI 0) hX.1 hX.2.1 d_Pr_accept_128 (by decide) ?_
          refine lv_iload_n hX.1 hX.2.1 d_Pr_accept_129 rfl (lv_at hl 2 rfl) ?_
          refine lv_bipush (v := nI 49) hX.1 hX.2.1 d_Pr_accept_130 (by decide) ?_
          have k140 : ∀ (v : Nat), v = (decide (sg = 49)).toNat → W p l e ({ frames := 4, cells := 0, slots := 0, locals := 85 } : Room) s m [.ref pr, .int (nI sg), .ref h].toArray below meth c H locs 0 0 Q (F0 m 140 ls [.int (nI v), .int (nI 0), .int (nI 0), .ref pr]) := by
            intro v hv
            subst hv
            refine kWv hW (kRunW (n := 3) (As := [.int (nI 0), .int (nI 0), .int (nI ((decide (sg = 49)).toNat))]) (rest := []) hX hml hW (ok_Pr_setFactor l D k H.size pr sa ra fc sq rq false dp F S R1 ((h, .inr (0, [.ref f, .ref g, .int (nI en), .int (nI n)])) :: (f, .inl (k 0, 9, .inl (aN F1))) :: (g, .inl (k 0, 4, .inl (aN SP))) :: Yr) 0 0 (decide (sg = 49))) m_Pr_62 im_Pr_setFactor se_Pr_setFactor in_Pr cd_Pr_setFactor 0 rfl rfl (by decide +kernel) ⟨rfl, rfl, by decide, by decide⟩ rfl hl.1 rfl (by decide) d_Pr_accept_140 ⟨by decide, by decide⟩) (fun u H locs _ hW => ?_)
            have hW : KW D k A s (prW k pr sa ra fc sq rq true dp (0, 0, decide (sg = 49)) S R1 ((h, .inr (0, [.ref f, .ref g, .int (nI en), .int (nI n)])) :: (f, .inl (k 0, 9, .inl (aN F1))) :: (g, .inl (k 0, 4, .inl (aN SP))) :: Yr)) H locs := hW
            refine lv_iconst (v := nI 1) hX.1 hX.2.1 d_Pr_accept_143 (by decide) ?_
            subst ho
            exact kzret hX hr hlocks hQ () (hW) (rfl) (Or.inr rfl) d_Pr_accept_144
          refine kne hX (tgt := 139) (by omega) (by omega) d_Pr_accept_132 (by decide) (fun h1 => ?_) (fun h1 => ?_)
          · refine lv_iconst (v := nI 0) hX.1 hX.2.1 d_Pr_accept_139 (by decide) ?_
            exact k140 _ (by simp [h1])
          · refine lv_iconst (v := nI 1) hX.1 hX.2.1 d_Pr_accept_135 (by decide) ?_
            refine lv_goto (tgt := 140) hX.1 hX.2.1 d_Pr_accept_136 (by decide) ?_
            exact k140 _ (by simp [h1])
        · by_cases c97 : 97 ≤ sg ∧ sg ≤ 100
          · refine lv_lookup (off := 84) (tgt := 116) hX.1 hX.2.1 d_Pr_accept_32 (by decide) (by rw [sw_acc hsg]; rw [if_neg c40, if_neg c41, if_neg c48, if_pos c97]) (by decide) ?_
            rw [acc2, if_neg c40, if_neg c41, if_neg c48, if_pos c97] at ho
            refine lv_aload_n hX.1 hX.2.1 d_Pr_accept_116 rfl (lv_at hl 1 rfl) ?_
            refine lv_iload_n hX.1 hX.2.1 d_Pr_accept_117 rfl (lv_at hl 2 rfl) ?_
            refine lv_bipush (v := nI 97) hX.1 hX.2.1 d_Pr_accept_118 (by decide) ?_
            refine lv_isub hX.1 hX.2.1 d_Pr_accept_120 ?_
            refine tpi (y := nI (sg - 97)) (pk_sub (by omega)) ?_
            refine lv_aload_n hX.1 hX.2.1 d_Pr_accept_121 rfl (lv_at hl 3 rfl) ?_
            by_cases cn : n < 8
            · rw [if_pos cn] at ho
              refine kWi hW (kRunW (n := 2) (As := [.int (nI (sg - 97)), .ref h]) (rest := []) hX hml hW (ok_Pr_letterT l D k H.size pr sa ra fc sq rq false dp F S R1 h f g F1 SP en n Yr (sg - 97) (by omega) cn) m_Pr_59 im_Pr_acceptLetter se_Pr_acceptLetter in_Pr cd_Pr_acceptLetter 0 rfl rfl (by decide +kernel) ⟨rfl, rfl, by decide, by decide⟩ rfl hl.1 rfl (by decide) d_Pr_accept_122 ⟨by decide, by decide⟩) (fun r u H locs hr1 hW => ?_)
              subst hr1
              subst ho
              exact kzret hX hr hlocks hQ () (hW) (rfl) (Or.inr rfl) d_Pr_accept_125
            · rw [if_neg cn] at ho
              refine kWi hW (kRunW (n := 2) (As := [.int (nI (sg - 97)), .ref h]) (rest := []) hX hml hW (ok_Pr_letterF l D k H.size pr sa ra fc sq rq false dp F S R1 h f g F1 SP en n Yr (sg - 97) (by omega) hn) m_Pr_59 im_Pr_acceptLetter se_Pr_acceptLetter in_Pr cd_Pr_acceptLetter 0 rfl rfl (by decide +kernel) ⟨rfl, rfl, by decide, by decide⟩ rfl hl.1 rfl (by decide) d_Pr_accept_122 ⟨by decide, by decide⟩) (fun r u H locs hr1 hW => ?_)
              subst hr1
              subst ho
              exact kzret hX hr hlocks hQ () (hW) (rfl) (Or.inl rfl) d_Pr_accept_125
          · by_cases c124 : sg = 124
            · refine lv_lookup (off := 135) (tgt := 167) hX.1 hX.2.1 d_Pr_accept_32 (by decide) (by rw [sw_acc hsg]; rw [if_neg c40, if_neg c41, if_neg c48, if_neg c97, if_pos c124]) (by decide) ?_
              rw [acc2, if_neg c40, if_neg c41, if_neg c48, if_neg c97, if_pos c124] at ho
              refine lv_aload_n hX.1 hX.2.1 d_Pr_accept_167 rfl (lv_at hl 1 rfl) ?_
              refine kWv hW (kRunW (n := 0) (As := []) (rest := []) hX hml hW (ok_Pr_endRow l D k H.size pr sa ra fc sq rq false dp F S R1 ((h, .inr (0, [.ref f, .ref g, .int (nI en), .int (nI n)])) :: (f, .inl (k 0, 9, .inl (aN F1))) :: (g, .inl (k 0, 4, .inl (aN SP))) :: Yr) hdp) m_Pr_49 im_Pr_endRow se_Pr_endRow in_Pr cd_Pr_endRow 0 rfl rfl (by decide +kernel) ⟨rfl, rfl, by decide, by decide⟩ rfl hl.1 rfl (by decide) d_Pr_accept_168 ⟨by decide, by decide⟩) (fun u H locs _ hW => ?_)
              have hW : KW D k A s (prW k pr sa ra fc sq rq false dp F (va_up S dp (alt (S dp) (R1 dp))) (va_up R1 dp (0, 0, true)) ((h, .inr (0, [.ref f, .ref g, .int (nI en), .int (nI n)])) :: (f, .inl (k 0, 9, .inl (aN F1))) :: (g, .inl (k 0, 4, .inl (aN SP))) :: Yr)) H locs := hW
              refine lv_iload_n hX.1 hX.2.1 d_Pr_accept_171 rfl (lv_at hl 0 rfl) ?_
              subst ho
              exact kzret hX hr hlocks hQ () (hW) (rfl) (bT_r _) d_Pr_accept_172
            · refine lv_lookup (off := 141) (tgt := 173) hX.1 hX.2.1 d_Pr_accept_32 (by decide) (by rw [sw_acc hsg]; rw [if_neg c40, if_neg c41, if_neg c48, if_neg c97, if_neg c124]) (by decide) ?_
              rw [acc2, if_neg c40, if_neg c41, if_neg c48, if_neg c97, if_neg c124] at ho
              refine lv_iconst (v := nI 0) hX.1 hX.2.1 d_Pr_accept_173 (by decide) ?_
              subst ho
              exact kzret hX hr hlocks hQ () (hW) (rfl) (Or.inl rfl) d_Pr_accept_174
  refine lv_iload_n hX.1 hX.2.1 d_Pr_accept_0 rfl (lv_at hl 1 rfl) ?_
  refine lv_bipush (v := nI 42) hX.1 hX.2.1 d_Pr_accept_1 (by decide) ?_
  refine keq hX (tgt := 18) (by omega) (by omega) d_Pr_accept_3 (by decide) (fun h1 => ?_) (fun h1 => ?_)
  · exact k18 (Or.inl h1)
  · refine lv_iload_n hX.1 hX.2.1 d_Pr_accept_6 rfl (lv_at hl 1 rfl) ?_
    refine lv_bipush (v := nI 43) hX.1 hX.2.1 d_Pr_accept_7 (by decide) ?_
    refine keq hX (tgt := 18) (by omega) (by omega) d_Pr_accept_9 (by decide) (fun h2 => ?_) (fun h2 => ?_)
    · exact k18 (Or.inr (Or.inl h2))
    · refine lv_iload_n hX.1 hX.2.1 d_Pr_accept_12 rfl (lv_at hl 1 rfl) ?_
      refine lv_bipush (v := nI 63) hX.1 hX.2.1 d_Pr_accept_13 (by decide) ?_
      refine kne hX (tgt := 25) (by omega) (by omega) d_Pr_accept_15 (by decide) (fun h3 => ?_) (fun h3 => ?_)
      · exact k25 (by omega)
      · exact k18 (Or.inr (Or.inr h3))
end
section
/-! THE PARSER: the whole text -/
theorem or256 {a b : Nat} (ha : a < 256) (hb : b < 256) : a ||| b < 256 := Nat.or_lt_two_pow (n := 8) ha hb
theorem lnk_lt {FO : Nat → Nat} {x y : Nat} (hF : ∀ p, FO p < 256) (hy : y < 256) : ∀ p q, lnk FO x y p q < 256 := by
  intro p
  induction p with
  | zero => exact hF
  | succ p ih =>
    intro q
    rw [lnk]
    split
    · by_cases h : q = p
      · subst h; rw [va_up_self]; exact or256 (ih q) hy
      · rw [va_up_ne _ _ h]; exact ih q
    · exact ih q
/-- masks of eight bits, at most eight letters and eight brackets -/
def PI : PZ → Prop
  | (_, dp, F, S, Rw, FO, _, n) => dp ≤ 8 ∧ n ≤ 8 ∧ F.1 < 256 ∧ F.2.1 < 256 ∧ (∀ i, i ≤ dp → (S i).1 < 256 ∧ (S i).2.1 < 256 ∧ (Rw i).1 < 256 ∧ (Rw i).2.1 < 256) ∧ ∀ p, FO p < 256
theorem beh_lt {a b : PT} (h1 : a.1 < 256) (h2 : a.2.1 < 256) (h3 : b.1 < 256) (h4 : b.2.1 < 256) : (beh a b).1 < 256 ∧ (beh a b).2.1 < 256 := by
  unfold beh
  refine ⟨?_, ?_⟩
  · show (if a.2.2 then a.1 ||| b.1 else a.1) < 256
    split
    · exact or256 h1 h3
    · exact h1
  · show (if b.2.2 then a.2.1 ||| b.2.1 else b.2.1) < 256
    split
    · exact or256 h2 h4
    · exact h4
theorem alt_lt {a b : PT} (h1 : a.1 < 256) (h2 : a.2.1 < 256) (h3 : b.1 < 256) (h4 : b.2.1 < 256) : (alt a b).1 < 256 ∧ (alt a b).2.1 < 256 := ⟨or256 h1 h3, or256 h2 h4⟩
theorem PI_jn {z : PZ} (h : PI z) : PI (jn z) := by
  obtain ⟨fw, dp, F, S, Rw, FO, SP, n⟩ := z
  obtain ⟨h1, h2, h3, h4, h5, h6⟩ := h
  cases fw with
  | false => exact ⟨h1, h2, h3, h4, h5, h6⟩
  | true =>
    refine ⟨h1, h2, h3, h4, fun i hi => ?_, lnk_lt h6 h3 9⟩
    obtain ⟨a, b, c, d⟩ := h5 i hi
    refine ⟨a, b, ?_⟩
    show (va_up Rw dp (beh (Rw dp) F) i).1 < 256 ∧ (va_up Rw dp (beh (Rw dp) F) i).2.1 < 256
    by_cases hd : i = dp
    · subst hd; rw [va_up_self]; exact beh_lt c d h3 h4
    · rw [va_up_ne _ _ hd]; exact ⟨c, d⟩
theorem PI_acc2 {sg : Nat} {bf : Bool} {z : PZ} (h : PI z) : PI (acc2 sg bf z).2 := by
  obtain ⟨fw, dp, F, S, Rw, FO, SP, n⟩ := z
  have h0 := h
  obtain ⟨h1, h2, h3, h4, h5, h6⟩ := h
  obtain ⟨s1, s2, s3, s4⟩ := h5 dp (Nat.le_refl _)
  have row : ∀ (x y : PT), x.1 < 256 → x.2.1 < 256 → y.1 < 256 → y.2.1 < 256 → ∀ i, i ≤ dp → (va_up S dp x i).1 < 256 ∧ (va_up S dp x i).2.1 < 256 ∧ (va_up Rw dp y i).1 < 256 ∧ (va_up Rw dp y i).2.1 < 256 := by
    intro x y a b c d i hi
    by_cases hd : i = dp
    · subst hd; rw [va_up_self, va_up_self]; exact ⟨a, b, c, d⟩
    · rw [va_up_ne _ _ hd, va_up_ne _ _ hd]; exact h5 i hi
  have ha := alt_lt s1 s2 s3 s4
  rw [acc2]
  by_cases c1 : sg = 40
  · rw [if_pos c1]
    split
    · rename_i hd
      refine ⟨hd, h2, h3, h4, fun i hi => ?_, h6⟩
      show (va_up S (dp + 1) (0, 0, false) i).1 < 256 ∧ (va_up S (dp + 1) (0, 0, false) i).2.1 < 256 ∧ (va_up Rw (dp + 1) (0, 0, true) i).1 < 256 ∧ (va_up Rw (dp + 1) (0, 0, true) i).2.1 < 256
      by_cases hd : i = dp + 1
      · subst hd; rw [va_up_self, va_up_self]; exact ⟨by decide, by decide, by decide, by decide⟩
      · rw [va_up_ne _ _ hd, va_up_ne _ _ hd]; exact h5 i (by have : i ≤ dp + 1 := hi; omega)
    · exact h0
  · rw [if_neg c1]
    by_cases c2 : sg = 41
    · rw [if_pos c2]
      split
      · refine ⟨by show dp - 1 ≤ 8; omega, h2, ha.1, ha.2, fun i hi => ?_, h6⟩
        exact row _ _ ha.1 ha.2 (by decide) (by decide) i (by have : i ≤ dp - 1 := hi; omega)
      · exact h0
    · rw [if_neg c2]
      split
      · exact ⟨h1, h2, by show (0 : Nat) < 256; decide, by show (0 : Nat) < 256; decide, h5, h6⟩
      · split
        · split
          · rename_i hn
            have : 2 ^ n < 256 := by
              have := Nat.pow_lt_pow_right (a := 2) (by decide) hn
              omega
            exact ⟨h1, hn, this, this, h5, h6⟩
          · exact h0
        · split
          · exact ⟨h1, h2, h3, h4, row _ _ ha.1 ha.2 (by decide) (by decide), h6⟩
          · exact h0
theorem PI_acc {sg : Nat} {z : PZ} (h : PI z) : PI (acc sg z).2 := by
  obtain ⟨fw, dp, F, S, Rw, FO, SP, n⟩ := z
  rw [acc]
  split
  · cases fw with
    | false => exact h
    | true =>
      obtain ⟨h1, h2, h3, h4, h5, h6⟩ := h
      refine ⟨h1, h2, h3, h4, h5, fun p => ?_⟩
      show (if sg = 63 then FO else lnk FO F.2.1 F.1 9) p < 256
      split
      · exact h6 p
      · exact lnk_lt h6 h3 9 p
  · exact PI_acc2 (PI_jn h)
/-- the right end of a text: the last row ends, the whole is set -/
def pen : PZ → Nat × PZ
  | (fw, dp, F, S, Rw, FO, SP, n) => (if (alt (S 0) (Rw 0)).2.2 then (alt (S 0) (Rw 0)).2.1 ||| 256 else (alt (S 0) (Rw 0)).2.1, (fw, dp, F, va_up S 0 (alt (S 0) (Rw 0)), va_up Rw 0 (0, 0, true), va_up FO 8 (alt (S 0) (Rw 0)).1, SP, n))
/-- r bytes are left, from byte i on: 0 and the expression, or one more than the place where it is wrong -/
def prs (B : Nat → Nat) (len : Nat) : Nat → Nat → PZ → Nat × Nat × PZ
  | 0, _, z => if z.1 = true ∧ z.2.1 = 0 then (0, pen (jn z)) else (len + 1, 0, jn z)
  | r + 1, i, z => if (acc (B i) z).1 then prs B len r (i + 1) (acc (B i) z).2 else (i + 1, 0, (acc (B i) z).2)
def pz0 (F : PT) (S Rw : Nat → PT) : PZ := (false, 0, F, va_up S 0 (0, 0, false), va_up Rw 0 (0, 0, true), fun _ => 0, fun _ => 0, 0)
theorem PI_0 {F : PT} {S Rw : Nat → PT} (h1 : F.1 < 256) (h2 : F.2.1 < 256) : PI (pz0 F S Rw) := by
  refine ⟨by decide, by decide, h1, h2, fun i hi => ?_, fun _ => by show (0 : Nat) < 256; decide⟩
  have h0 : i = 0 := by have : i ≤ 0 := hi; omega
  subst h0
  rw [va_up_self, va_up_self]
  exact ⟨by decide, by decide, by decide, by decide⟩
set_option maxHeartbeats 4000000 in
set_option maxRecDepth 100000 in
/-- parse(text, length, target) -/
theorem ok_Pr_parse (l : Launch) (D : va_G) (k : Nat → ClassId) (sz : Nat) (pr sa ra fc : Nat) (sq rq : Nat → Nat) (fw : Bool) (dp : Nat) (F : PT) (S Rw : Nat → PT) (h f g : Nat) (FO SP : Nat → Nat) (en n : Nat) (tb : Nat) (B : Nat → Nat) (len : Nat) (hlen : len ≤ 80) (hB : ∀ i, i < 80 → B i < 256) (hF1 : F.1 < 256) (hF2 : F.2.1 < 256) : Met l y_Pr_parse (.code y_Pr_parse c_Pr_parse 5 (some .int) :: wsU) ({ frames := 5, cells := 0, slots := 0, locals := 108 } : Room) (kPre D k [.ref pr, .ref tb, .int (nI len), .ref h] (prW k pr sa ra fc sq rq fw dp F S Rw ((h, .inr (0, [.ref f, .ref g, .int (nI en), .int (nI n)])) :: (f, .inl (k 0, 9, .inl (aN FO))) :: (g, .inl (k 0, 4, .inl (aN SP))) :: [(tb, .inl (k 0, 80, .inl (aN B)))])) sz) (va_Qi (fun (r : Int32) (_ : Unit) => r = nM (prs B len len 0 (pz0 F S Rw)).1) (kB D k (fun _ : Unit => pzW k pr sa ra fc sq rq h f g (prs B len len 0 (pz0 F S Rw)).2.1 (prs B len len 0 (pz0 F S Rw)).2.2 [(tb, .inl (k 0, 80, .inl (aN B)))]) (va_A (prW k pr sa ra fc sq rq fw dp F S Rw ((h, .inr (0, [.ref f, .ref g, .int (nI en), .int (nI n)])) :: (f, .inl (k 0, 9, .inl (aN FO))) :: (g, .inl (k 0, 4, .inl (aN SP))) :: [(tb, .inl (k 0, 80, .inl (aN B)))])) sz)) (va_A (prW k pr sa ra fc sq rq fw dp F S Rw ((h, .inr (0, [.ref f, .ref g, .int (nI en), .int (nI n)])) :: (f, .inl (k 0, 9, .inl (aN FO))) :: (g, .inl (k 0, 4, .inl (aN SP))) :: [(tb, .inl (k 0, 80, .inl (aN B)))])) sz)) 0 0 (va_A (prW k pr sa ra fc sq rq fw dp F S Rw ((h, .inr (0, [.ref f, .ref g, .int (nI en), .int (nI n)])) :: (f, .inl (k 0, 9, .inl (aN FO))) :: (g, .inl (k 0, 4, .inl (aN SP))) :: [(tb, .inl (k 0, 80, .inl (aN B)))])) sz) := by
  refine kMet (by decide) (Nat.le_of_ble_eq_true rfl) ?_
  intro p e s m below meth c ls hX hml hr hlocks hin hsz hW hl Q hQ
  generalize hAe : va_A (prW k pr sa ra fc sq rq fw dp F S Rw ((h, .inr (0, [.ref f, .ref g, .int (nI en), .int (nI n)])) :: (f, .inl (k 0, 9, .inl (aN FO))) :: (g, .inl (k 0, 4, .inl (aN SP))) :: [(tb, .inl (k 0, 80, .inl (aN B)))])) sz = A at hW hQ
  generalize hH0 : s.heap = H at hW ⊢
  generalize hl0 : ([] : List Loc) = locs at hW ⊢
  have hX : FX p s m c [.ref pr, .ref tb, .int (nI len), .ref h].toArray c_Pr_parse R_Pr := hX
  have hl : lv_has ls 5 [(0, .ref pr), (1, .ref tb), (2, .int (nI len)), (3, .ref h)] := hl
  obtain ⟨o, ho⟩ : ∃ o, prs B len len 0 (pz0 F S Rw) = o := ⟨_, rfl⟩
  rw [ho] at hQ
  refine lv_aload_n hX.1 hX.2.1 d_Pr_parse_0 rfl (lv_at hl 3 rfl) ?_
  refine kCv (wc := [(h, .inr (0, [.ref f, .ref g, .int (nI en), .int (nI n)])), (f, .inl (k 0, 9, .inl (aN FO))), (g, .inl (k 0, 4, .inl (aN SP)))]) hW [22 + 0, 22 + 1, 22 + 2] (by simp only [List.map_cons, List.map_nil]; rw [prW_y 0, prW_y 1, prW_y 2]; rfl) (by intro _; rfl) (kRunV (n := 0) (As := []) (rest := []) hX hml hW (ok_Ex_clear l D k H.size h f g FO SP en n) m_Pr_33 im_Ex_clear se_Ex_clear in_Ex cd_Ex_clear [22 + 0, 22 + 1, 22 + 2] (by rfl) (by simp only [List.map_cons, List.map_nil]; rw [prW_y 0, prW_y 1, prW_y 2]; rfl) rfl rfl (by decide +kernel) ⟨rfl, rfl, by decide, by decide⟩ rfl hl.1 rfl (by decide) d_Pr_parse_1 ⟨by decide, by decide⟩) (fun u H locs _ hW => ?_)
  simp only [setAll] at hW
  rw [prW_setY 0, prW_setY 1, prW_setY 2] at hW
  have hW : KW D k A s (prW k pr sa ra fc sq rq fw dp F S Rw ((h, .inr (0, [.ref f, .ref g, .int (nI 0), .int (nI 0)])) :: (f, .inl (k 0, 9, .inl (aN (fun _ => 0)))) :: (g, .inl (k 0, 4, .inl (aN (fun _ => 0)))) :: [(tb, .inl (k 0, 80, .inl (aN B)))])) H locs := hW
  refine lv_aload_n hX.1 hX.2.1 d_Pr_parse_4 rfl (lv_at hl 0 rfl) ?_
  refine lv_iconst (v := nI 0) hX.1 hX.2.1 d_Pr_parse_5 (by decide) ?_
  refine kput hX hW i_Pr t_Pr t_Pr_ok n_Pr 0 rfl rfl 4 (by decide) f_Pr_29 rfl rfl (rfl) (rfl) (Nat.le_of_ble_eq_true rfl) d_Pr_parse_6 (fun H locs hW => ?_)
  have hW : KW D k A s (prW k pr sa ra fc sq rq fw 0 F S Rw ((h, .inr (0, [.ref f, .ref g, .int (nI 0), .int (nI 0)])) :: (f, .inl (k 0, 9, .inl (aN (fun _ => 0)))) :: (g, .inl (k 0, 4, .inl (aN (fun _ => 0)))) :: [(tb, .inl (k 0, 80, .inl (aN B)))])) H locs := hW
  refine lv_aload_n hX.1 hX.2.1 d_Pr_parse_9 rfl (lv_at hl 0 rfl) ?_
  refine lv_iconst (v := nI 0) hX.1 hX.2.1 d_Pr_parse_10 (by decide) ?_
  refine kput hX hW i_Pr t_Pr t_Pr_ok n_Pr 0 rfl rfl 3 (by decide) f_Pr_25 rfl rfl (rfl) (rfl) (Nat.le_of_ble_eq_true rfl) d_Pr_parse_11 (fun H locs hW => ?_)
  have hW : KW D k A s (prW k pr sa ra fc sq rq false 0 F S Rw ((h, .inr (0, [.ref f, .ref g, .int (nI 0), .int (nI 0)])) :: (f, .inl (k 0, 9, .inl (aN (fun _ => 0)))) :: (g, .inl (k 0, 4, .inl (aN (fun _ => 0)))) :: [(tb, .inl (k 0, 80, .inl (aN B)))])) H locs := hW
  refine lv_aload_n hX.1 hX.2.1 d_Pr_parse_14 rfl (lv_at hl 0 rfl) ?_
  refine kWv hW (kRunW (n := 0) (As := []) (rest := []) hX hml hW (ok_Pr_beginSum l D k H.size pr sa ra fc sq rq false 0 F S Rw ((h, .inr (0, [.ref f, .ref g, .int (nI 0), .int (nI 0)])) :: (f, .inl (k 0, 9, .inl (aN (fun _ => 0)))) :: (g, .inl (k 0, 4, .inl (aN (fun _ => 0)))) :: [(tb, .inl (k 0, 80, .inl (aN B)))]) (by decide)) m_Pr_38 im_Pr_beginSum se_Pr_beginSum in_Pr cd_Pr_beginSum 0 rfl rfl (by decide +kernel) ⟨rfl, rfl, by decide, by decide⟩ rfl hl.1 rfl (by decide) d_Pr_parse_15 ⟨by decide, by decide⟩) (fun u H locs _ hW => ?_)
  refine lv_iconst (v := nI 0) hX.1 hX.2.1 d_Pr_parse_18 (by decide) ?_
  refine lv_istore (lv' := [(4, .int (nI 0)), (0, .ref pr), (1, .ref tb), (2, .int (nI len)), (3, .ref h)]) hX.1 hX.2.1 d_Pr_parse_19 hl (by decide) rfl (fun ls hl => ?_)
  have hW : KW D k A s (pzW k pr sa ra fc sq rq h f g 0 (pz0 F S Rw) [(tb, .inl (k 0, 80, .inl (aN B)))]) H locs := hW
  have lp : ∀ (fu : Nat) (i : Nat) (z : PZ) (H : Heap) (locs : List Loc) (ls : Array Slot), i ≤ len → len < i + fu → prs B len (len - i) i z = o → PI z →  KW D k A s (pzW k pr sa ra fc sq rq h f g 0 z [(tb, .inl (k 0, 80, .inl (aN B)))]) H locs → lv_has ls 5 [(4, .int (nI i)), (3, .ref h), (2, .int (nI len)), (1, .ref tb), (0, .ref pr)] → W p l e ({ frames := 5, cells := 0, slots := 0, locals := 108 } : Room) s m [.ref pr, .ref tb, .int (nI len), .ref h].toArray below meth c H locs 0 0 Q (F0 m 21 ls []) := by
    intro fu
    induction fu with
    | zero => intro i z H locs ls lp1 lp2 hz hI hW hl; exfalso; omega
    | succ fu ih =>
      intro i z H locs ls lp1 lp2 hz hI hW hl
      obtain ⟨fw, dp, F, S, Rw, FO, SP, n⟩ := z
      obtain ⟨i1, i2, i3, i4, i5, i6⟩ := id hI
      have hW : KW D k A s (prW k pr sa ra fc sq rq fw dp F S Rw ((h, .inr (0, [.ref f, .ref g, .int (nI 0), .int (nI n)])) :: (f, .inl (k 0, 9, .inl (aN FO))) :: (g, .inl (k 0, 4, .inl (aN SP))) :: [(tb, .inl (k 0, 80, .inl (aN B)))])) H locs := hW
      refine lv_iload hX.1 hX.2.1 d_Pr_parse_21 (lv_at hl 0 rfl) ?_
      refine lv_iload_n hX.1 hX.2.1 d_Pr_parse_23 rfl (lv_at hl 2 rfl) ?_
      refine kge hX (tgt := 48) (by omega) (by omega) d_Pr_parse_24 (by decide) (fun h1 => ?_) (fun h1 => ?_)
      · have e1 : len = i := by omega
        subst e1
        rw [Nat.sub_self, prs] at hz
        refine lv_aload_n hX.1 hX.2.1 d_Pr_parse_48 rfl (lv_at hl 4 rfl) ?_
        refine lv_aload_n hX.1 hX.2.1 d_Pr_parse_49 rfl (lv_at hl 1 rfl) ?_
        refine kWi hW (kRunW (n := 1) (As := [.ref h]) (rest := []) hX hml hW (ok_Pr_joinFactor l D k H.size pr sa ra fc sq rq fw dp F S Rw h f g FO SP 0 n [(tb, .inl (k 0, 80, .inl (aN B)))] i1 (by have := (i5 dp (Nat.le_refl _)).2.2.2; omega)) m_Pr_45 im_Pr_joinFactor se_Pr_joinFactor in_Pr cd_Pr_joinFactor 0 rfl rfl (by decide +kernel) ⟨rfl, rfl, by decide, by decide⟩ rfl hl.1 rfl (by decide) d_Pr_parse_50 ⟨by decide, by decide⟩) (fun r u H locs hr1 hW => ?_)
        subst hr1
        have hW : KW D k A s (prW k pr sa ra fc sq rq false dp F S (if fw then va_up Rw dp (beh (Rw dp) F) else Rw) ((h, .inr (0, [.ref f, .ref g, .int (nI 0), .int (nI n)])) :: (f, .inl (k 0, 9, .inl (aN (if fw then lnk FO (Rw dp).2.1 F.1 9 else FO)))) :: (g, .inl (k 0, 4, .inl (aN SP))) :: [(tb, .inl (k 0, 80, .inl (aN B)))])) H locs := hW
        have k63 : ¬ (fw = true ∧ dp = 0) → W p l e ({ frames := 5, cells := 0, slots := 0, locals := 108 } : Room) s m [.ref pr, .ref tb, .int (nI len), .ref h].toArray below meth c H locs 0 0 Q (F0 m 63 ls []) := by
          intro hs
          rw [if_neg hs] at hz
          refine lv_iload_n hX.1 hX.2.1 d_Pr_parse_63 rfl (lv_at hl 2 rfl) ?_
          subst hz
          exact kiret hX hr hlocks hQ () (hW) ((nM_s _).symm) d_Pr_parse_64
        refine kz hX (tgt := 63) (bT _) d_Pr_parse_53 (by decide) (fun h2 => ?_) (fun h2 => ?_)
        · exact k63 (by rw [bT_0 h2]; simp)
        · refine lv_aload_n hX.1 hX.2.1 d_Pr_parse_56 rfl (lv_at hl 4 rfl) ?_
          refine kget hX hW i_Pr 0 rfl rfl 4 (by decide) f_Pr_29 rfl rfl d_Pr_parse_57 ?_
          refine kleN hX (tgt := 65) (by omega) d_Pr_parse_60 (by decide) (fun h3 => ?_) (fun h3 => ?_)
          · have hfw := bT_1 h2
            subst hfw
            subst h3
            rw [if_pos ⟨rfl, rfl⟩, jn, pen] at hz
            have hW : KW D k A s (prW k pr sa ra fc sq rq false 0 F S (va_up Rw 0 (beh (Rw 0) F)) ((h, .inr (0, [.ref f, .ref g, .int (nI 0), .int (nI n)])) :: (f, .inl (k 0, 9, .inl (aN (lnk FO (Rw 0).2.1 F.1 9)))) :: (g, .inl (k 0, 4, .inl (aN SP))) :: [(tb, .inl (k 0, 80, .inl (aN B)))])) H locs := hW
            simp only [if_true] at hz
            generalize va_up Rw 0 (beh (Rw 0) F) = R1 at hW hz
            generalize lnk FO (Rw 0).2.1 F.1 9 = F1 at hW hz
            refine lv_aload_n hX.1 hX.2.1 d_Pr_parse_65 rfl (lv_at hl 4 rfl) ?_
            refine kWv hW (kRunW (n := 0) (As := []) (rest := []) hX hml hW (ok_Pr_endRow l D k H.size pr sa ra fc sq rq false 0 F S R1 ((h, .inr (0, [.ref f, .ref g, .int (nI 0), .int (nI n)])) :: (f, .inl (k 0, 9, .inl (aN F1))) :: (g, .inl (k 0, 4, .inl (aN SP))) :: [(tb, .inl (k 0, 80, .inl (aN B)))]) (by decide)) m_Pr_49 im_Pr_endRow se_Pr_endRow in_Pr cd_Pr_endRow 0 rfl rfl (by decide +kernel) ⟨rfl, rfl, by decide, by decide⟩ rfl hl.1 rfl (by decide) d_Pr_parse_66 ⟨by decide, by decide⟩) (fun u H locs _ hW => ?_)
            have hW : KW D k A s (prW k pr sa ra fc sq rq false 0 F (va_up S 0 (alt (S 0) (R1 0))) (va_up R1 0 (0, 0, true)) ((h, .inr (0, [.ref f, .ref g, .int (nI 0), .int (nI n)])) :: (f, .inl (k 0, 9, .inl (aN F1))) :: (g, .inl (k 0, 4, .inl (aN SP))) :: [(tb, .inl (k 0, 80, .inl (aN B)))])) H locs := hW
            obtain ⟨q, hq⟩ : ∃ q, alt (S 0) (R1 0) = q := ⟨_, rfl⟩
            rw [hq] at hW hz
            refine lv_aload_n hX.1 hX.2.1 d_Pr_parse_69 rfl (lv_at hl 1 rfl) ?_
            refine lv_aload_n hX.1 hX.2.1 d_Pr_parse_70 rfl (lv_at hl 4 rfl) ?_
            refine kget hX hW i_Pr 0 rfl rfl 0 (by decide) f_Pr_11 rfl rfl d_Pr_parse_71 ?_
            refine lv_iconst (v := nI 0) hX.1 hX.2.1 d_Pr_parse_74 (by decide) ?_
            refine kaald (b := sq 0) hX hW 1 4 rfl rfl (by omega) (by decide) rfl d_Pr_parse_75 ?_
            refine kCv (wc := [(h, .inr (0, [.ref f, .ref g, .int (nI 0), .int (nI n)])), (f, .inl (k 0, 9, .inl (aN F1))), (g, .inl (k 0, 4, .inl (aN SP))), (sq 0, .inr (3, [.int (nI q.1), .int (nI q.2.1), .int (nI q.2.2.toNat)]))]) hW [22 + 0, 22 + 1, 22 + 2, 4 + 0] (by simp only [List.map_cons, List.map_nil]; rw [prW_y 0, prW_y 1, prW_y 2, prW_s (by decide), va_up_self]; rfl) (by intro _; rfl) (kRunV (n := 1) (As := [.ref (sq 0)]) (rest := []) hX hml hW (ok_Ex_setWhole l D k H.size h f g F1 SP 0 n (sq 0) q.1 q.2.1 q.2.2) m_Pr_52 im_Ex_setWhole se_Ex_setWhole in_Ex cd_Ex_setWhole [22 + 0, 22 + 1, 22 + 2, 4 + 0] (by rfl) (by simp only [List.map_cons, List.map_nil]; rw [prW_y 0, prW_y 1, prW_y 2, prW_s (by decide), va_up_self]; rfl) rfl rfl (by decide +kernel) ⟨rfl, rfl, by decide, by decide⟩ rfl hl.1 rfl (by decide) d_Pr_parse_76 ⟨by decide, by decide⟩) (fun u H locs _ hW => ?_)
            simp only [setAll] at hW
            rw [prW_setY 0, prW_setY 1, prW_setY 2] at hW
            have e8 : ∀ (Y : va_W), (prW k pr sa ra fc sq rq false 0 F (va_up S 0 q) (va_up R1 0 (0, 0, true)) Y).set (4 + 0) (sq 0, .inr (3, [.int (nI q.1), .int (nI q.2.1), .int (nI q.2.2.toNat)])) = prW k pr sa ra fc sq rq false 0 F (va_up S 0 q) (va_up R1 0 (0, 0, true)) Y := by
              intro Y
              refine (prW_setS (d := 0) (by decide) q).trans ?_
              have := va_up_id (va_up S 0 q) 0
              rw [va_up_self] at this
              rw [this]
            rw [e8] at hW
            refine lv_iconst (v := (-1)) hX.1 hX.2.1 d_Pr_parse_79 (by decide) ?_
            subst hz
            exact kiret hX hr hlocks hQ () (hW) (nM_0.symm) d_Pr_parse_80
          · exact k63 (by omega)
      · rw [show len - i = (len - (i + 1)) + 1 by omega, prs] at hz
        refine lv_aload_n hX.1 hX.2.1 d_Pr_parse_27 rfl (lv_at hl 4 rfl) ?_
        refine lv_aload_n hX.1 hX.2.1 d_Pr_parse_28 rfl (lv_at hl 3 rfl) ?_
        refine lv_iload hX.1 hX.2.1 d_Pr_parse_29 (lv_at hl 0 rfl) ?_
        refine kiald hX hW (22 + 3) (prW_y 3) (by omega) (by decide) d_Pr_parse_31 ?_
        refine lv_aload_n hX.1 hX.2.1 d_Pr_parse_32 rfl (lv_at hl 1 rfl) ?_
        refine kWi hW (kRunW (n := 2) (As := [.int (nI (B i)), .ref h]) (rest := []) hX hml hW (ok_Pr_accept l D k H.size pr sa ra fc sq rq fw dp F S Rw h f g FO SP 0 n [(tb, .inl (k 0, 80, .inl (aN B)))] (B i) (hB i (by omega)) i1 i2 (by have := (i5 dp (Nat.le_refl _)).2.2.2; omega) (by omega)) m_Pr_41 im_Pr_accept se_Pr_accept in_Pr cd_Pr_accept 0 rfl rfl (by decide +kernel) ⟨rfl, rfl, by decide, by decide⟩ rfl hl.1 rfl (by decide) d_Pr_parse_33 ⟨by decide, by decide⟩) (fun r u H locs hr1 hW => ?_)
        subst hr1
        have hI2 := PI_acc (sg := B i) hI
        generalize acc (B i) (fw, dp, F, S, Rw, FO, SP, n) = ao at hW hz hI2 ⊢
        obtain ⟨ab, az⟩ := ao
        have hW : KW D k A s (pzW k pr sa ra fc sq rq h f g 0 az [(tb, .inl (k 0, 80, .inl (aN B)))]) H locs := hW
        refine knz hX (tgt := 42) (bT _) d_Pr_parse_36 (by decide) (fun h2 => ?_) (fun h2 => ?_)
        · rw [if_pos (bT_1 h2)] at hz
          refine lv_iinc (v := nI (i + 1)) (lv' := [(4, .int (nI (i + 1))), (3, .ref h), (2, .int (nI len)), (1, .ref tb), (0, .ref pr)]) hX.1 hX.2.1 d_Pr_parse_42 hl (k := 0) rfl (kn_inc _) (by decide) rfl (fun ls hl => ?_)
          refine lv_goto (tgt := 21) hX.1 hX.2.1 d_Pr_parse_45 (by decide) ?_
          exact ih (i + 1) az H locs ls (by omega) (by omega) hz hI2 (hW) (lv_sub hl [0, 1, 2, 3, 4] rfl)
        · have h2b : ab = false := bT_0 h2
          subst h2b
          rw [if_neg (by simp)] at hz
          refine lv_iload hX.1 hX.2.1 d_Pr_parse_39 (lv_at hl 0 rfl) ?_
          subst hz
          exact kiret hX hr hlocks hQ () (hW) ((nM_s _).symm) d_Pr_parse_41
  exact lp (len + 1) 0 (pz0 F S Rw) H locs ls (by omega) (by omega) (by rw [Nat.sub_zero]; exact ho) (PI_0 hF1 hF2) (hW) (lv_sub hl [0, 4, 3, 2, 1] rfl)
end
section
/-! THE MACHINE: Moore's refinement, tallies -/
/-- two states alike, as far as the first a letters tell -/
def alq (NX GR : Nat → Nat) (i j : Nat) : Nat → Bool
  | 0 => decide (GR i = GR j)
  | a + 1 => alq NX GR i j a && decide (GR (NX (i * 4 + a)) = GR (NX (j * 4 + a)))
theorem alq_f {NX GR : Nat → Nat} {i j a : Nat} (h : alq NX GR i j a = false) : ∀ b, a ≤ b → alq NX GR i j b = false := by
  intro b
  induction b with
  | zero => intro hb; have : a = 0 := by omega
            subst this; exact h
  | succ b ih =>
    intro hb
    rcases Nat.lt_or_ge b a with q | q
    · have : a = b + 1 := by omega
      subst this; exact h
    · rw [alq, ih q]; rfl
/-- from state i on, r states before j: the first one like j -/
def flr (NX GR : Nat → Nat) (j : Nat) : Nat → Nat → Nat
  | 0, i => i
  | r + 1, i => if alq NX GR i j 4 then i else flr NX GR j r (i + 1)
theorem flr_le (NX GR : Nat → Nat) (j : Nat) : ∀ r i, flr NX GR j r i ≤ i + r := by
  intro r
  induction r with
  | zero => intro i; exact Nat.le_refl _
  | succ r ih => intro i; rw [flr]; split
                 · omega
                 · have := ih (i + 1); omega
/-- the first s states in finer groups: how many, and which -/
def rfs (NX GR FN : Nat → Nat) : Nat → Nat × (Nat → Nat)
  | 0 => (0, FN)
  | s + 1 => if flr NX GR s s 0 < s then ((rfs NX GR FN s).1, va_up (rfs NX GR FN s).2 s ((rfs NX GR FN s).2 (flr NX GR s s 0))) else ((rfs NX GR FN s).1 + 1, va_up (rfs NX GR FN s).2 s (rfs NX GR FN s).1)
theorem rfs_le (NX GR FN : Nat → Nat) : ∀ s, (rfs NX GR FN s).1 ≤ s := by
  intro s
  induction s with
  | zero => exact Nat.le_refl _
  | succ s ih => rw [rfs]; split
                 · show (rfs NX GR FN s).1 ≤ s + 1; omega
                 · show (rfs NX GR FN s).1 + 1 ≤ s + 1; omega
def cpz (F G : Nat → Nat) (z : Nat) : Nat → Nat := fun j => if j < z then F j else G j
theorem cpz_aN (F G : Nat → Nat) (z : Nat) : va_cpy (aN F) (aN G) 0 0 z = aN (cpz F G z) := by
  funext j
  by_cases h : j < z
  · rw [pk_cpy_in (by omega) (by omega)]; simp [aN, cpz, h]
  · rw [pk_cpy_out (by omega)]; simp [aN, cpz, h]
set_option maxHeartbeats 4000000 in
set_option maxRecDepth 100000 in
/-- alike(i, j) -/
theorem ok_Ma_alike (l : Launch) (D : va_G) (k : Nat → ClassId) (sz : Nat) (ma se nu nx ac gr fn tl : Nat) (SE NU NX AC GR FN TL : Nat → Nat) (z : Nat) (i j : Nat) (hi : i < 257) (hj : j < 257) (hz : z ≤ 257) (hNX : ∀ x, x < 1028 → NX x < 257) (hG : ∀ x, x < 257 → GR x < 1000) : Met l y_Ma_alike (.code y_Ma_alike c_Ma_alike 7 (some .boolean) :: wsU) ({ frames := 0, cells := 0, slots := 0, locals := 0 } : Room) (kPre D k [.ref ma, .int (nI i), .int (nI j)] [(ma, .inr (1, [.ref se, .ref nu, .ref nx, .ref ac, .ref gr, .ref fn, .ref tl, .int (nI z)])), (se, .inl (k 0, 257, .inl (aN SE))), (nu, .inl (k 0, 257, .inl (aM NU))), (nx, .inl (k 0, 1028, .inl (aN NX))), (ac, .inl (k 0, 257, .inl (aN AC))), (gr, .inl (k 0, 257, .inl (aN GR))), (fn, .inl (k 0, 257, .inl (aN FN))), (tl, .inl (k 1, 7967, .inr (.inl (aL TL))))] sz) (va_Qi (fun (r : Int32) (_ : Unit) => r = nI (alq NX GR i j 4).toNat) (kB D k (fun _ : Unit => [(ma, .inr (1, [.ref se, .ref nu, .ref nx, .ref ac, .ref gr, .ref fn, .ref tl, .int (nI z)])), (se, .inl (k 0, 257, .inl (aN SE))), (nu, .inl (k 0, 257, .inl (aM NU))), (nx, .inl (k 0, 1028, .inl (aN NX))), (ac, .inl (k 0, 257, .inl (aN AC))), (gr, .inl (k 0, 257, .inl (aN GR))), (fn, .inl (k 0, 257, .inl (aN FN))), (tl, .inl (k 1, 7967, .inr (.inl (aL TL))))]) (va_A [(ma, .inr (1, [.ref se, .ref nu, .ref nx, .ref ac, .ref gr, .ref fn, .ref tl, .int (nI z)])), (se, .inl (k 0, 257, .inl (aN SE))), (nu, .inl (k 0, 257, .inl (aM NU))), (nx, .inl (k 0, 1028, .inl (aN NX))), (ac, .inl (k 0, 257, .inl (aN AC))), (gr, .inl (k 0, 257, .inl (aN GR))), (fn, .inl (k 0, 257, .inl (aN FN))), (tl, .inl (k 1, 7967, .inr (.inl (aL TL))))] sz)) (va_A [(ma, .inr (1, [.ref se, .ref nu, .ref nx, .ref ac, .ref gr, .ref fn, .ref tl, .int (nI z)])), (se, .inl (k 0, 257, .inl (aN SE))), (nu, .inl (k 0, 257, .inl (aM NU))), (nx, .inl (k 0, 1028, .inl (aN NX))), (ac, .inl (k 0, 257, .inl (aN AC))), (gr, .inl (k 0, 257, .inl (aN GR))), (fn, .inl (k 0, 257, .inl (aN FN))), (tl, .inl (k 1, 7967, .inr (.inl (aL TL))))] sz)) 0 0 (va_A [(ma, .inr (1, [.ref se, .ref nu, .ref nx, .ref ac, .ref gr, .ref fn, .ref tl, .int (nI z)])), (se, .inl (k 0, 257, .inl (aN SE))), (nu, .inl (k 0, 257, .inl (aM NU))), (nx, .inl (k 0, 1028, .inl (aN NX))), (ac, .inl (k 0, 257, .inl (aN AC))), (gr, .inl (k 0, 257, .inl (aN GR))), (fn, .inl (k 0, 257, .inl (aN FN))), (tl, .inl (k 1, 7967, .inr (.inl (aL TL))))] sz) := by
  refine kMet (by decide) (Nat.le_of_ble_eq_true rfl) ?_
  intro p e s m below meth c ls hX hml hr hlocks hin hsz hW hl Q hQ
  generalize hAe : va_A [(ma, .inr (1, [.ref se, .ref nu, .ref nx, .ref ac, .ref gr, .ref fn, .ref tl, .int (nI z)])), (se, .inl (k 0, 257, .inl (aN SE))), (nu, .inl (k 0, 257, .inl (aM NU))), (nx, .inl (k 0, 1028, .inl (aN NX))), (ac, .inl (k 0, 257, .inl (aN AC))), (gr, .inl (k 0, 257, .inl (aN GR))), (fn, .inl (k 0, 257, .inl (aN FN))), (tl, .inl (k 1, 7967, .inr (.inl (aL TL))))] sz = A at hW hQ
  generalize hH0 : s.heap = H at hW ⊢
  generalize hl0 : ([] : List Loc) = locs at hW ⊢
  have hX : FX p s m c [.ref ma, .int (nI i), .int (nI j)].toArray c_Ma_alike R_Ma := hX
  have hl : lv_has ls 7 [(0, .ref ma), (1, .int (nI i)), (2, .int (nI j))] := hl
  have gi := hG i hi
  have gj := hG j hj
  refine lv_aload_n hX.1 hX.2.1 d_Ma_alike_0 rfl (lv_at hl 0 rfl) ?_
  refine kget hX hW i_Ma 0 rfl rfl 4 (by decide) f_Ma_26 rfl rfl d_Ma_alike_1 ?_
  refine lv_iload_n hX.1 hX.2.1 d_Ma_alike_4 rfl (lv_at hl 1 rfl) ?_
  refine kiald hX hW 5 rfl (by omega) (by first | decide | omega) d_Ma_alike_5 ?_
  refine lv_aload_n hX.1 hX.2.1 d_Ma_alike_6 rfl (lv_at hl 0 rfl) ?_
  refine kget hX hW i_Ma 0 rfl rfl 4 (by decide) f_Ma_26 rfl rfl d_Ma_alike_7 ?_
  refine lv_iload_n hX.1 hX.2.1 d_Ma_alike_10 rfl (lv_at hl 2 rfl) ?_
  refine kiald hX hW 5 rfl (by omega) (by first | decide | omega) d_Ma_alike_11 ?_
  have k20 : ∀ (v : Nat), v = (alq NX GR i j 0).toNat → W p l e ({ frames := 0, cells := 0, slots := 0, locals := 0 } : Room) s m [.ref ma, .int (nI i), .int (nI j)].toArray below meth c H locs 0 0 Q (F0 m 20 ls [.int (nI v)]) := by
    intro v hv
    subst hv
    refine lv_istore_n (lv' := [(3, .int (nI ((alq NX GR i j 0).toNat))), (0, .ref ma), (1, .int (nI i)), (2, .int (nI j))]) hX.1 hX.2.1 d_Ma_alike_20 rfl hl (by decide) rfl (fun ls hl => ?_)
    refine lv_iconst (v := nI 0) hX.1 hX.2.1 d_Ma_alike_21 (by decide) ?_
    refine lv_istore (lv' := [(4, .int (nI 0)), (3, .int (nI ((alq NX GR i j 0).toNat))), (0, .ref ma), (1, .int (nI i)), (2, .int (nI j))]) hX.1 hX.2.1 d_Ma_alike_22 hl (by decide) rfl (fun ls hl => ?_)
    have lp : ∀ (fu : Nat) (a : Nat) (H : Heap) (locs : List Loc) (ls : Array Slot), a ≤ 4 → 4 < a + fu →  KW D k A s [(ma, .inr (1, [.ref se, .ref nu, .ref nx, .ref ac, .ref gr, .ref fn, .ref tl, .int (nI z)])), (se, .inl (k 0, 257, .inl (aN SE))), (nu, .inl (k 0, 257, .inl (aM NU))), (nx, .inl (k 0, 1028, .inl (aN NX))), (ac, .inl (k 0, 257, .inl (aN AC))), (gr, .inl (k 0, 257, .inl (aN GR))), (fn, .inl (k 0, 257, .inl (aN FN))), (tl, .inl (k 1, 7967, .inr (.inl (aL TL))))] H locs → lv_has ls 7 [(4, .int (nI a)), (3, .int (nI ((alq NX GR i j a).toNat))), (2, .int (nI j)), (1, .int (nI i)), (0, .ref ma)] → W p l e ({ frames := 0, cells := 0, slots := 0, locals := 0 } : Room) s m [.ref ma, .int (nI i), .int (nI j)].toArray below meth c H locs 0 0 Q (F0 m 24 ls []) := by
      intro fu
      induction fu with
      | zero => intro a H locs ls lp1 lp2 hW hl; exfalso; omega
      | succ fu ih =>
        intro a H locs ls lp1 lp2 hW hl
        refine lv_iload hX.1 hX.2.1 d_Ma_alike_24 (lv_at hl 0 rfl) ?_
        refine lv_iconst (v := nI 4) hX.1 hX.2.1 d_Ma_alike_26 (by decide) ?_
        refine kge hX (tgt := 89) (by omega) (by omega) d_Ma_alike_27 (by decide) (fun h1 => ?_) (fun h1 => ?_)
        · have e1 : a = 4 := by omega
          subst e1
          refine lv_iload_n hX.1 hX.2.1 d_Ma_alike_89 rfl (lv_at hl 1 rfl) ?_
          exact kzret hX hr hlocks hQ () (hW) (rfl) (bT_r _) d_Ma_alike_90
        · refine lv_iload_n hX.1 hX.2.1 d_Ma_alike_30 rfl (lv_at hl 1 rfl) ?_
          refine kz hX (tgt := 89) (bT _) d_Ma_alike_31 (by decide) (fun h2 => ?_) (fun h2 => ?_)
          · have e2 := alq_f (bT_0 h2) 4 (by omega)
            refine lv_iload_n hX.1 hX.2.1 d_Ma_alike_89 rfl (lv_at hl 1 rfl) ?_
            exact kzret hX hr hlocks hQ () (hW) (by rw [e2, bT_0 h2]) (bT_r _) d_Ma_alike_90
          · have n1 := hNX (i * 4 + a) (by omega)
            have n2 := hNX (j * 4 + a) (by omega)
            have g1 := hG _ n1
            have g2 := hG _ n2
            refine lv_aload_n hX.1 hX.2.1 d_Ma_alike_34 rfl (lv_at hl 4 rfl) ?_
            refine kget hX hW i_Ma 0 rfl rfl 2 (by decide) f_Ma_20 rfl rfl d_Ma_alike_35 ?_
            refine lv_iload_n hX.1 hX.2.1 d_Ma_alike_38 rfl (lv_at hl 3 rfl) ?_
            refine lv_iconst (v := nI 4) hX.1 hX.2.1 d_Ma_alike_39 (by decide) ?_
            refine lv_imul hX.1 hX.2.1 d_Ma_alike_40 ?_
            refine tpi (y := nI (i * 4)) (pk_mul _ _) ?_
            refine lv_iload hX.1 hX.2.1 d_Ma_alike_41 (lv_at hl 0 rfl) ?_
            refine lv_iadd hX.1 hX.2.1 d_Ma_alike_43 ?_
            refine tpi (y := nI (i * 4 + a)) (nI_add _ _) ?_
            refine kiald hX hW 3 rfl (by omega) (by first | decide | omega) d_Ma_alike_44 ?_
            refine lv_istore (lv' := [(5, .int (nI (NX (i * 4 + a)))), (4, .int (nI a)), (3, .int (nI ((alq NX GR i j a).toNat))), (2, .int (nI j)), (1, .int (nI i)), (0, .ref ma)]) hX.1 hX.2.1 d_Ma_alike_45 hl (by decide) rfl (fun ls hl => ?_)
            refine lv_aload_n hX.1 hX.2.1 d_Ma_alike_47 rfl (lv_at hl 5 rfl) ?_
            refine kget hX hW i_Ma 0 rfl rfl 2 (by decide) f_Ma_20 rfl rfl d_Ma_alike_48 ?_
            refine lv_iload_n hX.1 hX.2.1 d_Ma_alike_51 rfl (lv_at hl 3 rfl) ?_
            refine lv_iconst (v := nI 4) hX.1 hX.2.1 d_Ma_alike_52 (by decide) ?_
            refine lv_imul hX.1 hX.2.1 d_Ma_alike_53 ?_
            refine tpi (y := nI (j * 4)) (pk_mul _ _) ?_
            refine lv_iload hX.1 hX.2.1 d_Ma_alike_54 (lv_at hl 1 rfl) ?_
            refine lv_iadd hX.1 hX.2.1 d_Ma_alike_56 ?_
            refine tpi (y := nI (j * 4 + a)) (nI_add _ _) ?_
            refine kiald hX hW 3 rfl (by omega) (by first | decide | omega) d_Ma_alike_57 ?_
            refine lv_istore (lv' := [(6, .int (nI (NX (j * 4 + a)))), (5, .int (nI (NX (i * 4 + a)))), (4, .int (nI a)), (3, .int (nI ((alq NX GR i j a).toNat))), (2, .int (nI j)), (1, .int (nI i)), (0, .ref ma)]) hX.1 hX.2.1 d_Ma_alike_58 hl (by decide) rfl (fun ls hl => ?_)
            refine lv_aload_n hX.1 hX.2.1 d_Ma_alike_60 rfl (lv_at hl 6 rfl) ?_
            refine kget hX hW i_Ma 0 rfl rfl 4 (by decide) f_Ma_26 rfl rfl d_Ma_alike_61 ?_
            refine lv_iload hX.1 hX.2.1 d_Ma_alike_64 (lv_at hl 1 rfl) ?_
            refine kiald hX hW 5 rfl (hNX _ (by omega)) (by first | decide | omega) d_Ma_alike_66 ?_
            refine lv_aload_n hX.1 hX.2.1 d_Ma_alike_67 rfl (lv_at hl 6 rfl) ?_
            refine kget hX hW i_Ma 0 rfl rfl 4 (by decide) f_Ma_26 rfl rfl d_Ma_alike_68 ?_
            refine lv_iload hX.1 hX.2.1 d_Ma_alike_71 (lv_at hl 0 rfl) ?_
            refine kiald hX hW 5 rfl (hNX _ (by omega)) (by first | decide | omega) d_Ma_alike_73 ?_
            have k82 : ∀ (v : Nat), v = (alq NX GR i j (a + 1)).toNat → W p l e ({ frames := 0, cells := 0, slots := 0, locals := 0 } : Room) s m [.ref ma, .int (nI i), .int (nI j)].toArray below meth c H locs 0 0 Q (F0 m 82 ls [.int (nI v)]) := by
              intro v hv
              subst hv
              refine lv_istore_n (lv' := [(3, .int (nI ((alq NX GR i j (a + 1)).toNat))), (6, .int (nI (NX (j * 4 + a)))), (5, .int (nI (NX (i * 4 + a)))), (4, .int (nI a)), (2, .int (nI j)), (1, .int (nI i)), (0, .ref ma)]) hX.1 hX.2.1 d_Ma_alike_82 rfl hl (by decide) rfl (fun ls hl => ?_)
              refine lv_iinc (v := nI (a + 1)) (lv' := [(4, .int (nI (a + 1))), (3, .int (nI ((alq NX GR i j (a + 1)).toNat))), (6, .int (nI (NX (j * 4 + a)))), (5, .int (nI (NX (i * 4 + a)))), (2, .int (nI j)), (1, .int (nI i)), (0, .ref ma)]) hX.1 hX.2.1 d_Ma_alike_83 hl (k := 3) rfl (kn_inc _) (by decide) rfl (fun ls hl => ?_)
              refine lv_goto (tgt := 24) hX.1 hX.2.1 d_Ma_alike_86 (by decide) ?_
              exact ih (a + 1) H locs ls (by omega) (by omega) (hW) (lv_sub hl [0, 1, 4, 5, 6] rfl)
            refine kne hX (tgt := 81) (by omega) (by omega) d_Ma_alike_74 (by decide) (fun h3 => ?_) (fun h3 => ?_)
            · refine lv_iconst (v := nI 0) hX.1 hX.2.1 d_Ma_alike_81 (by decide) ?_
              exact k82 _ (by rw [alq, bT_1 h2]; simp [h3])
            · refine lv_iconst (v := nI 1) hX.1 hX.2.1 d_Ma_alike_77 (by decide) ?_
              refine lv_goto (tgt := 82) hX.1 hX.2.1 d_Ma_alike_78 (by decide) ?_
              exact k82 _ (by rw [alq, bT_1 h2]; simp [h3])
    exact lp 5 0 H locs ls (by omega) (by omega) (hW) (lv_sub hl [0, 1, 4, 3, 2] rfl)
  refine kne hX (tgt := 19) (by omega) (by omega) d_Ma_alike_12 (by decide) (fun h1 => ?_) (fun h1 => ?_)
  · refine lv_iconst (v := nI 0) hX.1 hX.2.1 d_Ma_alike_19 (by decide) ?_
    exact k20 _ (by simp [alq, h1])
  · refine lv_iconst (v := nI 1) hX.1 hX.2.1 d_Ma_alike_15 (by decide) ?_
    refine lv_goto (tgt := 20) hX.1 hX.2.1 d_Ma_alike_16 (by decide) ?_
    exact k20 _ (by simp [alq, h1])
set_option maxHeartbeats 4000000 in
set_option maxRecDepth 100000 in
/-- firstLike(j) -/
theorem ok_Ma_firstLike (l : Launch) (D : va_G) (k : Nat → ClassId) (sz : Nat) (ma se nu nx ac gr fn tl : Nat) (SE NU NX AC GR FN TL : Nat → Nat) (z : Nat) (j : Nat) (hj : j < 257) (hz : z ≤ 257) (hNX : ∀ x, x < 1028 → NX x < 257) (hG : ∀ x, x < 257 → GR x < 1000) : Met l y_Ma_firstLike (.code y_Ma_firstLike c_Ma_firstLike 3 (some .int) :: wsU) ({ frames := 1, cells := 0, slots := 0, locals := 26 } : Room) (kPre D k [.ref ma, .int (nI j)] [(ma, .inr (1, [.ref se, .ref nu, .ref nx, .ref ac, .ref gr, .ref fn, .ref tl, .int (nI z)])), (se, .inl (k 0, 257, .inl (aN SE))), (nu, .inl (k 0, 257, .inl (aM NU))), (nx, .inl (k 0, 1028, .inl (aN NX))), (ac, .inl (k 0, 257, .inl (aN AC))), (gr, .inl (k 0, 257, .inl (aN GR))), (fn, .inl (k 0, 257, .inl (aN FN))), (tl, .inl (k 1, 7967, .inr (.inl (aL TL))))] sz) (va_Qi (fun (r : Int32) (_ : Unit) => r = nI (flr NX GR j j 0)) (kB D k (fun _ : Unit => [(ma, .inr (1, [.ref se, .ref nu, .ref nx, .ref ac, .ref gr, .ref fn, .ref tl, .int (nI z)])), (se, .inl (k 0, 257, .inl (aN SE))), (nu, .inl (k 0, 257, .inl (aM NU))), (nx, .inl (k 0, 1028, .inl (aN NX))), (ac, .inl (k 0, 257, .inl (aN AC))), (gr, .inl (k 0, 257, .inl (aN GR))), (fn, .inl (k 0, 257, .inl (aN FN))), (tl, .inl (k 1, 7967, .inr (.inl (aL TL))))]) (va_A [(ma, .inr (1, [.ref se, .ref nu, .ref nx, .ref ac, .ref gr, .ref fn, .ref tl, .int (nI z)])), (se, .inl (k 0, 257, .inl (aN SE))), (nu, .inl (k 0, 257, .inl (aM NU))), (nx, .inl (k 0, 1028, .inl (aN NX))), (ac, .inl (k 0, 257, .inl (aN AC))), (gr, .inl (k 0, 257, .inl (aN GR))), (fn, .inl (k 0, 257, .inl (aN FN))), (tl, .inl (k 1, 7967, .inr (.inl (aL TL))))] sz)) (va_A [(ma, .inr (1, [.ref se, .ref nu, .ref nx, .ref ac, .ref gr, .ref fn, .ref tl, .int (nI z)])), (se, .inl (k 0, 257, .inl (aN SE))), (nu, .inl (k 0, 257, .inl (aM NU))), (nx, .inl (k 0, 1028, .inl (aN NX))), (ac, .inl (k 0, 257, .inl (aN AC))), (gr, .inl (k 0, 257, .inl (aN GR))), (fn, .inl (k 0, 257, .inl (aN FN))), (tl, .inl (k 1, 7967, .inr (.inl (aL TL))))] sz)) 0 0 (va_A [(ma, .inr (1, [.ref se, .ref nu, .ref nx, .ref ac, .ref gr, .ref fn, .ref tl, .int (nI z)])), (se, .inl (k 0, 257, .inl (aN SE))), (nu, .inl (k 0, 257, .inl (aM NU))), (nx, .inl (k 0, 1028, .inl (aN NX))), (ac, .inl (k 0, 257, .inl (aN AC))), (gr, .inl (k 0, 257, .inl (aN GR))), (fn, .inl (k 0, 257, .inl (aN FN))), (tl, .inl (k 1, 7967, .inr (.inl (aL TL))))] sz) := by
  refine kMet (by decide) (Nat.le_of_ble_eq_true rfl) ?_
  intro p e s m below meth c ls hX hml hr hlocks hin hsz hW hl Q hQ
  generalize hAe : va_A [(ma, .inr (1, [.ref se, .ref nu, .ref nx, .ref ac, .ref gr, .ref fn, .ref tl, .int (nI z)])), (se, .inl (k 0, 257, .inl (aN SE))), (nu, .inl (k 0, 257, .inl (aM NU))), (nx, .inl (k 0, 1028, .inl (aN NX))), (ac, .inl (k 0, 257, .inl (aN AC))), (gr, .inl (k 0, 257, .inl (aN GR))), (fn, .inl (k 0, 257, .inl (aN FN))), (tl, .inl (k 1, 7967, .inr (.inl (aL TL))))] sz = A at hW hQ
  generalize hH0 : s.heap = H at hW ⊢
  generalize hl0 : ([] : List Loc) = locs at hW ⊢
  have hX : FX p s m c [.ref ma, .int (nI j)].toArray c_Ma_firstLike R_Ma := hX
  have hl : lv_has ls 3 [(0, .ref ma), (1, .int (nI j))] := hl
  obtain ⟨o, ho⟩ : ∃ o, flr NX GR j j 0 = o := ⟨_, rfl⟩
  rw [ho] at hQ
  refine lv_iconst (v := nI 0) hX.1 hX.2.1 d_Ma_firstLike_0 (by decide) ?_
  refine lv_istore_n (lv' := [(2, .int (nI 0)), (0, .ref ma), (1, .int (nI j))]) hX.1 hX.2.1 d_Ma_firstLike_1 rfl hl (by decide) rfl (fun ls hl => ?_)
  have lp : ∀ (fu : Nat) (i : Nat) (H : Heap) (locs : List Loc) (ls : Array Slot), i ≤ j → j < i + fu → flr NX GR j (j - i) i = o →  KW D k A s [(ma, .inr (1, [.ref se, .ref nu, .ref nx, .ref ac, .ref gr, .ref fn, .ref tl, .int (nI z)])), (se, .inl (k 0, 257, .inl (aN SE))), (nu, .inl (k 0, 257, .inl (aM NU))), (nx, .inl (k 0, 1028, .inl (aN NX))), (ac, .inl (k 0, 257, .inl (aN AC))), (gr, .inl (k 0, 257, .inl (aN GR))), (fn, .inl (k 0, 257, .inl (aN FN))), (tl, .inl (k 1, 7967, .inr (.inl (aL TL))))] H locs → lv_has ls 3 [(2, .int (nI i)), (1, .int (nI j)), (0, .ref ma)] → W p l e ({ frames := 1, cells := 0, slots := 0, locals := 26 } : Room) s m [.ref ma, .int (nI j)].toArray below meth c H locs 0 0 Q (F0 m 2 ls []) := by
    intro fu
    induction fu with
    | zero => intro i H locs ls lp1 lp2 hz1 hW hl; exfalso; omega
    | succ fu ih =>
      intro i H locs ls lp1 lp2 hz1 hW hl
      refine lv_iload_n hX.1 hX.2.1 d_Ma_firstLike_2 rfl (lv_at hl 0 rfl) ?_
      refine lv_iload_n hX.1 hX.2.1 d_Ma_firstLike_3 rfl (lv_at hl 1 rfl) ?_
      refine kge hX (tgt := 24) (by omega) (by omega) d_Ma_firstLike_4 (by decide) (fun h1 => ?_) (fun h1 => ?_)
      · have e1 : i = j := by omega
        rw [show j - i = 0 by omega, flr] at hz1
        refine lv_iload_n hX.1 hX.2.1 d_Ma_firstLike_24 rfl (lv_at hl 1 rfl) ?_
        exact kiret hX hr hlocks hQ () (hW) (by rw [← hz1, e1]) d_Ma_firstLike_25
      · rw [show j - i = (j - (i + 1)) + 1 by omega, flr] at hz1
        refine lv_aload_n hX.1 hX.2.1 d_Ma_firstLike_7 rfl (lv_at hl 2 rfl) ?_
        refine lv_iload_n hX.1 hX.2.1 d_Ma_firstLike_8 rfl (lv_at hl 0 rfl) ?_
        refine lv_iload_n hX.1 hX.2.1 d_Ma_firstLike_9 rfl (lv_at hl 1 rfl) ?_
        refine kCi (wc := [(ma, .inr (1, [.ref se, .ref nu, .ref nx, .ref ac, .ref gr, .ref fn, .ref tl, .int (nI z)])), (se, .inl (k 0, 257, .inl (aN SE))), (nu, .inl (k 0, 257, .inl (aM NU))), (nx, .inl (k 0, 1028, .inl (aN NX))), (ac, .inl (k 0, 257, .inl (aN AC))), (gr, .inl (k 0, 257, .inl (aN GR))), (fn, .inl (k 0, 257, .inl (aN FN))), (tl, .inl (k 1, 7967, .inr (.inl (aL TL))))]) hW [0, 1, 2, 3, 4, 5, 6, 7] (by rfl) (by intro _; rfl) (kRunV (n := 2) (As := [.int (nI i), .int (nI j)]) (rest := []) hX hml hW (ok_Ma_alike l D k H.size ma se nu nx ac gr fn tl SE NU NX AC GR FN TL z i j (by omega) hj hz hNX hG) m_Ma_87 im_Ma_alike se_Ma_alike in_Ma cd_Ma_alike [0, 1, 2, 3, 4, 5, 6, 7] rfl rfl rfl rfl (by decide +kernel) ⟨rfl, rfl, by decide, by decide⟩ rfl hl.1 rfl (by decide) d_Ma_firstLike_10 ⟨by first | exact Nat.zero_le _ | decide | omega | (dsimp only; omega), by first | exact Nat.zero_le _ | decide | omega | (dsimp only; omega)⟩) (fun r u H locs hr1 hW => ?_)
        have hW : KW D k A s [(ma, .inr (1, [.ref se, .ref nu, .ref nx, .ref ac, .ref gr, .ref fn, .ref tl, .int (nI z)])), (se, .inl (k 0, 257, .inl (aN SE))), (nu, .inl (k 0, 257, .inl (aM NU))), (nx, .inl (k 0, 1028, .inl (aN NX))), (ac, .inl (k 0, 257, .inl (aN AC))), (gr, .inl (k 0, 257, .inl (aN GR))), (fn, .inl (k 0, 257, .inl (aN FN))), (tl, .inl (k 1, 7967, .inr (.inl (aL TL))))] H locs := hW
        subst hr1
        refine kz hX (tgt := 18) (bT _) d_Ma_firstLike_13 (by decide) (fun h2 => ?_) (fun h2 => ?_)
        · rw [bT_0 h2] at hz1
          refine lv_iinc (v := nI (i + 1)) (lv' := [(2, .int (nI (i + 1))), (1, .int (nI j)), (0, .ref ma)]) hX.1 hX.2.1 d_Ma_firstLike_18 hl (k := 0) rfl (kn_inc _) (by decide) rfl (fun ls hl => ?_)
          refine lv_goto (tgt := 2) hX.1 hX.2.1 d_Ma_firstLike_21 (by decide) ?_
          exact ih (i + 1) H locs ls (by omega) (by omega) hz1 (hW) (lv_sub hl [0, 1, 2] rfl)
        · rw [bT_1 h2] at hz1
          refine lv_iload_n hX.1 hX.2.1 d_Ma_firstLike_16 rfl (lv_at hl 0 rfl) ?_
          exact kiret hX hr hlocks hQ () (hW) (by rw [← hz1]; rfl) d_Ma_firstLike_17
  exact lp (j + 1) 0 H locs ls (by omega) (by omega) (by rw [Nat.sub_zero]; exact ho) (hW) (lv_sub hl [0, 2, 1] rfl)
set_option maxHeartbeats 4000000 in
set_option maxRecDepth 100000 in
/-- refine() -/
theorem ok_Ma_refine (l : Launch) (D : va_G) (k : Nat → ClassId) (sz : Nat) (ma se nu nx ac gr fn tl : Nat) (SE NU NX AC GR FN TL : Nat → Nat) (z : Nat) (hz : z ≤ 257) (hNX : ∀ x, x < 1028 → NX x < 257) (hG : ∀ x, x < 257 → GR x < 1000) : Met l y_Ma_refine (.code y_Ma_refine c_Ma_refine 4 (some .int) :: wsU) ({ frames := 2, cells := 0, slots := 0, locals := 60 } : Room) (kPre D k [.ref ma] [(ma, .inr (1, [.ref se, .ref nu, .ref nx, .ref ac, .ref gr, .ref fn, .ref tl, .int (nI z)])), (se, .inl (k 0, 257, .inl (aN SE))), (nu, .inl (k 0, 257, .inl (aM NU))), (nx, .inl (k 0, 1028, .inl (aN NX))), (ac, .inl (k 0, 257, .inl (aN AC))), (gr, .inl (k 0, 257, .inl (aN GR))), (fn, .inl (k 0, 257, .inl (aN FN))), (tl, .inl (k 1, 7967, .inr (.inl (aL TL))))] sz) (va_Qi (fun (r : Int32) (_ : Unit) => r = nI (rfs NX GR FN z).1) (kB D k (fun _ : Unit => [(ma, .inr (1, [.ref se, .ref nu, .ref nx, .ref ac, .ref gr, .ref fn, .ref tl, .int (nI z)])), (se, .inl (k 0, 257, .inl (aN SE))), (nu, .inl (k 0, 257, .inl (aM NU))), (nx, .inl (k 0, 1028, .inl (aN NX))), (ac, .inl (k 0, 257, .inl (aN AC))), (gr, .inl (k 0, 257, .inl (aN (cpz (rfs NX GR FN z).2 GR z)))), (fn, .inl (k 0, 257, .inl (aN ((rfs NX GR FN z).2)))), (tl, .inl (k 1, 7967, .inr (.inl (aL TL))))]) (va_A [(ma, .inr (1, [.ref se, .ref nu, .ref nx, .ref ac, .ref gr, .ref fn, .ref tl, .int (nI z)])), (se, .inl (k 0, 257, .inl (aN SE))), (nu, .inl (k 0, 257, .inl (aM NU))), (nx, .inl (k 0, 1028, .inl (aN NX))), (ac, .inl (k 0, 257, .inl (aN AC))), (gr, .inl (k 0, 257, .inl (aN GR))), (fn, .inl (k 0, 257, .inl (aN FN))), (tl, .inl (k 1, 7967, .inr (.inl (aL TL))))] sz)) (va_A [(ma, .inr (1, [.ref se, .ref nu, .ref nx, .ref ac, .ref gr, .ref fn, .ref tl, .int (nI z)])), (se, .inl (k 0, 257, .inl (aN SE))), (nu, .inl (k 0, 257, .inl (aM NU))), (nx, .inl (k 0, 1028, .inl (aN NX))), (ac, .inl (k 0, 257, .inl (aN AC))), (gr, .inl (k 0, 257, .inl (aN GR))), (fn, .inl (k 0, 257, .inl (aN FN))), (tl, .inl (k 1, 7967, .inr (.inl (aL TL))))] sz)) 0 0 (va_A [(ma, .inr (1, [.ref se, .ref nu, .ref nx, .ref ac, .ref gr, .ref fn, .ref tl, .int (nI z)])), (se, .inl (k 0, 257, .inl (aN SE))), (nu, .inl (k 0, 257, .inl (aM NU))), (nx, .inl (k 0, 1028, .inl (aN NX))), (ac, .inl (k 0, 257, .inl (aN AC))), (gr, .inl (k 0, 257, .inl (aN GR))), (fn, .inl (k 0, 257, .inl (aN FN))), (tl, .inl (k 1, 7967, .inr (.inl (aL TL))))] sz) := by
  refine kMet (by decide) (Nat.le_of_ble_eq_true rfl) ?_
  intro p e s m below meth c ls hX hml hr hlocks hin hsz hW hl Q hQ
  generalize hAe : va_A [(ma, .inr (1, [.ref se, .ref nu, .ref nx, .ref ac, .ref gr, .ref fn, .ref tl, .int (nI z)])), (se, .inl (k 0, 257, .inl (aN SE))), (nu, .inl (k 0, 257, .inl (aM NU))), (nx, .inl (k 0, 1028, .inl (aN NX))), (ac, .inl (k 0, 257, .inl (aN AC))), (gr, .inl (k 0, 257, .inl (aN GR))), (fn, .inl (k 0, 257, .inl (aN FN))), (tl, .inl (k 1, 7967, .inr (.inl (aL TL))))] sz = A at hW hQ
  generalize hH0 : s.heap = H at hW ⊢
  generalize hl0 : ([] : List Loc) = locs at hW ⊢
  have hX : FX p s m c [.ref ma].toArray c_Ma_refine R_Ma := hX
  have hl : lv_has ls 4 [(0, .ref ma)] := hl
  refine lv_iconst (v := nI 0) hX.1 hX.2.1 d_Ma_refine_0 (by decide) ?_
  refine lv_istore_n (lv' := [(1, .int (nI 0)), (0, .ref ma)]) hX.1 hX.2.1 d_Ma_refine_1 rfl hl (by decide) rfl (fun ls hl => ?_)
  refine lv_iconst (v := nI 0) hX.1 hX.2.1 d_Ma_refine_2 (by decide) ?_
  refine lv_istore_n (lv' := [(2, .int (nI 0)), (1, .int (nI 0)), (0, .ref ma)]) hX.1 hX.2.1 d_Ma_refine_3 rfl hl (by decide) rfl (fun ls hl => ?_)
  have lp : ∀ (fu : Nat) (s1 : Nat) (H : Heap) (locs : List Loc) (ls : Array Slot), s1 ≤ z → z < s1 + fu →  KW D k A s [(ma, .inr (1, [.ref se, .ref nu, .ref nx, .ref ac, .ref gr, .ref fn, .ref tl, .int (nI z)])), (se, .inl (k 0, 257, .inl (aN SE))), (nu, .inl (k 0, 257, .inl (aM NU))), (nx, .inl (k 0, 1028, .inl (aN NX))), (ac, .inl (k 0, 257, .inl (aN AC))), (gr, .inl (k 0, 257, .inl (aN GR))), (fn, .inl (k 0, 257, .inl (aN ((rfs NX GR FN s1).2)))), (tl, .inl (k 1, 7967, .inr (.inl (aL TL))))] H locs → lv_has ls 4 [(2, .int (nI s1)), (1, .int (nI ((rfs NX GR FN s1).1))), (0, .ref ma)] → W p l e ({ frames := 2, cells := 0, slots := 0, locals := 60 } : Room) s m [.ref ma].toArray below meth c H locs 0 0 Q (F0 m 4 ls []) := by
    intro fu
    induction fu with
    | zero => intro s1 H locs ls lp1 lp2 hW hl; exfalso; omega
    | succ fu ih =>
      intro s1 H locs ls lp1 lp2 hW hl
      refine lv_iload_n hX.1 hX.2.1 d_Ma_refine_4 rfl (lv_at hl 0 rfl) ?_
      refine lv_aload_n hX.1 hX.2.1 d_Ma_refine_5 rfl (lv_at hl 2 rfl) ?_
      refine kget hX hW i_Ma 0 rfl rfl 7 (by decide) f_Ma_36 rfl rfl d_Ma_refine_6 ?_
      refine kge hX (tgt := 54) (by omega) (by omega) d_Ma_refine_9 (by decide) (fun h1 => ?_) (fun h1 => ?_)
      · have e1 : z = s1 := by omega
        subst e1
        refine lv_aload_n hX.1 hX.2.1 d_Ma_refine_54 rfl (lv_at hl 2 rfl) ?_
        refine kget hX hW i_Ma 0 rfl rfl 5 (by decide) f_Ma_29 rfl rfl d_Ma_refine_55 ?_
        refine lv_iconst (v := nI 0) hX.1 hX.2.1 d_Ma_refine_58 (by decide) ?_
        refine lv_aload_n hX.1 hX.2.1 d_Ma_refine_59 rfl (lv_at hl 2 rfl) ?_
        refine kget hX hW i_Ma 0 rfl rfl 4 (by decide) f_Ma_26 rfl rfl d_Ma_refine_60 ?_
        refine lv_iconst (v := nI 0) hX.1 hX.2.1 d_Ma_refine_63 (by decide) ?_
        refine lv_aload_n hX.1 hX.2.1 d_Ma_refine_64 rfl (lv_at hl 2 rfl) ?_
        refine kget hX hW i_Ma 0 rfl rfl 7 (by decide) f_Ma_36 rfl rfl d_Ma_refine_65 ?_
        refine kcopy (sp := 0) (dp := 0) (n := z) hX (hml.trans hl.1.symm) hW m_Ma_74 6 5 rfl rfl (by omega) (by omega) (by decide) (by decide) (by decide) (by decide) d_Ma_refine_68 (fun H locs hW => ?_)
        rw [cpz_aN] at hW
        have hW : KW D k A s [(ma, .inr (1, [.ref se, .ref nu, .ref nx, .ref ac, .ref gr, .ref fn, .ref tl, .int (nI z)])), (se, .inl (k 0, 257, .inl (aN SE))), (nu, .inl (k 0, 257, .inl (aM NU))), (nx, .inl (k 0, 1028, .inl (aN NX))), (ac, .inl (k 0, 257, .inl (aN AC))), (gr, .inl (k 0, 257, .inl (aN (cpz (rfs NX GR FN z).2 GR z)))), (fn, .inl (k 0, 257, .inl (aN ((rfs NX GR FN z).2)))), (tl, .inl (k 1, 7967, .inr (.inl (aL TL))))] H locs := hW
        refine lv_iload_n hX.1 hX.2.1 d_Ma_refine_71 rfl (lv_at hl 1 rfl) ?_
        exact kiret hX hr hlocks hQ () (hW) (rfl) d_Ma_refine_72
      · refine lv_aload_n hX.1 hX.2.1 d_Ma_refine_12 rfl (lv_at hl 2 rfl) ?_
        refine lv_iload_n hX.1 hX.2.1 d_Ma_refine_13 rfl (lv_at hl 0 rfl) ?_
        refine kCi (wc := [(ma, .inr (1, [.ref se, .ref nu, .ref nx, .ref ac, .ref gr, .ref fn, .ref tl, .int (nI z)])), (se, .inl (k 0, 257, .inl (aN SE))), (nu, .inl (k 0, 257, .inl (aM NU))), (nx, .inl (k 0, 1028, .inl (aN NX))), (ac, .inl (k 0, 257, .inl (aN AC))), (gr, .inl (k 0, 257, .inl (aN GR))), (fn, .inl (k 0, 257, .inl (aN ((rfs NX GR FN s1).2)))), (tl, .inl (k 1, 7967, .inr (.inl (aL TL))))]) hW [0, 1, 2, 3, 4, 5, 6, 7] (by rfl) (by intro _; rfl) (kRunV (n := 1) (As := [.int (nI s1)]) (rest := []) hX hml hW (ok_Ma_firstLike l D k H.size ma se nu nx ac gr fn tl SE NU NX AC GR (rfs NX GR FN s1).2 TL z s1 (by omega) hz hNX hG) m_Ma_84 im_Ma_firstLike se_Ma_firstLike in_Ma cd_Ma_firstLike [0, 1, 2, 3, 4, 5, 6, 7] rfl rfl rfl rfl (by decide +kernel) ⟨rfl, rfl, by decide, by decide⟩ rfl hl.1 rfl (by decide) d_Ma_refine_14 ⟨by first | exact Nat.zero_le _ | decide | omega | (dsimp only; omega), by first | exact Nat.zero_le _ | decide | omega | (dsimp only; omega)⟩) (fun r u H locs hr1 hW => ?_)
        have hW : KW D k A s [(ma, .inr (1, [.ref se, .ref nu, .ref nx, .ref ac, .ref gr, .ref fn, .ref tl, .int (nI z)])), (se, .inl (k 0, 257, .inl (aN SE))), (nu, .inl (k 0, 257, .inl (aM NU))), (nx, .inl (k 0, 1028, .inl (aN NX))), (ac, .inl (k 0, 257, .inl (aN AC))), (gr, .inl (k 0, 257, .inl (aN GR))), (fn, .inl (k 0, 257, .inl (aN ((rfs NX GR FN s1).2)))), (tl, .inl (k 1, 7967, .inr (.inl (aL TL))))] H locs := hW
        subst hr1
        have hfl := flr_le NX GR s1 s1 0
        have hrl := rfs_le NX GR FN s1
        refine lv_istore_n (lv' := [(3, .int (nI (flr NX GR s1 s1 0))), (2, .int (nI s1)), (1, .int (nI ((rfs NX GR FN s1).1))), (0, .ref ma)]) hX.1 hX.2.1 d_Ma_refine_17 rfl hl (by decide) rfl (fun ls hl => ?_)
        refine lv_iload_n hX.1 hX.2.1 d_Ma_refine_18 rfl (lv_at hl 0 rfl) ?_
        refine lv_iload_n hX.1 hX.2.1 d_Ma_refine_19 rfl (lv_at hl 1 rfl) ?_
        refine kge hX (tgt := 38) (by omega) (by omega) d_Ma_refine_20 (by decide) (fun h2 => ?_) (fun h2 => ?_)
        · refine lv_aload_n hX.1 hX.2.1 d_Ma_refine_38 rfl (lv_at hl 3 rfl) ?_
          refine kget hX hW i_Ma 0 rfl rfl 5 (by decide) f_Ma_29 rfl rfl d_Ma_refine_39 ?_
          refine lv_iload_n hX.1 hX.2.1 d_Ma_refine_42 rfl (lv_at hl 1 rfl) ?_
          refine lv_iload_n hX.1 hX.2.1 d_Ma_refine_43 rfl (lv_at hl 2 rfl) ?_
          refine kiast hX hW 6 rfl (by omega) (by first | decide | omega) d_Ma_refine_44 (fun H locs hW => ?_)
          have hW : KW D k A s [(ma, .inr (1, [.ref se, .ref nu, .ref nx, .ref ac, .ref gr, .ref fn, .ref tl, .int (nI z)])), (se, .inl (k 0, 257, .inl (aN SE))), (nu, .inl (k 0, 257, .inl (aM NU))), (nx, .inl (k 0, 1028, .inl (aN NX))), (ac, .inl (k 0, 257, .inl (aN AC))), (gr, .inl (k 0, 257, .inl (aN GR))), (fn, .inl (k 0, 257, .inl (aN (va_up ((rfs NX GR FN s1).2) s1 ((rfs NX GR FN s1).1))))), (tl, .inl (k 1, 7967, .inr (.inl (aL TL))))] H locs := hW
          refine lv_iinc (v := nI (((rfs NX GR FN s1).1) + 1)) (lv' := [(1, .int (nI (((rfs NX GR FN s1).1) + 1))), (3, .int (nI (flr NX GR s1 s1 0))), (2, .int (nI s1)), (0, .ref ma)]) hX.1 hX.2.1 d_Ma_refine_45 hl (k := 2) rfl (kn_inc _) (by decide) rfl (fun ls hl => ?_)
          have e2 : rfs NX GR FN (s1 + 1) = ((rfs NX GR FN s1).1 + 1, va_up (rfs NX GR FN s1).2 s1 (rfs NX GR FN s1).1) := by rw [rfs, if_neg (by omega)]
          refine lv_iinc (v := nI (s1 + 1)) (lv' := [(2, .int (nI (s1 + 1))), (1, .int (nI (((rfs NX GR FN s1).1) + 1))), (3, .int (nI (flr NX GR s1 s1 0))), (0, .ref ma)]) hX.1 hX.2.1 d_Ma_refine_48 hl (k := 2) rfl (kn_inc _) (by decide) rfl (fun ls hl => ?_)
          refine lv_goto (tgt := 4) hX.1 hX.2.1 d_Ma_refine_51 (by decide) ?_
          exact ih (s1 + 1) H locs ls (by omega) (by omega) (by rw [e2]; exact hW) (by rw [e2]; exact lv_sub hl [0, 1, 3] rfl)
        · refine lv_aload_n hX.1 hX.2.1 d_Ma_refine_23 rfl (lv_at hl 3 rfl) ?_
          refine kget hX hW i_Ma 0 rfl rfl 5 (by decide) f_Ma_29 rfl rfl d_Ma_refine_24 ?_
          refine lv_iload_n hX.1 hX.2.1 d_Ma_refine_27 rfl (lv_at hl 1 rfl) ?_
          refine lv_aload_n hX.1 hX.2.1 d_Ma_refine_28 rfl (lv_at hl 3 rfl) ?_
          refine kget hX hW i_Ma 0 rfl rfl 5 (by decide) f_Ma_29 rfl rfl d_Ma_refine_29 ?_
          refine lv_iload_n hX.1 hX.2.1 d_Ma_refine_32 rfl (lv_at hl 0 rfl) ?_
          refine kiald hX hW 6 rfl (by omega) (by first | decide | omega) d_Ma_refine_33 ?_
          refine kiast hX hW 6 rfl (by omega) (by first | decide | omega) d_Ma_refine_34 (fun H locs hW => ?_)
          have hW : KW D k A s [(ma, .inr (1, [.ref se, .ref nu, .ref nx, .ref ac, .ref gr, .ref fn, .ref tl, .int (nI z)])), (se, .inl (k 0, 257, .inl (aN SE))), (nu, .inl (k 0, 257, .inl (aM NU))), (nx, .inl (k 0, 1028, .inl (aN NX))), (ac, .inl (k 0, 257, .inl (aN AC))), (gr, .inl (k 0, 257, .inl (aN GR))), (fn, .inl (k 0, 257, .inl (aN (va_up ((rfs NX GR FN s1).2) s1 (((rfs NX GR FN s1).2) (flr NX GR s1 s1 0)))))), (tl, .inl (k 1, 7967, .inr (.inl (aL TL))))] H locs := hW
          refine lv_goto (tgt := 48) hX.1 hX.2.1 d_Ma_refine_35 (by decide) ?_
          have e2 : rfs NX GR FN (s1 + 1) = ((rfs NX GR FN s1).1, va_up (rfs NX GR FN s1).2 s1 ((rfs NX GR FN s1).2 (flr NX GR s1 s1 0))) := by rw [rfs, if_pos h2]
          refine lv_iinc (v := nI (s1 + 1)) (lv' := [(2, .int (nI (s1 + 1))), (3, .int (nI (flr NX GR s1 s1 0))), (1, .int (nI ((rfs NX GR FN s1).1))), (0, .ref ma)]) hX.1 hX.2.1 d_Ma_refine_48 hl (k := 1) rfl (kn_inc _) (by decide) rfl (fun ls hl => ?_)
          refine lv_goto (tgt := 4) hX.1 hX.2.1 d_Ma_refine_51 (by decide) ?_
          exact ih (s1 + 1) H locs ls (by omega) (by omega) (by rw [e2]; exact hW) (by rw [e2]; exact lv_sub hl [0, 2, 3] rfl)
  exact lp (z + 1) 0 H locs ls (by omega) (by omega) (hW) (lv_sub hl [0, 1, 2] rfl)
end
section
/-! THE MACHINE: groups, tallies, building -/
theorem rfs_v (NX GR FN : Nat → Nat) : ∀ s j, j < s → (rfs NX GR FN s).2 j < (rfs NX GR FN s).1 := by
  intro s
  induction s with
  | zero => intro j h; omega
  | succ s ih =>
    intro j hj
    rw [rfs]
    by_cases c : flr NX GR s s 0 < s
    · rw [if_pos c]
      show va_up (rfs NX GR FN s).2 s ((rfs NX GR FN s).2 (flr NX GR s s 0)) j < (rfs NX GR FN s).1
      by_cases h : j = s
      · subst h; rw [va_up_self]; exact ih _ c
      · rw [va_up_ne _ _ h]; exact ih j (by omega)
    · rw [if_neg c]
      show va_up (rfs NX GR FN s).2 s (rfs NX GR FN s).1 j < (rfs NX GR FN s).1 + 1
      by_cases h : j = s
      · subst h; rw [va_up_self]; omega
      · rw [va_up_ne _ _ h]; have := ih j (by omega); omega
/-- r rounds of refinement, kn groups known -/
def grp (NX : Nat → Nat) (z : Nat) : Nat → Nat → (Nat → Nat) → (Nat → Nat) → Nat × (Nat → Nat) × (Nat → Nat)
  | 0, kn, GR, FN => (kn, GR, FN)
  | r + 1, kn, GR, FN => if (rfs NX GR FN z).1 = kn then (kn, cpz (rfs NX GR FN z).2 GR z, (rfs NX GR FN z).2) else grp NX z r (rfs NX GR FN z).1 (cpz (rfs NX GR FN z).2 GR z) (rfs NX GR FN z).2
theorem cpz_lt {NX GR FN : Nat → Nat} {z : Nat} (hz : z ≤ 257) (hG : ∀ x, x < 257 → GR x < 1000) : ∀ x, x < 257 → cpz (rfs NX GR FN z).2 GR z x < 1000 := by
  intro x hx
  unfold cpz
  split
  · rename_i h; have h1 := rfs_v NX GR FN z x h; have h2 := rfs_le NX GR FN z; omega
  · exact hG x hx
theorem cpz_lt2 {F G : Nat → Nat} {z : Nat} (hA : ∀ x, x < 257 → F x < 1000) (hG : ∀ x, x < 257 → G x < 1000) : ∀ x, x < 257 → cpz F G z x < 1000 := by
  intro x hx
  unfold cpz
  split
  · exact hA x hx
  · exact hG x hx
/-- the words over the first a letters -/
def tov (NX TL : Nat → Nat) (q sh : Nat) : Nat → Nat
  | 0 => 0
  | a + 1 => tov NX TL q sh a + TL (sh + NX (q * 4 + a))
def tl0 (AC TL : Nat → Nat) : Nat → Nat → Nat
  | 0 => TL
  | s + 1 => va_up (tl0 AC TL s) s (AC s)
def trow (NX TL : Nat → Nat) (n : Nat) : Nat → Nat → Nat
  | 0 => TL
  | s + 1 => va_up (trow NX TL n s) (n * 257 + s) (tov NX (trow NX TL n s) s ((n - 1) * 257) 4)
def tal (NX AC TL : Nat → Nat) (z : Nat) : Nat → Nat → Nat
  | 0 => tl0 AC TL z
  | n + 1 => trow NX (tal NX AC TL z n) (n + 1) z
set_option maxHeartbeats 4000000 in
set_option maxRecDepth 100000 in
/-- groups() -/
theorem ok_Ma_groups (l : Launch) (D : va_G) (k : Nat → ClassId) (sz : Nat) (ma se nu nx ac gr fn tl : Nat) (SE NU NX AC GR FN TL : Nat → Nat) (z : Nat) (hz : z ≤ 257) (hNX : ∀ x, x < 1028 → NX x < 257) (hG : ∀ x, x < 257 → GR x < 1000) (hA : ∀ x, x < 257 → AC x < 1000) : Met l y_Ma_groups (.code y_Ma_groups c_Ma_groups 4 (some .int) :: wsU) ({ frames := 3, cells := 0, slots := 0, locals := 83 } : Room) (kPre D k [.ref ma] [(ma, .inr (1, [.ref se, .ref nu, .ref nx, .ref ac, .ref gr, .ref fn, .ref tl, .int (nI z)])), (se, .inl (k 0, 257, .inl (aN SE))), (nu, .inl (k 0, 257, .inl (aM NU))), (nx, .inl (k 0, 1028, .inl (aN NX))), (ac, .inl (k 0, 257, .inl (aN AC))), (gr, .inl (k 0, 257, .inl (aN GR))), (fn, .inl (k 0, 257, .inl (aN FN))), (tl, .inl (k 1, 7967, .inr (.inl (aL TL))))] sz) (va_Qi (fun (r : Int32) (_ : Unit) => r = nI (grp NX z (z + 1) 0 (cpz AC GR z) FN).1) (kB D k (fun _ : Unit => [(ma, .inr (1, [.ref se, .ref nu, .ref nx, .ref ac, .ref gr, .ref fn, .ref tl, .int (nI z)])), (se, .inl (k 0, 257, .inl (aN SE))), (nu, .inl (k 0, 257, .inl (aM NU))), (nx, .inl (k 0, 1028, .inl (aN NX))), (ac, .inl (k 0, 257, .inl (aN AC))), (gr, .inl (k 0, 257, .inl (aN ((grp NX z (z + 1) 0 (cpz AC GR z) FN).2.1)))), (fn, .inl (k 0, 257, .inl (aN ((grp NX z (z + 1) 0 (cpz AC GR z) FN).2.2)))), (tl, .inl (k 1, 7967, .inr (.inl (aL TL))))]) (va_A [(ma, .inr (1, [.ref se, .ref nu, .ref nx, .ref ac, .ref gr, .ref fn, .ref tl, .int (nI z)])), (se, .inl (k 0, 257, .inl (aN SE))), (nu, .inl (k 0, 257, .inl (aM NU))), (nx, .inl (k 0, 1028, .inl (aN NX))), (ac, .inl (k 0, 257, .inl (aN AC))), (gr, .inl (k 0, 257, .inl (aN GR))), (fn, .inl (k 0, 257, .inl (aN FN))), (tl, .inl (k 1, 7967, .inr (.inl (aL TL))))] sz)) (va_A [(ma, .inr (1, [.ref se, .ref nu, .ref nx, .ref ac, .ref gr, .ref fn, .ref tl, .int (nI z)])), (se, .inl (k 0, 257, .inl (aN SE))), (nu, .inl (k 0, 257, .inl (aM NU))), (nx, .inl (k 0, 1028, .inl (aN NX))), (ac, .inl (k 0, 257, .inl (aN AC))), (gr, .inl (k 0, 257, .inl (aN GR))), (fn, .inl (k 0, 257, .inl (aN FN))), (tl, .inl (k 1, 7967, .inr (.inl (aL TL))))] sz)) 0 0 (va_A [(ma, .inr (1, [.ref se, .ref nu, .ref nx, .ref ac, .ref gr, .ref fn, .ref tl, .int (nI z)])), (se, .inl (k 0, 257, .inl (aN SE))), (nu, .inl (k 0, 257, .inl (aM NU))), (nx, .inl (k 0, 1028, .inl (aN NX))), (ac, .inl (k 0, 257, .inl (aN AC))), (gr, .inl (k 0, 257, .inl (aN GR))), (fn, .inl (k 0, 257, .inl (aN FN))), (tl, .inl (k 1, 7967, .inr (.inl (aL TL))))] sz) := by
  refine kMet (by decide) (Nat.le_of_ble_eq_true rfl) ?_
  intro p e s m below meth c ls hX hml hr hlocks hin hsz hW hl Q hQ
  generalize hAe : va_A [(ma, .inr (1, [.ref se, .ref nu, .ref nx, .ref ac, .ref gr, .ref fn, .ref tl, .int (nI z)])), (se, .inl (k 0, 257, .inl (aN SE))), (nu, .inl (k 0, 257, .inl (aM NU))), (nx, .inl (k 0, 1028, .inl (aN NX))), (ac, .inl (k 0, 257, .inl (aN AC))), (gr, .inl (k 0, 257, .inl (aN GR))), (fn, .inl (k 0, 257, .inl (aN FN))), (tl, .inl (k 1, 7967, .inr (.inl (aL TL))))] sz = A at hW hQ
  generalize hH0 : s.heap = H at hW ⊢
  generalize hl0 : ([] : List Loc) = locs at hW ⊢
  have hX : FX p s m c [.ref ma].toArray c_Ma_groups R_Ma := hX
  have hl : lv_has ls 4 [(0, .ref ma)] := hl
  obtain ⟨o, ho⟩ : ∃ o, grp NX z (z + 1) 0 (cpz AC GR z) FN = o := ⟨_, rfl⟩
  rw [ho] at hQ
  refine lv_aload_n hX.1 hX.2.1 d_Ma_groups_0 rfl (lv_at hl 0 rfl) ?_
  refine kget hX hW i_Ma 0 rfl rfl 3 (by decide) f_Ma_23 rfl rfl d_Ma_groups_1 ?_
  refine lv_iconst (v := nI 0) hX.1 hX.2.1 d_Ma_groups_4 (by decide) ?_
  refine lv_aload_n hX.1 hX.2.1 d_Ma_groups_5 rfl (lv_at hl 0 rfl) ?_
  refine kget hX hW i_Ma 0 rfl rfl 4 (by decide) f_Ma_26 rfl rfl d_Ma_groups_6 ?_
  refine lv_iconst (v := nI 0) hX.1 hX.2.1 d_Ma_groups_9 (by decide) ?_
  refine lv_aload_n hX.1 hX.2.1 d_Ma_groups_10 rfl (lv_at hl 0 rfl) ?_
  refine kget hX hW i_Ma 0 rfl rfl 7 (by decide) f_Ma_36 rfl rfl d_Ma_groups_11 ?_
  refine kcopy (sp := 0) (dp := 0) (n := z) hX (hml.trans hl.1.symm) hW m_Ma_74 4 5 rfl rfl (by omega) (by omega) (by decide) (by decide) (by decide) (by decide) d_Ma_groups_14 (fun H locs hW => ?_)
  rw [cpz_aN] at hW
  have hW : KW D k A s [(ma, .inr (1, [.ref se, .ref nu, .ref nx, .ref ac, .ref gr, .ref fn, .ref tl, .int (nI z)])), (se, .inl (k 0, 257, .inl (aN SE))), (nu, .inl (k 0, 257, .inl (aM NU))), (nx, .inl (k 0, 1028, .inl (aN NX))), (ac, .inl (k 0, 257, .inl (aN AC))), (gr, .inl (k 0, 257, .inl (aN (cpz AC GR z)))), (fn, .inl (k 0, 257, .inl (aN FN))), (tl, .inl (k 1, 7967, .inr (.inl (aL TL))))] H locs := hW
  refine lv_iconst (v := nI 0) hX.1 hX.2.1 d_Ma_groups_17 (by decide) ?_
  refine lv_istore_n (lv' := [(1, .int (nI 0)), (0, .ref ma)]) hX.1 hX.2.1 d_Ma_groups_18 rfl hl (by decide) rfl (fun ls hl => ?_)
  refine lv_iconst (v := nI 0) hX.1 hX.2.1 d_Ma_groups_19 (by decide) ?_
  refine lv_istore_n (lv' := [(2, .int (nI 0)), (1, .int (nI 0)), (0, .ref ma)]) hX.1 hX.2.1 d_Ma_groups_20 rfl hl (by decide) rfl (fun ls hl => ?_)
  have lp : ∀ (fu : Nat) (rd : Nat) (kn : Nat) (G : Nat → Nat) (N : Nat → Nat) (H : Heap) (locs : List Loc) (ls : Array Slot), (rd ≤ z + 1) → (z + 1 < rd + fu) → (grp NX z (z + 1 - rd) kn G N = o) → (∀ x, x < 257 → G x < 1000) → (kn ≤ 257) →  KW D k A s [(ma, .inr (1, [.ref se, .ref nu, .ref nx, .ref ac, .ref gr, .ref fn, .ref tl, .int (nI z)])), (se, .inl (k 0, 257, .inl (aN SE))), (nu, .inl (k 0, 257, .inl (aM NU))), (nx, .inl (k 0, 1028, .inl (aN NX))), (ac, .inl (k 0, 257, .inl (aN AC))), (gr, .inl (k 0, 257, .inl (aN G))), (fn, .inl (k 0, 257, .inl (aN N))), (tl, .inl (k 1, 7967, .inr (.inl (aL TL))))] H locs → lv_has ls 4 [(2, .int (nI rd)), (1, .int (nI kn)), (0, .ref ma)] → W p l e ({ frames := 3, cells := 0, slots := 0, locals := 83 } : Room) s m [.ref ma].toArray below meth c H locs 0 0 Q (F0 m 21 ls []) := by
    intro fu
    induction fu with
    | zero => intro rd kn G N H locs ls lp1 lp2 hg hG1 hkn hW hl; exfalso; omega
    | succ fu ih =>
      intro rd kn G N H locs ls lp1 lp2 hg hG1 hkn hW hl
      refine lv_iload_n hX.1 hX.2.1 d_Ma_groups_21 rfl (lv_at hl 0 rfl) ?_
      refine lv_aload_n hX.1 hX.2.1 d_Ma_groups_22 rfl (lv_at hl 2 rfl) ?_
      refine kget hX hW i_Ma 0 rfl rfl 7 (by decide) f_Ma_36 rfl rfl d_Ma_groups_23 ?_
      refine kgt hX (tgt := 49) (by omega) (by omega) d_Ma_groups_26 (by decide) (fun h1 => ?_) (fun h1 => ?_)
      · rw [show z + 1 - rd = 0 by omega, grp] at hg
        refine lv_iload_n hX.1 hX.2.1 d_Ma_groups_49 rfl (lv_at hl 1 rfl) ?_
        subst hg
        exact kiret hX hr hlocks hQ () (hW) (rfl) d_Ma_groups_50
      · rw [show z + 1 - rd = (z - rd) + 1 by omega, grp] at hg
        refine lv_aload_n hX.1 hX.2.1 d_Ma_groups_29 rfl (lv_at hl 2 rfl) ?_
        refine kCi (wc := [(ma, .inr (1, [.ref se, .ref nu, .ref nx, .ref ac, .ref gr, .ref fn, .ref tl, .int (nI z)])), (se, .inl (k 0, 257, .inl (aN SE))), (nu, .inl (k 0, 257, .inl (aM NU))), (nx, .inl (k 0, 1028, .inl (aN NX))), (ac, .inl (k 0, 257, .inl (aN AC))), (gr, .inl (k 0, 257, .inl (aN G))), (fn, .inl (k 0, 257, .inl (aN N))), (tl, .inl (k 1, 7967, .inr (.inl (aL TL))))]) hW [0, 1, 2, 3, 4, 5, 6, 7] (by rfl) (by intro _; rfl) (kRunV (n := 0) (As := []) (rest := []) hX hml hW (ok_Ma_refine l D k H.size ma se nu nx ac gr fn tl SE NU NX AC G N TL z hz hNX hG1) m_Ma_80 im_Ma_refine se_Ma_refine in_Ma cd_Ma_refine [0, 1, 2, 3, 4, 5, 6, 7] rfl rfl rfl rfl (by decide +kernel) ⟨rfl, rfl, by decide, by decide⟩ rfl hl.1 rfl (Nat.le_of_ble_eq_true rfl) d_Ma_groups_30 ⟨by first | exact Nat.zero_le _ | decide | omega | (dsimp only; omega), by first | exact Nat.zero_le _ | decide | omega | (dsimp only; omega)⟩) (fun r u H locs hr1 hW => ?_)
        have hW : KW D k A s [(ma, .inr (1, [.ref se, .ref nu, .ref nx, .ref ac, .ref gr, .ref fn, .ref tl, .int (nI z)])), (se, .inl (k 0, 257, .inl (aN SE))), (nu, .inl (k 0, 257, .inl (aM NU))), (nx, .inl (k 0, 1028, .inl (aN NX))), (ac, .inl (k 0, 257, .inl (aN AC))), (gr, .inl (k 0, 257, .inl (aN (cpz (rfs NX G N z).2 G z)))), (fn, .inl (k 0, 257, .inl (aN ((rfs NX G N z).2)))), (tl, .inl (k 1, 7967, .inr (.inl (aL TL))))] H locs := hW
        subst hr1
        have hrl := rfs_le NX G N z
        have hG2 := cpz_lt (NX := NX) (FN := N) hz hG1
        refine lv_istore_n (lv' := [(3, .int (nI ((rfs NX G N z).1))), (2, .int (nI rd)), (1, .int (nI kn)), (0, .ref ma)]) hX.1 hX.2.1 d_Ma_groups_33 rfl hl (by decide) rfl (fun ls hl => ?_)
        refine lv_iload_n hX.1 hX.2.1 d_Ma_groups_34 rfl (lv_at hl 0 rfl) ?_
        refine lv_iload_n hX.1 hX.2.1 d_Ma_groups_35 rfl (lv_at hl 2 rfl) ?_
        refine kne hX (tgt := 41) (by omega) (by omega) d_Ma_groups_36 (by decide) (fun h2 => ?_) (fun h2 => ?_)
        · rw [if_neg h2] at hg
          refine lv_iload_n hX.1 hX.2.1 d_Ma_groups_41 rfl (lv_at hl 0 rfl) ?_
          refine lv_istore_n (lv' := [(1, .int (nI ((rfs NX G N z).1))), (3, .int (nI ((rfs NX G N z).1))), (2, .int (nI rd)), (0, .ref ma)]) hX.1 hX.2.1 d_Ma_groups_42 rfl hl (by decide) rfl (fun ls hl => ?_)
          refine lv_iinc (v := nI (rd + 1)) (lv' := [(2, .int (nI (rd + 1))), (1, .int (nI ((rfs NX G N z).1))), (3, .int (nI ((rfs NX G N z).1))), (0, .ref ma)]) hX.1 hX.2.1 d_Ma_groups_43 hl (k := 2) rfl (kn_inc _) (by decide) rfl (fun ls hl => ?_)
          refine lv_goto (tgt := 21) hX.1 hX.2.1 d_Ma_groups_46 (by decide) ?_
          exact ih (rd + 1) _ _ _ H locs ls (by omega) (by omega) (by rw [show z + 1 - (rd + 1) = z - rd by omega]; exact hg) hG2 (by omega) (hW) (lv_sub hl [0, 1, 3] rfl)
        · rw [if_pos h2] at hg
          refine lv_iload_n hX.1 hX.2.1 d_Ma_groups_39 rfl (lv_at hl 2 rfl) ?_
          subst hg
          exact kiret hX hr hlocks hQ () (hW) (rfl) d_Ma_groups_40
  exact lp (z + 2) 0 0 (cpz AC GR z) FN H locs ls (by omega) (by omega) ho (cpz_lt2 hA hG) (by decide) (hW) (lv_sub hl [0, 1, 2] rfl)
set_option maxHeartbeats 4000000 in
set_option maxRecDepth 100000 in
/-- tallyOver(q, shorter) -/
theorem ok_Ma_tallyOver (l : Launch) (D : va_G) (k : Nat → ClassId) (sz : Nat) (ma se nu nx ac gr fn tl : Nat) (SE NU NX AC GR FN TL : Nat → Nat) (z : Nat) (q sh : Nat) (hq : q < 257) (hsh : sh + 257 ≤ 7967) (hNX : ∀ x, x < 1028 → NX x < 257) : Met l y_Ma_tallyOver (.code y_Ma_tallyOver c_Ma_tallyOver 6 (some .long) :: wsU) ({ frames := 0, cells := 0, slots := 0, locals := 0 } : Room) (kPre D k [.ref ma, .int (nI q), .int (nI sh)] [(ma, .inr (1, [.ref se, .ref nu, .ref nx, .ref ac, .ref gr, .ref fn, .ref tl, .int (nI z)])), (se, .inl (k 0, 257, .inl (aN SE))), (nu, .inl (k 0, 257, .inl (aM NU))), (nx, .inl (k 0, 1028, .inl (aN NX))), (ac, .inl (k 0, 257, .inl (aN AC))), (gr, .inl (k 0, 257, .inl (aN GR))), (fn, .inl (k 0, 257, .inl (aN FN))), (tl, .inl (k 1, 7967, .inr (.inl (aL TL))))] sz) (va_Ql (fun (r : Int64) (_ : Unit) => r = lN (tov NX TL q sh 4)) (kB D k (fun _ : Unit => [(ma, .inr (1, [.ref se, .ref nu, .ref nx, .ref ac, .ref gr, .ref fn, .ref tl, .int (nI z)])), (se, .inl (k 0, 257, .inl (aN SE))), (nu, .inl (k 0, 257, .inl (aM NU))), (nx, .inl (k 0, 1028, .inl (aN NX))), (ac, .inl (k 0, 257, .inl (aN AC))), (gr, .inl (k 0, 257, .inl (aN GR))), (fn, .inl (k 0, 257, .inl (aN FN))), (tl, .inl (k 1, 7967, .inr (.inl (aL TL))))]) (va_A [(ma, .inr (1, [.ref se, .ref nu, .ref nx, .ref ac, .ref gr, .ref fn, .ref tl, .int (nI z)])), (se, .inl (k 0, 257, .inl (aN SE))), (nu, .inl (k 0, 257, .inl (aM NU))), (nx, .inl (k 0, 1028, .inl (aN NX))), (ac, .inl (k 0, 257, .inl (aN AC))), (gr, .inl (k 0, 257, .inl (aN GR))), (fn, .inl (k 0, 257, .inl (aN FN))), (tl, .inl (k 1, 7967, .inr (.inl (aL TL))))] sz)) (va_A [(ma, .inr (1, [.ref se, .ref nu, .ref nx, .ref ac, .ref gr, .ref fn, .ref tl, .int (nI z)])), (se, .inl (k 0, 257, .inl (aN SE))), (nu, .inl (k 0, 257, .inl (aM NU))), (nx, .inl (k 0, 1028, .inl (aN NX))), (ac, .inl (k 0, 257, .inl (aN AC))), (gr, .inl (k 0, 257, .inl (aN GR))), (fn, .inl (k 0, 257, .inl (aN FN))), (tl, .inl (k 1, 7967, .inr (.inl (aL TL))))] sz)) 0 0 (va_A [(ma, .inr (1, [.ref se, .ref nu, .ref nx, .ref ac, .ref gr, .ref fn, .ref tl, .int (nI z)])), (se, .inl (k 0, 257, .inl (aN SE))), (nu, .inl (k 0, 257, .inl (aM NU))), (nx, .inl (k 0, 1028, .inl (aN NX))), (ac, .inl (k 0, 257, .inl (aN AC))), (gr, .inl (k 0, 257, .inl (aN GR))), (fn, .inl (k 0, 257, .inl (aN FN))), (tl, .inl (k 1, 7967, .inr (.inl (aL TL))))] sz) := by
  refine kMet (by decide) (Nat.le_of_ble_eq_true rfl) ?_
  intro p e s m below meth c ls hX hml hr hlocks hin hsz hW hl Q hQ
  generalize hAe : va_A [(ma, .inr (1, [.ref se, .ref nu, .ref nx, .ref ac, .ref gr, .ref fn, .ref tl, .int (nI z)])), (se, .inl (k 0, 257, .inl (aN SE))), (nu, .inl (k 0, 257, .inl (aM NU))), (nx, .inl (k 0, 1028, .inl (aN NX))), (ac, .inl (k 0, 257, .inl (aN AC))), (gr, .inl (k 0, 257, .inl (aN GR))), (fn, .inl (k 0, 257, .inl (aN FN))), (tl, .inl (k 1, 7967, .inr (.inl (aL TL))))] sz = A at hW hQ
  generalize hH0 : s.heap = H at hW ⊢
  generalize hl0 : ([] : List Loc) = locs at hW ⊢
  have hX : FX p s m c [.ref ma, .int (nI q), .int (nI sh)].toArray c_Ma_tallyOver R_Ma := hX
  have hl : lv_has ls 6 [(0, .ref ma), (1, .int (nI q)), (2, .int (nI sh))] := hl
  refine lv_lconst (v := lN 0) hX.1 hX.2.1 d_Ma_tallyOver_0 (by decide) ?_
  refine lv_lstore_n (lv' := [(3, .long (lN 0)), (0, .ref ma), (1, .int (nI q)), (2, .int (nI sh))]) hX.1 hX.2.1 d_Ma_tallyOver_1 rfl hl (by decide) rfl (fun ls hl => ?_)
  refine lv_iconst (v := nI 0) hX.1 hX.2.1 d_Ma_tallyOver_2 (by decide) ?_
  refine lv_istore (lv' := [(5, .int (nI 0)), (3, .long (lN 0)), (0, .ref ma), (1, .int (nI q)), (2, .int (nI sh))]) hX.1 hX.2.1 d_Ma_tallyOver_3 hl (by decide) rfl (fun ls hl => ?_)
  have lp : ∀ (fu : Nat) (a : Nat) (H : Heap) (locs : List Loc) (ls : Array Slot), (a ≤ 4) → (4 < a + fu) →  KW D k A s [(ma, .inr (1, [.ref se, .ref nu, .ref nx, .ref ac, .ref gr, .ref fn, .ref tl, .int (nI z)])), (se, .inl (k 0, 257, .inl (aN SE))), (nu, .inl (k 0, 257, .inl (aM NU))), (nx, .inl (k 0, 1028, .inl (aN NX))), (ac, .inl (k 0, 257, .inl (aN AC))), (gr, .inl (k 0, 257, .inl (aN GR))), (fn, .inl (k 0, 257, .inl (aN FN))), (tl, .inl (k 1, 7967, .inr (.inl (aL TL))))] H locs → lv_has ls 6 [(5, .int (nI a)), (3, .long (lN (tov NX TL q sh a))), (2, .int (nI sh)), (1, .int (nI q)), (0, .ref ma)] → W p l e ({ frames := 0, cells := 0, slots := 0, locals := 0 } : Room) s m [.ref ma, .int (nI q), .int (nI sh)].toArray below meth c H locs 0 0 Q (F0 m 5 ls []) := by
    intro fu
    induction fu with
    | zero => intro a H locs ls lp1 lp2 hW hl; exfalso; omega
    | succ fu ih =>
      intro a H locs ls lp1 lp2 hW hl
      refine lv_iload hX.1 hX.2.1 d_Ma_tallyOver_5 (lv_at hl 0 rfl) ?_
      refine lv_iconst (v := nI 4) hX.1 hX.2.1 d_Ma_tallyOver_7 (by decide) ?_
      refine kge hX (tgt := 38) (by omega) (by omega) d_Ma_tallyOver_8 (by decide) (fun h1 => ?_) (fun h1 => ?_)
      · have e1 : a = 4 := by omega
        subst e1
        refine lv_lload_n hX.1 hX.2.1 d_Ma_tallyOver_38 rfl (lv_at hl 1 rfl) ?_
        exact klret hX hr hlocks hQ () (hW) (rfl) d_Ma_tallyOver_39
      · refine lv_lload_n hX.1 hX.2.1 d_Ma_tallyOver_11 rfl (lv_at hl 1 rfl) ?_
        refine lv_aload_n hX.1 hX.2.1 d_Ma_tallyOver_12 rfl (lv_at hl 4 rfl) ?_
        refine kget hX hW i_Ma 0 rfl rfl 6 (by decide) f_Ma_32 rfl rfl d_Ma_tallyOver_13 ?_
        refine lv_iload_n hX.1 hX.2.1 d_Ma_tallyOver_16 rfl (lv_at hl 2 rfl) ?_
        refine lv_aload_n hX.1 hX.2.1 d_Ma_tallyOver_17 rfl (lv_at hl 4 rfl) ?_
        refine kget hX hW i_Ma 0 rfl rfl 2 (by decide) f_Ma_20 rfl rfl d_Ma_tallyOver_18 ?_
        refine lv_iload_n hX.1 hX.2.1 d_Ma_tallyOver_21 rfl (lv_at hl 3 rfl) ?_
        refine lv_iconst (v := nI 4) hX.1 hX.2.1 d_Ma_tallyOver_22 (by decide) ?_
        refine lv_imul hX.1 hX.2.1 d_Ma_tallyOver_23 ?_
        refine tpi (y := nI (q * 4)) (pk_mul _ _) ?_
        refine lv_iload hX.1 hX.2.1 d_Ma_tallyOver_24 (lv_at hl 0 rfl) ?_
        refine lv_iadd hX.1 hX.2.1 d_Ma_tallyOver_26 ?_
        refine tpi (y := nI (q * 4 + a)) (nI_add _ _) ?_
        refine kiald hX hW 3 rfl (by omega) (by first | decide | omega) d_Ma_tallyOver_27 ?_
        refine lv_iadd hX.1 hX.2.1 d_Ma_tallyOver_28 ?_
        refine tpi (y := nI (sh + NX (q * 4 + a))) (nI_add _ _) ?_
        refine klald hX hW 7 rfl (by have := hNX (q * 4 + a) (by omega); omega) (by first | decide | omega) d_Ma_tallyOver_29 ?_
        refine lv_ladd hX.1 hX.2.1 d_Ma_tallyOver_30 ?_
        refine tpl (y := lN (tov NX TL q sh a + TL (sh + NX (q * 4 + a)))) (lN_add _ _) ?_
        refine lv_lstore_n (lv' := [(3, .long (lN (tov NX TL q sh a + TL (sh + NX (q * 4 + a))))), (5, .int (nI a)), (2, .int (nI sh)), (1, .int (nI q)), (0, .ref ma)]) hX.1 hX.2.1 d_Ma_tallyOver_31 rfl hl (by decide) rfl (fun ls hl => ?_)
        refine lv_iinc (v := nI (a + 1)) (lv' := [(5, .int (nI (a + 1))), (3, .long (lN (tov NX TL q sh a + TL (sh + NX (q * 4 + a))))), (2, .int (nI sh)), (1, .int (nI q)), (0, .ref ma)]) hX.1 hX.2.1 d_Ma_tallyOver_32 hl (k := 1) rfl (kn_inc _) (by decide) rfl (fun ls hl => ?_)
        refine lv_goto (tgt := 5) hX.1 hX.2.1 d_Ma_tallyOver_35 (by decide) ?_
        exact ih (a + 1) H locs ls (by omega) (by omega) (hW) (lv_sub hl [0, 1, 2, 3, 4] rfl)
  exact lp 5 0 H locs ls (by omega) (by omega) (hW) (lv_sub hl [0, 1, 4, 3, 2] rfl)
set_option maxHeartbeats 4000000 in
set_option maxRecDepth 100000 in
/-- tally(length) -/
theorem ok_Ma_tally (l : Launch) (D : va_G) (k : Nat → ClassId) (sz : Nat) (ma se nu nx ac gr fn tl : Nat) (SE NU NX AC GR FN TL : Nat → Nat) (z : Nat) (len : Nat) (hlen : len ≤ 30) (hz : z ≤ 257) (hNX : ∀ x, x < 1028 → NX x < 257) (hA : ∀ x, x < 257 → AC x < 1000) : Met l y_Ma_tally (.code y_Ma_tally c_Ma_tally 4 (some .long) :: wsU) ({ frames := 1, cells := 0, slots := 0, locals := 25 } : Room) (kPre D k [.ref ma, .int (nI len)] [(ma, .inr (1, [.ref se, .ref nu, .ref nx, .ref ac, .ref gr, .ref fn, .ref tl, .int (nI z)])), (se, .inl (k 0, 257, .inl (aN SE))), (nu, .inl (k 0, 257, .inl (aM NU))), (nx, .inl (k 0, 1028, .inl (aN NX))), (ac, .inl (k 0, 257, .inl (aN AC))), (gr, .inl (k 0, 257, .inl (aN GR))), (fn, .inl (k 0, 257, .inl (aN FN))), (tl, .inl (k 1, 7967, .inr (.inl (aL TL))))] sz) (va_Ql (fun (r : Int64) (_ : Unit) => r = lN (tal NX AC TL z len (len * 257))) (kB D k (fun _ : Unit => [(ma, .inr (1, [.ref se, .ref nu, .ref nx, .ref ac, .ref gr, .ref fn, .ref tl, .int (nI z)])), (se, .inl (k 0, 257, .inl (aN SE))), (nu, .inl (k 0, 257, .inl (aM NU))), (nx, .inl (k 0, 1028, .inl (aN NX))), (ac, .inl (k 0, 257, .inl (aN AC))), (gr, .inl (k 0, 257, .inl (aN GR))), (fn, .inl (k 0, 257, .inl (aN FN))), (tl, .inl (k 1, 7967, .inr (.inl (aL (tal NX AC TL z len)))))]) (va_A [(ma, .inr (1, [.ref se, .ref nu, .ref nx, .ref ac, .ref gr, .ref fn, .ref tl, .int (nI z)])), (se, .inl (k 0, 257, .inl (aN SE))), (nu, .inl (k 0, 257, .inl (aM NU))), (nx, .inl (k 0, 1028, .inl (aN NX))), (ac, .inl (k 0, 257, .inl (aN AC))), (gr, .inl (k 0, 257, .inl (aN GR))), (fn, .inl (k 0, 257, .inl (aN FN))), (tl, .inl (k 1, 7967, .inr (.inl (aL TL))))] sz)) (va_A [(ma, .inr (1, [.ref se, .ref nu, .ref nx, .ref ac, .ref gr, .ref fn, .ref tl, .int (nI z)])), (se, .inl (k 0, 257, .inl (aN SE))), (nu, .inl (k 0, 257, .inl (aM NU))), (nx, .inl (k 0, 1028, .inl (aN NX))), (ac, .inl (k 0, 257, .inl (aN AC))), (gr, .inl (k 0, 257, .inl (aN GR))), (fn, .inl (k 0, 257, .inl (aN FN))), (tl, .inl (k 1, 7967, .inr (.inl (aL TL))))] sz)) 0 0 (va_A [(ma, .inr (1, [.ref se, .ref nu, .ref nx, .ref ac, .ref gr, .ref fn, .ref tl, .int (nI z)])), (se, .inl (k 0, 257, .inl (aN SE))), (nu, .inl (k 0, 257, .inl (aM NU))), (nx, .inl (k 0, 1028, .inl (aN NX))), (ac, .inl (k 0, 257, .inl (aN AC))), (gr, .inl (k 0, 257, .inl (aN GR))), (fn, .inl (k 0, 257, .inl (aN FN))), (tl, .inl (k 1, 7967, .inr (.inl (aL TL))))] sz) := by
  refine kMet (by decide) (Nat.le_of_ble_eq_true rfl) ?_
  intro p e s m below meth c ls hX hml hr hlocks hin hsz hW hl Q hQ
  generalize hAe : va_A [(ma, .inr (1, [.ref se, .ref nu, .ref nx, .ref ac, .ref gr, .ref fn, .ref tl, .int (nI z)])), (se, .inl (k 0, 257, .inl (aN SE))), (nu, .inl (k 0, 257, .inl (aM NU))), (nx, .inl (k 0, 1028, .inl (aN NX))), (ac, .inl (k 0, 257, .inl (aN AC))), (gr, .inl (k 0, 257, .inl (aN GR))), (fn, .inl (k 0, 257, .inl (aN FN))), (tl, .inl (k 1, 7967, .inr (.inl (aL TL))))] sz = A at hW hQ
  generalize hH0 : s.heap = H at hW ⊢
  generalize hl0 : ([] : List Loc) = locs at hW ⊢
  have hX : FX p s m c [.ref ma, .int (nI len)].toArray c_Ma_tally R_Ma := hX
  have hl : lv_has ls 4 [(0, .ref ma), (1, .int (nI len))] := hl
  refine lv_iconst (v := nI 0) hX.1 hX.2.1 d_Ma_tally_0 (by decide) ?_
  refine lv_istore_n (lv' := [(2, .int (nI 0)), (0, .ref ma), (1, .int (nI len))]) hX.1 hX.2.1 d_Ma_tally_1 rfl hl (by decide) rfl (fun ls hl => ?_)
  have k31 : ∀ (fu n0 : Nat) (H : Heap) (locs : List Loc) (ls : Array Slot), n0 ≤ len → len < n0 + fu → KW D k A s [(ma, .inr (1, [.ref se, .ref nu, .ref nx, .ref ac, .ref gr, .ref fn, .ref tl, .int (nI z)])), (se, .inl (k 0, 257, .inl (aN SE))), (nu, .inl (k 0, 257, .inl (aM NU))), (nx, .inl (k 0, 1028, .inl (aN NX))), (ac, .inl (k 0, 257, .inl (aN AC))), (gr, .inl (k 0, 257, .inl (aN GR))), (fn, .inl (k 0, 257, .inl (aN FN))), (tl, .inl (k 1, 7967, .inr (.inl (aL (tal NX AC TL z n0)))))] H locs → lv_has ls 4 [(2, .int (nI (n0 + 1))), (1, .int (nI len)), (0, .ref ma)] → W p l e ({ frames := 1, cells := 0, slots := 0, locals := 25 } : Room) s m [.ref ma, .int (nI len)].toArray below meth c H locs 0 0 Q (F0 m 31 ls []) := by
    intro fu
    induction fu with
    | zero => intro n0 H locs ls h1 h2 hW hl; exfalso; omega
    | succ fu ih =>
      intro n0 H locs ls h1 h2 hW hl
      refine lv_iload_n hX.1 hX.2.1 d_Ma_tally_31 rfl (lv_at hl 0 rfl) ?_
      refine lv_iload_n hX.1 hX.2.1 d_Ma_tally_32 rfl (lv_at hl 1 rfl) ?_
      refine kgt hX (tgt := 82) (by omega) (by omega) d_Ma_tally_33 (by decide) (fun h3 => ?_) (fun h3 => ?_)
      · have e1 : len = n0 := by omega
        subst e1
        refine lv_aload_n hX.1 hX.2.1 d_Ma_tally_82 rfl (lv_at hl 2 rfl) ?_
        refine kget hX hW i_Ma 0 rfl rfl 6 (by decide) f_Ma_32 rfl rfl d_Ma_tally_83 ?_
        refine lv_iload_n hX.1 hX.2.1 d_Ma_tally_86 rfl (lv_at hl 1 rfl) ?_
        refine lv_sipush (v := nI 257) hX.1 hX.2.1 d_Ma_tally_87 (by decide) ?_
        refine lv_imul hX.1 hX.2.1 d_Ma_tally_90 ?_
        refine tpi (y := nI (len * 257)) (pk_mul _ _) ?_
        refine klald hX hW 7 rfl (by omega) (by first | decide | omega) d_Ma_tally_91 ?_
        exact klret hX hr hlocks hQ () (hW) (rfl) d_Ma_tally_92
      · obtain ⟨n1, hn1⟩ : ∃ n1, n0 + 1 = n1 := ⟨_, rfl⟩
        rw [hn1] at hl h3
        refine lv_iconst (v := nI 0) hX.1 hX.2.1 d_Ma_tally_36 (by decide) ?_
        refine lv_istore_n (lv' := [(3, .int (nI 0)), (2, .int (nI n1)), (1, .int (nI len)), (0, .ref ma)]) hX.1 hX.2.1 d_Ma_tally_37 rfl hl (by decide) rfl (fun ls hl => ?_)
        have ih0 := ih
        have lq : ∀ (fu : Nat) (s1 : Nat) (H : Heap) (locs : List Loc) (ls : Array Slot), (s1 ≤ z) → (z < s1 + fu) →  KW D k A s [(ma, .inr (1, [.ref se, .ref nu, .ref nx, .ref ac, .ref gr, .ref fn, .ref tl, .int (nI z)])), (se, .inl (k 0, 257, .inl (aN SE))), (nu, .inl (k 0, 257, .inl (aM NU))), (nx, .inl (k 0, 1028, .inl (aN NX))), (ac, .inl (k 0, 257, .inl (aN AC))), (gr, .inl (k 0, 257, .inl (aN GR))), (fn, .inl (k 0, 257, .inl (aN FN))), (tl, .inl (k 1, 7967, .inr (.inl (aL (trow NX (tal NX AC TL z n0) n1 s1)))))] H locs → lv_has ls 4 [(3, .int (nI s1)), (2, .int (nI n1)), (1, .int (nI len)), (0, .ref ma)] → W p l e ({ frames := 1, cells := 0, slots := 0, locals := 25 } : Room) s m [.ref ma, .int (nI len)].toArray below meth c H locs 0 0 Q (F0 m 38 ls []) := by
          intro fu
          induction fu with
          | zero => intro s1 H locs ls lq1 lq2 hW hl; exfalso; omega
          | succ fu ih =>
            intro s1 H locs ls lq1 lq2 hW hl
            refine lv_iload_n hX.1 hX.2.1 d_Ma_tally_38 rfl (lv_at hl 0 rfl) ?_
            refine lv_aload_n hX.1 hX.2.1 d_Ma_tally_39 rfl (lv_at hl 3 rfl) ?_
            refine kget hX hW i_Ma 0 rfl rfl 7 (by decide) f_Ma_36 rfl rfl d_Ma_tally_40 ?_
            refine kge hX (tgt := 76) (by omega) (by omega) d_Ma_tally_43 (by decide) (fun h4 => ?_) (fun h4 => ?_)
            · have e1 : z = s1 := by omega
              subst e1
              subst hn1
              refine lv_iinc (v := nI ((n0 + 1) + 1)) (lv' := [(2, .int (nI ((n0 + 1) + 1))), (3, .int (nI z)), (1, .int (nI len)), (0, .ref ma)]) hX.1 hX.2.1 d_Ma_tally_76 hl (k := 1) rfl (kn_inc _) (by decide) rfl (fun ls hl => ?_)
              refine lv_goto (tgt := 31) hX.1 hX.2.1 d_Ma_tally_79 (by decide) ?_
              exact ih0 (n0 + 1) H locs ls (by omega) (by omega) hW (lv_sub hl [0, 2, 3] rfl)
            · refine lv_aload_n hX.1 hX.2.1 d_Ma_tally_46 rfl (lv_at hl 3 rfl) ?_
              refine kget hX hW i_Ma 0 rfl rfl 6 (by decide) f_Ma_32 rfl rfl d_Ma_tally_47 ?_
              refine lv_iload_n hX.1 hX.2.1 d_Ma_tally_50 rfl (lv_at hl 1 rfl) ?_
              refine lv_sipush (v := nI 257) hX.1 hX.2.1 d_Ma_tally_51 (by decide) ?_
              refine lv_imul hX.1 hX.2.1 d_Ma_tally_54 ?_
              refine tpi (y := nI (n1 * 257)) (pk_mul _ _) ?_
              refine lv_iload_n hX.1 hX.2.1 d_Ma_tally_55 rfl (lv_at hl 0 rfl) ?_
              refine lv_iadd hX.1 hX.2.1 d_Ma_tally_56 ?_
              refine tpi (y := nI (n1 * 257 + s1)) (nI_add _ _) ?_
              refine lv_aload_n hX.1 hX.2.1 d_Ma_tally_57 rfl (lv_at hl 3 rfl) ?_
              refine lv_iload_n hX.1 hX.2.1 d_Ma_tally_58 rfl (lv_at hl 0 rfl) ?_
              refine lv_iload_n hX.1 hX.2.1 d_Ma_tally_59 rfl (lv_at hl 1 rfl) ?_
              refine lv_iconst (v := nI 1) hX.1 hX.2.1 d_Ma_tally_60 (by decide) ?_
              refine lv_isub hX.1 hX.2.1 d_Ma_tally_61 ?_
              refine tpi (y := nI (n1 - 1)) (pk_sub (by omega)) ?_
              refine lv_sipush (v := nI 257) hX.1 hX.2.1 d_Ma_tally_62 (by decide) ?_
              refine lv_imul hX.1 hX.2.1 d_Ma_tally_65 ?_
              refine tpi (y := nI ((n1 - 1) * 257)) (pk_mul _ _) ?_
              refine kCl (wc := [(ma, .inr (1, [.ref se, .ref nu, .ref nx, .ref ac, .ref gr, .ref fn, .ref tl, .int (nI z)])), (se, .inl (k 0, 257, .inl (aN SE))), (nu, .inl (k 0, 257, .inl (aM NU))), (nx, .inl (k 0, 1028, .inl (aN NX))), (ac, .inl (k 0, 257, .inl (aN AC))), (gr, .inl (k 0, 257, .inl (aN GR))), (fn, .inl (k 0, 257, .inl (aN FN))), (tl, .inl (k 1, 7967, .inr (.inl (aL (trow NX (tal NX AC TL z n0) n1 s1)))))]) hW [0, 1, 2, 3, 4, 5, 6, 7] (by rfl) (by intro _; rfl) (kRunV (n := 2) (As := [.int (nI s1), .int (nI ((n1 - 1) * 257))]) (rest := [.int (nI (n1 * 257 + s1)), .ref tl]) hX hml hW (ok_Ma_tallyOver l D k H.size ma se nu nx ac gr fn tl SE NU NX AC GR FN (trow NX (tal NX AC TL z n0) n1 s1) z s1 ((n1 - 1) * 257) (by omega) (by omega) hNX) m_Ma_61 im_Ma_tallyOver se_Ma_tallyOver in_Ma cd_Ma_tallyOver [0, 1, 2, 3, 4, 5, 6, 7] rfl rfl rfl rfl (by decide +kernel) ⟨rfl, rfl, by decide, by decide⟩ rfl hl.1 rfl (Nat.le_of_ble_eq_true rfl) d_Ma_tally_66 ⟨by first | exact Nat.zero_le _ | decide | omega | (dsimp only; omega), by first | exact Nat.zero_le _ | decide | omega | (dsimp only; omega)⟩) (fun r u H locs hr1 hW => ?_)
              have hW : KW D k A s [(ma, .inr (1, [.ref se, .ref nu, .ref nx, .ref ac, .ref gr, .ref fn, .ref tl, .int (nI z)])), (se, .inl (k 0, 257, .inl (aN SE))), (nu, .inl (k 0, 257, .inl (aM NU))), (nx, .inl (k 0, 1028, .inl (aN NX))), (ac, .inl (k 0, 257, .inl (aN AC))), (gr, .inl (k 0, 257, .inl (aN GR))), (fn, .inl (k 0, 257, .inl (aN FN))), (tl, .inl (k 1, 7967, .inr (.inl (aL (trow NX (tal NX AC TL z n0) n1 s1)))))] H locs := hW
              subst hr1
              refine klast hX hW 7 rfl (by omega) (by first | decide | omega) d_Ma_tally_69 (fun H locs hW => ?_)
              have hW : KW D k A s [(ma, .inr (1, [.ref se, .ref nu, .ref nx, .ref ac, .ref gr, .ref fn, .ref tl, .int (nI z)])), (se, .inl (k 0, 257, .inl (aN SE))), (nu, .inl (k 0, 257, .inl (aM NU))), (nx, .inl (k 0, 1028, .inl (aN NX))), (ac, .inl (k 0, 257, .inl (aN AC))), (gr, .inl (k 0, 257, .inl (aN GR))), (fn, .inl (k 0, 257, .inl (aN FN))), (tl, .inl (k 1, 7967, .inr (.inl (aL (va_up (trow NX (tal NX AC TL z n0) n1 s1) (n1 * 257 + s1) (tov NX (trow NX (tal NX AC TL z n0) n1 s1) s1 ((n1 - 1) * 257) 4))))))] H locs := hW
              refine lv_iinc (v := nI (s1 + 1)) (lv' := [(3, .int (nI (s1 + 1))), (2, .int (nI n1)), (1, .int (nI len)), (0, .ref ma)]) hX.1 hX.2.1 d_Ma_tally_70 hl (k := 0) rfl (kn_inc _) (by decide) rfl (fun ls hl => ?_)
              refine lv_goto (tgt := 38) hX.1 hX.2.1 d_Ma_tally_73 (by decide) ?_
              exact ih (s1 + 1) H locs ls (by omega) (by omega) (hW) (lv_sub hl [0, 1, 2, 3] rfl)
        exact lq (z + 1) 0 H locs ls (by omega) (by omega) (hW) (lv_sub hl [0, 1, 2, 3] rfl)
  have lp : ∀ (fu : Nat) (s1 : Nat) (H : Heap) (locs : List Loc) (ls : Array Slot), (s1 ≤ z) → (z < s1 + fu) →  KW D k A s [(ma, .inr (1, [.ref se, .ref nu, .ref nx, .ref ac, .ref gr, .ref fn, .ref tl, .int (nI z)])), (se, .inl (k 0, 257, .inl (aN SE))), (nu, .inl (k 0, 257, .inl (aM NU))), (nx, .inl (k 0, 1028, .inl (aN NX))), (ac, .inl (k 0, 257, .inl (aN AC))), (gr, .inl (k 0, 257, .inl (aN GR))), (fn, .inl (k 0, 257, .inl (aN FN))), (tl, .inl (k 1, 7967, .inr (.inl (aL (tl0 AC TL s1)))))] H locs → lv_has ls 4 [(2, .int (nI s1)), (1, .int (nI len)), (0, .ref ma)] → W p l e ({ frames := 1, cells := 0, slots := 0, locals := 25 } : Room) s m [.ref ma, .int (nI len)].toArray below meth c H locs 0 0 Q (F0 m 2 ls []) := by
    intro fu
    induction fu with
    | zero => intro s1 H locs ls lp1 lp2 hW hl; exfalso; omega
    | succ fu ih =>
      intro s1 H locs ls lp1 lp2 hW hl
      refine lv_iload_n hX.1 hX.2.1 d_Ma_tally_2 rfl (lv_at hl 0 rfl) ?_
      refine lv_aload_n hX.1 hX.2.1 d_Ma_tally_3 rfl (lv_at hl 2 rfl) ?_
      refine kget hX hW i_Ma 0 rfl rfl 7 (by decide) f_Ma_36 rfl rfl d_Ma_tally_4 ?_
      refine kge hX (tgt := 29) (by omega) (by omega) d_Ma_tally_7 (by decide) (fun h1 => ?_) (fun h1 => ?_)
      · have e1 : z = s1 := by omega
        subst e1
        refine lv_iconst (v := nI 1) hX.1 hX.2.1 d_Ma_tally_29 (by decide) ?_
        refine lv_istore_n (lv' := [(2, .int (nI 1)), (1, .int (nI len)), (0, .ref ma)]) hX.1 hX.2.1 d_Ma_tally_30 rfl hl (by decide) rfl (fun ls hl => ?_)
        exact k31 (len + 1) 0 H locs ls (by omega) (by omega) hW (lv_sub hl [0, 1, 2] rfl)
      · refine lv_aload_n hX.1 hX.2.1 d_Ma_tally_10 rfl (lv_at hl 2 rfl) ?_
        refine kget hX hW i_Ma 0 rfl rfl 6 (by decide) f_Ma_32 rfl rfl d_Ma_tally_11 ?_
        refine lv_iload_n hX.1 hX.2.1 d_Ma_tally_14 rfl (lv_at hl 0 rfl) ?_
        refine lv_aload_n hX.1 hX.2.1 d_Ma_tally_15 rfl (lv_at hl 2 rfl) ?_
        refine kget hX hW i_Ma 0 rfl rfl 3 (by decide) f_Ma_23 rfl rfl d_Ma_tally_16 ?_
        refine lv_iload_n hX.1 hX.2.1 d_Ma_tally_19 rfl (lv_at hl 0 rfl) ?_
        refine kiald hX hW 4 rfl (by omega) (by first | decide | omega) d_Ma_tally_20 ?_
        refine lv_i2l (v := lN (AC s1)) hX.1 hX.2.1 d_Ma_tally_21 (nI_l (by have := hA s1 (by omega); omega)) ?_
        refine klast hX hW 7 rfl (by omega) (by first | decide | omega) d_Ma_tally_22 (fun H locs hW => ?_)
        have hW : KW D k A s [(ma, .inr (1, [.ref se, .ref nu, .ref nx, .ref ac, .ref gr, .ref fn, .ref tl, .int (nI z)])), (se, .inl (k 0, 257, .inl (aN SE))), (nu, .inl (k 0, 257, .inl (aM NU))), (nx, .inl (k 0, 1028, .inl (aN NX))), (ac, .inl (k 0, 257, .inl (aN AC))), (gr, .inl (k 0, 257, .inl (aN GR))), (fn, .inl (k 0, 257, .inl (aN FN))), (tl, .inl (k 1, 7967, .inr (.inl (aL (va_up (tl0 AC TL s1) s1 (AC s1))))))] H locs := hW
        refine lv_iinc (v := nI (s1 + 1)) (lv' := [(2, .int (nI (s1 + 1))), (1, .int (nI len)), (0, .ref ma)]) hX.1 hX.2.1 d_Ma_tally_23 hl (k := 0) rfl (kn_inc _) (by decide) rfl (fun ls hl => ?_)
        refine lv_goto (tgt := 2) hX.1 hX.2.1 d_Ma_tally_26 (by decide) ?_
        exact ih (s1 + 1) H locs ls (by omega) (by omega) (hW) (lv_sub hl [0, 1, 2] rfl)
  exact lp (z + 1) 0 H locs ls (by omega) (by omega) (hW) (lv_sub hl [0, 2, 1] rfl)
end
section
/-! THE MACHINE: numbering, building -/
theorem aM_upI (F : Nat → Nat) (k v : Nat) : upd (aM F) k (nI v) = aM (va_up F k (v + 1)) := by rw [← nM_s]; exact aM_up F k (v + 1)
/-- an injective row of n numbers below m -/
theorem pigeon : ∀ (m n : Nat) (f : Nat → Nat), (∀ i, i < n → f i < m) → (∀ i j, i < n → j < n → f i = f j → i = j) → n ≤ m := by
  intro m
  induction m with
  | zero =>
    intro n f h1 _
    rcases Nat.eq_zero_or_pos n with h | h
    · omega
    · exact absurd (h1 0 h) (Nat.not_lt_zero _)
  | succ m ih =>
    intro n f h1 h2
    by_cases hx : ∃ i, i < n ∧ f i = m
    · obtain ⟨i0, hi0, hf0⟩ := hx
      have h3 := ih (n - 1) (fun j => if j < i0 then f j else f (j + 1)) (by
        intro j hj
        show (if j < i0 then f j else f (j + 1)) < m
        split
        · have a := h1 j (by omega)
          have b : f j ≠ m := fun e => by have := h2 j i0 (by omega) hi0 (by rw [e, hf0]); omega
          omega
        · have a := h1 (j + 1) (by omega)
          have b : f (j + 1) ≠ m := fun e => by have := h2 (j + 1) i0 (by omega) hi0 (by rw [e, hf0]); omega
          omega) (by
        intro i j hi hj e
        have e : (if i < i0 then f i else f (i + 1)) = (if j < i0 then f j else f (j + 1)) := e
        split at e <;> split at e
        · exact h2 i j (by omega) (by omega) e
        · have := h2 i (j + 1) (by omega) (by omega) e; omega
        · have := h2 (i + 1) j (by omega) (by omega) e; omega
        · have := h2 (i + 1) (j + 1) (by omega) (by omega) e; omega)
      omega
    · have h3 := ih n f (fun i hi => by
        have a := h1 i hi
        have b : f i ≠ m := fun e => hx ⟨i, hi, e⟩
        omega) h2
      omega
/-- how many states, which sets, their numbers and one, which accept -/
abbrev MZ : Type := Nat × (Nat → Nat) × (Nat → Nat) × (Nat → Nat)
def nq (en S : Nat) : MZ → MZ
  | (z, SE, NU, AC) => if NU S = 0 then (z + 1, va_up SE z S, va_up NU S (z + 1), va_up AC z (if S &&& en = 0 then 0 else 1)) else (z, SE, NU, AC)
def MI : MZ → Prop
  | (z, SE, NU, AC) => z ≤ 257 ∧ (∀ j, j < z → SE j < 257 ∧ NU (SE j) = j + 1) ∧ (∀ S, S < 257 → NU S ≠ 0 → NU S ≤ z ∧ SE (NU S - 1) = S) ∧ ∀ x, x < 257 → AC x < 1000
theorem MI_new {z : Nat} {SE NU AC : Nat → Nat} (h : MI (z, SE, NU, AC)) {S : Nat} (hS : S < 257) (h0 : NU S = 0) : z < 257 := by
  obtain ⟨h1, h2, h3, -⟩ := h
  have := pigeon 257 (z + 1) (va_up SE z S) (by
    intro i hi
    by_cases e : i = z
    · subst e; rw [va_up_self]; exact hS
    · rw [va_up_ne _ _ e]; exact (h2 i (by omega)).1) (by
    intro i j hi hj e
    by_cases ei : i = z <;> by_cases ej : j = z
    · omega
    · subst ei; rw [va_up_self, va_up_ne _ _ ej] at e
      have := (h2 j (by omega)).2; rw [← e, h0] at this; omega
    · subst ej; rw [va_up_self, va_up_ne _ _ ei] at e
      have := (h2 i (by omega)).2; rw [e, h0] at this; omega
    · rw [va_up_ne _ _ ei, va_up_ne _ _ ej] at e
      have a := (h2 i (by omega)).2
      have b := (h2 j (by omega)).2
      rw [e] at a; omega)
  omega
theorem MI_nq {en S : Nat} {m : MZ} (h : MI m) (hS : S < 257) : MI (nq en S m) := by
  obtain ⟨z, SE, NU, AC⟩ := m
  rw [nq]
  split
  · rename_i h0
    have hz := MI_new h hS h0
    obtain ⟨h1, h2, h3, h4⟩ := h
    refine ⟨by omega, fun j hj => ?_, fun T hT hN => ?_, fun x hx => ?_⟩
    · by_cases e : j = z
      · subst e; rw [va_up_self, va_up_self]; exact ⟨hS, rfl⟩
      · rw [va_up_ne _ _ e]
        have a := h2 j (by omega)
        refine ⟨a.1, ?_⟩
        rw [va_up_ne]
        · exact a.2
        · intro e2; rw [e2, h0] at a; omega
    · by_cases e : T = S
      · subst e; rw [va_up_self]; exact ⟨Nat.le_refl _, by rw [Nat.add_sub_cancel, va_up_self]⟩
      · rw [va_up_ne _ _ e] at hN ⊢
        have a := h3 T hT hN
        refine ⟨by omega, ?_⟩
        rw [va_up_ne _ _ (by omega)]; exact a.2
    · by_cases e : x = z
      · subst e; rw [va_up_self]; split <;> omega
      · rw [va_up_ne _ _ e]; exact h4 x hx
  · exact h
/-- the first a letters of state q, whose onward set is o -/
def bi (SP : Nat → Nat) (en o q : Nat) (m : MZ) (NX : Nat → Nat) : Nat → MZ × (Nat → Nat)
  | 0 => (m, NX)
  | a + 1 => (nq en (o &&& SP a) (bi SP en o q m NX a).1, va_up (bi SP en o q m NX a).2 (q * 4 + a) ((nq en (o &&& SP a) (bi SP en o q m NX a).1).2.2.1 (o &&& SP a) - 1))
def bo (FO SP : Nat → Nat) (en : Nat) : Nat → Nat → MZ → (Nat → Nat) → MZ × (Nat → Nat)
  | 0, _, m, NX => (m, NX)
  | r + 1, q, m, NX => if q < m.1 then bo FO SP en r (q + 1) (bi SP en (onw FO (m.2.1 q) 9) q m NX 4).1 (bi SP en (onw FO (m.2.1 q) 9) q m NX 4).2 else (m, NX)
/-- the machine of an expression -/
def bld (FO SP : Nat → Nat) (en : Nat) (SE AC NX : Nat → Nat) : MZ × (Nat → Nat) := bo FO SP en 257 0 (nq en 256 (0, SE, fun _ => 0, AC)) NX
set_option maxHeartbeats 4000000 in
set_option maxRecDepth 100000 in
/-- numberOf(S), a new set -/
theorem ok_Ma_numNew (l : Launch) (D : va_G) (k : Nat → ClassId) (sz : Nat) (ma se nu nx ac gr fn tl : Nat) (SE NU NX AC GR FN TL : Nat → Nat) (z : Nat) (h f g : Nat) (FO SP : Nat → Nat) (en n : Nat) (S : Nat) (hS : S < 257) (he : en < 512) (hz : z < 257) (h0 : NU S = 0) : Met l y_Ma_numberOf (.code y_Ma_numberOf c_Ma_numberOf 3 (some .int) :: wsU) ({ frames := 1, cells := 0, slots := 0, locals := 21 } : Room) (kPre D k [.ref ma, .int (nI S), .ref h] [(ma, .inr (1, [.ref se, .ref nu, .ref nx, .ref ac, .ref gr, .ref fn, .ref tl, .int (nI z)])), (se, .inl (k 0, 257, .inl (aN SE))), (nu, .inl (k 0, 257, .inl (aM NU))), (nx, .inl (k 0, 1028, .inl (aN NX))), (ac, .inl (k 0, 257, .inl (aN AC))), (gr, .inl (k 0, 257, .inl (aN GR))), (fn, .inl (k 0, 257, .inl (aN FN))), (tl, .inl (k 1, 7967, .inr (.inl (aL TL)))), (h, .inr (0, [.ref f, .ref g, .int (nI en), .int (nI n)])), (f, .inl (k 0, 9, .inl (aN FO))), (g, .inl (k 0, 4, .inl (aN SP)))] sz) (va_Qi (fun (r : Int32) (_ : Unit) => r = nI z) (kB D k (fun _ : Unit => [(ma, .inr (1, [.ref se, .ref nu, .ref nx, .ref ac, .ref gr, .ref fn, .ref tl, .int (nI (z + 1))])), (se, .inl (k 0, 257, .inl (aN (va_up SE z S)))), (nu, .inl (k 0, 257, .inl (aM (va_up NU S (z + 1))))), (nx, .inl (k 0, 1028, .inl (aN NX))), (ac, .inl (k 0, 257, .inl (aN (va_up AC z (if S &&& en = 0 then 0 else 1))))), (gr, .inl (k 0, 257, .inl (aN GR))), (fn, .inl (k 0, 257, .inl (aN FN))), (tl, .inl (k 1, 7967, .inr (.inl (aL TL)))), (h, .inr (0, [.ref f, .ref g, .int (nI en), .int (nI n)])), (f, .inl (k 0, 9, .inl (aN FO))), (g, .inl (k 0, 4, .inl (aN SP)))]) (va_A [(ma, .inr (1, [.ref se, .ref nu, .ref nx, .ref ac, .ref gr, .ref fn, .ref tl, .int (nI z)])), (se, .inl (k 0, 257, .inl (aN SE))), (nu, .inl (k 0, 257, .inl (aM NU))), (nx, .inl (k 0, 1028, .inl (aN NX))), (ac, .inl (k 0, 257, .inl (aN AC))), (gr, .inl (k 0, 257, .inl (aN GR))), (fn, .inl (k 0, 257, .inl (aN FN))), (tl, .inl (k 1, 7967, .inr (.inl (aL TL)))), (h, .inr (0, [.ref f, .ref g, .int (nI en), .int (nI n)])), (f, .inl (k 0, 9, .inl (aN FO))), (g, .inl (k 0, 4, .inl (aN SP)))] sz)) (va_A [(ma, .inr (1, [.ref se, .ref nu, .ref nx, .ref ac, .ref gr, .ref fn, .ref tl, .int (nI z)])), (se, .inl (k 0, 257, .inl (aN SE))), (nu, .inl (k 0, 257, .inl (aM NU))), (nx, .inl (k 0, 1028, .inl (aN NX))), (ac, .inl (k 0, 257, .inl (aN AC))), (gr, .inl (k 0, 257, .inl (aN GR))), (fn, .inl (k 0, 257, .inl (aN FN))), (tl, .inl (k 1, 7967, .inr (.inl (aL TL)))), (h, .inr (0, [.ref f, .ref g, .int (nI en), .int (nI n)])), (f, .inl (k 0, 9, .inl (aN FO))), (g, .inl (k 0, 4, .inl (aN SP)))] sz)) 0 0 (va_A [(ma, .inr (1, [.ref se, .ref nu, .ref nx, .ref ac, .ref gr, .ref fn, .ref tl, .int (nI z)])), (se, .inl (k 0, 257, .inl (aN SE))), (nu, .inl (k 0, 257, .inl (aM NU))), (nx, .inl (k 0, 1028, .inl (aN NX))), (ac, .inl (k 0, 257, .inl (aN AC))), (gr, .inl (k 0, 257, .inl (aN GR))), (fn, .inl (k 0, 257, .inl (aN FN))), (tl, .inl (k 1, 7967, .inr (.inl (aL TL)))), (h, .inr (0, [.ref f, .ref g, .int (nI en), .int (nI n)])), (f, .inl (k 0, 9, .inl (aN FO))), (g, .inl (k 0, 4, .inl (aN SP)))] sz) := by
  refine kMet (by decide) (Nat.le_of_ble_eq_true rfl) ?_
  intro p e s m below meth c ls hX hml hr hlocks hin hsz hW hl Q hQ
  generalize hAe : va_A [(ma, .inr (1, [.ref se, .ref nu, .ref nx, .ref ac, .ref gr, .ref fn, .ref tl, .int (nI z)])), (se, .inl (k 0, 257, .inl (aN SE))), (nu, .inl (k 0, 257, .inl (aM NU))), (nx, .inl (k 0, 1028, .inl (aN NX))), (ac, .inl (k 0, 257, .inl (aN AC))), (gr, .inl (k 0, 257, .inl (aN GR))), (fn, .inl (k 0, 257, .inl (aN FN))), (tl, .inl (k 1, 7967, .inr (.inl (aL TL)))), (h, .inr (0, [.ref f, .ref g, .int (nI en), .int (nI n)])), (f, .inl (k 0, 9, .inl (aN FO))), (g, .inl (k 0, 4, .inl (aN SP)))] sz = A at hW hQ
  generalize hH0 : s.heap = H at hW ⊢
  generalize hl0 : ([] : List Loc) = locs at hW ⊢
  have hX : FX p s m c [.ref ma, .int (nI S), .ref h].toArray c_Ma_numberOf R_Ma := hX
  have hl : lv_has ls 3 [(0, .ref ma), (1, .int (nI S)), (2, .ref h)] := hl
  refine lv_aload_n hX.1 hX.2.1 d_Ma_numberOf_0 rfl (lv_at hl 0 rfl) ?_
  refine kget hX hW i_Ma 0 rfl rfl 1 (by decide) f_Ma_17 rfl rfl d_Ma_numberOf_1 ?_
  refine lv_iload_n hX.1 hX.2.1 d_Ma_numberOf_4 rfl (lv_at hl 1 rfl) ?_
  refine kriald hX hW 2 rfl (by omega) (by first | decide | omega) d_Ma_numberOf_5 ?_
  refine tpi (y := nM (NU S)) (rfl) ?_
  refine kgeM hX (tgt := 61) (by omega) d_Ma_numberOf_6 (by decide) (fun h1 => ?_) (fun h1 => ?_)
  · omega
  · refine lv_aload_n hX.1 hX.2.1 d_Ma_numberOf_9 rfl (lv_at hl 0 rfl) ?_
    refine kget hX hW i_Ma 0 rfl rfl 1 (by decide) f_Ma_17 rfl rfl d_Ma_numberOf_10 ?_
    refine lv_iload_n hX.1 hX.2.1 d_Ma_numberOf_13 rfl (lv_at hl 1 rfl) ?_
    refine lv_aload_n hX.1 hX.2.1 d_Ma_numberOf_14 rfl (lv_at hl 0 rfl) ?_
    refine kget hX hW i_Ma 0 rfl rfl 7 (by decide) f_Ma_36 rfl rfl d_Ma_numberOf_15 ?_
    refine kriast hX hW 2 rfl (by omega) (by first | decide | omega) d_Ma_numberOf_18 (fun H locs hW => ?_)
    have hW : KW D k A s [(ma, .inr (1, [.ref se, .ref nu, .ref nx, .ref ac, .ref gr, .ref fn, .ref tl, .int (nI z)])), (se, .inl (k 0, 257, .inl (aN SE))), (nu, .inl (k 0, 257, .inl (upd (aM NU) S (nI z)))), (nx, .inl (k 0, 1028, .inl (aN NX))), (ac, .inl (k 0, 257, .inl (aN AC))), (gr, .inl (k 0, 257, .inl (aN GR))), (fn, .inl (k 0, 257, .inl (aN FN))), (tl, .inl (k 1, 7967, .inr (.inl (aL TL)))), (h, .inr (0, [.ref f, .ref g, .int (nI en), .int (nI n)])), (f, .inl (k 0, 9, .inl (aN FO))), (g, .inl (k 0, 4, .inl (aN SP)))] H locs := hW
    rw [aM_upI] at hW
    refine lv_aload_n hX.1 hX.2.1 d_Ma_numberOf_19 rfl (lv_at hl 0 rfl) ?_
    refine kget hX hW i_Ma 0 rfl rfl 0 (by decide) f_Ma_13 rfl rfl d_Ma_numberOf_20 ?_
    refine lv_aload_n hX.1 hX.2.1 d_Ma_numberOf_23 rfl (lv_at hl 0 rfl) ?_
    refine kget hX hW i_Ma 0 rfl rfl 7 (by decide) f_Ma_36 rfl rfl d_Ma_numberOf_24 ?_
    refine lv_iload_n hX.1 hX.2.1 d_Ma_numberOf_27 rfl (lv_at hl 1 rfl) ?_
    refine kiast hX hW 1 rfl (by omega) (by first | decide | omega) d_Ma_numberOf_28 (fun H locs hW => ?_)
    have hW : KW D k A s [(ma, .inr (1, [.ref se, .ref nu, .ref nx, .ref ac, .ref gr, .ref fn, .ref tl, .int (nI z)])), (se, .inl (k 0, 257, .inl (aN (va_up SE z S)))), (nu, .inl (k 0, 257, .inl (aM (va_up NU S (z + 1))))), (nx, .inl (k 0, 1028, .inl (aN NX))), (ac, .inl (k 0, 257, .inl (aN AC))), (gr, .inl (k 0, 257, .inl (aN GR))), (fn, .inl (k 0, 257, .inl (aN FN))), (tl, .inl (k 1, 7967, .inr (.inl (aL TL)))), (h, .inr (0, [.ref f, .ref g, .int (nI en), .int (nI n)])), (f, .inl (k 0, 9, .inl (aN FO))), (g, .inl (k 0, 4, .inl (aN SP)))] H locs := hW
    refine lv_aload_n hX.1 hX.2.1 d_Ma_numberOf_29 rfl (lv_at hl 0 rfl) ?_
    refine kget hX hW i_Ma 0 rfl rfl 3 (by decide) f_Ma_23 rfl rfl d_Ma_numberOf_30 ?_
    refine lv_aload_n hX.1 hX.2.1 d_Ma_numberOf_33 rfl (lv_at hl 0 rfl) ?_
    refine kget hX hW i_Ma 0 rfl rfl 7 (by decide) f_Ma_36 rfl rfl d_Ma_numberOf_34 ?_
    refine lv_aload_n hX.1 hX.2.1 d_Ma_numberOf_37 rfl (lv_at hl 2 rfl) ?_
    refine lv_iload_n hX.1 hX.2.1 d_Ma_numberOf_38 rfl (lv_at hl 1 rfl) ?_
    refine kCi (wc := [(h, .inr (0, [.ref f, .ref g, .int (nI en), .int (nI n)])), (f, .inl (k 0, 9, .inl (aN FO))), (g, .inl (k 0, 4, .inl (aN SP)))]) hW [8, 9, 10] (by rfl) (by intro _; rfl) (kRunV (n := 1) (As := [.int (nI S)]) (rest := [.int (nI z), .ref ac]) hX hml hW (ok_Ex_accepts l D k H.size h f g FO SP en n S (by omega) he) m_Ma_57 im_Ex_accepts se_Ex_accepts in_Ex cd_Ex_accepts [8, 9, 10] rfl rfl rfl rfl (by decide +kernel) ⟨rfl, rfl, by decide, by decide⟩ rfl hl.1 rfl (Nat.le_of_ble_eq_true rfl) d_Ma_numberOf_39 ⟨by first | exact Nat.zero_le _ | decide | omega | (dsimp only; omega), by first | exact Nat.zero_le _ | decide | omega | (dsimp only; omega)⟩) (fun r u H locs hr1 hW => ?_)
    have hW : KW D k A s [(ma, .inr (1, [.ref se, .ref nu, .ref nx, .ref ac, .ref gr, .ref fn, .ref tl, .int (nI z)])), (se, .inl (k 0, 257, .inl (aN (va_up SE z S)))), (nu, .inl (k 0, 257, .inl (aM (va_up NU S (z + 1))))), (nx, .inl (k 0, 1028, .inl (aN NX))), (ac, .inl (k 0, 257, .inl (aN AC))), (gr, .inl (k 0, 257, .inl (aN GR))), (fn, .inl (k 0, 257, .inl (aN FN))), (tl, .inl (k 1, 7967, .inr (.inl (aL TL)))), (h, .inr (0, [.ref f, .ref g, .int (nI en), .int (nI n)])), (f, .inl (k 0, 9, .inl (aN FO))), (g, .inl (k 0, 4, .inl (aN SP)))] H locs := hW
    subst hr1
    have k50 : ∀ (v : Nat), v = (if S &&& en = 0 then 0 else 1) → W p l e ({ frames := 1, cells := 0, slots := 0, locals := 21 } : Room) s m [.ref ma, .int (nI S), .ref h].toArray below meth c H locs 0 0 Q (F0 m 50 ls [.int (nI v), .int (nI z), .ref ac]) := by
      intro v hv
      subst hv
      refine kiast hX hW 4 rfl (by omega) (by first | decide | omega) d_Ma_numberOf_50 (fun H locs hW => ?_)
      have hW : KW D k A s [(ma, .inr (1, [.ref se, .ref nu, .ref nx, .ref ac, .ref gr, .ref fn, .ref tl, .int (nI z)])), (se, .inl (k 0, 257, .inl (aN (va_up SE z S)))), (nu, .inl (k 0, 257, .inl (aM (va_up NU S (z + 1))))), (nx, .inl (k 0, 1028, .inl (aN NX))), (ac, .inl (k 0, 257, .inl (aN (va_up AC z (if S &&& en = 0 then 0 else 1))))), (gr, .inl (k 0, 257, .inl (aN GR))), (fn, .inl (k 0, 257, .inl (aN FN))), (tl, .inl (k 1, 7967, .inr (.inl (aL TL)))), (h, .inr (0, [.ref f, .ref g, .int (nI en), .int (nI n)])), (f, .inl (k 0, 9, .inl (aN FO))), (g, .inl (k 0, 4, .inl (aN SP)))] H locs := hW
      refine lv_aload_n hX.1 hX.2.1 d_Ma_numberOf_51 rfl (lv_at hl 0 rfl) ?_
      refine lv_dup hX.1 hX.2.1 d_Ma_numberOf_52 rfl ?_
      refine kget hX hW i_Ma 0 rfl rfl 7 (by decide) f_Ma_36 rfl rfl d_Ma_numberOf_53 ?_
      refine lv_iconst (v := nI 1) hX.1 hX.2.1 d_Ma_numberOf_56 (by decide) ?_
      refine lv_iadd hX.1 hX.2.1 d_Ma_numberOf_57 ?_
      refine tpi (y := nI (z + 1)) (nI_1 _) ?_
      refine kput hX hW i_Ma t_Ma t_Ma_ok n_Ma 0 rfl rfl 7 (by decide) f_Ma_36 rfl rfl (rfl) (rfl) (Nat.le_of_ble_eq_true rfl) d_Ma_numberOf_58 (fun H locs hW => ?_)
      have hW : KW D k A s [(ma, .inr (1, [.ref se, .ref nu, .ref nx, .ref ac, .ref gr, .ref fn, .ref tl, .int (nI (z + 1))])), (se, .inl (k 0, 257, .inl (aN (va_up SE z S)))), (nu, .inl (k 0, 257, .inl (aM (va_up NU S (z + 1))))), (nx, .inl (k 0, 1028, .inl (aN NX))), (ac, .inl (k 0, 257, .inl (aN (va_up AC z (if S &&& en = 0 then 0 else 1))))), (gr, .inl (k 0, 257, .inl (aN GR))), (fn, .inl (k 0, 257, .inl (aN FN))), (tl, .inl (k 1, 7967, .inr (.inl (aL TL)))), (h, .inr (0, [.ref f, .ref g, .int (nI en), .int (nI n)])), (f, .inl (k 0, 9, .inl (aN FO))), (g, .inl (k 0, 4, .inl (aN SP)))] H locs := hW
      refine lv_aload_n hX.1 hX.2.1 d_Ma_numberOf_61 rfl (lv_at hl 0 rfl) ?_
      refine kget hX hW i_Ma 0 rfl rfl 1 (by decide) f_Ma_17 rfl rfl d_Ma_numberOf_62 ?_
      refine lv_iload_n hX.1 hX.2.1 d_Ma_numberOf_65 rfl (lv_at hl 1 rfl) ?_
      refine kriald hX hW 2 rfl (by omega) (by first | decide | omega) d_Ma_numberOf_66 ?_
      refine tpi (y := nM (va_up NU S (z + 1) S)) (rfl) ?_
      exact kiret hX hr hlocks hQ () (hW) (by rw [va_up_self, nM_s]) d_Ma_numberOf_67
    refine kz hX (tgt := 49) (by split <;> decide) d_Ma_numberOf_42 (by decide) (fun h2 => ?_) (fun h2 => ?_)
    · refine lv_iconst (v := nI 0) hX.1 hX.2.1 d_Ma_numberOf_49 (by decide) ?_
      exact k50 _ (by rw [h2])
    · refine lv_iconst (v := nI 1) hX.1 hX.2.1 d_Ma_numberOf_45 (by decide) ?_
      refine lv_goto (tgt := 50) hX.1 hX.2.1 d_Ma_numberOf_46 (by decide) ?_
      exact k50 _ (by split at h2 <;> simp_all)
set_option maxHeartbeats 4000000 in
set_option maxRecDepth 100000 in
/-- numberOf(S), a known set -/
theorem ok_Ma_numOld (l : Launch) (D : va_G) (k : Nat → ClassId) (sz : Nat) (ma se nu nx ac gr fn tl : Nat) (SE NU NX AC GR FN TL : Nat → Nat) (z : Nat) (h f g : Nat) (FO SP : Nat → Nat) (en n : Nat) (S : Nat) (hS : S < 257) (i : Nat) (h0 : NU S = i + 1) (hi : i < 257) : Met l y_Ma_numberOf (.code y_Ma_numberOf c_Ma_numberOf 3 (some .int) :: wsU) ({ frames := 1, cells := 0, slots := 0, locals := 21 } : Room) (kPre D k [.ref ma, .int (nI S), .ref h] [(ma, .inr (1, [.ref se, .ref nu, .ref nx, .ref ac, .ref gr, .ref fn, .ref tl, .int (nI z)])), (se, .inl (k 0, 257, .inl (aN SE))), (nu, .inl (k 0, 257, .inl (aM NU))), (nx, .inl (k 0, 1028, .inl (aN NX))), (ac, .inl (k 0, 257, .inl (aN AC))), (gr, .inl (k 0, 257, .inl (aN GR))), (fn, .inl (k 0, 257, .inl (aN FN))), (tl, .inl (k 1, 7967, .inr (.inl (aL TL)))), (h, .inr (0, [.ref f, .ref g, .int (nI en), .int (nI n)])), (f, .inl (k 0, 9, .inl (aN FO))), (g, .inl (k 0, 4, .inl (aN SP)))] sz) (va_Qi (fun (r : Int32) (_ : Unit) => r = nI i) (kB D k (fun _ : Unit => [(ma, .inr (1, [.ref se, .ref nu, .ref nx, .ref ac, .ref gr, .ref fn, .ref tl, .int (nI z)])), (se, .inl (k 0, 257, .inl (aN SE))), (nu, .inl (k 0, 257, .inl (aM NU))), (nx, .inl (k 0, 1028, .inl (aN NX))), (ac, .inl (k 0, 257, .inl (aN AC))), (gr, .inl (k 0, 257, .inl (aN GR))), (fn, .inl (k 0, 257, .inl (aN FN))), (tl, .inl (k 1, 7967, .inr (.inl (aL TL)))), (h, .inr (0, [.ref f, .ref g, .int (nI en), .int (nI n)])), (f, .inl (k 0, 9, .inl (aN FO))), (g, .inl (k 0, 4, .inl (aN SP)))]) (va_A [(ma, .inr (1, [.ref se, .ref nu, .ref nx, .ref ac, .ref gr, .ref fn, .ref tl, .int (nI z)])), (se, .inl (k 0, 257, .inl (aN SE))), (nu, .inl (k 0, 257, .inl (aM NU))), (nx, .inl (k 0, 1028, .inl (aN NX))), (ac, .inl (k 0, 257, .inl (aN AC))), (gr, .inl (k 0, 257, .inl (aN GR))), (fn, .inl (k 0, 257, .inl (aN FN))), (tl, .inl (k 1, 7967, .inr (.inl (aL TL)))), (h, .inr (0, [.ref f, .ref g, .int (nI en), .int (nI n)])), (f, .inl (k 0, 9, .inl (aN FO))), (g, .inl (k 0, 4, .inl (aN SP)))] sz)) (va_A [(ma, .inr (1, [.ref se, .ref nu, .ref nx, .ref ac, .ref gr, .ref fn, .ref tl, .int (nI z)])), (se, .inl (k 0, 257, .inl (aN SE))), (nu, .inl (k 0, 257, .inl (aM NU))), (nx, .inl (k 0, 1028, .inl (aN NX))), (ac, .inl (k 0, 257, .inl (aN AC))), (gr, .inl (k 0, 257, .inl (aN GR))), (fn, .inl (k 0, 257, .inl (aN FN))), (tl, .inl (k 1, 7967, .inr (.inl (aL TL)))), (h, .inr (0, [.ref f, .ref g, .int (nI en), .int (nI n)])), (f, .inl (k 0, 9, .inl (aN FO))), (g, .inl (k 0, 4, .inl (aN SP)))] sz)) 0 0 (va_A [(ma, .inr (1, [.ref se, .ref nu, .ref nx, .ref ac, .ref gr, .ref fn, .ref tl, .int (nI z)])), (se, .inl (k 0, 257, .inl (aN SE))), (nu, .inl (k 0, 257, .inl (aM NU))), (nx, .inl (k 0, 1028, .inl (aN NX))), (ac, .inl (k 0, 257, .inl (aN AC))), (gr, .inl (k 0, 257, .inl (aN GR))), (fn, .inl (k 0, 257, .inl (aN FN))), (tl, .inl (k 1, 7967, .inr (.inl (aL TL)))), (h, .inr (0, [.ref f, .ref g, .int (nI en), .int (nI n)])), (f, .inl (k 0, 9, .inl (aN FO))), (g, .inl (k 0, 4, .inl (aN SP)))] sz) := by
  refine kMet (by decide) (Nat.le_of_ble_eq_true rfl) ?_
  intro p e s m below meth c ls hX hml hr hlocks hin hsz hW hl Q hQ
  generalize hAe : va_A [(ma, .inr (1, [.ref se, .ref nu, .ref nx, .ref ac, .ref gr, .ref fn, .ref tl, .int (nI z)])), (se, .inl (k 0, 257, .inl (aN SE))), (nu, .inl (k 0, 257, .inl (aM NU))), (nx, .inl (k 0, 1028, .inl (aN NX))), (ac, .inl (k 0, 257, .inl (aN AC))), (gr, .inl (k 0, 257, .inl (aN GR))), (fn, .inl (k 0, 257, .inl (aN FN))), (tl, .inl (k 1, 7967, .inr (.inl (aL TL)))), (h, .inr (0, [.ref f, .ref g, .int (nI en), .int (nI n)])), (f, .inl (k 0, 9, .inl (aN FO))), (g, .inl (k 0, 4, .inl (aN SP)))] sz = A at hW hQ
  generalize hH0 : s.heap = H at hW ⊢
  generalize hl0 : ([] : List Loc) = locs at hW ⊢
  have hX : FX p s m c [.ref ma, .int (nI S), .ref h].toArray c_Ma_numberOf R_Ma := hX
  have hl : lv_has ls 3 [(0, .ref ma), (1, .int (nI S)), (2, .ref h)] := hl
  refine lv_aload_n hX.1 hX.2.1 d_Ma_numberOf_0 rfl (lv_at hl 0 rfl) ?_
  refine kget hX hW i_Ma 0 rfl rfl 1 (by decide) f_Ma_17 rfl rfl d_Ma_numberOf_1 ?_
  refine lv_iload_n hX.1 hX.2.1 d_Ma_numberOf_4 rfl (lv_at hl 1 rfl) ?_
  refine kriald hX hW 2 rfl (by omega) (by first | decide | omega) d_Ma_numberOf_5 ?_
  refine tpi (y := nM (NU S)) (rfl) ?_
  refine kgeM hX (tgt := 61) (by omega) d_Ma_numberOf_6 (by decide) (fun h1 => ?_) (fun h1 => ?_)
  · refine lv_aload_n hX.1 hX.2.1 d_Ma_numberOf_61 rfl (lv_at hl 0 rfl) ?_
    refine kget hX hW i_Ma 0 rfl rfl 1 (by decide) f_Ma_17 rfl rfl d_Ma_numberOf_62 ?_
    refine lv_iload_n hX.1 hX.2.1 d_Ma_numberOf_65 rfl (lv_at hl 1 rfl) ?_
    refine kriald hX hW 2 rfl (by omega) (by first | decide | omega) d_Ma_numberOf_66 ?_
    refine tpi (y := nM (NU S)) (rfl) ?_
    exact kiret hX hr hlocks hQ () (hW) (by rw [h0, nM_s]) d_Ma_numberOf_67
  · omega
end
section
/-! THE MACHINE: building -/
theorem onw_lt {FO : Nat → Nat} {S : Nat} (hF : ∀ p, p < 9 → FO p < 256) : ∀ p, p ≤ 9 → onw FO S p < 256 := by
  intro p
  induction p with
  | zero => intro _; show (0 : Nat) < 256; decide
  | succ p ih =>
    intro hp
    rw [onw]
    refine or256 (ih (by omega)) ?_
    split
    · exact hF p (by omega)
    · decide
theorem nq_at {en S : Nat} {m : MZ} (h : MI m) (hS : S < 257) : (nq en S m).2.2.1 S - 1 < 257 := by
  obtain ⟨z, SE, NU, AC⟩ := m
  have h2 := MI_nq (en := en) h hS
  rw [nq] at h2 ⊢
  split
  · rename_i h0
    have := MI_new h hS h0
    show va_up NU S (z + 1) S - 1 < 257
    rw [va_up_self]; omega
  · rename_i h0
    obtain ⟨h1, -, h3, -⟩ := h
    have := (h3 S hS h0).1
    show NU S - 1 < 257
    omega
def NI (NX : Nat → Nat) : Prop := ∀ x, x < 1028 → NX x < 257
theorem bi_ok {SP : Nat → Nat} {en o q : Nat} {m : MZ} {NX : Nat → Nat} (ho : o < 256) (hm : MI m) (hN : NI NX) : ∀ a, MI (bi SP en o q m NX a).1 ∧ NI (bi SP en o q m NX a).2 := by
  intro a
  induction a with
  | zero => exact ⟨hm, hN⟩
  | succ a ih =>
    rw [bi]
    have hS : o &&& SP a < 257 := by have := Nat.and_le_left (n := o) (m := SP a); omega
    refine ⟨MI_nq ih.1 hS, fun x hx => ?_⟩
    show va_up (bi SP en o q m NX a).2 (q * 4 + a) ((nq en (o &&& SP a) (bi SP en o q m NX a).1).2.2.1 (o &&& SP a) - 1) x < 257
    by_cases e : x = q * 4 + a
    · subst e; rw [va_up_self]; exact nq_at ih.1 hS
    · rw [va_up_ne _ _ e]; exact ih.2 x hx
theorem bo_ok {FO SP : Nat → Nat} {en : Nat} (hF : ∀ p, p < 9 → FO p < 256) : ∀ r q m NX, MI m → NI NX → MI (bo FO SP en r q m NX).1 ∧ NI (bo FO SP en r q m NX).2 := by
  intro r
  induction r with
  | zero => intro q m NX h1 h2; exact ⟨h1, h2⟩
  | succ r ih =>
    intro q m NX h1 h2
    rw [bo]
    split
    · have := bi_ok (SP := SP) (en := en) (q := q) (onw_lt (S := m.2.1 q) hF 9 (Nat.le_refl _)) h1 h2 4
      exact ih _ _ _ this.1 this.2
    · exact ⟨h1, h2⟩
theorem MI_0 {SE AC : Nat → Nat} (hA : ∀ x, x < 257 → AC x < 1000) : MI (0, SE, fun _ => 0, AC) := ⟨by decide, fun j hj => by omega, fun S _ h => absurd rfl h, hA⟩
theorem bld_ok {FO SP : Nat → Nat} {en : Nat} {SE AC NX : Nat → Nat} (hF : ∀ p, p < 9 → FO p < 256) (hA : ∀ x, x < 257 → AC x < 1000) (hN : NI NX) : MI (bld FO SP en SE AC NX).1 ∧ NI (bld FO SP en SE AC NX).2 := bo_ok hF _ _ _ _ (MI_nq (MI_0 hA) (by decide)) hN
theorem m1_aM : (fun _ : Nat => (-1 : Int32)) = aM (fun _ => 0) := by funext j; exact nM_0.symm
set_option maxHeartbeats 4000000 in
set_option maxRecDepth 100000 in
/-- numberOf(S) -/
theorem ok_Ma_numberOf (l : Launch) (D : va_G) (k : Nat → ClassId) (sz : Nat) (ma se nu nx ac gr fn tl : Nat) (SE NU NX AC GR FN TL : Nat → Nat) (z : Nat) (h f g : Nat) (FO SP : Nat → Nat) (en n : Nat) (S : Nat) (hS : S < 257) (he : en < 512) (hm : MI (z, SE, NU, AC)) : Met l y_Ma_numberOf (.code y_Ma_numberOf c_Ma_numberOf 3 (some .int) :: wsU) ({ frames := 1, cells := 0, slots := 0, locals := 21 } : Room) (kPre D k [.ref ma, .int (nI S), .ref h] [(ma, .inr (1, [.ref se, .ref nu, .ref nx, .ref ac, .ref gr, .ref fn, .ref tl, .int (nI z)])), (se, .inl (k 0, 257, .inl (aN SE))), (nu, .inl (k 0, 257, .inl (aM NU))), (nx, .inl (k 0, 1028, .inl (aN NX))), (ac, .inl (k 0, 257, .inl (aN AC))), (gr, .inl (k 0, 257, .inl (aN GR))), (fn, .inl (k 0, 257, .inl (aN FN))), (tl, .inl (k 1, 7967, .inr (.inl (aL TL)))), (h, .inr (0, [.ref f, .ref g, .int (nI en), .int (nI n)])), (f, .inl (k 0, 9, .inl (aN FO))), (g, .inl (k 0, 4, .inl (aN SP)))] sz) (va_Qi (fun (r : Int32) (_ : Unit) => r = nI ((nq en S (z, SE, NU, AC)).2.2.1 S - 1)) (kB D k (fun _ : Unit => [(ma, .inr (1, [.ref se, .ref nu, .ref nx, .ref ac, .ref gr, .ref fn, .ref tl, .int (nI ((nq en S (z, SE, NU, AC)).1))])), (se, .inl (k 0, 257, .inl (aN ((nq en S (z, SE, NU, AC)).2.1)))), (nu, .inl (k 0, 257, .inl (aM ((nq en S (z, SE, NU, AC)).2.2.1)))), (nx, .inl (k 0, 1028, .inl (aN NX))), (ac, .inl (k 0, 257, .inl (aN ((nq en S (z, SE, NU, AC)).2.2.2)))), (gr, .inl (k 0, 257, .inl (aN GR))), (fn, .inl (k 0, 257, .inl (aN FN))), (tl, .inl (k 1, 7967, .inr (.inl (aL TL)))), (h, .inr (0, [.ref f, .ref g, .int (nI en), .int (nI n)])), (f, .inl (k 0, 9, .inl (aN FO))), (g, .inl (k 0, 4, .inl (aN SP)))]) (va_A [(ma, .inr (1, [.ref se, .ref nu, .ref nx, .ref ac, .ref gr, .ref fn, .ref tl, .int (nI z)])), (se, .inl (k 0, 257, .inl (aN SE))), (nu, .inl (k 0, 257, .inl (aM NU))), (nx, .inl (k 0, 1028, .inl (aN NX))), (ac, .inl (k 0, 257, .inl (aN AC))), (gr, .inl (k 0, 257, .inl (aN GR))), (fn, .inl (k 0, 257, .inl (aN FN))), (tl, .inl (k 1, 7967, .inr (.inl (aL TL)))), (h, .inr (0, [.ref f, .ref g, .int (nI en), .int (nI n)])), (f, .inl (k 0, 9, .inl (aN FO))), (g, .inl (k 0, 4, .inl (aN SP)))] sz)) (va_A [(ma, .inr (1, [.ref se, .ref nu, .ref nx, .ref ac, .ref gr, .ref fn, .ref tl, .int (nI z)])), (se, .inl (k 0, 257, .inl (aN SE))), (nu, .inl (k 0, 257, .inl (aM NU))), (nx, .inl (k 0, 1028, .inl (aN NX))), (ac, .inl (k 0, 257, .inl (aN AC))), (gr, .inl (k 0, 257, .inl (aN GR))), (fn, .inl (k 0, 257, .inl (aN FN))), (tl, .inl (k 1, 7967, .inr (.inl (aL TL)))), (h, .inr (0, [.ref f, .ref g, .int (nI en), .int (nI n)])), (f, .inl (k 0, 9, .inl (aN FO))), (g, .inl (k 0, 4, .inl (aN SP)))] sz)) 0 0 (va_A [(ma, .inr (1, [.ref se, .ref nu, .ref nx, .ref ac, .ref gr, .ref fn, .ref tl, .int (nI z)])), (se, .inl (k 0, 257, .inl (aN SE))), (nu, .inl (k 0, 257, .inl (aM NU))), (nx, .inl (k 0, 1028, .inl (aN NX))), (ac, .inl (k 0, 257, .inl (aN AC))), (gr, .inl (k 0, 257, .inl (aN GR))), (fn, .inl (k 0, 257, .inl (aN FN))), (tl, .inl (k 1, 7967, .inr (.inl (aL TL)))), (h, .inr (0, [.ref f, .ref g, .int (nI en), .int (nI n)])), (f, .inl (k 0, 9, .inl (aN FO))), (g, .inl (k 0, 4, .inl (aN SP)))] sz) := by
  by_cases h0 : NU S = 0
  · have e : nq en S (z, SE, NU, AC) = (z + 1, va_up SE z S, va_up NU S (z + 1), va_up AC z (if S &&& en = 0 then 0 else 1)) := by rw [nq, if_pos h0]
    have e2 : (va_up NU S (z + 1)) S - 1 = z := by rw [va_up_self]; rfl
    rw [e]
    have hM := ok_Ma_numNew l D k sz ma se nu nx ac gr fn tl SE NU NX AC GR FN TL z h f g FO SP en n S hS he (MI_new hm hS h0) h0
    show Met _ _ _ _ _ (va_Qi (fun (r : Int32) (_ : Unit) => r = nI ((va_up NU S (z + 1)) S - 1)) _ _) _ _ _
    rw [e2]
    exact hM
  · have e : nq en S (z, SE, NU, AC) = (z, SE, NU, AC) := by rw [nq, if_neg h0]
    rw [e]
    obtain ⟨h1, -, h3, -⟩ := hm
    have h4 := (h3 S hS h0).1
    exact ok_Ma_numOld l D k sz ma se nu nx ac gr fn tl SE NU NX AC GR FN TL z h f g FO SP en n S hS (NU S - 1) (by omega) (by omega)
set_option maxHeartbeats 4000000 in
set_option maxRecDepth 100000 in
/-- build(expression) -/
theorem ok_Ma_build (l : Launch) (D : va_G) (k : Nat → ClassId) (sz : Nat) (ma se nu nx ac gr fn tl : Nat) (SE NU NX AC GR FN TL : Nat → Nat) (z : Nat) (h f g : Nat) (FO SP : Nat → Nat) (en n : Nat) (hF : ∀ p, p < 9 → FO p < 256) (he : en < 512) (hA : ∀ x, x < 257 → AC x < 1000) (hN : NI NX) : Met l y_Ma_build (.code y_Ma_build c_Ma_build 6 none :: wsU) ({ frames := 2, cells := 0, slots := 0, locals := 43 } : Room) (kPre D k [.ref ma, .ref h] [(ma, .inr (1, [.ref se, .ref nu, .ref nx, .ref ac, .ref gr, .ref fn, .ref tl, .int (nI z)])), (se, .inl (k 0, 257, .inl (aN SE))), (nu, .inl (k 0, 257, .inl (aM NU))), (nx, .inl (k 0, 1028, .inl (aN NX))), (ac, .inl (k 0, 257, .inl (aN AC))), (gr, .inl (k 0, 257, .inl (aN GR))), (fn, .inl (k 0, 257, .inl (aN FN))), (tl, .inl (k 1, 7967, .inr (.inl (aL TL)))), (h, .inr (0, [.ref f, .ref g, .int (nI en), .int (nI n)])), (f, .inl (k 0, 9, .inl (aN FO))), (g, .inl (k 0, 4, .inl (aN SP)))] sz) (va_Qv (fun (_ : Unit) => True) (kB D k (fun _ : Unit => [(ma, .inr (1, [.ref se, .ref nu, .ref nx, .ref ac, .ref gr, .ref fn, .ref tl, .int (nI ((bld FO SP en SE AC NX).1.1))])), (se, .inl (k 0, 257, .inl (aN ((bld FO SP en SE AC NX).1.2.1)))), (nu, .inl (k 0, 257, .inl (aM ((bld FO SP en SE AC NX).1.2.2.1)))), (nx, .inl (k 0, 1028, .inl (aN ((bld FO SP en SE AC NX).2)))), (ac, .inl (k 0, 257, .inl (aN ((bld FO SP en SE AC NX).1.2.2.2)))), (gr, .inl (k 0, 257, .inl (aN GR))), (fn, .inl (k 0, 257, .inl (aN FN))), (tl, .inl (k 1, 7967, .inr (.inl (aL TL)))), (h, .inr (0, [.ref f, .ref g, .int (nI en), .int (nI n)])), (f, .inl (k 0, 9, .inl (aN FO))), (g, .inl (k 0, 4, .inl (aN SP)))]) (va_A [(ma, .inr (1, [.ref se, .ref nu, .ref nx, .ref ac, .ref gr, .ref fn, .ref tl, .int (nI z)])), (se, .inl (k 0, 257, .inl (aN SE))), (nu, .inl (k 0, 257, .inl (aM NU))), (nx, .inl (k 0, 1028, .inl (aN NX))), (ac, .inl (k 0, 257, .inl (aN AC))), (gr, .inl (k 0, 257, .inl (aN GR))), (fn, .inl (k 0, 257, .inl (aN FN))), (tl, .inl (k 1, 7967, .inr (.inl (aL TL)))), (h, .inr (0, [.ref f, .ref g, .int (nI en), .int (nI n)])), (f, .inl (k 0, 9, .inl (aN FO))), (g, .inl (k 0, 4, .inl (aN SP)))] sz)) (va_A [(ma, .inr (1, [.ref se, .ref nu, .ref nx, .ref ac, .ref gr, .ref fn, .ref tl, .int (nI z)])), (se, .inl (k 0, 257, .inl (aN SE))), (nu, .inl (k 0, 257, .inl (aM NU))), (nx, .inl (k 0, 1028, .inl (aN NX))), (ac, .inl (k 0, 257, .inl (aN AC))), (gr, .inl (k 0, 257, .inl (aN GR))), (fn, .inl (k 0, 257, .inl (aN FN))), (tl, .inl (k 1, 7967, .inr (.inl (aL TL)))), (h, .inr (0, [.ref f, .ref g, .int (nI en), .int (nI n)])), (f, .inl (k 0, 9, .inl (aN FO))), (g, .inl (k 0, 4, .inl (aN SP)))] sz)) 0 0 (va_A [(ma, .inr (1, [.ref se, .ref nu, .ref nx, .ref ac, .ref gr, .ref fn, .ref tl, .int (nI z)])), (se, .inl (k 0, 257, .inl (aN SE))), (nu, .inl (k 0, 257, .inl (aM NU))), (nx, .inl (k 0, 1028, .inl (aN NX))), (ac, .inl (k 0, 257, .inl (aN AC))), (gr, .inl (k 0, 257, .inl (aN GR))), (fn, .inl (k 0, 257, .inl (aN FN))), (tl, .inl (k 1, 7967, .inr (.inl (aL TL)))), (h, .inr (0, [.ref f, .ref g, .int (nI en), .int (nI n)])), (f, .inl (k 0, 9, .inl (aN FO))), (g, .inl (k 0, 4, .inl (aN SP)))] sz) := by
  refine kMet (by decide) (Nat.le_of_ble_eq_true rfl) ?_
  intro p e s m below meth c ls hX hml hr hlocks hin hsz hW hl Q hQ
  generalize hAe : va_A [(ma, .inr (1, [.ref se, .ref nu, .ref nx, .ref ac, .ref gr, .ref fn, .ref tl, .int (nI z)])), (se, .inl (k 0, 257, .inl (aN SE))), (nu, .inl (k 0, 257, .inl (aM NU))), (nx, .inl (k 0, 1028, .inl (aN NX))), (ac, .inl (k 0, 257, .inl (aN AC))), (gr, .inl (k 0, 257, .inl (aN GR))), (fn, .inl (k 0, 257, .inl (aN FN))), (tl, .inl (k 1, 7967, .inr (.inl (aL TL)))), (h, .inr (0, [.ref f, .ref g, .int (nI en), .int (nI n)])), (f, .inl (k 0, 9, .inl (aN FO))), (g, .inl (k 0, 4, .inl (aN SP)))] sz = A at hW hQ
  generalize hH0 : s.heap = H at hW ⊢
  generalize hl0 : ([] : List Loc) = locs at hW ⊢
  have hX : FX p s m c [.ref ma, .ref h].toArray c_Ma_build R_Ma := hX
  have hl : lv_has ls 6 [(0, .ref ma), (1, .ref h)] := hl
  obtain ⟨o, ho⟩ : ∃ o, bld FO SP en SE AC NX = o := ⟨_, rfl⟩
  rw [ho] at hQ
  refine lv_aload_n hX.1 hX.2.1 d_Ma_build_0 rfl (lv_at hl 0 rfl) ?_
  refine kget hX hW i_Ma 0 rfl rfl 1 (by decide) f_Ma_17 rfl rfl d_Ma_build_1 ?_
  refine lv_iconst (v := (-1)) hX.1 hX.2.1 d_Ma_build_4 (by decide) ?_
  refine kCv (wc := [(nu, .inl (k 0, 257, .inl (aM NU)))]) hW [2] (by rfl) (by intro _; rfl) (kRunS (n := 2) (As := [.ref nu, .int (-1)]) (rest := []) hX hml hW (ok_Ar_fillI l D k H.size nu 257 (aM NU) (-1) (by decide)) m_Ma_40 sm_Ar_fillI in_Ar cd_Ar_fillI [2] rfl rfl (by decide +kernel) ⟨rfl, rfl, by decide, by decide⟩ rfl hl.1 rfl (Nat.le_of_ble_eq_true rfl) d_Ma_build_5 ⟨by first | exact Nat.zero_le _ | decide | omega | (dsimp only; omega), by first | exact Nat.zero_le _ | decide | omega | (dsimp only; omega)⟩) (fun u H locs _ hW => ?_)
  have hW : KW D k A s [(ma, .inr (1, [.ref se, .ref nu, .ref nx, .ref ac, .ref gr, .ref fn, .ref tl, .int (nI z)])), (se, .inl (k 0, 257, .inl (aN SE))), (nu, .inl (k 0, 257, .inl (fun _ => (-1)))), (nx, .inl (k 0, 1028, .inl (aN NX))), (ac, .inl (k 0, 257, .inl (aN AC))), (gr, .inl (k 0, 257, .inl (aN GR))), (fn, .inl (k 0, 257, .inl (aN FN))), (tl, .inl (k 1, 7967, .inr (.inl (aL TL)))), (h, .inr (0, [.ref f, .ref g, .int (nI en), .int (nI n)])), (f, .inl (k 0, 9, .inl (aN FO))), (g, .inl (k 0, 4, .inl (aN SP)))] H locs := hW
  rw [m1_aM] at hW
  have hW : KW D k A s [(ma, .inr (1, [.ref se, .ref nu, .ref nx, .ref ac, .ref gr, .ref fn, .ref tl, .int (nI z)])), (se, .inl (k 0, 257, .inl (aN SE))), (nu, .inl (k 0, 257, .inl (aM (fun _ => 0)))), (nx, .inl (k 0, 1028, .inl (aN NX))), (ac, .inl (k 0, 257, .inl (aN AC))), (gr, .inl (k 0, 257, .inl (aN GR))), (fn, .inl (k 0, 257, .inl (aN FN))), (tl, .inl (k 1, 7967, .inr (.inl (aL TL)))), (h, .inr (0, [.ref f, .ref g, .int (nI en), .int (nI n)])), (f, .inl (k 0, 9, .inl (aN FO))), (g, .inl (k 0, 4, .inl (aN SP)))] H locs := hW
  refine lv_aload_n hX.1 hX.2.1 d_Ma_build_8 rfl (lv_at hl 0 rfl) ?_
  refine lv_iconst (v := nI 0) hX.1 hX.2.1 d_Ma_build_9 (by decide) ?_
  refine kput hX hW i_Ma t_Ma t_Ma_ok n_Ma 0 rfl rfl 7 (by decide) f_Ma_36 rfl rfl (rfl) (rfl) (Nat.le_of_ble_eq_true rfl) d_Ma_build_10 (fun H locs hW => ?_)
  have hW : KW D k A s [(ma, .inr (1, [.ref se, .ref nu, .ref nx, .ref ac, .ref gr, .ref fn, .ref tl, .int (nI 0)])), (se, .inl (k 0, 257, .inl (aN SE))), (nu, .inl (k 0, 257, .inl (aM (fun _ => 0)))), (nx, .inl (k 0, 1028, .inl (aN NX))), (ac, .inl (k 0, 257, .inl (aN AC))), (gr, .inl (k 0, 257, .inl (aN GR))), (fn, .inl (k 0, 257, .inl (aN FN))), (tl, .inl (k 1, 7967, .inr (.inl (aL TL)))), (h, .inr (0, [.ref f, .ref g, .int (nI en), .int (nI n)])), (f, .inl (k 0, 9, .inl (aN FO))), (g, .inl (k 0, 4, .inl (aN SP)))] H locs := hW
  refine lv_aload_n hX.1 hX.2.1 d_Ma_build_13 rfl (lv_at hl 0 rfl) ?_
  refine lv_sipush (v := nI 256) hX.1 hX.2.1 d_Ma_build_14 (by decide) ?_
  refine lv_aload_n hX.1 hX.2.1 d_Ma_build_17 rfl (lv_at hl 1 rfl) ?_
  refine kCi (wc := [(ma, .inr (1, [.ref se, .ref nu, .ref nx, .ref ac, .ref gr, .ref fn, .ref tl, .int (nI 0)])), (se, .inl (k 0, 257, .inl (aN SE))), (nu, .inl (k 0, 257, .inl (aM (fun _ => 0)))), (nx, .inl (k 0, 1028, .inl (aN NX))), (ac, .inl (k 0, 257, .inl (aN AC))), (gr, .inl (k 0, 257, .inl (aN GR))), (fn, .inl (k 0, 257, .inl (aN FN))), (tl, .inl (k 1, 7967, .inr (.inl (aL TL)))), (h, .inr (0, [.ref f, .ref g, .int (nI en), .int (nI n)])), (f, .inl (k 0, 9, .inl (aN FO))), (g, .inl (k 0, 4, .inl (aN SP)))]) hW [0, 1, 2, 3, 4, 5, 6, 7, 8, 9, 10] (by rfl) (by intro _; rfl) (kRunV (n := 2) (As := [.int (nI 256), .ref h]) (rest := []) hX hml hW (ok_Ma_numberOf l D k H.size ma se nu nx ac gr fn tl SE (fun _ => 0) NX AC GR FN TL 0 h f g FO SP en n 256 (by decide) he (MI_0 hA)) m_Ma_46 im_Ma_numberOf se_Ma_numberOf in_Ma cd_Ma_numberOf [0, 1, 2, 3, 4, 5, 6, 7, 8, 9, 10] rfl rfl rfl rfl (by decide +kernel) ⟨rfl, rfl, by decide, by decide⟩ rfl hl.1 rfl (Nat.le_of_ble_eq_true rfl) d_Ma_build_18 ⟨by first | exact Nat.zero_le _ | decide | omega | (dsimp only; omega), by first | exact Nat.zero_le _ | decide | omega | (dsimp only; omega)⟩) (fun r u H locs hr1 hW => ?_)
  have hW : KW D k A s [(ma, .inr (1, [.ref se, .ref nu, .ref nx, .ref ac, .ref gr, .ref fn, .ref tl, .int (nI ((nq en 256 (0, SE, fun _ => 0, AC)).1))])), (se, .inl (k 0, 257, .inl (aN ((nq en 256 (0, SE, fun _ => 0, AC)).2.1)))), (nu, .inl (k 0, 257, .inl (aM ((nq en 256 (0, SE, fun _ => 0, AC)).2.2.1)))), (nx, .inl (k 0, 1028, .inl (aN NX))), (ac, .inl (k 0, 257, .inl (aN ((nq en 256 (0, SE, fun _ => 0, AC)).2.2.2)))), (gr, .inl (k 0, 257, .inl (aN GR))), (fn, .inl (k 0, 257, .inl (aN FN))), (tl, .inl (k 1, 7967, .inr (.inl (aL TL)))), (h, .inr (0, [.ref f, .ref g, .int (nI en), .int (nI n)])), (f, .inl (k 0, 9, .inl (aN FO))), (g, .inl (k 0, 4, .inl (aN SP)))] H locs := hW
  clear hr1
  have hm1 : MI (nq en 256 (0, SE, fun _ => 0, AC)) := MI_nq (MI_0 hA) (by decide)
  unfold bld at ho
  generalize nq en 256 (0, SE, fun _ => 0, AC) = m1 at hW hm1 ho
  refine lv_pop hX.1 hX.2.1 d_Ma_build_21 rfl ?_
  refine lv_iconst (v := nI 0) hX.1 hX.2.1 d_Ma_build_22 (by decide) ?_
  refine lv_istore_n (lv' := [(2, .int (nI 0)), (0, .ref ma), (1, .ref h)]) hX.1 hX.2.1 d_Ma_build_23 rfl hl (by decide) rfl (fun ls hl => ?_)
  have lp : ∀ (fu : Nat) (q : Nat) (m1 : MZ) (NX : Nat → Nat) (H : Heap) (locs : List Loc) (ls : Array Slot), (q ≤ 257) → (257 < q + fu) → (bo FO SP en (257 - q) q m1 NX = o) → (MI m1) → (NI NX) →  KW D k A s [(ma, .inr (1, [.ref se, .ref nu, .ref nx, .ref ac, .ref gr, .ref fn, .ref tl, .int (nI ((m1).1))])), (se, .inl (k 0, 257, .inl (aN ((m1).2.1)))), (nu, .inl (k 0, 257, .inl (aM ((m1).2.2.1)))), (nx, .inl (k 0, 1028, .inl (aN NX))), (ac, .inl (k 0, 257, .inl (aN ((m1).2.2.2)))), (gr, .inl (k 0, 257, .inl (aN GR))), (fn, .inl (k 0, 257, .inl (aN FN))), (tl, .inl (k 1, 7967, .inr (.inl (aL TL)))), (h, .inr (0, [.ref f, .ref g, .int (nI en), .int (nI n)])), (f, .inl (k 0, 9, .inl (aN FO))), (g, .inl (k 0, 4, .inl (aN SP)))] H locs → lv_has ls 6 [(2, .int (nI q)), (1, .ref h), (0, .ref ma)] → W p l e ({ frames := 2, cells := 0, slots := 0, locals := 43 } : Room) s m [.ref ma, .ref h].toArray below meth c H locs 0 0 Q (F0 m 24 ls []) := by
    intro fu
    induction fu with
    | zero => intro q m1 NX H locs ls lp1 lp2 hb hm hN hW hl; exfalso; omega
    | succ fu ih =>
      intro q m1 NX H locs ls lp1 lp2 hb hm hN hW hl
      obtain ⟨z, SE, NU, AC⟩ := m1
      have hW : KW D k A s [(ma, .inr (1, [.ref se, .ref nu, .ref nx, .ref ac, .ref gr, .ref fn, .ref tl, .int (nI z)])), (se, .inl (k 0, 257, .inl (aN SE))), (nu, .inl (k 0, 257, .inl (aM NU))), (nx, .inl (k 0, 1028, .inl (aN NX))), (ac, .inl (k 0, 257, .inl (aN AC))), (gr, .inl (k 0, 257, .inl (aN GR))), (fn, .inl (k 0, 257, .inl (aN FN))), (tl, .inl (k 1, 7967, .inr (.inl (aL TL)))), (h, .inr (0, [.ref f, .ref g, .int (nI en), .int (nI n)])), (f, .inl (k 0, 9, .inl (aN FO))), (g, .inl (k 0, 4, .inl (aN SP)))] H locs := hW
      have hz := hm.1
      refine lv_iload_n hX.1 hX.2.1 d_Ma_build_24 rfl (lv_at hl 0 rfl) ?_
      refine lv_aload_n hX.1 hX.2.1 d_Ma_build_25 rfl (lv_at hl 2 rfl) ?_
      refine kget hX hW i_Ma 0 rfl rfl 7 (by decide) f_Ma_36 rfl rfl d_Ma_build_26 ?_
      refine kge hX (tgt := 100) (by omega) (by omega) d_Ma_build_29 (by decide) (fun h1 => ?_) (fun h1 => ?_)
      · have hb2 : ((z, SE, NU, AC), NX) = o := by rw [← hb]; cases 257 - q with | zero => rfl | succ r => rw [bo, if_neg (by show ¬ q < z; omega)]
        subst hb2
        exact kvret hX hr hlocks hQ () (hW) (trivial) d_Ma_build_100
      · refine lv_iload_n hX.1 hX.2.1 d_Ma_build_32 rfl (lv_at hl 0 rfl) ?_
        refine lv_sipush (v := nI 257) hX.1 hX.2.1 d_Ma_build_33 (by decide) ?_
        refine kge hX (tgt := 100) (by omega) (by omega) d_Ma_build_36 (by decide) (fun h2 => ?_) (fun h2 => ?_)
        · omega
        · have hsq := (hm.2.1 q h1).1
          refine lv_aload_n hX.1 hX.2.1 d_Ma_build_39 rfl (lv_at hl 1 rfl) ?_
          refine lv_aload_n hX.1 hX.2.1 d_Ma_build_40 rfl (lv_at hl 2 rfl) ?_
          refine kget hX hW i_Ma 0 rfl rfl 0 (by decide) f_Ma_13 rfl rfl d_Ma_build_41 ?_
          refine lv_iload_n hX.1 hX.2.1 d_Ma_build_44 rfl (lv_at hl 0 rfl) ?_
          refine kiald hX hW 1 rfl (by omega) (by first | decide | omega) d_Ma_build_45 ?_
          refine kCi (wc := [(h, .inr (0, [.ref f, .ref g, .int (nI en), .int (nI n)])), (f, .inl (k 0, 9, .inl (aN FO))), (g, .inl (k 0, 4, .inl (aN SP)))]) hW [8, 9, 10] (by rfl) (by intro _; rfl) (kRunV (n := 1) (As := [.int (nI (SE q))]) (rest := []) hX hml hW (ok_Ex_onward l D k H.size h f g FO SP en n (SE q) (by omega)) m_Ma_50 im_Ex_onward se_Ex_onward in_Ex cd_Ex_onward [8, 9, 10] rfl rfl rfl rfl (by decide +kernel) ⟨rfl, rfl, by decide, by decide⟩ rfl hl.1 rfl (Nat.le_of_ble_eq_true rfl) d_Ma_build_46 ⟨by first | exact Nat.zero_le _ | decide | omega | (dsimp only; omega), by first | exact Nat.zero_le _ | decide | omega | (dsimp only; omega)⟩) (fun r u H locs hr1 hW => ?_)
          have hW : KW D k A s [(ma, .inr (1, [.ref se, .ref nu, .ref nx, .ref ac, .ref gr, .ref fn, .ref tl, .int (nI z)])), (se, .inl (k 0, 257, .inl (aN SE))), (nu, .inl (k 0, 257, .inl (aM NU))), (nx, .inl (k 0, 1028, .inl (aN NX))), (ac, .inl (k 0, 257, .inl (aN AC))), (gr, .inl (k 0, 257, .inl (aN GR))), (fn, .inl (k 0, 257, .inl (aN FN))), (tl, .inl (k 1, 7967, .inr (.inl (aL TL)))), (h, .inr (0, [.ref f, .ref g, .int (nI en), .int (nI n)])), (f, .inl (k 0, 9, .inl (aN FO))), (g, .inl (k 0, 4, .inl (aN SP)))] H locs := hW
          subst hr1
          have hoo := onw_lt (S := SE q) hF 9 (Nat.le_refl _)
          rw [show 257 - q = (257 - (q + 1)) + 1 by omega, bo, if_pos h1] at hb
          have hb : bo FO SP en (257 - (q + 1)) (q + 1) (bi SP en (onw FO (SE q) 9) q (z, SE, NU, AC) NX 4).1 (bi SP en (onw FO (SE q) 9) q (z, SE, NU, AC) NX 4).2 = o := hb
          generalize onw FO (SE q) 9 = oo at hoo hb ⊢
          refine lv_istore_n (lv' := [(3, .int (nI oo)), (2, .int (nI q)), (1, .ref h), (0, .ref ma)]) hX.1 hX.2.1 d_Ma_build_49 rfl hl (by decide) rfl (fun ls hl => ?_)
          refine lv_iconst (v := nI 0) hX.1 hX.2.1 d_Ma_build_50 (by decide) ?_
          refine lv_istore (lv' := [(4, .int (nI 0)), (3, .int (nI oo)), (2, .int (nI q)), (1, .ref h), (0, .ref ma)]) hX.1 hX.2.1 d_Ma_build_51 hl (by decide) rfl (fun ls hl => ?_)
          have ih0 := ih
          have lq : ∀ (fu : Nat) (a : Nat) (m2 : MZ) (N2 : Nat → Nat) (H : Heap) (locs : List Loc) (ls : Array Slot), (a ≤ 4) → (4 < a + fu) → (bi SP en oo q (z, SE, NU, AC) NX a = (m2, N2)) → (MI m2) → (NI N2) →  KW D k A s [(ma, .inr (1, [.ref se, .ref nu, .ref nx, .ref ac, .ref gr, .ref fn, .ref tl, .int (nI ((m2).1))])), (se, .inl (k 0, 257, .inl (aN ((m2).2.1)))), (nu, .inl (k 0, 257, .inl (aM ((m2).2.2.1)))), (nx, .inl (k 0, 1028, .inl (aN N2))), (ac, .inl (k 0, 257, .inl (aN ((m2).2.2.2)))), (gr, .inl (k 0, 257, .inl (aN GR))), (fn, .inl (k 0, 257, .inl (aN FN))), (tl, .inl (k 1, 7967, .inr (.inl (aL TL)))), (h, .inr (0, [.ref f, .ref g, .int (nI en), .int (nI n)])), (f, .inl (k 0, 9, .inl (aN FO))), (g, .inl (k 0, 4, .inl (aN SP)))] H locs → lv_has ls 6 [(4, .int (nI a)), (3, .int (nI oo)), (2, .int (nI q)), (1, .ref h), (0, .ref ma)] → W p l e ({ frames := 2, cells := 0, slots := 0, locals := 43 } : Room) s m [.ref ma, .ref h].toArray below meth c H locs 0 0 Q (F0 m 53 ls []) := by
            intro fu
            induction fu with
            | zero => intro a m2 N2 H locs ls lq1 lq2 hi hm2 hN2 hW hl; exfalso; omega
            | succ fu ih =>
              intro a m2 N2 H locs ls lq1 lq2 hi hm2 hN2 hW hl
              obtain ⟨z2, SE2, NU2, AC2⟩ := m2
              have hW : KW D k A s [(ma, .inr (1, [.ref se, .ref nu, .ref nx, .ref ac, .ref gr, .ref fn, .ref tl, .int (nI z2)])), (se, .inl (k 0, 257, .inl (aN SE2))), (nu, .inl (k 0, 257, .inl (aM NU2))), (nx, .inl (k 0, 1028, .inl (aN N2))), (ac, .inl (k 0, 257, .inl (aN AC2))), (gr, .inl (k 0, 257, .inl (aN GR))), (fn, .inl (k 0, 257, .inl (aN FN))), (tl, .inl (k 1, 7967, .inr (.inl (aL TL)))), (h, .inr (0, [.ref f, .ref g, .int (nI en), .int (nI n)])), (f, .inl (k 0, 9, .inl (aN FO))), (g, .inl (k 0, 4, .inl (aN SP)))] H locs := hW
              refine lv_iload hX.1 hX.2.1 d_Ma_build_53 (lv_at hl 0 rfl) ?_
              refine lv_iconst (v := nI 4) hX.1 hX.2.1 d_Ma_build_55 (by decide) ?_
              refine kge hX (tgt := 94) (by omega) (by omega) d_Ma_build_56 (by decide) (fun h3 => ?_) (fun h3 => ?_)
              · have e4 : a = 4 := by omega
                subst e4
                rw [hi] at hb
                refine lv_iinc (v := nI (q + 1)) (lv' := [(2, .int (nI (q + 1))), (4, .int (nI 4)), (3, .int (nI oo)), (1, .ref h), (0, .ref ma)]) hX.1 hX.2.1 d_Ma_build_94 hl (k := 2) rfl (kn_inc _) (by decide) rfl (fun ls hl => ?_)
                refine lv_goto (tgt := 24) hX.1 hX.2.1 d_Ma_build_97 (by decide) ?_
                exact ih0 (q + 1) (z2, SE2, NU2, AC2) N2 H locs ls (by omega) (by omega) hb hm2 hN2 hW (lv_sub hl [0, 3, 4] rfl)
              · have hS : oo &&& SP a < 257 := by have := Nat.and_le_left (n := oo) (m := SP a); omega
                refine lv_iload_n hX.1 hX.2.1 d_Ma_build_59 rfl (lv_at hl 1 rfl) ?_
                refine lv_aload_n hX.1 hX.2.1 d_Ma_build_60 rfl (lv_at hl 3 rfl) ?_
                refine kget hX hW i_Ex 8 rfl rfl 1 (by decide) f_Ma_54 rfl rfl d_Ma_build_61 ?_
                refine lv_iload hX.1 hX.2.1 d_Ma_build_64 (lv_at hl 0 rfl) ?_
                refine kiald hX hW 10 rfl (by omega) (by first | decide | omega) d_Ma_build_66 ?_
                refine lv_iand hX.1 hX.2.1 d_Ma_build_67 ?_
                refine tpi (y := nI (oo &&& SP a)) (kn_and _ _) ?_
                refine lv_istore (lv' := [(5, .int (nI (oo &&& SP a))), (4, .int (nI a)), (3, .int (nI oo)), (2, .int (nI q)), (1, .ref h), (0, .ref ma)]) hX.1 hX.2.1 d_Ma_build_68 hl (by decide) rfl (fun ls hl => ?_)
                refine lv_aload_n hX.1 hX.2.1 d_Ma_build_70 rfl (lv_at hl 5 rfl) ?_
                refine kget hX hW i_Ma 0 rfl rfl 2 (by decide) f_Ma_20 rfl rfl d_Ma_build_71 ?_
                refine lv_iload_n hX.1 hX.2.1 d_Ma_build_74 rfl (lv_at hl 3 rfl) ?_
                refine lv_iconst (v := nI 4) hX.1 hX.2.1 d_Ma_build_75 (by decide) ?_
                refine lv_imul hX.1 hX.2.1 d_Ma_build_76 ?_
                refine tpi (y := nI (q * 4)) (pk_mul _ _) ?_
                refine lv_iload hX.1 hX.2.1 d_Ma_build_77 (lv_at hl 1 rfl) ?_
                refine lv_iadd hX.1 hX.2.1 d_Ma_build_79 ?_
                refine tpi (y := nI (q * 4 + a)) (nI_add _ _) ?_
                refine lv_aload_n hX.1 hX.2.1 d_Ma_build_80 rfl (lv_at hl 5 rfl) ?_
                refine lv_iload hX.1 hX.2.1 d_Ma_build_81 (lv_at hl 0 rfl) ?_
                refine lv_aload_n hX.1 hX.2.1 d_Ma_build_83 rfl (lv_at hl 4 rfl) ?_
                refine kCi (wc := [(ma, .inr (1, [.ref se, .ref nu, .ref nx, .ref ac, .ref gr, .ref fn, .ref tl, .int (nI z2)])), (se, .inl (k 0, 257, .inl (aN SE2))), (nu, .inl (k 0, 257, .inl (aM NU2))), (nx, .inl (k 0, 1028, .inl (aN N2))), (ac, .inl (k 0, 257, .inl (aN AC2))), (gr, .inl (k 0, 257, .inl (aN GR))), (fn, .inl (k 0, 257, .inl (aN FN))), (tl, .inl (k 1, 7967, .inr (.inl (aL TL)))), (h, .inr (0, [.ref f, .ref g, .int (nI en), .int (nI n)])), (f, .inl (k 0, 9, .inl (aN FO))), (g, .inl (k 0, 4, .inl (aN SP)))]) hW [0, 1, 2, 3, 4, 5, 6, 7, 8, 9, 10] (by rfl) (by intro _; rfl) (kRunV (n := 2) (As := [.int (nI (oo &&& SP a)), .ref h]) (rest := [.int (nI (q * 4 + a)), .ref nx]) hX hml hW (ok_Ma_numberOf l D k H.size ma se nu nx ac gr fn tl SE2 NU2 N2 AC2 GR FN TL z2 h f g FO SP en n (oo &&& SP a) hS he hm2) m_Ma_46 im_Ma_numberOf se_Ma_numberOf in_Ma cd_Ma_numberOf [0, 1, 2, 3, 4, 5, 6, 7, 8, 9, 10] rfl rfl rfl rfl (by decide +kernel) ⟨rfl, rfl, by decide, by decide⟩ rfl hl.1 rfl (Nat.le_of_ble_eq_true rfl) d_Ma_build_84 ⟨by first | exact Nat.zero_le _ | decide | omega | (dsimp only; omega), by first | exact Nat.zero_le _ | decide | omega | (dsimp only; omega)⟩) (fun r u H locs hr1 hW => ?_)
                have hW : KW D k A s [(ma, .inr (1, [.ref se, .ref nu, .ref nx, .ref ac, .ref gr, .ref fn, .ref tl, .int (nI ((nq en (oo &&& SP a) (z2, SE2, NU2, AC2)).1))])), (se, .inl (k 0, 257, .inl (aN ((nq en (oo &&& SP a) (z2, SE2, NU2, AC2)).2.1)))), (nu, .inl (k 0, 257, .inl (aM ((nq en (oo &&& SP a) (z2, SE2, NU2, AC2)).2.2.1)))), (nx, .inl (k 0, 1028, .inl (aN N2))), (ac, .inl (k 0, 257, .inl (aN ((nq en (oo &&& SP a) (z2, SE2, NU2, AC2)).2.2.2)))), (gr, .inl (k 0, 257, .inl (aN GR))), (fn, .inl (k 0, 257, .inl (aN FN))), (tl, .inl (k 1, 7967, .inr (.inl (aL TL)))), (h, .inr (0, [.ref f, .ref g, .int (nI en), .int (nI n)])), (f, .inl (k 0, 9, .inl (aN FO))), (g, .inl (k 0, 4, .inl (aN SP)))] H locs := hW
                subst hr1
                have hn3 := MI_nq (en := en) hm2 hS
                have hn4 := nq_at (en := en) hm2 hS
                refine kiast hX hW 3 rfl (by omega) (by first | decide | omega) d_Ma_build_87 (fun H locs hW => ?_)
                have hW : KW D k A s [(ma, .inr (1, [.ref se, .ref nu, .ref nx, .ref ac, .ref gr, .ref fn, .ref tl, .int (nI ((nq en (oo &&& SP a) (z2, SE2, NU2, AC2)).1))])), (se, .inl (k 0, 257, .inl (aN ((nq en (oo &&& SP a) (z2, SE2, NU2, AC2)).2.1)))), (nu, .inl (k 0, 257, .inl (aM ((nq en (oo &&& SP a) (z2, SE2, NU2, AC2)).2.2.1)))), (nx, .inl (k 0, 1028, .inl (aN (va_up N2 (q * 4 + a) ((nq en (oo &&& SP a) (z2, SE2, NU2, AC2)).2.2.1 (oo &&& SP a) - 1))))), (ac, .inl (k 0, 257, .inl (aN ((nq en (oo &&& SP a) (z2, SE2, NU2, AC2)).2.2.2)))), (gr, .inl (k 0, 257, .inl (aN GR))), (fn, .inl (k 0, 257, .inl (aN FN))), (tl, .inl (k 1, 7967, .inr (.inl (aL TL)))), (h, .inr (0, [.ref f, .ref g, .int (nI en), .int (nI n)])), (f, .inl (k 0, 9, .inl (aN FO))), (g, .inl (k 0, 4, .inl (aN SP)))] H locs := hW
                refine lv_iinc (v := nI (a + 1)) (lv' := [(4, .int (nI (a + 1))), (5, .int (nI (oo &&& SP a))), (3, .int (nI oo)), (2, .int (nI q)), (1, .ref h), (0, .ref ma)]) hX.1 hX.2.1 d_Ma_build_88 hl (k := 1) rfl (kn_inc _) (by decide) rfl (fun ls hl => ?_)
                refine lv_goto (tgt := 53) hX.1 hX.2.1 d_Ma_build_91 (by decide) ?_
                have hi2 : bi SP en oo q (z, SE, NU, AC) NX (a + 1) = (nq en (oo &&& SP a) (z2, SE2, NU2, AC2), va_up N2 (q * 4 + a) ((nq en (oo &&& SP a) (z2, SE2, NU2, AC2)).2.2.1 (oo &&& SP a) - 1)) := by rw [bi, hi]
                exact ih (a + 1) _ _ H locs ls (by omega) (by omega) hi2 hn3 (by intro x hx; by_cases e : x = q * 4 + a; (subst e; rw [va_up_self]; exact hn4); (rw [va_up_ne _ _ e]; exact hN2 x hx)) (hW) (lv_sub hl [0, 2, 3, 4, 5] rfl)
          exact lq 5 0 (z, SE, NU, AC) NX H locs ls (by omega) (by omega) rfl hm hN (hW) (lv_sub hl [0, 1, 2, 3, 4] rfl)
  exact lp 258 0 m1 NX H locs ls (by omega) (by omega) ho hm1 hN (hW) (lv_sub hl [0, 2, 1] rfl)
end
section
/-! THE MACHINE: spelling the k-th word -/
section KB4
variable {p : Program} {l : Launch} {e : Env} {R : Room} {s : State} {m : MethodId} {args : Array Value} {below : List Frame} {meth : Method} {c : Code} {H : Heap} {locs : List Loc} {cells slots : Nat} {Q : State → Prop}
variable {cc : ByteArray} {pc : Nat} {ls : Array Slot} {rest : List Value} {own : String}
theorem klcmp_lt (hX : FX p s m c args cc own) {a b : Nat} {off : Int} {tgt : Nat} (ha : a < 2 ^ 63) (hb : b < 2 ^ 63) (hd1 : decode cc pc = .ok (.lcmp, 1)) (hd2 : decode cc (pc + 1) = .ok (.ifCond .lt off, 3)) (ht : ((pc + 1 : Nat) : Int) + off = (tgt : Int))
    (kt : a < b → W p l e R s m args below meth c H locs cells slots Q (F0 m tgt ls rest)) (kf : b ≤ a → W p l e R s m args below meth c H locs cells slots Q (F0 m (pc + 1 + 3) ls rest)) : W p l e R s m args below meth c H locs cells slots Q (F0 m pc ls (.long (lN b) :: .long (lN a) :: rest)) :=
  W.lcmp hX.1 hX.2.1 hd1 (lv_if_lt hX.1 hX.2.1 hd2 ht (fun h => kt (by
    rcases Nat.lt_or_ge a b with q | q
    · exact q
    · have h1 := (lg_cmp_ge (lN a) (lN b)).mpr ((pk_lLE hb ha).mpr q)
      exact absurd h1 (Int32.not_le.mpr h))) (fun h => kf ((pk_lLE hb ha).mp ((lg_cmp_ge (lN a) (lN b)).mp (Int32.not_lt.mp h)))))
end KB4
/-- at letter c, r letters may still come: the letter, and what is left of k -/
def spl (NX TL : Nat → Nat) (q sh : Nat) : Nat → Nat → Nat → Nat × Nat
  | 0, c, k => (c, k)
  | r + 1, c, k => if TL (sh + NX (q * 4 + c)) ≤ k then spl NX TL q sh r (c + 1) (k - TL (sh + NX (q * 4 + c))) else (c, k)
theorem spl_ok (NX TL : Nat → Nat) (q sh : Nat) : ∀ r c k, (spl NX TL q sh r c k).1 ≤ c + r ∧ (spl NX TL q sh r c k).2 ≤ k := by
  intro r
  induction r with
  | zero => intro c k; exact ⟨Nat.le_refl _, Nat.le_refl _⟩
  | succ r ih =>
    intro c k
    rw [spl]
    split
    · have := ih (c + 1) (k - TL (sh + NX (q * 4 + c))); omega
    · exact ⟨by omega, Nat.le_refl _⟩
def spw (NX TL : Nat → Nat) : Nat → Nat → Nat → Nat → (Nat → Nat) → Nat → Nat
  | 0, _, _, _, L => L
  | r + 1, i, q, k, L => spw NX TL r (i + 1) (NX (q * 4 + (spl NX TL q (r * 257) 3 0 k).1)) (spl NX TL q (r * 257) 3 0 k).2 (va_up L i (spl NX TL q (r * 257) 3 0 k).1)
set_option maxHeartbeats 4000000 in
set_option maxRecDepth 100000 in
/-- spell(length, k, word) -/
theorem ok_Ma_spell (l : Launch) (D : va_G) (k : Nat → ClassId) (sz : Nat) (ma se nu nx ac gr fn tl : Nat) (SE NU NX AC GR FN TL : Nat → Nat) (z : Nat) (wo wl : Nat) (L : Nat → Nat) (y cp : Nat) (len kk : Nat) (hlen : len ≤ 30) (hcp : cp < 2 ^ 20) (hkk : kk < 2 ^ 63) (hNX : ∀ x, x < 1028 → NX x < 257) (hT : ∀ x, x < 7967 → TL x < 2 ^ 63) : Met l y_Ma_spell (.code y_Ma_spell c_Ma_spell 12 none :: wsU) ({ frames := 1, cells := 1, slots := len, locals := 21 } : Room) (kPre D k [.ref ma, .int (nI len), .long (lN kk), .ref wo] [(ma, .inr (1, [.ref se, .ref nu, .ref nx, .ref ac, .ref gr, .ref fn, .ref tl, .int (nI z)])), (se, .inl (k 0, 257, .inl (aN SE))), (nu, .inl (k 0, 257, .inl (aM NU))), (nx, .inl (k 0, 1028, .inl (aN NX))), (ac, .inl (k 0, 257, .inl (aN AC))), (gr, .inl (k 0, 257, .inl (aN GR))), (fn, .inl (k 0, 257, .inl (aN FN))), (tl, .inl (k 1, 7967, .inr (.inl (aL TL)))), (wo, .inr (6, [.ref wl, .int (nI y)])), (wl, .inl (k 0, cp, .inl (aN L)))] sz) (va_Qv (fun (_ : Nat) => True) (kB D k (fun u : Nat => [(ma, .inr (1, [.ref se, .ref nu, .ref nx, .ref ac, .ref gr, .ref fn, .ref tl, .int (nI z)])), (se, .inl (k 0, 257, .inl (aN SE))), (nu, .inl (k 0, 257, .inl (aM NU))), (nx, .inl (k 0, 1028, .inl (aN NX))), (ac, .inl (k 0, 257, .inl (aN AC))), (gr, .inl (k 0, 257, .inl (aN GR))), (fn, .inl (k 0, 257, .inl (aN FN))), (tl, .inl (k 1, 7967, .inr (.inl (aL TL)))), (wo, .inr (6, [.ref u, .int (nI len)])), (u, .inl (k 0, (if len ≤ cp then cp else len), .inl (aN (spw NX TL len 0 0 kk (if len ≤ cp then L else fun _ => 0)))))]) (va_A [(ma, .inr (1, [.ref se, .ref nu, .ref nx, .ref ac, .ref gr, .ref fn, .ref tl, .int (nI z)])), (se, .inl (k 0, 257, .inl (aN SE))), (nu, .inl (k 0, 257, .inl (aM NU))), (nx, .inl (k 0, 1028, .inl (aN NX))), (ac, .inl (k 0, 257, .inl (aN AC))), (gr, .inl (k 0, 257, .inl (aN GR))), (fn, .inl (k 0, 257, .inl (aN FN))), (tl, .inl (k 1, 7967, .inr (.inl (aL TL)))), (wo, .inr (6, [.ref wl, .int (nI y)])), (wl, .inl (k 0, cp, .inl (aN L)))] sz)) (va_A [(ma, .inr (1, [.ref se, .ref nu, .ref nx, .ref ac, .ref gr, .ref fn, .ref tl, .int (nI z)])), (se, .inl (k 0, 257, .inl (aN SE))), (nu, .inl (k 0, 257, .inl (aM NU))), (nx, .inl (k 0, 1028, .inl (aN NX))), (ac, .inl (k 0, 257, .inl (aN AC))), (gr, .inl (k 0, 257, .inl (aN GR))), (fn, .inl (k 0, 257, .inl (aN FN))), (tl, .inl (k 1, 7967, .inr (.inl (aL TL)))), (wo, .inr (6, [.ref wl, .int (nI y)])), (wl, .inl (k 0, cp, .inl (aN L)))] sz)) 1 len (va_A [(ma, .inr (1, [.ref se, .ref nu, .ref nx, .ref ac, .ref gr, .ref fn, .ref tl, .int (nI z)])), (se, .inl (k 0, 257, .inl (aN SE))), (nu, .inl (k 0, 257, .inl (aM NU))), (nx, .inl (k 0, 1028, .inl (aN NX))), (ac, .inl (k 0, 257, .inl (aN AC))), (gr, .inl (k 0, 257, .inl (aN GR))), (fn, .inl (k 0, 257, .inl (aN FN))), (tl, .inl (k 1, 7967, .inr (.inl (aL TL)))), (wo, .inr (6, [.ref wl, .int (nI y)])), (wl, .inl (k 0, cp, .inl (aN L)))] sz) := by
  refine kMet (by decide) (Nat.le_of_ble_eq_true rfl) ?_
  intro p e s m below meth c ls hX hml hr hlocks hin hsz hW hl Q hQ
  generalize hAe : va_A [(ma, .inr (1, [.ref se, .ref nu, .ref nx, .ref ac, .ref gr, .ref fn, .ref tl, .int (nI z)])), (se, .inl (k 0, 257, .inl (aN SE))), (nu, .inl (k 0, 257, .inl (aM NU))), (nx, .inl (k 0, 1028, .inl (aN NX))), (ac, .inl (k 0, 257, .inl (aN AC))), (gr, .inl (k 0, 257, .inl (aN GR))), (fn, .inl (k 0, 257, .inl (aN FN))), (tl, .inl (k 1, 7967, .inr (.inl (aL TL)))), (wo, .inr (6, [.ref wl, .int (nI y)])), (wl, .inl (k 0, cp, .inl (aN L)))] sz = A at hW hQ
  generalize hH0 : s.heap = H at hW ⊢
  generalize hl0 : ([] : List Loc) = locs at hW ⊢
  have hX : FX p s m c [.ref ma, .int (nI len), .long (lN kk), .ref wo].toArray c_Ma_spell R_Ma := hX
  have hl : lv_has ls 12 [(0, .ref ma), (1, .int (nI len)), (2, .long (lN kk)), (4, .ref wo)] := hl
  refine lv_aload hX.1 hX.2.1 d_Ma_spell_0 (lv_at hl 3 rfl) ?_
  refine lv_iload_n hX.1 hX.2.1 d_Ma_spell_2 rfl (lv_at hl 1 rfl) ?_
  refine kCv (wc := [(wo, .inr (6, [.ref wl, .int (nI y)])), (wl, .inl (k 0, cp, .inl (aN L)))]) hW [8, 9] (by rfl) (by intro _; rfl) (kRunV (n := 1) (As := [.int (nI len)]) (rest := []) hX hml hW (ok_Wo_resize l D k H.size wo wl L y cp len (by omega) hcp) m_Ma_65 im_Wo_resize se_Wo_resize in_Wo cd_Wo_resize [8, 9] rfl rfl rfl rfl (by decide +kernel) ⟨rfl, rfl, Nat.le_of_ble_eq_true rfl, Nat.le_of_ble_eq_true rfl⟩ rfl hl.1 rfl (Nat.le_of_ble_eq_true rfl) d_Ma_spell_3 ⟨by first | exact Nat.zero_le _ | decide | omega | (dsimp only; omega), by first | exact Nat.zero_le _ | decide | omega | (dsimp only; omega)⟩) (fun u H locs _ hW => ?_)
  have hW : KW D k A s [(ma, .inr (1, [.ref se, .ref nu, .ref nx, .ref ac, .ref gr, .ref fn, .ref tl, .int (nI z)])), (se, .inl (k 0, 257, .inl (aN SE))), (nu, .inl (k 0, 257, .inl (aM NU))), (nx, .inl (k 0, 1028, .inl (aN NX))), (ac, .inl (k 0, 257, .inl (aN AC))), (gr, .inl (k 0, 257, .inl (aN GR))), (fn, .inl (k 0, 257, .inl (aN FN))), (tl, .inl (k 1, 7967, .inr (.inl (aL TL)))), (wo, .inr (6, [.ref u, .int (nI len)])), (u, .inl (k 0, (if len ≤ cp then cp else len), .inl (aN (if len ≤ cp then L else fun _ => 0))))] H locs := hW
  refine W.widen (k := 1) (n := len) (by omega) (by omega) ?_
  have hc2 : len ≤ (if len ≤ cp then cp else len) := by split <;> omega
  have hc3 : (if len ≤ cp then cp else len) < 2 ^ 20 := by split <;> omega
  generalize hL0 : (if len ≤ cp then L else fun _ => 0) = L0 at hW hQ
  generalize hC0 : (if len ≤ cp then cp else len) = c0 at hW hQ hc2 hc3
  obtain ⟨o, ho⟩ : ∃ o, spw NX TL len 0 0 kk L0 = o := ⟨_, rfl⟩
  rw [ho] at hQ
  refine lv_iconst (v := nI 0) hX.1 hX.2.1 d_Ma_spell_6 (by decide) ?_
  refine lv_istore (lv' := [(5, .int (nI 0)), (0, .ref ma), (1, .int (nI len)), (2, .long (lN kk)), (4, .ref wo)]) hX.1 hX.2.1 d_Ma_spell_7 hl (by decide) rfl (fun ls hl => ?_)
  refine lv_lload_n hX.1 hX.2.1 d_Ma_spell_9 rfl (lv_at hl 3 rfl) ?_
  refine lv_lstore (lv' := [(6, .long (lN kk)), (5, .int (nI 0)), (0, .ref ma), (1, .int (nI len)), (2, .long (lN kk)), (4, .ref wo)]) hX.1 hX.2.1 d_Ma_spell_10 hl (by decide) rfl (fun ls hl => ?_)
  refine lv_iconst (v := nI 0) hX.1 hX.2.1 d_Ma_spell_12 (by decide) ?_
  refine lv_istore (lv' := [(8, .int (nI 0)), (6, .long (lN kk)), (5, .int (nI 0)), (0, .ref ma), (1, .int (nI len)), (2, .long (lN kk)), (4, .ref wo)]) hX.1 hX.2.1 d_Ma_spell_13 hl (by decide) rfl (fun ls hl => ?_)
  have lp : ∀ (fu : Nat) (i : Nat) (q : Nat) (k1 : Nat) (L1 : Nat → Nat) (H : Heap) (locs : List Loc) (ls : Array Slot), (i ≤ len) → (len < i + fu) → (spw NX TL (len - i) i q k1 L1 = o) → (q < 257) → (k1 < 2 ^ 63) →  KW D k A s [(ma, .inr (1, [.ref se, .ref nu, .ref nx, .ref ac, .ref gr, .ref fn, .ref tl, .int (nI z)])), (se, .inl (k 0, 257, .inl (aN SE))), (nu, .inl (k 0, 257, .inl (aM NU))), (nx, .inl (k 0, 1028, .inl (aN NX))), (ac, .inl (k 0, 257, .inl (aN AC))), (gr, .inl (k 0, 257, .inl (aN GR))), (fn, .inl (k 0, 257, .inl (aN FN))), (tl, .inl (k 1, 7967, .inr (.inl (aL TL)))), (wo, .inr (6, [.ref u, .int (nI len)])), (u, .inl (k 0, c0, .inl (aN L1)))] H locs → lv_has ls 12 [(8, .int (nI i)), (6, .long (lN k1)), (5, .int (nI q)), (4, .ref wo), (2, .long (lN kk)), (1, .int (nI len)), (0, .ref ma)] → W p l e ({ frames := 1, cells := 1, slots := len, locals := 21 } : Room) s m [.ref ma, .int (nI len), .long (lN kk), .ref wo].toArray below meth c H locs 1 len Q (F0 m 15 ls []) := by
    intro fu
    induction fu with
    | zero => intro i q k1 L1 H locs ls lp1 lp2 hs hq hk1 hW hl; exfalso; omega
    | succ fu ih =>
      intro i q k1 L1 H locs ls lp1 lp2 hs hq hk1 hW hl
      refine lv_iload hX.1 hX.2.1 d_Ma_spell_15 (lv_at hl 0 rfl) ?_
      refine lv_iload_n hX.1 hX.2.1 d_Ma_spell_17 rfl (lv_at hl 5 rfl) ?_
      refine kge hX (tgt := 124) (by omega) (by omega) d_Ma_spell_18 (by decide) (fun h1 => ?_) (fun h1 => ?_)
      · rw [show len - i = 0 by omega, spw] at hs
        subst hs
        exact kvret hX hr hlocks hQ u (hW) (trivial) d_Ma_spell_124
      · rw [show len - i = (len - 1 - i) + 1 by omega, spw] at hs
        have hsp := spl_ok NX TL q ((len - 1 - i) * 257) 3 0 k1
        obtain ⟨oo, hoo⟩ : ∃ oo, spl NX TL q ((len - 1 - i) * 257) 3 0 k1 = oo := ⟨_, rfl⟩
        rw [hoo] at hs hsp
        refine lv_iload_n hX.1 hX.2.1 d_Ma_spell_21 rfl (lv_at hl 5 rfl) ?_
        refine lv_iconst (v := nI 1) hX.1 hX.2.1 d_Ma_spell_22 (by decide) ?_
        refine lv_isub hX.1 hX.2.1 d_Ma_spell_23 ?_
        refine tpi (y := nI (len - 1)) (pk_sub (by omega)) ?_
        refine lv_iload hX.1 hX.2.1 d_Ma_spell_24 (lv_at hl 0 rfl) ?_
        refine lv_isub hX.1 hX.2.1 d_Ma_spell_26 ?_
        refine tpi (y := nI (len - 1 - i)) (pk_sub (by omega)) ?_
        refine lv_sipush (v := nI 257) hX.1 hX.2.1 d_Ma_spell_27 (by decide) ?_
        refine lv_imul hX.1 hX.2.1 d_Ma_spell_30 ?_
        refine tpi (y := nI ((len - 1 - i) * 257)) (pk_mul _ _) ?_
        refine lv_istore (lv' := [(9, .int (nI ((len - 1 - i) * 257))), (8, .int (nI i)), (6, .long (lN k1)), (5, .int (nI q)), (4, .ref wo), (2, .long (lN kk)), (1, .int (nI len)), (0, .ref ma)]) hX.1 hX.2.1 d_Ma_spell_31 hl (by decide) rfl (fun ls hl => ?_)
        refine lv_iconst (v := nI 0) hX.1 hX.2.1 d_Ma_spell_33 (by decide) ?_
        refine lv_istore (lv' := [(10, .int (nI 0)), (9, .int (nI ((len - 1 - i) * 257))), (8, .int (nI i)), (6, .long (lN k1)), (5, .int (nI q)), (4, .ref wo), (2, .long (lN kk)), (1, .int (nI len)), (0, .ref ma)]) hX.1 hX.2.1 d_Ma_spell_34 hl (by decide) rfl (fun ls hl => ?_)
        refine lv_aload_n hX.1 hX.2.1 d_Ma_spell_36 rfl (lv_at hl 8 rfl) ?_
        refine kget hX hW i_Ma 0 rfl rfl 2 (by decide) f_Ma_20 rfl rfl d_Ma_spell_37 ?_
        refine lv_iload hX.1 hX.2.1 d_Ma_spell_40 (lv_at hl 4 rfl) ?_
        refine lv_iconst (v := nI 4) hX.1 hX.2.1 d_Ma_spell_42 (by decide) ?_
        refine lv_imul hX.1 hX.2.1 d_Ma_spell_43 ?_
        refine tpi (y := nI (q * 4)) (pk_mul _ _) ?_
        refine kiald hX hW 3 rfl (by omega) (by first | decide | omega) d_Ma_spell_44 ?_
        refine lv_istore (lv' := [(11, .int (nI (NX (q * 4 + 0)))), (10, .int (nI 0)), (9, .int (nI ((len - 1 - i) * 257))), (8, .int (nI i)), (6, .long (lN k1)), (5, .int (nI q)), (4, .ref wo), (2, .long (lN kk)), (1, .int (nI len)), (0, .ref ma)]) hX.1 hX.2.1 d_Ma_spell_45 hl (by decide) rfl (fun ls hl => ?_)
        have ih0 := ih
        have lq : ∀ (fu : Nat) (ch : Nat) (k2 : Nat) (H : Heap) (locs : List Loc) (ls : Array Slot), (ch ≤ 3) → (3 < ch + fu) → (spl NX TL q ((len - 1 - i) * 257) (3 - ch) ch k2 = oo) → (k2 < 2 ^ 63) →  KW D k A s [(ma, .inr (1, [.ref se, .ref nu, .ref nx, .ref ac, .ref gr, .ref fn, .ref tl, .int (nI z)])), (se, .inl (k 0, 257, .inl (aN SE))), (nu, .inl (k 0, 257, .inl (aM NU))), (nx, .inl (k 0, 1028, .inl (aN NX))), (ac, .inl (k 0, 257, .inl (aN AC))), (gr, .inl (k 0, 257, .inl (aN GR))), (fn, .inl (k 0, 257, .inl (aN FN))), (tl, .inl (k 1, 7967, .inr (.inl (aL TL)))), (wo, .inr (6, [.ref u, .int (nI len)])), (u, .inl (k 0, c0, .inl (aN L1)))] H locs → lv_has ls 12 [(11, .int (nI (NX (q * 4 + ch)))), (10, .int (nI ch)), (9, .int (nI ((len - 1 - i) * 257))), (8, .int (nI i)), (6, .long (lN k2)), (5, .int (nI q)), (4, .ref wo), (2, .long (lN kk)), (1, .int (nI len)), (0, .ref ma)] → W p l e ({ frames := 1, cells := 1, slots := len, locals := 21 } : Room) s m [.ref ma, .int (nI len), .long (lN kk), .ref wo].toArray below meth c H locs 1 len Q (F0 m 47 ls []) := by
          intro fu
          induction fu with
          | zero => intro ch k2 H locs ls lq1 lq2 hl1 hk2 hW hl; exfalso; omega
          | succ fu ih =>
            intro ch k2 H locs ls lq1 lq2 hl1 hk2 hW hl
            have nx1 := hNX (q * 4 + ch) (by omega)
            have k104 : oo = (ch, k2) → W p l e ({ frames := 1, cells := 1, slots := len, locals := 21 } : Room) s m [.ref ma, .int (nI len), .long (lN kk), .ref wo].toArray below meth c H locs 1 len Q (F0 m 104 ls []) := by
              intro hoo2
              subst hoo2
              refine lv_aload hX.1 hX.2.1 d_Ma_spell_104 (lv_at hl 6 rfl) ?_
              refine kget hX hW i_Wo 8 rfl rfl 0 (by decide) f_Ma_71 rfl rfl d_Ma_spell_106 ?_
              refine lv_iload hX.1 hX.2.1 d_Ma_spell_109 (lv_at hl 3 rfl) ?_
              refine lv_iload hX.1 hX.2.1 d_Ma_spell_111 (lv_at hl 1 rfl) ?_
              refine kiast hX hW 9 rfl (by omega) (by first | decide | omega) d_Ma_spell_113 (fun H locs hW => ?_)
              have hW : KW D k A s [(ma, .inr (1, [.ref se, .ref nu, .ref nx, .ref ac, .ref gr, .ref fn, .ref tl, .int (nI z)])), (se, .inl (k 0, 257, .inl (aN SE))), (nu, .inl (k 0, 257, .inl (aM NU))), (nx, .inl (k 0, 1028, .inl (aN NX))), (ac, .inl (k 0, 257, .inl (aN AC))), (gr, .inl (k 0, 257, .inl (aN GR))), (fn, .inl (k 0, 257, .inl (aN FN))), (tl, .inl (k 1, 7967, .inr (.inl (aL TL)))), (wo, .inr (6, [.ref u, .int (nI len)])), (u, .inl (k 0, c0, .inl (aN (va_up L1 i ch))))] H locs := hW
              refine lv_iload hX.1 hX.2.1 d_Ma_spell_114 (lv_at hl 0 rfl) ?_
              refine lv_istore (lv' := [(5, .int (nI (NX (q * 4 + ch)))), (11, .int (nI (NX (q * 4 + ch)))), (10, .int (nI ch)), (9, .int (nI ((len - 1 - i) * 257))), (8, .int (nI i)), (6, .long (lN k2)), (4, .ref wo), (2, .long (lN kk)), (1, .int (nI len)), (0, .ref ma)]) hX.1 hX.2.1 d_Ma_spell_116 hl (by decide) rfl (fun ls hl => ?_)
              refine lv_iinc (v := nI (i + 1)) (lv' := [(8, .int (nI (i + 1))), (5, .int (nI (NX (q * 4 + ch)))), (11, .int (nI (NX (q * 4 + ch)))), (10, .int (nI ch)), (9, .int (nI ((len - 1 - i) * 257))), (6, .long (lN k2)), (4, .ref wo), (2, .long (lN kk)), (1, .int (nI len)), (0, .ref ma)]) hX.1 hX.2.1 d_Ma_spell_118 hl (k := 4) rfl (kn_inc _) (by decide) rfl (fun ls hl => ?_)
              refine lv_goto (tgt := 15) hX.1 hX.2.1 d_Ma_spell_121 (by decide) ?_
              exact ih0 (i + 1) (NX (q * 4 + ch)) k2 (va_up L1 i ch) H locs ls (by omega) (by omega) (by rw [show len - (i + 1) = len - 1 - i by omega]; exact hs) nx1 hk2 hW (lv_sub hl [0, 5, 1, 6, 7, 8, 9] rfl)
            refine lv_iload hX.1 hX.2.1 d_Ma_spell_47 (lv_at hl 1 rfl) ?_
            refine lv_iconst (v := nI 3) hX.1 hX.2.1 d_Ma_spell_49 (by decide) ?_
            refine kge hX (tgt := 104) (by omega) (by omega) d_Ma_spell_50 (by decide) (fun h2 => ?_) (fun h2 => ?_)
            · have e3 : ch = 3 := by omega
              subst e3
              rw [Nat.sub_self, spl] at hl1
              exact k104 hl1.symm
            · have tb1 := hT ((len - 1 - i) * 257 + NX (q * 4 + ch)) (by omega)
              refine lv_lload hX.1 hX.2.1 d_Ma_spell_53 (lv_at hl 4 rfl) ?_
              refine lv_aload_n hX.1 hX.2.1 d_Ma_spell_55 rfl (lv_at hl 9 rfl) ?_
              refine kget hX hW i_Ma 0 rfl rfl 6 (by decide) f_Ma_32 rfl rfl d_Ma_spell_56 ?_
              refine lv_iload hX.1 hX.2.1 d_Ma_spell_59 (lv_at hl 2 rfl) ?_
              refine lv_iload hX.1 hX.2.1 d_Ma_spell_61 (lv_at hl 0 rfl) ?_
              refine lv_iadd hX.1 hX.2.1 d_Ma_spell_63 ?_
              refine tpi (y := nI ((len - 1 - i) * 257 + NX (q * 4 + ch))) (nI_add _ _) ?_
              refine klald hX hW 7 rfl (by omega) (by first | decide | omega) d_Ma_spell_64 ?_
              rw [show 3 - ch = (3 - (ch + 1)) + 1 by omega, spl] at hl1
              refine klcmp_lt hX (tgt := 104) hk2 tb1 d_Ma_spell_65 d_Ma_spell_66 (by decide) (fun h3 => ?_) (fun h3 => ?_)
              · rw [if_neg (by omega)] at hl1
                exact k104 hl1.symm
              · rw [if_pos h3] at hl1
                refine lv_lload hX.1 hX.2.1 d_Ma_spell_69 (lv_at hl 4 rfl) ?_
                refine lv_aload_n hX.1 hX.2.1 d_Ma_spell_71 rfl (lv_at hl 9 rfl) ?_
                refine kget hX hW i_Ma 0 rfl rfl 6 (by decide) f_Ma_32 rfl rfl d_Ma_spell_72 ?_
                refine lv_iload hX.1 hX.2.1 d_Ma_spell_75 (lv_at hl 2 rfl) ?_
                refine lv_iload hX.1 hX.2.1 d_Ma_spell_77 (lv_at hl 0 rfl) ?_
                refine lv_iadd hX.1 hX.2.1 d_Ma_spell_79 ?_
                refine tpi (y := nI ((len - 1 - i) * 257 + NX (q * 4 + ch))) (nI_add _ _) ?_
                refine klald hX hW 7 rfl (by omega) (by first | decide | omega) d_Ma_spell_80 ?_
                refine lv_lsub hX.1 hX.2.1 d_Ma_spell_81 ?_
                refine tpl (y := lN (k2 - TL ((len - 1 - i) * 257 + NX (q * 4 + ch)))) (lN_sub h3) ?_
                refine lv_lstore (lv' := [(6, .long (lN (k2 - TL ((len - 1 - i) * 257 + NX (q * 4 + ch))))), (11, .int (nI (NX (q * 4 + ch)))), (10, .int (nI ch)), (9, .int (nI ((len - 1 - i) * 257))), (8, .int (nI i)), (5, .int (nI q)), (4, .ref wo), (2, .long (lN kk)), (1, .int (nI len)), (0, .ref ma)]) hX.1 hX.2.1 d_Ma_spell_82 hl (by decide) rfl (fun ls hl => ?_)
                refine lv_iinc (v := nI (ch + 1)) (lv' := [(10, .int (nI (ch + 1))), (6, .long (lN (k2 - TL ((len - 1 - i) * 257 + NX (q * 4 + ch))))), (11, .int (nI (NX (q * 4 + ch)))), (9, .int (nI ((len - 1 - i) * 257))), (8, .int (nI i)), (5, .int (nI q)), (4, .ref wo), (2, .long (lN kk)), (1, .int (nI len)), (0, .ref ma)]) hX.1 hX.2.1 d_Ma_spell_84 hl (k := 2) rfl (kn_inc _) (by decide) rfl (fun ls hl => ?_)
                refine lv_aload_n hX.1 hX.2.1 d_Ma_spell_87 rfl (lv_at hl 9 rfl) ?_
                refine kget hX hW i_Ma 0 rfl rfl 2 (by decide) f_Ma_20 rfl rfl d_Ma_spell_88 ?_
                refine lv_iload hX.1 hX.2.1 d_Ma_spell_91 (lv_at hl 5 rfl) ?_
                refine lv_iconst (v := nI 4) hX.1 hX.2.1 d_Ma_spell_93 (by decide) ?_
                refine lv_imul hX.1 hX.2.1 d_Ma_spell_94 ?_
                refine tpi (y := nI (q * 4)) (pk_mul _ _) ?_
                refine lv_iload hX.1 hX.2.1 d_Ma_spell_95 (lv_at hl 0 rfl) ?_
                refine lv_iadd hX.1 hX.2.1 d_Ma_spell_97 ?_
                refine tpi (y := nI (q * 4 + (ch + 1))) (nI_add _ _) ?_
                refine kiald hX hW 3 rfl (by omega) (by first | decide | omega) d_Ma_spell_98 ?_
                refine lv_istore (lv' := [(11, .int (nI (NX (q * 4 + (ch + 1))))), (10, .int (nI (ch + 1))), (6, .long (lN (k2 - TL ((len - 1 - i) * 257 + NX (q * 4 + ch))))), (9, .int (nI ((len - 1 - i) * 257))), (8, .int (nI i)), (5, .int (nI q)), (4, .ref wo), (2, .long (lN kk)), (1, .int (nI len)), (0, .ref ma)]) hX.1 hX.2.1 d_Ma_spell_99 hl (by decide) rfl (fun ls hl => ?_)
                refine lv_goto (tgt := 47) hX.1 hX.2.1 d_Ma_spell_101 (by decide) ?_
                exact ih (ch + 1) _ H locs ls (by omega) (by omega) hl1 (by omega) (hW) (lv_sub hl [0, 1, 3, 4, 2, 5, 6, 7, 8, 9] rfl)
        exact lq 4 0 k1 H locs ls (by omega) (by omega) hoo hk1 (hW) (lv_sub hl [0, 1, 2, 3, 4, 5, 6, 7, 8, 9] rfl)
  exact lp (len + 1) 0 0 kk L0 H locs ls (by omega) (by omega) ho (by decide) hkk (hW) (lv_sub hl [0, 1, 2, 6, 5, 4, 3] rfl)
end
section
/-! METHODS THAT ANSWER A CELL -/
section KRR
variable {p : Program} {l : Launch} {e : Env} {R : Room} {s : State} {m : MethodId} {args : Array Value} {below : List Frame} {meth : Method} {c : Code} {H : Heap} {locs : List Loc} {cells slots : Nat} {Q : State → Prop}
variable {cc : ByteArray} {pc : Nat} {ls : Array Slot} {rest st0 : List Value} {own : String} {D : va_G} {k : Nat → ClassId} {A : Nat → Prop} {ws wc : va_W} {mc ms : Nat} {w1 w1b : Nat → va_W}
theorem karet {ra : Nat} {rt : FieldType} (hX : FX p s m c args cc own) (hr : meth.sig.returnType = some rt) (hrt : (∃ n, rt = .object n) ∨ ∃ t, rt = .array t) (hlocks : meth.locks = false) (hQ : ∀ t, MQ below (va_Qr (fun _ : Unit => True) (fun _ ra t => kB D k (fun u => w1 u ++ w1b u) A ra t) A) args s cells slots A t → Q t) (hW : KW D k A s (w1 ra ++ w1b ra) H locs) (hdg : decode cc pc = .ok (.areturn, 1)) : W p l e R s m args below meth c H locs cells slots Q (F0 m pc ls [.ref ra]) :=
  wmono hQ (W.aret hX.1 hX.2.1 hr hrt (Or.inr ⟨ra, rfl⟩) (fun t ht hV => ⟨⟨(), ra, rfl, trivial, by rw [ht]; exact hW.1, va_K.moved hV.alike hW.2.2.2.1, hW.2.1⟩, hW.2.2.1.F ht⟩) hW.2.2.1.2.2 hdg)
theorem kCrN {a : Array Value} (hW : KW D k A s ws H locs) (isC : List Nat) (hC : isC.map (fun i => ws[i]?) = wc.map some) (had : ∀ u : Nat, (w1 u).length = wc.length)
    (hr : va_Run p l e R s m args below meth c H locs cells slots mc ms (F0 m pc ls st0) rest (va_Qr (fun _ : Unit => True) (fun _ ra t => kB D k (fun u => w1 u ++ w1b u) (va_A wc H.size) ra t) (va_A wc H.size) a) (va_A wc H.size))
    (kk : ∀ (ra : Nat) (H1 : Heap) (locs1 : List Loc), KW D k A s (setAll ws isC (w1 ra) ++ w1b ra) H1 locs1 → W p l e R s m args below meth c H1 locs1 (cells + mc) (slots + ms) Q (F0 m (pc + 3) ls (.ref ra :: rest))) : W p l e R s m args below meth c H locs cells slots Q (F0 m pc ls st0) :=
  va_callr hr hW.2.2.1 (fun q _ h => va_free hW.2.1 hW.2.2.1 hW.2.2.2.2 isC hC q h) (va_free hW.2.1 hW.2.2.1 hW.2.2.2.2 isC hC) (fun _ ra t H1 locs1 ht _ _ hB _ hk1 hS1 => kk ra H1 locs1 (kBack hW isC hC ht (had ra) hB hk1 hS1))
end KRR
end
section
/-! Math.min, Arrays.copyOf, Search.whoAlone -/
theorem kmin {p : Program} {l : Launch} {e : Env} {R : Room} {s : State} {m : MethodId} {args : Array Value} {below : List Frame} {meth : Method} {c : Code} {H : Heap} {locs : List Loc} {cells slots : Nat} {Q : State → Prop} {cc : ByteArray} {pc : Nat} {ls : Array Slot} {rest : List Value} (hX : FX p s m c args cc R_Ar) (hml : c.maxLocals = ls.size) (hf : 1 ≤ R.frames) (hlo : (rest.map fun v => v.category).sum + 13 ≤ R.locals) (hc : cells ≤ R.cells) (hs : slots ≤ R.slots) {a b : Nat} (ha : a < 2 ^ 31) (hb : b < 2 ^ 31) (hdg : decode cc pc = .ok (.invokestatic 304, 3))
    (kk : W p l e R s m args below meth c H locs cells slots Q (F0 m (pc + 3) ls (.int (nI (min a b)) :: rest))) : W p l e R s m args below meth c H locs cells slots Q (F0 m pc ls (.int (nI b) :: .int (nI a) :: rest)) := by
  obtain ⟨hx, hb0, hown, hts⟩ := hX
  refine va_mmin hx hb0 hml hown (hts _ m_Ar_304) (hts _ sm_Mt_min) (hts _ in_Mt) (hts _ cd_Mt_min) hf hlo hc hs hdg ?_
  have e : (if nI b < nI a then nI b else nI a) = nI (min a b) := by
    by_cases h : b < a
    · rw [if_pos ((nI_ltI hb ha).mpr h), Nat.min_eq_right (by omega)]
    · rw [if_neg (fun q => h ((nI_ltI hb ha).mp q)), Nat.min_eq_left (by omega)]
  rw [e]
  exact kk
set_option maxHeartbeats 4000000 in
set_option maxRecDepth 100000 in
/-- copyOf(a, n), n above its length -/
theorem ok_Ar_copyI (l : Launch) (D : va_G) (k : Nat → ClassId) (sz : Nat) (a cp : Nat) (F : Nat → Nat) (n : Nat) (hcp : cp < n) (hn : n < 2 ^ 20) : Met l y_Ar_copyI (.code y_Ar_copyI c_Ar_copyI 3 (some (.array .int)) :: wsU) ({ frames := 1, cells := 1, slots := n, locals := 21 } : Room) (kPre D k [.ref a, .int (nI n)] [(a, .inl (k 0, cp, .inl (aN F)))] sz) (va_Qr (fun _ : Unit => True) (fun _ ra t => kB D k (fun u : Nat => [(a, .inl (k 0, cp, .inl (aN F)))] ++ [(u, .inl (k 0, n, .inl (aN (cpz F (fun _ => 0) cp))))]) (va_A [(a, .inl (k 0, cp, .inl (aN F)))] sz) ra t) (va_A [(a, .inl (k 0, cp, .inl (aN F)))] sz)) 1 n (va_A [(a, .inl (k 0, cp, .inl (aN F)))] sz) := by
  refine kMet (by decide) (Nat.le_of_ble_eq_true rfl) ?_
  intro p e s m below meth c ls hX hml hr hlocks hin hsz hW hl Q hQ
  generalize hAe : va_A [(a, .inl (k 0, cp, .inl (aN F)))] sz = A at hW hQ
  generalize hH0 : s.heap = H at hW ⊢
  generalize hl0 : ([] : List Loc) = locs at hW ⊢
  have hX : FX p s m c [.ref a, .int (nI n)].toArray c_Ar_copyI R_Ar := hX
  have hl : lv_has ls 3 [(0, .ref a), (1, .int (nI n))] := hl
  refine lv_iload_n hX.1 hX.2.1 d_Ar_copyI_0 rfl (lv_at hl 1 rfl) ?_
  refine lv_aload_n hX.1 hX.2.1 d_Ar_copyI_1 rfl (lv_at hl 0 rfl) ?_
  refine kalen hX hW 0 0 rfl rfl d_Ar_copyI_2 ?_
  refine kne hX (tgt := 14) (by omega) (by omega) d_Ar_copyI_3 (by decide) (fun h1 => ?_) (fun h1 => ?_)
  · refine lv_iload_n hX.1 hX.2.1 d_Ar_copyI_14 rfl (lv_at hl 1 rfl) ?_
    refine knewI hX hW (by first | decide | omega) (by first | decide | omega | (dsimp only; omega)) (by first | decide | omega | (dsimp only; omega)) d_Ar_copyI_15 (fun q15 H hW => ?_)
    have hW : KW D k A s [(a, .inl (k 0, cp, .inl (aN F))), (q15, .inl (k 0, n, .inl (aN (fun _ => 0))))] H locs := hW
    refine lv_astore_n (lv' := [(2, .ref q15), (0, .ref a), (1, .int (nI n))]) hX.1 hX.2.1 d_Ar_copyI_17 rfl hl (by decide) rfl (fun ls hl => ?_)
    refine lv_aload_n hX.1 hX.2.1 d_Ar_copyI_18 rfl (lv_at hl 1 rfl) ?_
    refine lv_iconst (v := nI 0) hX.1 hX.2.1 d_Ar_copyI_19 (by decide) ?_
    refine lv_aload_n hX.1 hX.2.1 d_Ar_copyI_20 rfl (lv_at hl 0 rfl) ?_
    refine lv_iconst (v := nI 0) hX.1 hX.2.1 d_Ar_copyI_21 (by decide) ?_
    refine lv_aload_n hX.1 hX.2.1 d_Ar_copyI_22 rfl (lv_at hl 1 rfl) ?_
    refine kalen hX hW 0 0 rfl rfl d_Ar_copyI_23 ?_
    refine lv_iload_n hX.1 hX.2.1 d_Ar_copyI_24 rfl (lv_at hl 2 rfl) ?_
    refine kmin hX (hml.trans hl.1.symm) (Nat.le_of_ble_eq_true rfl) (Nat.le_of_ble_eq_true rfl) (by dsimp only; omega) (by dsimp only; omega) (by omega) (by omega) d_Ar_copyI_25 ?_
    rw [Nat.min_eq_left (by omega)]
    refine kcopy (sp := 0) (dp := 0) (n := cp) hX (hml.trans hl.1.symm) hW m_Ar_150 0 1 rfl rfl (by omega) (by omega) (by omega) (by omega) (Nat.le_of_ble_eq_true rfl) (Nat.le_of_ble_eq_true rfl) d_Ar_copyI_28 (fun H locs hW => ?_)
    rw [cpz_aN] at hW
    have hW : KW D k A s [(a, .inl (k 0, cp, .inl (aN F))), (q15, .inl (k 0, n, .inl (aN (cpz F (fun _ => 0) cp))))] H locs := hW
    refine lv_aload_n hX.1 hX.2.1 d_Ar_copyI_31 rfl (lv_at hl 0 rfl) ?_
    refine W.widen (k := 1) (n := n) (by omega) (by omega) ?_
    exact karet hX hr (Or.inr ⟨_, rfl⟩) hlocks hQ hW d_Ar_copyI_32
  · omega
set_option maxHeartbeats 4000000 in
set_option maxRecDepth 100000 in
/-- whoAlone(x, y) -/
theorem ok_Se_whoAlone (l : Launch) (D : va_G) (k : Nat → ClassId) (sz : Nat) (x y : Bool) : Met l y_Se_whoAlone (.code y_Se_whoAlone c_Se_whoAlone 2 (some .int) :: wsU) ({ frames := 0, cells := 0, slots := 0, locals := 0 } : Room) (kPre D k [.int (nI x.toNat), .int (nI y.toNat)] [] sz) (va_Qi (fun (r : Int32) (_ : Unit) => r = nI (if x = y then 0 else if x then 1 else 2)) (kB D k (fun _ : Unit => []) (va_A [] sz)) (va_A [] sz)) 0 0 (va_A [] sz) := by
  refine kMet (by decide) (Nat.le_of_ble_eq_true rfl) ?_
  intro p e s m below meth c ls hX hml hr hlocks hin hsz hW hl Q hQ
  generalize hAe : va_A [] sz = A at hW hQ
  generalize hH0 : s.heap = H at hW ⊢
  generalize hl0 : ([] : List Loc) = locs at hW ⊢
  have hX : FX p s m c [.int (nI x.toNat), .int (nI y.toNat)].toArray c_Se_whoAlone R_Se := hX
  have hl : lv_has ls 2 [(0, .int (nI x.toNat)), (1, .int (nI y.toNat))] := hl
  refine lv_iload_n hX.1 hX.2.1 d_Se_whoAlone_0 rfl (lv_at hl 0 rfl) ?_
  refine lv_iload_n hX.1 hX.2.1 d_Se_whoAlone_1 rfl (lv_at hl 1 rfl) ?_
  refine kne hX (tgt := 7) (bT _) (bT _) d_Se_whoAlone_2 (by decide) (fun h1 => ?_) (fun h1 => ?_)
  · have hne : ¬ x = y := fun e => h1 (by rw [e])
    refine lv_iload_n hX.1 hX.2.1 d_Se_whoAlone_7 rfl (lv_at hl 0 rfl) ?_
    refine kz hX (tgt := 15) (bT _) d_Se_whoAlone_8 (by decide) (fun h2 => ?_) (fun h2 => ?_)
    · refine lv_iconst (v := nI 2) hX.1 hX.2.1 d_Se_whoAlone_15 (by decide) ?_
      exact kiret hX hr hlocks hQ () (hW) (by rw [if_neg hne, bT_0 h2]; rfl) d_Se_whoAlone_16
    · refine lv_iconst (v := nI 1) hX.1 hX.2.1 d_Se_whoAlone_11 (by decide) ?_
      refine lv_goto (tgt := 16) hX.1 hX.2.1 d_Se_whoAlone_12 (by decide) ?_
      exact kiret hX hr hlocks hQ () (hW) (by rw [if_neg hne, bT_1 h2]; rfl) d_Se_whoAlone_16
  · have he : x = y := by cases x <;> cases y <;> simp_all
    refine lv_iconst (v := nI 0) hX.1 hX.2.1 d_Se_whoAlone_5 (by decide) ?_
    exact kiret hX hr hlocks hQ () (hW) (by rw [if_pos he]) d_Se_whoAlone_6
end
section
/-! THE SEARCH: marks, the queue -/
theorem ln_and (a b : Nat) : lN a &&& lN b = lN (a &&& b) := by
  apply Int64.toBitVec_inj.mp
  show BitVec.ofNat 64 a &&& BitVec.ofNat 64 b = BitVec.ofNat 64 (a &&& b)
  simp
theorem ln_or (a b : Nat) : lN a ||| lN b = lN (a ||| b) := by
  apply Int64.toBitVec_inj.mp
  show BitVec.ofNat 64 a ||| BitVec.ofNat 64 b = BitVec.ofNat 64 (a ||| b)
  simp
theorem ln_shl1 {j : Nat} (h : j < 64) : lN 1 <<< ((nI j).toInt64 &&& 63) = lN (2 ^ j) := by
  have : ∀ j : Fin 64, lN 1 <<< ((nI j.val).toInt64 &&& 63) = lN (2 ^ j.val) := by decide +kernel
  exact this ⟨j, h⟩
theorem ln_inj {a b : Nat} (ha : a < 2 ^ 64) (hb : b < 2 ^ 64) (h : lN a = lN b) : a = b := by
  have h1 : (lN a).toBitVec.toNat = (lN b).toBitVec.toNat := by rw [h]
  have h2 : ∀ n, n < 2 ^ 64 → (lN n).toBitVec.toNat = n := fun n hn => by
    show (BitVec.ofNat 64 n).toNat = n
    rw [BitVec.toNat_ofNat]; exact Nat.mod_eq_of_lt hn
  rw [h2 a ha, h2 b hb] at h1
  exact h1
theorem lg_cmp_0 {x y : Int64} : lg_cmp x y = 0 ↔ x = y := by
  unfold lg_cmp
  by_cases h1 : x > y
  · rw [if_pos h1]
    refine ⟨fun h => absurd h (by decide), fun h => ?_⟩
    subst h
    exact absurd h1 (by simp [Int64.lt_iff_toInt_lt])
  · rw [if_neg h1]
    by_cases h2 : x = y
    · rw [if_pos h2]; exact ⟨fun _ => h2, fun _ => rfl⟩
    · rw [if_neg h2]; exact ⟨fun h => absurd h (by decide), fun h => absurd h h2⟩
theorem pair_or {x y : Nat} (hy : y < 256) : x * 256 ||| y = x * 256 + y := by
  have := Nat.two_pow_add_eq_or_of_lt (i := 8) hy x
  rw [show x * 256 = 2 ^ 8 * x by omega]
  exact this.symm
theorem kn_shl8 {x : Nat} (h : x < 256) : nI x <<< (nI 8 &&& 31) = nI (x * 256) := pk_shlN _ 8 (by decide +kernel) (by omega)
theorem kn_shr6 {x : Nat} (h : x < 2 ^ 31) : nI x >>> (nI 6 &&& 31) = nI (x / 64) := pk_shrN h _ 6 (by decide +kernel)
theorem kn_63 (x : Nat) : nI x &&& nI 63 = nI (x % 64) := by rw [kn_and]; congr 1; exact Nat.and_two_pow_sub_one_eq_mod x 6
theorem and_pw (a j : Nat) : a &&& 2 ^ j = (a.testBit j).toNat * 2 ^ j := by
  apply Nat.eq_of_testBit_eq
  intro i
  rw [Nat.testBit_and]
  by_cases h : j = i
  · subst h
    cases hb : a.testBit j
    · simp
    · simp [Nat.testBit_two_pow_self]
  · rw [Nat.testBit_two_pow_of_ne h]
    cases hb : a.testBit j
    · simp
    · simp [Nat.testBit_two_pow_of_ne h]
/-- a pair's mark -/
def sb (SN : Nat → Nat) (p : Nat) : Bool := (SN (p / 64)).testBit (p % 64)
def sbs (SN : Nat → Nat) (p : Nat) : Nat → Nat := va_up SN (p / 64) (SN (p / 64) ||| 2 ^ (p % 64))
section KB5
variable {p : Program} {l : Launch} {e : Env} {R : Room} {s : State} {m : MethodId} {args : Array Value} {below : List Frame} {meth : Method} {c : Code} {H : Heap} {locs : List Loc} {cells slots : Nat} {Q : State → Prop}
variable {cc : ByteArray} {pc : Nat} {ls : Array Slot} {rest : List Value} {own : String}
theorem klcmp_ne (hX : FX p s m c args cc own) {a b : Nat} {off : Int} {tgt : Nat} (ha : a < 2 ^ 64) (hb : b < 2 ^ 64) (hd1 : decode cc pc = .ok (.lcmp, 1)) (hd2 : decode cc (pc + 1) = .ok (.ifCond .ne off, 3)) (ht : ((pc + 1 : Nat) : Int) + off = (tgt : Int))
    (kt : a ≠ b → W p l e R s m args below meth c H locs cells slots Q (F0 m tgt ls rest)) (kf : a = b → W p l e R s m args below meth c H locs cells slots Q (F0 m (pc + 1 + 3) ls rest)) : W p l e R s m args below meth c H locs cells slots Q (F0 m pc ls (.long (lN b) :: .long (lN a) :: rest)) :=
  W.lcmp hX.1 hX.2.1 hd1 (lv_if_ne hX.1 hX.2.1 hd2 ht (fun h => kt (fun q => h (lg_cmp_0.mpr (by rw [q])))) (fun h => kf (ln_inj ha hb (lg_cmp_0.mp h))))
end KB5
set_option maxHeartbeats 4000000 in
set_option maxRecDepth 100000 in
/-- markIfNew(x, y) -/
theorem ok_Se_mark (l : Launch) (D : va_G) (k : Nat → ClassId) (sz : Nat) (se sn fi sc og : Nat) (SN FI SC OG : Nat → Nat) (z cp : Nat) (x y : Nat) (hx : x < 256) (hy : y < 256) (hSN : ∀ w, w < 1024 → SN w < 2 ^ 64) : Met l y_Se_markIfNew (.code y_Se_markIfNew c_Se_markIfNew 7 (some .boolean) :: wsU) ({ frames := 0, cells := 0, slots := 0, locals := 0 } : Room) (kPre D k [.ref se, .int (nI x), .int (nI y)] [(se, .inr (4, [.ref sn, .ref fi, .ref sc, .ref og, .int (nI z)])), (sn, .inl (k 1, 1024, .inr (.inl (aL SN)))), (fi, .inl (k 0, cp, .inl (aN FI))), (sc, .inl (k 0, cp, .inl (aN SC))), (og, .inl (k 0, cp, .inl (aN OG)))] sz) (va_Qi (fun (r : Int32) (_ : Unit) => r = nI (!sb SN (x * 256 + y)).toNat) (kB D k (fun _ : Unit => [(se, .inr (4, [.ref sn, .ref fi, .ref sc, .ref og, .int (nI z)])), (sn, .inl (k 1, 1024, .inr (.inl (aL (sbs SN (x * 256 + y)))))), (fi, .inl (k 0, cp, .inl (aN FI))), (sc, .inl (k 0, cp, .inl (aN SC))), (og, .inl (k 0, cp, .inl (aN OG)))]) (va_A [(se, .inr (4, [.ref sn, .ref fi, .ref sc, .ref og, .int (nI z)])), (sn, .inl (k 1, 1024, .inr (.inl (aL SN)))), (fi, .inl (k 0, cp, .inl (aN FI))), (sc, .inl (k 0, cp, .inl (aN SC))), (og, .inl (k 0, cp, .inl (aN OG)))] sz)) (va_A [(se, .inr (4, [.ref sn, .ref fi, .ref sc, .ref og, .int (nI z)])), (sn, .inl (k 1, 1024, .inr (.inl (aL SN)))), (fi, .inl (k 0, cp, .inl (aN FI))), (sc, .inl (k 0, cp, .inl (aN SC))), (og, .inl (k 0, cp, .inl (aN OG)))] sz)) 0 0 (va_A [(se, .inr (4, [.ref sn, .ref fi, .ref sc, .ref og, .int (nI z)])), (sn, .inl (k 1, 1024, .inr (.inl (aL SN)))), (fi, .inl (k 0, cp, .inl (aN FI))), (sc, .inl (k 0, cp, .inl (aN SC))), (og, .inl (k 0, cp, .inl (aN OG)))] sz) := by
  refine kMet (by decide) (Nat.le_of_ble_eq_true rfl) ?_
  intro p e s m below meth c ls hX hml hr hlocks hin hsz hW hl Q hQ
  generalize hAe : va_A [(se, .inr (4, [.ref sn, .ref fi, .ref sc, .ref og, .int (nI z)])), (sn, .inl (k 1, 1024, .inr (.inl (aL SN)))), (fi, .inl (k 0, cp, .inl (aN FI))), (sc, .inl (k 0, cp, .inl (aN SC))), (og, .inl (k 0, cp, .inl (aN OG)))] sz = A at hW hQ
  generalize hH0 : s.heap = H at hW ⊢
  generalize hl0 : ([] : List Loc) = locs at hW ⊢
  have hX : FX p s m c [.ref se, .int (nI x), .int (nI y)].toArray c_Se_markIfNew R_Se := hX
  have hl : lv_has ls 7 [(0, .ref se), (1, .int (nI x)), (2, .int (nI y))] := hl
  refine lv_iload_n hX.1 hX.2.1 d_Se_markIfNew_0 rfl (lv_at hl 1 rfl) ?_
  refine lv_bipush (v := nI 8) hX.1 hX.2.1 d_Se_markIfNew_1 (by decide) ?_
  refine lv_ishl hX.1 hX.2.1 d_Se_markIfNew_3 ?_
  refine tpi (y := nI (x * 256)) (kn_shl8 hx) ?_
  refine lv_iload_n hX.1 hX.2.1 d_Se_markIfNew_4 rfl (lv_at hl 2 rfl) ?_
  refine lv_ior hX.1 hX.2.1 d_Se_markIfNew_5 ?_
  refine tpi (y := nI (x * 256 + y)) ((kn_or _ _).trans (by rw [pair_or hy])) ?_
  obtain ⟨pr, hpr⟩ : ∃ pr, x * 256 + y = pr := ⟨_, rfl⟩
  rw [hpr] at hQ ⊢
  have hp : pr < 65536 := by omega
  have hs := hSN (pr / 64) (by omega)
  have ha : SN (pr / 64) &&& 2 ^ (pr % 64) < 2 ^ 64 := Nat.lt_of_le_of_lt Nat.and_le_left hs
  refine lv_istore_n (lv' := [(3, .int (nI pr)), (0, .ref se), (1, .int (nI x)), (2, .int (nI y))]) hX.1 hX.2.1 d_Se_markIfNew_6 rfl hl (by decide) rfl (fun ls hl => ?_)
  refine lv_lconst (v := lN 1) hX.1 hX.2.1 d_Se_markIfNew_7 (by decide) ?_
  refine lv_iload_n hX.1 hX.2.1 d_Se_markIfNew_8 rfl (lv_at hl 0 rfl) ?_
  refine lv_bipush (v := nI 63) hX.1 hX.2.1 d_Se_markIfNew_9 (by decide) ?_
  refine lv_iand hX.1 hX.2.1 d_Se_markIfNew_11 ?_
  refine tpi (y := nI (pr % 64)) (kn_63 _) ?_
  refine lv_lshl (v := lN (2 ^ (pr % 64))) hX.1 hX.2.1 d_Se_markIfNew_12 (ln_shl1 (by omega)) ?_
  refine lv_lstore (lv' := [(4, .long (lN (2 ^ (pr % 64)))), (3, .int (nI pr)), (0, .ref se), (1, .int (nI x)), (2, .int (nI y))]) hX.1 hX.2.1 d_Se_markIfNew_13 hl (by decide) rfl (fun ls hl => ?_)
  refine lv_aload_n hX.1 hX.2.1 d_Se_markIfNew_15 rfl (lv_at hl 2 rfl) ?_
  refine kget hX hW i_Se 0 rfl rfl 0 (by decide) f_Se_9 rfl rfl d_Se_markIfNew_16 ?_
  refine lv_iload_n hX.1 hX.2.1 d_Se_markIfNew_19 rfl (lv_at hl 1 rfl) ?_
  refine lv_bipush (v := nI 6) hX.1 hX.2.1 d_Se_markIfNew_20 (by decide) ?_
  refine lv_ishr hX.1 hX.2.1 d_Se_markIfNew_22 ?_
  refine tpi (y := nI (pr / 64)) (kn_shr6 (by omega)) ?_
  refine klald hX hW 1 rfl (by omega) (by first | decide | omega) d_Se_markIfNew_23 ?_
  refine lv_lload hX.1 hX.2.1 d_Se_markIfNew_24 (lv_at hl 0 rfl) ?_
  refine lv_land hX.1 hX.2.1 d_Se_markIfNew_26 ?_
  refine tpl (y := lN (SN (pr / 64) &&& 2 ^ (pr % 64))) (ln_and _ _) ?_
  refine lv_lconst (v := lN 0) hX.1 hX.2.1 d_Se_markIfNew_27 (by decide) ?_
  have k37 : ∀ (v : Nat), v = (!sb SN pr).toNat → W p l e ({ frames := 0, cells := 0, slots := 0, locals := 0 } : Room) s m [.ref se, .int (nI x), .int (nI y)].toArray below meth c H locs 0 0 Q (F0 m 37 ls [.int (nI v)]) := by
    intro v hv
    refine lv_istore (lv' := [(6, .int (nI v)), (4, .long (lN (2 ^ (pr % 64)))), (3, .int (nI pr)), (0, .ref se), (1, .int (nI x)), (2, .int (nI y))]) hX.1 hX.2.1 d_Se_markIfNew_37 hl (by decide) rfl (fun ls hl => ?_)
    refine lv_aload_n hX.1 hX.2.1 d_Se_markIfNew_39 rfl (lv_at hl 3 rfl) ?_
    refine kget hX hW i_Se 0 rfl rfl 0 (by decide) f_Se_9 rfl rfl d_Se_markIfNew_40 ?_
    refine lv_iload_n hX.1 hX.2.1 d_Se_markIfNew_43 rfl (lv_at hl 2 rfl) ?_
    refine lv_bipush (v := nI 6) hX.1 hX.2.1 d_Se_markIfNew_44 (by decide) ?_
    refine lv_ishr hX.1 hX.2.1 d_Se_markIfNew_46 ?_
    refine tpi (y := nI (pr / 64)) (kn_shr6 (by omega)) ?_
    refine lv_dup2_11 hX.1 hX.2.1 d_Se_markIfNew_47 rfl rfl ?_
    refine klald hX hW 1 rfl (by omega) (by first | decide | omega) d_Se_markIfNew_48 ?_
    refine lv_lload hX.1 hX.2.1 d_Se_markIfNew_49 (lv_at hl 1 rfl) ?_
    refine lv_lor hX.1 hX.2.1 d_Se_markIfNew_51 ?_
    refine tpl (y := lN (SN (pr / 64) ||| 2 ^ (pr % 64))) (ln_or _ _) ?_
    refine klast hX hW 1 rfl (by omega) (by first | decide | omega) d_Se_markIfNew_52 (fun H locs hW => ?_)
    have hW : KW D k A s [(se, .inr (4, [.ref sn, .ref fi, .ref sc, .ref og, .int (nI z)])), (sn, .inl (k 1, 1024, .inr (.inl (aL (va_up SN (pr / 64) (SN (pr / 64) ||| 2 ^ (pr % 64))))))), (fi, .inl (k 0, cp, .inl (aN FI))), (sc, .inl (k 0, cp, .inl (aN SC))), (og, .inl (k 0, cp, .inl (aN OG)))] H locs := hW
    refine lv_iload hX.1 hX.2.1 d_Se_markIfNew_53 (lv_at hl 0 rfl) ?_
    subst hv
    exact kzret hX hr hlocks hQ () (hW) (rfl) (bT_r _) d_Se_markIfNew_55
  have hand : SN (pr / 64) &&& 2 ^ (pr % 64) = (sb SN pr).toNat * 2 ^ (pr % 64) := and_pw _ _
  refine klcmp_ne hX (tgt := 36) ha (by decide) d_Se_markIfNew_28 d_Se_markIfNew_29 (by decide) (fun h3 => ?_) (fun h3 => ?_)
  · refine lv_iconst (v := nI 0) hX.1 hX.2.1 d_Se_markIfNew_36 (by decide) ?_
    exact k37 _ (by cases hb : sb SN pr with | false => rw [hand, hb] at h3; simp at h3 | true => rfl)
  · refine lv_iconst (v := nI 1) hX.1 hX.2.1 d_Se_markIfNew_32 (by decide) ?_
    refine lv_goto (tgt := 37) hX.1 hX.2.1 d_Se_markIfNew_33 (by decide) ?_
    exact k37 _ (by cases hb : sb SN pr with | false => rfl | true => rw [hand, hb] at h3; simp at h3)
set_option maxHeartbeats 4000000 in
set_option maxRecDepth 100000 in
/-- append(x, y, o), there is room -/
theorem ok_Se_appendS (l : Launch) (D : va_G) (k : Nat → ClassId) (sz : Nat) (se sn fi sc og : Nat) (SN FI SC OG : Nat → Nat) (z cp : Nat) (x y o : Nat) (hz : z < cp) (hcp : cp < 2 ^ 19) : Met l y_Se_append (.code y_Se_append c_Se_append 4 none :: wsU) ({ frames := 2, cells := 0, slots := 0, locals := 64 } : Room) (kPre D k [.ref se, .int (nI x), .int (nI y), .int (nI o)] [(se, .inr (4, [.ref sn, .ref fi, .ref sc, .ref og, .int (nI z)])), (sn, .inl (k 1, 1024, .inr (.inl (aL SN)))), (fi, .inl (k 0, cp, .inl (aN FI))), (sc, .inl (k 0, cp, .inl (aN SC))), (og, .inl (k 0, cp, .inl (aN OG)))] sz) (va_Qv (fun (_ : Unit) => True) (kB D k (fun _ : Unit => [(se, .inr (4, [.ref sn, .ref fi, .ref sc, .ref og, .int (nI (z + 1))])), (sn, .inl (k 1, 1024, .inr (.inl (aL SN)))), (fi, .inl (k 0, cp, .inl (aN (va_up FI z x)))), (sc, .inl (k 0, cp, .inl (aN (va_up SC z y)))), (og, .inl (k 0, cp, .inl (aN (va_up OG z o))))]) (va_A [(se, .inr (4, [.ref sn, .ref fi, .ref sc, .ref og, .int (nI z)])), (sn, .inl (k 1, 1024, .inr (.inl (aL SN)))), (fi, .inl (k 0, cp, .inl (aN FI))), (sc, .inl (k 0, cp, .inl (aN SC))), (og, .inl (k 0, cp, .inl (aN OG)))] sz)) (va_A [(se, .inr (4, [.ref sn, .ref fi, .ref sc, .ref og, .int (nI z)])), (sn, .inl (k 1, 1024, .inr (.inl (aL SN)))), (fi, .inl (k 0, cp, .inl (aN FI))), (sc, .inl (k 0, cp, .inl (aN SC))), (og, .inl (k 0, cp, .inl (aN OG)))] sz)) 0 0 (va_A [(se, .inr (4, [.ref sn, .ref fi, .ref sc, .ref og, .int (nI z)])), (sn, .inl (k 1, 1024, .inr (.inl (aL SN)))), (fi, .inl (k 0, cp, .inl (aN FI))), (sc, .inl (k 0, cp, .inl (aN SC))), (og, .inl (k 0, cp, .inl (aN OG)))] sz) := by
  refine kMet (by decide) (Nat.le_of_ble_eq_true rfl) ?_
  intro p e s m below meth c ls hX hml hr hlocks hin hsz hW hl Q hQ
  generalize hAe : va_A [(se, .inr (4, [.ref sn, .ref fi, .ref sc, .ref og, .int (nI z)])), (sn, .inl (k 1, 1024, .inr (.inl (aL SN)))), (fi, .inl (k 0, cp, .inl (aN FI))), (sc, .inl (k 0, cp, .inl (aN SC))), (og, .inl (k 0, cp, .inl (aN OG)))] sz = A at hW hQ
  generalize hH0 : s.heap = H at hW ⊢
  generalize hl0 : ([] : List Loc) = locs at hW ⊢
  have hX : FX p s m c [.ref se, .int (nI x), .int (nI y), .int (nI o)].toArray c_Se_append R_Se := hX
  have hl : lv_has ls 4 [(0, .ref se), (1, .int (nI x)), (2, .int (nI y)), (3, .int (nI o))] := hl
  refine lv_aload_n hX.1 hX.2.1 d_Se_append_0 rfl (lv_at hl 0 rfl) ?_
  refine kget hX hW i_Se 0 rfl rfl 4 (by decide) f_Se_25 rfl rfl d_Se_append_1 ?_
  refine lv_aload_n hX.1 hX.2.1 d_Se_append_4 rfl (lv_at hl 0 rfl) ?_
  refine kget hX hW i_Se 0 rfl rfl 1 (by decide) f_Se_15 rfl rfl d_Se_append_5 ?_
  refine kalen hX hW 2 0 rfl rfl d_Se_append_8 ?_
  refine klt hX (tgt := 63) (by omega) (by omega) d_Se_append_9 (by decide) (fun h1 => ?_) (fun h1 => ?_)
  · refine lv_aload_n hX.1 hX.2.1 d_Se_append_63 rfl (lv_at hl 0 rfl) ?_
    refine kget hX hW i_Se 0 rfl rfl 1 (by decide) f_Se_15 rfl rfl d_Se_append_64 ?_
    refine lv_aload_n hX.1 hX.2.1 d_Se_append_67 rfl (lv_at hl 0 rfl) ?_
    refine kget hX hW i_Se 0 rfl rfl 4 (by decide) f_Se_25 rfl rfl d_Se_append_68 ?_
    refine lv_iload_n hX.1 hX.2.1 d_Se_append_71 rfl (lv_at hl 1 rfl) ?_
    refine kiast hX hW 2 rfl (by omega) (by first | decide | omega) d_Se_append_72 (fun H locs hW => ?_)
    have hW : KW D k A s [(se, .inr (4, [.ref sn, .ref fi, .ref sc, .ref og, .int (nI z)])), (sn, .inl (k 1, 1024, .inr (.inl (aL SN)))), (fi, .inl (k 0, cp, .inl (aN (va_up FI z x)))), (sc, .inl (k 0, cp, .inl (aN SC))), (og, .inl (k 0, cp, .inl (aN OG)))] H locs := hW
    refine lv_aload_n hX.1 hX.2.1 d_Se_append_73 rfl (lv_at hl 0 rfl) ?_
    refine kget hX hW i_Se 0 rfl rfl 2 (by decide) f_Se_19 rfl rfl d_Se_append_74 ?_
    refine lv_aload_n hX.1 hX.2.1 d_Se_append_77 rfl (lv_at hl 0 rfl) ?_
    refine kget hX hW i_Se 0 rfl rfl 4 (by decide) f_Se_25 rfl rfl d_Se_append_78 ?_
    refine lv_iload_n hX.1 hX.2.1 d_Se_append_81 rfl (lv_at hl 2 rfl) ?_
    refine kiast hX hW 3 rfl (by omega) (by first | decide | omega) d_Se_append_82 (fun H locs hW => ?_)
    have hW : KW D k A s [(se, .inr (4, [.ref sn, .ref fi, .ref sc, .ref og, .int (nI z)])), (sn, .inl (k 1, 1024, .inr (.inl (aL SN)))), (fi, .inl (k 0, cp, .inl (aN (va_up FI z x)))), (sc, .inl (k 0, cp, .inl (aN (va_up SC z y)))), (og, .inl (k 0, cp, .inl (aN OG)))] H locs := hW
    refine lv_aload_n hX.1 hX.2.1 d_Se_append_83 rfl (lv_at hl 0 rfl) ?_
    refine kget hX hW i_Se 0 rfl rfl 3 (by decide) f_Se_22 rfl rfl d_Se_append_84 ?_
    refine lv_aload_n hX.1 hX.2.1 d_Se_append_87 rfl (lv_at hl 0 rfl) ?_
    refine kget hX hW i_Se 0 rfl rfl 4 (by decide) f_Se_25 rfl rfl d_Se_append_88 ?_
    refine lv_iload_n hX.1 hX.2.1 d_Se_append_91 rfl (lv_at hl 3 rfl) ?_
    refine kiast hX hW 4 rfl (by omega) (by first | decide | omega) d_Se_append_92 (fun H locs hW => ?_)
    have hW : KW D k A s [(se, .inr (4, [.ref sn, .ref fi, .ref sc, .ref og, .int (nI z)])), (sn, .inl (k 1, 1024, .inr (.inl (aL SN)))), (fi, .inl (k 0, cp, .inl (aN (va_up FI z x)))), (sc, .inl (k 0, cp, .inl (aN (va_up SC z y)))), (og, .inl (k 0, cp, .inl (aN (va_up OG z o))))] H locs := hW
    refine lv_aload_n hX.1 hX.2.1 d_Se_append_93 rfl (lv_at hl 0 rfl) ?_
    refine lv_dup hX.1 hX.2.1 d_Se_append_94 rfl ?_
    refine kget hX hW i_Se 0 rfl rfl 4 (by decide) f_Se_25 rfl rfl d_Se_append_95 ?_
    refine lv_iconst (v := nI 1) hX.1 hX.2.1 d_Se_append_98 (by decide) ?_
    refine lv_iadd hX.1 hX.2.1 d_Se_append_99 ?_
    refine tpi (y := nI (z + 1)) (nI_1 _) ?_
    refine kput hX hW i_Se t_Se t_Se_ok n_Se 0 rfl rfl 4 (by decide) f_Se_25 rfl rfl (rfl) (rfl) (Nat.le_of_ble_eq_true rfl) d_Se_append_100 (fun H locs hW => ?_)
    have hW : KW D k A s [(se, .inr (4, [.ref sn, .ref fi, .ref sc, .ref og, .int (nI (z + 1))])), (sn, .inl (k 1, 1024, .inr (.inl (aL SN)))), (fi, .inl (k 0, cp, .inl (aN (va_up FI z x)))), (sc, .inl (k 0, cp, .inl (aN (va_up SC z y)))), (og, .inl (k 0, cp, .inl (aN (va_up OG z o))))] H locs := hW
    exact kvret hX hr hlocks hQ () (hW) (trivial) d_Se_append_103
  · omega
set_option maxHeartbeats 4000000 in
set_option maxRecDepth 100000 in
/-- append(x, y, o), the rows grow -/
theorem ok_Se_appendG (l : Launch) (D : va_G) (k : Nat → ClassId) (sz : Nat) (se sn fi sc og : Nat) (SN FI SC OG : Nat → Nat) (cp : Nat) (x y o : Nat) (h0 : 0 < cp) (hcp : cp < 2 ^ 18) : Met l y_Se_append (.code y_Se_append c_Se_append 4 none :: wsU) ({ frames := 2, cells := 3, slots := (3 * (2 * cp)), locals := 64 } : Room) (kPre D k [.ref se, .int (nI x), .int (nI y), .int (nI o)] [(se, .inr (4, [.ref sn, .ref fi, .ref sc, .ref og, .int (nI cp)])), (sn, .inl (k 1, 1024, .inr (.inl (aL SN)))), (fi, .inl (k 0, cp, .inl (aN FI))), (sc, .inl (k 0, cp, .inl (aN SC))), (og, .inl (k 0, cp, .inl (aN OG)))] sz) (va_Qv (fun (_ : Nat × Nat × Nat) => True) (kB D k (fun u : Nat × Nat × Nat => [(se, .inr (4, [.ref sn, .ref u.1, .ref u.2.1, .ref u.2.2, .int (nI (cp + 1))])), (sn, .inl (k 1, 1024, .inr (.inl (aL SN)))), (u.1, .inl (k 0, (2 * cp), .inl (aN (va_up (cpz FI (fun _ => 0) cp) cp x)))), (u.2.1, .inl (k 0, (2 * cp), .inl (aN (va_up (cpz SC (fun _ => 0) cp) cp y)))), (u.2.2, .inl (k 0, (2 * cp), .inl (aN (va_up (cpz OG (fun _ => 0) cp) cp o))))]) (va_A [(se, .inr (4, [.ref sn, .ref fi, .ref sc, .ref og, .int (nI cp)])), (sn, .inl (k 1, 1024, .inr (.inl (aL SN)))), (fi, .inl (k 0, cp, .inl (aN FI))), (sc, .inl (k 0, cp, .inl (aN SC))), (og, .inl (k 0, cp, .inl (aN OG)))] sz)) (va_A [(se, .inr (4, [.ref sn, .ref fi, .ref sc, .ref og, .int (nI cp)])), (sn, .inl (k 1, 1024, .inr (.inl (aL SN)))), (fi, .inl (k 0, cp, .inl (aN FI))), (sc, .inl (k 0, cp, .inl (aN SC))), (og, .inl (k 0, cp, .inl (aN OG)))] sz)) 3 (3 * (2 * cp)) (va_A [(se, .inr (4, [.ref sn, .ref fi, .ref sc, .ref og, .int (nI cp)])), (sn, .inl (k 1, 1024, .inr (.inl (aL SN)))), (fi, .inl (k 0, cp, .inl (aN FI))), (sc, .inl (k 0, cp, .inl (aN SC))), (og, .inl (k 0, cp, .inl (aN OG)))] sz) := by
  refine kMet (by decide) (Nat.le_of_ble_eq_true rfl) ?_
  intro p e s m below meth c ls hX hml hr hlocks hin hsz hW hl Q hQ
  generalize hAe : va_A [(se, .inr (4, [.ref sn, .ref fi, .ref sc, .ref og, .int (nI cp)])), (sn, .inl (k 1, 1024, .inr (.inl (aL SN)))), (fi, .inl (k 0, cp, .inl (aN FI))), (sc, .inl (k 0, cp, .inl (aN SC))), (og, .inl (k 0, cp, .inl (aN OG)))] sz = A at hW hQ
  generalize hH0 : s.heap = H at hW ⊢
  generalize hl0 : ([] : List Loc) = locs at hW ⊢
  have hX : FX p s m c [.ref se, .int (nI x), .int (nI y), .int (nI o)].toArray c_Se_append R_Se := hX
  have hl : lv_has ls 4 [(0, .ref se), (1, .int (nI x)), (2, .int (nI y)), (3, .int (nI o))] := hl
  refine lv_aload_n hX.1 hX.2.1 d_Se_append_0 rfl (lv_at hl 0 rfl) ?_
  refine kget hX hW i_Se 0 rfl rfl 4 (by decide) f_Se_25 rfl rfl d_Se_append_1 ?_
  refine lv_aload_n hX.1 hX.2.1 d_Se_append_4 rfl (lv_at hl 0 rfl) ?_
  refine kget hX hW i_Se 0 rfl rfl 1 (by decide) f_Se_15 rfl rfl d_Se_append_5 ?_
  refine kalen hX hW 2 0 rfl rfl d_Se_append_8 ?_
  refine klt hX (tgt := 63) (by omega) (by omega) d_Se_append_9 (by decide) (fun h1 => ?_) (fun h1 => ?_)
  · omega
  · refine lv_aload_n hX.1 hX.2.1 d_Se_append_12 rfl (lv_at hl 0 rfl) ?_
    refine lv_aload_n hX.1 hX.2.1 d_Se_append_13 rfl (lv_at hl 0 rfl) ?_
    refine kget hX hW i_Se 0 rfl rfl 1 (by decide) f_Se_15 rfl rfl d_Se_append_14 ?_
    refine lv_iconst (v := nI 2) hX.1 hX.2.1 d_Se_append_17 (by decide) ?_
    refine lv_aload_n hX.1 hX.2.1 d_Se_append_18 rfl (lv_at hl 0 rfl) ?_
    refine kget hX hW i_Se 0 rfl rfl 4 (by decide) f_Se_25 rfl rfl d_Se_append_19 ?_
    refine lv_imul hX.1 hX.2.1 d_Se_append_22 ?_
    refine tpi (y := nI (2 * cp)) (pk_mul _ _) ?_
    refine kCrN (wc := [(fi, .inl (k 0, cp, .inl (aN FI)))]) hW [2] (by rfl) (by intro _; rfl) (kRunS (n := 2) (As := [.ref fi, .int (nI (2 * cp))]) (rest := [.ref se]) hX hml hW (ok_Ar_copyI l D k H.size fi cp FI (2 * cp) (by omega) (by omega)) m_Se_75 sm_Ar_copyI in_Ar cd_Ar_copyI [2] rfl rfl (by decide +kernel) ⟨rfl, rfl, Nat.le_of_ble_eq_true rfl, Nat.le_of_ble_eq_true rfl⟩ rfl hl.1 rfl (Nat.le_of_ble_eq_true rfl) d_Se_append_23 ⟨by dsimp only; omega, by dsimp only; omega⟩) (fun q_fi H locs hW => ?_)
    have hW : KW D k A s [(se, .inr (4, [.ref sn, .ref fi, .ref sc, .ref og, .int (nI cp)])), (sn, .inl (k 1, 1024, .inr (.inl (aL SN)))), (fi, .inl (k 0, cp, .inl (aN FI))), (sc, .inl (k 0, cp, .inl (aN SC))), (og, .inl (k 0, cp, .inl (aN OG))), (q_fi, .inl (k 0, (2 * cp), .inl (aN (cpz FI (fun _ => 0) cp))))] H locs := hW
    refine kput hX hW i_Se t_Se t_Se_ok n_Se 0 rfl rfl 1 (by decide) f_Se_15 rfl rfl (rfl) (rfl) (Nat.le_of_ble_eq_true rfl) d_Se_append_26 (fun H locs hW => ?_)
    have hW : KW D k A s [(se, .inr (4, [.ref sn, .ref q_fi, .ref sc, .ref og, .int (nI cp)])), (sn, .inl (k 1, 1024, .inr (.inl (aL SN)))), (fi, .inl (k 0, cp, .inl (aN FI))), (sc, .inl (k 0, cp, .inl (aN SC))), (og, .inl (k 0, cp, .inl (aN OG))), (q_fi, .inl (k 0, (2 * cp), .inl (aN (cpz FI (fun _ => 0) cp))))] H locs := hW
    refine lv_aload_n hX.1 hX.2.1 d_Se_append_29 rfl (lv_at hl 0 rfl) ?_
    refine lv_aload_n hX.1 hX.2.1 d_Se_append_30 rfl (lv_at hl 0 rfl) ?_
    refine kget hX hW i_Se 0 rfl rfl 2 (by decide) f_Se_19 rfl rfl d_Se_append_31 ?_
    refine lv_iconst (v := nI 2) hX.1 hX.2.1 d_Se_append_34 (by decide) ?_
    refine lv_aload_n hX.1 hX.2.1 d_Se_append_35 rfl (lv_at hl 0 rfl) ?_
    refine kget hX hW i_Se 0 rfl rfl 4 (by decide) f_Se_25 rfl rfl d_Se_append_36 ?_
    refine lv_imul hX.1 hX.2.1 d_Se_append_39 ?_
    refine tpi (y := nI (2 * cp)) (pk_mul _ _) ?_
    refine kCrN (wc := [(sc, .inl (k 0, cp, .inl (aN SC)))]) hW [3] (by rfl) (by intro _; rfl) (kRunS (n := 2) (As := [.ref sc, .int (nI (2 * cp))]) (rest := [.ref se]) hX hml hW (ok_Ar_copyI l D k H.size sc cp SC (2 * cp) (by omega) (by omega)) m_Se_75 sm_Ar_copyI in_Ar cd_Ar_copyI [3] rfl rfl (by decide +kernel) ⟨rfl, rfl, Nat.le_of_ble_eq_true rfl, Nat.le_of_ble_eq_true rfl⟩ rfl hl.1 rfl (Nat.le_of_ble_eq_true rfl) d_Se_append_40 ⟨by dsimp only; omega, by dsimp only; omega⟩) (fun q_sc H locs hW => ?_)
    have hW : KW D k A s [(se, .inr (4, [.ref sn, .ref q_fi, .ref sc, .ref og, .int (nI cp)])), (sn, .inl (k 1, 1024, .inr (.inl (aL SN)))), (fi, .inl (k 0, cp, .inl (aN FI))), (sc, .inl (k 0, cp, .inl (aN SC))), (og, .inl (k 0, cp, .inl (aN OG))), (q_fi, .inl (k 0, (2 * cp), .inl (aN (cpz FI (fun _ => 0) cp)))), (q_sc, .inl (k 0, (2 * cp), .inl (aN (cpz SC (fun _ => 0) cp))))] H locs := hW
    refine kput hX hW i_Se t_Se t_Se_ok n_Se 0 rfl rfl 2 (by decide) f_Se_19 rfl rfl (rfl) (rfl) (Nat.le_of_ble_eq_true rfl) d_Se_append_43 (fun H locs hW => ?_)
    have hW : KW D k A s [(se, .inr (4, [.ref sn, .ref q_fi, .ref q_sc, .ref og, .int (nI cp)])), (sn, .inl (k 1, 1024, .inr (.inl (aL SN)))), (fi, .inl (k 0, cp, .inl (aN FI))), (sc, .inl (k 0, cp, .inl (aN SC))), (og, .inl (k 0, cp, .inl (aN OG))), (q_fi, .inl (k 0, (2 * cp), .inl (aN (cpz FI (fun _ => 0) cp)))), (q_sc, .inl (k 0, (2 * cp), .inl (aN (cpz SC (fun _ => 0) cp))))] H locs := hW
    refine lv_aload_n hX.1 hX.2.1 d_Se_append_46 rfl (lv_at hl 0 rfl) ?_
    refine lv_aload_n hX.1 hX.2.1 d_Se_append_47 rfl (lv_at hl 0 rfl) ?_
    refine kget hX hW i_Se 0 rfl rfl 3 (by decide) f_Se_22 rfl rfl d_Se_append_48 ?_
    refine lv_iconst (v := nI 2) hX.1 hX.2.1 d_Se_append_51 (by decide) ?_
    refine lv_aload_n hX.1 hX.2.1 d_Se_append_52 rfl (lv_at hl 0 rfl) ?_
    refine kget hX hW i_Se 0 rfl rfl 4 (by decide) f_Se_25 rfl rfl d_Se_append_53 ?_
    refine lv_imul hX.1 hX.2.1 d_Se_append_56 ?_
    refine tpi (y := nI (2 * cp)) (pk_mul _ _) ?_
    refine kCrN (wc := [(og, .inl (k 0, cp, .inl (aN OG)))]) hW [4] (by rfl) (by intro _; rfl) (kRunS (n := 2) (As := [.ref og, .int (nI (2 * cp))]) (rest := [.ref se]) hX hml hW (ok_Ar_copyI l D k H.size og cp OG (2 * cp) (by omega) (by omega)) m_Se_75 sm_Ar_copyI in_Ar cd_Ar_copyI [4] rfl rfl (by decide +kernel) ⟨rfl, rfl, Nat.le_of_ble_eq_true rfl, Nat.le_of_ble_eq_true rfl⟩ rfl hl.1 rfl (Nat.le_of_ble_eq_true rfl) d_Se_append_57 ⟨by dsimp only; omega, by dsimp only; omega⟩) (fun q_og H locs hW => ?_)
    have hW : KW D k A s [(se, .inr (4, [.ref sn, .ref q_fi, .ref q_sc, .ref og, .int (nI cp)])), (sn, .inl (k 1, 1024, .inr (.inl (aL SN)))), (fi, .inl (k 0, cp, .inl (aN FI))), (sc, .inl (k 0, cp, .inl (aN SC))), (og, .inl (k 0, cp, .inl (aN OG))), (q_fi, .inl (k 0, (2 * cp), .inl (aN (cpz FI (fun _ => 0) cp)))), (q_sc, .inl (k 0, (2 * cp), .inl (aN (cpz SC (fun _ => 0) cp)))), (q_og, .inl (k 0, (2 * cp), .inl (aN (cpz OG (fun _ => 0) cp))))] H locs := hW
    refine kput hX hW i_Se t_Se t_Se_ok n_Se 0 rfl rfl 3 (by decide) f_Se_22 rfl rfl (rfl) (rfl) (Nat.le_of_ble_eq_true rfl) d_Se_append_60 (fun H locs hW => ?_)
    have hW : KW D k A s [(se, .inr (4, [.ref sn, .ref q_fi, .ref q_sc, .ref q_og, .int (nI cp)])), (sn, .inl (k 1, 1024, .inr (.inl (aL SN)))), (fi, .inl (k 0, cp, .inl (aN FI))), (sc, .inl (k 0, cp, .inl (aN SC))), (og, .inl (k 0, cp, .inl (aN OG))), (q_fi, .inl (k 0, (2 * cp), .inl (aN (cpz FI (fun _ => 0) cp)))), (q_sc, .inl (k 0, (2 * cp), .inl (aN (cpz SC (fun _ => 0) cp)))), (q_og, .inl (k 0, (2 * cp), .inl (aN (cpz OG (fun _ => 0) cp))))] H locs := hW
    refine lv_aload_n hX.1 hX.2.1 d_Se_append_63 rfl (lv_at hl 0 rfl) ?_
    refine kget hX hW i_Se 0 rfl rfl 1 (by decide) f_Se_15 rfl rfl d_Se_append_64 ?_
    refine lv_aload_n hX.1 hX.2.1 d_Se_append_67 rfl (lv_at hl 0 rfl) ?_
    refine kget hX hW i_Se 0 rfl rfl 4 (by decide) f_Se_25 rfl rfl d_Se_append_68 ?_
    refine lv_iload_n hX.1 hX.2.1 d_Se_append_71 rfl (lv_at hl 1 rfl) ?_
    refine kiast hX hW 5 rfl (by omega) (by first | decide | omega) d_Se_append_72 (fun H locs hW => ?_)
    have hW : KW D k A s [(se, .inr (4, [.ref sn, .ref q_fi, .ref q_sc, .ref q_og, .int (nI cp)])), (sn, .inl (k 1, 1024, .inr (.inl (aL SN)))), (fi, .inl (k 0, cp, .inl (aN FI))), (sc, .inl (k 0, cp, .inl (aN SC))), (og, .inl (k 0, cp, .inl (aN OG))), (q_fi, .inl (k 0, (2 * cp), .inl (aN (va_up (cpz FI (fun _ => 0) cp) cp x)))), (q_sc, .inl (k 0, (2 * cp), .inl (aN (cpz SC (fun _ => 0) cp)))), (q_og, .inl (k 0, (2 * cp), .inl (aN (cpz OG (fun _ => 0) cp))))] H locs := hW
    refine lv_aload_n hX.1 hX.2.1 d_Se_append_73 rfl (lv_at hl 0 rfl) ?_
    refine kget hX hW i_Se 0 rfl rfl 2 (by decide) f_Se_19 rfl rfl d_Se_append_74 ?_
    refine lv_aload_n hX.1 hX.2.1 d_Se_append_77 rfl (lv_at hl 0 rfl) ?_
    refine kget hX hW i_Se 0 rfl rfl 4 (by decide) f_Se_25 rfl rfl d_Se_append_78 ?_
    refine lv_iload_n hX.1 hX.2.1 d_Se_append_81 rfl (lv_at hl 2 rfl) ?_
    refine kiast hX hW 6 rfl (by omega) (by first | decide | omega) d_Se_append_82 (fun H locs hW => ?_)
    have hW : KW D k A s [(se, .inr (4, [.ref sn, .ref q_fi, .ref q_sc, .ref q_og, .int (nI cp)])), (sn, .inl (k 1, 1024, .inr (.inl (aL SN)))), (fi, .inl (k 0, cp, .inl (aN FI))), (sc, .inl (k 0, cp, .inl (aN SC))), (og, .inl (k 0, cp, .inl (aN OG))), (q_fi, .inl (k 0, (2 * cp), .inl (aN (va_up (cpz FI (fun _ => 0) cp) cp x)))), (q_sc, .inl (k 0, (2 * cp), .inl (aN (va_up (cpz SC (fun _ => 0) cp) cp y)))), (q_og, .inl (k 0, (2 * cp), .inl (aN (cpz OG (fun _ => 0) cp))))] H locs := hW
    refine lv_aload_n hX.1 hX.2.1 d_Se_append_83 rfl (lv_at hl 0 rfl) ?_
    refine kget hX hW i_Se 0 rfl rfl 3 (by decide) f_Se_22 rfl rfl d_Se_append_84 ?_
    refine lv_aload_n hX.1 hX.2.1 d_Se_append_87 rfl (lv_at hl 0 rfl) ?_
    refine kget hX hW i_Se 0 rfl rfl 4 (by decide) f_Se_25 rfl rfl d_Se_append_88 ?_
    refine lv_iload_n hX.1 hX.2.1 d_Se_append_91 rfl (lv_at hl 3 rfl) ?_
    refine kiast hX hW 7 rfl (by omega) (by first | decide | omega) d_Se_append_92 (fun H locs hW => ?_)
    have hW : KW D k A s [(se, .inr (4, [.ref sn, .ref q_fi, .ref q_sc, .ref q_og, .int (nI cp)])), (sn, .inl (k 1, 1024, .inr (.inl (aL SN)))), (fi, .inl (k 0, cp, .inl (aN FI))), (sc, .inl (k 0, cp, .inl (aN SC))), (og, .inl (k 0, cp, .inl (aN OG))), (q_fi, .inl (k 0, (2 * cp), .inl (aN (va_up (cpz FI (fun _ => 0) cp) cp x)))), (q_sc, .inl (k 0, (2 * cp), .inl (aN (va_up (cpz SC (fun _ => 0) cp) cp y)))), (q_og, .inl (k 0, (2 * cp), .inl (aN (va_up (cpz OG (fun _ => 0) cp) cp o))))] H locs := hW
    refine lv_aload_n hX.1 hX.2.1 d_Se_append_93 rfl (lv_at hl 0 rfl) ?_
    refine lv_dup hX.1 hX.2.1 d_Se_append_94 rfl ?_
    refine kget hX hW i_Se 0 rfl rfl 4 (by decide) f_Se_25 rfl rfl d_Se_append_95 ?_
    refine lv_iconst (v := nI 1) hX.1 hX.2.1 d_Se_append_98 (by decide) ?_
    refine lv_iadd hX.1 hX.2.1 d_Se_append_99 ?_
    refine tpi (y := nI (cp + 1)) (nI_1 _) ?_
    refine kput hX hW i_Se t_Se t_Se_ok n_Se 0 rfl rfl 4 (by decide) f_Se_25 rfl rfl (rfl) (rfl) (Nat.le_of_ble_eq_true rfl) d_Se_append_100 (fun H locs hW => ?_)
    have hW : KW D k A s [(se, .inr (4, [.ref sn, .ref q_fi, .ref q_sc, .ref q_og, .int (nI (cp + 1))])), (sn, .inl (k 1, 1024, .inr (.inl (aL SN)))), (fi, .inl (k 0, cp, .inl (aN FI))), (sc, .inl (k 0, cp, .inl (aN SC))), (og, .inl (k 0, cp, .inl (aN OG))), (q_fi, .inl (k 0, (2 * cp), .inl (aN (va_up (cpz FI (fun _ => 0) cp) cp x)))), (q_sc, .inl (k 0, (2 * cp), .inl (aN (va_up (cpz SC (fun _ => 0) cp) cp y)))), (q_og, .inl (k 0, (2 * cp), .inl (aN (va_up (cpz OG (fun _ => 0) cp) cp o))))] H locs := hW
    refine W.widen (k := 3) (n := 3 * (2 * cp)) (by omega) (by omega) ?_
    exact kvret hX hr hlocks hQ (q_fi, q_sc, q_og) (hW.sub [0, 1, 5, 6, 7] rfl rfl) (trivial) d_Se_append_103
end
section
/-! THE SEARCH: the word that leads to a pair -/
/-- how many letters lead to the pair at (fuel r) -/
def wl (OG : Nat → Nat) : Nat → Nat → Nat
  | 0, _ => 0
  | r + 1, x => if x = 0 then 0 else 1 + wl OG r (OG x / 4)
theorem wl_0 (OG : Nat → Nat) (r : Nat) : wl OG r 0 = 0 := by cases r <;> simp [wl]
theorem wl_le {OG : Nat → Nat} {z : Nat} (hO : ∀ j, 0 < j → j < z → OG j / 4 < j) : ∀ r x, x < z → wl OG r x ≤ x := by
  intro r
  induction r with
  | zero => intro x _; exact Nat.zero_le _
  | succ r ih =>
    intro x hx
    rw [wl]
    split
    · omega
    · have h1 := hO x (by omega) hx
      have h2 := ih (OG x / 4) (by omega)
      omega
/-- the letters, from the last one back -/
def wf (OG : Nat → Nat) : Nat → Nat → (Nat → Nat) → Nat → Nat
  | 0, _, L => L
  | i + 1, x, L => wf OG i (OG x / 4) (va_up L i (OG x % 4))
set_option maxHeartbeats 4000000 in
set_option maxRecDepth 100000 in
/-- spellWay(end, word) -/
theorem ok_Se_spellWay (l : Launch) (D : va_G) (k : Nat → ClassId) (sz : Nat) (se sn fi sc og : Nat) (SN FI SC OG : Nat → Nat) (z cp : Nat) (wo wl1 : Nat) (L : Nat → Nat) (y cw : Nat) (e0 : Nat) (he0 : e0 < z) (hz : z ≤ cp) (hcp : cp < 2 ^ 18) (hcw : cw < 2 ^ 20) (hO : ∀ j, 0 < j → j < z → OG j / 4 < j) (hO2 : ∀ j, j < z → OG j < 2 ^ 20) (h00 : OG 0 = 0) : Met l y_Se_spellWay (.code y_Se_spellWay c_Se_spellWay 6 none :: wsU) ({ frames := 1, cells := 1, slots := (wl OG z e0), locals := 21 } : Room) (kPre D k [.ref se, .int (nI e0), .ref wo] [(se, .inr (4, [.ref sn, .ref fi, .ref sc, .ref og, .int (nI z)])), (sn, .inl (k 1, 1024, .inr (.inl (aL SN)))), (fi, .inl (k 0, cp, .inl (aN FI))), (sc, .inl (k 0, cp, .inl (aN SC))), (og, .inl (k 0, cp, .inl (aN OG))), (wo, .inr (6, [.ref wl1, .int (nI y)])), (wl1, .inl (k 0, cw, .inl (aN L)))] sz) (va_Qv (fun (_ : Nat) => True) (kB D k (fun u : Nat => [(se, .inr (4, [.ref sn, .ref fi, .ref sc, .ref og, .int (nI z)])), (sn, .inl (k 1, 1024, .inr (.inl (aL SN)))), (fi, .inl (k 0, cp, .inl (aN FI))), (sc, .inl (k 0, cp, .inl (aN SC))), (og, .inl (k 0, cp, .inl (aN OG))), (wo, .inr (6, [.ref u, .int (nI (wl OG z e0))])), (u, .inl (k 0, (if wl OG z e0 ≤ cw then cw else wl OG z e0), .inl (aN (wf OG (wl OG z e0) e0 (if wl OG z e0 ≤ cw then L else fun _ => 0)))))]) (va_A [(se, .inr (4, [.ref sn, .ref fi, .ref sc, .ref og, .int (nI z)])), (sn, .inl (k 1, 1024, .inr (.inl (aL SN)))), (fi, .inl (k 0, cp, .inl (aN FI))), (sc, .inl (k 0, cp, .inl (aN SC))), (og, .inl (k 0, cp, .inl (aN OG))), (wo, .inr (6, [.ref wl1, .int (nI y)])), (wl1, .inl (k 0, cw, .inl (aN L)))] sz)) (va_A [(se, .inr (4, [.ref sn, .ref fi, .ref sc, .ref og, .int (nI z)])), (sn, .inl (k 1, 1024, .inr (.inl (aL SN)))), (fi, .inl (k 0, cp, .inl (aN FI))), (sc, .inl (k 0, cp, .inl (aN SC))), (og, .inl (k 0, cp, .inl (aN OG))), (wo, .inr (6, [.ref wl1, .int (nI y)])), (wl1, .inl (k 0, cw, .inl (aN L)))] sz)) 1 (wl OG z e0) (va_A [(se, .inr (4, [.ref sn, .ref fi, .ref sc, .ref og, .int (nI z)])), (sn, .inl (k 1, 1024, .inr (.inl (aL SN)))), (fi, .inl (k 0, cp, .inl (aN FI))), (sc, .inl (k 0, cp, .inl (aN SC))), (og, .inl (k 0, cp, .inl (aN OG))), (wo, .inr (6, [.ref wl1, .int (nI y)])), (wl1, .inl (k 0, cw, .inl (aN L)))] sz) := by
  refine kMet (by decide) (Nat.le_of_ble_eq_true rfl) ?_
  intro p e s m below meth c ls hX hml hr hlocks hin hsz hW hl Q hQ
  generalize hAe : va_A [(se, .inr (4, [.ref sn, .ref fi, .ref sc, .ref og, .int (nI z)])), (sn, .inl (k 1, 1024, .inr (.inl (aL SN)))), (fi, .inl (k 0, cp, .inl (aN FI))), (sc, .inl (k 0, cp, .inl (aN SC))), (og, .inl (k 0, cp, .inl (aN OG))), (wo, .inr (6, [.ref wl1, .int (nI y)])), (wl1, .inl (k 0, cw, .inl (aN L)))] sz = A at hW hQ
  generalize hH0 : s.heap = H at hW ⊢
  generalize hl0 : ([] : List Loc) = locs at hW ⊢
  have hX : FX p s m c [.ref se, .int (nI e0), .ref wo].toArray c_Se_spellWay R_Se := hX
  have hl : lv_has ls 6 [(0, .ref se), (1, .int (nI e0)), (2, .ref wo)] := hl
  have hwl := wl_le hO z e0 he0
  obtain ⟨nn, hnn⟩ : ∃ nn, wl OG z e0 = nn := ⟨_, rfl⟩
  rw [hnn] at hQ hwl ⊢
  have k35 : ∀ (x : Nat) (H : Heap) (locs : List Loc) (ls : Array Slot), KW D k A s [(se, .inr (4, [.ref sn, .ref fi, .ref sc, .ref og, .int (nI z)])), (sn, .inl (k 1, 1024, .inr (.inl (aL SN)))), (fi, .inl (k 0, cp, .inl (aN FI))), (sc, .inl (k 0, cp, .inl (aN SC))), (og, .inl (k 0, cp, .inl (aN OG))), (wo, .inr (6, [.ref wl1, .int (nI y)])), (wl1, .inl (k 0, cw, .inl (aN L)))] H locs → lv_has ls 6 [(4, .int (nI x)), (3, .int (nI nn)), (2, .ref wo), (1, .int (nI e0)), (0, .ref se)] → W p l e ({ frames := 1, cells := 1, slots := nn, locals := 21 } : Room) s m [.ref se, .int (nI e0), .ref wo].toArray below meth c H locs 0 0 Q (F0 m 35 ls []) := by
    intro x H locs ls hW hl
    refine lv_aload_n hX.1 hX.2.1 d_Se_spellWay_35 rfl (lv_at hl 2 rfl) ?_
    refine lv_iload_n hX.1 hX.2.1 d_Se_spellWay_36 rfl (lv_at hl 1 rfl) ?_
    refine kCv (wc := [(wo, .inr (6, [.ref wl1, .int (nI y)])), (wl1, .inl (k 0, cw, .inl (aN L)))]) hW [5, 6] (by rfl) (by intro _; rfl) (kRunV (n := 1) (As := [.int (nI nn)]) (rest := []) hX hml hW (ok_Wo_resize l D k H.size wo wl1 L y cw nn (by omega) hcw) m_Se_58 im_Wo_resize se_Wo_resize in_Wo cd_Wo_resize [5, 6] rfl rfl rfl rfl (by decide +kernel) ⟨rfl, rfl, Nat.le_of_ble_eq_true rfl, Nat.le_of_ble_eq_true rfl⟩ rfl hl.1 rfl (Nat.le_of_ble_eq_true rfl) d_Se_spellWay_37 ⟨by first | exact Nat.zero_le _ | decide | omega | (dsimp only; omega), by first | exact Nat.zero_le _ | decide | omega | (dsimp only; omega)⟩) (fun u H locs _ hW => ?_)
    have hW : KW D k A s [(se, .inr (4, [.ref sn, .ref fi, .ref sc, .ref og, .int (nI z)])), (sn, .inl (k 1, 1024, .inr (.inl (aL SN)))), (fi, .inl (k 0, cp, .inl (aN FI))), (sc, .inl (k 0, cp, .inl (aN SC))), (og, .inl (k 0, cp, .inl (aN OG))), (wo, .inr (6, [.ref u, .int (nI nn)])), (u, .inl (k 0, (if nn ≤ cw then cw else nn), .inl (aN (if nn ≤ cw then L else fun _ => 0))))] H locs := hW
    refine W.widen (k := 1) (n := nn) (by omega) (by omega) ?_
    have hc2 : nn ≤ (if nn ≤ cw then cw else nn) := by split <;> omega
    have hc3 : (if nn ≤ cw then cw else nn) < 2 ^ 20 := by split <;> omega
    generalize hL0 : (if nn ≤ cw then L else fun _ => 0) = L0 at hW hQ
    generalize hC0 : (if nn ≤ cw then cw else nn) = c0 at hW hQ hc2 hc3
    obtain ⟨o, ho⟩ : ∃ o, wf OG nn e0 L0 = o := ⟨_, rfl⟩
    rw [ho] at hQ
    refine lv_iload_n hX.1 hX.2.1 d_Se_spellWay_40 rfl (lv_at hl 3 rfl) ?_
    refine lv_istore (lv' := [(4, .int (nI e0)), (3, .int (nI nn)), (2, .ref wo), (1, .int (nI e0)), (0, .ref se)]) hX.1 hX.2.1 d_Se_spellWay_41 hl (by decide) rfl (fun ls hl => ?_)
    refine lv_iload_n hX.1 hX.2.1 d_Se_spellWay_43 rfl (lv_at hl 1 rfl) ?_
    refine lv_iconst (v := nI 1) hX.1 hX.2.1 d_Se_spellWay_44 (by decide) ?_
    refine lv_isub hX.1 hX.2.1 d_Se_spellWay_45 ?_
    refine tpi (y := nM nn) (rfl) ?_
    refine lv_istore (lv' := [(5, .int (nM nn)), (4, .int (nI e0)), (3, .int (nI nn)), (2, .ref wo), (1, .int (nI e0)), (0, .ref se)]) hX.1 hX.2.1 d_Se_spellWay_46 hl (by decide) rfl (fun ls hl => ?_)
    have lq : ∀ (fu : Nat) (j0 : Nat) (x1 : Nat) (L1 : Nat → Nat) (H : Heap) (locs : List Loc) (ls : Array Slot), (j0 ≤ nn) → (j0 < fu) → (wf OG j0 x1 L1 = o) → (x1 < z) →  KW D k A s [(se, .inr (4, [.ref sn, .ref fi, .ref sc, .ref og, .int (nI z)])), (sn, .inl (k 1, 1024, .inr (.inl (aL SN)))), (fi, .inl (k 0, cp, .inl (aN FI))), (sc, .inl (k 0, cp, .inl (aN SC))), (og, .inl (k 0, cp, .inl (aN OG))), (wo, .inr (6, [.ref u, .int (nI nn)])), (u, .inl (k 0, c0, .inl (aN L1)))] H locs → lv_has ls 6 [(5, .int (nM j0)), (4, .int (nI x1)), (3, .int (nI nn)), (2, .ref wo), (1, .int (nI e0)), (0, .ref se)] → W p l e ({ frames := 1, cells := 1, slots := nn, locals := 21 } : Room) s m [.ref se, .int (nI e0), .ref wo].toArray below meth c H locs 1 nn Q (F0 m 48 ls []) := by
      intro fu
      induction fu with
      | zero => intro j0 x1 L1 H locs ls lq1 lq2 hw hx1 hW hl; exfalso; omega
      | succ fu ih =>
        intro j0 x1 L1 H locs ls lq1 lq2 hw hx1 hW hl
        refine lv_iload hX.1 hX.2.1 d_Se_spellWay_48 (lv_at hl 0 rfl) ?_
        refine kltM hX (tgt := 86) (by omega) d_Se_spellWay_50 (by decide) (fun h2 => ?_) (fun h2 => ?_)
        · subst h2
          rw [wf] at hw
          subst hw
          exact kvret hX hr hlocks hQ u (hW) (trivial) d_Se_spellWay_86
        · obtain ⟨j, rfl⟩ : ∃ j, j0 = j + 1 := ⟨j0 - 1, by omega⟩
          rw [nM_s] at hl
          rw [wf] at hw
          have hdec : OG x1 / 4 < z := by rcases Nat.eq_zero_or_pos x1 with q | q; (subst q; rw [h00]; omega); (have := hO x1 q hx1; omega)
          refine lv_aload_n hX.1 hX.2.1 d_Se_spellWay_53 rfl (lv_at hl 3 rfl) ?_
          refine kget hX hW i_Wo 5 rfl rfl 0 (by decide) f_Se_79 rfl rfl d_Se_spellWay_54 ?_
          refine lv_iload hX.1 hX.2.1 d_Se_spellWay_57 (lv_at hl 0 rfl) ?_
          refine lv_aload_n hX.1 hX.2.1 d_Se_spellWay_59 rfl (lv_at hl 5 rfl) ?_
          refine kget hX hW i_Se 0 rfl rfl 3 (by decide) f_Se_22 rfl rfl d_Se_spellWay_60 ?_
          refine lv_iload hX.1 hX.2.1 d_Se_spellWay_63 (lv_at hl 1 rfl) ?_
          refine kiald hX hW 4 rfl (by omega) (by first | decide | omega) d_Se_spellWay_65 ?_
          refine lv_iconst (v := nI 4) hX.1 hX.2.1 d_Se_spellWay_66 (by decide) ?_
          refine lv_irem hX.1 hX.2.1 d_Se_spellWay_67 (by decide) ?_
          refine tpi (y := nI (OG x1 % 4)) (pk_rem (by have := hO2 x1 (by omega); omega) (by decide) (by decide)) ?_
          refine kiast hX hW 6 rfl (by omega) (by first | decide | omega) d_Se_spellWay_68 (fun H locs hW => ?_)
          have hW : KW D k A s [(se, .inr (4, [.ref sn, .ref fi, .ref sc, .ref og, .int (nI z)])), (sn, .inl (k 1, 1024, .inr (.inl (aL SN)))), (fi, .inl (k 0, cp, .inl (aN FI))), (sc, .inl (k 0, cp, .inl (aN SC))), (og, .inl (k 0, cp, .inl (aN OG))), (wo, .inr (6, [.ref u, .int (nI nn)])), (u, .inl (k 0, c0, .inl (aN (va_up L1 j (OG x1 % 4)))))] H locs := hW
          refine lv_aload_n hX.1 hX.2.1 d_Se_spellWay_69 rfl (lv_at hl 5 rfl) ?_
          refine kget hX hW i_Se 0 rfl rfl 3 (by decide) f_Se_22 rfl rfl d_Se_spellWay_70 ?_
          refine lv_iload hX.1 hX.2.1 d_Se_spellWay_73 (lv_at hl 1 rfl) ?_
          refine kiald hX hW 4 rfl (by omega) (by first | decide | omega) d_Se_spellWay_75 ?_
          refine lv_iconst (v := nI 4) hX.1 hX.2.1 d_Se_spellWay_76 (by decide) ?_
          refine lv_idiv hX.1 hX.2.1 d_Se_spellWay_77 (by decide) ?_
          refine tpi (y := nI (OG x1 / 4)) (pk_div (by have := hO2 x1 (by omega); omega) (by decide) (by decide)) ?_
          refine lv_istore (lv' := [(4, .int (nI (OG x1 / 4))), (5, .int (nI j)), (3, .int (nI nn)), (2, .ref wo), (1, .int (nI e0)), (0, .ref se)]) hX.1 hX.2.1 d_Se_spellWay_78 hl (by decide) rfl (fun ls hl => ?_)
          refine lv_iinc (v := nM j) (lv' := [(5, .int (nM j)), (4, .int (nI (OG x1 / 4))), (3, .int (nI nn)), (2, .ref wo), (1, .int (nI e0)), (0, .ref se)]) hX.1 hX.2.1 d_Se_spellWay_80 hl (k := 1) rfl (kn_dec j) (by decide) rfl (fun ls hl => ?_)
          refine lv_goto (tgt := 48) hX.1 hX.2.1 d_Se_spellWay_83 (by decide) ?_
          exact ih j _ _ H locs ls (by omega) (by omega) hw hdec (hW) (lv_sub hl [0, 1, 2, 3, 4, 5] rfl)
    exact lq (nn + 1) nn e0 L0 H locs ls (by omega) (by omega) ho he0 (hW) (lv_sub hl [0, 1, 2, 3, 4, 5] rfl)
  refine lv_iconst (v := nI 0) hX.1 hX.2.1 d_Se_spellWay_0 (by decide) ?_
  refine lv_istore_n (lv' := [(3, .int (nI 0)), (0, .ref se), (1, .int (nI e0)), (2, .ref wo)]) hX.1 hX.2.1 d_Se_spellWay_1 rfl hl (by decide) rfl (fun ls hl => ?_)
  refine lv_iload_n hX.1 hX.2.1 d_Se_spellWay_2 rfl (lv_at hl 2 rfl) ?_
  refine lv_istore (lv' := [(4, .int (nI e0)), (3, .int (nI 0)), (0, .ref se), (1, .int (nI e0)), (2, .ref wo)]) hX.1 hX.2.1 d_Se_spellWay_3 hl (by decide) rfl (fun ls hl => ?_)
  have lp : ∀ (fu : Nat) (ln : Nat) (r : Nat) (x : Nat) (H : Heap) (locs : List Loc) (ls : Array Slot), (x ≤ r) → (x < fu) → (x < z) → (ln + wl OG r x = nn) → (ln + x ≤ e0) →  KW D k A s [(se, .inr (4, [.ref sn, .ref fi, .ref sc, .ref og, .int (nI z)])), (sn, .inl (k 1, 1024, .inr (.inl (aL SN)))), (fi, .inl (k 0, cp, .inl (aN FI))), (sc, .inl (k 0, cp, .inl (aN SC))), (og, .inl (k 0, cp, .inl (aN OG))), (wo, .inr (6, [.ref wl1, .int (nI y)])), (wl1, .inl (k 0, cw, .inl (aN L)))] H locs → lv_has ls 6 [(4, .int (nI x)), (3, .int (nI ln)), (2, .ref wo), (1, .int (nI e0)), (0, .ref se)] → W p l e ({ frames := 1, cells := 1, slots := nn, locals := 21 } : Room) s m [.ref se, .int (nI e0), .ref wo].toArray below meth c H locs 0 0 Q (F0 m 5 ls []) := by
    intro fu
    induction fu with
    | zero => intro ln r x H locs ls lp1 lp2 hx hw hlx hW hl; exfalso; omega
    | succ fu ih =>
      intro ln r x H locs ls lp1 lp2 hx hw hlx hW hl
      refine lv_iload hX.1 hX.2.1 d_Se_spellWay_5 (lv_at hl 0 rfl) ?_
      refine kleN hX (tgt := 35) (by omega) d_Se_spellWay_7 (by decide) (fun h1 => ?_) (fun h1 => ?_)
      · subst h1
        rw [wl_0] at hw
        have e1 : ln = nn := by omega
        subst e1
        exact k35 0 H locs ls hW hl
      · refine lv_iload_n hX.1 hX.2.1 d_Se_spellWay_10 rfl (lv_at hl 1 rfl) ?_
        refine lv_aload_n hX.1 hX.2.1 d_Se_spellWay_11 rfl (lv_at hl 4 rfl) ?_
        refine kget hX hW i_Se 0 rfl rfl 4 (by decide) f_Se_25 rfl rfl d_Se_spellWay_12 ?_
        refine kge hX (tgt := 35) (by omega) (by omega) d_Se_spellWay_15 (by decide) (fun h2 => ?_) (fun h2 => ?_)
        · omega
        · obtain ⟨r1, rfl⟩ : ∃ r1, r = r1 + 1 := ⟨r - 1, by omega⟩
          rw [wl, if_neg (by omega)] at hw
          have hd := hO x h1 hx
          refine lv_iinc (v := nI (ln + 1)) (lv' := [(3, .int (nI (ln + 1))), (4, .int (nI x)), (2, .ref wo), (1, .int (nI e0)), (0, .ref se)]) hX.1 hX.2.1 d_Se_spellWay_18 hl (k := 1) rfl (kn_inc _) (by decide) rfl (fun ls hl => ?_)
          refine lv_aload_n hX.1 hX.2.1 d_Se_spellWay_21 rfl (lv_at hl 4 rfl) ?_
          refine kget hX hW i_Se 0 rfl rfl 3 (by decide) f_Se_22 rfl rfl d_Se_spellWay_22 ?_
          refine lv_iload hX.1 hX.2.1 d_Se_spellWay_25 (lv_at hl 1 rfl) ?_
          refine kiald hX hW 4 rfl (by omega) (by first | decide | omega) d_Se_spellWay_27 ?_
          refine lv_iconst (v := nI 4) hX.1 hX.2.1 d_Se_spellWay_28 (by decide) ?_
          refine lv_idiv hX.1 hX.2.1 d_Se_spellWay_29 (by decide) ?_
          refine tpi (y := nI (OG x / 4)) (pk_div (by have := hO2 x (by omega); omega) (by decide) (by decide)) ?_
          refine lv_istore (lv' := [(4, .int (nI (OG x / 4))), (3, .int (nI (ln + 1))), (2, .ref wo), (1, .int (nI e0)), (0, .ref se)]) hX.1 hX.2.1 d_Se_spellWay_30 hl (by decide) rfl (fun ls hl => ?_)
          refine lv_goto (tgt := 5) hX.1 hX.2.1 d_Se_spellWay_32 (by decide) ?_
          exact ih (ln + 1) r1 _ H locs ls (by omega) (by omega) (by omega) (by omega) (by omega) (hW) (lv_sub hl [0, 1, 2, 3, 4] rfl)
  exact lp (e0 + 1) 0 z e0 H locs ls (by omega) (by omega) he0 (by rw [Nat.zero_add]; exact hnn) (by omega) (hW) (lv_sub hl [0, 1, 4, 3, 2] rfl)
end
section
/-! THE SEARCH: the queue of pairs, as numbers -/
theorem setAll_id : ∀ (is : List Nat) (ws xs : va_W), is.map (fun i => ws[i]?) = xs.map some → setAll ws is xs = ws := by
  intro is
  induction is with
  | nil => intro ws xs _; cases xs <;> rfl
  | cons i is ih =>
    intro ws xs h
    cases xs with
    | nil => rfl
    | cons x xs =>
      simp only [List.map_cons, List.cons.injEq] at h
      have e : ws.set i x = ws := by
        apply List.ext_getElem?
        intro j
        by_cases hj : i = j
        · subst hj
          have hl : i < ws.length := (List.getElem?_eq_some_iff.mp h.1).1
          rw [List.getElem?_set_self hl, h.1]
        · rw [List.getElem?_set_ne hj]
      rw [setAll, e]
      exact ih ws xs h.2
/-- a call that changes nothing -/
theorem kCiR {p : Program} {l : Launch} {e : Env} {R : Room} {s : State} {m : MethodId} {args : Array Value} {below : List Frame} {meth : Method} {c : Code} {H : Heap} {locs : List Loc} {cells slots : Nat} {Q : State → Prop} {pc : Nat} {ls : Array Slot} {rest st0 : List Value} {D : va_G} {k : Nat → ClassId} {A : Nat → Prop} {ws wc : va_W} {S : Type} {mc ms : Nat} {post : Int32 → S → Prop} {a : Array Value} (hW : KW D k A s ws H locs) (isC : List Nat) (hC : isC.map (fun i => ws[i]?) = wc.map some)
    (hr : va_Run p l e R s m args below meth c H locs cells slots mc ms (F0 m pc ls st0) rest (va_Qi post (kB D k (fun _ : S => wc) (va_A wc H.size)) (va_A wc H.size) a) (va_A wc H.size))
    (kk : ∀ (r : Int32) (u : S) (H1 : Heap) (locs1 : List Loc), post r u → KW D k A s ws H1 locs1 → W p l e R s m args below meth c H1 locs1 (cells + mc) (slots + ms) Q (F0 m (pc + 3) ls (.int r :: rest))) : W p l e R s m args below meth c H locs cells slots Q (F0 m pc ls st0) :=
  kCi (w1 := fun _ => wc) hW isC hC (fun _ => rfl) hr (fun r u H1 locs1 hp hW1 => kk r u H1 locs1 hp (by rw [setAll_id isC ws wc hC] at hW1; exact hW1))
theorem sb_sbs (SN : Nat → Nat) (p q : Nat) : sb (sbs SN p) q = (sb SN q || decide (q = p)) := by
  unfold sb sbs
  by_cases h : q / 64 = p / 64
  · rw [h, va_up_self, Nat.testBit_or]
    by_cases h2 : q % 64 = p % 64
    · have e : q = p := by omega
      subst e
      simp [Nat.testBit_two_pow_self]
    · rw [Nat.testBit_two_pow_of_ne (fun e => h2 e.symm)]
      have e : ¬ q = p := fun e => h2 (by rw [e])
      simp [e]
  · rw [va_up_ne _ _ h]
    have e : ¬ q = p := fun e => h (by rw [e])
    simp [e]
theorem sbs_lt {SN : Nat → Nat} (h : ∀ w, w < 1024 → SN w < 2 ^ 64) (p : Nat) (hp : p < 65536) : ∀ w, w < 1024 → sbs SN p w < 2 ^ 64 := by
  intro w hw
  unfold sbs
  by_cases e : w = p / 64
  · subst e
    rw [va_up_self]
    exact Nat.or_lt_two_pow (h _ hw) (Nat.pow_lt_pow_right (by decide) (by omega))
  · rw [va_up_ne _ _ e]; exact h w hw
/-- how many pairs, the rows' room, the pairs, their origins, the marks -/
abbrev QZ : Type := Nat × Nat × (Nat → Nat) × (Nat → Nat) × (Nat → Nat) × (Nat → Nat)
def ap (x y o : Nat) : QZ → QZ
  | (z, cp, FI, SC, OG, SN) => if z < cp then (z + 1, cp, va_up FI z x, va_up SC z y, va_up OG z o, SN) else (cp + 1, 2 * cp, va_up (cpz FI (fun _ => 0) cp) cp x, va_up (cpz SC (fun _ => 0) cp) cp y, va_up (cpz OG (fun _ => 0) cp) cp o, SN)
def gs (x y o : Nat) : QZ → QZ
  | (z, cp, FI, SC, OG, SN) => if sb SN (x * 256 + y) then (z, cp, FI, SC, OG, sbs SN (x * 256 + y)) else ap x y o (z, cp, FI, SC, OG, sbs SN (x * 256 + y))
/-- the first a letters of the pair at t, whose onward sets are o1, o2 -/
def gi (SP1 SP2 : Nat → Nat) (o1 o2 t : Nat) (q : QZ) : Nat → QZ
  | 0 => q
  | a + 1 => gs (o1 &&& SP1 a) (o2 &&& SP2 a) (t * 4 + a) (gi SP1 SP2 o1 o2 t q a)
def QI : QZ → Prop
  | (z, cp, FI, SC, OG, SN) => (0 < z ∧ z ≤ cp ∧ 64 ≤ cp ∧ cp ≤ 131072) ∧ (∀ w, w < 1024 → SN w < 2 ^ 64) ∧ (FI 0 = 256 ∧ SC 0 = 256 ∧ OG 0 = 0) ∧ (∀ j, 0 < j → j < z → FI j < 256 ∧ SC j < 256 ∧ sb SN (FI j * 256 + SC j) = true ∧ OG j / 4 < j ∧ OG j < 2 ^ 20) ∧ (∀ i j, 0 < i → i < z → 0 < j → j < z → FI i * 256 + SC i = FI j * 256 + SC j → i = j)
theorem QI_size {q : QZ} (h : QI q) : q.1 ≤ 65537 := by
  obtain ⟨z, cp, FI, SC, OG, SN⟩ := q
  obtain ⟨⟨h1, -⟩, -, -, h4, h5⟩ := h
  have := pigeon 65536 (z - 1) (fun j => FI (j + 1) * 256 + SC (j + 1)) (fun i hi => by
    have := h4 (i + 1) (by omega) (by omega)
    show FI (i + 1) * 256 + SC (i + 1) < 65536
    omega) (fun i j hi hj e => by
    have := h5 (i + 1) (j + 1) (by omega) (by omega) (by omega) (by omega) e
    omega)
  show z ≤ 65537
  omega
theorem QI_push {z cp cp2 : Nat} {FI SC OG SN F2 S2 O2 : Nat → Nat} {x y o : Nat} (h : QI (z, cp, FI, SC, OG, SN)) (hx : x < 256) (hy : y < 256) (ho : o / 4 < z) (ho2 : o < 2 ^ 20) (hn : sb SN (x * 256 + y) = false) (hF : ∀ j, j < z → F2 j = FI j) (hS : ∀ j, j < z → S2 j = SC j) (hO : ∀ j, j < z → O2 j = OG j) (hFz : F2 z = x) (hSz : S2 z = y) (hOz : O2 z = o) (hc : z + 1 ≤ cp2 ∧ 64 ≤ cp2 ∧ cp2 ≤ 131072) : QI (z + 1, cp2, F2, S2, O2, sbs SN (x * 256 + y)) := by
  obtain ⟨⟨h1, h1b, h1c, h1d⟩, h2, ⟨h3, h3b, h3c⟩, h4, h5⟩ := h
  refine ⟨⟨by omega, hc.1, hc.2.1, hc.2.2⟩, sbs_lt h2 _ (by omega), ⟨by rw [hF 0 h1]; exact h3, by rw [hS 0 h1]; exact h3b, by rw [hO 0 h1]; exact h3c⟩, fun j hj hjz => ?_, fun i j hi hiz hj hjz e => ?_⟩
  · by_cases e : j = z
    · subst e
      rw [hFz, hSz, hOz, sb_sbs]
      exact ⟨hx, hy, by simp, ho, ho2⟩
    · have hj2 : j < z := by omega
      rw [hF j hj2, hS j hj2, hO j hj2, sb_sbs]
      obtain ⟨a, b, c, d, f⟩ := h4 j hj hj2
      exact ⟨a, b, by rw [c]; rfl, d, f⟩
  · have key : ∀ i, 0 < i → i < z → ¬ FI i * 256 + SC i = x * 256 + y := fun i hi hiz q => by
      have := (h4 i hi hiz).2.2.1
      rw [q, hn] at this
      cases this
    by_cases ei : i = z <;> by_cases ej : j = z
    · omega
    · subst ei
      have hj2 : j < i := by omega
      rw [hFz, hSz, hF j hj2, hS j hj2] at e
      exact absurd e.symm (key j hj hj2)
    · subst ej
      have hi2 : i < j := by omega
      rw [hFz, hSz, hF i hi2, hS i hi2] at e
      exact absurd e (key i hi hi2)
    · have hi2 : i < z := by omega
      have hj2 : j < z := by omega
      rw [hF i hi2, hS i hi2, hF j hj2, hS j hj2] at e
      exact h5 i j hi hi2 hj hj2 e
theorem cpz_in {F G : Nat → Nat} {z j : Nat} (h : j < z) : cpz F G z j = F j := by simp [cpz, h]
theorem QI_gs {x y o : Nat} {q : QZ} (h : QI q) (hx : x < 256) (hy : y < 256) (ho : o / 4 < q.1) (ho2 : o < 2 ^ 20) : QI (gs x y o q) := by
  have hsz := QI_size h
  obtain ⟨z, cp, FI, SC, OG, SN⟩ := q
  have ho : o / 4 < z := ho
  have hsz : z ≤ 65537 := hsz
  have h0 := h
  obtain ⟨⟨h1, h1b, h1c, h1d⟩, h2, h3, h4, h5⟩ := h0
  rw [gs]
  by_cases hb : sb SN (x * 256 + y) = true
  · rw [if_pos hb]
    refine ⟨⟨h1, h1b, h1c, h1d⟩, sbs_lt h2 _ (by omega), h3, fun j hj hjz => ?_, h5⟩
    obtain ⟨a, b, c, d, f⟩ := h4 j hj hjz
    exact ⟨a, b, by rw [sb_sbs, c]; rfl, d, f⟩
  · have hb2 : sb SN (x * 256 + y) = false := by cases hq : sb SN (x * 256 + y) <;> simp_all
    rw [if_neg hb, ap]
    split
    · rename_i hz
      exact QI_push h hx hy ho ho2 hb2 (fun j hj => va_up_ne _ _ (by omega)) (fun j hj => va_up_ne _ _ (by omega)) (fun j hj => va_up_ne _ _ (by omega)) (va_up_self _ _ _) (va_up_self _ _ _) (va_up_self _ _ _) ⟨by omega, h1c, h1d⟩
    · rename_i hz
      have e : cp = z := by omega
      subst e
      have g1 : cp ≤ 65536 := by
        have hq := QI_push (cp2 := 131072) (F2 := va_up FI cp x) (S2 := va_up SC cp y) (O2 := va_up OG cp o) h hx hy ho ho2 hb2 (fun j hj => va_up_ne _ _ (by omega)) (fun j hj => va_up_ne _ _ (by omega)) (fun j hj => va_up_ne _ _ (by omega)) (va_up_self _ _ _) (va_up_self _ _ _) (va_up_self _ _ _) ⟨by omega, by omega, by omega⟩
        have := QI_size hq
        have : cp + 1 ≤ 65537 := this
        omega
      exact QI_push h hx hy ho ho2 hb2 (fun j hj => by rw [va_up_ne _ _ (by omega), cpz_in hj]) (fun j hj => by rw [va_up_ne _ _ (by omega), cpz_in hj]) (fun j hj => by rw [va_up_ne _ _ (by omega), cpz_in hj]) (va_up_self _ _ _) (va_up_self _ _ _) (va_up_self _ _ _) ⟨by omega, by omega, by omega⟩
theorem gs_mono {x y o : Nat} {q : QZ} (h : q.1 ≤ q.2.1) : q.1 ≤ (gs x y o q).1 ∧ q.2.1 ≤ (gs x y o q).2.1 := by
  obtain ⟨z, cp, FI, SC, OG, SN⟩ := q
  have h : z ≤ cp := h
  rw [gs]
  split
  · exact ⟨Nat.le_refl _, Nat.le_refl _⟩
  · rw [ap]
    split
    · exact ⟨by show z ≤ z + 1; omega, Nat.le_refl _⟩
    · exact ⟨by show z ≤ cp + 1; omega, by show cp ≤ 2 * cp; omega⟩
theorem gi_ok {SP1 SP2 : Nat → Nat} {o1 o2 t : Nat} {q : QZ} (h1 : o1 < 256) (h2 : o2 < 256) (ht : t < q.1) (hq : QI q) : ∀ a, a ≤ 4 → QI (gi SP1 SP2 o1 o2 t q a) ∧ q.1 ≤ (gi SP1 SP2 o1 o2 t q a).1 ∧ q.2.1 ≤ (gi SP1 SP2 o1 o2 t q a).2.1 := by
  intro a
  induction a with
  | zero => intro _; exact ⟨hq, Nat.le_refl _, Nat.le_refl _⟩
  | succ a ih =>
    intro ha
    obtain ⟨i1, i2, i3⟩ := ih (by omega)
    have hs := QI_size hq
    have k1 : o1 &&& SP1 a < 256 := Nat.lt_of_le_of_lt Nat.and_le_left h1
    have k2 : o2 &&& SP2 a < 256 := Nat.lt_of_le_of_lt Nat.and_le_left h2
    rw [gi]
    have hm : (gi SP1 SP2 o1 o2 t q a).1 ≤ (gi SP1 SP2 o1 o2 t q a).2.1 := i1.1.2.1
    have hm2 := gs_mono (x := o1 &&& SP1 a) (y := o2 &&& SP2 a) (o := t * 4 + a) hm
    exact ⟨QI_gs i1 k1 k2 (by omega) (by omega), by omega, by omega⟩
/-- an expression's cells at the places x, x + 1, x + 2 of a world -/
def exAt (k : Nat → ClassId) (X : va_W) (x h f g : Nat) (FO SP : Nat → Nat) (en n : Nat) : Prop := X[x]? = some (h, .inr (0, [.ref f, .ref g, .int (nI en), .int (nI n)])) ∧ X[x + 1]? = some (f, .inl (k 0, 9, .inl (aN FO))) ∧ X[x + 2]? = some (g, .inl (k 0, 4, .inl (aN SP)))
end
section
/-! THE SEARCH: going on from a pair -/
theorem gi_mono2 {SP1 SP2 : Nat → Nat} {o1 o2 t : Nat} {q : QZ} (h1 : o1 < 256) (h2 : o2 < 256) (ht : t < q.1) (hq : QI q) : ∀ a, a ≤ 4 → (gi SP1 SP2 o1 o2 t q a).2.1 ≤ (gi SP1 SP2 o1 o2 t q 4).2.1 := by
  have st : ∀ a, a < 4 → (gi SP1 SP2 o1 o2 t q a).2.1 ≤ (gi SP1 SP2 o1 o2 t q (a + 1)).2.1 := by
    intro a ha
    have i1 := (gi_ok (SP1 := SP1) (SP2 := SP2) h1 h2 ht hq a (by omega)).1
    rw [gi]
    exact (gs_mono i1.1.2.1).2
  intro a ha
  have s0 : (gi SP1 SP2 o1 o2 t q 0).2.1 ≤ (gi SP1 SP2 o1 o2 t q 1).2.1 := st 0 (by decide)
  have s1 : (gi SP1 SP2 o1 o2 t q 1).2.1 ≤ (gi SP1 SP2 o1 o2 t q 2).2.1 := st 1 (by decide)
  have s2 : (gi SP1 SP2 o1 o2 t q 2).2.1 ≤ (gi SP1 SP2 o1 o2 t q 3).2.1 := st 2 (by decide)
  have s3 : (gi SP1 SP2 o1 o2 t q 3).2.1 ≤ (gi SP1 SP2 o1 o2 t q 4).2.1 := st 3 (by decide)
  rcases (show a = 0 ∨ a = 1 ∨ a = 2 ∨ a = 3 ∨ a = 4 by omega) with rfl | rfl | rfl | rfl | rfl
  · omega
  · omega
  · omega
  · omega
  · omega
set_option maxHeartbeats 4000000 in
set_option maxRecDepth 100000 in
/-- goOn(t, first, second) -/
theorem ok_Se_goOn (l : Launch) (D : va_G) (k : Nat → ClassId) (sz : Nat) (se sn fi sc og : Nat) (SN FI SC OG : Nat → Nat) (z cp : Nat) (X : va_W) (p1 h1 f1 g1 : Nat) (FO1 SP1 : Nat → Nat) (en1 n1 : Nat) (E1 : exAt k X p1 h1 f1 g1 FO1 SP1 en1 n1) (p2 h2 f2 g2 : Nat) (FO2 SP2 : Nat → Nat) (en2 n2 : Nat) (E2 : exAt k X p2 h2 f2 g2 FO2 SP2 en2 n2) (t : Nat) (ht : t < z) (hq : QI (z, cp, FI, SC, OG, SN)) (hF1 : ∀ p, p < 9 → FO1 p < 256) (hF2 : ∀ p, p < 9 → FO2 p < 256) : Met l y_Se_goOn (.code y_Se_goOn c_Se_goOn 9 none :: wsU) ({ frames := 3, cells := ((gi SP1 SP2 (onw FO1 (FI t) 9) (onw FO2 (SC t) 9) t (z, cp, FI, SC, OG, SN) 4).2.1 - cp), slots := (6 * ((gi SP1 SP2 (onw FO1 (FI t) 9) (onw FO2 (SC t) 9) t (z, cp, FI, SC, OG, SN) 4).2.1 - cp)), locals := 87 } : Room) (kPre D k [.ref se, .int (nI t), .ref h1, .ref h2] ((se, .inr (4, [.ref sn, .ref fi, .ref sc, .ref og, .int (nI z)])) :: (sn, .inl (k 1, 1024, .inr (.inl (aL SN)))) :: (fi, .inl (k 0, cp, .inl (aN FI))) :: (sc, .inl (k 0, cp, .inl (aN SC))) :: (og, .inl (k 0, cp, .inl (aN OG))) :: X) sz) (va_Qv (fun (_ : Nat × Nat × Nat) => True) (kB D k (fun u : Nat × Nat × Nat => ((se, .inr (4, [.ref sn, .ref u.1, .ref u.2.1, .ref u.2.2, .int (nI ((gi SP1 SP2 (onw FO1 (FI t) 9) (onw FO2 (SC t) 9) t (z, cp, FI, SC, OG, SN) 4).1))])) :: (sn, .inl (k 1, 1024, .inr (.inl (aL ((gi SP1 SP2 (onw FO1 (FI t) 9) (onw FO2 (SC t) 9) t (z, cp, FI, SC, OG, SN) 4).2.2.2.2.2))))) :: (u.1, .inl (k 0, (gi SP1 SP2 (onw FO1 (FI t) 9) (onw FO2 (SC t) 9) t (z, cp, FI, SC, OG, SN) 4).2.1, .inl (aN ((gi SP1 SP2 (onw FO1 (FI t) 9) (onw FO2 (SC t) 9) t (z, cp, FI, SC, OG, SN) 4).2.2.1)))) :: (u.2.1, .inl (k 0, (gi SP1 SP2 (onw FO1 (FI t) 9) (onw FO2 (SC t) 9) t (z, cp, FI, SC, OG, SN) 4).2.1, .inl (aN ((gi SP1 SP2 (onw FO1 (FI t) 9) (onw FO2 (SC t) 9) t (z, cp, FI, SC, OG, SN) 4).2.2.2.1)))) :: (u.2.2, .inl (k 0, (gi SP1 SP2 (onw FO1 (FI t) 9) (onw FO2 (SC t) 9) t (z, cp, FI, SC, OG, SN) 4).2.1, .inl (aN ((gi SP1 SP2 (onw FO1 (FI t) 9) (onw FO2 (SC t) 9) t (z, cp, FI, SC, OG, SN) 4).2.2.2.2.1)))) :: X)) (va_A ((se, .inr (4, [.ref sn, .ref fi, .ref sc, .ref og, .int (nI z)])) :: (sn, .inl (k 1, 1024, .inr (.inl (aL SN)))) :: (fi, .inl (k 0, cp, .inl (aN FI))) :: (sc, .inl (k 0, cp, .inl (aN SC))) :: (og, .inl (k 0, cp, .inl (aN OG))) :: X) sz)) (va_A ((se, .inr (4, [.ref sn, .ref fi, .ref sc, .ref og, .int (nI z)])) :: (sn, .inl (k 1, 1024, .inr (.inl (aL SN)))) :: (fi, .inl (k 0, cp, .inl (aN FI))) :: (sc, .inl (k 0, cp, .inl (aN SC))) :: (og, .inl (k 0, cp, .inl (aN OG))) :: X) sz)) ((gi SP1 SP2 (onw FO1 (FI t) 9) (onw FO2 (SC t) 9) t (z, cp, FI, SC, OG, SN) 4).2.1 - cp) (6 * ((gi SP1 SP2 (onw FO1 (FI t) 9) (onw FO2 (SC t) 9) t (z, cp, FI, SC, OG, SN) 4).2.1 - cp)) (va_A ((se, .inr (4, [.ref sn, .ref fi, .ref sc, .ref og, .int (nI z)])) :: (sn, .inl (k 1, 1024, .inr (.inl (aL SN)))) :: (fi, .inl (k 0, cp, .inl (aN FI))) :: (sc, .inl (k 0, cp, .inl (aN SC))) :: (og, .inl (k 0, cp, .inl (aN OG))) :: X) sz) := by
  refine kMet (by decide) (Nat.le_of_ble_eq_true rfl) ?_
  intro p e s m below meth c ls hX hml hr hlocks hin hsz hW hl Q hQ
  generalize hAe : va_A ((se, .inr (4, [.ref sn, .ref fi, .ref sc, .ref og, .int (nI z)])) :: (sn, .inl (k 1, 1024, .inr (.inl (aL SN)))) :: (fi, .inl (k 0, cp, .inl (aN FI))) :: (sc, .inl (k 0, cp, .inl (aN SC))) :: (og, .inl (k 0, cp, .inl (aN OG))) :: X) sz = A at hW hQ
  generalize hH0 : s.heap = H at hW ⊢
  generalize hl0 : ([] : List Loc) = locs at hW ⊢
  have hX : FX p s m c [.ref se, .int (nI t), .ref h1, .ref h2].toArray c_Se_goOn R_Se := hX
  have hl : lv_has ls 9 [(0, .ref se), (1, .int (nI t)), (2, .ref h1), (3, .ref h2)] := hl
  obtain ⟨⟨q1, q2, q3, q4⟩, q5, ⟨q6, q7, q8⟩, q9, q10⟩ := id hq
  have hft : FI t < 512 := by rcases Nat.eq_zero_or_pos t with q | q; (subst q; omega); (have := (q9 t q ht).1; omega)
  have hst : SC t < 512 := by rcases Nat.eq_zero_or_pos t with q | q; (subst q; omega); (have := (q9 t q ht).2.1; omega)
  have ho1 := onw_lt (S := FI t) hF1 9 (Nat.le_refl _)
  have ho2 := onw_lt (S := SC t) hF2 9 (Nat.le_refl _)
  obtain ⟨o, ho⟩ : ∃ o, gi SP1 SP2 (onw FO1 (FI t) 9) (onw FO2 (SC t) 9) t (z, cp, FI, SC, OG, SN) 4 = o := ⟨_, rfl⟩
  rw [ho] at hQ ⊢
  refine lv_aload_n hX.1 hX.2.1 d_Se_goOn_0 rfl (lv_at hl 2 rfl) ?_
  refine lv_aload_n hX.1 hX.2.1 d_Se_goOn_1 rfl (lv_at hl 0 rfl) ?_
  refine kget hX hW i_Se 0 rfl rfl 1 (by decide) f_Se_15 rfl rfl d_Se_goOn_2 ?_
  refine lv_iload_n hX.1 hX.2.1 d_Se_goOn_5 rfl (lv_at hl 1 rfl) ?_
  refine kiald hX hW 2 rfl (by omega) (by first | decide | omega) d_Se_goOn_6 ?_
  refine kCiR (wc := [(h1, .inr (0, [.ref f1, .ref g1, .int (nI en1), .int (nI n1)])), (f1, .inl (k 0, 9, .inl (aN FO1))), (g1, .inl (k 0, 4, .inl (aN SP1)))]) hW [p1 + 5, p1 + 1 + 5, p1 + 2 + 5] (by show [X[p1]?, X[p1 + 1]?, X[p1 + 2]?] = _; rw [E1.1, E1.2.1, E1.2.2]; rfl) (kRunV (n := 1) (As := [.int (nI (FI t))]) (rest := []) hX hml hW (ok_Ex_onward l D k H.size h1 f1 g1 FO1 SP1 en1 n1 (FI t) hft) m_Se_64 im_Ex_onward se_Ex_onward in_Ex cd_Ex_onward [p1 + 5, p1 + 1 + 5, p1 + 2 + 5] (by simp [va_nd] <;> omega) (by show [X[p1]?, X[p1 + 1]?, X[p1 + 2]?] = _; rw [E1.1, E1.2.1, E1.2.2]; rfl) rfl rfl (by decide +kernel) ⟨rfl, rfl, Nat.le_of_ble_eq_true rfl, Nat.le_of_ble_eq_true rfl⟩ rfl hl.1 rfl (Nat.le_of_ble_eq_true rfl) d_Se_goOn_7 ⟨by dsimp only; omega, by dsimp only; omega⟩) (fun r u H locs hr1 hW => ?_)
  subst hr1
  refine lv_istore (lv' := [(4, .int (nI (onw FO1 (FI t) 9))), (0, .ref se), (1, .int (nI t)), (2, .ref h1), (3, .ref h2)]) hX.1 hX.2.1 d_Se_goOn_10 hl (by decide) rfl (fun ls hl => ?_)
  refine lv_aload_n hX.1 hX.2.1 d_Se_goOn_12 rfl (lv_at hl 4 rfl) ?_
  refine lv_aload_n hX.1 hX.2.1 d_Se_goOn_13 rfl (lv_at hl 1 rfl) ?_
  refine kget hX hW i_Se 0 rfl rfl 2 (by decide) f_Se_19 rfl rfl d_Se_goOn_14 ?_
  refine lv_iload_n hX.1 hX.2.1 d_Se_goOn_17 rfl (lv_at hl 2 rfl) ?_
  refine kiald hX hW 3 rfl (by omega) (by first | decide | omega) d_Se_goOn_18 ?_
  refine kCiR (wc := [(h2, .inr (0, [.ref f2, .ref g2, .int (nI en2), .int (nI n2)])), (f2, .inl (k 0, 9, .inl (aN FO2))), (g2, .inl (k 0, 4, .inl (aN SP2)))]) hW [p2 + 5, p2 + 1 + 5, p2 + 2 + 5] (by show [X[p2]?, X[p2 + 1]?, X[p2 + 2]?] = _; rw [E2.1, E2.2.1, E2.2.2]; rfl) (kRunV (n := 1) (As := [.int (nI (SC t))]) (rest := []) hX hml hW (ok_Ex_onward l D k H.size h2 f2 g2 FO2 SP2 en2 n2 (SC t) hst) m_Se_64 im_Ex_onward se_Ex_onward in_Ex cd_Ex_onward [p2 + 5, p2 + 1 + 5, p2 + 2 + 5] (by simp [va_nd] <;> omega) (by show [X[p2]?, X[p2 + 1]?, X[p2 + 2]?] = _; rw [E2.1, E2.2.1, E2.2.2]; rfl) rfl rfl (by decide +kernel) ⟨rfl, rfl, Nat.le_of_ble_eq_true rfl, Nat.le_of_ble_eq_true rfl⟩ rfl hl.1 rfl (Nat.le_of_ble_eq_true rfl) d_Se_goOn_19 ⟨by dsimp only; omega, by dsimp only; omega⟩) (fun r u H locs hr1 hW => ?_)
  subst hr1
  generalize onw FO1 (FI t) 9 = o1 at ho1 ho hl ⊢
  generalize onw FO2 (SC t) 9 = o2 at ho2 ho hl ⊢
  refine lv_istore (lv' := [(5, .int (nI o2)), (4, .int (nI o1)), (0, .ref se), (1, .int (nI t)), (2, .ref h1), (3, .ref h2)]) hX.1 hX.2.1 d_Se_goOn_22 hl (by decide) rfl (fun ls hl => ?_)
  refine lv_iconst (v := nI 0) hX.1 hX.2.1 d_Se_goOn_24 (by decide) ?_
  refine lv_istore (lv' := [(6, .int (nI 0)), (5, .int (nI o2)), (4, .int (nI o1)), (0, .ref se), (1, .int (nI t)), (2, .ref h1), (3, .ref h2)]) hX.1 hX.2.1 d_Se_goOn_25 hl (by decide) rfl (fun ls hl => ?_)
  have gok := gi_ok (SP1 := SP1) (SP2 := SP2) (q := (z, cp, FI, SC, OG, SN)) ho1 ho2 ht hq
  refine W.widen (k := cp - cp) (n := 6 * (cp - cp)) (by omega) (by omega) ?_
  have lp : ∀ (fu : Nat) (a : Nat) (qq : QZ) (a1 : Nat) (a2 : Nat) (a3 : Nat) (H : Heap) (locs : List Loc) (ls : Array Slot), (a ≤ 4) → (4 < a + fu) → (gi SP1 SP2 o1 o2 t (z, cp, FI, SC, OG, SN) a = qq) →  KW D k A s ((se, .inr (4, [.ref sn, .ref a1, .ref a2, .ref a3, .int (nI qq.1)])) :: (sn, .inl (k 1, 1024, .inr (.inl (aL qq.2.2.2.2.2)))) :: (a1, .inl (k 0, qq.2.1, .inl (aN qq.2.2.1))) :: (a2, .inl (k 0, qq.2.1, .inl (aN qq.2.2.2.1))) :: (a3, .inl (k 0, qq.2.1, .inl (aN qq.2.2.2.2.1))) :: X) H locs → lv_has ls 9 [(6, .int (nI a)), (5, .int (nI o2)), (4, .int (nI o1)), (3, .ref h2), (2, .ref h1), (1, .int (nI t)), (0, .ref se)] → W p l e ({ frames := 3, cells := (o.2.1 - cp), slots := (6 * (o.2.1 - cp)), locals := 87 } : Room) s m [.ref se, .int (nI t), .ref h1, .ref h2].toArray below meth c H locs (qq.2.1 - cp) (6 * (qq.2.1 - cp)) Q (F0 m 27 ls []) := by
    intro fu
    induction fu with
    | zero => intro a qq a1 a2 a3 H locs ls lp1 lp2 hg hW hl; exfalso; omega
    | succ fu ih =>
      intro a qq a1 a2 a3 H locs ls lp1 lp2 hg hW hl
      have hqq := gok a lp1
      have hfin := gok 4 (Nat.le_refl _)
      rw [hg] at hqq
      rw [ho] at hfin
      have hmon0 := gi_mono2 (SP1 := SP1) (SP2 := SP2) (q := (z, cp, FI, SC, OG, SN)) ho1 ho2 ht hq a lp1
      rw [hg, ho] at hmon0
      obtain ⟨z2, cp2, FI2, SC2, OG2, SN2⟩ := qq
      obtain ⟨hI2, hz2, hc2⟩ := hqq
      have hz2 : z ≤ z2 := hz2
      have hc2 : cp ≤ cp2 := hc2
      have hmon0 : cp2 ≤ o.2.1 := hmon0
      have hW : KW D k A s ((se, .inr (4, [.ref sn, .ref a1, .ref a2, .ref a3, .int (nI z2)])) :: (sn, .inl (k 1, 1024, .inr (.inl (aL SN2)))) :: (a1, .inl (k 0, cp2, .inl (aN FI2))) :: (a2, .inl (k 0, cp2, .inl (aN SC2))) :: (a3, .inl (k 0, cp2, .inl (aN OG2))) :: X) H locs := hW
      show W p l e ({ frames := 3, cells := (o.2.1 - cp), slots := (6 * (o.2.1 - cp)), locals := 87 } : Room) s m [.ref se, .int (nI t), .ref h1, .ref h2].toArray below meth c H locs (cp2 - cp) (6 * (cp2 - cp)) Q (F0 m 27 ls [])
      obtain ⟨⟨r1, r2, r3, r4⟩, r5, ⟨r6, r7, r8⟩, r9, r10⟩ := id hI2
      refine lv_iload hX.1 hX.2.1 d_Se_goOn_27 (lv_at hl 0 rfl) ?_
      refine lv_iconst (v := nI 4) hX.1 hX.2.1 d_Se_goOn_29 (by decide) ?_
      refine kge hX (tgt := 88) (by omega) (by omega) d_Se_goOn_30 (by decide) (fun hA4 => ?_) (fun hA4 => ?_)
      · have e4 : a = 4 := by omega
        subst e4
        rw [ho] at hg
        subst hg
        exact kvret hX hr hlocks hQ (a1, a2, a3) (hW) (trivial) d_Se_goOn_88
      · have k1 : o1 &&& SP1 a < 256 := Nat.lt_of_le_of_lt Nat.and_le_left ho1
        have k2 : o2 &&& SP2 a < 256 := Nat.lt_of_le_of_lt Nat.and_le_left ho2
        have hnext : gi SP1 SP2 o1 o2 t (z, cp, FI, SC, OG, SN) (a + 1) = gs (o1 &&& SP1 a) (o2 &&& SP2 a) (t * 4 + a) (z2, cp2, FI2, SC2, OG2, SN2) := by rw [gi, hg]
        have hnx := gok (a + 1) (by omega)
        rw [hnext, gs] at hnx
        rw [gs] at hnext
        refine lv_iload hX.1 hX.2.1 d_Se_goOn_33 (lv_at hl 2 rfl) ?_
        refine lv_aload_n hX.1 hX.2.1 d_Se_goOn_35 rfl (lv_at hl 4 rfl) ?_
        refine kget hX hW i_Ex (p1 + 5) E1.1 rfl 1 (by decide) f_Se_68 rfl rfl d_Se_goOn_36 ?_
        refine lv_iload hX.1 hX.2.1 d_Se_goOn_39 (lv_at hl 0 rfl) ?_
        refine kiald hX hW (p1 + 2 + 5) E1.2.2 (by omega) (by decide) d_Se_goOn_41 ?_
        refine lv_iand hX.1 hX.2.1 d_Se_goOn_42 ?_
        refine tpi (y := nI (o1 &&& SP1 a)) (kn_and _ _) ?_
        refine lv_istore (lv' := [(7, .int (nI (o1 &&& SP1 a))), (6, .int (nI a)), (5, .int (nI o2)), (4, .int (nI o1)), (3, .ref h2), (2, .ref h1), (1, .int (nI t)), (0, .ref se)]) hX.1 hX.2.1 d_Se_goOn_43 hl (by decide) rfl (fun ls hl => ?_)
        refine lv_iload hX.1 hX.2.1 d_Se_goOn_45 (lv_at hl 2 rfl) ?_
        refine lv_aload_n hX.1 hX.2.1 d_Se_goOn_47 rfl (lv_at hl 4 rfl) ?_
        refine kget hX hW i_Ex (p2 + 5) E2.1 rfl 1 (by decide) f_Se_68 rfl rfl d_Se_goOn_48 ?_
        refine lv_iload hX.1 hX.2.1 d_Se_goOn_51 (lv_at hl 1 rfl) ?_
        refine kiald hX hW (p2 + 2 + 5) E2.2.2 (by omega) (by decide) d_Se_goOn_53 ?_
        refine lv_iand hX.1 hX.2.1 d_Se_goOn_54 ?_
        refine tpi (y := nI (o2 &&& SP2 a)) (kn_and _ _) ?_
        refine lv_istore (lv' := [(8, .int (nI (o2 &&& SP2 a))), (7, .int (nI (o1 &&& SP1 a))), (6, .int (nI a)), (5, .int (nI o2)), (4, .int (nI o1)), (3, .ref h2), (2, .ref h1), (1, .int (nI t)), (0, .ref se)]) hX.1 hX.2.1 d_Se_goOn_55 hl (by decide) rfl (fun ls hl => ?_)
        obtain ⟨vx, hvx⟩ : ∃ vx, o1 &&& SP1 a = vx := ⟨_, rfl⟩
        obtain ⟨vy, hvy⟩ : ∃ vy, o2 &&& SP2 a = vy := ⟨_, rfl⟩
        rw [hvx] at hl k1 hnext hnx
        rw [hvy] at hl k2 hnext hnx
        refine lv_aload_n hX.1 hX.2.1 d_Se_goOn_57 rfl (lv_at hl 8 rfl) ?_
        refine lv_iload hX.1 hX.2.1 d_Se_goOn_58 (lv_at hl 1 rfl) ?_
        refine lv_iload hX.1 hX.2.1 d_Se_goOn_60 (lv_at hl 0 rfl) ?_
        refine kCi (wc := [(se, .inr (4, [.ref sn, .ref a1, .ref a2, .ref a3, .int (nI z2)])), (sn, .inl (k 1, 1024, .inr (.inl (aL SN2)))), (a1, .inl (k 0, cp2, .inl (aN FI2))), (a2, .inl (k 0, cp2, .inl (aN SC2))), (a3, .inl (k 0, cp2, .inl (aN OG2)))]) hW [0, 1, 2, 3, 4] (by rfl) (by intro _; rfl) (kRunV (n := 2) (As := [.int (nI vx), .int (nI vy)]) (rest := []) hX hml hW (ok_Se_mark l D k H.size se sn a1 a2 a3 SN2 FI2 SC2 OG2 z2 cp2 vx vy k1 k2 r5) m_Se_71 im_Se_markIfNew se_Se_markIfNew in_Se cd_Se_markIfNew [0, 1, 2, 3, 4] rfl rfl rfl rfl (by decide +kernel) ⟨rfl, rfl, Nat.le_of_ble_eq_true rfl, Nat.le_of_ble_eq_true rfl⟩ rfl hl.1 rfl (Nat.le_of_ble_eq_true rfl) d_Se_goOn_62 ⟨by first | exact Nat.zero_le _ | decide | omega | (dsimp only; omega), by first | exact Nat.zero_le _ | decide | omega | (dsimp only; omega)⟩) (fun r u H locs hr1 hW => ?_)
        have hW : KW D k A s ((se, .inr (4, [.ref sn, .ref a1, .ref a2, .ref a3, .int (nI z2)])) :: (sn, .inl (k 1, 1024, .inr (.inl (aL (sbs SN2 (vx * 256 + vy)))))) :: (a1, .inl (k 0, cp2, .inl (aN FI2))) :: (a2, .inl (k 0, cp2, .inl (aN SC2))) :: (a3, .inl (k 0, cp2, .inl (aN OG2))) :: X) H locs := hW
        subst hr1
        refine kz hX (tgt := 82) (bT _) d_Se_goOn_65 (by decide) (fun hB4 => ?_) (fun hB4 => ?_)
        · have hb : sb SN2 (vx * 256 + vy) = true := by have := bT_0 hB4; simpa using this
          rw [if_pos hb] at hnext
          refine lv_iinc (v := nI (a + 1)) (lv' := [(6, .int (nI (a + 1))), (8, .int (nI vy)), (7, .int (nI vx)), (5, .int (nI o2)), (4, .int (nI o1)), (3, .ref h2), (2, .ref h1), (1, .int (nI t)), (0, .ref se)]) hX.1 hX.2.1 d_Se_goOn_82 hl (k := 2) rfl (kn_inc _) (by decide) rfl (fun ls hl => ?_)
          refine lv_goto (tgt := 27) hX.1 hX.2.1 d_Se_goOn_85 (by decide) ?_
          exact ih (a + 1) _ a1 a2 a3 H locs ls (by omega) (by omega) hnext hW (lv_sub hl [0, 3, 4, 5, 6, 7, 8] rfl)
        · have hb : sb SN2 (vx * 256 + vy) = false := by have := bT_1 hB4; simpa using this
          rw [if_neg (by rw [hb]; simp), ap] at hnext hnx
          refine lv_aload_n hX.1 hX.2.1 d_Se_goOn_68 rfl (lv_at hl 8 rfl) ?_
          refine lv_iload hX.1 hX.2.1 d_Se_goOn_69 (lv_at hl 1 rfl) ?_
          refine lv_iload hX.1 hX.2.1 d_Se_goOn_71 (lv_at hl 0 rfl) ?_
          refine lv_iload_n hX.1 hX.2.1 d_Se_goOn_73 rfl (lv_at hl 7 rfl) ?_
          refine lv_iconst (v := nI 4) hX.1 hX.2.1 d_Se_goOn_74 (by decide) ?_
          refine lv_imul hX.1 hX.2.1 d_Se_goOn_75 ?_
          refine tpi (y := nI (t * 4)) (pk_mul _ _) ?_
          refine lv_iload hX.1 hX.2.1 d_Se_goOn_76 (lv_at hl 2 rfl) ?_
          refine lv_iadd hX.1 hX.2.1 d_Se_goOn_78 ?_
          refine tpi (y := nI (t * 4 + a)) (nI_add _ _) ?_
          have hmon : (gi SP1 SP2 o1 o2 t (z, cp, FI, SC, OG, SN) (a + 1)).2.1 ≤ o.2.1 := by have := gi_mono2 (SP1 := SP1) (SP2 := SP2) (q := (z, cp, FI, SC, OG, SN)) ho1 ho2 ht hq (a + 1) (by omega); rw [ho] at this; exact this
          rw [hnext] at hmon
          by_cases hroom : z2 < cp2
          · rw [if_pos hroom] at hnext
            refine kCv (wc := [(se, .inr (4, [.ref sn, .ref a1, .ref a2, .ref a3, .int (nI z2)])), (sn, .inl (k 1, 1024, .inr (.inl (aL (sbs SN2 (vx * 256 + vy)))))), (a1, .inl (k 0, cp2, .inl (aN FI2))), (a2, .inl (k 0, cp2, .inl (aN SC2))), (a3, .inl (k 0, cp2, .inl (aN OG2)))]) hW [0, 1, 2, 3, 4] (by rfl) (by intro _; rfl) (kRunV (n := 3) (As := [.int (nI vx), .int (nI vy), .int (nI (t * 4 + a))]) (rest := []) hX hml hW (ok_Se_appendS l D k H.size se sn a1 a2 a3 (sbs SN2 (vx * 256 + vy)) FI2 SC2 OG2 z2 cp2 vx vy (t * 4 + a) hroom (by omega)) m_Se_37 im_Se_append se_Se_append in_Se cd_Se_append [0, 1, 2, 3, 4] rfl rfl rfl rfl (by decide +kernel) ⟨rfl, rfl, Nat.le_of_ble_eq_true rfl, Nat.le_of_ble_eq_true rfl⟩ rfl hl.1 rfl (Nat.le_of_ble_eq_true rfl) d_Se_goOn_79 ⟨by first | exact Nat.zero_le _ | decide | omega | (dsimp only; omega), by first | exact Nat.zero_le _ | decide | omega | (dsimp only; omega)⟩) (fun u H locs _ hW => ?_)
            have hW : KW D k A s ((se, .inr (4, [.ref sn, .ref a1, .ref a2, .ref a3, .int (nI (z2 + 1))])) :: (sn, .inl (k 1, 1024, .inr (.inl (aL (sbs SN2 (vx * 256 + vy)))))) :: (a1, .inl (k 0, cp2, .inl (aN (va_up FI2 z2 vx)))) :: (a2, .inl (k 0, cp2, .inl (aN (va_up SC2 z2 vy)))) :: (a3, .inl (k 0, cp2, .inl (aN (va_up OG2 z2 (t * 4 + a))))) :: X) H locs := hW
            refine lv_iinc (v := nI (a + 1)) (lv' := [(6, .int (nI (a + 1))), (8, .int (nI vy)), (7, .int (nI vx)), (5, .int (nI o2)), (4, .int (nI o1)), (3, .ref h2), (2, .ref h1), (1, .int (nI t)), (0, .ref se)]) hX.1 hX.2.1 d_Se_goOn_82 hl (k := 2) rfl (kn_inc _) (by decide) rfl (fun ls hl => ?_)
            refine lv_goto (tgt := 27) hX.1 hX.2.1 d_Se_goOn_85 (by decide) ?_
            exact ih (a + 1) _ a1 a2 a3 H locs ls (by omega) (by omega) hnext hW (lv_sub hl [0, 3, 4, 5, 6, 7, 8] rfl)
          · rw [if_neg hroom] at hnext hmon
            have ez : z2 = cp2 := by omega
            subst ez
            have hmon : 2 * z2 ≤ o.2.1 := hmon
            refine kCv (wc := [(se, .inr (4, [.ref sn, .ref a1, .ref a2, .ref a3, .int (nI z2)])), (sn, .inl (k 1, 1024, .inr (.inl (aL (sbs SN2 (vx * 256 + vy)))))), (a1, .inl (k 0, z2, .inl (aN FI2))), (a2, .inl (k 0, z2, .inl (aN SC2))), (a3, .inl (k 0, z2, .inl (aN OG2)))]) hW [0, 1, 2, 3, 4] (by rfl) (by intro _; rfl) (kRunV (n := 3) (As := [.int (nI vx), .int (nI vy), .int (nI (t * 4 + a))]) (rest := []) hX hml hW (ok_Se_appendG l D k H.size se sn a1 a2 a3 (sbs SN2 (vx * 256 + vy)) FI2 SC2 OG2 z2 vx vy (t * 4 + a) (by omega) (by omega)) m_Se_37 im_Se_append se_Se_append in_Se cd_Se_append [0, 1, 2, 3, 4] rfl rfl rfl rfl (by decide +kernel) ⟨rfl, rfl, Nat.le_of_ble_eq_true rfl, Nat.le_of_ble_eq_true rfl⟩ rfl hl.1 rfl (Nat.le_of_ble_eq_true rfl) d_Se_goOn_79 ⟨by first | exact Nat.zero_le _ | decide | omega | (dsimp only; omega), by first | exact Nat.zero_le _ | decide | omega | (dsimp only; omega)⟩) (fun u H locs _ hW => ?_)
            have hW : KW D k A s ((se, .inr (4, [.ref sn, .ref u.1, .ref u.2.1, .ref u.2.2, .int (nI (z2 + 1))])) :: (sn, .inl (k 1, 1024, .inr (.inl (aL (sbs SN2 (vx * 256 + vy)))))) :: (u.1, .inl (k 0, (2 * z2), .inl (aN (va_up (cpz FI2 (fun _ => 0) z2) z2 vx)))) :: (u.2.1, .inl (k 0, (2 * z2), .inl (aN (va_up (cpz SC2 (fun _ => 0) z2) z2 vy)))) :: (u.2.2, .inl (k 0, (2 * z2), .inl (aN (va_up (cpz OG2 (fun _ => 0) z2) z2 (t * 4 + a))))) :: X) H locs := hW
            refine W.widen (k := 2 * z2 - cp) (n := 6 * (2 * z2 - cp)) (by omega) (by omega) ?_
            refine lv_iinc (v := nI (a + 1)) (lv' := [(6, .int (nI (a + 1))), (8, .int (nI vy)), (7, .int (nI vx)), (5, .int (nI o2)), (4, .int (nI o1)), (3, .ref h2), (2, .ref h1), (1, .int (nI t)), (0, .ref se)]) hX.1 hX.2.1 d_Se_goOn_82 hl (k := 2) rfl (kn_inc _) (by decide) rfl (fun ls hl => ?_)
            refine lv_goto (tgt := 27) hX.1 hX.2.1 d_Se_goOn_85 (by decide) ?_
            exact ih (a + 1) _ u.1 u.2.1 u.2.2 H locs ls (by omega) (by omega) hnext hW (lv_sub hl [0, 3, 4, 5, 6, 7, 8] rfl)
  exact lp 5 0 (z, cp, FI, SC, OG, SN) fi sc og H locs ls (by omega) (by omega) rfl hW (lv_sub hl [0, 1, 2, 6, 5, 4, 3] rfl)
end
section
/-! THE SEARCH: the whole -/
/-- whether a set of positions is at an end -/
def tl (S en : Nat) : Bool := decide (S &&& en ≠ 0)
theorem tl_if (S en : Nat) : (if S &&& en = 0 then 0 else 1) = (tl S en).toNat := by unfold tl; split <;> simp [*]
def who (x y : Bool) : Nat := if x = y then 0 else if x then 1 else 2
theorem who_le (x y : Bool) : who x y ≤ 2 := by cases x <;> cases y <;> decide
/-- from the pair t on (fuel r): who tells alone (0: none), at which pair, the queue -/
def pt (FO1 SP1 FO2 SP2 : Nat → Nat) (en1 en2 wa : Nat) : Nat → Nat → QZ → Nat × Nat × QZ
  | 0, _, q => (0, 0, q)
  | r + 1, t, q => if t < q.1 then (if who (tl (q.2.2.1 t) en1) (tl (q.2.2.2.1 t) en2) &&& wa = 0 then pt FO1 SP1 FO2 SP2 en1 en2 wa r (t + 1) (gi SP1 SP2 (onw FO1 (q.2.2.1 t) 9) (onw FO2 (q.2.2.2.1 t) 9) t q 4) else (who (tl (q.2.2.1 t) en1) (tl (q.2.2.2.1 t) en2) &&& wa, t, q)) else (0, 0, q)
theorem pt_mono {FO1 SP1 FO2 SP2 : Nat → Nat} {en1 en2 wa : Nat} (h1 : ∀ p, p < 9 → FO1 p < 256) (h2 : ∀ p, p < 9 → FO2 p < 256) : ∀ r t q, QI q → q.2.1 ≤ (pt FO1 SP1 FO2 SP2 en1 en2 wa r t q).2.2.2.1 ∧ QI (pt FO1 SP1 FO2 SP2 en1 en2 wa r t q).2.2 := by
  intro r
  induction r with
  | zero => intro t q h; exact ⟨Nat.le_refl _, h⟩
  | succ r ih =>
    intro t q h
    rw [pt]
    split
    · rename_i ht
      split
      · have g := gi_ok (SP1 := SP1) (SP2 := SP2) (onw_lt (S := q.2.2.1 t) h1 9 (Nat.le_refl _)) (onw_lt (S := q.2.2.2.1 t) h2 9 (Nat.le_refl _)) ht h 4 (Nat.le_refl _)
        have i := ih (t + 1) _ g.1
        exact ⟨by have := g.2.2; omega, i.2⟩
      · exact ⟨Nat.le_refl _, h⟩
    · exact ⟨Nat.le_refl _, h⟩
/-- how long the word is -/
def pn (o : Nat × Nat × QZ) : Nat := if o.1 = 0 then 0 else wl o.2.2.2.2.2.2.1 o.2.2.1 o.2.1
def pq0 (cp : Nat) (FI SC OG : Nat → Nat) : QZ := (1, cp, va_up FI 0 256, va_up SC 0 256, va_up OG 0 0, fun _ => 0)
theorem QI_0 {cp : Nat} {FI SC OG : Nat → Nat} (h1 : 64 ≤ cp) (h2 : cp ≤ 131072) : QI (pq0 cp FI SC OG) := ⟨⟨by decide, by omega, h1, h2⟩, fun w _ => by show (0 : Nat) < 2 ^ 64; decide, ⟨va_up_self _ _ _, va_up_self _ _ _, va_up_self _ _ _⟩, fun j h h3 => by omega, fun i j h h3 => by omega⟩
theorem exAt_2 {k : Nat → ClassId} {X : va_W} {x h f g : Nat} {FO SP : Nat → Nat} {en n : Nat} (a b : Nat × va_E) (E : exAt k X x h f g FO SP en n) : exAt k (a :: b :: X) (x + 2) h f g FO SP en n := ⟨E.1, E.2.1, E.2.2⟩
set_option maxHeartbeats 4000000 in
set_option maxRecDepth 100000 in
/-- part(first, second, wanted, word) -/
theorem ok_Se_part (l : Launch) (D : va_G) (k : Nat → ClassId) (sz : Nat) (se sn fi sc og : Nat) (SN FI SC OG : Nat → Nat) (z cp : Nat) (wo wl1 : Nat) (L : Nat → Nat) (y cw : Nat) (X : va_W) (p1 h1 f1 g1 : Nat) (FO1 SP1 : Nat → Nat) (en1 n1 : Nat) (E1 : exAt k X p1 h1 f1 g1 FO1 SP1 en1 n1) (p2 h2 f2 g2 : Nat) (FO2 SP2 : Nat → Nat) (en2 n2 : Nat) (E2 : exAt k X p2 h2 f2 g2 FO2 SP2 en2 n2) (wa : Nat) (hwa : wa < 4) (h64 : 64 ≤ cp) (hcp : cp ≤ 131072) (hcw : cw < 2 ^ 20) (hF1 : ∀ p, p < 9 → FO1 p < 256) (hF2 : ∀ p, p < 9 → FO2 p < 256) (he1 : en1 < 512) (he2 : en2 < 512) : Met l y_Se_part (.code y_Se_part c_Se_part 7 (some .int) :: wsU) ({ frames := 4, cells := ((pt FO1 SP1 FO2 SP2 en1 en2 wa 65537 0 (pq0 cp FI SC OG)).2.2.2.1 - cp + 1), slots := (6 * ((pt FO1 SP1 FO2 SP2 en1 en2 wa 65537 0 (pq0 cp FI SC OG)).2.2.2.1 - cp) + pn (pt FO1 SP1 FO2 SP2 en1 en2 wa 65537 0 (pq0 cp FI SC OG))), locals := 115 } : Room) (kPre D k [.ref se, .ref h1, .ref h2, .int (nI wa), .ref wo] ((se, .inr (4, [.ref sn, .ref fi, .ref sc, .ref og, .int (nI z)])) :: (sn, .inl (k 1, 1024, .inr (.inl (aL SN)))) :: (fi, .inl (k 0, cp, .inl (aN FI))) :: (sc, .inl (k 0, cp, .inl (aN SC))) :: (og, .inl (k 0, cp, .inl (aN OG))) :: (wo, .inr (6, [.ref wl1, .int (nI y)])) :: (wl1, .inl (k 0, cw, .inl (aN L))) :: X) sz) (va_Qi (fun (r : Int32) (_ : (Nat × Nat × Nat) × Nat) => r = nI (pt FO1 SP1 FO2 SP2 en1 en2 wa 65537 0 (pq0 cp FI SC OG)).1) (kB D k (fun u : (Nat × Nat × Nat) × Nat => ((se, .inr (4, [.ref sn, .ref u.1.1, .ref u.1.2.1, .ref u.1.2.2, .int (nI ((pt FO1 SP1 FO2 SP2 en1 en2 wa 65537 0 (pq0 cp FI SC OG)).2.2.1))])) :: (sn, .inl (k 1, 1024, .inr (.inl (aL ((pt FO1 SP1 FO2 SP2 en1 en2 wa 65537 0 (pq0 cp FI SC OG)).2.2.2.2.2.2.2))))) :: (u.1.1, .inl (k 0, (pt FO1 SP1 FO2 SP2 en1 en2 wa 65537 0 (pq0 cp FI SC OG)).2.2.2.1, .inl (aN ((pt FO1 SP1 FO2 SP2 en1 en2 wa 65537 0 (pq0 cp FI SC OG)).2.2.2.2.1)))) :: (u.1.2.1, .inl (k 0, (pt FO1 SP1 FO2 SP2 en1 en2 wa 65537 0 (pq0 cp FI SC OG)).2.2.2.1, .inl (aN ((pt FO1 SP1 FO2 SP2 en1 en2 wa 65537 0 (pq0 cp FI SC OG)).2.2.2.2.2.1)))) :: (u.1.2.2, .inl (k 0, (pt FO1 SP1 FO2 SP2 en1 en2 wa 65537 0 (pq0 cp FI SC OG)).2.2.2.1, .inl (aN ((pt FO1 SP1 FO2 SP2 en1 en2 wa 65537 0 (pq0 cp FI SC OG)).2.2.2.2.2.2.1)))) :: (wo, .inr (6, [.ref u.2, .int (nI (pn (pt FO1 SP1 FO2 SP2 en1 en2 wa 65537 0 (pq0 cp FI SC OG))))])) :: (u.2, .inl (k 0, (if pn (pt FO1 SP1 FO2 SP2 en1 en2 wa 65537 0 (pq0 cp FI SC OG)) ≤ cw then cw else pn (pt FO1 SP1 FO2 SP2 en1 en2 wa 65537 0 (pq0 cp FI SC OG))), .inl (aN (wf (pt FO1 SP1 FO2 SP2 en1 en2 wa 65537 0 (pq0 cp FI SC OG)).2.2.2.2.2.2.1 (pn (pt FO1 SP1 FO2 SP2 en1 en2 wa 65537 0 (pq0 cp FI SC OG))) (pt FO1 SP1 FO2 SP2 en1 en2 wa 65537 0 (pq0 cp FI SC OG)).2.1 (if pn (pt FO1 SP1 FO2 SP2 en1 en2 wa 65537 0 (pq0 cp FI SC OG)) ≤ cw then L else fun _ => 0))))) :: X)) (va_A ((se, .inr (4, [.ref sn, .ref fi, .ref sc, .ref og, .int (nI z)])) :: (sn, .inl (k 1, 1024, .inr (.inl (aL SN)))) :: (fi, .inl (k 0, cp, .inl (aN FI))) :: (sc, .inl (k 0, cp, .inl (aN SC))) :: (og, .inl (k 0, cp, .inl (aN OG))) :: (wo, .inr (6, [.ref wl1, .int (nI y)])) :: (wl1, .inl (k 0, cw, .inl (aN L))) :: X) sz)) (va_A ((se, .inr (4, [.ref sn, .ref fi, .ref sc, .ref og, .int (nI z)])) :: (sn, .inl (k 1, 1024, .inr (.inl (aL SN)))) :: (fi, .inl (k 0, cp, .inl (aN FI))) :: (sc, .inl (k 0, cp, .inl (aN SC))) :: (og, .inl (k 0, cp, .inl (aN OG))) :: (wo, .inr (6, [.ref wl1, .int (nI y)])) :: (wl1, .inl (k 0, cw, .inl (aN L))) :: X) sz)) ((pt FO1 SP1 FO2 SP2 en1 en2 wa 65537 0 (pq0 cp FI SC OG)).2.2.2.1 - cp + 1) (6 * ((pt FO1 SP1 FO2 SP2 en1 en2 wa 65537 0 (pq0 cp FI SC OG)).2.2.2.1 - cp) + pn (pt FO1 SP1 FO2 SP2 en1 en2 wa 65537 0 (pq0 cp FI SC OG))) (va_A ((se, .inr (4, [.ref sn, .ref fi, .ref sc, .ref og, .int (nI z)])) :: (sn, .inl (k 1, 1024, .inr (.inl (aL SN)))) :: (fi, .inl (k 0, cp, .inl (aN FI))) :: (sc, .inl (k 0, cp, .inl (aN SC))) :: (og, .inl (k 0, cp, .inl (aN OG))) :: (wo, .inr (6, [.ref wl1, .int (nI y)])) :: (wl1, .inl (k 0, cw, .inl (aN L))) :: X) sz) := by
  refine kMet (by decide) (Nat.le_of_ble_eq_true rfl) ?_
  intro p e s m below meth c ls hX hml hr hlocks hin hsz hW hl Q hQ
  generalize hAe : va_A ((se, .inr (4, [.ref sn, .ref fi, .ref sc, .ref og, .int (nI z)])) :: (sn, .inl (k 1, 1024, .inr (.inl (aL SN)))) :: (fi, .inl (k 0, cp, .inl (aN FI))) :: (sc, .inl (k 0, cp, .inl (aN SC))) :: (og, .inl (k 0, cp, .inl (aN OG))) :: (wo, .inr (6, [.ref wl1, .int (nI y)])) :: (wl1, .inl (k 0, cw, .inl (aN L))) :: X) sz = A at hW hQ
  generalize hH0 : s.heap = H at hW ⊢
  generalize hl0 : ([] : List Loc) = locs at hW ⊢
  have hX : FX p s m c [.ref se, .ref h1, .ref h2, .int (nI wa), .ref wo].toArray c_Se_part R_Se := hX
  have hl : lv_has ls 7 [(0, .ref se), (1, .ref h1), (2, .ref h2), (3, .int (nI wa)), (4, .ref wo)] := hl
  obtain ⟨o, ho⟩ : ∃ o, pt FO1 SP1 FO2 SP2 en1 en2 wa 65537 0 (pq0 cp FI SC OG) = o := ⟨_, rfl⟩
  rw [ho] at hQ ⊢
  have hfin := pt_mono (SP1 := SP1) (SP2 := SP2) (en1 := en1) (en2 := en2) (wa := wa) hF1 hF2 65537 0 (pq0 cp FI SC OG) (QI_0 h64 hcp)
  rw [ho] at hfin
  refine lv_aload_n hX.1 hX.2.1 d_Se_part_0 rfl (lv_at hl 0 rfl) ?_
  refine kget hX hW i_Se 0 rfl rfl 0 (by decide) f_Se_9 rfl rfl d_Se_part_1 ?_
  refine lv_lconst (v := lN 0) hX.1 hX.2.1 d_Se_part_4 (by decide) ?_
  refine kCv (wc := [(sn, .inl (k 1, 1024, .inr (.inl (aL SN))))]) hW [1] (by rfl) (by intro _; rfl) (kRunS (n := 2) (As := [.ref sn, .long (lN 0)]) (rest := []) hX hml hW (ok_Ar_fillL l D k H.size sn 1024 (aL SN) (lN 0) (by decide)) m_Se_29 sm_Ar_fillL in_Ar cd_Ar_fillL [1] rfl rfl (by decide +kernel) ⟨rfl, rfl, Nat.le_of_ble_eq_true rfl, Nat.le_of_ble_eq_true rfl⟩ rfl hl.1 rfl (Nat.le_of_ble_eq_true rfl) d_Se_part_5 ⟨by first | exact Nat.zero_le _ | decide | omega | (dsimp only; omega), by first | exact Nat.zero_le _ | decide | omega | (dsimp only; omega)⟩) (fun u H locs _ hW => ?_)
  have hW : KW D k A s ((se, .inr (4, [.ref sn, .ref fi, .ref sc, .ref og, .int (nI z)])) :: (sn, .inl (k 1, 1024, .inr (.inl (aL (fun _ => 0))))) :: (fi, .inl (k 0, cp, .inl (aN FI))) :: (sc, .inl (k 0, cp, .inl (aN SC))) :: (og, .inl (k 0, cp, .inl (aN OG))) :: (wo, .inr (6, [.ref wl1, .int (nI y)])) :: (wl1, .inl (k 0, cw, .inl (aN L))) :: X) H locs := hW
  refine lv_aload_n hX.1 hX.2.1 d_Se_part_8 rfl (lv_at hl 0 rfl) ?_
  refine lv_iconst (v := nI 0) hX.1 hX.2.1 d_Se_part_9 (by decide) ?_
  refine kput hX hW i_Se t_Se t_Se_ok n_Se 0 rfl rfl 4 (by decide) f_Se_25 rfl rfl (rfl) (rfl) (Nat.le_of_ble_eq_true rfl) d_Se_part_10 (fun H locs hW => ?_)
  have hW : KW D k A s ((se, .inr (4, [.ref sn, .ref fi, .ref sc, .ref og, .int (nI 0)])) :: (sn, .inl (k 1, 1024, .inr (.inl (aL (fun _ => 0))))) :: (fi, .inl (k 0, cp, .inl (aN FI))) :: (sc, .inl (k 0, cp, .inl (aN SC))) :: (og, .inl (k 0, cp, .inl (aN OG))) :: (wo, .inr (6, [.ref wl1, .int (nI y)])) :: (wl1, .inl (k 0, cw, .inl (aN L))) :: X) H locs := hW
  refine lv_aload_n hX.1 hX.2.1 d_Se_part_13 rfl (lv_at hl 0 rfl) ?_
  refine lv_sipush (v := nI 256) hX.1 hX.2.1 d_Se_part_14 (by decide) ?_
  refine lv_sipush (v := nI 256) hX.1 hX.2.1 d_Se_part_17 (by decide) ?_
  refine lv_iconst (v := nI 0) hX.1 hX.2.1 d_Se_part_20 (by decide) ?_
  refine kCv (wc := [(se, .inr (4, [.ref sn, .ref fi, .ref sc, .ref og, .int (nI 0)])), (sn, .inl (k 1, 1024, .inr (.inl (aL (fun _ => 0))))), (fi, .inl (k 0, cp, .inl (aN FI))), (sc, .inl (k 0, cp, .inl (aN SC))), (og, .inl (k 0, cp, .inl (aN OG)))]) hW [0, 1, 2, 3, 4] (by rfl) (by intro _; rfl) (kRunV (n := 3) (As := [.int (nI 256), .int (nI 256), .int (nI 0)]) (rest := []) hX hml hW (ok_Se_appendS l D k H.size se sn fi sc og (fun _ => 0) FI SC OG 0 cp 256 256 0 (by omega) (by omega)) m_Se_37 im_Se_append se_Se_append in_Se cd_Se_append [0, 1, 2, 3, 4] rfl rfl rfl rfl (by decide +kernel) ⟨rfl, rfl, Nat.le_of_ble_eq_true rfl, Nat.le_of_ble_eq_true rfl⟩ rfl hl.1 rfl (Nat.le_of_ble_eq_true rfl) d_Se_part_21 ⟨by first | exact Nat.zero_le _ | decide | omega | (dsimp only; omega), by first | exact Nat.zero_le _ | decide | omega | (dsimp only; omega)⟩) (fun u H locs _ hW => ?_)
  have hW : KW D k A s ((se, .inr (4, [.ref sn, .ref fi, .ref sc, .ref og, .int (nI (0 + 1))])) :: (sn, .inl (k 1, 1024, .inr (.inl (aL (fun _ => 0))))) :: (fi, .inl (k 0, cp, .inl (aN (va_up FI 0 256)))) :: (sc, .inl (k 0, cp, .inl (aN (va_up SC 0 256)))) :: (og, .inl (k 0, cp, .inl (aN (va_up OG 0 0)))) :: (wo, .inr (6, [.ref wl1, .int (nI y)])) :: (wl1, .inl (k 0, cw, .inl (aN L))) :: X) H locs := hW
  refine lv_iconst (v := nI 0) hX.1 hX.2.1 d_Se_part_24 (by decide) ?_
  refine lv_istore (lv' := [(5, .int (nI 0)), (0, .ref se), (1, .ref h1), (2, .ref h2), (3, .int (nI wa)), (4, .ref wo)]) hX.1 hX.2.1 d_Se_part_25 hl (by decide) rfl (fun ls hl => ?_)
  refine W.widen (k := cp - cp) (n := 6 * (cp - cp)) (by omega) (by omega) ?_
  have lp : ∀ (fu : Nat) (t : Nat) (qq : QZ) (a1 : Nat) (a2 : Nat) (a3 : Nat) (H : Heap) (locs : List Loc) (ls : Array Slot), (t ≤ 65537) → (65537 < t + fu) → (pt FO1 SP1 FO2 SP2 en1 en2 wa (65537 - t) t qq = o) → (QI qq) → (cp ≤ qq.2.1) →  KW D k A s ((se, .inr (4, [.ref sn, .ref a1, .ref a2, .ref a3, .int (nI qq.1)])) :: (sn, .inl (k 1, 1024, .inr (.inl (aL qq.2.2.2.2.2)))) :: (a1, .inl (k 0, qq.2.1, .inl (aN qq.2.2.1))) :: (a2, .inl (k 0, qq.2.1, .inl (aN qq.2.2.2.1))) :: (a3, .inl (k 0, qq.2.1, .inl (aN qq.2.2.2.2.1))) :: (wo, .inr (6, [.ref wl1, .int (nI y)])) :: (wl1, .inl (k 0, cw, .inl (aN L))) :: X) H locs → lv_has ls 7 [(5, .int (nI t)), (4, .ref wo), (3, .int (nI wa)), (2, .ref h2), (1, .ref h1), (0, .ref se)] → W p l e ({ frames := 4, cells := (o.2.2.2.1 - cp + 1), slots := (6 * (o.2.2.2.1 - cp) + pn o), locals := 115 } : Room) s m [.ref se, .ref h1, .ref h2, .int (nI wa), .ref wo].toArray below meth c H locs (qq.2.1 - cp) (6 * (qq.2.1 - cp)) Q (F0 m 27 ls []) := by
    intro fu
    induction fu with
    | zero => intro t qq a1 a2 a3 H locs ls lp1 lp2 hp hI hcq hW hl; exfalso; omega
    | succ fu ih =>
      intro t qq a1 a2 a3 H locs ls lp1 lp2 hp hI hcq hW hl
      have hmon := (pt_mono (SP1 := SP1) (SP2 := SP2) (en1 := en1) (en2 := en2) (wa := wa) hF1 hF2 (65537 - t) t qq hI).1
      rw [hp] at hmon
      have hsz := QI_size hI
      obtain ⟨z2, cp2, FI2, SC2, OG2, SN2⟩ := qq
      have hmon : cp2 ≤ o.2.2.2.1 := hmon
      have hsz : z2 ≤ 65537 := hsz
      have hcq : cp ≤ cp2 := hcq
      have hW : KW D k A s ((se, .inr (4, [.ref sn, .ref a1, .ref a2, .ref a3, .int (nI z2)])) :: (sn, .inl (k 1, 1024, .inr (.inl (aL SN2)))) :: (a1, .inl (k 0, cp2, .inl (aN FI2))) :: (a2, .inl (k 0, cp2, .inl (aN SC2))) :: (a3, .inl (k 0, cp2, .inl (aN OG2))) :: (wo, .inr (6, [.ref wl1, .int (nI y)])) :: (wl1, .inl (k 0, cw, .inl (aN L))) :: X) H locs := hW
      show W p l e ({ frames := 4, cells := (o.2.2.2.1 - cp + 1), slots := (6 * (o.2.2.2.1 - cp) + pn o), locals := 115 } : Room) s m [.ref se, .ref h1, .ref h2, .int (nI wa), .ref wo].toArray below meth c H locs (cp2 - cp) (6 * (cp2 - cp)) Q (F0 m 27 ls [])
      obtain ⟨⟨r1, r2, r3, r4⟩, r5, ⟨r6, r7, r8⟩, r9, r10⟩ := id hI
      have k102 : (0, 0, (z2, cp2, FI2, SC2, OG2, SN2)) = o → W p l e ({ frames := 4, cells := (o.2.2.2.1 - cp + 1), slots := (6 * (o.2.2.2.1 - cp) + pn o), locals := 115 } : Room) s m [.ref se, .ref h1, .ref h2, .int (nI wa), .ref wo].toArray below meth c H locs (cp2 - cp) (6 * (cp2 - cp)) Q (F0 m 102 ls []) := by
        intro hoe
        subst hoe
        refine lv_aload hX.1 hX.2.1 d_Se_part_102 (lv_at hl 1 rfl) ?_
        refine lv_iconst (v := nI 0) hX.1 hX.2.1 d_Se_part_104 (by decide) ?_
        refine kCv (wc := [(wo, .inr (6, [.ref wl1, .int (nI y)])), (wl1, .inl (k 0, cw, .inl (aN L)))]) hW [5, 6] (by rfl) (by intro _; rfl) (kRunV (n := 1) (As := [.int (nI 0)]) (rest := []) hX hml hW (ok_Wo_resize l D k H.size wo wl1 L y cw 0 (by decide) hcw) m_Se_58 im_Wo_resize se_Wo_resize in_Wo cd_Wo_resize [5, 6] rfl rfl rfl rfl (by decide +kernel) ⟨rfl, rfl, Nat.le_of_ble_eq_true rfl, Nat.le_of_ble_eq_true rfl⟩ rfl hl.1 rfl (Nat.le_of_ble_eq_true rfl) d_Se_part_105 ⟨by first | exact Nat.zero_le _ | decide | omega | (dsimp only; omega), by first | exact Nat.zero_le _ | decide | omega | (dsimp only; omega)⟩) (fun u H locs _ hW => ?_)
        have hW : KW D k A s ((se, .inr (4, [.ref sn, .ref a1, .ref a2, .ref a3, .int (nI z2)])) :: (sn, .inl (k 1, 1024, .inr (.inl (aL SN2)))) :: (a1, .inl (k 0, cp2, .inl (aN FI2))) :: (a2, .inl (k 0, cp2, .inl (aN SC2))) :: (a3, .inl (k 0, cp2, .inl (aN OG2))) :: (wo, .inr (6, [.ref u, .int (nI 0)])) :: (u, .inl (k 0, (if 0 ≤ cw then cw else 0), .inl (aN (if 0 ≤ cw then L else fun _ => 0)))) :: X) H locs := hW
        refine W.widen (k := cp2 - cp + 1) (n := 6 * (cp2 - cp) + 0) (by omega) (by omega) ?_
        refine lv_iconst (v := nI 0) hX.1 hX.2.1 d_Se_part_108 (by decide) ?_
        exact kiret hX hr hlocks hQ ((a1, a2, a3), u) (hW) (rfl) d_Se_part_109
      refine lv_iload hX.1 hX.2.1 d_Se_part_27 (lv_at hl 0 rfl) ?_
      refine lv_aload_n hX.1 hX.2.1 d_Se_part_29 rfl (lv_at hl 5 rfl) ?_
      refine kget hX hW i_Se 0 rfl rfl 4 (by decide) f_Se_25 rfl rfl d_Se_part_30 ?_
      refine kge hX (tgt := 102) (by omega) (by omega) d_Se_part_33 (by decide) (fun hA1 => ?_) (fun hA1 => ?_)
      · exact k102 (by rw [← hp]; cases 65537 - t with | zero => rfl | succ r => rw [pt, if_neg (by show ¬ t < z2; omega)])
      · refine lv_iload hX.1 hX.2.1 d_Se_part_36 (lv_at hl 0 rfl) ?_
        refine lv_ldc hX.1 hX.2.1 hX.2.2.1 (hX.2.2.2 _ co_Se_41) d_Se_part_38 ?_
        refine tpi (y := nI 65537) (by decide +kernel) ?_
        refine kge hX (tgt := 102) (by omega) (by omega) d_Se_part_40 (by decide) (fun hA2 => ?_) (fun hA2 => ?_)
        · omega
        · have hft : FI2 t < 512 := by rcases Nat.eq_zero_or_pos t with q | q; (subst q; omega); (have := (r9 t q hA1).1; omega)
          have hst : SC2 t < 512 := by rcases Nat.eq_zero_or_pos t with q | q; (subst q; omega); (have := (r9 t q hA1).2.1; omega)
          refine lv_aload_n hX.1 hX.2.1 d_Se_part_43 rfl (lv_at hl 4 rfl) ?_
          refine lv_aload_n hX.1 hX.2.1 d_Se_part_44 rfl (lv_at hl 5 rfl) ?_
          refine kget hX hW i_Se 0 rfl rfl 1 (by decide) f_Se_15 rfl rfl d_Se_part_45 ?_
          refine lv_iload hX.1 hX.2.1 d_Se_part_48 (lv_at hl 0 rfl) ?_
          refine kiald hX hW 2 rfl (by omega) (by first | decide | omega) d_Se_part_50 ?_
          refine kCiR (wc := [(h1, .inr (0, [.ref f1, .ref g1, .int (nI en1), .int (nI n1)])), (f1, .inl (k 0, 9, .inl (aN FO1))), (g1, .inl (k 0, 4, .inl (aN SP1)))]) hW [p1 + 7, p1 + 1 + 7, p1 + 2 + 7] (by show [X[p1]?, X[p1 + 1]?, X[p1 + 2]?] = _; rw [E1.1, E1.2.1, E1.2.2]; rfl) (kRunV (n := 1) (As := [.int (nI (FI2 t))]) (rest := []) hX hml hW (ok_Ex_accepts l D k H.size h1 f1 g1 FO1 SP1 en1 n1 (FI2 t) hft he1) m_Se_42 im_Ex_accepts se_Ex_accepts in_Ex cd_Ex_accepts [p1 + 7, p1 + 1 + 7, p1 + 2 + 7] (by simp [va_nd] <;> omega) (by show [X[p1]?, X[p1 + 1]?, X[p1 + 2]?] = _; rw [E1.1, E1.2.1, E1.2.2]; rfl) rfl rfl (by decide +kernel) ⟨rfl, rfl, Nat.le_of_ble_eq_true rfl, Nat.le_of_ble_eq_true rfl⟩ rfl hl.1 rfl (Nat.le_of_ble_eq_true rfl) d_Se_part_51 ⟨by dsimp only; omega, by dsimp only; omega⟩) (fun r u H locs hr1 hW => ?_)
          subst hr1
          rw [tl_if]
          refine lv_aload_n hX.1 hX.2.1 d_Se_part_54 rfl (lv_at hl 3 rfl) ?_
          refine lv_aload_n hX.1 hX.2.1 d_Se_part_55 rfl (lv_at hl 5 rfl) ?_
          refine kget hX hW i_Se 0 rfl rfl 2 (by decide) f_Se_19 rfl rfl d_Se_part_56 ?_
          refine lv_iload hX.1 hX.2.1 d_Se_part_59 (lv_at hl 0 rfl) ?_
          refine kiald hX hW 3 rfl (by omega) (by first | decide | omega) d_Se_part_61 ?_
          refine kCiR (wc := [(h2, .inr (0, [.ref f2, .ref g2, .int (nI en2), .int (nI n2)])), (f2, .inl (k 0, 9, .inl (aN FO2))), (g2, .inl (k 0, 4, .inl (aN SP2)))]) hW [p2 + 7, p2 + 1 + 7, p2 + 2 + 7] (by show [X[p2]?, X[p2 + 1]?, X[p2 + 2]?] = _; rw [E2.1, E2.2.1, E2.2.2]; rfl) (kRunV (n := 1) (As := [.int (nI (SC2 t))]) (rest := [.int (nI ((tl (FI2 t) en1).toNat))]) hX hml hW (ok_Ex_accepts l D k H.size h2 f2 g2 FO2 SP2 en2 n2 (SC2 t) hst he2) m_Se_42 im_Ex_accepts se_Ex_accepts in_Ex cd_Ex_accepts [p2 + 7, p2 + 1 + 7, p2 + 2 + 7] (by simp [va_nd] <;> omega) (by show [X[p2]?, X[p2 + 1]?, X[p2 + 2]?] = _; rw [E2.1, E2.2.1, E2.2.2]; rfl) rfl rfl (by decide +kernel) ⟨rfl, rfl, Nat.le_of_ble_eq_true rfl, Nat.le_of_ble_eq_true rfl⟩ rfl hl.1 rfl (Nat.le_of_ble_eq_true rfl) d_Se_part_62 ⟨by dsimp only; omega, by dsimp only; omega⟩) (fun r u H locs hr1 hW => ?_)
          subst hr1
          rw [tl_if]
          refine kCi (wc := []) hW [] (by rfl) (by intro _; rfl) (kRunS (n := 2) (As := [.int (nI ((tl (FI2 t) en1).toNat)), .int (nI ((tl (SC2 t) en2).toNat))]) (rest := []) hX hml hW (ok_Se_whoAlone l D k H.size (tl (FI2 t) en1) (tl (SC2 t) en2)) m_Se_46 sm_Se_whoAlone in_Se cd_Se_whoAlone [] rfl rfl (by decide +kernel) ⟨rfl, rfl, Nat.le_of_ble_eq_true rfl, Nat.le_of_ble_eq_true rfl⟩ rfl hl.1 rfl (Nat.le_of_ble_eq_true rfl) d_Se_part_65 ⟨by first | exact Nat.zero_le _ | decide | omega | (dsimp only; omega), by first | exact Nat.zero_le _ | decide | omega | (dsimp only; omega)⟩) (fun r u H locs hr1 hW => ?_)
          have hW : KW D k A s ((se, .inr (4, [.ref sn, .ref a1, .ref a2, .ref a3, .int (nI z2)])) :: (sn, .inl (k 1, 1024, .inr (.inl (aL SN2)))) :: (a1, .inl (k 0, cp2, .inl (aN FI2))) :: (a2, .inl (k 0, cp2, .inl (aN SC2))) :: (a3, .inl (k 0, cp2, .inl (aN OG2))) :: (wo, .inr (6, [.ref wl1, .int (nI y)])) :: (wl1, .inl (k 0, cw, .inl (aN L))) :: X) H locs := hW
          subst hr1
          rw [show 65537 - t = (65537 - (t + 1)) + 1 by omega, pt, if_pos hA1] at hp
          have hp : (if who (tl (FI2 t) en1) (tl (SC2 t) en2) &&& wa = 0 then pt FO1 SP1 FO2 SP2 en1 en2 wa (65537 - (t + 1)) (t + 1) (gi SP1 SP2 (onw FO1 (FI2 t) 9) (onw FO2 (SC2 t) 9) t (z2, cp2, FI2, SC2, OG2, SN2) 4) else (who (tl (FI2 t) en1) (tl (SC2 t) en2) &&& wa, t, (z2, cp2, FI2, SC2, OG2, SN2))) = o := hp
          have hwh := who_le (tl (FI2 t) en1) (tl (SC2 t) en2)
          show W p l e ({ frames := 4, cells := (o.2.2.2.1 - cp + 1), slots := (6 * (o.2.2.2.1 - cp) + pn o), locals := 115 } : Room) s m [.ref se, .ref h1, .ref h2, .int (nI wa), .ref wo].toArray below meth c H locs (cp2 - cp) (6 * (cp2 - cp)) Q (F0 m 68 ls [.int (nI (who (tl (FI2 t) en1) (tl (SC2 t) en2)))])
          generalize who (tl (FI2 t) en1) (tl (SC2 t) en2) = wh at hwh hp ⊢
          have hal : wh &&& wa ≤ wh := Nat.and_le_left
          refine lv_iload_n hX.1 hX.2.1 d_Se_part_68 rfl (lv_at hl 2 rfl) ?_
          refine lv_iand hX.1 hX.2.1 d_Se_part_69 ?_
          refine tpi (y := nI (wh &&& wa)) (kn_and _ _) ?_
          refine lv_istore (lv' := [(6, .int (nI (wh &&& wa))), (5, .int (nI t)), (4, .ref wo), (3, .int (nI wa)), (2, .ref h2), (1, .ref h1), (0, .ref se)]) hX.1 hX.2.1 d_Se_part_70 hl (by decide) rfl (fun ls hl => ?_)
          refine lv_iload hX.1 hX.2.1 d_Se_part_72 (lv_at hl 0 rfl) ?_
          refine kz hX (tgt := 88) (by omega) d_Se_part_74 (by decide) (fun hA3 => ?_) (fun hA3 => ?_)
          · rw [if_pos hA3] at hp
            refine lv_aload_n hX.1 hX.2.1 d_Se_part_88 rfl (lv_at hl 6 rfl) ?_
            refine lv_iload hX.1 hX.2.1 d_Se_part_89 (lv_at hl 1 rfl) ?_
            refine lv_aload_n hX.1 hX.2.1 d_Se_part_91 rfl (lv_at hl 5 rfl) ?_
            refine lv_aload_n hX.1 hX.2.1 d_Se_part_92 rfl (lv_at hl 4 rfl) ?_
            have gok := gi_ok (SP1 := SP1) (SP2 := SP2) (q := (z2, cp2, FI2, SC2, OG2, SN2)) (onw_lt (S := FI2 t) hF1 9 (Nat.le_refl _)) (onw_lt (S := SC2 t) hF2 9 (Nat.le_refl _)) hA1 hI 4 (Nat.le_refl _)
            have hmon2 := (pt_mono (SP1 := SP1) (SP2 := SP2) (en1 := en1) (en2 := en2) (wa := wa) hF1 hF2 (65537 - (t + 1)) (t + 1) _ gok.1).1
            rw [hp] at hmon2
            have hM := ok_Se_goOn l D k H.size se sn a1 a2 a3 SN2 FI2 SC2 OG2 z2 cp2 ((wo, .inr (6, [.ref wl1, .int (nI y)])) :: (wl1, .inl (k 0, cw, .inl (aN L))) :: X) (p1 + 2) h1 f1 g1 FO1 SP1 en1 n1 (exAt_2 _ _ E1) (p2 + 2) h2 f2 g2 FO2 SP2 en2 n2 (exAt_2 _ _ E2) t hA1 hI hF1 hF2
            obtain ⟨qn, hqn⟩ : ∃ qn, gi SP1 SP2 (onw FO1 (FI2 t) 9) (onw FO2 (SC2 t) 9) t (z2, cp2, FI2, SC2, OG2, SN2) 4 = qn := ⟨_, rfl⟩
            rw [hqn] at hp gok hmon2 hM
            have g3 : cp2 ≤ qn.2.1 := gok.2.2
            refine kWv hW (kRunW (n := 3) (As := [.int (nI t), .ref h1, .ref h2]) (rest := []) hX hml hW hM m_Se_54 im_Se_goOn se_Se_goOn in_Se cd_Se_goOn 0 rfl rfl (by decide +kernel) ⟨rfl, rfl, Nat.le_of_ble_eq_true rfl, Nat.le_of_ble_eq_true rfl⟩ rfl hl.1 rfl (Nat.le_of_ble_eq_true rfl) d_Se_part_93 ⟨by dsimp only; omega, by dsimp only; omega⟩) (fun u H locs _ hW => ?_)
            refine W.widen (k := qn.2.1 - cp) (n := 6 * (qn.2.1 - cp)) (by omega) (by omega) ?_
            refine lv_iinc (v := nI (t + 1)) (lv' := [(5, .int (nI (t + 1))), (6, .int (nI (wh &&& wa))), (4, .ref wo), (3, .int (nI wa)), (2, .ref h2), (1, .ref h1), (0, .ref se)]) hX.1 hX.2.1 d_Se_part_96 hl (k := 1) rfl (kn_inc _) (by decide) rfl (fun ls hl => ?_)
            refine lv_goto (tgt := 27) hX.1 hX.2.1 d_Se_part_99 (by decide) ?_
            exact ih (t + 1) qn u.1 u.2.1 u.2.2 H locs ls (by omega) (by omega) hp gok.1 (by omega) hW (lv_sub hl [0, 2, 3, 4, 5, 6] rfl)
          · rw [if_neg hA3] at hp
            subst hp
            refine lv_aload_n hX.1 hX.2.1 d_Se_part_77 rfl (lv_at hl 6 rfl) ?_
            refine lv_iload hX.1 hX.2.1 d_Se_part_78 (lv_at hl 1 rfl) ?_
            refine lv_aload hX.1 hX.2.1 d_Se_part_80 (lv_at hl 2 rfl) ?_
            have hpn : pn (wh &&& wa, t, (z2, cp2, FI2, SC2, OG2, SN2)) = wl OG2 z2 t := by unfold pn; rw [if_neg hA3]
            have hMs := ok_Se_spellWay l D k H.size se sn a1 a2 a3 SN2 FI2 SC2 OG2 z2 cp2 wo wl1 L y cw t hA1 r2 (by omega) hcw (fun j h3 h4 => (r9 j h3 h4).2.2.2.1) (fun j h4 => by rcases Nat.eq_zero_or_pos j with q | q; (subst q; omega); (exact (r9 j q h4).2.2.2.2)) r8
            rw [← hpn] at hMs
            have hW7 := hW
            refine kCv (wc := [(se, .inr (4, [.ref sn, .ref a1, .ref a2, .ref a3, .int (nI z2)])), (sn, .inl (k 1, 1024, .inr (.inl (aL SN2)))), (a1, .inl (k 0, cp2, .inl (aN FI2))), (a2, .inl (k 0, cp2, .inl (aN SC2))), (a3, .inl (k 0, cp2, .inl (aN OG2))), (wo, .inr (6, [.ref wl1, .int (nI y)])), (wl1, .inl (k 0, cw, .inl (aN L)))]) hW [0, 1, 2, 3, 4, 5, 6] (by rfl) (by intro _; rfl) (kRunV (n := 2) (As := [.int (nI t), .ref wo]) (rest := []) hX hml hW hMs m_Se_50 im_Se_spellWay se_Se_spellWay in_Se cd_Se_spellWay [0, 1, 2, 3, 4, 5, 6] (by rfl) (by rfl) rfl rfl (by decide +kernel) ⟨rfl, rfl, Nat.le_of_ble_eq_true rfl, Nat.le_of_ble_eq_true rfl⟩ rfl hl.1 rfl (Nat.le_of_ble_eq_true rfl) d_Se_part_82 ⟨by dsimp only; omega, by dsimp only; omega⟩) (fun u H locs _ hW => ?_)
            refine W.widen (k := cp2 - cp + 1) (n := 6 * (cp2 - cp) + pn (wh &&& wa, t, (z2, cp2, FI2, SC2, OG2, SN2))) (by omega) (by omega) ?_
            refine lv_iload hX.1 hX.2.1 d_Se_part_85 (lv_at hl 0 rfl) ?_
            exact kiret hX hr hlocks hQ ((a1, a2, a3), u) (hW) (rfl) d_Se_part_87
  exact lp 65538 0 (pq0 cp FI SC OG) fi sc og H locs ls (by omega) (by omega) ho (QI_0 h64 hcp) (Nat.le_refl _) hW (lv_sub hl [0, 5, 4, 3, 2, 1] rfl)
end
