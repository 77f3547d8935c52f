/-- every word of the tables that stays true while the machine runs -/
def wsU : List Cond := lw_tbl.filter goodWord
theorem wU_t {w : Cond} (i : Nat) (h : tables_1[i]? = some w) (g : goodWord w = true) : w ∈ wsU := List.mem_filter.mpr ⟨List.mem_append_right _ (List.mem_of_getElem? h), g⟩
theorem wU_p {w : Cond} (i : Nat) (h : (k2_sels lw_privs)[i]? = some w) (g : goodWord w = true) : w ∈ wsU := List.mem_filter.mpr ⟨List.mem_append_left _ (List.mem_of_getElem? h), g⟩
theorem wU_good {w : Cond} (h : w ∈ wsU) : (w.onTables && w.keeps) = true ∨ ∃ ty, w = .arrayClass ty := good_of_word (List.mem_filter.mp h).2
theorem wU_in {w : Cond} (h : w ∈ wsU) : w ∈ lw_tbl := (List.mem_filter.mp h).1
theorem wU_g {c1 c2 : Cond} (h : c2 ∈ wsU) : GoodIn (c1 :: wsU) (c2 :: wsU) := fun w hw => (List.mem_cons.mp hw).elim (fun e => by subst e; exact ⟨List.mem_cons_of_mem _ h, wU_good h⟩) (fun k => ⟨List.mem_cons_of_mem _ k, wU_good k⟩)
theorem wU_gT {c2 : Cond} (h : c2 ∈ wsU) : GoodIn wsU (c2 :: wsU) := fun w hw => (List.mem_cons.mp hw).elim (fun e => by subst e; exact ⟨h, wU_good h⟩) (fun k => ⟨k, wU_good k⟩)
theorem wU_gV {own C : String} {idx : Nat} {y : MethodName} {c1 c2 : Cond} (h1 : Cond.methodLink own idx y ∈ wsU) (h2 : Cond.instanceMethod y ∈ wsU) (h3 : Cond.selects C y y ∈ wsU) (h4 : Cond.initialized C ∈ wsU) (h : c2 ∈ wsU) : GoodIn (c1 :: wsU) (wsV own idx C y (c2 :: wsU)) := by
  intro w hw
  rcases List.mem_append.mp (show w ∈ ([.methodLink own idx y, .instanceMethod y, .selects C y y, .initialized C] : List Cond) ++ (c2 :: wsU) from hw) with k | k
  · simp only [List.mem_cons, List.not_mem_nil, or_false] at k
    rcases k with rfl | rfl | rfl | rfl
    · exact ⟨List.mem_cons_of_mem _ h1, wU_good h1⟩
    · exact ⟨List.mem_cons_of_mem _ h2, wU_good h2⟩
    · exact ⟨List.mem_cons_of_mem _ h3, wU_good h3⟩
    · exact ⟨List.mem_cons_of_mem _ h4, wU_good h4⟩
  · exact wU_g h w k
theorem wU_gS {own : String} {idx : Nat} {y : MethodName} {c1 c2 : Cond} (h1 : Cond.methodLink own idx y ∈ wsU) (h2 : Cond.static y ∈ wsU) (h4 : Cond.initialized own ∈ wsU) (h : c2 ∈ wsU) : GoodIn (c1 :: wsU) (wsS own idx y (c2 :: wsU)) := by
  intro w hw
  rcases List.mem_append.mp (show w ∈ ([.methodLink own idx y, .static y, .initialized own] : List Cond) ++ (c2 :: wsU) from hw) with k | k
  · simp only [List.mem_cons, List.not_mem_nil, or_false] at k
    rcases k with rfl | rfl | rfl
    · exact ⟨List.mem_cons_of_mem _ h1, wU_good h1⟩
    · exact ⟨List.mem_cons_of_mem _ h2, wU_good h2⟩
    · exact ⟨List.mem_cons_of_mem _ h4, wU_good h4⟩
  · exact wU_g h w k
def R_Ex : String := "WordSets$Expression"
def R_Ma : String := "WordSets$Machine"
def R_Pr : String := "WordSets$Parser"
def R_Pt : String := "WordSets$Part"
def R_Se : String := "WordSets$Search"
def R_Ta : String := "WordSets$Tape"
def R_Wo : String := "WordSets$Word"
def R_Ws : String := "WordSets"
def R_Md : String := "WordSetsModel"
def R_Lw : String := "WordSetsLaw"
def R_Ar : String := "java/util/Arrays"
def R_Mt : String := "java/lang/Math"
def R_Sy : String := "java/lang/System"
def T_Ex : u_T := fun k => match k with
  | 0 => ("WordSets$Expression", "follow", "[I", true)
  | 1 => ("WordSets$Expression", "spelt", "[I", true)
  | 2 => ("WordSets$Expression", "ends", "I", false)
  | _ => ("WordSets$Expression", "letters", "I", false)
def t_Ex : Nat → FieldType := fun k => match k with
  | 0 => .array .int
  | 1 => .array .int
  | 2 => .int
  | _ => .int
theorem n_Ex : ∀ a, a < 4 → ∀ b, b < 4 → a ≠ b → (T_Ex a).2.1 ≠ (T_Ex b).2.1 := by decide +kernel
theorem t_Ex_ok : ∀ k, k < 4 → parseFieldDescriptor (T_Ex k).2.2.1 = some (t_Ex k) := by decide +kernel
theorem i_Ex : ∀ w ∈ u_ws R_Ex T_Ex 4, w ∈ wsU := by
  intro w hw
  have e : u_ws R_Ex T_Ex 4 = [58, 60, 62, 64].filterMap (fun i => tables_1[i]?) := by decide +kernel
  have g : (u_ws R_Ex T_Ex 4).all goodWord = true := by decide +kernel
  have g2 := List.all_eq_true.mp g w hw
  rw [e] at hw
  obtain ⟨i, -, hi⟩ := List.mem_filterMap.mp hw
  exact wU_t i hi g2
def T_Ma : u_T := fun k => match k with
  | 0 => ("WordSets$Machine", "sets", "[I", true)
  | 1 => ("WordSets$Machine", "numbers", "[I", true)
  | 2 => ("WordSets$Machine", "next", "[I", true)
  | 3 => ("WordSets$Machine", "accepting", "[I", true)
  | 4 => ("WordSets$Machine", "group", "[I", true)
  | 5 => ("WordSets$Machine", "finer", "[I", true)
  | 6 => ("WordSets$Machine", "tallies", "[J", true)
  | _ => ("WordSets$Machine", "size", "I", false)
def t_Ma : Nat → FieldType := fun k => match k with
  | 0 => .array .int
  | 1 => .array .int
  | 2 => .array .int
  | 3 => .array .int
  | 4 => .array .int
  | 5 => .array .int
  | 6 => .array .long
  | _ => .int
theorem n_Ma : ∀ a, a < 8 → ∀ b, b < 8 → a ≠ b → (T_Ma a).2.1 ≠ (T_Ma b).2.1 := by decide +kernel
theorem t_Ma_ok : ∀ k, k < 8 → parseFieldDescriptor (T_Ma k).2.2.1 = some (t_Ma k) := by decide +kernel
theorem i_Ma : ∀ w ∈ u_ws R_Ma T_Ma 8, w ∈ wsU := by
  intro w hw
  have e : u_ws R_Ma T_Ma 8 = [126, 128, 130, 132, 134, 136, 138, 140].filterMap (fun i => tables_1[i]?) := by decide +kernel
  have g : (u_ws R_Ma T_Ma 8).all goodWord = true := by decide +kernel
  have g2 := List.all_eq_true.mp g w hw
  rw [e] at hw
  obtain ⟨i, -, hi⟩ := List.mem_filterMap.mp hw
  exact wU_t i hi g2
def T_Pr : u_T := fun k => match k with
  | 0 => ("WordSets$Parser", "sums", "[LWordSets$Part;", true)
  | 1 => ("WordSets$Parser", "rows", "[LWordSets$Part;", true)
  | 2 => ("WordSets$Parser", "factor", "LWordSets$Part;", true)
  | 3 => ("WordSets$Parser", "factorWaits", "Z", false)
  | _ => ("WordSets$Parser", "depth", "I", false)
def t_Pr : Nat → FieldType := fun k => match k with
  | 0 => .array (.object "WordSets$Part")
  | 1 => .array (.object "WordSets$Part")
  | 2 => .object "WordSets$Part"
  | 3 => .boolean
  | _ => .int
theorem n_Pr : ∀ a, a < 5 → ∀ b, b < 5 → a ≠ b → (T_Pr a).2.1 ≠ (T_Pr b).2.1 := by decide +kernel
theorem t_Pr_ok : ∀ k, k < 5 → parseFieldDescriptor (T_Pr k).2.2.1 = some (t_Pr k) := by decide +kernel
theorem i_Pr : ∀ w ∈ u_ws R_Pr T_Pr 5, w ∈ wsU := by
  intro w hw
  have e : u_ws R_Pr T_Pr 5 = [101, 103, 105, 107, 109].filterMap (fun i => tables_1[i]?) := by decide +kernel
  have g : (u_ws R_Pr T_Pr 5).all goodWord = true := by decide +kernel
  have g2 := List.all_eq_true.mp g w hw
  rw [e] at hw
  obtain ⟨i, -, hi⟩ := List.mem_filterMap.mp hw
  exact wU_t i hi g2
def T_Pt : u_T := fun k => match k with
  | 0 => ("WordSets$Part", "first", "I", false)
  | 1 => ("WordSets$Part", "last", "I", false)
  | _ => ("WordSets$Part", "empty", "Z", false)
def t_Pt : Nat → FieldType := fun k => match k with
  | 0 => .int
  | 1 => .int
  | _ => .boolean
theorem n_Pt : ∀ a, a < 3 → ∀ b, b < 3 → a ≠ b → (T_Pt a).2.1 ≠ (T_Pt b).2.1 := by decide +kernel
theorem t_Pt_ok : ∀ k, k < 3 → parseFieldDescriptor (T_Pt k).2.2.1 = some (t_Pt k) := by decide +kernel
theorem i_Pt : ∀ w ∈ u_ws R_Pt T_Pt 3, w ∈ wsU := by
  intro w hw
  have e : u_ws R_Pt T_Pt 3 = [89, 91, 93].filterMap (fun i => tables_1[i]?) := by decide +kernel
  have g : (u_ws R_Pt T_Pt 3).all goodWord = true := by decide +kernel
  have g2 := List.all_eq_true.mp g w hw
  rw [e] at hw
  obtain ⟨i, -, hi⟩ := List.mem_filterMap.mp hw
  exact wU_t i hi g2
def T_Se : u_T := fun k => match k with
  | 0 => ("WordSets$Search", "seen", "[J", true)
  | 1 => ("WordSets$Search", "firsts", "[I", false)
  | 2 => ("WordSets$Search", "seconds", "[I", false)
  | 3 => ("WordSets$Search", "origins", "[I", false)
  | _ => ("WordSets$Search", "size", "I", false)
def t_Se : Nat → FieldType := fun k => match k with
  | 0 => .array .long
  | 1 => .array .int
  | 2 => .array .int
  | 3 => .array .int
  | _ => .int
theorem n_Se : ∀ a, a < 5 → ∀ b, b < 5 → a ≠ b → (T_Se a).2.1 ≠ (T_Se b).2.1 := by decide +kernel
theorem t_Se_ok : ∀ k, k < 5 → parseFieldDescriptor (T_Se k).2.2.1 = some (t_Se k) := by decide +kernel
theorem i_Se : ∀ w ∈ u_ws R_Se T_Se 5, w ∈ wsU := by
  intro w hw
  have e : u_ws R_Se T_Se 5 = [155, 157, 159, 161, 163].filterMap (fun i => tables_1[i]?) := by decide +kernel
  have g : (u_ws R_Se T_Se 5).all goodWord = true := by decide +kernel
  have g2 := List.all_eq_true.mp g w hw
  rw [e] at hw
  obtain ⟨i, -, hi⟩ := List.mem_filterMap.mp hw
  exact wU_t i hi g2
def T_Ta : u_T := fun k => match k with
  | 0 => ("WordSets$Tape", "bytes", "[I", true)
  | _ => ("WordSets$Tape", "size", "I", false)
def t_Ta : Nat → FieldType := fun k => match k with
  | 0 => .array .int
  | _ => .int
theorem n_Ta : ∀ a, a < 2 → ∀ b, b < 2 → a ≠ b → (T_Ta a).2.1 ≠ (T_Ta b).2.1 := by decide +kernel
theorem t_Ta_ok : ∀ k, k < 2 → parseFieldDescriptor (T_Ta k).2.2.1 = some (t_Ta k) := by decide +kernel
theorem i_Ta : ∀ w ∈ u_ws R_Ta T_Ta 2, w ∈ wsU := by
  intro w hw
  have e : u_ws R_Ta T_Ta 2 = [37, 39].filterMap (fun i => tables_1[i]?) := by decide +kernel
  have g : (u_ws R_Ta T_Ta 2).all goodWord = true := by decide +kernel
  have g2 := List.all_eq_true.mp g w hw
  rw [e] at hw
  obtain ⟨i, -, hi⟩ := List.mem_filterMap.mp hw
  exact wU_t i hi g2
def T_Wo : u_T := fun k => match k with
  | 0 => ("WordSets$Word", "letters", "[I", false)
  | _ => ("WordSets$Word", "size", "I", false)
def t_Wo : Nat → FieldType := fun k => match k with
  | 0 => .array .int
  | _ => .int
theorem n_Wo : ∀ a, a < 2 → ∀ b, b < 2 → a ≠ b → (T_Wo a).2.1 ≠ (T_Wo b).2.1 := by decide +kernel
theorem t_Wo_ok : ∀ k, k < 2 → parseFieldDescriptor (T_Wo k).2.2.1 = some (t_Wo k) := by decide +kernel
theorem i_Wo : ∀ w ∈ u_ws R_Wo T_Wo 2, w ∈ wsU := by
  intro w hw
  have e : u_ws R_Wo T_Wo 2 = [178, 180].filterMap (fun i => tables_1[i]?) := by decide +kernel
  have g : (u_ws R_Wo T_Wo 2).all goodWord = true := by decide +kernel
  have g2 := List.all_eq_true.mp g w hw
  rw [e] at hw
  obtain ⟨i, -, hi⟩ := List.mem_filterMap.mp hw
  exact wU_t i hi g2
def T_Ws : u_T := fun k => match k with
  | 0 => ("WordSets", "tape", "LWordSets$Tape;", true)
  | 1 => ("WordSets", "slots", "[LWordSets$Expression;", true)
  | 2 => ("WordSets", "nothing", "LWordSets$Expression;", true)
  | 3 => ("WordSets", "parser", "LWordSets$Parser;", true)
  | 4 => ("WordSets", "machine", "LWordSets$Machine;", true)
  | 5 => ("WordSets", "search", "LWordSets$Search;", true)
  | 6 => ("WordSets", "theWord", "LWordSets$Word;", true)
  | 7 => ("WordSets", "spare", "LWordSets$Expression;", false)
  | _ => ("WordSets", "wrongAt", "I", false)
def t_Ws : Nat → FieldType := fun k => match k with
  | 0 => .object "WordSets$Tape"
  | 1 => .array (.object "WordSets$Expression")
  | 2 => .object "WordSets$Expression"
  | 3 => .object "WordSets$Parser"
  | 4 => .object "WordSets$Machine"
  | 5 => .object "WordSets$Search"
  | 6 => .object "WordSets$Word"
  | 7 => .object "WordSets$Expression"
  | _ => .int
theorem n_Ws : ∀ a, a < 9 → ∀ b, b < 9 → a ≠ b → (T_Ws a).2.1 ≠ (T_Ws b).2.1 := by decide +kernel
theorem t_Ws_ok : ∀ k, k < 9 → parseFieldDescriptor (T_Ws k).2.2.1 = some (t_Ws k) := by decide +kernel
theorem i_Ws : ∀ w ∈ u_ws R_Ws T_Ws 9, w ∈ wsU := by
  intro w hw
  have e : u_ws R_Ws T_Ws 9 = [192, 194, 196, 198, 200, 202, 204, 206, 208].filterMap (fun i => tables_1[i]?) := by decide +kernel
  have g : (u_ws R_Ws T_Ws 9).all goodWord = true := by decide +kernel
  have g2 := List.all_eq_true.mp g w hw
  rw [e] at hw
  obtain ⟨i, -, hi⟩ := List.mem_filterMap.mp hw
  exact wU_t i hi g2
def T_Md : u_T := fun k => match k with
  | 0 => ("WordSetsModel", "thrown", "I", false)
  | 1 => ("WordSetsModel", "taped", "I", false)
  | 2 => ("WordSetsModel", "tape", "[I", true)
  | 3 => ("WordSetsModel", "place", "I", false)
  | 4 => ("WordSetsModel", "many", "[I", true)
  | 5 => ("WordSetsModel", "letter", "[I", true)
  | 6 => ("WordSetsModel", "first", "[I", true)
  | 7 => ("WordSetsModel", "last", "[I", true)
  | 8 => ("WordSetsModel", "follow", "[I", true)
  | 9 => ("WordSetsModel", "empty", "[Z", true)
  | 10 => ("WordSetsModel", "size", "I", false)
  | 11 => ("WordSetsModel", "word", "[I", true)
  | 12 => ("WordSetsModel", "at", "I", false)
  | 13 => ("WordSetsModel", "wrong", "I", false)
  | 14 => ("WordSetsModel", "depth", "I", false)
  | 15 => ("WordSetsModel", "parts", "I", false)
  | 16 => ("WordSetsModel", "partEmpty", "[Z", true)
  | 17 => ("WordSetsModel", "partFirst", "[I", true)
  | 18 => ("WordSetsModel", "partLast", "[I", true)
  | 19 => ("WordSetsModel", "letters", "I", false)
  | 20 => ("WordSetsModel", "newLetter", "[I", true)
  | 21 => ("WordSetsModel", "newFollow", "[I", true)
  | 22 => ("WordSetsModel", "found", "[I", true)
  | 23 => ("WordSetsModel", "from", "[I", true)
  | 24 => ("WordSetsModel", "by", "[I", true)
  | 25 => ("WordSetsModel", "known", "[Z", true)
  | 26 => ("WordSetsModel", "ways", "[J", true)
  | 27 => ("WordSetsModel", "part", "[I", true)
  | 28 => ("WordSetsModel", "newPart", "[I", true)
  | 29 => ("WordSetsModel", "sumOf", "[I", true)
  | _ => ("WordSetsModel", "rowOf", "[I", true)
def t_Md : Nat → FieldType := fun k => match k with
  | 0 => .int
  | 1 => .int
  | 2 => .array .int
  | 3 => .int
  | 4 => .array .int
  | 5 => .array .int
  | 6 => .array .int
  | 7 => .array .int
  | 8 => .array .int
  | 9 => .array .boolean
  | 10 => .int
  | 11 => .array .int
  | 12 => .int
  | 13 => .int
  | 14 => .int
  | 15 => .int
  | 16 => .array .boolean
  | 17 => .array .int
  | 18 => .array .int
  | 19 => .int
  | 20 => .array .int
  | 21 => .array .int
  | 22 => .array .int
  | 23 => .array .int
  | 24 => .array .int
  | 25 => .array .boolean
  | 26 => .array .long
  | 27 => .array .int
  | 28 => .array .int
  | 29 => .array .int
  | _ => .array .int
theorem n_Md : ∀ a, a < 31 → ∀ b, b < 31 → a ≠ b → (T_Md a).2.1 ≠ (T_Md b).2.1 := by decide +kernel
theorem t_Md_ok : ∀ k, k < 31 → parseFieldDescriptor (T_Md k).2.2.1 = some (t_Md k) := by decide +kernel
theorem i_Md : ∀ w ∈ u_ws R_Md T_Md 31, w ∈ wsU := by
  intro w hw
  have e : u_ws R_Md T_Md 31 = [650, 652, 654, 656, 658, 660, 662, 664, 666, 668, 670, 672, 674, 676, 678, 680, 682, 684, 686, 688, 690, 692, 694, 696, 698, 700, 702, 704, 706, 708, 710].filterMap (fun i => tables_1[i]?) := by decide +kernel
  have g : (u_ws R_Md T_Md 31).all goodWord = true := by decide +kernel
  have g2 := List.all_eq_true.mp g w hw
  rw [e] at hw
  obtain ⟨i, -, hi⟩ := List.mem_filterMap.mp hw
  exact wU_t i hi g2
abbrev c_Ws_init : ByteArray := prog_1_method_1_code
def y_Ws_init : MethodName := ⟨R_Ws, "<init>", "()V"⟩
abbrev c_Ta_init : ByteArray := prog_7_method_1_code
def y_Ta_init : MethodName := ⟨R_Ta, "<init>", "()V"⟩
abbrev c_Ex_init : ByteArray := prog_2_method_1_code
def y_Ex_init : MethodName := ⟨R_Ex, "<init>", "()V"⟩
abbrev c_Pr_init : ByteArray := prog_4_method_1_code
def y_Pr_init : MethodName := ⟨R_Pr, "<init>", "()V"⟩
abbrev c_Pt_init : ByteArray := prog_5_method_1_code
def y_Pt_init : MethodName := ⟨R_Pt, "<init>", "()V"⟩
abbrev c_Ma_init : ByteArray := prog_3_method_1_code
def y_Ma_init : MethodName := ⟨R_Ma, "<init>", "()V"⟩
abbrev c_Se_init : ByteArray := prog_6_method_1_code
def y_Se_init : MethodName := ⟨R_Se, "<init>", "()V"⟩
abbrev c_Wo_init : ByteArray := prog_8_method_1_code
def y_Wo_init : MethodName := ⟨R_Wo, "<init>", "()V"⟩
abbrev c_Ws_place : ByteArray := prog_1_method_4_code
def y_Ws_place : MethodName := ⟨R_Ws, "place", "()I"⟩
abbrev c_Ws_size : ByteArray := prog_1_method_13_code
def y_Ws_size : MethodName := ⟨R_Ws, "size", "()I"⟩
abbrev c_Lw_feed : ByteArray := method_3_code
def y_Lw_feed : MethodName := ⟨R_Lw, "feed", "(LWordSets;JI[J)I"⟩
abbrev c_Ws_feed : ByteArray := prog_1_method_2_code
def y_Ws_feed : MethodName := ⟨R_Ws, "feed", "(JI)I"⟩
abbrev c_Ta_append : ByteArray := prog_7_method_2_code
def y_Ta_append : MethodName := ⟨R_Ta, "append", "(JI)Z"⟩
abbrev c_Lw_read : ByteArray := method_4_code
def y_Lw_read : MethodName := ⟨R_Lw, "read", "(LWordSets;I[J)I"⟩
abbrev c_Ws_read : ByteArray := prog_1_method_3_code
def y_Ws_read : MethodName := ⟨R_Ws, "read", "(I)I"⟩
abbrev c_Ta_useUp : ByteArray := prog_7_method_3_code
def y_Ta_useUp : MethodName := ⟨R_Ta, "useUp", "()I"⟩
abbrev c_Ws_checkSlot : ByteArray := prog_1_method_15_code
def y_Ws_checkSlot : MethodName := ⟨R_Ws, "checkSlot", "(I)V"⟩
abbrev c_Pr_parse : ByteArray := prog_4_method_2_code
def y_Pr_parse : MethodName := ⟨R_Pr, "parse", "([IILWordSets$Expression;)I"⟩
abbrev c_Ex_clear : ByteArray := prog_2_method_2_code
def y_Ex_clear : MethodName := ⟨R_Ex, "clear", "()V"⟩
abbrev c_Ar_fillI : ByteArray := prog_21_method_103_code
def y_Ar_fillI : MethodName := ⟨R_Ar, "fill", "([II)V"⟩
abbrev c_Pr_beginSum : ByteArray := prog_4_method_10_code
def y_Pr_beginSum : MethodName := ⟨R_Pr, "beginSum", "()V"⟩
abbrev c_Pt_become : ByteArray := prog_5_method_2_code
def y_Pt_become : MethodName := ⟨R_Pt, "become", "(IIZ)V"⟩
abbrev c_Pr_accept : ByteArray := prog_4_method_3_code
def y_Pr_accept : MethodName := ⟨R_Pr, "accept", "(ILWordSets$Expression;)Z"⟩
abbrev c_Pr_acceptRepeat : ByteArray := prog_4_method_4_code
def y_Pr_acceptRepeat : MethodName := ⟨R_Pr, "acceptRepeat", "(ILWordSets$Expression;)Z"⟩
abbrev c_Pt_repeat : ByteArray := prog_5_method_5_code
def y_Pt_repeat : MethodName := ⟨R_Pt, "repeat", "(ILWordSets$Expression;)V"⟩
abbrev c_Ex_link : ByteArray := prog_2_method_4_code
def y_Ex_link : MethodName := ⟨R_Ex, "link", "(II)V"⟩
abbrev c_Pr_joinFactor : ByteArray := prog_4_method_9_code
def y_Pr_joinFactor : MethodName := ⟨R_Pr, "joinFactor", "(LWordSets$Expression;)Z"⟩
abbrev c_Pt_addBehind : ByteArray := prog_5_method_4_code
def y_Pt_addBehind : MethodName := ⟨R_Pt, "addBehind", "(LWordSets$Part;LWordSets$Expression;)V"⟩
abbrev c_Pr_acceptLetter : ByteArray := prog_4_method_5_code
def y_Pr_acceptLetter : MethodName := ⟨R_Pr, "acceptLetter", "(ILWordSets$Expression;)Z"⟩
abbrev c_Ex_addLetter : ByteArray := prog_2_method_3_code
def y_Ex_addLetter : MethodName := ⟨R_Ex, "addLetter", "(I)I"⟩
abbrev c_Pr_setFactor : ByteArray := prog_4_method_8_code
def y_Pr_setFactor : MethodName := ⟨R_Pr, "setFactor", "(IIZ)V"⟩
abbrev c_Pr_acceptOpening : ByteArray := prog_4_method_6_code
def y_Pr_acceptOpening : MethodName := ⟨R_Pr, "acceptOpening", "()Z"⟩
abbrev c_Pr_acceptClosing : ByteArray := prog_4_method_7_code
def y_Pr_acceptClosing : MethodName := ⟨R_Pr, "acceptClosing", "()Z"⟩
abbrev c_Pr_endRow : ByteArray := prog_4_method_11_code
def y_Pr_endRow : MethodName := ⟨R_Pr, "endRow", "()V"⟩
abbrev c_Pt_addAlternative : ByteArray := prog_5_method_3_code
def y_Pt_addAlternative : MethodName := ⟨R_Pt, "addAlternative", "(LWordSets$Part;)V"⟩
abbrev c_Ex_setWhole : ByteArray := prog_2_method_5_code
def y_Ex_setWhole : MethodName := ⟨R_Ex, "setWhole", "(LWordSets$Part;)V"⟩
abbrev c_Ws_putSpare : ByteArray := prog_1_method_17_code
def y_Ws_putSpare : MethodName := ⟨R_Ws, "putSpare", "(I)V"⟩
abbrev c_Lw_has : ByteArray := method_5_code
def y_Lw_has : MethodName := ⟨R_Lw, "has", "(LWordSets;I[J)I"⟩
abbrev c_Ws_has : ByteArray := prog_1_method_5_code
def y_Ws_has : MethodName := ⟨R_Ws, "has", "(I)Z"⟩
abbrev c_Ta_isWord : ByteArray := prog_7_method_4_code
def y_Ta_isWord : MethodName := ⟨R_Ta, "isWord", "(I)Z"⟩
abbrev c_Ex_step : ByteArray := prog_2_method_8_code
def y_Ex_step : MethodName := ⟨R_Ex, "step", "(II)I"⟩
abbrev c_Ex_onward : ByteArray := prog_2_method_7_code
def y_Ex_onward : MethodName := ⟨R_Ex, "onward", "(I)I"⟩
abbrev c_Ex_accepts : ByteArray := prog_2_method_6_code
def y_Ex_accepts : MethodName := ⟨R_Ex, "accepts", "(I)Z"⟩
abbrev c_Lw_compare : ByteArray := method_6_code
def y_Lw_compare : MethodName := ⟨R_Lw, "compare", "(LWordSets;II[J)I"⟩
abbrev c_Ws_compare : ByteArray := prog_1_method_6_code
def y_Ws_compare : MethodName := ⟨R_Ws, "compare", "(II)I"⟩
abbrev c_Se_part : ByteArray := prog_6_method_2_code
def y_Se_part : MethodName := ⟨R_Se, "part", "(LWordSets$Expression;LWordSets$Expression;ILWordSets$Word;)I"⟩
abbrev c_Ar_fillL : ByteArray := prog_21_method_101_code
def y_Ar_fillL : MethodName := ⟨R_Ar, "fill", "([JJ)V"⟩
abbrev c_Se_append : ByteArray := prog_6_method_6_code
def y_Se_append : MethodName := ⟨R_Se, "append", "(III)V"⟩
abbrev c_Ar_copyI : ByteArray := prog_21_method_123_code
def y_Ar_copyI : MethodName := ⟨R_Ar, "copyOf", "([II)[I"⟩
abbrev c_Mt_min : ByteArray := prog_16_method_69_code
def y_Mt_min : MethodName := ⟨R_Mt, "min", "(II)I"⟩
abbrev c_Se_whoAlone : ByteArray := prog_6_method_3_code
def y_Se_whoAlone : MethodName := ⟨R_Se, "whoAlone", "(ZZ)I"⟩
abbrev c_Se_spellWay : ByteArray := prog_6_method_7_code
def y_Se_spellWay : MethodName := ⟨R_Se, "spellWay", "(ILWordSets$Word;)V"⟩
abbrev c_Wo_resize : ByteArray := prog_8_method_2_code
def y_Wo_resize : MethodName := ⟨R_Wo, "resize", "(I)V"⟩
abbrev c_Se_goOn : ByteArray := prog_6_method_4_code
def y_Se_goOn : MethodName := ⟨R_Se, "goOn", "(ILWordSets$Expression;LWordSets$Expression;)V"⟩
abbrev c_Se_markIfNew : ByteArray := prog_6_method_5_code
def y_Se_markIfNew : MethodName := ⟨R_Se, "markIfNew", "(II)Z"⟩
abbrev c_Lw_contains : ByteArray := method_7_code
def y_Lw_contains : MethodName := ⟨R_Lw, "contains", "(LWordSets;II[J)I"⟩
abbrev c_Ws_contains : ByteArray := prog_1_method_7_code
def y_Ws_contains : MethodName := ⟨R_Ws, "contains", "(II)Z"⟩
abbrev c_Lw_least : ByteArray := method_8_code
def y_Lw_least : MethodName := ⟨R_Lw, "least", "(LWordSets;I[J)I"⟩
abbrev c_Ws_least : ByteArray := prog_1_method_8_code
def y_Ws_least : MethodName := ⟨R_Ws, "least", "(I)I"⟩
abbrev c_Lw_count : ByteArray := method_9_code
def y_Lw_count : MethodName := ⟨R_Lw, "count", "(LWordSets;II[J)I"⟩
abbrev c_Ws_count : ByteArray := prog_1_method_9_code
def y_Ws_count : MethodName := ⟨R_Ws, "count", "(II)J"⟩
abbrev c_Ws_checkLength : ByteArray := prog_1_method_16_code
def y_Ws_checkLength : MethodName := ⟨R_Ws, "checkLength", "(I)V"⟩
abbrev c_Ma_build : ByteArray := prog_3_method_2_code
def y_Ma_build : MethodName := ⟨R_Ma, "build", "(LWordSets$Expression;)V"⟩
abbrev c_Ma_numberOf : ByteArray := prog_3_method_3_code
def y_Ma_numberOf : MethodName := ⟨R_Ma, "numberOf", "(ILWordSets$Expression;)I"⟩
abbrev c_Ma_tally : ByteArray := prog_3_method_4_code
def y_Ma_tally : MethodName := ⟨R_Ma, "tally", "(I)J"⟩
abbrev c_Ma_tallyOver : ByteArray := prog_3_method_5_code
def y_Ma_tallyOver : MethodName := ⟨R_Ma, "tallyOver", "(II)J"⟩
abbrev c_Lw_word : ByteArray := method_10_code
def y_Lw_word : MethodName := ⟨R_Lw, "word", "(LWordSets;IIJ[J)I"⟩
abbrev c_Ws_word : ByteArray := prog_1_method_10_code
def y_Ws_word : MethodName := ⟨R_Ws, "word", "(IIJ)Z"⟩
abbrev c_Ma_spell : ByteArray := prog_3_method_6_code
def y_Ma_spell : MethodName := ⟨R_Ma, "spell", "(IJLWordSets$Word;)V"⟩
abbrev c_Lw_states : ByteArray := method_11_code
def y_Lw_states : MethodName := ⟨R_Lw, "states", "(LWordSets;I[J)I"⟩
abbrev c_Ws_states : ByteArray := prog_1_method_11_code
def y_Ws_states : MethodName := ⟨R_Ws, "states", "(I)I"⟩
abbrev c_Ma_groups : ByteArray := prog_3_method_7_code
def y_Ma_groups : MethodName := ⟨R_Ma, "groups", "()I"⟩
abbrev c_Ma_refine : ByteArray := prog_3_method_8_code
def y_Ma_refine : MethodName := ⟨R_Ma, "refine", "()I"⟩
abbrev c_Ma_firstLike : ByteArray := prog_3_method_9_code
def y_Ma_firstLike : MethodName := ⟨R_Ma, "firstLike", "(I)I"⟩
abbrev c_Ma_alike : ByteArray := prog_3_method_10_code
def y_Ma_alike : MethodName := ⟨R_Ma, "alike", "(II)Z"⟩
abbrev c_Lw_turn : ByteArray := method_12_code
def y_Lw_turn : MethodName := ⟨R_Lw, "turn", "(LWordSets;II)I"⟩
abbrev c_Ws_turn : ByteArray := prog_1_method_12_code
def y_Ws_turn : MethodName := ⟨R_Ws, "turn", "(II)V"⟩
abbrev c_Ex_becomeReverse : ByteArray := prog_2_method_9_code
def y_Ex_becomeReverse : MethodName := ⟨R_Ex, "becomeReverse", "(LWordSets$Expression;)V"⟩
abbrev c_Lw_letter : ByteArray := method_13_code
def y_Lw_letter : MethodName := ⟨R_Lw, "letter", "(LWordSets;I[J)I"⟩
abbrev c_Ws_letter : ByteArray := prog_1_method_14_code
def y_Ws_letter : MethodName := ⟨R_Ws, "letter", "(I)I"⟩
abbrev c_Md_init : ByteArray := prog_10_method_1_code
def y_Md_init : MethodName := ⟨R_Md, "<init>", "()V"⟩
abbrev c_Md_thrown : ByteArray := prog_10_method_2_code
def y_Md_thrown : MethodName := ⟨R_Md, "thrown", "()I"⟩
abbrev c_Md_feed : ByteArray := prog_10_method_6_code
def y_Md_feed : MethodName := ⟨R_Md, "feed", "(JI)I"⟩
abbrev c_Md_in : ByteArray := prog_10_method_3_code
def y_Md_in : MethodName := ⟨R_Md, "in", "(III)Z"⟩
abbrev c_Md_read : ByteArray := prog_10_method_16_code
def y_Md_read : MethodName := ⟨R_Md, "read", "(I)I"⟩
abbrev c_Md_isSlot : ByteArray := prog_10_method_5_code
def y_Md_isSlot : MethodName := ⟨R_Md, "isSlot", "(I)Z"⟩
abbrev c_Md_sum : ByteArray := prog_10_method_15_code
def y_Md_sum : MethodName := ⟨R_Md, "sum", "()I"⟩
abbrev c_Md_see : ByteArray := prog_10_method_7_code
def y_Md_see : MethodName := ⟨R_Md, "see", "()I"⟩
abbrev c_Md_atom : ByteArray := prog_10_method_11_code
def y_Md_atom : MethodName := ⟨R_Md, "atom", "(I)I"⟩
abbrev c_Md_wrong : ByteArray := prog_10_method_9_code
def y_Md_wrong : MethodName := ⟨R_Md, "wrong", "()V"⟩
abbrev c_Md_part : ByteArray := prog_10_method_8_code
def y_Md_part : MethodName := ⟨R_Md, "part", "(ZII)I"⟩
abbrev c_Md_repeated : ByteArray := prog_10_method_12_code
def y_Md_repeated : MethodName := ⟨R_Md, "repeated", "(I)I"⟩
abbrev c_Md_follows : ByteArray := prog_10_method_10_code
def y_Md_follows : MethodName := ⟨R_Md, "follows", "(II)V"⟩
abbrev c_Md_behind : ByteArray := prog_10_method_13_code
def y_Md_behind : MethodName := ⟨R_Md, "behind", "(II)I"⟩
abbrev c_Md_either : ByteArray := prog_10_method_14_code
def y_Md_either : MethodName := ⟨R_Md, "either", "(II)I"⟩
abbrev c_Md_says : ByteArray := prog_10_method_4_code
def y_Md_says : MethodName := ⟨R_Md, "says", "(Z)Z"⟩
abbrev c_Md_place : ByteArray := prog_10_method_17_code
def y_Md_place : MethodName := ⟨R_Md, "place", "()I"⟩
abbrev c_Md_has : ByteArray := prog_10_method_20_code
def y_Md_has : MethodName := ⟨R_Md, "has", "(I)Z"⟩
abbrev c_Md_step : ByteArray := prog_10_method_18_code
def y_Md_step : MethodName := ⟨R_Md, "step", "(III)I"⟩
abbrev c_Md_tells : ByteArray := prog_10_method_19_code
def y_Md_tells : MethodName := ⟨R_Md, "tells", "(II)Z"⟩
abbrev c_Md_compare : ByteArray := prog_10_method_23_code
def y_Md_compare : MethodName := ⟨R_Md, "compare", "(II)I"⟩
abbrev c_Md_seek : ByteArray := prog_10_method_22_code
def y_Md_seek : MethodName := ⟨R_Md, "seek", "(III)I"⟩
abbrev c_Md_spell : ByteArray := prog_10_method_21_code
def y_Md_spell : MethodName := ⟨R_Md, "spell", "(I)V"⟩
abbrev c_Md_contains : ByteArray := prog_10_method_24_code
def y_Md_contains : MethodName := ⟨R_Md, "contains", "(II)Z"⟩
abbrev c_Md_least : ByteArray := prog_10_method_25_code
def y_Md_least : MethodName := ⟨R_Md, "least", "(I)I"⟩
abbrev c_Md_count : ByteArray := prog_10_method_27_code
def y_Md_count : MethodName := ⟨R_Md, "count", "(II)J"⟩
abbrev c_Md_reckon : ByteArray := prog_10_method_26_code
def y_Md_reckon : MethodName := ⟨R_Md, "reckon", "(II)V"⟩
abbrev c_Md_word : ByteArray := prog_10_method_28_code
def y_Md_word : MethodName := ⟨R_Md, "word", "(IIJ)Z"⟩
abbrev c_Md_states : ByteArray := prog_10_method_29_code
def y_Md_states : MethodName := ⟨R_Md, "states", "(I)I"⟩
abbrev c_Md_split : ByteArray := prog_10_method_30_code
def y_Md_split : MethodName := ⟨R_Md, "split", "(II)I"⟩
abbrev c_Md_turn : ByteArray := prog_10_method_31_code
def y_Md_turn : MethodName := ⟨R_Md, "turn", "(II)V"⟩
abbrev c_Md_size : ByteArray := prog_10_method_32_code
def y_Md_size : MethodName := ⟨R_Md, "size", "()I"⟩
abbrev c_Md_letter : ByteArray := prog_10_method_33_code
def y_Md_letter : MethodName := ⟨R_Md, "letter", "(I)I"⟩
def y_Sy_arraycopy : MethodName := ⟨R_Sy, "arraycopy", "(Ljava/lang/Object;ILjava/lang/Object;II)V"⟩
theorem in_Lw : Cond.initialized R_Lw ∈ wsU := wU_t 0 (by decide +kernel) (by decide +kernel)
theorem in_Ws : Cond.initialized R_Ws ∈ wsU := wU_t 1 (by decide +kernel) (by decide +kernel)
theorem in_Ta : Cond.initialized R_Ta ∈ wsU := wU_t 2 (by decide +kernel) (by decide +kernel)
theorem in_Ex : Cond.initialized R_Ex ∈ wsU := wU_t 3 (by decide +kernel) (by decide +kernel)
theorem in_Pr : Cond.initialized R_Pr ∈ wsU := wU_t 4 (by decide +kernel) (by decide +kernel)
theorem in_Pt : Cond.initialized R_Pt ∈ wsU := wU_t 5 (by decide +kernel) (by decide +kernel)
theorem in_Ma : Cond.initialized R_Ma ∈ wsU := wU_t 6 (by decide +kernel) (by decide +kernel)
theorem in_Se : Cond.initialized R_Se ∈ wsU := wU_t 7 (by decide +kernel) (by decide +kernel)
theorem in_Wo : Cond.initialized R_Wo ∈ wsU := wU_t 8 (by decide +kernel) (by decide +kernel)
theorem in_Md : Cond.initialized R_Md ∈ wsU := wU_t 9 (by decide +kernel) (by decide +kernel)
theorem in_Ar : Cond.initialized R_Ar ∈ wsU := wU_t 15 (by decide +kernel) (by decide +kernel)
theorem in_Mt : Cond.initialized R_Mt ∈ wsU := wU_t 16 (by decide +kernel) (by decide +kernel)
theorem in_Sy : Cond.initialized R_Sy ∈ wsU := wU_t 17 (by decide +kernel) (by decide +kernel)
theorem k_Lw_8 : Cond.classLink R_Lw 8 R_Ws ∈ wsU := wU_t 19 (by decide +kernel) (by decide +kernel)
theorem it_Ws : Cond.instantiable R_Ws 9 ∈ wsU := wU_t 20 (by decide +kernel) (by decide +kernel)
theorem m_Lw_56 : Cond.methodLink R_Lw 56 y_Ws_init ∈ wsU := wU_t 21 (by decide +kernel) (by decide +kernel)
theorem im_Ws_init : Cond.instanceMethod y_Ws_init ∈ wsU := wU_t 22 (by decide +kernel) (by decide +kernel)
set_option maxRecDepth 20000 in
theorem cd_Ws_init : Cond.code y_Ws_init c_Ws_init 2 none ∈ wsU := wU_t 23 (rfl) (by decide +kernel)
theorem m_Ws_1 : Cond.methodLink R_Ws 1 objectInit ∈ wsU := wU_t 24 (by decide +kernel) (by decide +kernel)
theorem im_Object_init : Cond.instanceMethod objectInit ∈ wsU := wU_t 25 (by decide +kernel) (by decide +kernel)
set_option maxRecDepth 20000 in
theorem cd_Object_init : Cond.code objectInit ⟨#[0xb1]⟩ 1 none ∈ wsU := wU_t 26 (by first | rfl | decide +kernel) (by decide +kernel)
theorem k_Ws_7 : Cond.classLink R_Ws 7 R_Ta ∈ wsU := wU_t 27 (by decide +kernel) (by decide +kernel)
theorem it_Ta : Cond.instantiable R_Ta 2 ∈ wsU := wU_t 28 (by decide +kernel) (by decide +kernel)
theorem im_Ta_init : Cond.instanceMethod y_Ta_init ∈ wsU := wU_t 30 (by decide +kernel) (by decide +kernel)
set_option maxRecDepth 20000 in
theorem cd_Ta_init : Cond.code y_Ta_init c_Ta_init 1 none ∈ wsU := wU_t 31 (rfl) (by decide +kernel)
theorem m_Ta_3 : Cond.methodLink R_Ta 3 objectInit ∈ wsU := wU_t 32 (by decide +kernel) (by decide +kernel)
theorem f_Ta_9 : Cond.fieldLink R_Ta 9 "WordSets$Tape" "bytes" "[I" ∈ wsU := wU_t 33 (by decide +kernel) (by decide +kernel)
theorem f_Ws_89 : Cond.fieldLink R_Ws 89 "WordSets$Tape" "bytes" "[I" ∈ wsU := wU_t 34 (by decide +kernel) (by decide +kernel)
theorem f_Ta_15 : Cond.fieldLink R_Ta 15 "WordSets$Tape" "size" "I" ∈ wsU := wU_t 35 (by decide +kernel) (by decide +kernel)
theorem f_Ws_78 : Cond.fieldLink R_Ws 78 "WordSets$Tape" "size" "I" ∈ wsU := wU_t 36 (by decide +kernel) (by decide +kernel)
theorem ac_int : Cond.arrayClass .int ∈ wsU := wU_t 42 (by decide +kernel) (by decide +kernel)
theorem k_Ws_16 : Cond.classLink R_Ws 16 R_Ex ∈ wsU := wU_t 43 (by decide +kernel) (by decide +kernel)
theorem it_Ex : Cond.instantiable R_Ex 4 ∈ wsU := wU_t 45 (by decide +kernel) (by decide +kernel)
theorem im_Ex_init : Cond.instanceMethod y_Ex_init ∈ wsU := wU_t 47 (by decide +kernel) (by decide +kernel)
set_option maxRecDepth 20000 in
theorem cd_Ex_init : Cond.code y_Ex_init c_Ex_init 1 none ∈ wsU := wU_t 48 (rfl) (by decide +kernel)
theorem m_Ex_5 : Cond.methodLink R_Ex 5 objectInit ∈ wsU := wU_t 49 (by decide +kernel) (by decide +kernel)
theorem f_Ex_11 : Cond.fieldLink R_Ex 11 "WordSets$Expression" "follow" "[I" ∈ wsU := wU_t 50 (by decide +kernel) (by decide +kernel)
theorem f_Ex_15 : Cond.fieldLink R_Ex 15 "WordSets$Expression" "spelt" "[I" ∈ wsU := wU_t 51 (by decide +kernel) (by decide +kernel)
theorem f_Ma_54 : Cond.fieldLink R_Ma 54 "WordSets$Expression" "spelt" "[I" ∈ wsU := wU_t 52 (by decide +kernel) (by decide +kernel)
theorem f_Se_68 : Cond.fieldLink R_Se 68 "WordSets$Expression" "spelt" "[I" ∈ wsU := wU_t 53 (by decide +kernel) (by decide +kernel)
theorem f_Ex_18 : Cond.fieldLink R_Ex 18 "WordSets$Expression" "ends" "I" ∈ wsU := wU_t 54 (by decide +kernel) (by decide +kernel)
theorem f_Ex_22 : Cond.fieldLink R_Ex 22 "WordSets$Expression" "letters" "I" ∈ wsU := wU_t 55 (by decide +kernel) (by decide +kernel)
theorem f_Ws_102 : Cond.fieldLink R_Ws 102 "WordSets$Expression" "letters" "I" ∈ wsU := wU_t 56 (by decide +kernel) (by decide +kernel)
theorem f_Pr_77 : Cond.fieldLink R_Pr 77 "WordSets$Expression" "letters" "I" ∈ wsU := wU_t 57 (by decide +kernel) (by decide +kernel)
theorem k_Ws_27 : Cond.classLink R_Ws 27 R_Pr ∈ wsU := wU_t 67 (by decide +kernel) (by decide +kernel)
theorem it_Pr : Cond.instantiable R_Pr 5 ∈ wsU := wU_t 68 (by decide +kernel) (by decide +kernel)
theorem m_Ws_29 : Cond.methodLink R_Ws 29 y_Pr_init ∈ wsU := wU_t 69 (by decide +kernel) (by decide +kernel)
theorem im_Pr_init : Cond.instanceMethod y_Pr_init ∈ wsU := wU_t 70 (by decide +kernel) (by decide +kernel)
set_option maxRecDepth 20000 in
theorem cd_Pr_init : Cond.code y_Pr_init c_Pr_init 2 none ∈ wsU := wU_t 71 (rfl) (by decide +kernel)
theorem m_Pr_3 : Cond.methodLink R_Pr 3 objectInit ∈ wsU := wU_t 72 (by decide +kernel) (by decide +kernel)
theorem k_Pr_9 : Cond.classLink R_Pr 9 R_Pt ∈ wsU := wU_t 73 (by decide +kernel) (by decide +kernel)
theorem it_Pt : Cond.instantiable R_Pt 3 ∈ wsU := wU_t 75 (by decide +kernel) (by decide +kernel)
theorem im_Pt_init : Cond.instanceMethod y_Pt_init ∈ wsU := wU_t 77 (by decide +kernel) (by decide +kernel)
set_option maxRecDepth 20000 in
theorem cd_Pt_init : Cond.code y_Pt_init c_Pt_init 1 none ∈ wsU := wU_t 78 (rfl) (by decide +kernel)
theorem m_Pt_1 : Cond.methodLink R_Pt 1 objectInit ∈ wsU := wU_t 79 (by decide +kernel) (by decide +kernel)
theorem f_Pt_7 : Cond.fieldLink R_Pt 7 "WordSets$Part" "first" "I" ∈ wsU := wU_t 80 (by decide +kernel) (by decide +kernel)
theorem f_Ex_31 : Cond.fieldLink R_Ex 31 "WordSets$Part" "first" "I" ∈ wsU := wU_t 81 (by decide +kernel) (by decide +kernel)
theorem f_Pr_84 : Cond.fieldLink R_Pr 84 "WordSets$Part" "first" "I" ∈ wsU := wU_t 82 (by decide +kernel) (by decide +kernel)
theorem f_Pt_13 : Cond.fieldLink R_Pt 13 "WordSets$Part" "last" "I" ∈ wsU := wU_t 83 (by decide +kernel) (by decide +kernel)
theorem f_Ex_40 : Cond.fieldLink R_Ex 40 "WordSets$Part" "last" "I" ∈ wsU := wU_t 84 (by decide +kernel) (by decide +kernel)
theorem f_Pr_87 : Cond.fieldLink R_Pr 87 "WordSets$Part" "last" "I" ∈ wsU := wU_t 85 (by decide +kernel) (by decide +kernel)
theorem f_Pt_16 : Cond.fieldLink R_Pt 16 "WordSets$Part" "empty" "Z" ∈ wsU := wU_t 86 (by decide +kernel) (by decide +kernel)
theorem f_Ex_36 : Cond.fieldLink R_Ex 36 "WordSets$Part" "empty" "Z" ∈ wsU := wU_t 87 (by decide +kernel) (by decide +kernel)
theorem f_Pr_90 : Cond.fieldLink R_Pr 90 "WordSets$Part" "empty" "Z" ∈ wsU := wU_t 88 (by decide +kernel) (by decide +kernel)
theorem f_Pr_11 : Cond.fieldLink R_Pr 11 "WordSets$Parser" "sums" "[LWordSets$Part;" ∈ wsU := wU_t 96 (by decide +kernel) (by decide +kernel)
theorem f_Pr_17 : Cond.fieldLink R_Pr 17 "WordSets$Parser" "rows" "[LWordSets$Part;" ∈ wsU := wU_t 97 (by decide +kernel) (by decide +kernel)
theorem f_Pr_21 : Cond.fieldLink R_Pr 21 "WordSets$Parser" "factor" "LWordSets$Part;" ∈ wsU := wU_t 98 (by decide +kernel) (by decide +kernel)
theorem f_Pr_25 : Cond.fieldLink R_Pr 25 "WordSets$Parser" "factorWaits" "Z" ∈ wsU := wU_t 99 (by decide +kernel) (by decide +kernel)
theorem f_Pr_29 : Cond.fieldLink R_Pr 29 "WordSets$Parser" "depth" "I" ∈ wsU := wU_t 100 (by decide +kernel) (by decide +kernel)
theorem k_Ws_34 : Cond.classLink R_Ws 34 R_Ma ∈ wsU := wU_t 112 (by decide +kernel) (by decide +kernel)
theorem it_Ma : Cond.instantiable R_Ma 8 ∈ wsU := wU_t 113 (by decide +kernel) (by decide +kernel)
theorem im_Ma_init : Cond.instanceMethod y_Ma_init ∈ wsU := wU_t 115 (by decide +kernel) (by decide +kernel)
set_option maxRecDepth 20000 in
theorem cd_Ma_init : Cond.code y_Ma_init c_Ma_init 1 none ∈ wsU := wU_t 116 (rfl) (by decide +kernel)
theorem m_Ma_5 : Cond.methodLink R_Ma 5 objectInit ∈ wsU := wU_t 117 (by decide +kernel) (by decide +kernel)
theorem f_Ma_13 : Cond.fieldLink R_Ma 13 "WordSets$Machine" "sets" "[I" ∈ wsU := wU_t 118 (by decide +kernel) (by decide +kernel)
theorem f_Ma_17 : Cond.fieldLink R_Ma 17 "WordSets$Machine" "numbers" "[I" ∈ wsU := wU_t 119 (by decide +kernel) (by decide +kernel)
theorem f_Ma_20 : Cond.fieldLink R_Ma 20 "WordSets$Machine" "next" "[I" ∈ wsU := wU_t 120 (by decide +kernel) (by decide +kernel)
theorem f_Ma_23 : Cond.fieldLink R_Ma 23 "WordSets$Machine" "accepting" "[I" ∈ wsU := wU_t 121 (by decide +kernel) (by decide +kernel)
theorem f_Ma_26 : Cond.fieldLink R_Ma 26 "WordSets$Machine" "group" "[I" ∈ wsU := wU_t 122 (by decide +kernel) (by decide +kernel)
theorem f_Ma_29 : Cond.fieldLink R_Ma 29 "WordSets$Machine" "finer" "[I" ∈ wsU := wU_t 123 (by decide +kernel) (by decide +kernel)
theorem f_Ma_32 : Cond.fieldLink R_Ma 32 "WordSets$Machine" "tallies" "[J" ∈ wsU := wU_t 124 (by decide +kernel) (by decide +kernel)
theorem f_Ma_36 : Cond.fieldLink R_Ma 36 "WordSets$Machine" "size" "I" ∈ wsU := wU_t 125 (by decide +kernel) (by decide +kernel)
theorem ac_long : Cond.arrayClass .long ∈ wsU := wU_t 143 (by decide +kernel) (by decide +kernel)
theorem k_Ws_41 : Cond.classLink R_Ws 41 R_Se ∈ wsU := wU_t 144 (by decide +kernel) (by decide +kernel)
theorem it_Se : Cond.instantiable R_Se 5 ∈ wsU := wU_t 145 (by decide +kernel) (by decide +kernel)
theorem im_Se_init : Cond.instanceMethod y_Se_init ∈ wsU := wU_t 147 (by decide +kernel) (by decide +kernel)
set_option maxRecDepth 20000 in
theorem cd_Se_init : Cond.code y_Se_init c_Se_init 1 none ∈ wsU := wU_t 148 (rfl) (by decide +kernel)
theorem m_Se_3 : Cond.methodLink R_Se 3 objectInit ∈ wsU := wU_t 149 (by decide +kernel) (by decide +kernel)
theorem f_Se_9 : Cond.fieldLink R_Se 9 "WordSets$Search" "seen" "[J" ∈ wsU := wU_t 150 (by decide +kernel) (by decide +kernel)
theorem f_Se_15 : Cond.fieldLink R_Se 15 "WordSets$Search" "firsts" "[I" ∈ wsU := wU_t 151 (by decide +kernel) (by decide +kernel)
theorem f_Se_19 : Cond.fieldLink R_Se 19 "WordSets$Search" "seconds" "[I" ∈ wsU := wU_t 152 (by decide +kernel) (by decide +kernel)
theorem f_Se_22 : Cond.fieldLink R_Se 22 "WordSets$Search" "origins" "[I" ∈ wsU := wU_t 153 (by decide +kernel) (by decide +kernel)
theorem f_Se_25 : Cond.fieldLink R_Se 25 "WordSets$Search" "size" "I" ∈ wsU := wU_t 154 (by decide +kernel) (by decide +kernel)
theorem k_Ws_48 : Cond.classLink R_Ws 48 R_Wo ∈ wsU := wU_t 166 (by decide +kernel) (by decide +kernel)
theorem it_Wo : Cond.instantiable R_Wo 2 ∈ wsU := wU_t 167 (by decide +kernel) (by decide +kernel)
theorem im_Wo_init : Cond.instanceMethod y_Wo_init ∈ wsU := wU_t 169 (by decide +kernel) (by decide +kernel)
set_option maxRecDepth 20000 in
theorem cd_Wo_init : Cond.code y_Wo_init c_Wo_init 1 none ∈ wsU := wU_t 170 (rfl) (by decide +kernel)
theorem m_Wo_3 : Cond.methodLink R_Wo 3 objectInit ∈ wsU := wU_t 171 (by decide +kernel) (by decide +kernel)
theorem f_Wo_9 : Cond.fieldLink R_Wo 9 "WordSets$Word" "letters" "[I" ∈ wsU := wU_t 172 (by decide +kernel) (by decide +kernel)
theorem f_Ma_71 : Cond.fieldLink R_Ma 71 "WordSets$Word" "letters" "[I" ∈ wsU := wU_t 173 (by decide +kernel) (by decide +kernel)
theorem f_Se_79 : Cond.fieldLink R_Se 79 "WordSets$Word" "letters" "[I" ∈ wsU := wU_t 174 (by decide +kernel) (by decide +kernel)
theorem f_Ws_154 : Cond.fieldLink R_Ws 154 "WordSets$Word" "letters" "[I" ∈ wsU := wU_t 175 (by decide +kernel) (by decide +kernel)
theorem f_Wo_15 : Cond.fieldLink R_Wo 15 "WordSets$Word" "size" "I" ∈ wsU := wU_t 176 (by decide +kernel) (by decide +kernel)
theorem f_Ws_122 : Cond.fieldLink R_Ws 122 "WordSets$Word" "size" "I" ∈ wsU := wU_t 177 (by decide +kernel) (by decide +kernel)
theorem f_Ws_10 : Cond.fieldLink R_Ws 10 "WordSets" "tape" "LWordSets$Tape;" ∈ wsU := wU_t 183 (by decide +kernel) (by decide +kernel)
theorem f_Ws_18 : Cond.fieldLink R_Ws 18 "WordSets" "slots" "[LWordSets$Expression;" ∈ wsU := wU_t 184 (by decide +kernel) (by decide +kernel)
theorem f_Ws_23 : Cond.fieldLink R_Ws 23 "WordSets" "nothing" "LWordSets$Expression;" ∈ wsU := wU_t 185 (by decide +kernel) (by decide +kernel)
theorem f_Ws_30 : Cond.fieldLink R_Ws 30 "WordSets" "parser" "LWordSets$Parser;" ∈ wsU := wU_t 186 (by decide +kernel) (by decide +kernel)
theorem f_Ws_37 : Cond.fieldLink R_Ws 37 "WordSets" "machine" "LWordSets$Machine;" ∈ wsU := wU_t 187 (by decide +kernel) (by decide +kernel)
theorem f_Ws_44 : Cond.fieldLink R_Ws 44 "WordSets" "search" "LWordSets$Search;" ∈ wsU := wU_t 188 (by decide +kernel) (by decide +kernel)
theorem f_Ws_51 : Cond.fieldLink R_Ws 51 "WordSets" "theWord" "LWordSets$Word;" ∈ wsU := wU_t 189 (by decide +kernel) (by decide +kernel)
theorem f_Ws_55 : Cond.fieldLink R_Ws 55 "WordSets" "spare" "LWordSets$Expression;" ∈ wsU := wU_t 190 (by decide +kernel) (by decide +kernel)
theorem f_Ws_58 : Cond.fieldLink R_Ws 58 "WordSets" "wrongAt" "I" ∈ wsU := wU_t 191 (by decide +kernel) (by decide +kernel)
theorem m_Lw_76 : Cond.methodLink R_Lw 76 y_Ws_place ∈ wsU := wU_t 211 (by decide +kernel) (by decide +kernel)
theorem im_Ws_place : Cond.instanceMethod y_Ws_place ∈ wsU := wU_t 212 (by decide +kernel) (by decide +kernel)
theorem se_Ws_place : Cond.selects R_Ws y_Ws_place y_Ws_place ∈ wsU := wU_t 213 (by decide +kernel) (by decide +kernel)
set_option maxRecDepth 20000 in
theorem cd_Ws_place : Cond.code y_Ws_place c_Ws_place 1 (some .int) ∈ wsU := wU_t 214 (rfl) (by decide +kernel)
theorem m_Lw_107 : Cond.methodLink R_Lw 107 y_Ws_size ∈ wsU := wU_t 215 (by decide +kernel) (by decide +kernel)
theorem im_Ws_size : Cond.instanceMethod y_Ws_size ∈ wsU := wU_t 216 (by decide +kernel) (by decide +kernel)
theorem se_Ws_size : Cond.selects R_Ws y_Ws_size y_Ws_size ∈ wsU := wU_t 217 (by decide +kernel) (by decide +kernel)
set_option maxRecDepth 20000 in
theorem cd_Ws_size : Cond.code y_Ws_size c_Ws_size 1 (some .int) ∈ wsU := wU_t 218 (rfl) (by decide +kernel)
theorem m_Lw_62 : Cond.methodLink R_Lw 62 y_Lw_feed ∈ wsU := wU_t 219 (by decide +kernel) (by decide +kernel)
theorem sm_Lw_feed : Cond.static y_Lw_feed ∈ wsU := wU_t 220 (by decide +kernel) (by decide +kernel)
theorem k_Lw_13 : Cond.classLink R_Lw 13 "java/lang/IllegalArgumentException" ∈ wsU := wU_t 222 (by decide +kernel) (by decide +kernel)
theorem k_Lw_15 : Cond.classLink R_Lw 15 "java/lang/IllegalStateException" ∈ wsU := wU_t 223 (by decide +kernel) (by decide +kernel)
theorem m_Lw_7 : Cond.methodLink R_Lw 7 y_Ws_feed ∈ wsU := wU_t 224 (by decide +kernel) (by decide +kernel)
theorem im_Ws_feed : Cond.instanceMethod y_Ws_feed ∈ wsU := wU_t 225 (by decide +kernel) (by decide +kernel)
theorem se_Ws_feed : Cond.selects R_Ws y_Ws_feed y_Ws_feed ∈ wsU := wU_t 226 (by decide +kernel) (by decide +kernel)
set_option maxRecDepth 20000 in
theorem cd_Ws_feed : Cond.code y_Ws_feed c_Ws_feed 4 (some .int) ∈ wsU := wU_t 227 (rfl) (by decide +kernel)
theorem k_Ws_62 : Cond.classLink R_Ws 62 "java/lang/IllegalArgumentException" ∈ wsU := wU_t 228 (by decide +kernel) (by decide +kernel)
theorem m_Ws_66 : Cond.methodLink R_Ws 66 ⟨"java/lang/IllegalArgumentException", "<init>", "(Ljava/lang/String;)V"⟩ ∈ wsU := wU_t 270 (by decide +kernel) (by decide +kernel)
theorem ac_byte : Cond.arrayClass .byte ∈ wsU := wU_t 295 (by decide +kernel) (by decide +kernel)
theorem m_Ws_69 : Cond.methodLink R_Ws 69 y_Ta_append ∈ wsU := wU_t 296 (by decide +kernel) (by decide +kernel)
theorem im_Ta_append : Cond.instanceMethod y_Ta_append ∈ wsU := wU_t 297 (by decide +kernel) (by decide +kernel)
theorem se_Ta_append : Cond.selects R_Ta y_Ta_append y_Ta_append ∈ wsU := wU_t 298 (by decide +kernel) (by decide +kernel)
set_option maxRecDepth 20000 in
theorem cd_Ta_append : Cond.code y_Ta_append c_Ta_append 5 (some .boolean) ∈ wsU := wU_t 299 (rfl) (by decide +kernel)
theorem k_Ws_73 : Cond.classLink R_Ws 73 "java/lang/IllegalStateException" ∈ wsU := wU_t 300 (by decide +kernel) (by decide +kernel)
theorem m_Ws_77 : Cond.methodLink R_Ws 77 ⟨"java/lang/IllegalStateException", "<init>", "(Ljava/lang/String;)V"⟩ ∈ wsU := wU_t 310 (by decide +kernel) (by decide +kernel)
theorem m_Lw_72 : Cond.methodLink R_Lw 72 y_Lw_read ∈ wsU := wU_t 316 (by decide +kernel) (by decide +kernel)
theorem sm_Lw_read : Cond.static y_Lw_read ∈ wsU := wU_t 317 (by decide +kernel) (by decide +kernel)
theorem m_Lw_17 : Cond.methodLink R_Lw 17 y_Ws_read ∈ wsU := wU_t 319 (by decide +kernel) (by decide +kernel)
theorem im_Ws_read : Cond.instanceMethod y_Ws_read ∈ wsU := wU_t 320 (by decide +kernel) (by decide +kernel)
theorem se_Ws_read : Cond.selects R_Ws y_Ws_read y_Ws_read ∈ wsU := wU_t 321 (by decide +kernel) (by decide +kernel)
set_option maxRecDepth 20000 in
theorem cd_Ws_read : Cond.code y_Ws_read c_Ws_read 3 (some .int) ∈ wsU := wU_t 322 (rfl) (by decide +kernel)
theorem m_Ws_81 : Cond.methodLink R_Ws 81 y_Ta_useUp ∈ wsU := wU_t 323 (by decide +kernel) (by decide +kernel)
theorem im_Ta_useUp : Cond.instanceMethod y_Ta_useUp ∈ wsU := wU_t 324 (by decide +kernel) (by decide +kernel)
theorem se_Ta_useUp : Cond.selects R_Ta y_Ta_useUp y_Ta_useUp ∈ wsU := wU_t 325 (by decide +kernel) (by decide +kernel)
set_option maxRecDepth 20000 in
theorem cd_Ta_useUp : Cond.code y_Ta_useUp c_Ta_useUp 2 (some .int) ∈ wsU := wU_t 326 (rfl) (by decide +kernel)
theorem m_Ws_85 : Cond.methodLink R_Ws 85 y_Ws_checkSlot ∈ wsU := wU_t 327 (by decide +kernel) (by decide +kernel)
theorem sm_Ws_checkSlot : Cond.static y_Ws_checkSlot ∈ wsU := wU_t 328 (by decide +kernel) (by decide +kernel)
set_option maxRecDepth 20000 in
theorem cd_Ws_checkSlot : Cond.code y_Ws_checkSlot c_Ws_checkSlot 1 none ∈ wsU := wU_t 329 (rfl) (by decide +kernel)
theorem m_Ws_93 : Cond.methodLink R_Ws 93 y_Pr_parse ∈ wsU := wU_t 331 (by decide +kernel) (by decide +kernel)
theorem im_Pr_parse : Cond.instanceMethod y_Pr_parse ∈ wsU := wU_t 332 (by decide +kernel) (by decide +kernel)
theorem se_Pr_parse : Cond.selects R_Pr y_Pr_parse y_Pr_parse ∈ wsU := wU_t 333 (by decide +kernel) (by decide +kernel)
set_option maxRecDepth 20000 in
theorem cd_Pr_parse : Cond.code y_Pr_parse c_Pr_parse 5 (some .int) ∈ wsU := wU_t 334 (rfl) (by decide +kernel)
theorem m_Pr_33 : Cond.methodLink R_Pr 33 y_Ex_clear ∈ wsU := wU_t 335 (by decide +kernel) (by decide +kernel)
theorem im_Ex_clear : Cond.instanceMethod y_Ex_clear ∈ wsU := wU_t 336 (by decide +kernel) (by decide +kernel)
theorem se_Ex_clear : Cond.selects R_Ex y_Ex_clear y_Ex_clear ∈ wsU := wU_t 337 (by decide +kernel) (by decide +kernel)
set_option maxRecDepth 20000 in
theorem cd_Ex_clear : Cond.code y_Ex_clear c_Ex_clear 1 none ∈ wsU := wU_t 338 (rfl) (by decide +kernel)
theorem m_Ex_25 : Cond.methodLink R_Ex 25 y_Ar_fillI ∈ wsU := wU_t 339 (by decide +kernel) (by decide +kernel)
theorem sm_Ar_fillI : Cond.static y_Ar_fillI ∈ wsU := wU_t 340 (by decide +kernel) (by decide +kernel)
set_option maxRecDepth 20000 in
theorem cd_Ar_fillI : Cond.code y_Ar_fillI c_Ar_fillI 4 none ∈ wsU := wU_t 341 (rfl) (by decide +kernel)
theorem m_Pr_38 : Cond.methodLink R_Pr 38 y_Pr_beginSum ∈ wsU := wU_t 342 (by decide +kernel) (by decide +kernel)
theorem im_Pr_beginSum : Cond.instanceMethod y_Pr_beginSum ∈ wsU := wU_t 344 (by decide +kernel) (by decide +kernel)
set_option maxRecDepth 20000 in
theorem cd_Pr_beginSum : Cond.code y_Pr_beginSum c_Pr_beginSum 1 none ∈ wsU := wU_t 345 (rfl) (by decide +kernel)
theorem m_Pr_93 : Cond.methodLink R_Pr 93 y_Pt_become ∈ wsU := wU_t 346 (by decide +kernel) (by decide +kernel)
theorem im_Pt_become : Cond.instanceMethod y_Pt_become ∈ wsU := wU_t 347 (by decide +kernel) (by decide +kernel)
theorem se_Pt_become : Cond.selects R_Pt y_Pt_become y_Pt_become ∈ wsU := wU_t 348 (by decide +kernel) (by decide +kernel)
set_option maxRecDepth 20000 in
theorem cd_Pt_become : Cond.code y_Pt_become c_Pt_become 4 none ∈ wsU := wU_t 349 (rfl) (by decide +kernel)
theorem m_Pr_41 : Cond.methodLink R_Pr 41 y_Pr_accept ∈ wsU := wU_t 350 (by decide +kernel) (by decide +kernel)
theorem im_Pr_accept : Cond.instanceMethod y_Pr_accept ∈ wsU := wU_t 352 (by decide +kernel) (by decide +kernel)
set_option maxRecDepth 20000 in
theorem cd_Pr_accept : Cond.code y_Pr_accept c_Pr_accept 4 (some .boolean) ∈ wsU := wU_t 353 (rfl) (by decide +kernel)
theorem m_Pr_56 : Cond.methodLink R_Pr 56 y_Pr_acceptRepeat ∈ wsU := wU_t 354 (by decide +kernel) (by decide +kernel)
theorem im_Pr_acceptRepeat : Cond.instanceMethod y_Pr_acceptRepeat ∈ wsU := wU_t 356 (by decide +kernel) (by decide +kernel)
set_option maxRecDepth 20000 in
theorem cd_Pr_acceptRepeat : Cond.code y_Pr_acceptRepeat c_Pr_acceptRepeat 3 (some .boolean) ∈ wsU := wU_t 357 (rfl) (by decide +kernel)
theorem m_Pr_73 : Cond.methodLink R_Pr 73 y_Pt_repeat ∈ wsU := wU_t 358 (by decide +kernel) (by decide +kernel)
theorem im_Pt_repeat : Cond.instanceMethod y_Pt_repeat ∈ wsU := wU_t 359 (by decide +kernel) (by decide +kernel)
theorem se_Pt_repeat : Cond.selects R_Pt y_Pt_repeat y_Pt_repeat ∈ wsU := wU_t 360 (by decide +kernel) (by decide +kernel)
set_option maxRecDepth 20000 in
theorem cd_Pt_repeat : Cond.code y_Pt_repeat c_Pt_repeat 3 none ∈ wsU := wU_t 361 (rfl) (by decide +kernel)
theorem m_Pt_24 : Cond.methodLink R_Pt 24 y_Ex_link ∈ wsU := wU_t 362 (by decide +kernel) (by decide +kernel)
theorem im_Ex_link : Cond.instanceMethod y_Ex_link ∈ wsU := wU_t 363 (by decide +kernel) (by decide +kernel)
theorem se_Ex_link : Cond.selects R_Ex y_Ex_link y_Ex_link ∈ wsU := wU_t 364 (by decide +kernel) (by decide +kernel)
set_option maxRecDepth 20000 in
theorem cd_Ex_link : Cond.code y_Ex_link c_Ex_link 4 none ∈ wsU := wU_t 365 (rfl) (by decide +kernel)
theorem m_Pr_45 : Cond.methodLink R_Pr 45 y_Pr_joinFactor ∈ wsU := wU_t 366 (by decide +kernel) (by decide +kernel)
theorem im_Pr_joinFactor : Cond.instanceMethod y_Pr_joinFactor ∈ wsU := wU_t 368 (by decide +kernel) (by decide +kernel)
set_option maxRecDepth 20000 in
theorem cd_Pr_joinFactor : Cond.code y_Pr_joinFactor c_Pr_joinFactor 3 (some .boolean) ∈ wsU := wU_t 369 (rfl) (by decide +kernel)
theorem m_Pr_96 : Cond.methodLink R_Pr 96 y_Pt_addBehind ∈ wsU := wU_t 370 (by decide +kernel) (by decide +kernel)
theorem im_Pt_addBehind : Cond.instanceMethod y_Pt_addBehind ∈ wsU := wU_t 371 (by decide +kernel) (by decide +kernel)
theorem se_Pt_addBehind : Cond.selects R_Pt y_Pt_addBehind y_Pt_addBehind ∈ wsU := wU_t 372 (by decide +kernel) (by decide +kernel)
set_option maxRecDepth 20000 in
theorem cd_Pt_addBehind : Cond.code y_Pt_addBehind c_Pt_addBehind 5 none ∈ wsU := wU_t 373 (rfl) (by decide +kernel)
theorem m_Pt_20 : Cond.methodLink R_Pt 20 y_Pt_become ∈ wsU := wU_t 374 (by decide +kernel) (by decide +kernel)
theorem m_Pr_59 : Cond.methodLink R_Pr 59 y_Pr_acceptLetter ∈ wsU := wU_t 375 (by decide +kernel) (by decide +kernel)
theorem im_Pr_acceptLetter : Cond.instanceMethod y_Pr_acceptLetter ∈ wsU := wU_t 377 (by decide +kernel) (by decide +kernel)
set_option maxRecDepth 20000 in
theorem cd_Pr_acceptLetter : Cond.code y_Pr_acceptLetter c_Pr_acceptLetter 4 (some .boolean) ∈ wsU := wU_t 378 (rfl) (by decide +kernel)
theorem m_Pr_80 : Cond.methodLink R_Pr 80 y_Ex_addLetter ∈ wsU := wU_t 379 (by decide +kernel) (by decide +kernel)
theorem im_Ex_addLetter : Cond.instanceMethod y_Ex_addLetter ∈ wsU := wU_t 380 (by decide +kernel) (by decide +kernel)
theorem se_Ex_addLetter : Cond.selects R_Ex y_Ex_addLetter y_Ex_addLetter ∈ wsU := wU_t 381 (by decide +kernel) (by decide +kernel)
set_option maxRecDepth 20000 in
theorem cd_Ex_addLetter : Cond.code y_Ex_addLetter c_Ex_addLetter 3 (some .int) ∈ wsU := wU_t 382 (rfl) (by decide +kernel)
theorem m_Pr_62 : Cond.methodLink R_Pr 62 y_Pr_setFactor ∈ wsU := wU_t 383 (by decide +kernel) (by decide +kernel)
theorem im_Pr_setFactor : Cond.instanceMethod y_Pr_setFactor ∈ wsU := wU_t 385 (by decide +kernel) (by decide +kernel)
set_option maxRecDepth 20000 in
theorem cd_Pr_setFactor : Cond.code y_Pr_setFactor c_Pr_setFactor 4 none ∈ wsU := wU_t 386 (rfl) (by decide +kernel)
theorem m_Pr_66 : Cond.methodLink R_Pr 66 y_Pr_acceptOpening ∈ wsU := wU_t 387 (by decide +kernel) (by decide +kernel)
theorem im_Pr_acceptOpening : Cond.instanceMethod y_Pr_acceptOpening ∈ wsU := wU_t 389 (by decide +kernel) (by decide +kernel)
set_option maxRecDepth 20000 in
theorem cd_Pr_acceptOpening : Cond.code y_Pr_acceptOpening c_Pr_acceptOpening 1 (some .boolean) ∈ wsU := wU_t 390 (rfl) (by decide +kernel)
theorem m_Pr_70 : Cond.methodLink R_Pr 70 y_Pr_acceptClosing ∈ wsU := wU_t 391 (by decide +kernel) (by decide +kernel)
theorem im_Pr_acceptClosing : Cond.instanceMethod y_Pr_acceptClosing ∈ wsU := wU_t 393 (by decide +kernel) (by decide +kernel)
set_option maxRecDepth 20000 in
theorem cd_Pr_acceptClosing : Cond.code y_Pr_acceptClosing c_Pr_acceptClosing 2 (some .boolean) ∈ wsU := wU_t 394 (rfl) (by decide +kernel)
theorem m_Pr_49 : Cond.methodLink R_Pr 49 y_Pr_endRow ∈ wsU := wU_t 395 (by decide +kernel) (by decide +kernel)
theorem im_Pr_endRow : Cond.instanceMethod y_Pr_endRow ∈ wsU := wU_t 397 (by decide +kernel) (by decide +kernel)
set_option maxRecDepth 20000 in
theorem cd_Pr_endRow : Cond.code y_Pr_endRow c_Pr_endRow 1 none ∈ wsU := wU_t 398 (rfl) (by decide +kernel)
theorem m_Pr_100 : Cond.methodLink R_Pr 100 y_Pt_addAlternative ∈ wsU := wU_t 399 (by decide +kernel) (by decide +kernel)
theorem im_Pt_addAlternative : Cond.instanceMethod y_Pt_addAlternative ∈ wsU := wU_t 400 (by decide +kernel) (by decide +kernel)
theorem se_Pt_addAlternative : Cond.selects R_Pt y_Pt_addAlternative y_Pt_addAlternative ∈ wsU := wU_t 401 (by decide +kernel) (by decide +kernel)
set_option maxRecDepth 20000 in
theorem cd_Pt_addAlternative : Cond.code y_Pt_addAlternative c_Pt_addAlternative 2 none ∈ wsU := wU_t 402 (rfl) (by decide +kernel)
theorem m_Pr_52 : Cond.methodLink R_Pr 52 y_Ex_setWhole ∈ wsU := wU_t 403 (by decide +kernel) (by decide +kernel)
theorem im_Ex_setWhole : Cond.instanceMethod y_Ex_setWhole ∈ wsU := wU_t 404 (by decide +kernel) (by decide +kernel)
theorem se_Ex_setWhole : Cond.selects R_Ex y_Ex_setWhole y_Ex_setWhole ∈ wsU := wU_t 405 (by decide +kernel) (by decide +kernel)
set_option maxRecDepth 20000 in
theorem cd_Ex_setWhole : Cond.code y_Ex_setWhole c_Ex_setWhole 2 none ∈ wsU := wU_t 406 (rfl) (by decide +kernel)
theorem m_Ws_99 : Cond.methodLink R_Ws 99 y_Ws_putSpare ∈ wsU := wU_t 408 (by decide +kernel) (by decide +kernel)
theorem im_Ws_putSpare : Cond.instanceMethod y_Ws_putSpare ∈ wsU := wU_t 410 (by decide +kernel) (by decide +kernel)
set_option maxRecDepth 20000 in
theorem cd_Ws_putSpare : Cond.code y_Ws_putSpare c_Ws_putSpare 3 none ∈ wsU := wU_t 411 (rfl) (by decide +kernel)
theorem m_Lw_80 : Cond.methodLink R_Lw 80 y_Lw_has ∈ wsU := wU_t 412 (by decide +kernel) (by decide +kernel)
theorem sm_Lw_has : Cond.static y_Lw_has ∈ wsU := wU_t 413 (by decide +kernel) (by decide +kernel)
theorem m_Lw_21 : Cond.methodLink R_Lw 21 y_Ws_has ∈ wsU := wU_t 415 (by decide +kernel) (by decide +kernel)
theorem im_Ws_has : Cond.instanceMethod y_Ws_has ∈ wsU := wU_t 416 (by decide +kernel) (by decide +kernel)
theorem se_Ws_has : Cond.selects R_Ws y_Ws_has y_Ws_has ∈ wsU := wU_t 417 (by decide +kernel) (by decide +kernel)
set_option maxRecDepth 20000 in
theorem cd_Ws_has : Cond.code y_Ws_has c_Ws_has 6 (some .boolean) ∈ wsU := wU_t 418 (rfl) (by decide +kernel)
theorem m_Ws_105 : Cond.methodLink R_Ws 105 y_Ta_isWord ∈ wsU := wU_t 419 (by decide +kernel) (by decide +kernel)
theorem im_Ta_isWord : Cond.instanceMethod y_Ta_isWord ∈ wsU := wU_t 420 (by decide +kernel) (by decide +kernel)
theorem se_Ta_isWord : Cond.selects R_Ta y_Ta_isWord y_Ta_isWord ∈ wsU := wU_t 421 (by decide +kernel) (by decide +kernel)
set_option maxRecDepth 20000 in
theorem cd_Ta_isWord : Cond.code y_Ta_isWord c_Ta_isWord 3 (some .boolean) ∈ wsU := wU_t 422 (rfl) (by decide +kernel)
theorem m_Ws_111 : Cond.methodLink R_Ws 111 y_Ex_step ∈ wsU := wU_t 424 (by decide +kernel) (by decide +kernel)
theorem im_Ex_step : Cond.instanceMethod y_Ex_step ∈ wsU := wU_t 425 (by decide +kernel) (by decide +kernel)
theorem se_Ex_step : Cond.selects R_Ex y_Ex_step y_Ex_step ∈ wsU := wU_t 426 (by decide +kernel) (by decide +kernel)
set_option maxRecDepth 20000 in
theorem cd_Ex_step : Cond.code y_Ex_step c_Ex_step 3 (some .int) ∈ wsU := wU_t 427 (rfl) (by decide +kernel)
theorem m_Ex_43 : Cond.methodLink R_Ex 43 y_Ex_onward ∈ wsU := wU_t 428 (by decide +kernel) (by decide +kernel)
theorem im_Ex_onward : Cond.instanceMethod y_Ex_onward ∈ wsU := wU_t 429 (by decide +kernel) (by decide +kernel)
theorem se_Ex_onward : Cond.selects R_Ex y_Ex_onward y_Ex_onward ∈ wsU := wU_t 430 (by decide +kernel) (by decide +kernel)
set_option maxRecDepth 20000 in
theorem cd_Ex_onward : Cond.code y_Ex_onward c_Ex_onward 4 (some .int) ∈ wsU := wU_t 431 (rfl) (by decide +kernel)
theorem m_Ws_115 : Cond.methodLink R_Ws 115 y_Ex_accepts ∈ wsU := wU_t 432 (by decide +kernel) (by decide +kernel)
theorem im_Ex_accepts : Cond.instanceMethod y_Ex_accepts ∈ wsU := wU_t 433 (by decide +kernel) (by decide +kernel)
theorem se_Ex_accepts : Cond.selects R_Ex y_Ex_accepts y_Ex_accepts ∈ wsU := wU_t 434 (by decide +kernel) (by decide +kernel)
set_option maxRecDepth 20000 in
theorem cd_Ex_accepts : Cond.code y_Ex_accepts c_Ex_accepts 2 (some .boolean) ∈ wsU := wU_t 435 (rfl) (by decide +kernel)
theorem m_Lw_83 : Cond.methodLink R_Lw 83 y_Lw_compare ∈ wsU := wU_t 436 (by decide +kernel) (by decide +kernel)
theorem sm_Lw_compare : Cond.static y_Lw_compare ∈ wsU := wU_t 437 (by decide +kernel) (by decide +kernel)
theorem m_Lw_25 : Cond.methodLink R_Lw 25 y_Ws_compare ∈ wsU := wU_t 439 (by decide +kernel) (by decide +kernel)
theorem im_Ws_compare : Cond.instanceMethod y_Ws_compare ∈ wsU := wU_t 440 (by decide +kernel) (by decide +kernel)
theorem se_Ws_compare : Cond.selects R_Ws y_Ws_compare y_Ws_compare ∈ wsU := wU_t 441 (by decide +kernel) (by decide +kernel)
set_option maxRecDepth 20000 in
theorem cd_Ws_compare : Cond.code y_Ws_compare c_Ws_compare 3 (some .int) ∈ wsU := wU_t 442 (rfl) (by decide +kernel)
theorem m_Ws_118 : Cond.methodLink R_Ws 118 y_Se_part ∈ wsU := wU_t 443 (by decide +kernel) (by decide +kernel)
theorem im_Se_part : Cond.instanceMethod y_Se_part ∈ wsU := wU_t 444 (by decide +kernel) (by decide +kernel)
theorem se_Se_part : Cond.selects R_Se y_Se_part y_Se_part ∈ wsU := wU_t 445 (by decide +kernel) (by decide +kernel)
set_option maxRecDepth 20000 in
theorem cd_Se_part : Cond.code y_Se_part c_Se_part 7 (some .int) ∈ wsU := wU_t 446 (rfl) (by decide +kernel)
theorem m_Se_29 : Cond.methodLink R_Se 29 y_Ar_fillL ∈ wsU := wU_t 447 (by decide +kernel) (by decide +kernel)
theorem sm_Ar_fillL : Cond.static y_Ar_fillL ∈ wsU := wU_t 448 (by decide +kernel) (by decide +kernel)
set_option maxRecDepth 20000 in
theorem cd_Ar_fillL : Cond.code y_Ar_fillL c_Ar_fillL 5 none ∈ wsU := wU_t 449 (rfl) (by decide +kernel)
theorem m_Se_37 : Cond.methodLink R_Se 37 y_Se_append ∈ wsU := wU_t 450 (by decide +kernel) (by decide +kernel)
theorem im_Se_append : Cond.instanceMethod y_Se_append ∈ wsU := wU_t 452 (by decide +kernel) (by decide +kernel)
set_option maxRecDepth 20000 in
theorem cd_Se_append : Cond.code y_Se_append c_Se_append 4 none ∈ wsU := wU_t 453 (rfl) (by decide +kernel)
theorem m_Se_75 : Cond.methodLink R_Se 75 y_Ar_copyI ∈ wsU := wU_t 454 (by decide +kernel) (by decide +kernel)
theorem sm_Ar_copyI : Cond.static y_Ar_copyI ∈ wsU := wU_t 455 (by decide +kernel) (by decide +kernel)
set_option maxRecDepth 20000 in
theorem cd_Ar_copyI : Cond.code y_Ar_copyI c_Ar_copyI 3 (some (.array .int)) ∈ wsU := wU_t 456 (rfl) (by decide +kernel)
theorem m_Ar_316 : Cond.methodLink R_Ar 316 ⟨"[I", "clone", "()Ljava/lang/Object;"⟩ ∈ wsU := wU_t 457 (by decide +kernel) (by decide +kernel)
theorem k_Ar_317 : Cond.classLink R_Ar 317 "[I" ∈ wsU := wU_t 463 (by decide +kernel) (by decide +kernel)
theorem m_Ar_304 : Cond.methodLink R_Ar 304 y_Mt_min ∈ wsU := wU_t 464 (by decide +kernel) (by decide +kernel)
theorem sm_Mt_min : Cond.static y_Mt_min ∈ wsU := wU_t 465 (by decide +kernel) (by decide +kernel)
set_option maxRecDepth 20000 in
theorem cd_Mt_min : Cond.code y_Mt_min c_Mt_min 2 (some .int) ∈ wsU := wU_t 466 (rfl) (by decide +kernel)
theorem m_Ar_150 : Cond.methodLink R_Ar 150 arraycopyName ∈ wsU := wU_t 467 (by decide +kernel) (by decide +kernel)
theorem sm_Sy_arraycopy : Cond.static arraycopyName ∈ wsU := wU_t 468 (by decide +kernel) (by decide +kernel)
theorem nm_Sy_arraycopy : Cond.native arraycopyName ∈ wsU := wU_t 469 (by decide +kernel) (by decide +kernel)
theorem co_Se_41 : Cond.constant R_Se 41 65537 ∈ wsU := wU_t 470 (by decide +kernel) (by decide +kernel)
theorem m_Se_42 : Cond.methodLink R_Se 42 y_Ex_accepts ∈ wsU := wU_t 471 (by decide +kernel) (by decide +kernel)
theorem m_Se_46 : Cond.methodLink R_Se 46 y_Se_whoAlone ∈ wsU := wU_t 472 (by decide +kernel) (by decide +kernel)
theorem sm_Se_whoAlone : Cond.static y_Se_whoAlone ∈ wsU := wU_t 473 (by decide +kernel) (by decide +kernel)
set_option maxRecDepth 20000 in
theorem cd_Se_whoAlone : Cond.code y_Se_whoAlone c_Se_whoAlone 2 (some .int) ∈ wsU := wU_t 474 (rfl) (by decide +kernel)
theorem m_Se_50 : Cond.methodLink R_Se 50 y_Se_spellWay ∈ wsU := wU_t 475 (by decide +kernel) (by decide +kernel)
theorem im_Se_spellWay : Cond.instanceMethod y_Se_spellWay ∈ wsU := wU_t 477 (by decide +kernel) (by decide +kernel)
set_option maxRecDepth 20000 in
theorem cd_Se_spellWay : Cond.code y_Se_spellWay c_Se_spellWay 6 none ∈ wsU := wU_t 478 (rfl) (by decide +kernel)
theorem m_Se_58 : Cond.methodLink R_Se 58 y_Wo_resize ∈ wsU := wU_t 479 (by decide +kernel) (by decide +kernel)
theorem im_Wo_resize : Cond.instanceMethod y_Wo_resize ∈ wsU := wU_t 480 (by decide +kernel) (by decide +kernel)
theorem se_Wo_resize : Cond.selects R_Wo y_Wo_resize y_Wo_resize ∈ wsU := wU_t 481 (by decide +kernel) (by decide +kernel)
set_option maxRecDepth 20000 in
theorem cd_Wo_resize : Cond.code y_Wo_resize c_Wo_resize 2 none ∈ wsU := wU_t 482 (rfl) (by decide +kernel)
theorem m_Se_54 : Cond.methodLink R_Se 54 y_Se_goOn ∈ wsU := wU_t 483 (by decide +kernel) (by decide +kernel)
theorem im_Se_goOn : Cond.instanceMethod y_Se_goOn ∈ wsU := wU_t 485 (by decide +kernel) (by decide +kernel)
set_option maxRecDepth 20000 in
theorem cd_Se_goOn : Cond.code y_Se_goOn c_Se_goOn 9 none ∈ wsU := wU_t 486 (rfl) (by decide +kernel)
theorem m_Se_64 : Cond.methodLink R_Se 64 y_Ex_onward ∈ wsU := wU_t 487 (by decide +kernel) (by decide +kernel)
theorem m_Se_71 : Cond.methodLink R_Se 71 y_Se_markIfNew ∈ wsU := wU_t 488 (by decide +kernel) (by decide +kernel)
theorem im_Se_markIfNew : Cond.instanceMethod y_Se_markIfNew ∈ wsU := wU_t 490 (by decide +kernel) (by decide +kernel)
set_option maxRecDepth 20000 in
theorem cd_Se_markIfNew : Cond.code y_Se_markIfNew c_Se_markIfNew 7 (some .boolean) ∈ wsU := wU_t 491 (rfl) (by decide +kernel)
theorem m_Lw_87 : Cond.methodLink R_Lw 87 y_Lw_contains ∈ wsU := wU_t 492 (by decide +kernel) (by decide +kernel)
theorem sm_Lw_contains : Cond.static y_Lw_contains ∈ wsU := wU_t 493 (by decide +kernel) (by decide +kernel)
theorem m_Lw_29 : Cond.methodLink R_Lw 29 y_Ws_contains ∈ wsU := wU_t 495 (by decide +kernel) (by decide +kernel)
theorem im_Ws_contains : Cond.instanceMethod y_Ws_contains ∈ wsU := wU_t 496 (by decide +kernel) (by decide +kernel)
theorem se_Ws_contains : Cond.selects R_Ws y_Ws_contains y_Ws_contains ∈ wsU := wU_t 497 (by decide +kernel) (by decide +kernel)
set_option maxRecDepth 20000 in
theorem cd_Ws_contains : Cond.code y_Ws_contains c_Ws_contains 3 (some .boolean) ∈ wsU := wU_t 498 (rfl) (by decide +kernel)
theorem m_Lw_90 : Cond.methodLink R_Lw 90 y_Lw_least ∈ wsU := wU_t 499 (by decide +kernel) (by decide +kernel)
theorem sm_Lw_least : Cond.static y_Lw_least ∈ wsU := wU_t 500 (by decide +kernel) (by decide +kernel)
theorem m_Lw_33 : Cond.methodLink R_Lw 33 y_Ws_least ∈ wsU := wU_t 502 (by decide +kernel) (by decide +kernel)
theorem im_Ws_least : Cond.instanceMethod y_Ws_least ∈ wsU := wU_t 503 (by decide +kernel) (by decide +kernel)
theorem se_Ws_least : Cond.selects R_Ws y_Ws_least y_Ws_least ∈ wsU := wU_t 504 (by decide +kernel) (by decide +kernel)
set_option maxRecDepth 20000 in
theorem cd_Ws_least : Cond.code y_Ws_least c_Ws_least 3 (some .int) ∈ wsU := wU_t 505 (rfl) (by decide +kernel)
theorem m_Lw_93 : Cond.methodLink R_Lw 93 y_Lw_count ∈ wsU := wU_t 506 (by decide +kernel) (by decide +kernel)
theorem sm_Lw_count : Cond.static y_Lw_count ∈ wsU := wU_t 507 (by decide +kernel) (by decide +kernel)
theorem m_Lw_36 : Cond.methodLink R_Lw 36 y_Ws_count ∈ wsU := wU_t 509 (by decide +kernel) (by decide +kernel)
theorem im_Ws_count : Cond.instanceMethod y_Ws_count ∈ wsU := wU_t 510 (by decide +kernel) (by decide +kernel)
theorem se_Ws_count : Cond.selects R_Ws y_Ws_count y_Ws_count ∈ wsU := wU_t 511 (by decide +kernel) (by decide +kernel)
set_option maxRecDepth 20000 in
theorem cd_Ws_count : Cond.code y_Ws_count c_Ws_count 3 (some .long) ∈ wsU := wU_t 512 (rfl) (by decide +kernel)
theorem m_Ws_123 : Cond.methodLink R_Ws 123 y_Ws_checkLength ∈ wsU := wU_t 513 (by decide +kernel) (by decide +kernel)
theorem sm_Ws_checkLength : Cond.static y_Ws_checkLength ∈ wsU := wU_t 514 (by decide +kernel) (by decide +kernel)
set_option maxRecDepth 20000 in
theorem cd_Ws_checkLength : Cond.code y_Ws_checkLength c_Ws_checkLength 1 none ∈ wsU := wU_t 515 (rfl) (by decide +kernel)
theorem m_Ws_126 : Cond.methodLink R_Ws 126 y_Ma_build ∈ wsU := wU_t 517 (by decide +kernel) (by decide +kernel)
theorem im_Ma_build : Cond.instanceMethod y_Ma_build ∈ wsU := wU_t 518 (by decide +kernel) (by decide +kernel)
theorem se_Ma_build : Cond.selects R_Ma y_Ma_build y_Ma_build ∈ wsU := wU_t 519 (by decide +kernel) (by decide +kernel)
set_option maxRecDepth 20000 in
theorem cd_Ma_build : Cond.code y_Ma_build c_Ma_build 6 none ∈ wsU := wU_t 520 (rfl) (by decide +kernel)
theorem m_Ma_40 : Cond.methodLink R_Ma 40 y_Ar_fillI ∈ wsU := wU_t 521 (by decide +kernel) (by decide +kernel)
theorem m_Ma_46 : Cond.methodLink R_Ma 46 y_Ma_numberOf ∈ wsU := wU_t 522 (by decide +kernel) (by decide +kernel)
theorem im_Ma_numberOf : Cond.instanceMethod y_Ma_numberOf ∈ wsU := wU_t 524 (by decide +kernel) (by decide +kernel)
set_option maxRecDepth 20000 in
theorem cd_Ma_numberOf : Cond.code y_Ma_numberOf c_Ma_numberOf 3 (some .int) ∈ wsU := wU_t 525 (rfl) (by decide +kernel)
theorem m_Ma_57 : Cond.methodLink R_Ma 57 y_Ex_accepts ∈ wsU := wU_t 526 (by decide +kernel) (by decide +kernel)
theorem m_Ma_50 : Cond.methodLink R_Ma 50 y_Ex_onward ∈ wsU := wU_t 527 (by decide +kernel) (by decide +kernel)
theorem m_Ws_130 : Cond.methodLink R_Ws 130 y_Ma_tally ∈ wsU := wU_t 528 (by decide +kernel) (by decide +kernel)
theorem im_Ma_tally : Cond.instanceMethod y_Ma_tally ∈ wsU := wU_t 529 (by decide +kernel) (by decide +kernel)
theorem se_Ma_tally : Cond.selects R_Ma y_Ma_tally y_Ma_tally ∈ wsU := wU_t 530 (by decide +kernel) (by decide +kernel)
set_option maxRecDepth 20000 in
theorem cd_Ma_tally : Cond.code y_Ma_tally c_Ma_tally 4 (some .long) ∈ wsU := wU_t 531 (rfl) (by decide +kernel)
theorem m_Ma_61 : Cond.methodLink R_Ma 61 y_Ma_tallyOver ∈ wsU := wU_t 532 (by decide +kernel) (by decide +kernel)
theorem im_Ma_tallyOver : Cond.instanceMethod y_Ma_tallyOver ∈ wsU := wU_t 534 (by decide +kernel) (by decide +kernel)
set_option maxRecDepth 20000 in
theorem cd_Ma_tallyOver : Cond.code y_Ma_tallyOver c_Ma_tallyOver 6 (some .long) ∈ wsU := wU_t 535 (rfl) (by decide +kernel)
theorem m_Lw_96 : Cond.methodLink R_Lw 96 y_Lw_word ∈ wsU := wU_t 536 (by decide +kernel) (by decide +kernel)
theorem sm_Lw_word : Cond.static y_Lw_word ∈ wsU := wU_t 537 (by decide +kernel) (by decide +kernel)
theorem m_Lw_40 : Cond.methodLink R_Lw 40 y_Ws_word ∈ wsU := wU_t 539 (by decide +kernel) (by decide +kernel)
theorem im_Ws_word : Cond.instanceMethod y_Ws_word ∈ wsU := wU_t 540 (by decide +kernel) (by decide +kernel)
theorem se_Ws_word : Cond.selects R_Ws y_Ws_word y_Ws_word ∈ wsU := wU_t 541 (by decide +kernel) (by decide +kernel)
set_option maxRecDepth 20000 in
theorem cd_Ws_word : Cond.code y_Ws_word c_Ws_word 5 (some .boolean) ∈ wsU := wU_t 542 (rfl) (by decide +kernel)
theorem m_Ws_136 : Cond.methodLink R_Ws 136 y_Wo_resize ∈ wsU := wU_t 544 (by decide +kernel) (by decide +kernel)
theorem m_Ws_139 : Cond.methodLink R_Ws 139 y_Ma_spell ∈ wsU := wU_t 545 (by decide +kernel) (by decide +kernel)
theorem im_Ma_spell : Cond.instanceMethod y_Ma_spell ∈ wsU := wU_t 546 (by decide +kernel) (by decide +kernel)
theorem se_Ma_spell : Cond.selects R_Ma y_Ma_spell y_Ma_spell ∈ wsU := wU_t 547 (by decide +kernel) (by decide +kernel)
set_option maxRecDepth 20000 in
theorem cd_Ma_spell : Cond.code y_Ma_spell c_Ma_spell 12 none ∈ wsU := wU_t 548 (rfl) (by decide +kernel)
theorem m_Ma_65 : Cond.methodLink R_Ma 65 y_Wo_resize ∈ wsU := wU_t 549 (by decide +kernel) (by decide +kernel)
theorem m_Lw_100 : Cond.methodLink R_Lw 100 y_Lw_states ∈ wsU := wU_t 550 (by decide +kernel) (by decide +kernel)
theorem sm_Lw_states : Cond.static y_Lw_states ∈ wsU := wU_t 551 (by decide +kernel) (by decide +kernel)
theorem m_Lw_44 : Cond.methodLink R_Lw 44 y_Ws_states ∈ wsU := wU_t 553 (by decide +kernel) (by decide +kernel)
theorem im_Ws_states : Cond.instanceMethod y_Ws_states ∈ wsU := wU_t 554 (by decide +kernel) (by decide +kernel)
theorem se_Ws_states : Cond.selects R_Ws y_Ws_states y_Ws_states ∈ wsU := wU_t 555 (by decide +kernel) (by decide +kernel)
set_option maxRecDepth 20000 in
theorem cd_Ws_states : Cond.code y_Ws_states c_Ws_states 2 (some .int) ∈ wsU := wU_t 556 (rfl) (by decide +kernel)
theorem m_Ws_143 : Cond.methodLink R_Ws 143 y_Ma_groups ∈ wsU := wU_t 557 (by decide +kernel) (by decide +kernel)
theorem im_Ma_groups : Cond.instanceMethod y_Ma_groups ∈ wsU := wU_t 558 (by decide +kernel) (by decide +kernel)
theorem se_Ma_groups : Cond.selects R_Ma y_Ma_groups y_Ma_groups ∈ wsU := wU_t 559 (by decide +kernel) (by decide +kernel)
set_option maxRecDepth 20000 in
theorem cd_Ma_groups : Cond.code y_Ma_groups c_Ma_groups 4 (some .int) ∈ wsU := wU_t 560 (rfl) (by decide +kernel)
theorem m_Ma_74 : Cond.methodLink R_Ma 74 arraycopyName ∈ wsU := wU_t 561 (by decide +kernel) (by decide +kernel)
theorem m_Ma_80 : Cond.methodLink R_Ma 80 y_Ma_refine ∈ wsU := wU_t 562 (by decide +kernel) (by decide +kernel)
theorem im_Ma_refine : Cond.instanceMethod y_Ma_refine ∈ wsU := wU_t 564 (by decide +kernel) (by decide +kernel)
set_option maxRecDepth 20000 in
theorem cd_Ma_refine : Cond.code y_Ma_refine c_Ma_refine 4 (some .int) ∈ wsU := wU_t 565 (rfl) (by decide +kernel)
theorem m_Ma_84 : Cond.methodLink R_Ma 84 y_Ma_firstLike ∈ wsU := wU_t 566 (by decide +kernel) (by decide +kernel)
theorem im_Ma_firstLike : Cond.instanceMethod y_Ma_firstLike ∈ wsU := wU_t 568 (by decide +kernel) (by decide +kernel)
set_option maxRecDepth 20000 in
theorem cd_Ma_firstLike : Cond.code y_Ma_firstLike c_Ma_firstLike 3 (some .int) ∈ wsU := wU_t 569 (rfl) (by decide +kernel)
theorem m_Ma_87 : Cond.methodLink R_Ma 87 y_Ma_alike ∈ wsU := wU_t 570 (by decide +kernel) (by decide +kernel)
theorem im_Ma_alike : Cond.instanceMethod y_Ma_alike ∈ wsU := wU_t 572 (by decide +kernel) (by decide +kernel)
set_option maxRecDepth 20000 in
theorem cd_Ma_alike : Cond.code y_Ma_alike c_Ma_alike 7 (some .boolean) ∈ wsU := wU_t 573 (rfl) (by decide +kernel)
theorem m_Lw_103 : Cond.methodLink R_Lw 103 y_Lw_turn ∈ wsU := wU_t 574 (by decide +kernel) (by decide +kernel)
theorem sm_Lw_turn : Cond.static y_Lw_turn ∈ wsU := wU_t 575 (by decide +kernel) (by decide +kernel)
theorem m_Lw_47 : Cond.methodLink R_Lw 47 y_Ws_turn ∈ wsU := wU_t 577 (by decide +kernel) (by decide +kernel)
theorem im_Ws_turn : Cond.instanceMethod y_Ws_turn ∈ wsU := wU_t 578 (by decide +kernel) (by decide +kernel)
theorem se_Ws_turn : Cond.selects R_Ws y_Ws_turn y_Ws_turn ∈ wsU := wU_t 579 (by decide +kernel) (by decide +kernel)
set_option maxRecDepth 20000 in
theorem cd_Ws_turn : Cond.code y_Ws_turn c_Ws_turn 3 none ∈ wsU := wU_t 580 (rfl) (by decide +kernel)
theorem m_Ws_146 : Cond.methodLink R_Ws 146 y_Ex_becomeReverse ∈ wsU := wU_t 581 (by decide +kernel) (by decide +kernel)
theorem im_Ex_becomeReverse : Cond.instanceMethod y_Ex_becomeReverse ∈ wsU := wU_t 582 (by decide +kernel) (by decide +kernel)
theorem se_Ex_becomeReverse : Cond.selects R_Ex y_Ex_becomeReverse y_Ex_becomeReverse ∈ wsU := wU_t 583 (by decide +kernel) (by decide +kernel)
set_option maxRecDepth 20000 in
theorem cd_Ex_becomeReverse : Cond.code y_Ex_becomeReverse c_Ex_becomeReverse 3 none ∈ wsU := wU_t 584 (rfl) (by decide +kernel)
theorem m_Ex_47 : Cond.methodLink R_Ex 47 y_Ex_clear ∈ wsU := wU_t 585 (by decide +kernel) (by decide +kernel)
theorem m_Ex_50 : Cond.methodLink R_Ex 50 y_Ex_link ∈ wsU := wU_t 586 (by decide +kernel) (by decide +kernel)
theorem m_Ex_54 : Cond.methodLink R_Ex 54 arraycopyName ∈ wsU := wU_t 587 (by decide +kernel) (by decide +kernel)
theorem m_Lw_111 : Cond.methodLink R_Lw 111 y_Lw_letter ∈ wsU := wU_t 588 (by decide +kernel) (by decide +kernel)
theorem sm_Lw_letter : Cond.static y_Lw_letter ∈ wsU := wU_t 589 (by decide +kernel) (by decide +kernel)
theorem k_Lw_54 : Cond.classLink R_Lw 54 "java/lang/IndexOutOfBoundsException" ∈ wsU := wU_t 591 (by decide +kernel) (by decide +kernel)
theorem m_Lw_51 : Cond.methodLink R_Lw 51 y_Ws_letter ∈ wsU := wU_t 592 (by decide +kernel) (by decide +kernel)
theorem im_Ws_letter : Cond.instanceMethod y_Ws_letter ∈ wsU := wU_t 593 (by decide +kernel) (by decide +kernel)
theorem se_Ws_letter : Cond.selects R_Ws y_Ws_letter y_Ws_letter ∈ wsU := wU_t 594 (by decide +kernel) (by decide +kernel)
set_option maxRecDepth 20000 in
theorem cd_Ws_letter : Cond.code y_Ws_letter c_Ws_letter 2 (some .int) ∈ wsU := wU_t 595 (rfl) (by decide +kernel)
theorem k_Ws_149 : Cond.classLink R_Ws 149 "java/lang/IndexOutOfBoundsException" ∈ wsU := wU_t 596 (by decide +kernel) (by decide +kernel)
theorem m_Ws_153 : Cond.methodLink R_Ws 153 ⟨"java/lang/IndexOutOfBoundsException", "<init>", "(Ljava/lang/String;)V"⟩ ∈ wsU := wU_t 606 (by decide +kernel) (by decide +kernel)
theorem k_Lw_57 : Cond.classLink R_Lw 57 R_Md ∈ wsU := wU_t 612 (by decide +kernel) (by decide +kernel)
theorem it_Md : Cond.instantiable R_Md 31 ∈ wsU := wU_t 613 (by decide +kernel) (by decide +kernel)
theorem m_Lw_59 : Cond.methodLink R_Lw 59 y_Md_init ∈ wsU := wU_t 614 (by decide +kernel) (by decide +kernel)
theorem im_Md_init : Cond.instanceMethod y_Md_init ∈ wsU := wU_t 615 (by decide +kernel) (by decide +kernel)
set_option maxRecDepth 20000 in
theorem cd_Md_init : Cond.code y_Md_init c_Md_init 1 none ∈ wsU := wU_t 616 (rfl) (by decide +kernel)
theorem m_Md_3 : Cond.methodLink R_Md 3 objectInit ∈ wsU := wU_t 617 (by decide +kernel) (by decide +kernel)
theorem co_Md_54 : Cond.constant R_Md 54 66049 ∈ wsU := wU_t 618 (by decide +kernel) (by decide +kernel)
theorem f_Md_83 : Cond.fieldLink R_Md 83 "WordSetsModel" "thrown" "I" ∈ wsU := wU_t 619 (by decide +kernel) (by decide +kernel)
theorem f_Md_90 : Cond.fieldLink R_Md 90 "WordSetsModel" "taped" "I" ∈ wsU := wU_t 620 (by decide +kernel) (by decide +kernel)
theorem f_Md_9 : Cond.fieldLink R_Md 9 "WordSetsModel" "tape" "[I" ∈ wsU := wU_t 621 (by decide +kernel) (by decide +kernel)
theorem f_Md_13 : Cond.fieldLink R_Md 13 "WordSetsModel" "place" "I" ∈ wsU := wU_t 622 (by decide +kernel) (by decide +kernel)
theorem f_Md_17 : Cond.fieldLink R_Md 17 "WordSetsModel" "many" "[I" ∈ wsU := wU_t 623 (by decide +kernel) (by decide +kernel)
theorem f_Md_20 : Cond.fieldLink R_Md 20 "WordSetsModel" "letter" "[I" ∈ wsU := wU_t 624 (by decide +kernel) (by decide +kernel)
theorem f_Md_23 : Cond.fieldLink R_Md 23 "WordSetsModel" "first" "[I" ∈ wsU := wU_t 625 (by decide +kernel) (by decide +kernel)
theorem f_Md_26 : Cond.fieldLink R_Md 26 "WordSetsModel" "last" "[I" ∈ wsU := wU_t 626 (by decide +kernel) (by decide +kernel)
theorem f_Md_29 : Cond.fieldLink R_Md 29 "WordSetsModel" "follow" "[I" ∈ wsU := wU_t 627 (by decide +kernel) (by decide +kernel)
theorem f_Md_32 : Cond.fieldLink R_Md 32 "WordSetsModel" "empty" "[Z" ∈ wsU := wU_t 628 (by decide +kernel) (by decide +kernel)
theorem f_Md_154 : Cond.fieldLink R_Md 154 "WordSetsModel" "size" "I" ∈ wsU := wU_t 629 (by decide +kernel) (by decide +kernel)
theorem f_Md_36 : Cond.fieldLink R_Md 36 "WordSetsModel" "word" "[I" ∈ wsU := wU_t 630 (by decide +kernel) (by decide +kernel)
theorem f_Md_93 : Cond.fieldLink R_Md 93 "WordSetsModel" "at" "I" ∈ wsU := wU_t 631 (by decide +kernel) (by decide +kernel)
theorem f_Md_99 : Cond.fieldLink R_Md 99 "WordSetsModel" "wrong" "I" ∈ wsU := wU_t 632 (by decide +kernel) (by decide +kernel)
theorem f_Md_118 : Cond.fieldLink R_Md 118 "WordSetsModel" "depth" "I" ∈ wsU := wU_t 633 (by decide +kernel) (by decide +kernel)
theorem f_Md_96 : Cond.fieldLink R_Md 96 "WordSetsModel" "parts" "I" ∈ wsU := wU_t 634 (by decide +kernel) (by decide +kernel)
theorem f_Md_39 : Cond.fieldLink R_Md 39 "WordSetsModel" "partEmpty" "[Z" ∈ wsU := wU_t 635 (by decide +kernel) (by decide +kernel)
theorem f_Md_42 : Cond.fieldLink R_Md 42 "WordSetsModel" "partFirst" "[I" ∈ wsU := wU_t 636 (by decide +kernel) (by decide +kernel)
theorem f_Md_45 : Cond.fieldLink R_Md 45 "WordSetsModel" "partLast" "[I" ∈ wsU := wU_t 637 (by decide +kernel) (by decide +kernel)
theorem f_Md_102 : Cond.fieldLink R_Md 102 "WordSetsModel" "letters" "I" ∈ wsU := wU_t 638 (by decide +kernel) (by decide +kernel)
theorem f_Md_48 : Cond.fieldLink R_Md 48 "WordSetsModel" "newLetter" "[I" ∈ wsU := wU_t 639 (by decide +kernel) (by decide +kernel)
theorem f_Md_51 : Cond.fieldLink R_Md 51 "WordSetsModel" "newFollow" "[I" ∈ wsU := wU_t 640 (by decide +kernel) (by decide +kernel)
theorem f_Md_55 : Cond.fieldLink R_Md 55 "WordSetsModel" "found" "[I" ∈ wsU := wU_t 641 (by decide +kernel) (by decide +kernel)
theorem f_Md_58 : Cond.fieldLink R_Md 58 "WordSetsModel" "from" "[I" ∈ wsU := wU_t 642 (by decide +kernel) (by decide +kernel)
theorem f_Md_61 : Cond.fieldLink R_Md 61 "WordSetsModel" "by" "[I" ∈ wsU := wU_t 643 (by decide +kernel) (by decide +kernel)
theorem f_Md_64 : Cond.fieldLink R_Md 64 "WordSetsModel" "known" "[Z" ∈ wsU := wU_t 644 (by decide +kernel) (by decide +kernel)
theorem f_Md_67 : Cond.fieldLink R_Md 67 "WordSetsModel" "ways" "[J" ∈ wsU := wU_t 645 (by decide +kernel) (by decide +kernel)
theorem f_Md_71 : Cond.fieldLink R_Md 71 "WordSetsModel" "part" "[I" ∈ wsU := wU_t 646 (by decide +kernel) (by decide +kernel)
theorem f_Md_74 : Cond.fieldLink R_Md 74 "WordSetsModel" "newPart" "[I" ∈ wsU := wU_t 647 (by decide +kernel) (by decide +kernel)
theorem f_Md_77 : Cond.fieldLink R_Md 77 "WordSetsModel" "sumOf" "[I" ∈ wsU := wU_t 648 (by decide +kernel) (by decide +kernel)
theorem f_Md_80 : Cond.fieldLink R_Md 80 "WordSetsModel" "rowOf" "[I" ∈ wsU := wU_t 649 (by decide +kernel) (by decide +kernel)
theorem ac_boolean : Cond.arrayClass .boolean ∈ wsU := wU_t 713 (by decide +kernel) (by decide +kernel)
theorem m_Lw_68 : Cond.methodLink R_Lw 68 y_Md_thrown ∈ wsU := wU_t 714 (by decide +kernel) (by decide +kernel)
theorem im_Md_thrown : Cond.instanceMethod y_Md_thrown ∈ wsU := wU_t 715 (by decide +kernel) (by decide +kernel)
theorem se_Md_thrown : Cond.selects R_Md y_Md_thrown y_Md_thrown ∈ wsU := wU_t 716 (by decide +kernel) (by decide +kernel)
set_option maxRecDepth 20000 in
theorem cd_Md_thrown : Cond.code y_Md_thrown c_Md_thrown 1 (some .int) ∈ wsU := wU_t 717 (rfl) (by decide +kernel)
theorem m_Lw_67 : Cond.methodLink R_Lw 67 y_Md_feed ∈ wsU := wU_t 718 (by decide +kernel) (by decide +kernel)
theorem im_Md_feed : Cond.instanceMethod y_Md_feed ∈ wsU := wU_t 719 (by decide +kernel) (by decide +kernel)
theorem se_Md_feed : Cond.selects R_Md y_Md_feed y_Md_feed ∈ wsU := wU_t 720 (by decide +kernel) (by decide +kernel)
set_option maxRecDepth 20000 in
theorem cd_Md_feed : Cond.code y_Md_feed c_Md_feed 5 (some .int) ∈ wsU := wU_t 721 (rfl) (by decide +kernel)
theorem m_Md_86 : Cond.methodLink R_Md 86 y_Md_in ∈ wsU := wU_t 722 (by decide +kernel) (by decide +kernel)
theorem sm_Md_in : Cond.static y_Md_in ∈ wsU := wU_t 723 (by decide +kernel) (by decide +kernel)
set_option maxRecDepth 20000 in
theorem cd_Md_in : Cond.code y_Md_in c_Md_in 3 (some .boolean) ∈ wsU := wU_t 724 (rfl) (by decide +kernel)
theorem m_Lw_75 : Cond.methodLink R_Lw 75 y_Md_read ∈ wsU := wU_t 725 (by decide +kernel) (by decide +kernel)
theorem im_Md_read : Cond.instanceMethod y_Md_read ∈ wsU := wU_t 726 (by decide +kernel) (by decide +kernel)
theorem se_Md_read : Cond.selects R_Md y_Md_read y_Md_read ∈ wsU := wU_t 727 (by decide +kernel) (by decide +kernel)
set_option maxRecDepth 20000 in
theorem cd_Md_read : Cond.code y_Md_read c_Md_read 4 (some .int) ∈ wsU := wU_t 728 (rfl) (by decide +kernel)
theorem m_Md_135 : Cond.methodLink R_Md 135 y_Md_isSlot ∈ wsU := wU_t 729 (by decide +kernel) (by decide +kernel)
theorem sm_Md_isSlot : Cond.static y_Md_isSlot ∈ wsU := wU_t 730 (by decide +kernel) (by decide +kernel)
set_option maxRecDepth 20000 in
theorem cd_Md_isSlot : Cond.code y_Md_isSlot c_Md_isSlot 1 (some .boolean) ∈ wsU := wU_t 731 (rfl) (by decide +kernel)
theorem m_Md_139 : Cond.methodLink R_Md 139 y_Md_sum ∈ wsU := wU_t 732 (by decide +kernel) (by decide +kernel)
theorem im_Md_sum : Cond.instanceMethod y_Md_sum ∈ wsU := wU_t 734 (by decide +kernel) (by decide +kernel)
set_option maxRecDepth 20000 in
theorem cd_Md_sum : Cond.code y_Md_sum c_Md_sum 4 (some .int) ∈ wsU := wU_t 735 (rfl) (by decide +kernel)
theorem m_Md_110 : Cond.methodLink R_Md 110 y_Md_see ∈ wsU := wU_t 736 (by decide +kernel) (by decide +kernel)
theorem im_Md_see : Cond.instanceMethod y_Md_see ∈ wsU := wU_t 738 (by decide +kernel) (by decide +kernel)
set_option maxRecDepth 20000 in
theorem cd_Md_see : Cond.code y_Md_see c_Md_see 1 (some .int) ∈ wsU := wU_t 739 (rfl) (by decide +kernel)
theorem m_Md_121 : Cond.methodLink R_Md 121 y_Md_atom ∈ wsU := wU_t 740 (by decide +kernel) (by decide +kernel)
theorem im_Md_atom : Cond.instanceMethod y_Md_atom ∈ wsU := wU_t 742 (by decide +kernel) (by decide +kernel)
set_option maxRecDepth 20000 in
theorem cd_Md_atom : Cond.code y_Md_atom c_Md_atom 2 (some .int) ∈ wsU := wU_t 743 (rfl) (by decide +kernel)
theorem m_Md_105 : Cond.methodLink R_Md 105 y_Md_wrong ∈ wsU := wU_t 744 (by decide +kernel) (by decide +kernel)
theorem im_Md_wrong : Cond.instanceMethod y_Md_wrong ∈ wsU := wU_t 746 (by decide +kernel) (by decide +kernel)
set_option maxRecDepth 20000 in
theorem cd_Md_wrong : Cond.code y_Md_wrong c_Md_wrong 1 none ∈ wsU := wU_t 747 (rfl) (by decide +kernel)
theorem m_Md_107 : Cond.methodLink R_Md 107 y_Md_part ∈ wsU := wU_t 748 (by decide +kernel) (by decide +kernel)
theorem im_Md_part : Cond.instanceMethod y_Md_part ∈ wsU := wU_t 750 (by decide +kernel) (by decide +kernel)
set_option maxRecDepth 20000 in
theorem cd_Md_part : Cond.code y_Md_part c_Md_part 4 (some .int) ∈ wsU := wU_t 751 (rfl) (by decide +kernel)
theorem m_Md_125 : Cond.methodLink R_Md 125 y_Md_repeated ∈ wsU := wU_t 752 (by decide +kernel) (by decide +kernel)
theorem im_Md_repeated : Cond.instanceMethod y_Md_repeated ∈ wsU := wU_t 754 (by decide +kernel) (by decide +kernel)
set_option maxRecDepth 20000 in
theorem cd_Md_repeated : Cond.code y_Md_repeated c_Md_repeated 3 (some .int) ∈ wsU := wU_t 755 (rfl) (by decide +kernel)
theorem m_Md_114 : Cond.methodLink R_Md 114 y_Md_follows ∈ wsU := wU_t 756 (by decide +kernel) (by decide +kernel)
theorem im_Md_follows : Cond.instanceMethod y_Md_follows ∈ wsU := wU_t 758 (by decide +kernel) (by decide +kernel)
set_option maxRecDepth 20000 in
theorem cd_Md_follows : Cond.code y_Md_follows c_Md_follows 4 none ∈ wsU := wU_t 759 (rfl) (by decide +kernel)
theorem m_Md_128 : Cond.methodLink R_Md 128 y_Md_behind ∈ wsU := wU_t 760 (by decide +kernel) (by decide +kernel)
theorem im_Md_behind : Cond.instanceMethod y_Md_behind ∈ wsU := wU_t 762 (by decide +kernel) (by decide +kernel)
set_option maxRecDepth 20000 in
theorem cd_Md_behind : Cond.code y_Md_behind c_Md_behind 3 (some .int) ∈ wsU := wU_t 763 (rfl) (by decide +kernel)
theorem m_Md_132 : Cond.methodLink R_Md 132 y_Md_either ∈ wsU := wU_t 764 (by decide +kernel) (by decide +kernel)
theorem im_Md_either : Cond.instanceMethod y_Md_either ∈ wsU := wU_t 766 (by decide +kernel) (by decide +kernel)
set_option maxRecDepth 20000 in
theorem cd_Md_either : Cond.code y_Md_either c_Md_either 3 (some .int) ∈ wsU := wU_t 767 (rfl) (by decide +kernel)
theorem m_Md_142 : Cond.methodLink R_Md 142 y_Md_says ∈ wsU := wU_t 768 (by decide +kernel) (by decide +kernel)
theorem im_Md_says : Cond.instanceMethod y_Md_says ∈ wsU := wU_t 770 (by decide +kernel) (by decide +kernel)
set_option maxRecDepth 20000 in
theorem cd_Md_says : Cond.code y_Md_says c_Md_says 2 (some .boolean) ∈ wsU := wU_t 771 (rfl) (by decide +kernel)
theorem m_Lw_79 : Cond.methodLink R_Lw 79 y_Md_place ∈ wsU := wU_t 772 (by decide +kernel) (by decide +kernel)
theorem im_Md_place : Cond.instanceMethod y_Md_place ∈ wsU := wU_t 773 (by decide +kernel) (by decide +kernel)
theorem se_Md_place : Cond.selects R_Md y_Md_place y_Md_place ∈ wsU := wU_t 774 (by decide +kernel) (by decide +kernel)
set_option maxRecDepth 20000 in
theorem cd_Md_place : Cond.code y_Md_place c_Md_place 1 (some .int) ∈ wsU := wU_t 775 (rfl) (by decide +kernel)
theorem m_Lw_82 : Cond.methodLink R_Lw 82 y_Md_has ∈ wsU := wU_t 776 (by decide +kernel) (by decide +kernel)
theorem im_Md_has : Cond.instanceMethod y_Md_has ∈ wsU := wU_t 777 (by decide +kernel) (by decide +kernel)
theorem se_Md_has : Cond.selects R_Md y_Md_has y_Md_has ∈ wsU := wU_t 778 (by decide +kernel) (by decide +kernel)
set_option maxRecDepth 20000 in
theorem cd_Md_has : Cond.code y_Md_has c_Md_has 5 (some .boolean) ∈ wsU := wU_t 779 (rfl) (by decide +kernel)
theorem m_Md_146 : Cond.methodLink R_Md 146 y_Md_step ∈ wsU := wU_t 780 (by decide +kernel) (by decide +kernel)
theorem im_Md_step : Cond.instanceMethod y_Md_step ∈ wsU := wU_t 782 (by decide +kernel) (by decide +kernel)
set_option maxRecDepth 20000 in
theorem cd_Md_step : Cond.code y_Md_step c_Md_step 7 (some .int) ∈ wsU := wU_t 783 (rfl) (by decide +kernel)
theorem m_Md_150 : Cond.methodLink R_Md 150 y_Md_tells ∈ wsU := wU_t 784 (by decide +kernel) (by decide +kernel)
theorem im_Md_tells : Cond.instanceMethod y_Md_tells ∈ wsU := wU_t 786 (by decide +kernel) (by decide +kernel)
set_option maxRecDepth 20000 in
theorem cd_Md_tells : Cond.code y_Md_tells c_Md_tells 3 (some .boolean) ∈ wsU := wU_t 787 (rfl) (by decide +kernel)
theorem m_Lw_86 : Cond.methodLink R_Lw 86 y_Md_compare ∈ wsU := wU_t 788 (by decide +kernel) (by decide +kernel)
theorem im_Md_compare : Cond.instanceMethod y_Md_compare ∈ wsU := wU_t 789 (by decide +kernel) (by decide +kernel)
theorem se_Md_compare : Cond.selects R_Md y_Md_compare y_Md_compare ∈ wsU := wU_t 790 (by decide +kernel) (by decide +kernel)
set_option maxRecDepth 20000 in
theorem cd_Md_compare : Cond.code y_Md_compare c_Md_compare 4 (some .int) ∈ wsU := wU_t 791 (rfl) (by decide +kernel)
theorem m_Md_158 : Cond.methodLink R_Md 158 y_Md_seek ∈ wsU := wU_t 792 (by decide +kernel) (by decide +kernel)
theorem im_Md_seek : Cond.instanceMethod y_Md_seek ∈ wsU := wU_t 794 (by decide +kernel) (by decide +kernel)
set_option maxRecDepth 20000 in
theorem cd_Md_seek : Cond.code y_Md_seek c_Md_seek 12 (some .int) ∈ wsU := wU_t 795 (rfl) (by decide +kernel)
theorem co_Md_157 : Cond.constant R_Md 157 66048 ∈ wsU := wU_t 796 (by decide +kernel) (by decide +kernel)
theorem m_Md_161 : Cond.methodLink R_Md 161 y_Md_spell ∈ wsU := wU_t 797 (by decide +kernel) (by decide +kernel)
theorem im_Md_spell : Cond.instanceMethod y_Md_spell ∈ wsU := wU_t 799 (by decide +kernel) (by decide +kernel)
set_option maxRecDepth 20000 in
theorem cd_Md_spell : Cond.code y_Md_spell c_Md_spell 4 none ∈ wsU := wU_t 800 (rfl) (by decide +kernel)
theorem m_Lw_89 : Cond.methodLink R_Lw 89 y_Md_contains ∈ wsU := wU_t 801 (by decide +kernel) (by decide +kernel)
theorem im_Md_contains : Cond.instanceMethod y_Md_contains ∈ wsU := wU_t 802 (by decide +kernel) (by decide +kernel)
theorem se_Md_contains : Cond.selects R_Md y_Md_contains y_Md_contains ∈ wsU := wU_t 803 (by decide +kernel) (by decide +kernel)
set_option maxRecDepth 20000 in
theorem cd_Md_contains : Cond.code y_Md_contains c_Md_contains 4 (some .boolean) ∈ wsU := wU_t 804 (rfl) (by decide +kernel)
theorem m_Lw_92 : Cond.methodLink R_Lw 92 y_Md_least ∈ wsU := wU_t 805 (by decide +kernel) (by decide +kernel)
theorem im_Md_least : Cond.instanceMethod y_Md_least ∈ wsU := wU_t 806 (by decide +kernel) (by decide +kernel)
theorem se_Md_least : Cond.selects R_Md y_Md_least y_Md_least ∈ wsU := wU_t 807 (by decide +kernel) (by decide +kernel)
set_option maxRecDepth 20000 in
theorem cd_Md_least : Cond.code y_Md_least c_Md_least 3 (some .int) ∈ wsU := wU_t 808 (rfl) (by decide +kernel)
theorem m_Lw_95 : Cond.methodLink R_Lw 95 y_Md_count ∈ wsU := wU_t 809 (by decide +kernel) (by decide +kernel)
theorem im_Md_count : Cond.instanceMethod y_Md_count ∈ wsU := wU_t 810 (by decide +kernel) (by decide +kernel)
theorem se_Md_count : Cond.selects R_Md y_Md_count y_Md_count ∈ wsU := wU_t 811 (by decide +kernel) (by decide +kernel)
set_option maxRecDepth 20000 in
theorem cd_Md_count : Cond.code y_Md_count c_Md_count 3 (some .long) ∈ wsU := wU_t 812 (rfl) (by decide +kernel)
theorem m_Md_165 : Cond.methodLink R_Md 165 y_Md_reckon ∈ wsU := wU_t 813 (by decide +kernel) (by decide +kernel)
theorem im_Md_reckon : Cond.instanceMethod y_Md_reckon ∈ wsU := wU_t 815 (by decide +kernel) (by decide +kernel)
set_option maxRecDepth 20000 in
theorem cd_Md_reckon : Cond.code y_Md_reckon c_Md_reckon 8 none ∈ wsU := wU_t 816 (rfl) (by decide +kernel)
theorem m_Lw_99 : Cond.methodLink R_Lw 99 y_Md_word ∈ wsU := wU_t 817 (by decide +kernel) (by decide +kernel)
theorem im_Md_word : Cond.instanceMethod y_Md_word ∈ wsU := wU_t 818 (by decide +kernel) (by decide +kernel)
theorem se_Md_word : Cond.selects R_Md y_Md_word y_Md_word ∈ wsU := wU_t 819 (by decide +kernel) (by decide +kernel)
set_option maxRecDepth 20000 in
theorem cd_Md_word : Cond.code y_Md_word c_Md_word 10 (some .boolean) ∈ wsU := wU_t 820 (rfl) (by decide +kernel)
theorem m_Lw_102 : Cond.methodLink R_Lw 102 y_Md_states ∈ wsU := wU_t 821 (by decide +kernel) (by decide +kernel)
theorem im_Md_states : Cond.instanceMethod y_Md_states ∈ wsU := wU_t 822 (by decide +kernel) (by decide +kernel)
theorem se_Md_states : Cond.selects R_Md y_Md_states y_Md_states ∈ wsU := wU_t 823 (by decide +kernel) (by decide +kernel)
set_option maxRecDepth 20000 in
theorem cd_Md_states : Cond.code y_Md_states c_Md_states 6 (some .int) ∈ wsU := wU_t 824 (rfl) (by decide +kernel)
theorem m_Md_168 : Cond.methodLink R_Md 168 y_Md_split ∈ wsU := wU_t 825 (by decide +kernel) (by decide +kernel)
theorem im_Md_split : Cond.instanceMethod y_Md_split ∈ wsU := wU_t 827 (by decide +kernel) (by decide +kernel)
set_option maxRecDepth 20000 in
theorem cd_Md_split : Cond.code y_Md_split c_Md_split 10 (some .int) ∈ wsU := wU_t 828 (rfl) (by decide +kernel)
theorem m_Lw_106 : Cond.methodLink R_Lw 106 y_Md_turn ∈ wsU := wU_t 829 (by decide +kernel) (by decide +kernel)
theorem im_Md_turn : Cond.instanceMethod y_Md_turn ∈ wsU := wU_t 830 (by decide +kernel) (by decide +kernel)
theorem se_Md_turn : Cond.selects R_Md y_Md_turn y_Md_turn ∈ wsU := wU_t 831 (by decide +kernel) (by decide +kernel)
set_option maxRecDepth 20000 in
theorem cd_Md_turn : Cond.code y_Md_turn c_Md_turn 9 none ∈ wsU := wU_t 832 (rfl) (by decide +kernel)
theorem m_Lw_110 : Cond.methodLink R_Lw 110 y_Md_size ∈ wsU := wU_t 833 (by decide +kernel) (by decide +kernel)
theorem im_Md_size : Cond.instanceMethod y_Md_size ∈ wsU := wU_t 834 (by decide +kernel) (by decide +kernel)
theorem se_Md_size : Cond.selects R_Md y_Md_size y_Md_size ∈ wsU := wU_t 835 (by decide +kernel) (by decide +kernel)
set_option maxRecDepth 20000 in
theorem cd_Md_size : Cond.code y_Md_size c_Md_size 1 (some .int) ∈ wsU := wU_t 836 (rfl) (by decide +kernel)
theorem m_Lw_113 : Cond.methodLink R_Lw 113 y_Md_letter ∈ wsU := wU_t 837 (by decide +kernel) (by decide +kernel)
theorem im_Md_letter : Cond.instanceMethod y_Md_letter ∈ wsU := wU_t 838 (by decide +kernel) (by decide +kernel)
theorem se_Md_letter : Cond.selects R_Md y_Md_letter y_Md_letter ∈ wsU := wU_t 839 (by decide +kernel) (by decide +kernel)
set_option maxRecDepth 20000 in
theorem cd_Md_letter : Cond.code y_Md_letter c_Md_letter 2 (some .int) ∈ wsU := wU_t 840 (rfl) (by decide +kernel)
theorem co_Lw_60 : Cond.constantLong R_Lw 60 4294967295 ∈ wsU := wU_t 841 (by decide +kernel) (by decide +kernel)
theorem se_Pr_beginSum : Cond.selects R_Pr y_Pr_beginSum y_Pr_beginSum ∈ wsU := wU_p 1 (by decide +kernel) (by decide +kernel)
theorem se_Pr_accept : Cond.selects R_Pr y_Pr_accept y_Pr_accept ∈ wsU := wU_p 2 (by decide +kernel) (by decide +kernel)
theorem se_Pr_acceptRepeat : Cond.selects R_Pr y_Pr_acceptRepeat y_Pr_acceptRepeat ∈ wsU := wU_p 3 (by decide +kernel) (by decide +kernel)
theorem se_Pr_joinFactor : Cond.selects R_Pr y_Pr_joinFactor y_Pr_joinFactor ∈ wsU := wU_p 4 (by decide +kernel) (by decide +kernel)
theorem se_Pr_acceptLetter : Cond.selects R_Pr y_Pr_acceptLetter y_Pr_acceptLetter ∈ wsU := wU_p 5 (by decide +kernel) (by decide +kernel)
theorem se_Pr_setFactor : Cond.selects R_Pr y_Pr_setFactor y_Pr_setFactor ∈ wsU := wU_p 6 (by decide +kernel) (by decide +kernel)
theorem se_Pr_acceptOpening : Cond.selects R_Pr y_Pr_acceptOpening y_Pr_acceptOpening ∈ wsU := wU_p 7 (by decide +kernel) (by decide +kernel)
theorem se_Pr_acceptClosing : Cond.selects R_Pr y_Pr_acceptClosing y_Pr_acceptClosing ∈ wsU := wU_p 8 (by decide +kernel) (by decide +kernel)
theorem se_Pr_endRow : Cond.selects R_Pr y_Pr_endRow y_Pr_endRow ∈ wsU := wU_p 9 (by decide +kernel) (by decide +kernel)
theorem se_Ws_putSpare : Cond.selects R_Ws y_Ws_putSpare y_Ws_putSpare ∈ wsU := wU_p 10 (by decide +kernel) (by decide +kernel)
theorem se_Se_append : Cond.selects R_Se y_Se_append y_Se_append ∈ wsU := wU_p 11 (by decide +kernel) (by decide +kernel)
theorem se_Se_spellWay : Cond.selects R_Se y_Se_spellWay y_Se_spellWay ∈ wsU := wU_p 12 (by decide +kernel) (by decide +kernel)
theorem se_Se_goOn : Cond.selects R_Se y_Se_goOn y_Se_goOn ∈ wsU := wU_p 13 (by decide +kernel) (by decide +kernel)
theorem se_Se_markIfNew : Cond.selects R_Se y_Se_markIfNew y_Se_markIfNew ∈ wsU := wU_p 14 (by decide +kernel) (by decide +kernel)
theorem se_Ma_numberOf : Cond.selects R_Ma y_Ma_numberOf y_Ma_numberOf ∈ wsU := wU_p 15 (by decide +kernel) (by decide +kernel)
theorem se_Ma_tallyOver : Cond.selects R_Ma y_Ma_tallyOver y_Ma_tallyOver ∈ wsU := wU_p 16 (by decide +kernel) (by decide +kernel)
theorem se_Ma_refine : Cond.selects R_Ma y_Ma_refine y_Ma_refine ∈ wsU := wU_p 17 (by decide +kernel) (by decide +kernel)
theorem se_Ma_firstLike : Cond.selects R_Ma y_Ma_firstLike y_Ma_firstLike ∈ wsU := wU_p 18 (by decide +kernel) (by decide +kernel)
theorem se_Ma_alike : Cond.selects R_Ma y_Ma_alike y_Ma_alike ∈ wsU := wU_p 19 (by decide +kernel) (by decide +kernel)
theorem se_Md_sum : Cond.selects R_Md y_Md_sum y_Md_sum ∈ wsU := wU_p 20 (by decide +kernel) (by decide +kernel)
theorem se_Md_see : Cond.selects R_Md y_Md_see y_Md_see ∈ wsU := wU_p 21 (by decide +kernel) (by decide +kernel)
theorem se_Md_atom : Cond.selects R_Md y_Md_atom y_Md_atom ∈ wsU := wU_p 22 (by decide +kernel) (by decide +kernel)
theorem se_Md_wrong : Cond.selects R_Md y_Md_wrong y_Md_wrong ∈ wsU := wU_p 23 (by decide +kernel) (by decide +kernel)
theorem se_Md_part : Cond.selects R_Md y_Md_part y_Md_part ∈ wsU := wU_p 24 (by decide +kernel) (by decide +kernel)
theorem se_Md_repeated : Cond.selects R_Md y_Md_repeated y_Md_repeated ∈ wsU := wU_p 25 (by decide +kernel) (by decide +kernel)
theorem se_Md_follows : Cond.selects R_Md y_Md_follows y_Md_follows ∈ wsU := wU_p 26 (by decide +kernel) (by decide +kernel)
theorem se_Md_behind : Cond.selects R_Md y_Md_behind y_Md_behind ∈ wsU := wU_p 27 (by decide +kernel) (by decide +kernel)
theorem se_Md_either : Cond.selects R_Md y_Md_either y_Md_either ∈ wsU := wU_p 28 (by decide +kernel) (by decide +kernel)
theorem se_Md_says : Cond.selects R_Md y_Md_says y_Md_says ∈ wsU := wU_p 29 (by decide +kernel) (by decide +kernel)
theorem se_Md_step : Cond.selects R_Md y_Md_step y_Md_step ∈ wsU := wU_p 30 (by decide +kernel) (by decide +kernel)
theorem se_Md_tells : Cond.selects R_Md y_Md_tells y_Md_tells ∈ wsU := wU_p 31 (by decide +kernel) (by decide +kernel)
theorem se_Md_seek : Cond.selects R_Md y_Md_seek y_Md_seek ∈ wsU := wU_p 32 (by decide +kernel) (by decide +kernel)
theorem se_Md_spell : Cond.selects R_Md y_Md_spell y_Md_spell ∈ wsU := wU_p 33 (by decide +kernel) (by decide +kernel)
theorem se_Md_reckon : Cond.selects R_Md y_Md_reckon y_Md_reckon ∈ wsU := wU_p 34 (by decide +kernel) (by decide +kernel)
theorem se_Md_split : Cond.selects R_Md y_Md_split y_Md_split ∈ wsU := wU_p 35 (by decide +kernel) (by decide +kernel)
abbrev vwCl : List vw_C := [(R_Ex, T_Ex, 4), (R_Ma, T_Ma, 8), (R_Pr, T_Pr, 5), (R_Pt, T_Pt, 3), (R_Se, T_Se, 5), (R_Ta, T_Ta, 2), (R_Wo, T_Wo, 2), (R_Ws, T_Ws, 9), (R_Md, T_Md, 31)]
