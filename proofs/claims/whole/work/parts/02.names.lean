/-! NAMES (by program): classes, methods, the words that hold -/
/-- inl 0: a plain method; inl 1: one that may throw; inr xs: the law, with its script -/
abbrev KD : Type := Nat ⊕ List Int
abbrev MR : Type := MethodName × ByteArray × Nat × Option FieldType × Room × KD
abbrev yy (m : MR) : MethodName := m.1
abbrev cd (m : MR) : ByteArray := m.2.1
abbrev nLo (m : MR) : Nat := m.2.2.1
abbrev rtt (m : MR) : Option FieldType := m.2.2.2.1
abbrev rmm (m : MR) : Room := m.2.2.2.2.1
def kdT : KD → Bool
  | .inl 0 => false
  | _ => true
def kdS : KD → Option (List Int)
  | .inr xs => some xs
  | _ => none
abbrev thr (m : MR) : Bool := kdT m.2.2.2.2.2
abbrev scr (m : MR) : Option (List Int) := kdS m.2.2.2.2.2
theorem scr_none {m : MR} (h : thr m = false) (xs : List Int) : ¬ scr m = some xs := by
  obtain ⟨a, b, c, d, e, (n | ys)⟩ := m
  · intro z; cases z
  · cases h
def RC0 : String := "PlanDesk$Book"
def TC0 : u_T := fun k => [("PlanDesk$Book", "rules", "LPlanDesk$Rules;", true), ("PlanDesk$Book", "count", "I", false), ("PlanDesk$Book", "names", "[J", true), ("PlanDesk$Book", "sizes", "[I", true), ("PlanDesk$Book", "ruleCounts", "[I", true), ("PlanDesk$Book", "factCounts", "[I", true), ("PlanDesk$Book", "strata", "[I", true), ("PlanDesk$Book", "hangsOn", "[I", true)].getD k ("", "", "", false)
def RC1 : String := "PlanDesk$Clause"
def TC1 : u_T := fun k => [("PlanDesk$Clause", "head", "LPlanDesk$Literal;", true), ("PlanDesk$Clause", "body", "[LPlanDesk$Literal;", true), ("PlanDesk$Clause", "size", "I", false), ("PlanDesk$Clause", "atoms", "I", false), ("PlanDesk$Clause", "total", "I", false), ("PlanDesk$Clause", "totalPlace", "I", false), ("PlanDesk$Clause", "variables", "I", false), ("PlanDesk$Clause", "names", "[J", true), ("PlanDesk$Clause", "firstPlaces", "[I", true), ("PlanDesk$Clause", "order", "[I", true), ("PlanDesk$Clause", "known", "[I", true), ("PlanDesk$Clause", "valued", "[I", true)].getD k ("", "", "", false)
def RC2 : String := "PlanDesk$Facts"
def TC2 : u_T := fun k => [("PlanDesk$Facts", "owners", "[I", true), ("PlanDesk$Facts", "terms", "[J", true), ("PlanDesk$Facts", "count", "I", false)].getD k ("", "", "", false)
def RC3 : String := "PlanDesk$Literal"
def TC3 : u_T := fun k => [("PlanDesk$Literal", "kind", "I", false), ("PlanDesk$Literal", "place", "I", false), ("PlanDesk$Literal", "asked", "I", false), ("PlanDesk$Literal", "equation", "Z", false), ("PlanDesk$Literal", "size", "I", false), ("PlanDesk$Literal", "terms", "[J", true), ("PlanDesk$Literal", "variables", "[I", true)].getD k ("", "", "", false)
def RC4 : String := "PlanDesk$Reader"
def TC4 : u_T := fun k => [("PlanDesk$Reader", "tokens", "LPlanDesk$Tokens;", true), ("PlanDesk$Reader", "clause", "LPlanDesk$Clause;", true), ("PlanDesk$Reader", "facts", "LPlanDesk$Facts;", true), ("PlanDesk$Reader", "target", "LPlanDesk$Book;", false), ("PlanDesk$Reader", "faultKind", "I", false), ("PlanDesk$Reader", "faultPlace", "I", false), ("PlanDesk$Reader", "at", "I", false), ("PlanDesk$Reader", "kind", "I", false), ("PlanDesk$Reader", "place", "I", false), ("PlanDesk$Reader", "value", "J", false)].getD k ("", "", "", false)
def RC5 : String := "PlanDesk$Rules"
def TC5 : u_T := fun k => [("PlanDesk$Rules", "count", "I", false), ("PlanDesk$Rules", "heads", "[I", true), ("PlanDesk$Rules", "sizes", "[I", true), ("PlanDesk$Rules", "variables", "[I", true), ("PlanDesk$Rules", "totals", "[I", true), ("PlanDesk$Rules", "totalPlaces", "[I", true), ("PlanDesk$Rules", "kinds", "[I", true), ("PlanDesk$Rules", "asked", "[I", true), ("PlanDesk$Rules", "places", "[I", true), ("PlanDesk$Rules", "order", "[I", true), ("PlanDesk$Rules", "known", "[I", true), ("PlanDesk$Rules", "valued", "[I", true)].getD k ("", "", "", false)
def RC6 : String := "PlanDesk$Tape"
def TC6 : u_T := fun k => [("PlanDesk$Tape", "characters", "[B", true), ("PlanDesk$Tape", "length", "I", false)].getD k ("", "", "", false)
def RC7 : String := "PlanDesk$Tokens"
def TC7 : u_T := fun k => [("PlanDesk$Tokens", "kinds", "[I", true), ("PlanDesk$Tokens", "places", "[I", true), ("PlanDesk$Tokens", "values", "[J", true), ("PlanDesk$Tokens", "count", "I", false)].getD k ("", "", "", false)
def RC8 : String := "PlanDesk"
def TC8 : u_T := fun k => [("PlanDesk", "tape", "LPlanDesk$Tape;", true), ("PlanDesk", "reader", "LPlanDesk$Reader;", true), ("PlanDesk", "book", "LPlanDesk$Book;", false), ("PlanDesk", "draft", "LPlanDesk$Book;", false)].getD k ("", "", "", false)
def RC9 : String := "PlanDeskModel"
def TC9 : u_T := fun k => [("PlanDeskModel", "thrown", "I", false), ("PlanDeskModel", "tape", "[I", true), ("PlanDeskModel", "taped", "I", false), ("PlanDeskModel", "fault", "I", false), ("PlanDeskModel", "faultPlace", "I", false), ("PlanDeskModel", "tokens", "I", false), ("PlanDeskModel", "tokenKind", "[I", true), ("PlanDeskModel", "tokenPlace", "[I", true), ("PlanDeskModel", "tokenCode", "[I", true), ("PlanDeskModel", "tokenValue", "[J", true), ("PlanDeskModel", "at", "I", false), ("PlanDeskModel", "side", "I", false), ("PlanDeskModel", "predicates", "[I", true), ("PlanDeskModel", "predicateName", "[J", true), ("PlanDeskModel", "predicateSize", "[I", true), ("PlanDeskModel", "stratum", "[I", true), ("PlanDeskModel", "rules", "[I", true), ("PlanDeskModel", "head", "[I", true), ("PlanDeskModel", "headKind", "[I", true), ("PlanDeskModel", "headValue", "[J", true), ("PlanDeskModel", "totalWord", "[I", true), ("PlanDeskModel", "totalAt", "[I", true), ("PlanDeskModel", "literals", "[I", true), ("PlanDeskModel", "variables", "[I", true), ("PlanDeskModel", "literal", "[I", true), ("PlanDeskModel", "sign", "[I", true), ("PlanDeskModel", "termKind", "[I", true), ("PlanDeskModel", "termValue", "[J", true), ("PlanDeskModel", "facts", "[I", true), ("PlanDeskModel", "factOf", "[I", true), ("PlanDeskModel", "factValue", "[J", true), ("PlanDeskModel", "clause", "I", false), ("PlanDeskModel", "variableName", "[J", true), ("PlanDeskModel", "variablePlace", "[I", true), ("PlanDeskModel", "bound", "[Z", true), ("PlanDeskModel", "readKind", "I", false), ("PlanDeskModel", "readValue", "J", false), ("PlanDeskModel", "readSide", "I", false), ("PlanDeskModel", "arguments", "I", false), ("PlanDeskModel", "argumentKind", "[I", true), ("PlanDeskModel", "argumentValue", "[J", true), ("PlanDeskModel", "firstFree", "I", false), ("PlanDeskModel", "word", "I", false), ("PlanDeskModel", "wordAt", "I", false), ("PlanDeskModel", "wordPlace", "I", false), ("PlanDeskModel", "readPredicate", "I", false), ("PlanDeskModel", "atoms", "I", false), ("PlanDeskModel", "negated", "[I", true), ("PlanDeskModel", "written", "[I", true), ("PlanDeskModel", "totalPlace", "[I", true), ("PlanDeskModel", "back", "[Z", true), ("PlanDeskModel", "order", "[I", true), ("PlanDeskModel", "ahead", "[I", true), ("PlanDeskModel", "behind", "[I", true), ("PlanDeskModel", "has", "[Z", true), ("PlanDeskModel", "taken", "[Z", true)].getD k ("", "", "", false)
def clT : List vw_C := [(RC0, TC0, 8), (RC1, TC1, 12), (RC2, TC2, 3), (RC3, TC3, 7), (RC4, TC4, 10), (RC5, TC5, 12), (RC6, TC6, 2), (RC7, TC7, 4), (RC8, TC8, 4), (RC9, TC9, 56)]
def RLit : String := "PlanDesk$Literal"
def nf (c : Nat) : Nat := [8, 12, 3, 7, 10, 12, 2, 4, 4, 56].getD c 0
def fty (c k : Nat) : Nat := ([[5, 1, 5, 5, 5, 5, 5, 5], [5, 5, 1, 1, 1, 1, 1, 5, 5, 5, 5, 5], [5, 5, 1], [1, 1, 1, 1, 1, 5, 5], [5, 5, 5, 5, 1, 1, 1, 1, 1, 2], [1, 5, 5, 5, 5, 5, 5, 5, 5, 5, 5, 5], [5, 1], [5, 5, 5, 1], [5, 5, 5, 5], [1, 5, 1, 1, 1, 1, 5, 5, 5, 5, 1, 1, 5, 5, 5, 5, 5, 5, 5, 5, 5, 5, 5, 5, 5, 5, 5, 5, 5, 5, 5, 1, 5, 5, 5, 1, 2, 1, 1, 5, 5, 1, 1, 1, 1, 1, 1, 5, 5, 5, 5, 5, 5, 5, 5, 5]].getD c []).getD k 1
def tyF (c k : Nat) : FieldType := (([[.object "PlanDesk$Rules", .int, .array (.long), .array (.int), .array (.int), .array (.int), .array (.int), .array (.int)], [.object "PlanDesk$Literal", .array (.object "PlanDesk$Literal"), .int, .int, .int, .int, .int, .array (.long), .array (.int), .array (.int), .array (.int), .array (.int)], [.array (.int), .array (.long), .int], [.int, .int, .int, .boolean, .int, .array (.long), .array (.int)], [.object "PlanDesk$Tokens", .object "PlanDesk$Clause", .object "PlanDesk$Facts", .object "PlanDesk$Book", .int, .int, .int, .int, .int, .long], [.int, .array (.int), .array (.int), .array (.int), .array (.int), .array (.int), .array (.int), .array (.int), .array (.int), .array (.int), .array (.int), .array (.int)], [.array (.byte), .int], [.array (.int), .array (.int), .array (.long), .int], [.object "PlanDesk$Tape", .object "PlanDesk$Reader", .object "PlanDesk$Book", .object "PlanDesk$Book"], [.int, .array (.int), .int, .int, .int, .int, .array (.int), .array (.int), .array (.int), .array (.long), .int, .int, .array (.int), .array (.long), .array (.int), .array (.int), .array (.int), .array (.int), .array (.int), .array (.long), .array (.int), .array (.int), .array (.int), .array (.int), .array (.int), .array (.int), .array (.int), .array (.long), .array (.int), .array (.int), .array (.long), .int, .array (.long), .array (.int), .array (.boolean), .int, .long, .int, .int, .array (.int), .array (.long), .int, .int, .int, .int, .int, .int, .array (.int), .array (.int), .array (.int), .array (.boolean), .array (.int), .array (.int), .array (.int), .array (.boolean), .array (.boolean)]] : List (List FieldType)).getD c []).getD k .int
def m_Bk_init : MR := (⟨"PlanDesk$Book", "<init>", "()V"⟩, prog_2_method_1_code, 1, none, { frames := 2, cells := 18, slots := 1338, locals := 40 }, .inl 0)
def m_Bk_clear : MR := (⟨"PlanDesk$Book", "clear", "()V"⟩, prog_2_method_2_code, 1, none, { frames := 0, cells := 0, slots := 0, locals := 0 }, .inl 0)
def m_Bk_numberOf : MR := (⟨"PlanDesk$Book", "numberOf", "(J)I"⟩, prog_2_method_3_code, 4, some .int, { frames := 0, cells := 0, slots := 0, locals := 0 }, .inl 0)
def m_Bk_agrees : MR := (⟨"PlanDesk$Book", "agrees", "(II)Z"⟩, prog_2_method_4_code, 3, some .boolean, { frames := 0, cells := 0, slots := 0, locals := 0 }, .inl 0)
def m_Bk_addRule : MR := (⟨"PlanDesk$Book", "addRule", "(LPlanDesk$Clause;)V"⟩, prog_2_method_5_code, 4, none, { frames := 1, cells := 0, slots := 0, locals := 23 }, .inl 0)
def m_Bk_addFact : MR := (⟨"PlanDesk$Book", "addFact", "(I)V"⟩, prog_2_method_6_code, 2, none, { frames := 0, cells := 0, slots := 0, locals := 0 }, .inl 0)
def m_Bk_reaches : MR := (⟨"PlanDesk$Book", "reaches", "(II)Z"⟩, prog_2_method_7_code, 3, some .boolean, { frames := 0, cells := 0, slots := 0, locals := 0 }, .inl 0)
def m_Bk_spreadHanging : MR := (⟨"PlanDesk$Book", "spreadHanging", "()V"⟩, prog_2_method_8_code, 3, none, { frames := 1, cells := 0, slots := 0, locals := 22 }, .inl 0)
def m_Bk_leadsBack : MR := (⟨"PlanDesk$Book", "leadsBack", "(II)Z"⟩, prog_2_method_9_code, 5, some .boolean, { frames := 1, cells := 0, slots := 0, locals := 22 }, .inl 0)
def m_Bk_circles : MR := (⟨"PlanDesk$Book", "circles", "(I)I"⟩, prog_2_method_10_code, 5, some .int, { frames := 2, cells := 0, slots := 0, locals := 46 }, .inl 0)
def m_Bk_knotPlace : MR := (⟨"PlanDesk$Book", "knotPlace", "()I"⟩, prog_2_method_11_code, 4, some .int, { frames := 2, cells := 0, slots := 0, locals := 46 }, .inl 0)
def m_Bk_layStrata : MR := (⟨"PlanDesk$Book", "layStrata", "()V"⟩, prog_2_method_12_code, 3, none, { frames := 2, cells := 0, slots := 0, locals := 48 }, .inl 0)
def m_Bk_liftHead : MR := (⟨"PlanDesk$Book", "liftHead", "(I)V"⟩, prog_2_method_13_code, 7, none, { frames := 1, cells := 0, slots := 0, locals := 22 }, .inl 0)
def m_Cl_init : MR := (⟨"PlanDesk$Clause", "<init>", "()V"⟩, prog_3_method_1_code, 2, none, { frames := 2, cells := 27, slots := 145, locals := 40 }, .inl 0)
def m_Cl_begin : MR := (⟨"PlanDesk$Clause", "begin", "(I)V"⟩, prog_3_method_2_code, 2, none, { frames := 1, cells := 0, slots := 0, locals := 22 }, .inl 0)
def m_Cl_variableOf : MR := (⟨"PlanDesk$Clause", "variableOf", "(JI)I"⟩, prog_3_method_3_code, 5, some .int, { frames := 0, cells := 0, slots := 0, locals := 0 }, .inl 0)
def m_Cl_openPlace : MR := (⟨"PlanDesk$Clause", "openPlace", "()I"⟩, prog_3_method_4_code, 1, some .int, { frames := 1, cells := 0, slots := 0, locals := 21 }, .inl 0)
def m_Cl_plan : MR := (⟨"PlanDesk$Clause", "plan", "()I"⟩, prog_3_method_5_code, 6, some .int, { frames := 3, cells := 0, slots := 0, locals := 73 }, .inl 0)
def m_Cl_nextAsked : MR := (⟨"PlanDesk$Clause", "nextAsked", "(II)I"⟩, prog_3_method_6_code, 9, some .int, { frames := 2, cells := 0, slots := 0, locals := 45 }, .inl 0)
def m_Cl_firstWithout : MR := (⟨"PlanDesk$Clause", "firstWithout", "(I)I"⟩, prog_3_method_7_code, 3, some .int, { frames := 0, cells := 0, slots := 0, locals := 0 }, .inl 0)
def m_Fc_init : MR := (⟨"PlanDesk$Facts", "<init>", "()V"⟩, prog_4_method_1_code, 1, none, { frames := 1, cells := 2, slots := 600, locals := 20 }, .inl 0)
def m_Fc_add : MR := (⟨"PlanDesk$Facts", "add", "(LPlanDesk$Literal;)Z"⟩, prog_4_method_2_code, 3, some .boolean, { frames := 1, cells := 0, slots := 0, locals := 65 }, .inl 0)
def m_Fc_isSame : MR := (⟨"PlanDesk$Facts", "isSame", "(ILPlanDesk$Literal;)Z"⟩, prog_4_method_3_code, 4, some .boolean, { frames := 0, cells := 0, slots := 0, locals := 0 }, .inl 0)
def m_Lt_init : MR := (⟨"PlanDesk$Literal", "<init>", "()V"⟩, prog_5_method_1_code, 1, none, { frames := 1, cells := 2, slots := 8, locals := 20 }, .inl 0)
def m_Lt_begin : MR := (⟨"PlanDesk$Literal", "begin", "(II)V"⟩, prog_5_method_2_code, 3, none, { frames := 0, cells := 0, slots := 0, locals := 0 }, .inl 0)
def m_Lt_add : MR := (⟨"PlanDesk$Literal", "add", "(J)V"⟩, prog_5_method_3_code, 4, none, { frames := 0, cells := 0, slots := 0, locals := 0 }, .inl 0)
def m_Lt_isAtom : MR := (⟨"PlanDesk$Literal", "isAtom", "()Z"⟩, prog_5_method_4_code, 1, some .boolean, { frames := 0, cells := 0, slots := 0, locals := 0 }, .inl 0)
def m_Lt_variablesFrom : MR := (⟨"PlanDesk$Literal", "variablesFrom", "(I)I"⟩, prog_5_method_5_code, 4, some .int, { frames := 0, cells := 0, slots := 0, locals := 0 }, .inl 0)
def m_Lt_canBeAsked : MR := (⟨"PlanDesk$Literal", "canBeAsked", "(I)Z"⟩, prog_5_method_6_code, 3, some .boolean, { frames := 1, cells := 0, slots := 0, locals := 23 }, .inl 0)
def m_Lt_knownArguments : MR := (⟨"PlanDesk$Literal", "knownArguments", "(I)I"⟩, prog_5_method_7_code, 4, some .int, { frames := 0, cells := 0, slots := 0, locals := 0 }, .inl 0)
def m_Rd_init : MR := (⟨"PlanDesk$Reader", "<init>", "()V"⟩, prog_6_method_1_code, 1, none, { frames := 3, cells := 35, slots := 2567, locals := 61 }, .inl 0)
def m_Rd_read : MR := (⟨"PlanDesk$Reader", "read", "(LPlanDesk$Tape;LPlanDesk$Book;)Z"⟩, prog_6_method_2_code, 4, some .boolean, { frames := 8, cells := 0, slots := 0, locals := 234 }, .inl 0)
def m_Rd_finish : MR := (⟨"PlanDesk$Reader", "finish", "()V"⟩, prog_6_method_3_code, 2, none, { frames := 3, cells := 0, slots := 0, locals := 70 }, .inl 0)
def m_Rd_moveTo : MR := (⟨"PlanDesk$Reader", "moveTo", "(I)V"⟩, prog_6_method_4_code, 2, none, { frames := 0, cells := 0, slots := 0, locals := 0 }, .inl 0)
def m_Rd_refuse : MR := (⟨"PlanDesk$Reader", "refuse", "(I)Z"⟩, prog_6_method_5_code, 2, some .boolean, { frames := 0, cells := 0, slots := 0, locals := 0 }, .inl 0)
def m_Rd_note : MR := (⟨"PlanDesk$Reader", "note", "(II)V"⟩, prog_6_method_6_code, 3, none, { frames := 0, cells := 0, slots := 0, locals := 0 }, .inl 0)
def m_Rd_take : MR := (⟨"PlanDesk$Reader", "take", "(I)Z"⟩, prog_6_method_7_code, 2, some .boolean, { frames := 1, cells := 0, slots := 0, locals := 21 }, .inl 0)
def m_Rd_readBody : MR := (⟨"PlanDesk$Reader", "readBody", "()Z"⟩, prog_6_method_8_code, 2, some .boolean, { frames := 5, cells := 0, slots := 0, locals := 113 }, .inl 0)
def m_Rd_endRule : MR := (⟨"PlanDesk$Reader", "endRule", "()Z"⟩, prog_6_method_9_code, 2, some .boolean, { frames := 4, cells := 0, slots := 0, locals := 98 }, .inl 0)
def m_Rd_endFact : MR := (⟨"PlanDesk$Reader", "endFact", "()Z"⟩, prog_6_method_10_code, 2, some .boolean, { frames := 2, cells := 0, slots := 0, locals := 87 }, .inl 0)
def m_Rd_readLiteral : MR := (⟨"PlanDesk$Reader", "readLiteral", "(LPlanDesk$Literal;)Z"⟩, prog_6_method_11_code, 2, some .boolean, { frames := 4, cells := 0, slots := 0, locals := 92 }, .inl 0)
def m_Rd_isOpenNext : MR := (⟨"PlanDesk$Reader", "isOpenNext", "()Z"⟩, prog_6_method_12_code, 1, some .boolean, { frames := 0, cells := 0, slots := 0, locals := 0 }, .inl 0)
def m_Rd_readTest : MR := (⟨"PlanDesk$Reader", "readTest", "(LPlanDesk$Literal;)Z"⟩, prog_6_method_13_code, 3, some .boolean, { frames := 3, cells := 0, slots := 0, locals := 62 }, .inl 0)
def m_Rd_readOperation : MR := (⟨"PlanDesk$Reader", "readOperation", "()Z"⟩, prog_6_method_14_code, 1, some .boolean, { frames := 2, cells := 0, slots := 0, locals := 42 }, .inl 0)
def m_Rd_readAtom : MR := (⟨"PlanDesk$Reader", "readAtom", "(LPlanDesk$Literal;)Z"⟩, prog_6_method_15_code, 5, some .boolean, { frames := 3, cells := 0, slots := 0, locals := 68 }, .inl 0)
def m_Rd_readTotal : MR := (⟨"PlanDesk$Reader", "readTotal", "(LPlanDesk$Literal;)Z"⟩, prog_6_method_16_code, 2, some .boolean, { frames := 2, cells := 0, slots := 0, locals := 47 }, .inl 0)
def m_Rd_readAnything : MR := (⟨"PlanDesk$Reader", "readAnything", "(LPlanDesk$Literal;)Z"⟩, prog_6_method_17_code, 3, some .boolean, { frames := 1, cells := 0, slots := 0, locals := 23 }, .inl 0)
def m_Rd_readTerm : MR := (⟨"PlanDesk$Reader", "readTerm", "(LPlanDesk$Literal;)Z"⟩, prog_6_method_18_code, 4, some .boolean, { frames := 1, cells := 0, slots := 0, locals := 24 }, .inl 0)
def m_Rl_init : MR := (⟨"PlanDesk$Rules", "<init>", "()V"⟩, prog_7_method_1_code, 1, none, { frames := 1, cells := 11, slots := 1230, locals := 20 }, .inl 0)
def m_Rl_add : MR := (⟨"PlanDesk$Rules", "add", "(LPlanDesk$Clause;)V"⟩, prog_7_method_2_code, 4, none, { frames := 0, cells := 0, slots := 0, locals := 0 }, .inl 0)
def m_Rl_waits : MR := (⟨"PlanDesk$Rules", "waits", "(II)Z"⟩, prog_7_method_3_code, 3, some .boolean, { frames := 0, cells := 0, slots := 0, locals := 0 }, .inl 0)
def m_Tp_init : MR := (⟨"PlanDesk$Tape", "<init>", "()V"⟩, prog_8_method_1_code, 1, none, { frames := 1, cells := 1, slots := 600, locals := 20 }, .inl 0)
def m_Tp_add : MR := (⟨"PlanDesk$Tape", "add", "(I)V"⟩, prog_8_method_2_code, 2, none, { frames := 0, cells := 0, slots := 0, locals := 0 }, .inl 0)
def m_Tp_at : MR := (⟨"PlanDesk$Tape", "at", "(I)I"⟩, prog_8_method_3_code, 2, some .int, { frames := 0, cells := 0, slots := 0, locals := 0 }, .inl 0)
def m_Tp_sortAt : MR := (⟨"PlanDesk$Tape", "sortAt", "(I)I"⟩, prog_8_method_4_code, 3, some .int, { frames := 1, cells := 0, slots := 0, locals := 21 }, .inl 0)
def m_Tp_endOfRun : MR := (⟨"PlanDesk$Tape", "endOfRun", "(II)I"⟩, prog_8_method_5_code, 4, some .int, { frames := 2, cells := 0, slots := 0, locals := 43 }, .inl 0)
def m_Tp_spells : MR := (⟨"PlanDesk$Tape", "spells", "(IILjava/lang/String;)Z"⟩, prog_8_method_6_code, 5, some .boolean, { frames := 4, cells := 0, slots := 0, locals := 141 }, .inl 0)
def m_Tp_packed : MR := (⟨"PlanDesk$Tape", "packed", "(II)J"⟩, prog_8_method_7_code, 6, some .long, { frames := 1, cells := 0, slots := 0, locals := 21 }, .inl 0)
def m_Tp_number : MR := (⟨"PlanDesk$Tape", "number", "(II)J"⟩, prog_8_method_8_code, 6, some .long, { frames := 1, cells := 0, slots := 0, locals := 21 }, .inl 0)
def m_Tk_init : MR := (⟨"PlanDesk$Tokens", "<init>", "()V"⟩, prog_9_method_1_code, 1, none, { frames := 1, cells := 3, slots := 1803, locals := 20 }, .inl 0)
def m_Tk_cut : MR := (⟨"PlanDesk$Tokens", "cut", "(LPlanDesk$Tape;)V"⟩, prog_9_method_2_code, 4, none, { frames := 7, cells := 0, slots := 0, locals := 211 }, .inl 0)
def m_Tk_add : MR := (⟨"PlanDesk$Tokens", "add", "(IIJ)V"⟩, prog_9_method_3_code, 5, none, { frames := 0, cells := 0, slots := 0, locals := 0 }, .inl 0)
def m_Tk_cutName : MR := (⟨"PlanDesk$Tokens", "cutName", "(LPlanDesk$Tape;I)I"⟩, prog_9_method_4_code, 5, some .int, { frames := 6, cells := 0, slots := 0, locals := 187 }, .inl 0)
def m_Tk_totalAt : MR := (⟨"PlanDesk$Tokens", "totalAt", "(LPlanDesk$Tape;II)I"⟩, prog_9_method_5_code, 3, some .int, { frames := 5, cells := 0, slots := 0, locals := 165 }, .inl 0)
def m_Tk_cutVariable : MR := (⟨"PlanDesk$Tokens", "cutVariable", "(LPlanDesk$Tape;I)I"⟩, prog_9_method_6_code, 4, some .int, { frames := 3, cells := 0, slots := 0, locals := 66 }, .inl 0)
def m_Tk_cutNumber : MR := (⟨"PlanDesk$Tokens", "cutNumber", "(LPlanDesk$Tape;I)I"⟩, prog_9_method_7_code, 4, some .int, { frames := 3, cells := 0, slots := 0, locals := 66 }, .inl 0)
def m_Tk_cutSign : MR := (⟨"PlanDesk$Tokens", "cutSign", "(LPlanDesk$Tape;I)I"⟩, prog_9_method_8_code, 4, some .int, { frames := 1, cells := 0, slots := 0, locals := 24 }, .inl 0)
def m_Tk_pairKind : MR := (⟨"PlanDesk$Tokens", "pairKind", "(II)I"⟩, prog_9_method_9_code, 3, some .int, { frames := 0, cells := 0, slots := 0, locals := 0 }, .inl 0)
def m_Tk_signKind : MR := (⟨"PlanDesk$Tokens", "signKind", "(I)I"⟩, prog_9_method_10_code, 1, some .int, { frames := 0, cells := 0, slots := 0, locals := 0 }, .inl 0)
def m_D_init : MR := (⟨"PlanDesk", "<init>", "()V"⟩, prog_1_method_1_code, 1, none, { frames := 4, cells := 76, slots := 5871, locals := 81 }, .inl 0)
def m_D_type : MR := (⟨"PlanDesk", "type", "(JI)Z"⟩, prog_1_method_2_code, 6, some .boolean, { frames := 1, cells := 0, slots := 0, locals := 22 }, .inl 0)
def m_D_program : MR := (⟨"PlanDesk", "program", "()I"⟩, prog_1_method_3_code, 3, some .int, { frames := 9, cells := 1, slots := 6, locals := 321 }, .inl 1)
def m_D_fault : MR := (⟨"PlanDesk", "fault", "(I)I"⟩, prog_1_method_4_code, 2, some .int, { frames := 0, cells := 0, slots := 0, locals := 0 }, .inl 0)
def m_D_predicates : MR := (⟨"PlanDesk", "predicates", "()I"⟩, prog_1_method_5_code, 1, some .int, { frames := 0, cells := 0, slots := 0, locals := 0 }, .inl 0)
def m_D_predicate : MR := (⟨"PlanDesk", "predicate", "(II)I"⟩, prog_1_method_6_code, 3, some .int, { frames := 2, cells := 0, slots := 0, locals := 45 }, .inl 0)
def m_D_hangs : MR := (⟨"PlanDesk", "hangs", "(II)Z"⟩, prog_1_method_7_code, 3, some .boolean, { frames := 1, cells := 0, slots := 0, locals := 22 }, .inl 0)
def m_D_rule : MR := (⟨"PlanDesk", "rule", "(II)I"⟩, prog_1_method_8_code, 4, some .int, { frames := 9, cells := 1, slots := 6, locals := 321 }, .inl 1)
def m_D_literal : MR := (⟨"PlanDesk", "literal", "(III)I"⟩, prog_1_method_9_code, 7, some .int, { frames := 9, cells := 1, slots := 6, locals := 321 }, .inl 1)
def m_D_byteOf : MR := (⟨"PlanDesk", "byteOf", "(JI)I"⟩, prog_1_method_10_code, 3, some .int, { frames := 0, cells := 0, slots := 0, locals := 0 }, .inl 0)
def m_D_letters : MR := (⟨"PlanDesk", "letters", "(J)I"⟩, prog_1_method_11_code, 3, some .int, { frames := 0, cells := 0, slots := 0, locals := 0 }, .inl 0)
def m_D_letter : MR := (⟨"PlanDesk", "letter", "(JI)I"⟩, prog_1_method_12_code, 4, some .int, { frames := 1, cells := 0, slots := 0, locals := 22 }, .inl 0)
def m_M_init : MR := (⟨"PlanDeskModel", "<init>", "()V"⟩, prog_11_method_1_code, 1, none, { frames := 1, cells := 38, slots := 10680, locals := 20 }, .inl 0)
def m_M_thrown : MR := (⟨"PlanDeskModel", "thrown", "()I"⟩, prog_11_method_2_code, 1, some .int, { frames := 0, cells := 0, slots := 0, locals := 0 }, .inl 0)
def m_M_raise : MR := (⟨"PlanDeskModel", "raise", "(I)I"⟩, prog_11_method_3_code, 2, some .int, { frames := 0, cells := 0, slots := 0, locals := 0 }, .inl 0)
def m_M_type : MR := (⟨"PlanDeskModel", "type", "(JI)Z"⟩, prog_11_method_4_code, 6, some .boolean, { frames := 0, cells := 0, slots := 0, locals := 0 }, .inl 0)
def m_M_see : MR := (⟨"PlanDeskModel", "see", "(I)I"⟩, prog_11_method_5_code, 2, some .int, { frames := 0, cells := 0, slots := 0, locals := 0 }, .inl 0)
def m_M_isDigit : MR := (⟨"PlanDeskModel", "isDigit", "(I)Z"⟩, prog_11_method_6_code, 1, some .boolean, { frames := 0, cells := 0, slots := 0, locals := 0 }, .inl 0)
def m_M_isSmall : MR := (⟨"PlanDeskModel", "isSmall", "(I)Z"⟩, prog_11_method_7_code, 1, some .boolean, { frames := 0, cells := 0, slots := 0, locals := 0 }, .inl 0)
def m_M_isGreat : MR := (⟨"PlanDeskModel", "isGreat", "(I)Z"⟩, prog_11_method_8_code, 1, some .boolean, { frames := 0, cells := 0, slots := 0, locals := 0 }, .inl 0)
def m_M_isPart : MR := (⟨"PlanDeskModel", "isPart", "(I)Z"⟩, prog_11_method_9_code, 1, some .boolean, { frames := 1, cells := 0, slots := 0, locals := 20 }, .inl 0)
def m_M_token : MR := (⟨"PlanDeskModel", "token", "(IIIJ)V"⟩, prog_11_method_10_code, 6, none, { frames := 0, cells := 0, slots := 0, locals := 0 }, .inl 0)
def m_M_packed : MR := (⟨"PlanDeskModel", "packed", "(IIIII)J"⟩, prog_11_method_11_code, 5, some .long, { frames := 0, cells := 0, slots := 0, locals := 0 }, .inl 0)
def m_M_wordOf : MR := (⟨"PlanDeskModel", "wordOf", "(J)I"⟩, prog_11_method_12_code, 2, some .int, { frames := 1, cells := 0, slots := 0, locals := 24 }, .inl 0)
def m_M_tokenize : MR := (⟨"PlanDeskModel", "tokenize", "()V"⟩, prog_11_method_13_code, 3, none, { frames := 3, cells := 0, slots := 0, locals := 73 }, .inl 0)
def m_M_oneToken : MR := (⟨"PlanDeskModel", "oneToken", "(I)I"⟩, prog_11_method_14_code, 9, some .int, { frames := 2, cells := 0, slots := 0, locals := 45 }, .inl 0)
def m_M_wrong : MR := (⟨"PlanDeskModel", "wrong", "(I)Z"⟩, prog_11_method_15_code, 2, some .boolean, { frames := 0, cells := 0, slots := 0, locals := 0 }, .inl 0)
def m_M_refuse : MR := (⟨"PlanDeskModel", "refuse", "()Z"⟩, prog_11_method_16_code, 1, some .boolean, { frames := 1, cells := 0, slots := 0, locals := 21 }, .inl 0)
def m_M_isSign : MR := (⟨"PlanDeskModel", "isSign", "(I)Z"⟩, prog_11_method_17_code, 2, some .boolean, { frames := 0, cells := 0, slots := 0, locals := 0 }, .inl 0)
def m_M_takes : MR := (⟨"PlanDeskModel", "takes", "(I)Z"⟩, prog_11_method_18_code, 2, some .boolean, { frames := 1, cells := 0, slots := 0, locals := 21 }, .inl 0)
def m_M_want : MR := (⟨"PlanDeskModel", "want", "(I)Z"⟩, prog_11_method_19_code, 2, some .boolean, { frames := 2, cells := 0, slots := 0, locals := 42 }, .inl 0)
def m_M_note : MR := (⟨"PlanDeskModel", "note", "(II)V"⟩, prog_11_method_20_code, 3, none, { frames := 0, cells := 0, slots := 0, locals := 0 }, .inl 0)
def m_M_readVariable : MR := (⟨"PlanDeskModel", "readVariable", "()Z"⟩, prog_11_method_21_code, 2, some .boolean, { frames := 2, cells := 0, slots := 0, locals := 41 }, .inl 0)
def m_M_readTerm : MR := (⟨"PlanDeskModel", "readTerm", "()Z"⟩, prog_11_method_22_code, 2, some .boolean, { frames := 3, cells := 0, slots := 0, locals := 62 }, .inl 0)
def m_M_predicateOf : MR := (⟨"PlanDeskModel", "predicateOf", "(JII)I"⟩, prog_11_method_23_code, 7, some .int, { frames := 1, cells := 0, slots := 0, locals := 22 }, .inl 0)
def m_M_isKnown : MR := (⟨"PlanDeskModel", "isKnown", "(J)Z"⟩, prog_11_method_24_code, 4, some .boolean, { frames := 0, cells := 0, slots := 0, locals := 0 }, .inl 0)
def m_M_readArguments : MR := (⟨"PlanDeskModel", "readArguments", "(ZZ)Z"⟩, prog_11_method_25_code, 5, some .boolean, { frames := 4, cells := 0, slots := 0, locals := 83 }, .inl 0)
def m_M_relation : MR := (⟨"PlanDeskModel", "relation", "()I"⟩, prog_11_method_26_code, 2, some .int, { frames := 0, cells := 0, slots := 0, locals := 0 }, .inl 0)
def m_M_lay : MR := (⟨"PlanDeskModel", "lay", "(II)V"⟩, prog_11_method_27_code, 3, none, { frames := 0, cells := 0, slots := 0, locals := 0 }, .inl 0)
def m_M_readLiteral : MR := (⟨"PlanDeskModel", "readLiteral", "()Z"⟩, prog_11_method_28_code, 6, some .boolean, { frames := 5, cells := 0, slots := 0, locals := 107 }, .inl 0)
def m_M_readBody : MR := (⟨"PlanDeskModel", "readBody", "()Z"⟩, prog_11_method_29_code, 1, some .boolean, { frames := 6, cells := 0, slots := 0, locals := 132 }, .inl 0)
def m_M_isBound : MR := (⟨"PlanDeskModel", "isBound", "(II)Z"⟩, prog_11_method_30_code, 3, some .boolean, { frames := 0, cells := 0, slots := 0, locals := 0 }, .inl 0)
def m_M_bind : MR := (⟨"PlanDeskModel", "bind", "(II)V"⟩, prog_11_method_31_code, 3, none, { frames := 0, cells := 0, slots := 0, locals := 0 }, .inl 0)
def m_M_lookBound : MR := (⟨"PlanDeskModel", "lookBound", "()V"⟩, prog_11_method_32_code, 5, none, { frames := 1, cells := 0, slots := 0, locals := 22 }, .inl 0)
def m_M_predicateSizeOf : MR := (⟨"PlanDeskModel", "predicateSizeOf", "(I)I"⟩, prog_11_method_33_code, 2, some .int, { frames := 0, cells := 0, slots := 0, locals := 0 }, .inl 0)
def m_M_beginClause : MR := (⟨"PlanDeskModel", "beginClause", "(I)V"⟩, prog_11_method_34_code, 2, none, { frames := 0, cells := 0, slots := 0, locals := 0 }, .inl 0)
def m_M_layHead : MR := (⟨"PlanDeskModel", "layHead", "()V"⟩, prog_11_method_35_code, 2, none, { frames := 0, cells := 0, slots := 0, locals := 0 }, .inl 0)
def m_M_findFact : MR := (⟨"PlanDeskModel", "findFact", "()I"⟩, prog_11_method_36_code, 4, some .int, { frames := 0, cells := 0, slots := 0, locals := 0 }, .inl 0)
def m_M_addFact : MR := (⟨"PlanDeskModel", "addFact", "()V"⟩, prog_11_method_37_code, 3, none, { frames := 0, cells := 0, slots := 0, locals := 0 }, .inl 0)
def m_M_readClause : MR := (⟨"PlanDeskModel", "readClause", "()Z"⟩, prog_11_method_38_code, 2, some .boolean, { frames := 7, cells := 0, slots := 0, locals := 152 }, .inl 0)
def m_M_isAtom : MR := (⟨"PlanDeskModel", "isAtom", "(I)Z"⟩, prog_11_method_39_code, 2, some .boolean, { frames := 0, cells := 0, slots := 0, locals := 0 }, .inl 0)
def m_M_lookHangs : MR := (⟨"PlanDeskModel", "lookHangs", "()V"⟩, prog_11_method_40_code, 4, none, { frames := 1, cells := 0, slots := 0, locals := 21 }, .inl 0)
def m_M_isBack : MR := (⟨"PlanDeskModel", "isBack", "(II)Z"⟩, prog_11_method_41_code, 3, some .boolean, { frames := 0, cells := 0, slots := 0, locals := 0 }, .inl 0)
def m_M_lookAbsence : MR := (⟨"PlanDeskModel", "lookAbsence", "()V"⟩, prog_11_method_42_code, 3, none, { frames := 2, cells := 0, slots := 0, locals := 44 }, .inl 0)
def m_M_lookStrata : MR := (⟨"PlanDeskModel", "lookStrata", "()V"⟩, prog_11_method_43_code, 6, none, { frames := 1, cells := 0, slots := 0, locals := 21 }, .inl 0)
def m_M_program : MR := (⟨"PlanDeskModel", "program", "()I"⟩, prog_11_method_44_code, 2, some .int, { frames := 8, cells := 0, slots := 0, locals := 173 }, .inl 0)
def m_M_fault : MR := (⟨"PlanDeskModel", "fault", "(I)I"⟩, prog_11_method_45_code, 2, some .int, { frames := 0, cells := 0, slots := 0, locals := 0 }, .inl 0)
def m_M_isKnownTerm : MR := (⟨"PlanDeskModel", "isKnownTerm", "(II)Z"⟩, prog_11_method_46_code, 3, some .boolean, { frames := 0, cells := 0, slots := 0, locals := 0 }, .inl 0)
def m_M_knownIn : MR := (⟨"PlanDeskModel", "knownIn", "(I)I"⟩, prog_11_method_47_code, 4, some .int, { frames := 1, cells := 0, slots := 0, locals := 22 }, .inl 0)
def m_M_many : MR := (⟨"PlanDeskModel", "many", "(I)I"⟩, prog_11_method_48_code, 3, some .int, { frames := 0, cells := 0, slots := 0, locals := 0 }, .inl 0)
def m_M_canAsk : MR := (⟨"PlanDeskModel", "canAsk", "(I)Z"⟩, prog_11_method_49_code, 3, some .boolean, { frames := 1, cells := 0, slots := 0, locals := 22 }, .inl 0)
def m_M_nextLiteral : MR := (⟨"PlanDeskModel", "nextLiteral", "(I)I"⟩, prog_11_method_50_code, 4, some .int, { frames := 2, cells := 0, slots := 0, locals := 45 }, .inl 0)
def m_M_plan : MR := (⟨"PlanDeskModel", "plan", "(I)V"⟩, prog_11_method_51_code, 8, none, { frames := 3, cells := 0, slots := 0, locals := 68 }, .inl 0)
def m_M_predicates : MR := (⟨"PlanDeskModel", "predicates", "()I"⟩, prog_11_method_52_code, 1, some .int, { frames := 0, cells := 0, slots := 0, locals := 0 }, .inl 0)
def m_M_letters : MR := (⟨"PlanDeskModel", "letters", "(J)I"⟩, prog_11_method_53_code, 5, some .int, { frames := 0, cells := 0, slots := 0, locals := 0 }, .inl 0)
def m_M_predicate : MR := (⟨"PlanDeskModel", "predicate", "(II)I"⟩, prog_11_method_54_code, 8, some .int, { frames := 1, cells := 0, slots := 0, locals := 24 }, .inl 0)
def m_M_hangs : MR := (⟨"PlanDeskModel", "hangs", "(II)Z"⟩, prog_11_method_55_code, 3, some .boolean, { frames := 0, cells := 0, slots := 0, locals := 0 }, .inl 0)
def m_M_rule : MR := (⟨"PlanDeskModel", "rule", "(II)I"⟩, prog_11_method_56_code, 6, some .int, { frames := 1, cells := 0, slots := 0, locals := 22 }, .inl 0)
def m_M_literal : MR := (⟨"PlanDeskModel", "literal", "(III)I"⟩, prog_11_method_57_code, 5, some .int, { frames := 4, cells := 0, slots := 0, locals := 95 }, .inl 0)
def m_L_program : MR := (⟨"PlanDeskLaw", "program", "(LPlanDesk;[J)I"⟩, method_3_code, 3, some .int, { frames := 10, cells := 1, slots := 6, locals := 343 }, .inl 0)
def m_L_rule : MR := (⟨"PlanDeskLaw", "rule", "(LPlanDesk;II[J)I"⟩, method_4_code, 5, some .int, { frames := 10, cells := 1, slots := 6, locals := 344 }, .inl 0)
def m_L_literal : MR := (⟨"PlanDeskLaw", "literal", "(LPlanDesk;III[J)I"⟩, method_5_code, 6, some .int, { frames := 10, cells := 1, slots := 6, locals := 347 }, .inl 0)
def m_L_law : MR := (⟨"PlanDeskLaw", "law", "([I)Z"⟩, code, 7, some .boolean, room_1, .inl 0)
def m_law (xs : List Int) : MR := (⟨"PlanDeskLaw", "law", "([I)Z"⟩, code, 7, some .boolean, room_1, .inr xs)
def m_JI_bitCount : MR := (⟨"java/lang/Integer", "bitCount", "(I)I"⟩, prog_14_method_49_code, 1, some .int, { frames := 0, cells := 0, slots := 0, locals := 0 }, .inl 0)
def m_JM_max : MR := (⟨"java/lang/Math", "max", "(II)I"⟩, prog_15_method_65_code, 2, some .int, { frames := 0, cells := 0, slots := 0, locals := 0 }, .inl 0)
def m_JM_min : MR := (⟨"java/lang/Math", "min", "(II)I"⟩, prog_15_method_69_code, 2, some .int, { frames := 0, cells := 0, slots := 0, locals := 0 }, .inl 0)
def m_JP_ck : MR := (⟨"jdk/internal/util/Preconditions", "checkIndex", "(IILjava/util/function/BiFunction;)I"⟩, prog_23_method_11_code, 3, some .int, { frames := 0, cells := 0, slots := 0, locals := 0 }, .inl 0)
def m_JS_ck : MR := (⟨"java/lang/String", "checkIndex", "(II)V"⟩, prog_17_method_155_code, 2, none, { frames := 1, cells := 0, slots := 0, locals := 22 }, .inl 0)
def m_JL_charAt : MR := (⟨"java/lang/StringLatin1", "charAt", "([BI)C"⟩, prog_18_method_2_code, 2, some .char, { frames := 2, cells := 0, slots := 0, locals := 43 }, .inl 0)
def m_JS_coder : MR := (⟨"java/lang/String", "coder", "()B"⟩, prog_17_method_152_code, 1, some .byte, { frames := 0, cells := 0, slots := 0, locals := 0 }, .inl 0)
def m_JS_isLatin1 : MR := (⟨"java/lang/String", "isLatin1", "()Z"⟩, prog_17_method_154_code, 1, some .boolean, { frames := 0, cells := 0, slots := 0, locals := 0 }, .inl 0)
def m_JS_length : MR := (⟨"java/lang/String", "length", "()I"⟩, prog_17_method_54_code, 1, some .int, { frames := 1, cells := 0, slots := 0, locals := 20 }, .inl 0)
def m_JS_charAt : MR := (⟨"java/lang/String", "charAt", "(I)C"⟩, prog_17_method_56_code, 2, some .char, { frames := 3, cells := 0, slots := 0, locals := 64 }, .inl 0)
def AW : List Cond := lw_tbl.filter goodWord
theorem AW_good (w : Cond) (h : w ∈ AW) : (w.onTables && w.keeps) = true ∨ ∃ ty, w = .arrayClass ty := good_of_word (List.mem_filter.mp h).2
theorem AW_tbl {w : Cond} (h : w ∈ AW) : w ∈ lw_tbl := (List.mem_filter.mp h).1
theorem aw1 {w : Cond} {i : Nat} (h : tables_1_1[i]? = some w) (hg : goodWord w = true) : w ∈ AW := List.mem_filter.mpr ⟨List.mem_append_right _ (List.mem_append_left _ (List.mem_of_getElem? h)), hg⟩
theorem aw2 {w : Cond} {i : Nat} (h : tables_1_2[i]? = some w) (hg : goodWord w = true) : w ∈ AW := List.mem_filter.mpr ⟨List.mem_append_right _ (List.mem_append_right _ (List.mem_append_left _ (List.mem_of_getElem? h))), hg⟩
theorem aw3 {w : Cond} {i : Nat} (h : tables_1_3[i]? = some w) (hg : goodWord w = true) : w ∈ AW := List.mem_filter.mpr ⟨List.mem_append_right _ (List.mem_append_right _ (List.mem_append_right _ (List.mem_append_left _ (List.mem_of_getElem? h)))), hg⟩
theorem aw4 {w : Cond} {i : Nat} (h : tables_1_4[i]? = some w) (hg : goodWord w = true) : w ∈ AW := List.mem_filter.mpr ⟨List.mem_append_right _ (List.mem_append_right _ (List.mem_append_right _ (List.mem_append_right _ (List.mem_append_left _ (List.mem_of_getElem? h))))), hg⟩
theorem aw5 {w : Cond} {i : Nat} (h : tables_1_5[i]? = some w) (hg : goodWord w = true) : w ∈ AW := List.mem_filter.mpr ⟨List.mem_append_right _ (List.mem_append_right _ (List.mem_append_right _ (List.mem_append_right _ (List.mem_append_right _ (List.mem_append_left _ (List.mem_of_getElem? h)))))), hg⟩
theorem aw6 {w : Cond} {i : Nat} (h : tables_1_6[i]? = some w) (hg : goodWord w = true) : w ∈ AW := List.mem_filter.mpr ⟨List.mem_append_right _ (List.mem_append_right _ (List.mem_append_right _ (List.mem_append_right _ (List.mem_append_right _ (List.mem_append_right _ (List.mem_of_getElem? h)))))), hg⟩
theorem awp1 {y : MethodName} {n i : Nat} (h : lw_privs_1[i]? = some (y, n)) : Cond.selects y.cls y y ∈ AW := List.mem_filter.mpr ⟨List.mem_append_left _ (List.mem_map_of_mem (f := fun q : MethodName × Nat => Cond.selects q.1.cls q.1 q.1) (List.mem_append_left _ (List.mem_of_getElem? h))), rfl⟩
theorem awp2 {y : MethodName} {n i : Nat} (h : lw_privs_2[i]? = some (y, n)) : Cond.selects y.cls y y ∈ AW := List.mem_filter.mpr ⟨List.mem_append_left _ (List.mem_map_of_mem (f := fun q : MethodName × Nat => Cond.selects q.1.cls q.1 q.1) (List.mem_append_right _ (List.mem_append_left _ (List.mem_of_getElem? h)))), rfl⟩
theorem awp3 {y : MethodName} {n i : Nat} (h : lw_privs_3[i]? = some (y, n)) : Cond.selects y.cls y y ∈ AW := List.mem_filter.mpr ⟨List.mem_append_left _ (List.mem_map_of_mem (f := fun q : MethodName × Nat => Cond.selects q.1.cls q.1 q.1) (List.mem_append_right _ (List.mem_append_right _ (List.mem_append_left _ (List.mem_of_getElem? h))))), rfl⟩
theorem awp4 {y : MethodName} {n i : Nat} (h : lw_privs_4[i]? = some (y, n)) : Cond.selects y.cls y y ∈ AW := List.mem_filter.mpr ⟨List.mem_append_left _ (List.mem_map_of_mem (f := fun q : MethodName × Nat => Cond.selects q.1.cls q.1 q.1) (List.mem_append_right _ (List.mem_append_right _ (List.mem_append_right _ (List.mem_append_left _ (List.mem_of_getElem? h)))))), rfl⟩
theorem awp5 {y : MethodName} {n i : Nat} (h : lw_privs_5[i]? = some (y, n)) : Cond.selects y.cls y y ∈ AW := List.mem_filter.mpr ⟨List.mem_append_left _ (List.mem_map_of_mem (f := fun q : MethodName × Nat => Cond.selects q.1.cls q.1 q.1) (List.mem_append_right _ (List.mem_append_right _ (List.mem_append_right _ (List.mem_append_right _ (List.mem_of_getElem? h)))))), rfl⟩
