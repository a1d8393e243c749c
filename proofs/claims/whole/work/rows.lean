section
-- ===== PART A: goes FIRST, ahead of the names: the tables' words, and 'selects' of the private methods out of them =====
/-- a private method of a class that the tables say can be made, by its rows of tables_1 -/
def lw_okq (q : MethodName × Nat) : Prop := (q.1.cls ≠ "java/lang/invoke/MethodHandle" ∧ q.1.cls ≠ "java/lang/invoke/VarHandle") ∧ Cond.instantiable q.1.cls q.2 ∈ tables_1 ∧ Cond.privateMethod q.1 ∈ tables_1 ∧ Cond.instanceMethod q.1 ∈ tables_1
theorem lw_p0 : lw_okq (⟨"PlanDesk$Tokens", "cutName", "(LPlanDesk$Tape;I)I"⟩, 4) := ⟨⟨by decide +kernel, by decide +kernel⟩, List.mem_of_getElem? (i := 54) (by decide +kernel), List.mem_of_getElem? (i := 408) (by decide +kernel), List.mem_of_getElem? (i := 409) (by decide +kernel)⟩
theorem lw_p1 : lw_okq (⟨"PlanDesk$Tokens", "add", "(IIJ)V"⟩, 4) := ⟨⟨by decide +kernel, by decide +kernel⟩, List.mem_of_getElem? (i := 54) (by decide +kernel), List.mem_of_getElem? (i := 476) (by decide +kernel), List.mem_of_getElem? (i := 477) (by decide +kernel)⟩
theorem lw_p2 : lw_okq (⟨"PlanDesk$Tokens", "cutVariable", "(LPlanDesk$Tape;I)I"⟩, 4) := ⟨⟨by decide +kernel, by decide +kernel⟩, List.mem_of_getElem? (i := 54) (by decide +kernel), List.mem_of_getElem? (i := 485) (by decide +kernel), List.mem_of_getElem? (i := 486) (by decide +kernel)⟩
theorem lw_p3 : lw_okq (⟨"PlanDesk$Tokens", "cutNumber", "(LPlanDesk$Tape;I)I"⟩, 4) := ⟨⟨by decide +kernel, by decide +kernel⟩, List.mem_of_getElem? (i := 54) (by decide +kernel), List.mem_of_getElem? (i := 489) (by decide +kernel), List.mem_of_getElem? (i := 490) (by decide +kernel)⟩
theorem lw_p4 : lw_okq (⟨"PlanDesk$Tokens", "cutSign", "(LPlanDesk$Tape;I)I"⟩, 4) := ⟨⟨by decide +kernel, by decide +kernel⟩, List.mem_of_getElem? (i := 54) (by decide +kernel), List.mem_of_getElem? (i := 499) (by decide +kernel), List.mem_of_getElem? (i := 500) (by decide +kernel)⟩
theorem lw_p5 : lw_okq (⟨"PlanDesk$Reader", "moveTo", "(I)V"⟩, 10) := ⟨⟨by decide +kernel, by decide +kernel⟩, List.mem_of_getElem? (i := 48) (by decide +kernel), List.mem_of_getElem? (i := 513) (by decide +kernel), List.mem_of_getElem? (i := 514) (by decide +kernel)⟩
theorem lw_p6 : lw_okq (⟨"PlanDesk$Reader", "readAtom", "(LPlanDesk$Literal;)Z"⟩, 10) := ⟨⟨by decide +kernel, by decide +kernel⟩, List.mem_of_getElem? (i := 48) (by decide +kernel), List.mem_of_getElem? (i := 525) (by decide +kernel), List.mem_of_getElem? (i := 526) (by decide +kernel)⟩
theorem lw_p7 : lw_okq (⟨"PlanDesk$Reader", "refuse", "(I)Z"⟩, 10) := ⟨⟨by decide +kernel, by decide +kernel⟩, List.mem_of_getElem? (i := 48) (by decide +kernel), List.mem_of_getElem? (i := 529) (by decide +kernel), List.mem_of_getElem? (i := 530) (by decide +kernel)⟩
theorem lw_p8 : lw_okq (⟨"PlanDesk$Reader", "take", "(I)Z"⟩, 10) := ⟨⟨by decide +kernel, by decide +kernel⟩, List.mem_of_getElem? (i := 48) (by decide +kernel), List.mem_of_getElem? (i := 537) (by decide +kernel), List.mem_of_getElem? (i := 538) (by decide +kernel)⟩
theorem lw_p9 : lw_okq (⟨"PlanDesk$Reader", "readTotal", "(LPlanDesk$Literal;)Z"⟩, 10) := ⟨⟨by decide +kernel, by decide +kernel⟩, List.mem_of_getElem? (i := 48) (by decide +kernel), List.mem_of_getElem? (i := 541) (by decide +kernel), List.mem_of_getElem? (i := 542) (by decide +kernel)⟩
theorem lw_p10 : lw_okq (⟨"PlanDesk$Reader", "readTerm", "(LPlanDesk$Literal;)Z"⟩, 10) := ⟨⟨by decide +kernel, by decide +kernel⟩, List.mem_of_getElem? (i := 48) (by decide +kernel), List.mem_of_getElem? (i := 545) (by decide +kernel), List.mem_of_getElem? (i := 546) (by decide +kernel)⟩
theorem lw_p11 : lw_okq (⟨"PlanDesk$Reader", "readAnything", "(LPlanDesk$Literal;)Z"⟩, 10) := ⟨⟨by decide +kernel, by decide +kernel⟩, List.mem_of_getElem? (i := 48) (by decide +kernel), List.mem_of_getElem? (i := 561) (by decide +kernel), List.mem_of_getElem? (i := 562) (by decide +kernel)⟩
theorem lw_p12 : lw_okq (⟨"PlanDesk$Reader", "note", "(II)V"⟩, 10) := ⟨⟨by decide +kernel, by decide +kernel⟩, List.mem_of_getElem? (i := 48) (by decide +kernel), List.mem_of_getElem? (i := 570) (by decide +kernel), List.mem_of_getElem? (i := 571) (by decide +kernel)⟩
theorem lw_p13 : lw_okq (⟨"PlanDesk$Reader", "readBody", "()Z"⟩, 10) := ⟨⟨by decide +kernel, by decide +kernel⟩, List.mem_of_getElem? (i := 48) (by decide +kernel), List.mem_of_getElem? (i := 574) (by decide +kernel), List.mem_of_getElem? (i := 575) (by decide +kernel)⟩
theorem lw_p14 : lw_okq (⟨"PlanDesk$Reader", "readLiteral", "(LPlanDesk$Literal;)Z"⟩, 10) := ⟨⟨by decide +kernel, by decide +kernel⟩, List.mem_of_getElem? (i := 48) (by decide +kernel), List.mem_of_getElem? (i := 578) (by decide +kernel), List.mem_of_getElem? (i := 579) (by decide +kernel)⟩
theorem lw_p15 : lw_okq (⟨"PlanDesk$Reader", "isOpenNext", "()Z"⟩, 10) := ⟨⟨by decide +kernel, by decide +kernel⟩, List.mem_of_getElem? (i := 48) (by decide +kernel), List.mem_of_getElem? (i := 583) (by decide +kernel), List.mem_of_getElem? (i := 584) (by decide +kernel)⟩
def lw_privs_1 : List (MethodName × Nat) := [(⟨"PlanDesk$Tokens", "cutName", "(LPlanDesk$Tape;I)I"⟩, 4), (⟨"PlanDesk$Tokens", "add", "(IIJ)V"⟩, 4), (⟨"PlanDesk$Tokens", "cutVariable", "(LPlanDesk$Tape;I)I"⟩, 4), (⟨"PlanDesk$Tokens", "cutNumber", "(LPlanDesk$Tape;I)I"⟩, 4), (⟨"PlanDesk$Tokens", "cutSign", "(LPlanDesk$Tape;I)I"⟩, 4), (⟨"PlanDesk$Reader", "moveTo", "(I)V"⟩, 10), (⟨"PlanDesk$Reader", "readAtom", "(LPlanDesk$Literal;)Z"⟩, 10), (⟨"PlanDesk$Reader", "refuse", "(I)Z"⟩, 10), (⟨"PlanDesk$Reader", "take", "(I)Z"⟩, 10), (⟨"PlanDesk$Reader", "readTotal", "(LPlanDesk$Literal;)Z"⟩, 10), (⟨"PlanDesk$Reader", "readTerm", "(LPlanDesk$Literal;)Z"⟩, 10), (⟨"PlanDesk$Reader", "readAnything", "(LPlanDesk$Literal;)Z"⟩, 10), (⟨"PlanDesk$Reader", "note", "(II)V"⟩, 10), (⟨"PlanDesk$Reader", "readBody", "()Z"⟩, 10), (⟨"PlanDesk$Reader", "readLiteral", "(LPlanDesk$Literal;)Z"⟩, 10), (⟨"PlanDesk$Reader", "isOpenNext", "()Z"⟩, 10)]
theorem lw_r1 : ∀ q ∈ lw_privs_1, lw_okq q := List.forall_mem_cons.mpr ⟨lw_p0, List.forall_mem_cons.mpr ⟨lw_p1, List.forall_mem_cons.mpr ⟨lw_p2, List.forall_mem_cons.mpr ⟨lw_p3, List.forall_mem_cons.mpr ⟨lw_p4, List.forall_mem_cons.mpr ⟨lw_p5, List.forall_mem_cons.mpr ⟨lw_p6, List.forall_mem_cons.mpr ⟨lw_p7, List.forall_mem_cons.mpr ⟨lw_p8, List.forall_mem_cons.mpr ⟨lw_p9, List.forall_mem_cons.mpr ⟨lw_p10, List.forall_mem_cons.mpr ⟨lw_p11, List.forall_mem_cons.mpr ⟨lw_p12, List.forall_mem_cons.mpr ⟨lw_p13, List.forall_mem_cons.mpr ⟨lw_p14, List.forall_mem_cons.mpr ⟨lw_p15, fun _ h => absurd h List.not_mem_nil⟩⟩⟩⟩⟩⟩⟩⟩⟩⟩⟩⟩⟩⟩⟩⟩
theorem lw_p16 : lw_okq (⟨"PlanDesk$Reader", "readTest", "(LPlanDesk$Literal;)Z"⟩, 10) := ⟨⟨by decide +kernel, by decide +kernel⟩, List.mem_of_getElem? (i := 48) (by decide +kernel), List.mem_of_getElem? (i := 587) (by decide +kernel), List.mem_of_getElem? (i := 588) (by decide +kernel)⟩
theorem lw_p17 : lw_okq (⟨"PlanDesk$Reader", "readOperation", "()Z"⟩, 10) := ⟨⟨by decide +kernel, by decide +kernel⟩, List.mem_of_getElem? (i := 48) (by decide +kernel), List.mem_of_getElem? (i := 591) (by decide +kernel), List.mem_of_getElem? (i := 592) (by decide +kernel)⟩
theorem lw_p18 : lw_okq (⟨"PlanDesk$Reader", "endRule", "()Z"⟩, 10) := ⟨⟨by decide +kernel, by decide +kernel⟩, List.mem_of_getElem? (i := 48) (by decide +kernel), List.mem_of_getElem? (i := 595) (by decide +kernel), List.mem_of_getElem? (i := 596) (by decide +kernel)⟩
theorem lw_p19 : lw_okq (⟨"PlanDesk$Clause", "nextAsked", "(II)I"⟩, 12) := ⟨⟨by decide +kernel, by decide +kernel⟩, List.mem_of_getElem? (i := 79) (by decide +kernel), List.mem_of_getElem? (i := 603) (by decide +kernel), List.mem_of_getElem? (i := 604) (by decide +kernel)⟩
theorem lw_p20 : lw_okq (⟨"PlanDesk$Clause", "firstWithout", "(I)I"⟩, 12) := ⟨⟨by decide +kernel, by decide +kernel⟩, List.mem_of_getElem? (i := 79) (by decide +kernel), List.mem_of_getElem? (i := 630) (by decide +kernel), List.mem_of_getElem? (i := 631) (by decide +kernel)⟩
theorem lw_p21 : lw_okq (⟨"PlanDesk$Reader", "endFact", "()Z"⟩, 10) := ⟨⟨by decide +kernel, by decide +kernel⟩, List.mem_of_getElem? (i := 48) (by decide +kernel), List.mem_of_getElem? (i := 643) (by decide +kernel), List.mem_of_getElem? (i := 644) (by decide +kernel)⟩
theorem lw_p22 : lw_okq (⟨"PlanDesk$Facts", "isSame", "(ILPlanDesk$Literal;)Z"⟩, 3) := ⟨⟨by decide +kernel, by decide +kernel⟩, List.mem_of_getElem? (i := 182) (by decide +kernel), List.mem_of_getElem? (i := 658) (by decide +kernel), List.mem_of_getElem? (i := 659) (by decide +kernel)⟩
theorem lw_p23 : lw_okq (⟨"PlanDesk$Reader", "finish", "()V"⟩, 10) := ⟨⟨by decide +kernel, by decide +kernel⟩, List.mem_of_getElem? (i := 48) (by decide +kernel), List.mem_of_getElem? (i := 669) (by decide +kernel), List.mem_of_getElem? (i := 670) (by decide +kernel)⟩
theorem lw_p24 : lw_okq (⟨"PlanDesk$Book", "leadsBack", "(II)Z"⟩, 8) := ⟨⟨by decide +kernel, by decide +kernel⟩, List.mem_of_getElem? (i := 232) (by decide +kernel), List.mem_of_getElem? (i := 686) (by decide +kernel), List.mem_of_getElem? (i := 687) (by decide +kernel)⟩
theorem lw_p25 : lw_okq (⟨"PlanDesk$Book", "liftHead", "(I)V"⟩, 8) := ⟨⟨by decide +kernel, by decide +kernel⟩, List.mem_of_getElem? (i := 232) (by decide +kernel), List.mem_of_getElem? (i := 694) (by decide +kernel), List.mem_of_getElem? (i := 695) (by decide +kernel)⟩
theorem lw_p26 : lw_okq (⟨"java/lang/Throwable", "fillInStackTrace", "(I)Ljava/lang/Throwable;"⟩, 6) := ⟨⟨by decide +kernel, by decide +kernel⟩, List.mem_of_getElem? (i := 738) (by decide +kernel), List.mem_of_getElem? (i := 736) (by decide +kernel), List.mem_of_getElem? (i := 737) (by decide +kernel)⟩
theorem lw_p27 : lw_okq (⟨"PlanDeskModel", "tokenize", "()V"⟩, 56) := ⟨⟨by decide +kernel, by decide +kernel⟩, List.mem_of_getElem? (i := 805) (by decide +kernel), List.mem_of_getElem? (i := 994) (by decide +kernel), List.mem_of_getElem? (i := 995) (by decide +kernel)⟩
theorem lw_p28 : lw_okq (⟨"PlanDeskModel", "oneToken", "(I)I"⟩, 56) := ⟨⟨by decide +kernel, by decide +kernel⟩, List.mem_of_getElem? (i := 805) (by decide +kernel), List.mem_of_getElem? (i := 998) (by decide +kernel), List.mem_of_getElem? (i := 999) (by decide +kernel)⟩
theorem lw_p29 : lw_okq (⟨"PlanDeskModel", "see", "(I)I"⟩, 56) := ⟨⟨by decide +kernel, by decide +kernel⟩, List.mem_of_getElem? (i := 805) (by decide +kernel), List.mem_of_getElem? (i := 1005) (by decide +kernel), List.mem_of_getElem? (i := 1006) (by decide +kernel)⟩
theorem lw_p30 : lw_okq (⟨"PlanDeskModel", "token", "(IIIJ)V"⟩, 56) := ⟨⟨by decide +kernel, by decide +kernel⟩, List.mem_of_getElem? (i := 805) (by decide +kernel), List.mem_of_getElem? (i := 1011) (by decide +kernel), List.mem_of_getElem? (i := 1012) (by decide +kernel)⟩
theorem lw_p31 : lw_okq (⟨"PlanDeskModel", "readClause", "()Z"⟩, 56) := ⟨⟨by decide +kernel, by decide +kernel⟩, List.mem_of_getElem? (i := 805) (by decide +kernel), List.mem_of_getElem? (i := 1030) (by decide +kernel), List.mem_of_getElem? (i := 1031) (by decide +kernel)⟩
def lw_privs_2 : List (MethodName × Nat) := [(⟨"PlanDesk$Reader", "readTest", "(LPlanDesk$Literal;)Z"⟩, 10), (⟨"PlanDesk$Reader", "readOperation", "()Z"⟩, 10), (⟨"PlanDesk$Reader", "endRule", "()Z"⟩, 10), (⟨"PlanDesk$Clause", "nextAsked", "(II)I"⟩, 12), (⟨"PlanDesk$Clause", "firstWithout", "(I)I"⟩, 12), (⟨"PlanDesk$Reader", "endFact", "()Z"⟩, 10), (⟨"PlanDesk$Facts", "isSame", "(ILPlanDesk$Literal;)Z"⟩, 3), (⟨"PlanDesk$Reader", "finish", "()V"⟩, 10), (⟨"PlanDesk$Book", "leadsBack", "(II)Z"⟩, 8), (⟨"PlanDesk$Book", "liftHead", "(I)V"⟩, 8), (⟨"java/lang/Throwable", "fillInStackTrace", "(I)Ljava/lang/Throwable;"⟩, 6), (⟨"PlanDeskModel", "tokenize", "()V"⟩, 56), (⟨"PlanDeskModel", "oneToken", "(I)I"⟩, 56), (⟨"PlanDeskModel", "see", "(I)I"⟩, 56), (⟨"PlanDeskModel", "token", "(IIIJ)V"⟩, 56), (⟨"PlanDeskModel", "readClause", "()Z"⟩, 56)]
theorem lw_r2 : ∀ q ∈ lw_privs_2, lw_okq q := List.forall_mem_cons.mpr ⟨lw_p16, List.forall_mem_cons.mpr ⟨lw_p17, List.forall_mem_cons.mpr ⟨lw_p18, List.forall_mem_cons.mpr ⟨lw_p19, List.forall_mem_cons.mpr ⟨lw_p20, List.forall_mem_cons.mpr ⟨lw_p21, List.forall_mem_cons.mpr ⟨lw_p22, List.forall_mem_cons.mpr ⟨lw_p23, List.forall_mem_cons.mpr ⟨lw_p24, List.forall_mem_cons.mpr ⟨lw_p25, List.forall_mem_cons.mpr ⟨lw_p26, List.forall_mem_cons.mpr ⟨lw_p27, List.forall_mem_cons.mpr ⟨lw_p28, List.forall_mem_cons.mpr ⟨lw_p29, List.forall_mem_cons.mpr ⟨lw_p30, List.forall_mem_cons.mpr ⟨lw_p31, fun _ h => absurd h List.not_mem_nil⟩⟩⟩⟩⟩⟩⟩⟩⟩⟩⟩⟩⟩⟩⟩⟩
theorem lw_p32 : lw_okq (⟨"PlanDeskModel", "beginClause", "(I)V"⟩, 56) := ⟨⟨by decide +kernel, by decide +kernel⟩, List.mem_of_getElem? (i := 805) (by decide +kernel), List.mem_of_getElem? (i := 1034) (by decide +kernel), List.mem_of_getElem? (i := 1035) (by decide +kernel)⟩
theorem lw_p33 : lw_okq (⟨"PlanDeskModel", "readArguments", "(ZZ)Z"⟩, 56) := ⟨⟨by decide +kernel, by decide +kernel⟩, List.mem_of_getElem? (i := 805) (by decide +kernel), List.mem_of_getElem? (i := 1038) (by decide +kernel), List.mem_of_getElem? (i := 1039) (by decide +kernel)⟩
theorem lw_p34 : lw_okq (⟨"PlanDeskModel", "isKnown", "(J)Z"⟩, 56) := ⟨⟨by decide +kernel, by decide +kernel⟩, List.mem_of_getElem? (i := 805) (by decide +kernel), List.mem_of_getElem? (i := 1042) (by decide +kernel), List.mem_of_getElem? (i := 1043) (by decide +kernel)⟩
theorem lw_p35 : lw_okq (⟨"PlanDeskModel", "refuse", "()Z"⟩, 56) := ⟨⟨by decide +kernel, by decide +kernel⟩, List.mem_of_getElem? (i := 805) (by decide +kernel), List.mem_of_getElem? (i := 1046) (by decide +kernel), List.mem_of_getElem? (i := 1047) (by decide +kernel)⟩
theorem lw_p36 : lw_okq (⟨"PlanDeskModel", "wrong", "(I)Z"⟩, 56) := ⟨⟨by decide +kernel, by decide +kernel⟩, List.mem_of_getElem? (i := 805) (by decide +kernel), List.mem_of_getElem? (i := 1050) (by decide +kernel), List.mem_of_getElem? (i := 1051) (by decide +kernel)⟩
theorem lw_p37 : lw_okq (⟨"PlanDeskModel", "want", "(I)Z"⟩, 56) := ⟨⟨by decide +kernel, by decide +kernel⟩, List.mem_of_getElem? (i := 805) (by decide +kernel), List.mem_of_getElem? (i := 1054) (by decide +kernel), List.mem_of_getElem? (i := 1055) (by decide +kernel)⟩
theorem lw_p38 : lw_okq (⟨"PlanDeskModel", "takes", "(I)Z"⟩, 56) := ⟨⟨by decide +kernel, by decide +kernel⟩, List.mem_of_getElem? (i := 805) (by decide +kernel), List.mem_of_getElem? (i := 1058) (by decide +kernel), List.mem_of_getElem? (i := 1059) (by decide +kernel)⟩
theorem lw_p39 : lw_okq (⟨"PlanDeskModel", "isSign", "(I)Z"⟩, 56) := ⟨⟨by decide +kernel, by decide +kernel⟩, List.mem_of_getElem? (i := 805) (by decide +kernel), List.mem_of_getElem? (i := 1062) (by decide +kernel), List.mem_of_getElem? (i := 1063) (by decide +kernel)⟩
theorem lw_p40 : lw_okq (⟨"PlanDeskModel", "readVariable", "()Z"⟩, 56) := ⟨⟨by decide +kernel, by decide +kernel⟩, List.mem_of_getElem? (i := 805) (by decide +kernel), List.mem_of_getElem? (i := 1066) (by decide +kernel), List.mem_of_getElem? (i := 1067) (by decide +kernel)⟩
theorem lw_p41 : lw_okq (⟨"PlanDeskModel", "readTerm", "()Z"⟩, 56) := ⟨⟨by decide +kernel, by decide +kernel⟩, List.mem_of_getElem? (i := 805) (by decide +kernel), List.mem_of_getElem? (i := 1070) (by decide +kernel), List.mem_of_getElem? (i := 1071) (by decide +kernel)⟩
theorem lw_p42 : lw_okq (⟨"PlanDeskModel", "predicateOf", "(JII)I"⟩, 56) := ⟨⟨by decide +kernel, by decide +kernel⟩, List.mem_of_getElem? (i := 805) (by decide +kernel), List.mem_of_getElem? (i := 1075) (by decide +kernel), List.mem_of_getElem? (i := 1076) (by decide +kernel)⟩
theorem lw_p43 : lw_okq (⟨"PlanDeskModel", "note", "(II)V"⟩, 56) := ⟨⟨by decide +kernel, by decide +kernel⟩, List.mem_of_getElem? (i := 805) (by decide +kernel), List.mem_of_getElem? (i := 1079) (by decide +kernel), List.mem_of_getElem? (i := 1080) (by decide +kernel)⟩
theorem lw_p44 : lw_okq (⟨"PlanDeskModel", "layHead", "()V"⟩, 56) := ⟨⟨by decide +kernel, by decide +kernel⟩, List.mem_of_getElem? (i := 805) (by decide +kernel), List.mem_of_getElem? (i := 1083) (by decide +kernel), List.mem_of_getElem? (i := 1084) (by decide +kernel)⟩
theorem lw_p45 : lw_okq (⟨"PlanDeskModel", "findFact", "()I"⟩, 56) := ⟨⟨by decide +kernel, by decide +kernel⟩, List.mem_of_getElem? (i := 805) (by decide +kernel), List.mem_of_getElem? (i := 1087) (by decide +kernel), List.mem_of_getElem? (i := 1088) (by decide +kernel)⟩
theorem lw_p46 : lw_okq (⟨"PlanDeskModel", "addFact", "()V"⟩, 56) := ⟨⟨by decide +kernel, by decide +kernel⟩, List.mem_of_getElem? (i := 805) (by decide +kernel), List.mem_of_getElem? (i := 1091) (by decide +kernel), List.mem_of_getElem? (i := 1092) (by decide +kernel)⟩
theorem lw_p47 : lw_okq (⟨"PlanDeskModel", "readBody", "()Z"⟩, 56) := ⟨⟨by decide +kernel, by decide +kernel⟩, List.mem_of_getElem? (i := 805) (by decide +kernel), List.mem_of_getElem? (i := 1095) (by decide +kernel), List.mem_of_getElem? (i := 1096) (by decide +kernel)⟩
def lw_privs_3 : List (MethodName × Nat) := [(⟨"PlanDeskModel", "beginClause", "(I)V"⟩, 56), (⟨"PlanDeskModel", "readArguments", "(ZZ)Z"⟩, 56), (⟨"PlanDeskModel", "isKnown", "(J)Z"⟩, 56), (⟨"PlanDeskModel", "refuse", "()Z"⟩, 56), (⟨"PlanDeskModel", "wrong", "(I)Z"⟩, 56), (⟨"PlanDeskModel", "want", "(I)Z"⟩, 56), (⟨"PlanDeskModel", "takes", "(I)Z"⟩, 56), (⟨"PlanDeskModel", "isSign", "(I)Z"⟩, 56), (⟨"PlanDeskModel", "readVariable", "()Z"⟩, 56), (⟨"PlanDeskModel", "readTerm", "()Z"⟩, 56), (⟨"PlanDeskModel", "predicateOf", "(JII)I"⟩, 56), (⟨"PlanDeskModel", "note", "(II)V"⟩, 56), (⟨"PlanDeskModel", "layHead", "()V"⟩, 56), (⟨"PlanDeskModel", "findFact", "()I"⟩, 56), (⟨"PlanDeskModel", "addFact", "()V"⟩, 56), (⟨"PlanDeskModel", "readBody", "()Z"⟩, 56)]
theorem lw_r3 : ∀ q ∈ lw_privs_3, lw_okq q := List.forall_mem_cons.mpr ⟨lw_p32, List.forall_mem_cons.mpr ⟨lw_p33, List.forall_mem_cons.mpr ⟨lw_p34, List.forall_mem_cons.mpr ⟨lw_p35, List.forall_mem_cons.mpr ⟨lw_p36, List.forall_mem_cons.mpr ⟨lw_p37, List.forall_mem_cons.mpr ⟨lw_p38, List.forall_mem_cons.mpr ⟨lw_p39, List.forall_mem_cons.mpr ⟨lw_p40, List.forall_mem_cons.mpr ⟨lw_p41, List.forall_mem_cons.mpr ⟨lw_p42, List.forall_mem_cons.mpr ⟨lw_p43, List.forall_mem_cons.mpr ⟨lw_p44, List.forall_mem_cons.mpr ⟨lw_p45, List.forall_mem_cons.mpr ⟨lw_p46, List.forall_mem_cons.mpr ⟨lw_p47, fun _ h => absurd h List.not_mem_nil⟩⟩⟩⟩⟩⟩⟩⟩⟩⟩⟩⟩⟩⟩⟩⟩
theorem lw_p48 : lw_okq (⟨"PlanDeskModel", "readLiteral", "()Z"⟩, 56) := ⟨⟨by decide +kernel, by decide +kernel⟩, List.mem_of_getElem? (i := 805) (by decide +kernel), List.mem_of_getElem? (i := 1099) (by decide +kernel), List.mem_of_getElem? (i := 1100) (by decide +kernel)⟩
theorem lw_p49 : lw_okq (⟨"PlanDeskModel", "lay", "(II)V"⟩, 56) := ⟨⟨by decide +kernel, by decide +kernel⟩, List.mem_of_getElem? (i := 805) (by decide +kernel), List.mem_of_getElem? (i := 1103) (by decide +kernel), List.mem_of_getElem? (i := 1104) (by decide +kernel)⟩
theorem lw_p50 : lw_okq (⟨"PlanDeskModel", "relation", "()I"⟩, 56) := ⟨⟨by decide +kernel, by decide +kernel⟩, List.mem_of_getElem? (i := 805) (by decide +kernel), List.mem_of_getElem? (i := 1107) (by decide +kernel), List.mem_of_getElem? (i := 1108) (by decide +kernel)⟩
theorem lw_p51 : lw_okq (⟨"PlanDeskModel", "lookBound", "()V"⟩, 56) := ⟨⟨by decide +kernel, by decide +kernel⟩, List.mem_of_getElem? (i := 805) (by decide +kernel), List.mem_of_getElem? (i := 1111) (by decide +kernel), List.mem_of_getElem? (i := 1112) (by decide +kernel)⟩
theorem lw_p52 : lw_okq (⟨"PlanDeskModel", "predicateSizeOf", "(I)I"⟩, 56) := ⟨⟨by decide +kernel, by decide +kernel⟩, List.mem_of_getElem? (i := 805) (by decide +kernel), List.mem_of_getElem? (i := 1115) (by decide +kernel), List.mem_of_getElem? (i := 1116) (by decide +kernel)⟩
theorem lw_p53 : lw_okq (⟨"PlanDeskModel", "bind", "(II)V"⟩, 56) := ⟨⟨by decide +kernel, by decide +kernel⟩, List.mem_of_getElem? (i := 805) (by decide +kernel), List.mem_of_getElem? (i := 1119) (by decide +kernel), List.mem_of_getElem? (i := 1120) (by decide +kernel)⟩
theorem lw_p54 : lw_okq (⟨"PlanDeskModel", "isBound", "(II)Z"⟩, 56) := ⟨⟨by decide +kernel, by decide +kernel⟩, List.mem_of_getElem? (i := 805) (by decide +kernel), List.mem_of_getElem? (i := 1123) (by decide +kernel), List.mem_of_getElem? (i := 1124) (by decide +kernel)⟩
theorem lw_p55 : lw_okq (⟨"PlanDeskModel", "lookAbsence", "()V"⟩, 56) := ⟨⟨by decide +kernel, by decide +kernel⟩, List.mem_of_getElem? (i := 805) (by decide +kernel), List.mem_of_getElem? (i := 1127) (by decide +kernel), List.mem_of_getElem? (i := 1128) (by decide +kernel)⟩
theorem lw_p56 : lw_okq (⟨"PlanDeskModel", "lookHangs", "()V"⟩, 56) := ⟨⟨by decide +kernel, by decide +kernel⟩, List.mem_of_getElem? (i := 805) (by decide +kernel), List.mem_of_getElem? (i := 1131) (by decide +kernel), List.mem_of_getElem? (i := 1132) (by decide +kernel)⟩
theorem lw_p57 : lw_okq (⟨"PlanDeskModel", "isAtom", "(I)Z"⟩, 56) := ⟨⟨by decide +kernel, by decide +kernel⟩, List.mem_of_getElem? (i := 805) (by decide +kernel), List.mem_of_getElem? (i := 1135) (by decide +kernel), List.mem_of_getElem? (i := 1136) (by decide +kernel)⟩
theorem lw_p58 : lw_okq (⟨"PlanDeskModel", "isBack", "(II)Z"⟩, 56) := ⟨⟨by decide +kernel, by decide +kernel⟩, List.mem_of_getElem? (i := 805) (by decide +kernel), List.mem_of_getElem? (i := 1139) (by decide +kernel), List.mem_of_getElem? (i := 1140) (by decide +kernel)⟩
theorem lw_p59 : lw_okq (⟨"PlanDeskModel", "raise", "(I)I"⟩, 56) := ⟨⟨by decide +kernel, by decide +kernel⟩, List.mem_of_getElem? (i := 805) (by decide +kernel), List.mem_of_getElem? (i := 1143) (by decide +kernel), List.mem_of_getElem? (i := 1144) (by decide +kernel)⟩
theorem lw_p60 : lw_okq (⟨"PlanDeskModel", "lookStrata", "()V"⟩, 56) := ⟨⟨by decide +kernel, by decide +kernel⟩, List.mem_of_getElem? (i := 805) (by decide +kernel), List.mem_of_getElem? (i := 1147) (by decide +kernel), List.mem_of_getElem? (i := 1148) (by decide +kernel)⟩
theorem lw_p61 : lw_okq (⟨"PlanDeskModel", "plan", "(I)V"⟩, 56) := ⟨⟨by decide +kernel, by decide +kernel⟩, List.mem_of_getElem? (i := 805) (by decide +kernel), List.mem_of_getElem? (i := 1178) (by decide +kernel), List.mem_of_getElem? (i := 1179) (by decide +kernel)⟩
theorem lw_p62 : lw_okq (⟨"PlanDeskModel", "nextLiteral", "(I)I"⟩, 56) := ⟨⟨by decide +kernel, by decide +kernel⟩, List.mem_of_getElem? (i := 805) (by decide +kernel), List.mem_of_getElem? (i := 1182) (by decide +kernel), List.mem_of_getElem? (i := 1183) (by decide +kernel)⟩
theorem lw_p63 : lw_okq (⟨"PlanDeskModel", "canAsk", "(I)Z"⟩, 56) := ⟨⟨by decide +kernel, by decide +kernel⟩, List.mem_of_getElem? (i := 805) (by decide +kernel), List.mem_of_getElem? (i := 1186) (by decide +kernel), List.mem_of_getElem? (i := 1187) (by decide +kernel)⟩
def lw_privs_4 : List (MethodName × Nat) := [(⟨"PlanDeskModel", "readLiteral", "()Z"⟩, 56), (⟨"PlanDeskModel", "lay", "(II)V"⟩, 56), (⟨"PlanDeskModel", "relation", "()I"⟩, 56), (⟨"PlanDeskModel", "lookBound", "()V"⟩, 56), (⟨"PlanDeskModel", "predicateSizeOf", "(I)I"⟩, 56), (⟨"PlanDeskModel", "bind", "(II)V"⟩, 56), (⟨"PlanDeskModel", "isBound", "(II)Z"⟩, 56), (⟨"PlanDeskModel", "lookAbsence", "()V"⟩, 56), (⟨"PlanDeskModel", "lookHangs", "()V"⟩, 56), (⟨"PlanDeskModel", "isAtom", "(I)Z"⟩, 56), (⟨"PlanDeskModel", "isBack", "(II)Z"⟩, 56), (⟨"PlanDeskModel", "raise", "(I)I"⟩, 56), (⟨"PlanDeskModel", "lookStrata", "()V"⟩, 56), (⟨"PlanDeskModel", "plan", "(I)V"⟩, 56), (⟨"PlanDeskModel", "nextLiteral", "(I)I"⟩, 56), (⟨"PlanDeskModel", "canAsk", "(I)Z"⟩, 56)]
theorem lw_r4 : ∀ q ∈ lw_privs_4, lw_okq q := List.forall_mem_cons.mpr ⟨lw_p48, List.forall_mem_cons.mpr ⟨lw_p49, List.forall_mem_cons.mpr ⟨lw_p50, List.forall_mem_cons.mpr ⟨lw_p51, List.forall_mem_cons.mpr ⟨lw_p52, List.forall_mem_cons.mpr ⟨lw_p53, List.forall_mem_cons.mpr ⟨lw_p54, List.forall_mem_cons.mpr ⟨lw_p55, List.forall_mem_cons.mpr ⟨lw_p56, List.forall_mem_cons.mpr ⟨lw_p57, List.forall_mem_cons.mpr ⟨lw_p58, List.forall_mem_cons.mpr ⟨lw_p59, List.forall_mem_cons.mpr ⟨lw_p60, List.forall_mem_cons.mpr ⟨lw_p61, List.forall_mem_cons.mpr ⟨lw_p62, List.forall_mem_cons.mpr ⟨lw_p63, fun _ h => absurd h List.not_mem_nil⟩⟩⟩⟩⟩⟩⟩⟩⟩⟩⟩⟩⟩⟩⟩⟩
theorem lw_p64 : lw_okq (⟨"PlanDeskModel", "isKnownTerm", "(II)Z"⟩, 56) := ⟨⟨by decide +kernel, by decide +kernel⟩, List.mem_of_getElem? (i := 805) (by decide +kernel), List.mem_of_getElem? (i := 1190) (by decide +kernel), List.mem_of_getElem? (i := 1191) (by decide +kernel)⟩
theorem lw_p65 : lw_okq (⟨"PlanDeskModel", "knownIn", "(I)I"⟩, 56) := ⟨⟨by decide +kernel, by decide +kernel⟩, List.mem_of_getElem? (i := 805) (by decide +kernel), List.mem_of_getElem? (i := 1194) (by decide +kernel), List.mem_of_getElem? (i := 1195) (by decide +kernel)⟩
def lw_privs_5 : List (MethodName × Nat) := [(⟨"PlanDeskModel", "isKnownTerm", "(II)Z"⟩, 56), (⟨"PlanDeskModel", "knownIn", "(I)I"⟩, 56)]
theorem lw_r5 : ∀ q ∈ lw_privs_5, lw_okq q := List.forall_mem_cons.mpr ⟨lw_p64, List.forall_mem_cons.mpr ⟨lw_p65, fun _ h => absurd h List.not_mem_nil⟩⟩
def lw_privs : List (MethodName × Nat) := lw_privs_1 ++ (lw_privs_2 ++ (lw_privs_3 ++ (lw_privs_4 ++ (lw_privs_5))))
def lw_tbl : List Cond := k2_sels lw_privs ++ tables_1
theorem lw_privs_ok : ∀ q ∈ lw_privs, lw_okq q := by
  show ∀ q ∈ lw_privs_1 ++ (lw_privs_2 ++ (lw_privs_3 ++ (lw_privs_4 ++ (lw_privs_5)))), lw_okq q
  exact List.forall_mem_append.mpr ⟨lw_r1, List.forall_mem_append.mpr ⟨lw_r2, List.forall_mem_append.mpr ⟨lw_r3, List.forall_mem_append.mpr ⟨lw_r4, lw_r5⟩⟩⟩⟩
end
section
/-! NAMES (by program): classes, methods, the words that hold -/
abbrev MR : Type := MethodName × ByteArray × Nat × Option FieldType × Room
abbrev yy (m : MR) : MethodName := m.1
abbrev cd (m : MR) : ByteArray := m.2.1
abbrev nLo (m : MR) : Nat := m.2.2.1
abbrev rtt (m : MR) : Option FieldType := m.2.2.2.1
abbrev rmm (m : MR) : Room := m.2.2.2.2
def RC0 : String := "PlanDesk$Book"
def TC0 : u_T := fun k => [("PlanDesk$Book", "rules", "LPlanDesk$Rules;", true), ("PlanDesk$Book", "count", "I", false), ("PlanDesk$Book", "names", "[J", true), ("PlanDesk$Book", "sizes", "[I", true), ("PlanDesk$Book", "ruleCounts", "[I", true), ("PlanDesk$Book", "factCounts", "[I", true), ("PlanDesk$Book", "strata", "[I", true), ("PlanDesk$Book", "hangsOn", "[I", true)].getD k ("", "", "", false)
def RC1 : String := "PlanDesk$Clause"
def TC1 : u_T := fun k => [("PlanDesk$Clause", "head", "LPlanDesk$Literal;", true), ("PlanDesk$Clause", "body", "[LPlanDesk$Literal;", true), ("PlanDesk$Clause", "size", "I", false), ("PlanDesk$Clause", "atoms", "I", false), ("PlanDesk$Clause", "total", "I", false), ("PlanDesk$Clause", "totalPlace", "I", false), ("PlanDesk$Clause", "variables", "I", false), ("PlanDesk$Clause", "names", "[J", true), ("PlanDesk$Clause", "firstPlaces", "[I", true), ("PlanDesk$Clause", "order", "[I", true), ("PlanDesk$Clause", "known", "[I", true), ("PlanDesk$Clause", "valued", "[I", true)].getD k ("", "", "", false)
def RC2 : String := "PlanDesk$Facts"
def TC2 : u_T := fun k => [("PlanDesk$Facts", "owners", "[I", true), ("PlanDesk$Facts", "terms", "[J", true), ("PlanDesk$Facts", "count", "I", false)].getD k ("", "", "", false)
def RC3 : String := "PlanDesk$Literal"
def TC3 : u_T := fun k => [("PlanDesk$Literal", "kind", "I", false), ("PlanDesk$Literal", "place", "I", false), ("PlanDesk$Literal", "asked", "I", false), ("PlanDesk$Literal", "equation", "Z", false), ("PlanDesk$Literal", "size", "I", false), ("PlanDesk$Literal", "terms", "[J", true), ("PlanDesk$Literal", "variables", "[I", true)].getD k ("", "", "", false)
def RC4 : String := "PlanDesk$Reader"
def TC4 : u_T := fun k => [("PlanDesk$Reader", "tokens", "LPlanDesk$Tokens;", true), ("PlanDesk$Reader", "clause", "LPlanDesk$Clause;", true), ("PlanDesk$Reader", "facts", "LPlanDesk$Facts;", true), ("PlanDesk$Reader", "target", "LPlanDesk$Book;", false), ("PlanDesk$Reader", "faultKind", "I", false), ("PlanDesk$Reader", "faultPlace", "I", false), ("PlanDesk$Reader", "at", "I", false), ("PlanDesk$Reader", "kind", "I", false), ("PlanDesk$Reader", "place", "I", false), ("PlanDesk$Reader", "value", "J", false)].getD k ("", "", "", false)
def RC5 : String := "PlanDesk$Rules"
def TC5 : u_T := fun k => [("PlanDesk$Rules", "count", "I", false), ("PlanDesk$Rules", "heads", "[I", true), ("PlanDesk$Rules", "sizes", "[I", true), ("PlanDesk$Rules", "variables", "[I", true), ("PlanDesk$Rules", "totals", "[I", true), ("PlanDesk$Rules", "totalPlaces", "[I", true), ("PlanDesk$Rules", "kinds", "[I", true), ("PlanDesk$Rules", "asked", "[I", true), ("PlanDesk$Rules", "places", "[I", true), ("PlanDesk$Rules", "order", "[I", true), ("PlanDesk$Rules", "known", "[I", true), ("PlanDesk$Rules", "valued", "[I", true)].getD k ("", "", "", false)
def RC6 : String := "PlanDesk$Tape"
def TC6 : u_T := fun k => [("PlanDesk$Tape", "characters", "[B", true), ("PlanDesk$Tape", "length", "I", false)].getD k ("", "", "", false)
def RC7 : String := "PlanDesk$Tokens"
def TC7 : u_T := fun k => [("PlanDesk$Tokens", "kinds", "[I", true), ("PlanDesk$Tokens", "places", "[I", true), ("PlanDesk$Tokens", "values", "[J", true), ("PlanDesk$Tokens", "count", "I", false)].getD k ("", "", "", false)
def RC8 : String := "PlanDesk"
def TC8 : u_T := fun k => [("PlanDesk", "tape", "LPlanDesk$Tape;", true), ("PlanDesk", "reader", "LPlanDesk$Reader;", true), ("PlanDesk", "book", "LPlanDesk$Book;", false), ("PlanDesk", "draft", "LPlanDesk$Book;", false)].getD k ("", "", "", false)
def RC9 : String := "PlanDeskModel"
def TC9 : u_T := fun k => [("PlanDeskModel", "thrown", "I", false), ("PlanDeskModel", "tape", "[I", true), ("PlanDeskModel", "taped", "I", false), ("PlanDeskModel", "fault", "I", false), ("PlanDeskModel", "faultPlace", "I", false), ("PlanDeskModel", "tokens", "I", false), ("PlanDeskModel", "tokenKind", "[I", true), ("PlanDeskModel", "tokenPlace", "[I", true), ("PlanDeskModel", "tokenCode", "[I", true), ("PlanDeskModel", "tokenValue", "[J", true), ("PlanDeskModel", "at", "I", false), ("PlanDeskModel", "side", "I", false), ("PlanDeskModel", "predicates", "[I", true), ("PlanDeskModel", "predicateName", "[J", true), ("PlanDeskModel", "predicateSize", "[I", true), ("PlanDeskModel", "stratum", "[I", true), ("PlanDeskModel", "rules", "[I", true), ("PlanDeskModel", "head", "[I", true), ("PlanDeskModel", "headKind", "[I", true), ("PlanDeskModel", "headValue", "[J", true), ("PlanDeskModel", "totalWord", "[I", true), ("PlanDeskModel", "totalAt", "[I", true), ("PlanDeskModel", "literals", "[I", true), ("PlanDeskModel", "variables", "[I", true), ("PlanDeskModel", "literal", "[I", true), ("PlanDeskModel", "sign", "[I", true), ("PlanDeskModel", "termKind", "[I", true), ("PlanDeskModel", "termValue", "[J", true), ("PlanDeskModel", "facts", "[I", true), ("PlanDeskModel", "factOf", "[I", true), ("PlanDeskModel", "factValue", "[J", true), ("PlanDeskModel", "clause", "I", false), ("PlanDeskModel", "variableName", "[J", true), ("PlanDeskModel", "variablePlace", "[I", true), ("PlanDeskModel", "bound", "[Z", true), ("PlanDeskModel", "readKind", "I", false), ("PlanDeskModel", "readValue", "J", false), ("PlanDeskModel", "readSide", "I", false), ("PlanDeskModel", "arguments", "I", false), ("PlanDeskModel", "argumentKind", "[I", true), ("PlanDeskModel", "argumentValue", "[J", true), ("PlanDeskModel", "firstFree", "I", false), ("PlanDeskModel", "word", "I", false), ("PlanDeskModel", "wordAt", "I", false), ("PlanDeskModel", "wordPlace", "I", false), ("PlanDeskModel", "readPredicate", "I", false), ("PlanDeskModel", "atoms", "I", false), ("PlanDeskModel", "negated", "[I", true), ("PlanDeskModel", "written", "[I", true), ("PlanDeskModel", "totalPlace", "[I", true), ("PlanDeskModel", "back", "[Z", true), ("PlanDeskModel", "order", "[I", true), ("PlanDeskModel", "ahead", "[I", true), ("PlanDeskModel", "behind", "[I", true), ("PlanDeskModel", "has", "[Z", true), ("PlanDeskModel", "taken", "[Z", true)].getD k ("", "", "", false)
def clT : List vw_C := [(RC0, TC0, 8), (RC1, TC1, 12), (RC2, TC2, 3), (RC3, TC3, 7), (RC4, TC4, 10), (RC5, TC5, 12), (RC6, TC6, 2), (RC7, TC7, 4), (RC8, TC8, 4), (RC9, TC9, 56)]
def RLit : String := "PlanDesk$Literal"
def nf (c : Nat) : Nat := [8, 12, 3, 7, 10, 12, 2, 4, 4, 56].getD c 0
def fty (c k : Nat) : Nat := ([[5, 1, 5, 5, 5, 5, 5, 5], [5, 5, 1, 1, 1, 1, 1, 5, 5, 5, 5, 5], [5, 5, 1], [1, 1, 1, 1, 1, 5, 5], [5, 5, 5, 5, 1, 1, 1, 1, 1, 2], [1, 5, 5, 5, 5, 5, 5, 5, 5, 5, 5, 5], [5, 1], [5, 5, 5, 1], [5, 5, 5, 5], [1, 5, 1, 1, 1, 1, 5, 5, 5, 5, 1, 1, 5, 5, 5, 5, 5, 5, 5, 5, 5, 5, 5, 5, 5, 5, 5, 5, 5, 5, 5, 1, 5, 5, 5, 1, 2, 1, 1, 5, 5, 1, 1, 1, 1, 1, 1, 5, 5, 5, 5, 5, 5, 5, 5, 5]].getD c []).getD k 1
def tyF (c k : Nat) : FieldType := (([[.object "PlanDesk$Rules", .int, .array (.long), .array (.int), .array (.int), .array (.int), .array (.int), .array (.int)], [.object "PlanDesk$Literal", .array (.object "PlanDesk$Literal"), .int, .int, .int, .int, .int, .array (.long), .array (.int), .array (.int), .array (.int), .array (.int)], [.array (.int), .array (.long), .int], [.int, .int, .int, .boolean, .int, .array (.long), .array (.int)], [.object "PlanDesk$Tokens", .object "PlanDesk$Clause", .object "PlanDesk$Facts", .object "PlanDesk$Book", .int, .int, .int, .int, .int, .long], [.int, .array (.int), .array (.int), .array (.int), .array (.int), .array (.int), .array (.int), .array (.int), .array (.int), .array (.int), .array (.int), .array (.int)], [.array (.byte), .int], [.array (.int), .array (.int), .array (.long), .int], [.object "PlanDesk$Tape", .object "PlanDesk$Reader", .object "PlanDesk$Book", .object "PlanDesk$Book"], [.int, .array (.int), .int, .int, .int, .int, .array (.int), .array (.int), .array (.int), .array (.long), .int, .int, .array (.int), .array (.long), .array (.int), .array (.int), .array (.int), .array (.int), .array (.int), .array (.long), .array (.int), .array (.int), .array (.int), .array (.int), .array (.int), .array (.int), .array (.int), .array (.long), .array (.int), .array (.int), .array (.long), .int, .array (.long), .array (.int), .array (.boolean), .int, .long, .int, .int, .array (.int), .array (.long), .int, .int, .int, .int, .int, .int, .array (.int), .array (.int), .array (.int), .array (.boolean), .array (.int), .array (.int), .array (.int), .array (.boolean), .array (.boolean)]] : List (List FieldType)).getD c []).getD k .int
def m_Bk_init : MR := (⟨"PlanDesk$Book", "<init>", "()V"⟩, prog_2_method_1_code, 1, none, { frames := 2, cells := 0, slots := 0, locals := 40 })
def m_Bk_clear : MR := (⟨"PlanDesk$Book", "clear", "()V"⟩, prog_2_method_2_code, 1, none, { frames := 0, cells := 0, slots := 0, locals := 0 })
def m_Bk_numberOf : MR := (⟨"PlanDesk$Book", "numberOf", "(J)I"⟩, prog_2_method_3_code, 4, some .int, { frames := 0, cells := 0, slots := 0, locals := 0 })
def m_Bk_agrees : MR := (⟨"PlanDesk$Book", "agrees", "(II)Z"⟩, prog_2_method_4_code, 3, some .boolean, { frames := 0, cells := 0, slots := 0, locals := 0 })
def m_Bk_addRule : MR := (⟨"PlanDesk$Book", "addRule", "(LPlanDesk$Clause;)V"⟩, prog_2_method_5_code, 4, none, { frames := 1, cells := 0, slots := 0, locals := 23 })
def m_Bk_addFact : MR := (⟨"PlanDesk$Book", "addFact", "(I)V"⟩, prog_2_method_6_code, 2, none, { frames := 0, cells := 0, slots := 0, locals := 0 })
def m_Bk_reaches : MR := (⟨"PlanDesk$Book", "reaches", "(II)Z"⟩, prog_2_method_7_code, 3, some .boolean, { frames := 0, cells := 0, slots := 0, locals := 0 })
def m_Bk_spreadHanging : MR := (⟨"PlanDesk$Book", "spreadHanging", "()V"⟩, prog_2_method_8_code, 3, none, { frames := 1, cells := 0, slots := 0, locals := 22 })
def m_Bk_leadsBack : MR := (⟨"PlanDesk$Book", "leadsBack", "(II)Z"⟩, prog_2_method_9_code, 5, some .boolean, { frames := 1, cells := 0, slots := 0, locals := 22 })
def m_Bk_circles : MR := (⟨"PlanDesk$Book", "circles", "(I)I"⟩, prog_2_method_10_code, 5, some .int, { frames := 2, cells := 0, slots := 0, locals := 46 })
def m_Bk_knotPlace : MR := (⟨"PlanDesk$Book", "knotPlace", "()I"⟩, prog_2_method_11_code, 4, some .int, { frames := 2, cells := 0, slots := 0, locals := 46 })
def m_Bk_layStrata : MR := (⟨"PlanDesk$Book", "layStrata", "()V"⟩, prog_2_method_12_code, 3, none, { frames := 2, cells := 0, slots := 0, locals := 48 })
def m_Bk_liftHead : MR := (⟨"PlanDesk$Book", "liftHead", "(I)V"⟩, prog_2_method_13_code, 7, none, { frames := 1, cells := 0, slots := 0, locals := 22 })
def m_Cl_init : MR := (⟨"PlanDesk$Clause", "<init>", "()V"⟩, prog_3_method_1_code, 2, none, { frames := 2, cells := 0, slots := 0, locals := 40 })
def m_Cl_begin : MR := (⟨"PlanDesk$Clause", "begin", "(I)V"⟩, prog_3_method_2_code, 2, none, { frames := 1, cells := 0, slots := 0, locals := 22 })
def m_Cl_variableOf : MR := (⟨"PlanDesk$Clause", "variableOf", "(JI)I"⟩, prog_3_method_3_code, 5, some .int, { frames := 0, cells := 0, slots := 0, locals := 0 })
def m_Cl_openPlace : MR := (⟨"PlanDesk$Clause", "openPlace", "()I"⟩, prog_3_method_4_code, 1, some .int, { frames := 1, cells := 0, slots := 0, locals := 21 })
def m_Cl_plan : MR := (⟨"PlanDesk$Clause", "plan", "()I"⟩, prog_3_method_5_code, 6, some .int, { frames := 3, cells := 0, slots := 0, locals := 73 })
def m_Cl_nextAsked : MR := (⟨"PlanDesk$Clause", "nextAsked", "(II)I"⟩, prog_3_method_6_code, 9, some .int, { frames := 2, cells := 0, slots := 0, locals := 45 })
def m_Cl_firstWithout : MR := (⟨"PlanDesk$Clause", "firstWithout", "(I)I"⟩, prog_3_method_7_code, 3, some .int, { frames := 0, cells := 0, slots := 0, locals := 0 })
def m_Fc_init : MR := (⟨"PlanDesk$Facts", "<init>", "()V"⟩, prog_4_method_1_code, 1, none, { frames := 1, cells := 0, slots := 0, locals := 20 })
def m_Fc_add : MR := (⟨"PlanDesk$Facts", "add", "(LPlanDesk$Literal;)Z"⟩, prog_4_method_2_code, 3, some .boolean, { frames := 1, cells := 0, slots := 0, locals := 65 })
def m_Fc_isSame : MR := (⟨"PlanDesk$Facts", "isSame", "(ILPlanDesk$Literal;)Z"⟩, prog_4_method_3_code, 4, some .boolean, { frames := 0, cells := 0, slots := 0, locals := 0 })
def m_Lt_init : MR := (⟨"PlanDesk$Literal", "<init>", "()V"⟩, prog_5_method_1_code, 1, none, { frames := 1, cells := 0, slots := 0, locals := 20 })
def m_Lt_begin : MR := (⟨"PlanDesk$Literal", "begin", "(II)V"⟩, prog_5_method_2_code, 3, none, { frames := 0, cells := 0, slots := 0, locals := 0 })
def m_Lt_add : MR := (⟨"PlanDesk$Literal", "add", "(J)V"⟩, prog_5_method_3_code, 4, none, { frames := 0, cells := 0, slots := 0, locals := 0 })
def m_Lt_isAtom : MR := (⟨"PlanDesk$Literal", "isAtom", "()Z"⟩, prog_5_method_4_code, 1, some .boolean, { frames := 0, cells := 0, slots := 0, locals := 0 })
def m_Lt_variablesFrom : MR := (⟨"PlanDesk$Literal", "variablesFrom", "(I)I"⟩, prog_5_method_5_code, 4, some .int, { frames := 0, cells := 0, slots := 0, locals := 0 })
def m_Lt_canBeAsked : MR := (⟨"PlanDesk$Literal", "canBeAsked", "(I)Z"⟩, prog_5_method_6_code, 3, some .boolean, { frames := 1, cells := 0, slots := 0, locals := 23 })
def m_Lt_knownArguments : MR := (⟨"PlanDesk$Literal", "knownArguments", "(I)I"⟩, prog_5_method_7_code, 4, some .int, { frames := 0, cells := 0, slots := 0, locals := 0 })
def m_Rd_init : MR := (⟨"PlanDesk$Reader", "<init>", "()V"⟩, prog_6_method_1_code, 1, none, { frames := 3, cells := 0, slots := 0, locals := 61 })
def m_Rd_read : MR := (⟨"PlanDesk$Reader", "read", "(LPlanDesk$Tape;LPlanDesk$Book;)Z"⟩, prog_6_method_2_code, 4, some .boolean, { frames := 8, cells := 0, slots := 0, locals := 234 })
def m_Rd_finish : MR := (⟨"PlanDesk$Reader", "finish", "()V"⟩, prog_6_method_3_code, 2, none, { frames := 3, cells := 0, slots := 0, locals := 70 })
def m_Rd_moveTo : MR := (⟨"PlanDesk$Reader", "moveTo", "(I)V"⟩, prog_6_method_4_code, 2, none, { frames := 0, cells := 0, slots := 0, locals := 0 })
def m_Rd_refuse : MR := (⟨"PlanDesk$Reader", "refuse", "(I)Z"⟩, prog_6_method_5_code, 2, some .boolean, { frames := 0, cells := 0, slots := 0, locals := 0 })
def m_Rd_note : MR := (⟨"PlanDesk$Reader", "note", "(II)V"⟩, prog_6_method_6_code, 3, none, { frames := 0, cells := 0, slots := 0, locals := 0 })
def m_Rd_take : MR := (⟨"PlanDesk$Reader", "take", "(I)Z"⟩, prog_6_method_7_code, 2, some .boolean, { frames := 1, cells := 0, slots := 0, locals := 21 })
def m_Rd_readBody : MR := (⟨"PlanDesk$Reader", "readBody", "()Z"⟩, prog_6_method_8_code, 2, some .boolean, { frames := 5, cells := 0, slots := 0, locals := 113 })
def m_Rd_endRule : MR := (⟨"PlanDesk$Reader", "endRule", "()Z"⟩, prog_6_method_9_code, 2, some .boolean, { frames := 4, cells := 0, slots := 0, locals := 98 })
def m_Rd_endFact : MR := (⟨"PlanDesk$Reader", "endFact", "()Z"⟩, prog_6_method_10_code, 2, some .boolean, { frames := 2, cells := 0, slots := 0, locals := 87 })
def m_Rd_readLiteral : MR := (⟨"PlanDesk$Reader", "readLiteral", "(LPlanDesk$Literal;)Z"⟩, prog_6_method_11_code, 2, some .boolean, { frames := 4, cells := 0, slots := 0, locals := 92 })
def m_Rd_isOpenNext : MR := (⟨"PlanDesk$Reader", "isOpenNext", "()Z"⟩, prog_6_method_12_code, 1, some .boolean, { frames := 0, cells := 0, slots := 0, locals := 0 })
def m_Rd_readTest : MR := (⟨"PlanDesk$Reader", "readTest", "(LPlanDesk$Literal;)Z"⟩, prog_6_method_13_code, 3, some .boolean, { frames := 3, cells := 0, slots := 0, locals := 62 })
def m_Rd_readOperation : MR := (⟨"PlanDesk$Reader", "readOperation", "()Z"⟩, prog_6_method_14_code, 1, some .boolean, { frames := 2, cells := 0, slots := 0, locals := 42 })
def m_Rd_readAtom : MR := (⟨"PlanDesk$Reader", "readAtom", "(LPlanDesk$Literal;)Z"⟩, prog_6_method_15_code, 5, some .boolean, { frames := 3, cells := 0, slots := 0, locals := 68 })
def m_Rd_readTotal : MR := (⟨"PlanDesk$Reader", "readTotal", "(LPlanDesk$Literal;)Z"⟩, prog_6_method_16_code, 2, some .boolean, { frames := 2, cells := 0, slots := 0, locals := 47 })
def m_Rd_readAnything : MR := (⟨"PlanDesk$Reader", "readAnything", "(LPlanDesk$Literal;)Z"⟩, prog_6_method_17_code, 3, some .boolean, { frames := 1, cells := 0, slots := 0, locals := 23 })
def m_Rd_readTerm : MR := (⟨"PlanDesk$Reader", "readTerm", "(LPlanDesk$Literal;)Z"⟩, prog_6_method_18_code, 4, some .boolean, { frames := 1, cells := 0, slots := 0, locals := 24 })
def m_Rl_init : MR := (⟨"PlanDesk$Rules", "<init>", "()V"⟩, prog_7_method_1_code, 1, none, { frames := 1, cells := 0, slots := 0, locals := 20 })
def m_Rl_add : MR := (⟨"PlanDesk$Rules", "add", "(LPlanDesk$Clause;)V"⟩, prog_7_method_2_code, 4, none, { frames := 0, cells := 0, slots := 0, locals := 0 })
def m_Rl_waits : MR := (⟨"PlanDesk$Rules", "waits", "(II)Z"⟩, prog_7_method_3_code, 3, some .boolean, { frames := 0, cells := 0, slots := 0, locals := 0 })
def m_Tp_init : MR := (⟨"PlanDesk$Tape", "<init>", "()V"⟩, prog_8_method_1_code, 1, none, { frames := 1, cells := 0, slots := 0, locals := 20 })
def m_Tp_add : MR := (⟨"PlanDesk$Tape", "add", "(I)V"⟩, prog_8_method_2_code, 2, none, { frames := 0, cells := 0, slots := 0, locals := 0 })
def m_Tp_at : MR := (⟨"PlanDesk$Tape", "at", "(I)I"⟩, prog_8_method_3_code, 2, some .int, { frames := 0, cells := 0, slots := 0, locals := 0 })
def m_Tp_sortAt : MR := (⟨"PlanDesk$Tape", "sortAt", "(I)I"⟩, prog_8_method_4_code, 3, some .int, { frames := 1, cells := 0, slots := 0, locals := 21 })
def m_Tp_endOfRun : MR := (⟨"PlanDesk$Tape", "endOfRun", "(II)I"⟩, prog_8_method_5_code, 4, some .int, { frames := 2, cells := 0, slots := 0, locals := 43 })
def m_Tp_spells : MR := (⟨"PlanDesk$Tape", "spells", "(IILjava/lang/String;)Z"⟩, prog_8_method_6_code, 5, some .boolean, { frames := 4, cells := 0, slots := 0, locals := 141 })
def m_Tp_packed : MR := (⟨"PlanDesk$Tape", "packed", "(II)J"⟩, prog_8_method_7_code, 6, some .long, { frames := 1, cells := 0, slots := 0, locals := 21 })
def m_Tp_number : MR := (⟨"PlanDesk$Tape", "number", "(II)J"⟩, prog_8_method_8_code, 6, some .long, { frames := 1, cells := 0, slots := 0, locals := 21 })
def m_Tk_init : MR := (⟨"PlanDesk$Tokens", "<init>", "()V"⟩, prog_9_method_1_code, 1, none, { frames := 1, cells := 0, slots := 0, locals := 20 })
def m_Tk_cut : MR := (⟨"PlanDesk$Tokens", "cut", "(LPlanDesk$Tape;)V"⟩, prog_9_method_2_code, 4, none, { frames := 7, cells := 0, slots := 0, locals := 211 })
def m_Tk_add : MR := (⟨"PlanDesk$Tokens", "add", "(IIJ)V"⟩, prog_9_method_3_code, 5, none, { frames := 0, cells := 0, slots := 0, locals := 0 })
def m_Tk_cutName : MR := (⟨"PlanDesk$Tokens", "cutName", "(LPlanDesk$Tape;I)I"⟩, prog_9_method_4_code, 5, some .int, { frames := 6, cells := 0, slots := 0, locals := 187 })
def m_Tk_totalAt : MR := (⟨"PlanDesk$Tokens", "totalAt", "(LPlanDesk$Tape;II)I"⟩, prog_9_method_5_code, 3, some .int, { frames := 5, cells := 0, slots := 0, locals := 165 })
def m_Tk_cutVariable : MR := (⟨"PlanDesk$Tokens", "cutVariable", "(LPlanDesk$Tape;I)I"⟩, prog_9_method_6_code, 4, some .int, { frames := 3, cells := 0, slots := 0, locals := 66 })
def m_Tk_cutNumber : MR := (⟨"PlanDesk$Tokens", "cutNumber", "(LPlanDesk$Tape;I)I"⟩, prog_9_method_7_code, 4, some .int, { frames := 3, cells := 0, slots := 0, locals := 66 })
def m_Tk_cutSign : MR := (⟨"PlanDesk$Tokens", "cutSign", "(LPlanDesk$Tape;I)I"⟩, prog_9_method_8_code, 4, some .int, { frames := 1, cells := 0, slots := 0, locals := 24 })
def m_Tk_pairKind : MR := (⟨"PlanDesk$Tokens", "pairKind", "(II)I"⟩, prog_9_method_9_code, 3, some .int, { frames := 0, cells := 0, slots := 0, locals := 0 })
def m_Tk_signKind : MR := (⟨"PlanDesk$Tokens", "signKind", "(I)I"⟩, prog_9_method_10_code, 1, some .int, { frames := 0, cells := 0, slots := 0, locals := 0 })
def m_D_init : MR := (⟨"PlanDesk", "<init>", "()V"⟩, prog_1_method_1_code, 1, none, { frames := 4, cells := 0, slots := 0, locals := 81 })
def m_D_type : MR := (⟨"PlanDesk", "type", "(JI)Z"⟩, prog_1_method_2_code, 6, some .boolean, { frames := 1, cells := 0, slots := 0, locals := 22 })
def m_D_program : MR := (⟨"PlanDesk", "program", "()I"⟩, prog_1_method_3_code, 3, some .int, { frames := 9, cells := 0, slots := 0, locals := 321 })
def m_D_fault : MR := (⟨"PlanDesk", "fault", "(I)I"⟩, prog_1_method_4_code, 2, some .int, { frames := 0, cells := 0, slots := 0, locals := 0 })
def m_D_predicates : MR := (⟨"PlanDesk", "predicates", "()I"⟩, prog_1_method_5_code, 1, some .int, { frames := 0, cells := 0, slots := 0, locals := 0 })
def m_D_predicate : MR := (⟨"PlanDesk", "predicate", "(II)I"⟩, prog_1_method_6_code, 3, some .int, { frames := 2, cells := 0, slots := 0, locals := 45 })
def m_D_hangs : MR := (⟨"PlanDesk", "hangs", "(II)Z"⟩, prog_1_method_7_code, 3, some .boolean, { frames := 1, cells := 0, slots := 0, locals := 22 })
def m_D_rule : MR := (⟨"PlanDesk", "rule", "(II)I"⟩, prog_1_method_8_code, 4, some .int, { frames := 9, cells := 0, slots := 0, locals := 321 })
def m_D_literal : MR := (⟨"PlanDesk", "literal", "(III)I"⟩, prog_1_method_9_code, 7, some .int, { frames := 9, cells := 0, slots := 0, locals := 321 })
def m_D_byteOf : MR := (⟨"PlanDesk", "byteOf", "(JI)I"⟩, prog_1_method_10_code, 3, some .int, { frames := 0, cells := 0, slots := 0, locals := 0 })
def m_D_letters : MR := (⟨"PlanDesk", "letters", "(J)I"⟩, prog_1_method_11_code, 3, some .int, { frames := 0, cells := 0, slots := 0, locals := 0 })
def m_D_letter : MR := (⟨"PlanDesk", "letter", "(JI)I"⟩, prog_1_method_12_code, 4, some .int, { frames := 1, cells := 0, slots := 0, locals := 22 })
def m_M_init : MR := (⟨"PlanDeskModel", "<init>", "()V"⟩, prog_11_method_1_code, 1, none, { frames := 1, cells := 0, slots := 0, locals := 20 })
def m_M_thrown : MR := (⟨"PlanDeskModel", "thrown", "()I"⟩, prog_11_method_2_code, 1, some .int, { frames := 0, cells := 0, slots := 0, locals := 0 })
def m_M_raise : MR := (⟨"PlanDeskModel", "raise", "(I)I"⟩, prog_11_method_3_code, 2, some .int, { frames := 0, cells := 0, slots := 0, locals := 0 })
def m_M_type : MR := (⟨"PlanDeskModel", "type", "(JI)Z"⟩, prog_11_method_4_code, 6, some .boolean, { frames := 0, cells := 0, slots := 0, locals := 0 })
def m_M_see : MR := (⟨"PlanDeskModel", "see", "(I)I"⟩, prog_11_method_5_code, 2, some .int, { frames := 0, cells := 0, slots := 0, locals := 0 })
def m_M_isDigit : MR := (⟨"PlanDeskModel", "isDigit", "(I)Z"⟩, prog_11_method_6_code, 1, some .boolean, { frames := 0, cells := 0, slots := 0, locals := 0 })
def m_M_isSmall : MR := (⟨"PlanDeskModel", "isSmall", "(I)Z"⟩, prog_11_method_7_code, 1, some .boolean, { frames := 0, cells := 0, slots := 0, locals := 0 })
def m_M_isGreat : MR := (⟨"PlanDeskModel", "isGreat", "(I)Z"⟩, prog_11_method_8_code, 1, some .boolean, { frames := 0, cells := 0, slots := 0, locals := 0 })
def m_M_isPart : MR := (⟨"PlanDeskModel", "isPart", "(I)Z"⟩, prog_11_method_9_code, 1, some .boolean, { frames := 1, cells := 0, slots := 0, locals := 20 })
def m_M_token : MR := (⟨"PlanDeskModel", "token", "(IIIJ)V"⟩, prog_11_method_10_code, 6, none, { frames := 0, cells := 0, slots := 0, locals := 0 })
def m_M_packed : MR := (⟨"PlanDeskModel", "packed", "(IIIII)J"⟩, prog_11_method_11_code, 5, some .long, { frames := 0, cells := 0, slots := 0, locals := 0 })
def m_M_wordOf : MR := (⟨"PlanDeskModel", "wordOf", "(J)I"⟩, prog_11_method_12_code, 2, some .int, { frames := 1, cells := 0, slots := 0, locals := 24 })
def m_M_tokenize : MR := (⟨"PlanDeskModel", "tokenize", "()V"⟩, prog_11_method_13_code, 3, none, { frames := 3, cells := 0, slots := 0, locals := 73 })
def m_M_oneToken : MR := (⟨"PlanDeskModel", "oneToken", "(I)I"⟩, prog_11_method_14_code, 9, some .int, { frames := 2, cells := 0, slots := 0, locals := 45 })
def m_M_wrong : MR := (⟨"PlanDeskModel", "wrong", "(I)Z"⟩, prog_11_method_15_code, 2, some .boolean, { frames := 0, cells := 0, slots := 0, locals := 0 })
def m_M_refuse : MR := (⟨"PlanDeskModel", "refuse", "()Z"⟩, prog_11_method_16_code, 1, some .boolean, { frames := 1, cells := 0, slots := 0, locals := 21 })
def m_M_isSign : MR := (⟨"PlanDeskModel", "isSign", "(I)Z"⟩, prog_11_method_17_code, 2, some .boolean, { frames := 0, cells := 0, slots := 0, locals := 0 })
def m_M_takes : MR := (⟨"PlanDeskModel", "takes", "(I)Z"⟩, prog_11_method_18_code, 2, some .boolean, { frames := 1, cells := 0, slots := 0, locals := 21 })
def m_M_want : MR := (⟨"PlanDeskModel", "want", "(I)Z"⟩, prog_11_method_19_code, 2, some .boolean, { frames := 2, cells := 0, slots := 0, locals := 42 })
def m_M_note : MR := (⟨"PlanDeskModel", "note", "(II)V"⟩, prog_11_method_20_code, 3, none, { frames := 0, cells := 0, slots := 0, locals := 0 })
def m_M_readVariable : MR := (⟨"PlanDeskModel", "readVariable", "()Z"⟩, prog_11_method_21_code, 2, some .boolean, { frames := 2, cells := 0, slots := 0, locals := 41 })
def m_M_readTerm : MR := (⟨"PlanDeskModel", "readTerm", "()Z"⟩, prog_11_method_22_code, 2, some .boolean, { frames := 3, cells := 0, slots := 0, locals := 62 })
def m_M_predicateOf : MR := (⟨"PlanDeskModel", "predicateOf", "(JII)I"⟩, prog_11_method_23_code, 7, some .int, { frames := 1, cells := 0, slots := 0, locals := 22 })
def m_M_isKnown : MR := (⟨"PlanDeskModel", "isKnown", "(J)Z"⟩, prog_11_method_24_code, 4, some .boolean, { frames := 0, cells := 0, slots := 0, locals := 0 })
def m_M_readArguments : MR := (⟨"PlanDeskModel", "readArguments", "(ZZ)Z"⟩, prog_11_method_25_code, 5, some .boolean, { frames := 4, cells := 0, slots := 0, locals := 83 })
def m_M_relation : MR := (⟨"PlanDeskModel", "relation", "()I"⟩, prog_11_method_26_code, 2, some .int, { frames := 0, cells := 0, slots := 0, locals := 0 })
def m_M_lay : MR := (⟨"PlanDeskModel", "lay", "(II)V"⟩, prog_11_method_27_code, 3, none, { frames := 0, cells := 0, slots := 0, locals := 0 })
def m_M_readLiteral : MR := (⟨"PlanDeskModel", "readLiteral", "()Z"⟩, prog_11_method_28_code, 6, some .boolean, { frames := 5, cells := 0, slots := 0, locals := 107 })
def m_M_readBody : MR := (⟨"PlanDeskModel", "readBody", "()Z"⟩, prog_11_method_29_code, 1, some .boolean, { frames := 6, cells := 0, slots := 0, locals := 132 })
def m_M_isBound : MR := (⟨"PlanDeskModel", "isBound", "(II)Z"⟩, prog_11_method_30_code, 3, some .boolean, { frames := 0, cells := 0, slots := 0, locals := 0 })
def m_M_bind : MR := (⟨"PlanDeskModel", "bind", "(II)V"⟩, prog_11_method_31_code, 3, none, { frames := 0, cells := 0, slots := 0, locals := 0 })
def m_M_lookBound : MR := (⟨"PlanDeskModel", "lookBound", "()V"⟩, prog_11_method_32_code, 5, none, { frames := 1, cells := 0, slots := 0, locals := 22 })
def m_M_predicateSizeOf : MR := (⟨"PlanDeskModel", "predicateSizeOf", "(I)I"⟩, prog_11_method_33_code, 2, some .int, { frames := 0, cells := 0, slots := 0, locals := 0 })
def m_M_beginClause : MR := (⟨"PlanDeskModel", "beginClause", "(I)V"⟩, prog_11_method_34_code, 2, none, { frames := 0, cells := 0, slots := 0, locals := 0 })
def m_M_layHead : MR := (⟨"PlanDeskModel", "layHead", "()V"⟩, prog_11_method_35_code, 2, none, { frames := 0, cells := 0, slots := 0, locals := 0 })
def m_M_findFact : MR := (⟨"PlanDeskModel", "findFact", "()I"⟩, prog_11_method_36_code, 4, some .int, { frames := 0, cells := 0, slots := 0, locals := 0 })
def m_M_addFact : MR := (⟨"PlanDeskModel", "addFact", "()V"⟩, prog_11_method_37_code, 3, none, { frames := 0, cells := 0, slots := 0, locals := 0 })
def m_M_readClause : MR := (⟨"PlanDeskModel", "readClause", "()Z"⟩, prog_11_method_38_code, 2, some .boolean, { frames := 7, cells := 0, slots := 0, locals := 152 })
def m_M_isAtom : MR := (⟨"PlanDeskModel", "isAtom", "(I)Z"⟩, prog_11_method_39_code, 2, some .boolean, { frames := 0, cells := 0, slots := 0, locals := 0 })
def m_M_lookHangs : MR := (⟨"PlanDeskModel", "lookHangs", "()V"⟩, prog_11_method_40_code, 4, none, { frames := 1, cells := 0, slots := 0, locals := 21 })
def m_M_isBack : MR := (⟨"PlanDeskModel", "isBack", "(II)Z"⟩, prog_11_method_41_code, 3, some .boolean, { frames := 0, cells := 0, slots := 0, locals := 0 })
def m_M_lookAbsence : MR := (⟨"PlanDeskModel", "lookAbsence", "()V"⟩, prog_11_method_42_code, 3, none, { frames := 2, cells := 0, slots := 0, locals := 44 })
def m_M_lookStrata : MR := (⟨"PlanDeskModel", "lookStrata", "()V"⟩, prog_11_method_43_code, 6, none, { frames := 1, cells := 0, slots := 0, locals := 21 })
def m_M_program : MR := (⟨"PlanDeskModel", "program", "()I"⟩, prog_11_method_44_code, 2, some .int, { frames := 8, cells := 0, slots := 0, locals := 173 })
def m_M_fault : MR := (⟨"PlanDeskModel", "fault", "(I)I"⟩, prog_11_method_45_code, 2, some .int, { frames := 0, cells := 0, slots := 0, locals := 0 })
def m_M_isKnownTerm : MR := (⟨"PlanDeskModel", "isKnownTerm", "(II)Z"⟩, prog_11_method_46_code, 3, some .boolean, { frames := 0, cells := 0, slots := 0, locals := 0 })
def m_M_knownIn : MR := (⟨"PlanDeskModel", "knownIn", "(I)I"⟩, prog_11_method_47_code, 4, some .int, { frames := 1, cells := 0, slots := 0, locals := 22 })
def m_M_many : MR := (⟨"PlanDeskModel", "many", "(I)I"⟩, prog_11_method_48_code, 3, some .int, { frames := 0, cells := 0, slots := 0, locals := 0 })
def m_M_canAsk : MR := (⟨"PlanDeskModel", "canAsk", "(I)Z"⟩, prog_11_method_49_code, 3, some .boolean, { frames := 1, cells := 0, slots := 0, locals := 22 })
def m_M_nextLiteral : MR := (⟨"PlanDeskModel", "nextLiteral", "(I)I"⟩, prog_11_method_50_code, 4, some .int, { frames := 2, cells := 0, slots := 0, locals := 45 })
def m_M_plan : MR := (⟨"PlanDeskModel", "plan", "(I)V"⟩, prog_11_method_51_code, 8, none, { frames := 3, cells := 0, slots := 0, locals := 68 })
def m_M_predicates : MR := (⟨"PlanDeskModel", "predicates", "()I"⟩, prog_11_method_52_code, 1, some .int, { frames := 0, cells := 0, slots := 0, locals := 0 })
def m_M_letters : MR := (⟨"PlanDeskModel", "letters", "(J)I"⟩, prog_11_method_53_code, 5, some .int, { frames := 0, cells := 0, slots := 0, locals := 0 })
def m_M_predicate : MR := (⟨"PlanDeskModel", "predicate", "(II)I"⟩, prog_11_method_54_code, 8, some .int, { frames := 1, cells := 0, slots := 0, locals := 24 })
def m_M_hangs : MR := (⟨"PlanDeskModel", "hangs", "(II)Z"⟩, prog_11_method_55_code, 3, some .boolean, { frames := 0, cells := 0, slots := 0, locals := 0 })
def m_M_rule : MR := (⟨"PlanDeskModel", "rule", "(II)I"⟩, prog_11_method_56_code, 6, some .int, { frames := 1, cells := 0, slots := 0, locals := 22 })
def m_M_literal : MR := (⟨"PlanDeskModel", "literal", "(III)I"⟩, prog_11_method_57_code, 5, some .int, { frames := 4, cells := 0, slots := 0, locals := 95 })
def m_L_program : MR := (⟨"PlanDeskLaw", "program", "(LPlanDesk;[J)I"⟩, method_3_code, 3, some .int, { frames := 10, cells := 0, slots := 0, locals := 343 })
def m_L_rule : MR := (⟨"PlanDeskLaw", "rule", "(LPlanDesk;II[J)I"⟩, method_4_code, 5, some .int, { frames := 10, cells := 0, slots := 0, locals := 344 })
def m_L_literal : MR := (⟨"PlanDeskLaw", "literal", "(LPlanDesk;III[J)I"⟩, method_5_code, 6, some .int, { frames := 10, cells := 0, slots := 0, locals := 347 })
def m_L_law : MR := (⟨"PlanDeskLaw", "law", "([I)Z"⟩, code, 7, some .boolean, room_1)
def m_JI_bitCount : MR := (⟨"java/lang/Integer", "bitCount", "(I)I"⟩, prog_14_method_49_code, 1, some .int, { frames := 0, cells := 0, slots := 0, locals := 0 })
def m_JM_max : MR := (⟨"java/lang/Math", "max", "(II)I"⟩, prog_15_method_65_code, 2, some .int, { frames := 0, cells := 0, slots := 0, locals := 0 })
def m_JM_min : MR := (⟨"java/lang/Math", "min", "(II)I"⟩, prog_15_method_69_code, 2, some .int, { frames := 0, cells := 0, slots := 0, locals := 0 })
def AW : List Cond := lw_tbl.filter goodWord
theorem AW_good (w : Cond) (h : w ∈ AW) : (w.onTables && w.keeps) = true ∨ ∃ ty, w = .arrayClass ty := good_of_word (List.mem_filter.mp h).2
theorem AW_tbl {w : Cond} (h : w ∈ AW) : w ∈ lw_tbl := (List.mem_filter.mp h).1
theorem aw1 {w : Cond} {i : Nat} (h : tables_1_1[i]? = some w) (hg : goodWord w = true) : w ∈ AW := List.mem_filter.mpr ⟨List.mem_append_right _ (List.mem_append_left _ (List.mem_of_getElem? h)), hg⟩
theorem aw2 {w : Cond} {i : Nat} (h : tables_1_2[i]? = some w) (hg : goodWord w = true) : w ∈ AW := List.mem_filter.mpr ⟨List.mem_append_right _ (List.mem_append_right _ (List.mem_append_left _ (List.mem_of_getElem? h))), hg⟩
theorem aw3 {w : Cond} {i : Nat} (h : tables_1_3[i]? = some w) (hg : goodWord w = true) : w ∈ AW := List.mem_filter.mpr ⟨List.mem_append_right _ (List.mem_append_right _ (List.mem_append_right _ (List.mem_append_left _ (List.mem_of_getElem? h)))), hg⟩
theorem aw4 {w : Cond} {i : Nat} (h : tables_1_4[i]? = some w) (hg : goodWord w = true) : w ∈ AW := List.mem_filter.mpr ⟨List.mem_append_right _ (List.mem_append_right _ (List.mem_append_right _ (List.mem_append_right _ (List.mem_append_left _ (List.mem_of_getElem? h))))), hg⟩
theorem aw5 {w : Cond} {i : Nat} (h : tables_1_5[i]? = some w) (hg : goodWord w = true) : w ∈ AW := List.mem_filter.mpr ⟨List.mem_append_right _ (List.mem_append_right _ (List.mem_append_right _ (List.mem_append_right _ (List.mem_append_right _ (List.mem_append_left _ (List.mem_of_getElem? h)))))), hg⟩
theorem aw6 {w : Cond} {i : Nat} (h : tables_1_6[i]? = some w) (hg : goodWord w = true) : w ∈ AW := List.mem_filter.mpr ⟨List.mem_append_right _ (List.mem_append_right _ (List.mem_append_right _ (List.mem_append_right _ (List.mem_append_right _ (List.mem_append_right _ (List.mem_of_getElem? h)))))), hg⟩
theorem awp1 {y : MethodName} {n i : Nat} (h : lw_privs_1[i]? = some (y, n)) : Cond.selects y.cls y y ∈ AW := List.mem_filter.mpr ⟨List.mem_append_left _ (List.mem_map_of_mem (f := fun q : MethodName × Nat => Cond.selects q.1.cls q.1 q.1) (List.mem_append_left _ (List.mem_of_getElem? h))), rfl⟩
theorem awp2 {y : MethodName} {n i : Nat} (h : lw_privs_2[i]? = some (y, n)) : Cond.selects y.cls y y ∈ AW := List.mem_filter.mpr ⟨List.mem_append_left _ (List.mem_map_of_mem (f := fun q : MethodName × Nat => Cond.selects q.1.cls q.1 q.1) (List.mem_append_right _ (List.mem_append_left _ (List.mem_of_getElem? h)))), rfl⟩
theorem awp3 {y : MethodName} {n i : Nat} (h : lw_privs_3[i]? = some (y, n)) : Cond.selects y.cls y y ∈ AW := List.mem_filter.mpr ⟨List.mem_append_left _ (List.mem_map_of_mem (f := fun q : MethodName × Nat => Cond.selects q.1.cls q.1 q.1) (List.mem_append_right _ (List.mem_append_right _ (List.mem_append_left _ (List.mem_of_getElem? h))))), rfl⟩
theorem awp4 {y : MethodName} {n i : Nat} (h : lw_privs_4[i]? = some (y, n)) : Cond.selects y.cls y y ∈ AW := List.mem_filter.mpr ⟨List.mem_append_left _ (List.mem_map_of_mem (f := fun q : MethodName × Nat => Cond.selects q.1.cls q.1 q.1) (List.mem_append_right _ (List.mem_append_right _ (List.mem_append_right _ (List.mem_append_left _ (List.mem_of_getElem? h)))))), rfl⟩
theorem awp5 {y : MethodName} {n i : Nat} (h : lw_privs_5[i]? = some (y, n)) : Cond.selects y.cls y y ∈ AW := List.mem_filter.mpr ⟨List.mem_append_left _ (List.mem_map_of_mem (f := fun q : MethodName × Nat => Cond.selects q.1.cls q.1 q.1) (List.mem_append_right _ (List.mem_append_right _ (List.mem_append_right _ (List.mem_append_right _ (List.mem_of_getElem? h)))))), rfl⟩
end
section
/-! THE ABSTRACT WORLD: ints and longs are mathematical integers in the machine's range, objects and arrays are numbered from 1 on (address: base + number). -/
abbrev AV : Type := Int ⊕ (Int ⊕ Nat)
abbrev vi (x : Int) : AV := .inl x
abbrev vl (x : Int) : AV := .inr (.inl x)
abbrev vr (q : Nat) : AV := .inr (.inr q)
/-- ghosts: class ids and slot numbers; ids of the array classes; base; addresses of what isn't numbered -/
abbrev Gh : Type := va_G × (Nat → ClassId) × Nat × (Nat → Nat)
abbrev gD (G : Gh) : va_G := G.1
abbrev gC (G : Gh) : Nat → ClassId := G.2.1
abbrev gB (G : Gh) : Nat := G.2.2.1
abbrev gA (G : Gh) : Nat → Nat := G.2.2.2
/-- a world: how many cells, their shapes ((0, class) or (kind of array, length)), ints, longs, references -/
abbrev Wo : Type := Nat × (Nat → Nat × Nat) × (Nat → Nat → Int) × (Nat → Nat → Int) × (Nat → Nat → Nat)
def wn (w : Wo) : Nat := w.1
def wsh (w : Wo) (q : Nat) : Nat × Nat := w.2.1 q
def gI (w : Wo) (o k : Nat) : Int := w.2.2.1 o k
def gJ (w : Wo) (o k : Nat) : Int := w.2.2.2.1 o k
def gP (w : Wo) (o k : Nat) : Nat := w.2.2.2.2 o k
def up2 {α : Type} (f : Nat → Nat → α) (o k : Nat) (v : α) : Nat → Nat → α := fun b j => if b = o ∧ j = k then v else f b j
def uI (w : Wo) (o k : Nat) (v : Int) : Wo := (w.1, w.2.1, up2 w.2.2.1 o k v, w.2.2.2.1, w.2.2.2.2)
def uJ (w : Wo) (o k : Nat) (v : Int) : Wo := (w.1, w.2.1, w.2.2.1, up2 w.2.2.2.1 o k v, w.2.2.2.2)
def uP (w : Wo) (o k : Nat) (v : Nat) : Wo := (w.1, w.2.1, w.2.2.1, w.2.2.2.1, up2 w.2.2.2.2 o k v)
def zr2 {α : Type} (f : Nat → Nat → α) (z : α) (o : Nat) : Nat → Nat → α := fun b j => if b = o then z else f b j
/-- one new cell of this shape, its contents 0 -/
def nw (w : Wo) (sh : Nat × Nat) : Wo := (w.1 + 1, (fun q => if q = w.1 + 1 then sh else w.2.1 q), zr2 w.2.2.1 0 (w.1 + 1), zr2 w.2.2.2.1 0 (w.1 + 1), zr2 w.2.2.2.2 0 (w.1 + 1))
theorem gI_uI (w : Wo) (o k b j : Nat) (v : Int) : gI (uI w o k v) b j = if b = o ∧ j = k then v else gI w b j := rfl
theorem gI_uJ (w : Wo) (o k b j : Nat) (v : Int) : gI (uJ w o k v) b j = gI w b j := rfl
theorem gI_uP (w : Wo) (o k b j : Nat) (v : Nat) : gI (uP w o k v) b j = gI w b j := rfl
theorem gJ_uI (w : Wo) (o k b j : Nat) (v : Int) : gJ (uI w o k v) b j = gJ w b j := rfl
theorem gJ_uJ (w : Wo) (o k b j : Nat) (v : Int) : gJ (uJ w o k v) b j = if b = o ∧ j = k then v else gJ w b j := rfl
theorem gJ_uP (w : Wo) (o k b j : Nat) (v : Nat) : gJ (uP w o k v) b j = gJ w b j := rfl
theorem gP_uI (w : Wo) (o k b j : Nat) (v : Int) : gP (uI w o k v) b j = gP w b j := rfl
theorem gP_uJ (w : Wo) (o k b j : Nat) (v : Int) : gP (uJ w o k v) b j = gP w b j := rfl
theorem gP_uP (w : Wo) (o k b j : Nat) (v : Nat) : gP (uP w o k v) b j = if b = o ∧ j = k then v else gP w b j := rfl
abbrev inr32 (x : Int) : Prop := -2147483648 ≤ x ∧ x < 2147483648
abbrev inr64 (x : Int) : Prop := -9223372036854775808 ≤ x ∧ x < 9223372036854775808
def InS (w : Wo) : Prop := (∀ o k, inr32 (gI w o k)) ∧ ∀ o k, inr64 (gJ w o k)
theorem InS.uI {w : Wo} (h : InS w) {o k : Nat} {v : Int} (hv : inr32 v) : InS (uI w o k v) := by
  refine ⟨fun b j => ?_, h.2⟩
  rw [gI_uI]
  split
  · exact hv
  · exact h.1 b j
theorem InS.uJ {w : Wo} (h : InS w) {o k : Nat} {v : Int} (hv : inr64 v) : InS (uJ w o k v) := by
  refine ⟨h.1, fun b j => ?_⟩
  rw [gJ_uJ]
  split
  · exact hv
  · exact h.2 b j
theorem InS.nw {w : Wo} (h : InS w) (sh : Nat × Nat) : InS (nw w sh) := by
  refine ⟨fun b j => ?_, fun b j => ?_⟩
  · show inr32 (zr2 w.2.2.1 0 (w.1 + 1) b j)
    unfold zr2
    split
    · decide
    · exact h.1 b j
  · show inr64 (zr2 w.2.2.2.1 0 (w.1 + 1) b j)
    unfold zr2
    split
    · decide
    · exact h.2 b j
/-- cell q has this shape -/
def oq (w : Wo) (q : Nat) (sh : Nat × Nat) : Prop := 0 < q ∧ q ≤ wn w ∧ wsh w q = sh
/-- cell a is an array of kind t, i is one of its places -/
def inA (w : Wo) (a t : Nat) (i : Int) : Prop := 0 < a ∧ a ≤ wn w ∧ (wsh w a).1 = t ∧ 0 ≤ i ∧ i < (wsh w a).2 ∧ (wsh w a).2 < 2147483648
def okv : AV → Prop
  | .inl x => inr32 x
  | .inr (.inl x) => inr64 x
  | .inr (.inr _) => True
def cr (G : Gh) (q : Nat) : Option Nat := if q = 0 then none else if q ≤ 1000 then some (gB G + q) else some (gA G q)
def cv (G : Gh) : AV → Value
  | .inl x => .int (Int32.ofInt x)
  | .inr (.inl x) => .long (Int64.ofInt x)
  | .inr (.inr q) => va_rf (cr G q)
theorem cr_pos {G : Gh} {q : Nat} (h : 0 < q) (h2 : q ≤ 1000) : cr G q = some (gB G + q) := by
  unfold cr
  rw [if_neg (by omega), if_pos h2]
theorem cv_ref {G : Gh} {q : Nat} (h : 0 < q) (h2 : q ≤ 1000) : cv G (vr q) = .ref (gB G + q) := by
  show va_rf (cr G q) = _
  rw [cr_pos h h2]
  rfl
/-- a field's value as the cell holds it -/
def fv (G : Gh) (w : Wo) (q k : Nat) : Nat → Value
  | 2 => .long (Int64.ofInt (gJ w q k))
  | 5 => va_rf (cr G (gP w q k))
  | _ => .int (Int32.ofInt (gI w q k))
def fsL (G : Gh) (w : Wo) (q : Nat) (ty : Nat → Nat) (n : Nat) : List Value := (List.range n).map (fun k => fv G w q k (ty k))
theorem fsL_get {G : Gh} {w : Wo} {q : Nat} {ty : Nat → Nat} {n k : Nat} (h : k < n) : (fsL G w q ty n)[k]? = some (fv G w q k (ty k)) := by
  simp [fsL, h]
theorem fsL_len {G : Gh} {w : Wo} {q : Nat} {ty : Nat → Nat} {n : Nat} : (fsL G w q ty n).length = n := by simp [fsL]
def cE (G : Gh) (w : Wo) (q : Nat) : va_E := match (wsh w q).1 with
  | 0 => .inr ((wsh w q).2, fsL G w q (fty (wsh w q).2) (nf (wsh w q).2))
  | 2 => .inl (gC G 2, (wsh w q).2, .inr (.inl (fun j => Int64.ofInt (gJ w q j))))
  | 5 => .inl (gC G 5, (wsh w q).2, .inr (.inr (.inr (.inr (fun j => cr G (gP w q j))))))
  | t => .inl (gC G t, (wsh w q).2, .inl (fun j => Int32.ofInt (gI w q j)))
def wL (G : Gh) (w : Wo) : va_W := (List.range (wn w)).map (fun i => (gB G + (i + 1), cE G w (i + 1)))
theorem wL_get {G : Gh} {w : Wo} {q : Nat} (h : 0 < q) (h2 : q ≤ wn w) : (wL G w)[q - 1]? = some (gB G + q, cE G w q) := by
  have h3 : q - 1 < wn w := by omega
  have h4 : q - 1 + 1 = q := by omega
  simp [wL, h3, h4]
theorem wL_at {G : Gh} {w : Wo} {k : Nat} {x : Nat × va_E} (h : (wL G w)[k]? = some x) : k < wn w ∧ x = (gB G + (k + 1), cE G w (k + 1)) := by
  have hk : k < wn w := by
    have := (List.getElem?_eq_some_iff.mp h).1
    simpa [wL] using this
  refine ⟨hk, ?_⟩
  simp [wL, hk] at h
  exact h.symm
theorem wL_len (G : Gh) (w : Wo) : (wL G w).length = wn w := by simp [wL]
/-- what a method may change -/
def fr (B n sz : Nat) : Nat → Prop := fun q => (B < q ∧ q ≤ B + n) ∨ sz ≤ q
theorem wL_D {G : Gh} {w : Wo} {n0 sz : Nat} (h : wn w ≤ n0 ∨ sz ≤ gB G + n0 + 1) : va_D (fr (gB G) n0 sz) (wL G w) := by
  refine ⟨fun i j x y hx hy e => ?_, fun k x hx => ?_⟩
  · obtain ⟨-, rfl⟩ := wL_at hx
    obtain ⟨-, rfl⟩ := wL_at hy
    have e : gB G + (i + 1) = gB G + (j + 1) := e
    omega
  · obtain ⟨hk, rfl⟩ := wL_at hx
    show (_ ∧ _) ∨ _
    show (gB G < gB G + (k + 1) ∧ gB G + (k + 1) ≤ gB G + n0) ∨ sz ≤ gB G + (k + 1)
    omega
theorem cE_congr {G : Gh} {w w' : Wo} {q : Nat} (hs : wsh w' q = wsh w q) (hI : ∀ j, gI w' q j = gI w q j) (hJ : ∀ j, gJ w' q j = gJ w q j) (hP : ∀ j, gP w' q j = gP w q j) : cE G w' q = cE G w q := by
  have hf : ∀ (ty : Nat → Nat) (n : Nat), fsL G w' q ty n = fsL G w q ty n := by
    intro ty n
    unfold fsL
    refine List.map_congr_left (fun k _ => ?_)
    unfold fv
    split
    · rw [hJ]
    · rw [hP]
    · rw [hI]
  unfold cE
  rw [hs]
  split
  · rw [hf]
  · simp only [hJ]
  · simp only [hP]
  · simp only [hI]
/-- a list that is the world's but at one cell is the changed world's -/
theorem wL_set {G : Gh} {w w' : Wo} {q : Nat} {e : va_E} (h : 0 < q) (hn : wn w' = wn w) (he : cE G w' q = e) (ho : ∀ b, b ≠ q → cE G w' b = cE G w b) : (wL G w).set (q - 1) (gB G + q, e) = wL G w' := by
  apply List.ext_getElem?
  intro i
  rw [List.getElem?_set]
  by_cases hi : q - 1 = i
  · subst hi
    rw [if_pos rfl]
    by_cases hl : q ≤ wn w
    · rw [if_pos (by rw [wL_len]; omega), wL_get h (by rw [hn]; exact hl), he]
    · rw [if_neg (by rw [wL_len]; omega)]
      symm
      rw [List.getElem?_eq_none_iff, wL_len]
      omega
  · rw [if_neg hi]
    by_cases hl : i < wn w
    · have h1 := wL_get (G := G) (w := w) (q := i + 1) (by omega) (by omega)
      have h2 := wL_get (G := G) (w := w') (q := i + 1) (by omega) (by omega)
      rw [Nat.add_sub_cancel] at h1 h2
      rw [h1, h2, ho (i + 1) (by omega)]
    · rw [List.getElem?_eq_none (by rw [wL_len]; omega), List.getElem?_eq_none (by rw [wL_len, hn]; omega)]
theorem fsL_set {G : Gh} {w w' : Wo} {q : Nat} {ty : Nat → Nat} {n k : Nat} {v : Value} (hk : k < n) (hv : fv G w' q k (ty k) = v) (ho : ∀ j, j ≠ k → fv G w' q j (ty j) = fv G w q j (ty j)) : (fsL G w q ty n).set k v = fsL G w' q ty n := by
  apply List.ext_getElem?
  intro i
  rw [List.getElem?_set]
  by_cases hi : k = i
  · subst hi
    rw [if_pos rfl, if_pos (by rw [fsL_len]; exact hk), fsL_get hk, hv]
  · rw [if_neg hi]
    by_cases hl : i < n
    · rw [fsL_get hl, fsL_get hl, ho i (fun e => hi e.symm)]
    · rw [List.getElem?_eq_none (by rw [fsL_len]; omega), List.getElem?_eq_none (by rw [fsL_len]; omega)]
end
section
/-! THE LAYOUT (by program): what the constructors lay down -/
def NN : Nat := 117
def SHL : List (Nat × Nat) := [(9, 0), (0, 8), (0, 6), (3, 600), (0, 4), (0, 7), (1, 601), (1, 601), (2, 601), (0, 1), (0, 3), (2, 4), (1, 4), (5, 6), (2, 8), (1, 8), (1, 6), (1, 6), (1, 6), (0, 3), (2, 4), (1, 4), (0, 3), (2, 4), (1, 4), (0, 3), (2, 4), (1, 4), (0, 3), (2, 4), (1, 4), (0, 3), (2, 4), (1, 4), (0, 3), (2, 4), (1, 4), (0, 2), (1, 120), (2, 480), (0, 0), (0, 5), (1, 30), (1, 30), (1, 30), (1, 30), (1, 30), (1, 180), (1, 180), (1, 180), (1, 180), (1, 180), (1, 180), (2, 16), (1, 16), (1, 16), (1, 16), (1, 16), (1, 16), (0, 0), (0, 5), (1, 30), (1, 30), (1, 30), (1, 30), (1, 30), (1, 180), (1, 180), (1, 180), (1, 180), (1, 180), (1, 180), (2, 16), (1, 16), (1, 16), (1, 16), (1, 16), (1, 16), (0, 9), (1, 600), (1, 602), (1, 602), (1, 602), (2, 602), (1, 2), (2, 32), (1, 32), (1, 32), (1, 2), (1, 61), (1, 244), (2, 244), (1, 61), (1, 61), (1, 61), (1, 61), (1, 366), (1, 366), (1, 1464), (2, 1464), (1, 2), (1, 400), (2, 1600), (2, 9), (1, 9), (4, 9), (1, 4), (2, 4), (1, 366), (1, 366), (1, 61), (4, 256), (1, 6), (1, 6), (1, 6), (4, 9), (4, 6), (2, 1)]
def SHf (q : Nat) : Nat × Nat := SHL.getD q (9, 0)
def LYT : List (Nat × Nat × Nat) := [(1, 0, 2), (1, 1, 4), (2, 0, 3), (4, 0, 5), (4, 1, 9), (4, 2, 37), (5, 0, 6), (5, 1, 7), (5, 2, 8), (9, 0, 10), (9, 1, 13), (9, 7, 14), (9, 8, 15), (9, 9, 16), (9, 10, 17), (9, 11, 18), (10, 5, 11), (10, 6, 12), (13, 0, 19), (13, 1, 22), (13, 2, 25), (13, 3, 28), (13, 4, 31), (13, 5, 34), (19, 5, 20), (19, 6, 21), (22, 5, 23), (22, 6, 24), (25, 5, 26), (25, 6, 27), (28, 5, 29), (28, 6, 30), (31, 5, 32), (31, 6, 33), (34, 5, 35), (34, 6, 36), (37, 0, 38), (37, 1, 39), (40, 0, 41), (40, 2, 53), (40, 3, 54), (40, 4, 55), (40, 5, 56), (40, 6, 57), (40, 7, 58), (41, 1, 42), (41, 2, 43), (41, 3, 44), (41, 4, 45), (41, 5, 46), (41, 6, 47), (41, 7, 48), (41, 8, 49), (41, 9, 50), (41, 10, 51), (41, 11, 52), (59, 0, 60), (59, 2, 72), (59, 3, 73), (59, 4, 74), (59, 5, 75), (59, 6, 76), (59, 7, 77), (60, 1, 61), (60, 2, 62), (60, 3, 63), (60, 4, 64), (60, 5, 65), (60, 6, 66), (60, 7, 67), (60, 8, 68), (60, 9, 69), (60, 10, 70), (60, 11, 71), (78, 1, 79), (78, 6, 80), (78, 7, 81), (78, 8, 82), (78, 9, 83), (78, 12, 84), (78, 13, 85), (78, 14, 86), (78, 15, 87), (78, 16, 88), (78, 17, 89), (78, 18, 90), (78, 19, 91), (78, 20, 92), (78, 21, 93), (78, 22, 94), (78, 23, 95), (78, 24, 96), (78, 25, 97), (78, 26, 98), (78, 27, 99), (78, 28, 100), (78, 29, 101), (78, 30, 102), (78, 32, 103), (78, 33, 104), (78, 34, 105), (78, 39, 106), (78, 40, 107), (78, 47, 108), (78, 48, 109), (78, 49, 110), (78, 50, 111), (78, 51, 112), (78, 52, 113), (78, 53, 114), (78, 54, 115), (78, 55, 116)]
def isLt (r : Nat) : Prop := r = 10 ∨ r = 19 ∨ r = 22 ∨ r = 25 ∨ r = 28 ∨ r = 31 ∨ r = 34
def isBk (r : Nat) : Prop := r = 40 ∨ r = 59
def isRl (r : Nat) : Prop := r = 41 ∨ r = 60
def LY (w : Wo) : Prop := wn w = NN ∧ (∀ q, wsh w q = SHf q) ∧ (∀ e ∈ LYT, gP w e.1 e.2.1 = e.2.2) ∧ isBk (gP w 1 2) ∧ isBk (gP w 1 3)
theorem SHf_lt (q : Nat) : (SHf q).2 < 2147483648 := by
  have h : ∀ x ∈ SHL, x.2 < 2147483648 := by decide +kernel
  unfold SHf
  rw [List.getD_eq_getElem?_getD]
  cases hq : SHL[q]? with
  | none => decide
  | some x => exact h x (List.mem_of_getElem? hq)
theorem ly_o {w : Wo} (h : LY w) {q : Nat} {sh : Nat × Nat} (hb : 0 < q ∧ q ≤ NN ∧ SHf q = sh) : oq w q sh := ⟨hb.1, by rw [h.1]; exact hb.2.1, (h.2.1 q).trans hb.2.2⟩
theorem ly_a {w : Wo} (h : LY w) {a t n : Nat} (hb : 0 < a ∧ a ≤ NN ∧ SHf a = (t, n)) {i N : Int} (hi : 0 ≤ i ∧ i < N) (hN : N ≤ (n : Int) := by decide) : inA w a t i := by
  have e := h.2.1 a
  have hl := SHf_lt a
  rw [← e] at hl
  refine ⟨hb.1, by rw [h.1]; exact hb.2.1, by rw [e, hb.2.2], hi.1, ?_, hl⟩
  rw [e, hb.2.2]
  exact Int.lt_of_lt_of_le hi.2 hN
theorem ly_r {w : Wo} (h : LY w) {q j v : Nat} (hm : (q, j, v) ∈ LYT) : gP w q j = v := h.2.2.1 _ hm
theorem ly_book {w : Wo} (h : LY w) : isBk (gP w 1 2) := h.2.2.2.1
theorem ly_draft {w : Wo} (h : LY w) : isBk (gP w 1 3) := h.2.2.2.2
theorem gP_uPn {w : Wo} {o k b j : Nat} {v : Nat} (h : ¬ (b = o ∧ j = k)) : gP (uP w o k v) b j = gP w b j := if_neg h
theorem ly_pbook {w : Wo} {v : Nat} (h : LY w) (hv : isBk v) : LY (uP w 1 2 v) := by
  have hn : ∀ e ∈ LYT, ¬ (e.1 = 1 ∧ e.2.1 = 2) := by decide +kernel
  refine ⟨h.1, h.2.1, fun e he => by rw [gP_uPn (hn e he)]; exact h.2.2.1 e he, ?_, ?_⟩
  · show isBk (up2 w.2.2.2.2 1 2 v 1 2)
    rw [show up2 w.2.2.2.2 1 2 v 1 2 = v from if_pos ⟨rfl, rfl⟩]
    exact hv
  · rw [gP_uPn (by decide)]
    exact ly_draft h
theorem ly_pdraft {w : Wo} {v : Nat} (h : LY w) (hv : isBk v) : LY (uP w 1 3 v) := by
  have hn : ∀ e ∈ LYT, ¬ (e.1 = 1 ∧ e.2.1 = 3) := by decide +kernel
  refine ⟨h.1, h.2.1, fun e he => by rw [gP_uPn (hn e he)]; exact h.2.2.1 e he, ?_, ?_⟩
  · rw [gP_uPn (by decide)]
    exact ly_book h
  · show isBk (up2 w.2.2.2.2 1 3 v 1 3)
    rw [show up2 w.2.2.2.2 1 3 v 1 3 = v from if_pos ⟨rfl, rfl⟩]
    exact hv
theorem ly_ptarget {w : Wo} {v : Nat} {p : Prop} (h : LY w) (_ : p) : LY (uP w 4 3 v) := by
  have hn : ∀ e ∈ LYT, ¬ (e.1 = 4 ∧ e.2.1 = 3) := by decide +kernel
  exact ⟨h.1, h.2.1, fun e he => by rw [gP_uPn (hn e he)]; exact h.2.2.1 e he, by rw [gP_uPn (by decide)]; exact ly_book h, by rw [gP_uPn (by decide)]; exact ly_draft h⟩
theorem lt_o {r : Nat} (h : isLt r) : 0 < r ∧ r ≤ NN ∧ SHf r = (0, 3) := by
  rcases h with rfl | rfl | rfl | rfl | rfl | rfl | rfl <;> decide
theorem lt_r5 {w : Wo} {r : Nat} (hl : LY w) (h : isLt r) : gP w r 5 = r + 1 := by
  rcases h with rfl | rfl | rfl | rfl | rfl | rfl | rfl <;> exact ly_r hl (by decide +kernel)
theorem lt_a5 {r : Nat} (h : isLt r) : 0 < r + 1 ∧ r + 1 ≤ NN ∧ SHf (r + 1) = (2, 4) := by
  rcases h with rfl | rfl | rfl | rfl | rfl | rfl | rfl <;> decide
theorem lt_r6 {w : Wo} {r : Nat} (hl : LY w) (h : isLt r) : gP w r 6 = r + 2 := by
  rcases h with rfl | rfl | rfl | rfl | rfl | rfl | rfl <;> exact ly_r hl (by decide +kernel)
theorem lt_a6 {r : Nat} (h : isLt r) : 0 < r + 2 ∧ r + 2 ≤ NN ∧ SHf (r + 2) = (1, 4) := by
  rcases h with rfl | rfl | rfl | rfl | rfl | rfl | rfl <;> decide
theorem bk_o {r : Nat} (h : isBk r) : 0 < r ∧ r ≤ NN ∧ SHf r = (0, 0) := by
  rcases h with rfl | rfl <;> decide
theorem bk_r0 {w : Wo} {r : Nat} (hl : LY w) (h : isBk r) : gP w r 0 = r + 1 := by
  rcases h with rfl | rfl <;> exact ly_r hl (by decide +kernel)
theorem bk_m0 {r : Nat} (h : isBk r) : isRl (r + 1) := by
  rcases h with rfl | rfl <;> (unfold isRl; decide)
theorem bk_r2 {w : Wo} {r : Nat} (hl : LY w) (h : isBk r) : gP w r 2 = r + 13 := by
  rcases h with rfl | rfl <;> exact ly_r hl (by decide +kernel)
theorem bk_a2 {r : Nat} (h : isBk r) : 0 < r + 13 ∧ r + 13 ≤ NN ∧ SHf (r + 13) = (2, 16) := by
  rcases h with rfl | rfl <;> decide
theorem bk_r3 {w : Wo} {r : Nat} (hl : LY w) (h : isBk r) : gP w r 3 = r + 14 := by
  rcases h with rfl | rfl <;> exact ly_r hl (by decide +kernel)
theorem bk_a3 {r : Nat} (h : isBk r) : 0 < r + 14 ∧ r + 14 ≤ NN ∧ SHf (r + 14) = (1, 16) := by
  rcases h with rfl | rfl <;> decide
theorem bk_r4 {w : Wo} {r : Nat} (hl : LY w) (h : isBk r) : gP w r 4 = r + 15 := by
  rcases h with rfl | rfl <;> exact ly_r hl (by decide +kernel)
theorem bk_a4 {r : Nat} (h : isBk r) : 0 < r + 15 ∧ r + 15 ≤ NN ∧ SHf (r + 15) = (1, 16) := by
  rcases h with rfl | rfl <;> decide
theorem bk_r5 {w : Wo} {r : Nat} (hl : LY w) (h : isBk r) : gP w r 5 = r + 16 := by
  rcases h with rfl | rfl <;> exact ly_r hl (by decide +kernel)
theorem bk_a5 {r : Nat} (h : isBk r) : 0 < r + 16 ∧ r + 16 ≤ NN ∧ SHf (r + 16) = (1, 16) := by
  rcases h with rfl | rfl <;> decide
theorem bk_r6 {w : Wo} {r : Nat} (hl : LY w) (h : isBk r) : gP w r 6 = r + 17 := by
  rcases h with rfl | rfl <;> exact ly_r hl (by decide +kernel)
theorem bk_a6 {r : Nat} (h : isBk r) : 0 < r + 17 ∧ r + 17 ≤ NN ∧ SHf (r + 17) = (1, 16) := by
  rcases h with rfl | rfl <;> decide
theorem bk_r7 {w : Wo} {r : Nat} (hl : LY w) (h : isBk r) : gP w r 7 = r + 18 := by
  rcases h with rfl | rfl <;> exact ly_r hl (by decide +kernel)
theorem bk_a7 {r : Nat} (h : isBk r) : 0 < r + 18 ∧ r + 18 ≤ NN ∧ SHf (r + 18) = (1, 16) := by
  rcases h with rfl | rfl <;> decide
theorem rl_o {r : Nat} (h : isRl r) : 0 < r ∧ r ≤ NN ∧ SHf r = (0, 5) := by
  rcases h with rfl | rfl <;> decide
theorem rl_r1 {w : Wo} {r : Nat} (hl : LY w) (h : isRl r) : gP w r 1 = r + 1 := by
  rcases h with rfl | rfl <;> exact ly_r hl (by decide +kernel)
theorem rl_a1 {r : Nat} (h : isRl r) : 0 < r + 1 ∧ r + 1 ≤ NN ∧ SHf (r + 1) = (1, 30) := by
  rcases h with rfl | rfl <;> decide
theorem rl_r2 {w : Wo} {r : Nat} (hl : LY w) (h : isRl r) : gP w r 2 = r + 2 := by
  rcases h with rfl | rfl <;> exact ly_r hl (by decide +kernel)
theorem rl_a2 {r : Nat} (h : isRl r) : 0 < r + 2 ∧ r + 2 ≤ NN ∧ SHf (r + 2) = (1, 30) := by
  rcases h with rfl | rfl <;> decide
theorem rl_r3 {w : Wo} {r : Nat} (hl : LY w) (h : isRl r) : gP w r 3 = r + 3 := by
  rcases h with rfl | rfl <;> exact ly_r hl (by decide +kernel)
theorem rl_a3 {r : Nat} (h : isRl r) : 0 < r + 3 ∧ r + 3 ≤ NN ∧ SHf (r + 3) = (1, 30) := by
  rcases h with rfl | rfl <;> decide
theorem rl_r4 {w : Wo} {r : Nat} (hl : LY w) (h : isRl r) : gP w r 4 = r + 4 := by
  rcases h with rfl | rfl <;> exact ly_r hl (by decide +kernel)
theorem rl_a4 {r : Nat} (h : isRl r) : 0 < r + 4 ∧ r + 4 ≤ NN ∧ SHf (r + 4) = (1, 30) := by
  rcases h with rfl | rfl <;> decide
theorem rl_r5 {w : Wo} {r : Nat} (hl : LY w) (h : isRl r) : gP w r 5 = r + 5 := by
  rcases h with rfl | rfl <;> exact ly_r hl (by decide +kernel)
theorem rl_a5 {r : Nat} (h : isRl r) : 0 < r + 5 ∧ r + 5 ≤ NN ∧ SHf (r + 5) = (1, 30) := by
  rcases h with rfl | rfl <;> decide
theorem rl_r6 {w : Wo} {r : Nat} (hl : LY w) (h : isRl r) : gP w r 6 = r + 6 := by
  rcases h with rfl | rfl <;> exact ly_r hl (by decide +kernel)
theorem rl_a6 {r : Nat} (h : isRl r) : 0 < r + 6 ∧ r + 6 ≤ NN ∧ SHf (r + 6) = (1, 180) := by
  rcases h with rfl | rfl <;> decide
theorem rl_r7 {w : Wo} {r : Nat} (hl : LY w) (h : isRl r) : gP w r 7 = r + 7 := by
  rcases h with rfl | rfl <;> exact ly_r hl (by decide +kernel)
theorem rl_a7 {r : Nat} (h : isRl r) : 0 < r + 7 ∧ r + 7 ≤ NN ∧ SHf (r + 7) = (1, 180) := by
  rcases h with rfl | rfl <;> decide
theorem rl_r8 {w : Wo} {r : Nat} (hl : LY w) (h : isRl r) : gP w r 8 = r + 8 := by
  rcases h with rfl | rfl <;> exact ly_r hl (by decide +kernel)
theorem rl_a8 {r : Nat} (h : isRl r) : 0 < r + 8 ∧ r + 8 ≤ NN ∧ SHf (r + 8) = (1, 180) := by
  rcases h with rfl | rfl <;> decide
theorem rl_r9 {w : Wo} {r : Nat} (hl : LY w) (h : isRl r) : gP w r 9 = r + 9 := by
  rcases h with rfl | rfl <;> exact ly_r hl (by decide +kernel)
theorem rl_a9 {r : Nat} (h : isRl r) : 0 < r + 9 ∧ r + 9 ≤ NN ∧ SHf (r + 9) = (1, 180) := by
  rcases h with rfl | rfl <;> decide
theorem rl_r10 {w : Wo} {r : Nat} (hl : LY w) (h : isRl r) : gP w r 10 = r + 10 := by
  rcases h with rfl | rfl <;> exact ly_r hl (by decide +kernel)
theorem rl_a10 {r : Nat} (h : isRl r) : 0 < r + 10 ∧ r + 10 ≤ NN ∧ SHf (r + 10) = (1, 180) := by
  rcases h with rfl | rfl <;> decide
theorem rl_r11 {w : Wo} {r : Nat} (hl : LY w) (h : isRl r) : gP w r 11 = r + 11 := by
  rcases h with rfl | rfl <;> exact ly_r hl (by decide +kernel)
theorem rl_a11 {r : Nat} (h : isRl r) : 0 < r + 11 ∧ r + 11 ≤ NN ∧ SHf (r + 11) = (1, 180) := by
  rcases h with rfl | rfl <;> decide
theorem body_n {i : Int} (hi : 0 ≤ i ∧ i < 6) : i.toNat = 0 ∨ i.toNat = 1 ∨ i.toNat = 2 ∨ i.toNat = 3 ∨ i.toNat = 4 ∨ i.toNat = 5 := by omega
theorem body_r {w : Wo} {i : Int} (hi : 0 ≤ i ∧ i < 6) (hl : LY w) : gP w 13 i.toNat = 19 + 3 * i.toNat := by
  rcases body_n hi with h | h | h | h | h | h <;> (rw [h]; exact ly_r hl (by decide +kernel))
theorem body_m {i : Int} (hi : 0 ≤ i ∧ i < 6) : isLt (19 + 3 * i.toNat) := by
  rcases body_n hi with h | h | h | h | h | h <;> (rw [h]; unfold isLt; decide)
end
section
/-- the strings that the class reads: where they stand, what they hold -/
def stT : List (String × Nat × String) := [("PlanDesk$Tokens", 73, "count"), ("PlanDesk$Tokens", 74, "sum"), ("PlanDesk$Tokens", 76, "least"), ("PlanDesk$Tokens", 78, "most"), ("PlanDesk$Tokens", 63, "is")]
def stB : List (List Int32) := [[99, 111, 117, 110, 116], [115, 117, 109], [108, 101, 97, 115, 116], [109, 111, 115, 116], [105, 115]]
def stN : List Nat := [5, 3, 5, 4, 2]
def SK (G : Gh) (s : State) : Prop := vk_S 5 stN stB (fun i => gA G (1001 + i)) (fun i => gA G (2001 + i)) (fun q => gB G < q) s s.heap ∧ (∀ (i : Nat) (t : String × Nat × String), stT[i]? = some t → vk_R t.1 t.2.1 t.2.2 (gA G (1001 + i)) s) ∧ va_Z "java/lang/String" "COMPACT_STRINGS" "Z" (.int 1) (fun q => gB G < q) s s.heap
theorem SK.moved {G : Gh} {s U : State} (hW : s.WarmedH U.vm) (hk : ∀ a : Nat, a < s.heap.size → ¬ gB G < a → U.heap[a]? = s.heap[a]?) (h : SK G s) : SK G U :=
  ⟨(vk_S.moved hW.alike h.1).kept hk, fun i t hi => (h.2.1 i t hi).warm hW, (va_Z.moved hW.alike h.2.2).kept hk⟩
theorem SK.calling {G : Gh} {U : State} {g : JFrame} {mk : MethodId} {a : Array Value} (h : SK G U) : SK G (U.calling g mk a) :=
  ⟨(vk_S.moved (u := U) (U := U.calling g mk a) (Vm.Alike.refl U.vm) h.1).kept (fun _ _ _ => rfl), fun i t hi => (h.2.1 i t hi).same rfl, (va_Z.moved (u := U) (U := U.calling g mk a) (Vm.Alike.refl U.vm) h.2.2).kept (fun _ _ _ => rfl)⟩
/-! THE JUDGEMENT Wp: from this place of method m, with these locals, this stack and this world, the method comes to its end with Q. -/
def tysG (G : Gh) : List (ClassId × FieldType) := [(gC G 1, .int), (gC G 2, .long), (gC G 3, .byte), (gC G 4, .boolean), (gC G 5, .object RLit)]
def KK (G : Gh) (s : State) : Prop := va_K (gD G) clT (tysG G) s ∧ SK G s
def Inv (b : Bool) (G : Gh) (w : Wo) (H : Heap) : Prop := match b with
  | true => LY w
  | false => H.size = gB G + wn w + 1
def lvh (G : Gh) (ls : Array Slot) (n : Nat) (L : List (Nat × AV)) : Prop := lv_has ls n (L.map (fun q => (q.1, cv G q.2)))
def Wy (b : Bool) (G : Gh) (n0 : Nat) (s : State) (n : Nat) (L : List (Nat × AV)) (S : List AV) (w : Wo) (H : Heap) (locs : List Loc) (ls : Array Slot) : Prop :=
  lvh G ls n L ∧ (∀ q ∈ L, okv q.2) ∧ (∀ v ∈ S, okv v) ∧ va_P (gD G) clT (wL G w) H ∧ InS w ∧ Inv b G w H ∧ va_S (fr (gB G) n0 s.heap.size) s.heap H locs ∧ n0 ≤ wn w ∧ (wn w ≤ n0 ∨ s.heap.size ≤ gB G + n0 + 1) ∧ wn w ≤ 1000
def RetAt (m : MR) (pc : Nat) : Option AV → Prop
  | none => decode (cd m) pc = .ok (.return_, 1) ∧ rtt m = none
  | some (.inl x) => decode (cd m) pc = .ok (.ireturn, 1) ∧ (rtt m = some .int ∨ (rtt m = some .boolean ∧ (x = 0 ∨ x = 1)))
  | some (.inr (.inl _)) => decode (cd m) pc = .ok (.lreturn, 1) ∧ rtt m = some .long
  | some (.inr (.inr _)) => False
def Wx (m : MR) (Q : Option AV → Wo → Prop) (p : Program) (l : Launch) (e : Env) (s : State) (mm : MethodId) (args : Array Value) (below : List Frame) (meth : Method) (c : Code) (bF : Bool) (G : Gh) (n0 : Nat) (Z : State → Prop) : Prop :=
  p.tables.exec = Jvm.exec ∧ c.code = cd m ∧ c.maxLocals = nLo m ∧ s.vm.findClass (yy m).cls = some mm.cls ∧ (∀ w ∈ AW, w.before args s = true) ∧ KK G s ∧ meth.name = (yy m).name ∧
  ∀ (H : Heap) (locs : List Loc) (ls : Array Slot) (pc : Nat) (k : Nat × Nat) (r : Option AV) (w : Wo), Q r w → Wy bF G n0 s (nLo m) [] r.toList w H locs ls → k.1 ≤ (rmm m).cells → k.2 ≤ (rmm m).slots → RetAt m pc r →
    W p l e (rmm m) s mm args below meth c H locs k.1 k.2 Z (F0 mm pc ls (r.toList.map (cv G)))
def WpG (b bF : Bool) (m : MR) (pc : Nat) (L : List (Nat × AV)) (S : List AV) (k : Nat × Nat) (w : Wo) (Q : Option AV → Wo → Prop) : Prop :=
  ∀ (p : Program) (l : Launch) (e : Env) (s : State) (mm : MethodId) (args : Array Value) (below : List Frame) (meth : Method) (c : Code) (G : Gh) (n0 : Nat) (Z : State → Prop) (H : Heap) (locs : List Loc) (ls : Array Slot),
    Wx m Q p l e s mm args below meth c bF G n0 Z → Wy b G n0 s (nLo m) L S w H locs ls → W p l e (rmm m) s mm args below meth c H locs k.1 k.2 Z (F0 mm pc ls (S.map (cv G)))
abbrev Wp := WpG true true
abbrev Wc := WpG false false
theorem Inv.uI {b : Bool} {G : Gh} {w : Wo} {H H1 : Heap} (h : Inv b G w H) (hz : H1.size = H.size) (o k : Nat) (v : Int) : Inv b G (uI w o k v) H1 := by
  cases b
  · exact Eq.trans hz h
  · exact h
theorem Inv.uJ {b : Bool} {G : Gh} {w : Wo} {H H1 : Heap} (h : Inv b G w H) (hz : H1.size = H.size) (o k : Nat) (v : Int) : Inv b G (uJ w o k v) H1 := by
  cases b
  · exact Eq.trans hz h
  · exact h
section Rows
variable {b bF : Bool} {m : MR} {pc : Nat} {L L' : List (Nat × AV)} {S : List AV} {k : Nat × Nat} {w : Wo} {Q : Option AV → Wo → Prop}
theorem Wy.stk {G : Gh} {n0 : Nat} {s : State} {n : Nat} {H : Heap} {locs : List Loc} {ls : Array Slot} {S' : List AV} (Y : Wy b G n0 s n L S w H locs ls) (h : ∀ v ∈ S', okv v) : Wy b G n0 s n L S' w H locs ls := ⟨Y.1, Y.2.1, h, Y.2.2.2⟩
theorem okv_cons {v : AV} {S : List AV} (h : okv v) (hs : ∀ x ∈ S, okv x) : ∀ x ∈ v :: S, okv x := fun x hx => by
  rcases List.mem_cons.mp hx with rfl | h2
  · exact h
  · exact hs x h2
theorem okv_tl {v : AV} {S : List AV} (h : ∀ x ∈ v :: S, okv x) : ∀ x ∈ S, okv x := fun x hx => h x (List.mem_cons_of_mem _ hx)
theorem okv_hd {v : AV} {S : List AV} (h : ∀ x ∈ v :: S, okv x) : okv v := h v List.mem_cons_self
/-- what is on the stack is in its range -/
theorem wp_rng {x : Int} (h : inr32 x → WpG b bF m pc L (vi x :: S) k w Q) : WpG b bF m pc L (vi x :: S) k w Q := fun p l e s mm args below meth c G n0 Z H locs ls X Y => h (okv_hd Y.2.2.1) p l e s mm args below meth c G n0 Z H locs ls X Y
theorem wp_rngL {x : Int} (i : Nat) {j : Nat} (hj : L[i]? = some (j, vi x)) (h : inr32 x → WpG b bF m pc L S k w Q) : WpG b bF m pc L S k w Q := fun p l e s mm args below meth c G n0 Z H locs ls X Y => h (Y.2.1 _ (List.mem_of_getElem? hj)) p l e s mm args below meth c G n0 Z H locs ls X Y
theorem wp_rngJ {x : Int} (i : Nat) {j : Nat} (hj : L[i]? = some (j, vl x)) (h : inr64 x → WpG b bF m pc L S k w Q) : WpG b bF m pc L S k w Q := fun p l e s mm args below meth c G n0 Z H locs ls X Y => h (Y.2.1 _ (List.mem_of_getElem? hj)) p l e s mm args below meth c G n0 Z H locs ls X Y
theorem wp_ins (h : InS w → WpG b bF m pc L S k w Q) : WpG b bF m pc L S k w Q := fun p l e s mm args below meth c G n0 Z H locs ls X Y => h Y.2.2.2.2.1 p l e s mm args below meth c G n0 Z H locs ls X Y
theorem wp_ly (h : LY w → WpG true bF m pc L S k w Q) : WpG true bF m pc L S k w Q := fun p l e s mm args below meth c G n0 Z H locs ls X Y => h Y.2.2.2.2.2.1 p l e s mm args below meth c G n0 Z H locs ls X Y
theorem wp_seal (hl : LY w) (h : WpG true bF m pc L S k w Q) : WpG false bF m pc L S k w Q := fun p l e s mm args below meth c G n0 Z H locs ls X Y => h p l e s mm args below meth c G n0 Z H locs ls X ⟨Y.1, Y.2.1, Y.2.2.1, Y.2.2.2.1, Y.2.2.2.2.1, hl, Y.2.2.2.2.2.2⟩
def pkA (L : List (Nat × AV)) (ks : List Nat) : List (Nat × AV) := ks.filterMap (fun k => L[k]?)
theorem wp_pick (ks : List Nat) (hl : pkA L ks = L') (h : WpG b bF m pc L' S k w Q) : WpG b bF m pc L S k w Q := by
  intro p l e s mm args below meth c G n0 Z H locs ls X Y
  refine h p l e s mm args below meth c G n0 Z H locs ls X ⟨lv_sub Y.1 ks ?_, fun q hq => ?_, Y.2.2⟩
  · rw [← hl]
    unfold lv_pick pkA
    rw [List.map_filterMap]
    congr 1
    funext i
    rw [List.getElem?_map]
  · rw [← hl] at hq
    obtain ⟨i, -, hi⟩ := List.mem_filterMap.mp hq
    exact Y.2.1 q (List.mem_of_getElem? hi)
theorem wp_iconst {n : Int} (hd : decode (cd m) pc = .ok (.iconst n, 1)) (hr : inr32 n) (h : WpG b bF m (pc + 1) L (vi n :: S) k w Q) : WpG b bF m pc L S k w Q := fun p l e s mm args below meth c G n0 Z H locs ls X Y =>
  lv_iconst X.1 X.2.1 hd rfl (h p l e s mm args below meth c G n0 Z H locs ls X (Y.stk (okv_cons hr Y.2.2.1)))
theorem wp_bipush {n : Int} (hd : decode (cd m) pc = .ok (.bipush n, 2)) (hv : (Int8.ofInt n).toInt32 = Int32.ofInt n) (hr : inr32 n) (h : WpG b bF m (pc + 2) L (vi n :: S) k w Q) : WpG b bF m pc L S k w Q := fun p l e s mm args below meth c G n0 Z H locs ls X Y =>
  lv_bipush X.1 X.2.1 hd hv (h p l e s mm args below meth c G n0 Z H locs ls X (Y.stk (okv_cons hr Y.2.2.1)))
theorem wp_sipush {n : Int} (hd : decode (cd m) pc = .ok (.sipush n, 3)) (hv : (Int16.ofInt n).toInt32 = Int32.ofInt n) (hr : inr32 n) (h : WpG b bF m (pc + 3) L (vi n :: S) k w Q) : WpG b bF m pc L S k w Q := fun p l e s mm args below meth c G n0 Z H locs ls X Y =>
  lv_sipush X.1 X.2.1 hd hv (h p l e s mm args below meth c G n0 Z H locs ls X (Y.stk (okv_cons hr Y.2.2.1)))
theorem wp_lconst {n : Fin 2} (hd : decode (cd m) pc = .ok (.lconst n, 1)) {x : Int} (hv : Int64.ofNat (n : Nat) = Int64.ofInt x) (hr : inr64 x) (h : WpG b bF m (pc + 1) L (vl x :: S) k w Q) : WpG b bF m pc L S k w Q := fun p l e s mm args below meth c G n0 Z H locs ls X Y =>
  lv_lconst X.1 X.2.1 hd hv (h p l e s mm args below meth c G n0 Z H locs ls X (Y.stk (okv_cons hr Y.2.2.1)))
theorem wp_ldc {idx : Nat} (hd : decode (cd m) pc = .ok (.ldc idx, 2)) {x : Int} (hc : Jvm.Cond.constant (yy m).cls idx (Int32.ofInt x) ∈ AW) (hr : inr32 x) (h : WpG b bF m (pc + 2) L (vi x :: S) k w Q) : WpG b bF m pc L S k w Q := fun p l e s mm args below meth c G n0 Z H locs ls X Y =>
  lv_ldc X.1 X.2.1 X.2.2.2.1 (X.2.2.2.2.1 _ hc) hd (h p l e s mm args below meth c G n0 Z H locs ls X (Y.stk (okv_cons hr Y.2.2.1)))
theorem wp_ldc2 {idx : Nat} (hd : decode (cd m) pc = .ok (.ldc2_w idx, 3)) {x : Int} (hc : Jvm.Cond.constantLong (yy m).cls idx (Int64.ofInt x) ∈ AW) (hr : inr64 x) (h : WpG b bF m (pc + 3) L (vl x :: S) k w Q) : WpG b bF m pc L S k w Q := fun p l e s mm args below meth c G n0 Z H locs ls X Y =>
  lv_ldc2 X.1 X.2.1 X.2.2.2.1 (X.2.2.2.2.1 _ hc) hd (h p l e s mm args below meth c G n0 Z H locs ls X (Y.stk (okv_cons hr Y.2.2.1)))
theorem lvh_at {G : Gh} {ls : Array Slot} {n i : Nat} {v : AV} (h : lvh G ls n L) (j : Nat) (hj : L[j]? = some (i, v)) : ls[i]? = some (.val (cv G v)) := lv_at h j (by rw [List.getElem?_map, hj]; rfl)
theorem wp_iload_n {kk : Fin 4} (hd : decode (cd m) pc = .ok (.iload_n kk, 1)) {i : Nat} (hi : (kk : Nat) = i) (j : Nat) {x : Int} (hj : L[j]? = some (i, vi x)) (h : WpG b bF m (pc + 1) L (vi x :: S) k w Q) : WpG b bF m pc L S k w Q := fun p l e s mm args below meth c G n0 Z H locs ls X Y =>
  lv_iload_n X.1 X.2.1 hd hi (lvh_at Y.1 j hj) (h p l e s mm args below meth c G n0 Z H locs ls X (Y.stk (okv_cons (Y.2.1 _ (List.mem_of_getElem? hj)) Y.2.2.1)))
theorem wp_iload {i : Nat} (hd : decode (cd m) pc = .ok (.iload i, 2)) (j : Nat) {x : Int} (hj : L[j]? = some (i, vi x)) (h : WpG b bF m (pc + 2) L (vi x :: S) k w Q) : WpG b bF m pc L S k w Q := fun p l e s mm args below meth c G n0 Z H locs ls X Y =>
  lv_iload X.1 X.2.1 hd (lvh_at Y.1 j hj) (h p l e s mm args below meth c G n0 Z H locs ls X (Y.stk (okv_cons (Y.2.1 _ (List.mem_of_getElem? hj)) Y.2.2.1)))
theorem wp_lload_n {kk : Fin 4} (hd : decode (cd m) pc = .ok (.lload_n kk, 1)) {i : Nat} (hi : (kk : Nat) = i) (j : Nat) {x : Int} (hj : L[j]? = some (i, vl x)) (h : WpG b bF m (pc + 1) L (vl x :: S) k w Q) : WpG b bF m pc L S k w Q := fun p l e s mm args below meth c G n0 Z H locs ls X Y =>
  lv_lload_n X.1 X.2.1 hd hi (lvh_at Y.1 j hj) (h p l e s mm args below meth c G n0 Z H locs ls X (Y.stk (okv_cons (Y.2.1 _ (List.mem_of_getElem? hj)) Y.2.2.1)))
theorem wp_lload {i : Nat} (hd : decode (cd m) pc = .ok (.lload i, 2)) (j : Nat) {x : Int} (hj : L[j]? = some (i, vl x)) (h : WpG b bF m (pc + 2) L (vl x :: S) k w Q) : WpG b bF m pc L S k w Q := fun p l e s mm args below meth c G n0 Z H locs ls X Y =>
  lv_lload X.1 X.2.1 hd (lvh_at Y.1 j hj) (h p l e s mm args below meth c G n0 Z H locs ls X (Y.stk (okv_cons (Y.2.1 _ (List.mem_of_getElem? hj)) Y.2.2.1)))
theorem wp_aload_n {kk : Fin 4} (hd : decode (cd m) pc = .ok (.aload_n kk, 1)) {i : Nat} (hi : (kk : Nat) = i) (j : Nat) {q : Nat} (hj : L[j]? = some (i, vr q)) (h : WpG b bF m (pc + 1) L (vr q :: S) k w Q) : WpG b bF m pc L S k w Q := fun p l e s mm args below meth c G n0 Z H locs ls X Y => by
  have h1 := lvh_at Y.1 j hj
  have h2 := h p l e s mm args below meth c G n0 Z H locs ls X (Y.stk (okv_cons trivial Y.2.2.1))
  have e1 : (vr q :: S).map (cv G) = va_rf (cr G q) :: S.map (cv G) := rfl
  rw [e1] at h2
  have h1 : ls[i]? = some (.val (va_rf (cr G q))) := h1
  cases hc : cr G q with
  | none => rw [hc] at h1 h2; exact lv_aload_nN X.1 X.2.1 hd hi h1 h2
  | some a => rw [hc] at h1 h2; exact lv_aload_n X.1 X.2.1 hd hi h1 h2
theorem wp_aload {i : Nat} (hd : decode (cd m) pc = .ok (.aload i, 2)) (j : Nat) {q : Nat} (hj : L[j]? = some (i, vr q)) (h : WpG b bF m (pc + 2) L (vr q :: S) k w Q) : WpG b bF m pc L S k w Q := fun p l e s mm args below meth c G n0 Z H locs ls X Y => by
  have h1 := lvh_at Y.1 j hj
  have h2 := h p l e s mm args below meth c G n0 Z H locs ls X (Y.stk (okv_cons trivial Y.2.2.1))
  have e1 : (vr q :: S).map (cv G) = va_rf (cr G q) :: S.map (cv G) := rfl
  rw [e1] at h2
  have h1 : ls[i]? = some (.val (va_rf (cr G q))) := h1
  cases hc : cr G q with
  | none => rw [hc] at h1 h2; exact lv_aloadN X.1 X.2.1 hd h1 h2
  | some a => rw [hc] at h1 h2; exact lv_aload X.1 X.2.1 hd h1 h2
def isl : AV → Bool
  | .inr (.inl _) => true
  | _ => false
theorem cat_cv (G : Gh) (v : AV) : ((cv G v).category == 2) = isl v := by
  rcases v with x | x | q
  · rfl
  · rfl
  · show ((va_rf (cr G q)).category == 2) = false
    cases cr G q <;> rfl
def st1 (L : List (Nat × AV)) (i : Nat) (v : AV) : List (Nat × AV) := (i, v) :: L.filter (fun q => !(q.1 == i) && !(q.1 + 1 == i && isl q.2))
def st2 (L : List (Nat × AV)) (i : Nat) (v : AV) : List (Nat × AV) := (i, v) :: L.filter (fun q => !(q.1 == i) && (!(q.1 == i + 1) && !(q.1 + 1 == i && isl q.2)))
theorem st1_map (G : Gh) (L : List (Nat × AV)) (i : Nat) (v : AV) : (i, cv G v) :: (L.map (fun q => (q.1, cv G q.2))).filter (fun q => !(q.1 == i) && !(q.1 + 1 == i && q.2.category == 2)) = (st1 L i v).map (fun q => (q.1, cv G q.2)) := by
  unfold st1
  rw [List.map_cons, List.filter_map]
  congr 2
  refine List.filter_congr (fun q _ => ?_)
  show (!(q.1 == i) && !(q.1 + 1 == i && (cv G q.2).category == 2)) = _
  rw [cat_cv]
theorem st2_map (G : Gh) (L : List (Nat × AV)) (i : Nat) (v : AV) : (i, cv G v) :: (L.map (fun q => (q.1, cv G q.2))).filter (fun q => !(q.1 == i) && (!(q.1 == i + 1) && !(q.1 + 1 == i && q.2.category == 2))) = (st2 L i v).map (fun q => (q.1, cv G q.2)) := by
  unfold st2
  rw [List.map_cons, List.filter_map]
  congr 2
  refine List.filter_congr (fun q _ => ?_)
  show (!(q.1 == i) && (!(q.1 == i + 1) && !(q.1 + 1 == i && (cv G q.2).category == 2))) = _
  rw [cat_cv]
theorem Wy.sto {G : Gh} {n0 : Nat} {s : State} {n : Nat} {H : Heap} {locs : List Loc} {ls ls' : Array Slot} {v : AV} {i : Nat} (Y : Wy b G n0 s n L (v :: S) w H locs ls) (hs : ∀ q ∈ L', q = (i, v) ∨ q ∈ L) (hl : lvh G ls' n L') : Wy b G n0 s n L' S w H locs ls' :=
  ⟨hl, fun q hq => by rcases hs q hq with rfl | h
                      · exact okv_hd Y.2.2.1
                      · exact Y.2.1 q h, okv_tl Y.2.2.1, Y.2.2.2⟩
theorem st1_in {L : List (Nat × AV)} {i : Nat} {v : AV} : ∀ q ∈ st1 L i v, q = (i, v) ∨ q ∈ L := fun q hq => by
  rcases List.mem_cons.mp hq with h | h
  · exact Or.inl h
  · exact Or.inr (List.mem_filter.mp h).1
theorem st2_in {L : List (Nat × AV)} {i : Nat} {v : AV} : ∀ q ∈ st2 L i v, q = (i, v) ∨ q ∈ L := fun q hq => by
  rcases List.mem_cons.mp hq with h | h
  · exact Or.inl h
  · exact Or.inr (List.mem_filter.mp h).1
theorem wp_istore_n {kk : Fin 4} (hd : decode (cd m) pc = .ok (.istore_n kk, 1)) {i : Nat} (hi : (kk : Nat) = i) {x : Int} (hl : st1 L i (vi x) = L') (hn : i < nLo m) (h : WpG b bF m (pc + 1) L' S k w Q) : WpG b bF m pc L (vi x :: S) k w Q := fun p l e s mm args below meth c G n0 Z H locs ls X Y =>
  lv_istore_n X.1 X.2.1 hd hi Y.1 hn (st1_map G L i (vi x)) (fun ls' h' => h p l e s mm args below meth c G n0 Z H locs ls' X (hl ▸ Y.sto st1_in h'))
theorem wp_istore {i : Nat} (hd : decode (cd m) pc = .ok (.istore i, 2)) {x : Int} (hl : st1 L i (vi x) = L') (hn : i < nLo m) (h : WpG b bF m (pc + 2) L' S k w Q) : WpG b bF m pc L (vi x :: S) k w Q := fun p l e s mm args below meth c G n0 Z H locs ls X Y =>
  lv_istore X.1 X.2.1 hd Y.1 hn (st1_map G L i (vi x)) (fun ls' h' => h p l e s mm args below meth c G n0 Z H locs ls' X (hl ▸ Y.sto st1_in h'))
theorem wp_lstore_n {kk : Fin 4} (hd : decode (cd m) pc = .ok (.lstore_n kk, 1)) {i : Nat} (hi : (kk : Nat) = i) {x : Int} (hl : st2 L i (vl x) = L') (hn : i + 1 < nLo m) (h : WpG b bF m (pc + 1) L' S k w Q) : WpG b bF m pc L (vl x :: S) k w Q := fun p l e s mm args below meth c G n0 Z H locs ls X Y =>
  lv_lstore_n X.1 X.2.1 hd hi Y.1 hn (st2_map G L i (vl x)) (fun ls' h' => h p l e s mm args below meth c G n0 Z H locs ls' X (hl ▸ Y.sto st2_in h'))
theorem wp_lstore {i : Nat} (hd : decode (cd m) pc = .ok (.lstore i, 2)) {x : Int} (hl : st2 L i (vl x) = L') (hn : i + 1 < nLo m) (h : WpG b bF m (pc + 2) L' S k w Q) : WpG b bF m pc L (vl x :: S) k w Q := fun p l e s mm args below meth c G n0 Z H locs ls X Y =>
  lv_lstore X.1 X.2.1 hd Y.1 hn (st2_map G L i (vl x)) (fun ls' h' => h p l e s mm args below meth c G n0 Z H locs ls' X (hl ▸ Y.sto st2_in h'))
theorem wp_astore_n {kk : Fin 4} (hd : decode (cd m) pc = .ok (.astore_n kk, 1)) {i : Nat} (hi : (kk : Nat) = i) {q : Nat} (hl : st1 L i (vr q) = L') (hn : i < nLo m) (h : WpG b bF m (pc + 1) L' S k w Q) : WpG b bF m pc L (vr q :: S) k w Q := fun p l e s mm args below meth c G n0 Z H locs ls X Y => by
  have hm := st1_map G L i (vr q)
  show W p l e (rmm m) s mm args below meth c H locs k.1 k.2 Z (F0 mm pc ls (va_rf (cr G q) :: S.map (cv G)))
  have hm : (i, va_rf (cr G q)) :: (L.map (fun q => (q.1, cv G q.2))).filter (fun q => !(q.1 == i) && !(q.1 + 1 == i && q.2.category == 2)) = (st1 L i (vr q)).map (fun q => (q.1, cv G q.2)) := hm
  have kk2 : ∀ ls' : Array Slot, lv_has ls' (nLo m) ((st1 L i (vr q)).map (fun q => (q.1, cv G q.2))) → W p l e (rmm m) s mm args below meth c H locs k.1 k.2 Z (F0 mm (pc + 1) ls' (S.map (cv G))) := fun ls' h' => h p l e s mm args below meth c G n0 Z H locs ls' X (hl ▸ Y.sto st1_in h')
  cases hc : cr G q with
  | none => rw [hc] at hm; exact lv_astore_nN X.1 X.2.1 hd hi Y.1 hn hm kk2
  | some a => rw [hc] at hm; exact lv_astore_n X.1 X.2.1 hd hi Y.1 hn hm kk2
theorem wp_astore {i : Nat} (hd : decode (cd m) pc = .ok (.astore i, 2)) {q : Nat} (hl : st1 L i (vr q) = L') (hn : i < nLo m) (h : WpG b bF m (pc + 2) L' S k w Q) : WpG b bF m pc L (vr q :: S) k w Q := fun p l e s mm args below meth c G n0 Z H locs ls X Y => by
  have hm := st1_map G L i (vr q)
  show W p l e (rmm m) s mm args below meth c H locs k.1 k.2 Z (F0 mm pc ls (va_rf (cr G q) :: S.map (cv G)))
  have hm : (i, va_rf (cr G q)) :: (L.map (fun q => (q.1, cv G q.2))).filter (fun q => !(q.1 == i) && !(q.1 + 1 == i && q.2.category == 2)) = (st1 L i (vr q)).map (fun q => (q.1, cv G q.2)) := hm
  have kk2 : ∀ ls' : Array Slot, lv_has ls' (nLo m) ((st1 L i (vr q)).map (fun q => (q.1, cv G q.2))) → W p l e (rmm m) s mm args below meth c H locs k.1 k.2 Z (F0 mm (pc + 2) ls' (S.map (cv G))) := fun ls' h' => h p l e s mm args below meth c G n0 Z H locs ls' X (hl ▸ Y.sto st1_in h')
  cases hc : cr G q with
  | none => rw [hc] at hm; exact lv_astoreN X.1 X.2.1 hd Y.1 hn hm kk2
  | some a => rw [hc] at hm; exact lv_astore X.1 X.2.1 hd Y.1 hn hm kk2
theorem wp_iinc {i : Nat} {n : Int} (hd : decode (cd m) pc = .ok (.iinc i n, 3)) (j : Nat) {x : Int} (hj : L[j]? = some (i, vi x)) (hl : st1 L i (vi (x + n)) = L') (hn : i < nLo m) (ho : inr32 (x + n)) (h : WpG b bF m (pc + 3) L' S k w Q) : WpG b bF m pc L S k w Q := fun p l e s mm args below meth c G n0 Z H locs ls X Y =>
  lv_iinc X.1 X.2.1 hd Y.1 (by rw [List.getElem?_map, hj]; rfl) (by rw [Int32.ofInt_add]) hn (st1_map G L i (vi (x + n))) (fun ls' h' => h p l e s mm args below meth c G n0 Z H locs ls' X (hl ▸ (Y.stk (S' := vi (x + n) :: S) (okv_cons ho Y.2.2.1)).sto st1_in h'))
end Rows
end
section
section Rows
variable {b bF : Bool} {m : MR} {pc : Nat} {L L' : List (Nat × AV)} {S : List AV} {k : Nat × Nat} {w : Wo} {Q : Option AV → Wo → Prop}
def b_iand (x y : Int) : Int := (Int32.ofInt x &&& Int32.ofInt y).toInt
def b_ior (x y : Int) : Int := (Int32.ofInt x ||| Int32.ofInt y).toInt
def b_ixor (x y : Int) : Int := (Int32.ofInt x ^^^ Int32.ofInt y).toInt
def b_ishl (x y : Int) : Int := (Int32.ofInt x <<< (Int32.ofInt y &&& 31)).toInt
def b_ishr (x y : Int) : Int := (Int32.ofInt x >>> (Int32.ofInt y &&& 31)).toInt
def b_iushr (x y : Int) : Int := ((Int32.ofInt x).toUInt32 >>> ((Int32.ofInt y).toUInt32 &&& Int32.toUInt32 31)).toInt32.toInt
def b_land (x y : Int) : Int := (Int64.ofInt x &&& Int64.ofInt y).toInt
def b_lor (x y : Int) : Int := (Int64.ofInt x ||| Int64.ofInt y).toInt
def b_lshl (x y : Int) : Int := (Int64.ofInt x <<< ((Int32.ofInt y).toInt64 &&& 63)).toInt
def b_lshr (x y : Int) : Int := (Int64.ofInt x >>> ((Int32.ofInt y).toInt64 &&& 63)).toInt
def b_lushr (x y : Int) : Int := ((Int64.ofInt x).toUInt64 >>> ((Int32.ofInt y).toInt64.toUInt64 &&& Int64.toUInt64 63)).toInt64.toInt
def b_l2i (x : Int) : Int := (Int64.ofInt x).toInt32.toInt
def b_lcmp (x y : Int) : Int := if y < x then 1 else if x = y then 0 else -1
theorem r32 (x : Int32) : inr32 x.toInt := ⟨x.le_toInt, x.toInt_lt⟩
theorem r64 (x : Int64) : inr64 x.toInt := ⟨x.le_toInt, x.toInt_lt⟩
theorem i32_lt {x y : Int} (hx : inr32 x) (hy : inr32 y) : Int32.ofInt x < Int32.ofInt y ↔ x < y := by
  rw [Int32.lt_iff_toInt_lt, Int32.toInt_ofInt_of_le hx.1 hx.2, Int32.toInt_ofInt_of_le hy.1 hy.2]
theorem i32_le {x y : Int} (hx : inr32 x) (hy : inr32 y) : Int32.ofInt x ≤ Int32.ofInt y ↔ x ≤ y := by
  rw [Int32.le_iff_toInt_le, Int32.toInt_ofInt_of_le hx.1 hx.2, Int32.toInt_ofInt_of_le hy.1 hy.2]
theorem i32_eq {x y : Int} (hx : inr32 x) (hy : inr32 y) : Int32.ofInt x = Int32.ofInt y ↔ x = y := by
  rw [← Int32.toInt_inj, Int32.toInt_ofInt_of_le hx.1 hx.2, Int32.toInt_ofInt_of_le hy.1 hy.2]
theorem i64_lt {x y : Int} (hx : inr64 x) (hy : inr64 y) : Int64.ofInt x < Int64.ofInt y ↔ x < y := by
  rw [Int64.lt_iff_toInt_lt, Int64.toInt_ofInt_of_le hx.1 hx.2, Int64.toInt_ofInt_of_le hy.1 hy.2]
theorem i64_eq {x y : Int} (hx : inr64 x) (hy : inr64 y) : Int64.ofInt x = Int64.ofInt y ↔ x = y := by
  rw [← Int64.toInt_inj, Int64.toInt_ofInt_of_le hx.1 hx.2, Int64.toInt_ofInt_of_le hy.1 hy.2]
theorem i32_cl {x : Int} (h0 : 0 ≤ x) (h1 : x < 2147483648) : (Int32.ofInt x).toNatClampNeg = x.toNat := Int32.toNatClampNeg_ofInt_of_le (by omega) h1
theorem i32_in {x : Int} {n : Nat} (h0 : 0 ≤ x) (h1 : x < n) (hn : n < 2147483648) : vp_in (Int32.ofInt x) n := by
  rw [vp_in_iff, Int32.toInt_ofInt_of_le (by omega) (by omega)]
  exact ⟨h0, h1⟩
theorem wp_iadd {x y : Int} (hd : decode (cd m) pc = .ok (.iadd, 1)) (ho : inr32 (x + y)) (h : WpG b bF m (pc + 1) L (vi (x + y) :: S) k w Q) : WpG b bF m pc L (vi y :: vi x :: S) k w Q := fun p l e s mm args below meth c G n0 Z H locs ls X Y => by
  have h2 := h p l e s mm args below meth c G n0 Z H locs ls X (Y.stk (okv_cons ho (okv_tl (okv_tl Y.2.2.1))))
  refine lv_iadd X.1 X.2.1 hd ?_
  rw [← Int32.ofInt_add]
  exact h2
theorem wp_isub {x y : Int} (hd : decode (cd m) pc = .ok (.isub, 1)) (ho : inr32 (x - y)) (h : WpG b bF m (pc + 1) L (vi (x - y) :: S) k w Q) : WpG b bF m pc L (vi y :: vi x :: S) k w Q := fun p l e s mm args below meth c G n0 Z H locs ls X Y => by
  have h2 := h p l e s mm args below meth c G n0 Z H locs ls X (Y.stk (okv_cons ho (okv_tl (okv_tl Y.2.2.1))))
  refine lv_isub X.1 X.2.1 hd ?_
  rw [← Int32.ofInt_sub]
  exact h2
theorem wp_imul {x y : Int} (hd : decode (cd m) pc = .ok (.imul, 1)) (ho : inr32 (x * y)) (h : WpG b bF m (pc + 1) L (vi (x * y) :: S) k w Q) : WpG b bF m pc L (vi y :: vi x :: S) k w Q := fun p l e s mm args below meth c G n0 Z H locs ls X Y => by
  have h2 := h p l e s mm args below meth c G n0 Z H locs ls X (Y.stk (okv_cons ho (okv_tl (okv_tl Y.2.2.1))))
  refine lv_imul X.1 X.2.1 hd ?_
  rw [← Int32.ofInt_mul]
  exact h2
theorem wp_ladd {x y : Int} (hd : decode (cd m) pc = .ok (.ladd, 1)) (ho : inr64 (x + y)) (h : WpG b bF m (pc + 1) L (vl (x + y) :: S) k w Q) : WpG b bF m pc L (vl y :: vl x :: S) k w Q := fun p l e s mm args below meth c G n0 Z H locs ls X Y => by
  have h2 := h p l e s mm args below meth c G n0 Z H locs ls X (Y.stk (okv_cons ho (okv_tl (okv_tl Y.2.2.1))))
  refine lv_ladd X.1 X.2.1 hd ?_
  rw [← Int64.ofInt_add]
  exact h2
theorem wp_lsub {x y : Int} (hd : decode (cd m) pc = .ok (.lsub, 1)) (ho : inr64 (x - y)) (h : WpG b bF m (pc + 1) L (vl (x - y) :: S) k w Q) : WpG b bF m pc L (vl y :: vl x :: S) k w Q := fun p l e s mm args below meth c G n0 Z H locs ls X Y => by
  have h2 := h p l e s mm args below meth c G n0 Z H locs ls X (Y.stk (okv_cons ho (okv_tl (okv_tl Y.2.2.1))))
  refine lv_lsub X.1 X.2.1 hd ?_
  rw [← Int64.ofInt_sub]
  exact h2
theorem wp_lmul {x y : Int} (hd : decode (cd m) pc = .ok (.lmul, 1)) (ho : inr64 (x * y)) (h : WpG b bF m (pc + 1) L (vl (x * y) :: S) k w Q) : WpG b bF m pc L (vl y :: vl x :: S) k w Q := fun p l e s mm args below meth c G n0 Z H locs ls X Y => by
  have h2 := h p l e s mm args below meth c G n0 Z H locs ls X (Y.stk (okv_cons ho (okv_tl (okv_tl Y.2.2.1))))
  refine lv_lmul X.1 X.2.1 hd ?_
  rw [← Int64.ofInt_mul]
  exact h2
theorem wp_lneg {x : Int} (hd : decode (cd m) pc = .ok (.lneg, 1)) (ho : inr64 (-x)) (h : WpG b bF m (pc + 1) L (vl (-x) :: S) k w Q) : WpG b bF m pc L (vl x :: S) k w Q := fun p l e s mm args below meth c G n0 Z H locs ls X Y => by
  have h2 := h p l e s mm args below meth c G n0 Z H locs ls X (Y.stk (okv_cons ho (okv_tl Y.2.2.1)))
  refine lv_lneg X.1 X.2.1 hd ?_
  rw [← Int64.ofInt_neg]
  exact h2
theorem wp_iand {x y : Int} (hd : decode (cd m) pc = .ok (.iand, 1)) (h : WpG b bF m (pc + 1) L (vi (b_iand x y) :: S) k w Q) : WpG b bF m pc L (vi y :: vi x :: S) k w Q := fun p l e s mm args below meth c G n0 Z H locs ls X Y => by
  have h2 := h p l e s mm args below meth c G n0 Z H locs ls X (Y.stk (okv_cons (r32 _) (okv_tl (okv_tl Y.2.2.1))))
  refine lv_iand X.1 X.2.1 hd ?_
  have e1 : (vi (b_iand x y) :: S).map (cv G) = .int (Int32.ofInt (b_iand x y)) :: S.map (cv G) := rfl
  rw [e1, b_iand, Int32.ofInt_toInt] at h2
  exact h2
theorem wp_ior {x y : Int} (hd : decode (cd m) pc = .ok (.ior, 1)) (h : WpG b bF m (pc + 1) L (vi (b_ior x y) :: S) k w Q) : WpG b bF m pc L (vi y :: vi x :: S) k w Q := fun p l e s mm args below meth c G n0 Z H locs ls X Y => by
  have h2 := h p l e s mm args below meth c G n0 Z H locs ls X (Y.stk (okv_cons (r32 _) (okv_tl (okv_tl Y.2.2.1))))
  refine lv_ior X.1 X.2.1 hd ?_
  have e1 : (vi (b_ior x y) :: S).map (cv G) = .int (Int32.ofInt (b_ior x y)) :: S.map (cv G) := rfl
  rw [e1, b_ior, Int32.ofInt_toInt] at h2
  exact h2
theorem wp_ixor {x y : Int} (hd : decode (cd m) pc = .ok (.ixor, 1)) (h : WpG b bF m (pc + 1) L (vi (b_ixor x y) :: S) k w Q) : WpG b bF m pc L (vi y :: vi x :: S) k w Q := fun p l e s mm args below meth c G n0 Z H locs ls X Y => by
  have h2 := h p l e s mm args below meth c G n0 Z H locs ls X (Y.stk (okv_cons (r32 _) (okv_tl (okv_tl Y.2.2.1))))
  refine lv_ixor X.1 X.2.1 hd ?_
  have e1 : (vi (b_ixor x y) :: S).map (cv G) = .int (Int32.ofInt (b_ixor x y)) :: S.map (cv G) := rfl
  rw [e1, b_ixor, Int32.ofInt_toInt] at h2
  exact h2
theorem wp_ishl {x y : Int} (hd : decode (cd m) pc = .ok (.ishl, 1)) (h : WpG b bF m (pc + 1) L (vi (b_ishl x y) :: S) k w Q) : WpG b bF m pc L (vi y :: vi x :: S) k w Q := fun p l e s mm args below meth c G n0 Z H locs ls X Y => by
  have h2 := h p l e s mm args below meth c G n0 Z H locs ls X (Y.stk (okv_cons (r32 _) (okv_tl (okv_tl Y.2.2.1))))
  refine lv_ishl X.1 X.2.1 hd ?_
  have e1 : (vi (b_ishl x y) :: S).map (cv G) = .int (Int32.ofInt (b_ishl x y)) :: S.map (cv G) := rfl
  rw [e1, b_ishl, Int32.ofInt_toInt] at h2
  exact h2
theorem wp_ishr {x y : Int} (hd : decode (cd m) pc = .ok (.ishr, 1)) (h : WpG b bF m (pc + 1) L (vi (b_ishr x y) :: S) k w Q) : WpG b bF m pc L (vi y :: vi x :: S) k w Q := fun p l e s mm args below meth c G n0 Z H locs ls X Y => by
  have h2 := h p l e s mm args below meth c G n0 Z H locs ls X (Y.stk (okv_cons (r32 _) (okv_tl (okv_tl Y.2.2.1))))
  refine lv_ishr X.1 X.2.1 hd ?_
  have e1 : (vi (b_ishr x y) :: S).map (cv G) = .int (Int32.ofInt (b_ishr x y)) :: S.map (cv G) := rfl
  rw [e1, b_ishr, Int32.ofInt_toInt] at h2
  exact h2
theorem wp_iushr {x y : Int} (hd : decode (cd m) pc = .ok (.iushr, 1)) (h : WpG b bF m (pc + 1) L (vi (b_iushr x y) :: S) k w Q) : WpG b bF m pc L (vi y :: vi x :: S) k w Q := fun p l e s mm args below meth c G n0 Z H locs ls X Y => by
  have h2 := h p l e s mm args below meth c G n0 Z H locs ls X (Y.stk (okv_cons (r32 _) (okv_tl (okv_tl Y.2.2.1))))
  refine lv_iushr X.1 X.2.1 hd rfl ?_
  have e1 : (vi (b_iushr x y) :: S).map (cv G) = .int (Int32.ofInt (b_iushr x y)) :: S.map (cv G) := rfl
  rw [e1, b_iushr, Int32.ofInt_toInt] at h2
  exact h2
theorem wp_land {x y : Int} (hd : decode (cd m) pc = .ok (.land, 1)) (h : WpG b bF m (pc + 1) L (vl (b_land x y) :: S) k w Q) : WpG b bF m pc L (vl y :: vl x :: S) k w Q := fun p l e s mm args below meth c G n0 Z H locs ls X Y => by
  have h2 := h p l e s mm args below meth c G n0 Z H locs ls X (Y.stk (okv_cons (r64 _) (okv_tl (okv_tl Y.2.2.1))))
  refine lv_land X.1 X.2.1 hd ?_
  have e1 : (vl (b_land x y) :: S).map (cv G) = .long (Int64.ofInt (b_land x y)) :: S.map (cv G) := rfl
  rw [e1, b_land, Int64.ofInt_toInt] at h2
  exact h2
theorem wp_lor {x y : Int} (hd : decode (cd m) pc = .ok (.lor, 1)) (h : WpG b bF m (pc + 1) L (vl (b_lor x y) :: S) k w Q) : WpG b bF m pc L (vl y :: vl x :: S) k w Q := fun p l e s mm args below meth c G n0 Z H locs ls X Y => by
  have h2 := h p l e s mm args below meth c G n0 Z H locs ls X (Y.stk (okv_cons (r64 _) (okv_tl (okv_tl Y.2.2.1))))
  refine lv_lor X.1 X.2.1 hd ?_
  have e1 : (vl (b_lor x y) :: S).map (cv G) = .long (Int64.ofInt (b_lor x y)) :: S.map (cv G) := rfl
  rw [e1, b_lor, Int64.ofInt_toInt] at h2
  exact h2
theorem wp_lshl {x y : Int} (hd : decode (cd m) pc = .ok (.lshl, 1)) (h : WpG b bF m (pc + 1) L (vl (b_lshl x y) :: S) k w Q) : WpG b bF m pc L (vi y :: vl x :: S) k w Q := fun p l e s mm args below meth c G n0 Z H locs ls X Y => by
  have h2 := h p l e s mm args below meth c G n0 Z H locs ls X (Y.stk (okv_cons (r64 _) (okv_tl (okv_tl Y.2.2.1))))
  refine lv_lshl X.1 X.2.1 hd rfl ?_
  have e1 : (vl (b_lshl x y) :: S).map (cv G) = .long (Int64.ofInt (b_lshl x y)) :: S.map (cv G) := rfl
  rw [e1, b_lshl, Int64.ofInt_toInt] at h2
  exact h2
theorem wp_lshr {x y : Int} (hd : decode (cd m) pc = .ok (.lshr, 1)) (h : WpG b bF m (pc + 1) L (vl (b_lshr x y) :: S) k w Q) : WpG b bF m pc L (vi y :: vl x :: S) k w Q := fun p l e s mm args below meth c G n0 Z H locs ls X Y => by
  have h2 := h p l e s mm args below meth c G n0 Z H locs ls X (Y.stk (okv_cons (r64 _) (okv_tl (okv_tl Y.2.2.1))))
  refine lv_lshr X.1 X.2.1 hd rfl ?_
  have e1 : (vl (b_lshr x y) :: S).map (cv G) = .long (Int64.ofInt (b_lshr x y)) :: S.map (cv G) := rfl
  rw [e1, b_lshr, Int64.ofInt_toInt] at h2
  exact h2
theorem wp_lushr {x y : Int} (hd : decode (cd m) pc = .ok (.lushr, 1)) (h : WpG b bF m (pc + 1) L (vl (b_lushr x y) :: S) k w Q) : WpG b bF m pc L (vi y :: vl x :: S) k w Q := fun p l e s mm args below meth c G n0 Z H locs ls X Y => by
  have h2 := h p l e s mm args below meth c G n0 Z H locs ls X (Y.stk (okv_cons (r64 _) (okv_tl (okv_tl Y.2.2.1))))
  refine lv_lushr X.1 X.2.1 hd rfl ?_
  have e1 : (vl (b_lushr x y) :: S).map (cv G) = .long (Int64.ofInt (b_lushr x y)) :: S.map (cv G) := rfl
  rw [e1, b_lushr, Int64.ofInt_toInt] at h2
  exact h2
theorem wp_l2i {x : Int} (hd : decode (cd m) pc = .ok (.l2i, 1)) (h : WpG b bF m (pc + 1) L (vi (b_l2i x) :: S) k w Q) : WpG b bF m pc L (vl x :: S) k w Q := fun p l e s mm args below meth c G n0 Z H locs ls X Y => by
  have h2 := h p l e s mm args below meth c G n0 Z H locs ls X (Y.stk (okv_cons (r32 _) (okv_tl Y.2.2.1)))
  refine lv_l2i X.1 X.2.1 hd rfl ?_
  have e1 : (vi (b_l2i x) :: S).map (cv G) = .int (Int32.ofInt (b_l2i x)) :: S.map (cv G) := rfl
  rw [e1, b_l2i, Int32.ofInt_toInt] at h2
  exact h2
theorem wp_i2l {x : Int} (hd : decode (cd m) pc = .ok (.i2l, 1)) (h : WpG b bF m (pc + 1) L (vl x :: S) k w Q) : WpG b bF m pc L (vi x :: S) k w Q := fun p l e s mm args below meth c G n0 Z H locs ls X Y => by
  have hr : inr32 x := okv_hd Y.2.2.1
  have h2 := h p l e s mm args below meth c G n0 Z H locs ls X (Y.stk (okv_cons (show inr64 x from ⟨by omega, by omega⟩) (okv_tl Y.2.2.1)))
  refine lv_i2l X.1 X.2.1 hd ?_ h2
  rw [← Int64.toInt_inj, Int32.toInt_toInt64, Int32.toInt_ofInt_of_le hr.1 hr.2, Int64.toInt_ofInt_of_le (by omega) (by omega)]
theorem wp_i2b {x : Int} (hd : decode (cd m) pc = .ok (.i2b, 1)) (ho : -128 ≤ x ∧ x < 128) (h : WpG b bF m (pc + 1) L (vi x :: S) k w Q) : WpG b bF m pc L (vi x :: S) k w Q := fun p l e s mm args below meth c G n0 Z H locs ls X Y => by
  have h2 := h p l e s mm args below meth c G n0 Z H locs ls X Y
  refine lv_i2b X.1 X.2.1 hd ?_ h2
  rw [← Int32.toInt_inj, Int8.toInt_toInt32, Int32.toInt_toInt8, Int32.toInt_ofInt_of_le (by omega) (by omega)]
  exact Int.bmod_eq_of_le (by omega) (by omega)
theorem wp_lcmp {x y : Int} (hd : decode (cd m) pc = .ok (.lcmp, 1)) (h : WpG b bF m (pc + 1) L (vi (b_lcmp x y) :: S) k w Q) : WpG b bF m pc L (vl y :: vl x :: S) k w Q := fun p l e s mm args below meth c G n0 Z H locs ls X Y => by
  have hy : inr64 y := okv_hd Y.2.2.1
  have hx : inr64 x := okv_hd (okv_tl Y.2.2.1)
  have hr : inr32 (b_lcmp x y) := by
    unfold b_lcmp
    split
    · decide
    · split <;> decide
  have h2 := h p l e s mm args below meth c G n0 Z H locs ls X (Y.stk (okv_cons hr (okv_tl (okv_tl Y.2.2.1))))
  refine W.lcmp X.1 X.2.1 hd ?_
  have e1 : lg_cmp (Int64.ofInt x) (Int64.ofInt y) = Int32.ofInt (b_lcmp x y) := by
    unfold lg_cmp b_lcmp
    by_cases a : y < x
    · rw [if_pos a, if_pos ((i64_lt hy hx).mpr a)]; rfl
    · rw [if_neg a, if_neg (fun z => a ((i64_lt hy hx).mp z))]
      by_cases c : x = y
      · rw [if_pos c, if_pos ((i64_eq hx hy).mpr c)]; rfl
      · rw [if_neg c, if_neg (fun z => c ((i64_eq hx hy).mp z))]; rfl
  rw [e1]
  exact h2
theorem cat1 {v : AV} (G : Gh) (h : isl v = false) : (cv G v).category = 1 := by
  have h1 := cat_cv G v
  rw [h] at h1
  rcases lv_cat (cv G v) with h2 | h2
  · exact h2
  · rw [h2] at h1; cases h1
theorem wp_dup {v : AV} (hd : decode (cd m) pc = .ok (.dup, 1)) (hv : isl v = false := by rfl) (h : WpG b bF m (pc + 1) L (v :: v :: S) k w Q) : WpG b bF m pc L (v :: S) k w Q := fun p l e s mm args below meth c G n0 Z H locs ls X Y =>
  lv_dup X.1 X.2.1 hd (cat1 G hv) (h p l e s mm args below meth c G n0 Z H locs ls X (Y.stk (okv_cons (okv_hd Y.2.2.1) Y.2.2.1)))
theorem wp_pop {v : AV} (hd : decode (cd m) pc = .ok (.pop, 1)) (hv : isl v = false := by rfl) (h : WpG b bF m (pc + 1) L S k w Q) : WpG b bF m pc L (v :: S) k w Q := fun p l e s mm args below meth c G n0 Z H locs ls X Y =>
  lv_pop X.1 X.2.1 hd (cat1 G hv) (h p l e s mm args below meth c G n0 Z H locs ls X (Y.stk (okv_tl Y.2.2.1)))
theorem wp_dup2 {u v : AV} (hd : decode (cd m) pc = .ok (.dup2, 1)) (hu : isl u = false := by rfl) (hv : isl v = false := by rfl) (h : WpG b bF m (pc + 1) L (u :: v :: u :: v :: S) k w Q) : WpG b bF m pc L (u :: v :: S) k w Q := fun p l e s mm args below meth c G n0 Z H locs ls X Y =>
  lv_dup2_11 X.1 X.2.1 hd (cat1 G hu) (cat1 G hv) (h p l e s mm args below meth c G n0 Z H locs ls X (Y.stk (okv_cons (okv_hd Y.2.2.1) (okv_cons (okv_hd (okv_tl Y.2.2.1)) Y.2.2.1))))
theorem wp_goto {off : Int} {tgt : Nat} (hd : decode (cd m) pc = .ok (.goto off, 3)) (ht : (pc : Int) + off = (tgt : Int)) (h : WpG b bF m tgt L S k w Q) : WpG b bF m pc L S k w Q := fun p l e s mm args below meth c G n0 Z H locs ls X Y =>
  lv_goto X.1 X.2.1 hd ht (h p l e s mm args below meth c G n0 Z H locs ls X Y)
theorem wp_if_eq {x : Int} {off : Int} {tgt : Nat} (hd : decode (cd m) pc = .ok (.ifCond .eq off, 3)) (ht : (pc : Int) + off = (tgt : Int)) (kt : x = 0 → WpG b bF m tgt L S k w Q) (kf : ¬ x = 0 → WpG b bF m (pc + 3) L S k w Q) : WpG b bF m pc L (vi x :: S) k w Q := fun p l e s mm args below meth c G n0 Z H locs ls X Y => by
  have hy : inr32 0 := by decide
  have hx : inr32 x := okv_hd Y.2.2.1
  exact lv_if_eq X.1 X.2.1 hd ht (fun z => kt ((i32_eq hx hy).mp z) p l e s mm args below meth c G n0 Z H locs ls X (Y.stk (okv_tl Y.2.2.1))) (fun z => kf (fun q => z ((i32_eq hx hy).mpr q)) p l e s mm args below meth c G n0 Z H locs ls X (Y.stk (okv_tl Y.2.2.1)))
theorem wp_icmp_eq {x y : Int} {off : Int} {tgt : Nat} (hd : decode (cd m) pc = .ok (.if_icmp .eq off, 3)) (ht : (pc : Int) + off = (tgt : Int)) (kt : x = y → WpG b bF m tgt L S k w Q) (kf : ¬ x = y → WpG b bF m (pc + 3) L S k w Q) : WpG b bF m pc L (vi y :: vi x :: S) k w Q := fun p l e s mm args below meth c G n0 Z H locs ls X Y => by
  have hy : inr32 y := okv_hd Y.2.2.1
  have hx : inr32 x := okv_hd (okv_tl Y.2.2.1)
  exact lv_icmp_eq X.1 X.2.1 hd ht (fun z => kt ((i32_eq hx hy).mp z) p l e s mm args below meth c G n0 Z H locs ls X (Y.stk (okv_tl (okv_tl Y.2.2.1)))) (fun z => kf (fun q => z ((i32_eq hx hy).mpr q)) p l e s mm args below meth c G n0 Z H locs ls X (Y.stk (okv_tl (okv_tl Y.2.2.1))))
theorem wp_if_ne {x : Int} {off : Int} {tgt : Nat} (hd : decode (cd m) pc = .ok (.ifCond .ne off, 3)) (ht : (pc : Int) + off = (tgt : Int)) (kt : ¬ x = 0 → WpG b bF m tgt L S k w Q) (kf : x = 0 → WpG b bF m (pc + 3) L S k w Q) : WpG b bF m pc L (vi x :: S) k w Q := fun p l e s mm args below meth c G n0 Z H locs ls X Y => by
  have hy : inr32 0 := by decide
  have hx : inr32 x := okv_hd Y.2.2.1
  exact lv_if_ne X.1 X.2.1 hd ht (fun z => kt (fun q => z ((i32_eq hx hy).mpr q)) p l e s mm args below meth c G n0 Z H locs ls X (Y.stk (okv_tl Y.2.2.1))) (fun z => kf ((i32_eq hx hy).mp z) p l e s mm args below meth c G n0 Z H locs ls X (Y.stk (okv_tl Y.2.2.1)))
theorem wp_icmp_ne {x y : Int} {off : Int} {tgt : Nat} (hd : decode (cd m) pc = .ok (.if_icmp .ne off, 3)) (ht : (pc : Int) + off = (tgt : Int)) (kt : ¬ x = y → WpG b bF m tgt L S k w Q) (kf : x = y → WpG b bF m (pc + 3) L S k w Q) : WpG b bF m pc L (vi y :: vi x :: S) k w Q := fun p l e s mm args below meth c G n0 Z H locs ls X Y => by
  have hy : inr32 y := okv_hd Y.2.2.1
  have hx : inr32 x := okv_hd (okv_tl Y.2.2.1)
  exact lv_icmp_ne X.1 X.2.1 hd ht (fun z => kt (fun q => z ((i32_eq hx hy).mpr q)) p l e s mm args below meth c G n0 Z H locs ls X (Y.stk (okv_tl (okv_tl Y.2.2.1)))) (fun z => kf ((i32_eq hx hy).mp z) p l e s mm args below meth c G n0 Z H locs ls X (Y.stk (okv_tl (okv_tl Y.2.2.1))))
theorem wp_if_lt {x : Int} {off : Int} {tgt : Nat} (hd : decode (cd m) pc = .ok (.ifCond .lt off, 3)) (ht : (pc : Int) + off = (tgt : Int)) (kt : x < 0 → WpG b bF m tgt L S k w Q) (kf : ¬ x < 0 → WpG b bF m (pc + 3) L S k w Q) : WpG b bF m pc L (vi x :: S) k w Q := fun p l e s mm args below meth c G n0 Z H locs ls X Y => by
  have hy : inr32 0 := by decide
  have hx : inr32 x := okv_hd Y.2.2.1
  exact lv_if_lt X.1 X.2.1 hd ht (fun z => kt ((i32_lt hx hy).mp z) p l e s mm args below meth c G n0 Z H locs ls X (Y.stk (okv_tl Y.2.2.1))) (fun z => kf (fun q => z ((i32_lt hx hy).mpr q)) p l e s mm args below meth c G n0 Z H locs ls X (Y.stk (okv_tl Y.2.2.1)))
theorem wp_icmp_lt {x y : Int} {off : Int} {tgt : Nat} (hd : decode (cd m) pc = .ok (.if_icmp .lt off, 3)) (ht : (pc : Int) + off = (tgt : Int)) (kt : x < y → WpG b bF m tgt L S k w Q) (kf : ¬ x < y → WpG b bF m (pc + 3) L S k w Q) : WpG b bF m pc L (vi y :: vi x :: S) k w Q := fun p l e s mm args below meth c G n0 Z H locs ls X Y => by
  have hy : inr32 y := okv_hd Y.2.2.1
  have hx : inr32 x := okv_hd (okv_tl Y.2.2.1)
  exact lv_icmp_lt X.1 X.2.1 hd ht (fun z => kt ((i32_lt hx hy).mp z) p l e s mm args below meth c G n0 Z H locs ls X (Y.stk (okv_tl (okv_tl Y.2.2.1)))) (fun z => kf (fun q => z ((i32_lt hx hy).mpr q)) p l e s mm args below meth c G n0 Z H locs ls X (Y.stk (okv_tl (okv_tl Y.2.2.1))))
theorem wp_if_ge {x : Int} {off : Int} {tgt : Nat} (hd : decode (cd m) pc = .ok (.ifCond .ge off, 3)) (ht : (pc : Int) + off = (tgt : Int)) (kt : 0 ≤ x → WpG b bF m tgt L S k w Q) (kf : ¬ 0 ≤ x → WpG b bF m (pc + 3) L S k w Q) : WpG b bF m pc L (vi x :: S) k w Q := fun p l e s mm args below meth c G n0 Z H locs ls X Y => by
  have hy : inr32 0 := by decide
  have hx : inr32 x := okv_hd Y.2.2.1
  exact lv_if_ge X.1 X.2.1 hd ht (fun z => kt ((i32_le hy hx).mp z) p l e s mm args below meth c G n0 Z H locs ls X (Y.stk (okv_tl Y.2.2.1))) (fun z => kf (fun q => z ((i32_le hy hx).mpr q)) p l e s mm args below meth c G n0 Z H locs ls X (Y.stk (okv_tl Y.2.2.1)))
theorem wp_icmp_ge {x y : Int} {off : Int} {tgt : Nat} (hd : decode (cd m) pc = .ok (.if_icmp .ge off, 3)) (ht : (pc : Int) + off = (tgt : Int)) (kt : y ≤ x → WpG b bF m tgt L S k w Q) (kf : ¬ y ≤ x → WpG b bF m (pc + 3) L S k w Q) : WpG b bF m pc L (vi y :: vi x :: S) k w Q := fun p l e s mm args below meth c G n0 Z H locs ls X Y => by
  have hy : inr32 y := okv_hd Y.2.2.1
  have hx : inr32 x := okv_hd (okv_tl Y.2.2.1)
  exact lv_icmp_ge X.1 X.2.1 hd ht (fun z => kt ((i32_le hy hx).mp z) p l e s mm args below meth c G n0 Z H locs ls X (Y.stk (okv_tl (okv_tl Y.2.2.1)))) (fun z => kf (fun q => z ((i32_le hy hx).mpr q)) p l e s mm args below meth c G n0 Z H locs ls X (Y.stk (okv_tl (okv_tl Y.2.2.1))))
theorem wp_if_gt {x : Int} {off : Int} {tgt : Nat} (hd : decode (cd m) pc = .ok (.ifCond .gt off, 3)) (ht : (pc : Int) + off = (tgt : Int)) (kt : 0 < x → WpG b bF m tgt L S k w Q) (kf : ¬ 0 < x → WpG b bF m (pc + 3) L S k w Q) : WpG b bF m pc L (vi x :: S) k w Q := fun p l e s mm args below meth c G n0 Z H locs ls X Y => by
  have hy : inr32 0 := by decide
  have hx : inr32 x := okv_hd Y.2.2.1
  exact lv_if_gt X.1 X.2.1 hd ht (fun z => kt ((i32_lt hy hx).mp z) p l e s mm args below meth c G n0 Z H locs ls X (Y.stk (okv_tl Y.2.2.1))) (fun z => kf (fun q => z ((i32_lt hy hx).mpr q)) p l e s mm args below meth c G n0 Z H locs ls X (Y.stk (okv_tl Y.2.2.1)))
theorem wp_icmp_gt {x y : Int} {off : Int} {tgt : Nat} (hd : decode (cd m) pc = .ok (.if_icmp .gt off, 3)) (ht : (pc : Int) + off = (tgt : Int)) (kt : y < x → WpG b bF m tgt L S k w Q) (kf : ¬ y < x → WpG b bF m (pc + 3) L S k w Q) : WpG b bF m pc L (vi y :: vi x :: S) k w Q := fun p l e s mm args below meth c G n0 Z H locs ls X Y => by
  have hy : inr32 y := okv_hd Y.2.2.1
  have hx : inr32 x := okv_hd (okv_tl Y.2.2.1)
  exact lv_icmp_gt X.1 X.2.1 hd ht (fun z => kt ((i32_lt hy hx).mp z) p l e s mm args below meth c G n0 Z H locs ls X (Y.stk (okv_tl (okv_tl Y.2.2.1)))) (fun z => kf (fun q => z ((i32_lt hy hx).mpr q)) p l e s mm args below meth c G n0 Z H locs ls X (Y.stk (okv_tl (okv_tl Y.2.2.1))))
theorem wp_if_le {x : Int} {off : Int} {tgt : Nat} (hd : decode (cd m) pc = .ok (.ifCond .le off, 3)) (ht : (pc : Int) + off = (tgt : Int)) (kt : x ≤ 0 → WpG b bF m tgt L S k w Q) (kf : ¬ x ≤ 0 → WpG b bF m (pc + 3) L S k w Q) : WpG b bF m pc L (vi x :: S) k w Q := fun p l e s mm args below meth c G n0 Z H locs ls X Y => by
  have hy : inr32 0 := by decide
  have hx : inr32 x := okv_hd Y.2.2.1
  exact lv_if_le X.1 X.2.1 hd ht (fun z => kt ((i32_le hx hy).mp z) p l e s mm args below meth c G n0 Z H locs ls X (Y.stk (okv_tl Y.2.2.1))) (fun z => kf (fun q => z ((i32_le hx hy).mpr q)) p l e s mm args below meth c G n0 Z H locs ls X (Y.stk (okv_tl Y.2.2.1)))
theorem wp_icmp_le {x y : Int} {off : Int} {tgt : Nat} (hd : decode (cd m) pc = .ok (.if_icmp .le off, 3)) (ht : (pc : Int) + off = (tgt : Int)) (kt : x ≤ y → WpG b bF m tgt L S k w Q) (kf : ¬ x ≤ y → WpG b bF m (pc + 3) L S k w Q) : WpG b bF m pc L (vi y :: vi x :: S) k w Q := fun p l e s mm args below meth c G n0 Z H locs ls X Y => by
  have hy : inr32 y := okv_hd Y.2.2.1
  have hx : inr32 x := okv_hd (okv_tl Y.2.2.1)
  exact lv_icmp_le X.1 X.2.1 hd ht (fun z => kt ((i32_le hx hy).mp z) p l e s mm args below meth c G n0 Z H locs ls X (Y.stk (okv_tl (okv_tl Y.2.2.1)))) (fun z => kf (fun q => z ((i32_le hx hy).mpr q)) p l e s mm args below meth c G n0 Z H locs ls X (Y.stk (okv_tl (okv_tl Y.2.2.1))))
def swT (dflt lo hi : Int) (offs : Array Int) (x : Int) : Int := if x < lo ∨ hi < x then dflt else offs.getD (x - lo).toNat dflt
theorem swT_lo {dflt lo hi x : Int} {offs : Array Int} (h : x < lo) : swT dflt lo hi offs x = dflt := if_pos (Or.inl h)
theorem swT_hi {dflt lo hi x : Int} {offs : Array Int} (h : hi < x) : swT dflt lo hi offs x = dflt := if_pos (Or.inr h)
theorem wp_tsw {dflt lo hi : Int} {offs : Array Int} {len : Nat} (hd : decode (cd m) pc = .ok (.tableswitch dflt lo hi offs, len)) (hsz : (offs.size : Int) = hi - lo + 1) {x : Int} (tgt : Nat) (ho : (pc : Int) + swT dflt lo hi offs x = (tgt : Int)) (h : WpG b bF m tgt L S k w Q) : WpG b bF m pc L (vi x :: S) k w Q := fun p l e s mm args below meth c G n0 Z H locs ls X Y => by
  have hx : inr32 x := okv_hd Y.2.2.1
  have ex : (Int32.ofInt x).toInt = x := Int32.toInt_ofInt_of_le hx.1 hx.2
  have h2 := h p l e s mm args below meth c G n0 Z H locs ls X (Y.stk (okv_tl Y.2.2.1))
  unfold swT at ho
  by_cases a : x < lo ∨ hi < x
  · rw [if_pos a] at ho
    exact lv_tableOut X.1 X.2.1 hd (by rw [ex]; exact a) ho h2
  · rw [if_neg a] at ho
    have hlt : (x - lo).toNat < offs.size := by omega
    have e1 : offs.getD (x - lo).toNat dflt = offs[(x - lo).toNat] := by simp [Array.getD, hlt]
    rw [e1] at ho
    exact lv_tableIn X.1 X.2.1 hd (by rw [ex]; omega) (by rw [ex]; omega) (by rw [ex]; exact Array.getElem?_eq_getElem hlt) ho h2
theorem wp_lsw {dflt : Int} {ps : Array (Int × Int)} {len : Nat} (hd : decode (cd m) pc = .ok (.lookupswitch dflt ps, len)) (hp : (ps.toList.zip (ps.toList.drop 1)).all (fun (a, next) => a.1 < next.1) = true) {x : Int} (tgt : Nat) (ho : (pc : Int) + Op.lookupswitch.offset ps.toList dflt x = (tgt : Int)) (h : WpG b bF m tgt L S k w Q) : WpG b bF m pc L (vi x :: S) k w Q := fun p l e s mm args below meth c G n0 Z H locs ls X Y => by
  have hx : inr32 x := okv_hd Y.2.2.1
  have ex : (Int32.ofInt x).toInt = x := Int32.toInt_ofInt_of_le hx.1 hx.2
  exact lv_lookup X.1 X.2.1 hd hp (by rw [ex]) ho (h p l e s mm args below meth c G n0 Z H locs ls X (Y.stk (okv_tl Y.2.2.1)))
theorem wp_vret (hd : decode (cd m) pc = .ok (.return_, 1)) (hr : rtt m = none) (hk : k.1 ≤ (rmm m).cells ∧ k.2 ≤ (rmm m).slots := by decide) (h : Q none w) : WpG bF bF m pc L [] k w Q := fun p l e s mm args below meth c G n0 Z H locs ls X Y =>
  X.2.2.2.2.2.2.2 H locs ls pc k none w h ⟨lv_sub Y.1 [] rfl, fun q hq => (by cases hq), fun v hv => (by cases hv), Y.2.2.2⟩ hk.1 hk.2 ⟨hd, hr⟩
theorem wp_iret {x : Int} (hd : decode (cd m) pc = .ok (.ireturn, 1)) (hr : rtt m = some .int) (hk : k.1 ≤ (rmm m).cells ∧ k.2 ≤ (rmm m).slots := by decide) (h : Q (some (vi x)) w) : WpG bF bF m pc L [vi x] k w Q := fun p l e s mm args below meth c G n0 Z H locs ls X Y =>
  X.2.2.2.2.2.2.2 H locs ls pc k (some (vi x)) w h ⟨lv_sub Y.1 [] rfl, fun q hq => (by cases hq), Y.2.2⟩ hk.1 hk.2 ⟨hd, Or.inl hr⟩
theorem wp_zret {x : Int} (hd : decode (cd m) pc = .ok (.ireturn, 1)) (hr : rtt m = some .boolean) (hk : k.1 ≤ (rmm m).cells ∧ k.2 ≤ (rmm m).slots := by decide) (hx : x = 0 ∨ x = 1) (h : Q (some (vi x)) w) : WpG bF bF m pc L [vi x] k w Q := fun p l e s mm args below meth c G n0 Z H locs ls X Y =>
  X.2.2.2.2.2.2.2 H locs ls pc k (some (vi x)) w h ⟨lv_sub Y.1 [] rfl, fun q hq => (by cases hq), Y.2.2⟩ hk.1 hk.2 ⟨hd, Or.inr ⟨hr, hx⟩⟩
theorem wp_lret {x : Int} (hd : decode (cd m) pc = .ok (.lreturn, 1)) (hr : rtt m = some .long) (hk : k.1 ≤ (rmm m).cells ∧ k.2 ≤ (rmm m).slots := by decide) (h : Q (some (vl x)) w) : WpG bF bF m pc L [vl x] k w Q := fun p l e s mm args below meth c G n0 Z H locs ls X Y =>
  X.2.2.2.2.2.2.2 H locs ls pc k (some (vl x)) w h ⟨lv_sub Y.1 [] rfl, fun q hq => (by cases hq), Y.2.2⟩ hk.1 hk.2 ⟨hd, hr⟩
end Rows
end
section
section Rows
variable {b bF : Bool} {m : MR} {pc : Nat} {L L' : List (Nat × AV)} {S : List AV} {k : Nat × Nat} {w : Wo} {Q : Option AV → Wo → Prop}
/-- class ci as the tables have it -/
def ClP (ci : Nat) : Prop := ∃ (C : String) (T : u_T), clT[ci]? = some (C, T, nf ci) ∧ (∀ w ∈ u_ws C T (nf ci), w ∈ AW) ∧ (∀ k, k < nf ci → parseFieldDescriptor (T k).2.2.1 = some (tyF ci k)) ∧ ∀ a, a < nf ci → ∀ b, b < nf ci → a ≠ b → (T a).2.1 ≠ (T b).2.1
/-- the pool entry idx of class own is field j of class ci (final or not) -/
def FLP (own : String) (idx ci j : Nat) (fin : Bool) : Prop := ∃ (C : String) (T : u_T), clT[ci]? = some (C, T, nf ci) ∧ j < nf ci ∧ Cond.fieldLink own idx (T j).1 (T j).2.1 (T j).2.2.1 ∈ AW ∧ (T j).2.2.2 = fin ∧ (T j).1 = C
theorem cE_obj {G : Gh} {w : Wo} {q ci : Nat} (h : oq w q (0, ci)) : (wL G w)[q - 1]? = some (gB G + q, .inr (ci, fsL G w q (fty ci) (nf ci))) := by
  rw [wL_get h.1 h.2.1]
  unfold cE
  rw [h.2.2]
  rfl
theorem cE_int {G : Gh} {w : Wo} {a t : Nat} (h0 : 0 < a) (h1 : a ≤ wn w) (ht : (wsh w a).1 = t) (h2 : t = 1 ∨ t = 3 ∨ t = 4) : (wL G w)[a - 1]? = some (gB G + a, .inl (gC G t, (wsh w a).2, .inl (fun j => Int32.ofInt (gI w a j)))) := by
  rw [wL_get h0 h1]
  unfold cE
  rw [ht]
  rcases h2 with rfl | rfl | rfl <;> rfl
theorem cE_long {G : Gh} {w : Wo} {a : Nat} (h0 : 0 < a) (h1 : a ≤ wn w) (ht : (wsh w a).1 = 2) : (wL G w)[a - 1]? = some (gB G + a, .inl (gC G 2, (wsh w a).2, .inr (.inl (fun j => Int64.ofInt (gJ w a j))))) := by
  rw [wL_get h0 h1]
  unfold cE
  rw [ht]
  rfl
theorem cE_refs {G : Gh} {w : Wo} {a : Nat} (h0 : 0 < a) (h1 : a ≤ wn w) (ht : (wsh w a).1 = 5) : (wL G w)[a - 1]? = some (gB G + a, .inl (gC G 5, (wsh w a).2, .inr (.inr (.inr (.inr (fun j => cr G (gP w a j))))))) := by
  rw [wL_get h0 h1]
  unfold cE
  rw [ht]
  rfl
theorem mp_ref {G : Gh} {q : Nat} {S : List AV} (h : 0 < q) (h2 : q ≤ 1000) : (vr q :: S).map (cv G) = .ref (gB G + q) :: S.map (cv G) := by
  rw [List.map_cons, cv_ref h h2]
theorem wp_getG {idx ci j q : Nat} {fin : Bool} {v : AV} (hd : decode (cd m) pc = .ok (.getfield idx, 3)) (hf : FLP (yy m).cls idx ci j fin) (hc : ClP ci) (hq : oq w q (0, ci)) (hv : ∀ G : Gh, fv G w q j (fty ci j) = cv G v) (ho : InS w → okv v) (h : WpG b bF m (pc + 3) L (v :: S) k w Q) : WpG b bF m pc L (vr q :: S) k w Q := fun p l e s mm args below meth c G n0 Z H locs ls X Y => by
  obtain ⟨C, T, h1, h2, h3, -, -⟩ := hf
  obtain ⟨C', T', g1, g2, -⟩ := hc
  cases Option.some.inj (h1.symm.trans g1)
  rw [mp_ref hq.1 (Nat.le_trans hq.2.1 Y.2.2.2.2.2.2.2.2.2)]
  refine va_get (D := gD G) (cl := clT) (tys := tysG G) (ref := (T j).1) (C := C) (T := T) (N := nf ci) (ci := ci) X.1 X.2.1 X.2.2.2.2.1 g2 X.2.2.2.1 X.2.2.2.2.2.1.1 Y.2.2.2.1 (q - 1) (cE_obj hq) h1 j h2 (X.2.2.2.2.1 _ h3) (fun _ h9 => h9) (v := cv G v) ?_ hd (h p l e s mm args below meth c G n0 Z H locs ls X (Y.stk (okv_cons (ho Y.2.2.2.2.1) (okv_tl Y.2.2.1))))
  rw [fsL_get h2, hv G]
theorem wp_getI {idx ci j q : Nat} {fin : Bool} (hd : decode (cd m) pc = .ok (.getfield idx, 3)) (hf : FLP (yy m).cls idx ci j fin) (hc : ClP ci) (ht : fty ci j = 1) (hq : oq w q (0, ci)) (h : WpG b bF m (pc + 3) L (vi (gI w q j) :: S) k w Q) : WpG b bF m pc L (vr q :: S) k w Q :=
  wp_getG (v := vi (gI w q j)) hd hf hc hq (fun G => by rw [ht]; rfl) (fun hi => hi.1 q j) h
theorem wp_getJ {idx ci j q : Nat} {fin : Bool} (hd : decode (cd m) pc = .ok (.getfield idx, 3)) (hf : FLP (yy m).cls idx ci j fin) (hc : ClP ci) (ht : fty ci j = 2) (hq : oq w q (0, ci)) (h : WpG b bF m (pc + 3) L (vl (gJ w q j) :: S) k w Q) : WpG b bF m pc L (vr q :: S) k w Q :=
  wp_getG (v := vl (gJ w q j)) hd hf hc hq (fun G => by rw [ht]; rfl) (fun hi => hi.2 q j) h
theorem wp_getP {idx ci j q : Nat} {fin : Bool} (hd : decode (cd m) pc = .ok (.getfield idx, 3)) (hf : FLP (yy m).cls idx ci j fin) (hc : ClP ci) (ht : fty ci j = 5) (hq : oq w q (0, ci)) {v : Nat} (hv : gP w q j = v) (h : WpG b bF m (pc + 3) L (vr v :: S) k w Q) : WpG b bF m pc L (vr q :: S) k w Q :=
  wp_getG (v := vr v) hd hf hc hq (fun G => by rw [ht, ← hv]; rfl) (fun _ => trivial) h
/-- the world behind a write into an object -/
theorem Wy.put {G : Gh} {n0 : Nat} {s : State} {n : Nat} {H H1 : Heap} {locs locs1 : List Loc} {ls : Array Slot} {w' : Wo} {S' : List AV} (Y : Wy b G n0 s n L S w H locs ls) (hP : va_P (gD G) clT (wL G w') H1) (hS : va_S (fr (gB G) n0 s.heap.size) s.heap H1 locs1) (hi : InS w') (hv : Inv b G w' H1) (hn : wn w' = wn w) (hs : ∀ v ∈ S', okv v) : Wy b G n0 s n L S' w' H1 locs1 ls := by
  refine ⟨Y.1, Y.2.1, hs, hP, hi, hv, hS, ?_, ?_, ?_⟩
  · rw [hn]; exact Y.2.2.2.2.2.2.2.1
  · rw [hn]; exact Y.2.2.2.2.2.2.2.2.1
  · rw [hn]; exact Y.2.2.2.2.2.2.2.2.2
/-- a field is written: what is known of the heap behind it, its size too -/
theorem ob_put {p : Program} {l : Launch} {e : Env} {R : Room} {s : State} {mm : MethodId} {args : Array Value} {below : List Frame} {meth : Method} {c : Code} {H H0 : Heap} {locs : List Loc} {cells slots : Nat} {Z : State → Prop} {cc : ByteArray} {ls : Array Slot} {rest : List Value} {D : va_G} {cl : List vw_C} {A : Nat → Prop} {a : Nat} {tys : List (ClassId × FieldType)} {ws : va_W}
    (hexec : p.tables.exec = Jvm.exec) (hb : c.code = cc) {own C : String} {T : u_T} {N ci index : Nat} {Ts : List Cond} (hts : ∀ w ∈ Ts, w.before args s = true) (hin : ∀ w ∈ u_ws C T N, w ∈ Ts) (ty0 : Nat → FieldType) (hty : ∀ k, k < N → parseFieldDescriptor (T k).2.2.1 = some (ty0 k)) (hnm : ∀ a, a < N → ∀ b, b < N → a ≠ b → (T a).2.1 ≠ (T b).2.1)
    (hown : s.vm.findClass own = some mm.cls) (hK : va_K D cl tys s) (hP : va_P D cl ws H) (hD : va_D A ws) (hS0 : va_S A H0 H locs) (q0 : Nat) {fs : List Value} (he : ws[q0]? = some (a, .inr (ci, fs))) (hc : cl[ci]? = some (C, T, N)) (k : Nat) (hk : k < N) (hlink : (Cond.fieldLink own index (T k).1 (T k).2.1 (T k).2.2.1).before args s = true)
    (hfin : (T k).2.2.2 = false ∨ ((T k).2.2.2 = true ∧ meth.name = "<init>" ∧ (T k).1 = own)) {v : Value} (hn : narrow (ty0 k) v = v) (hfit : fits (ty0 k) v = true) (hl : k < fs.length) (hdg : decode cc pc = .ok (.putfield index, 3))
    (kk : ∀ (H1 : Heap) (locs1 : List Loc), va_P D cl (ws.set q0 (a, .inr (ci, fs.set k v))) H1 → va_S A H0 H1 locs1 → H1.size = H.size → W p l e R s mm args below meth c H1 locs1 cells slots Z (F0 mm (pc + 3) ls rest)) : W p l e R s mm args below meth c H locs cells slots Z (F0 mm pc ls (v :: .ref a :: rest)) := by
  have hap := va_apart (own := own) hts hin ty0 hty hnm hK hc
  obtain ⟨r, h1, cell, q1, q2, q3, q4⟩ := hP q0 _ he
  have hr : r = (C, T, N) := Option.some.inj (h1.symm.trans hc)
  subst hr
  obtain ⟨hS, hfc, kC, hkC, hkind⟩ := hK.1 ci _ hc
  obtain ⟨cf, kf, fi, f, hi, hsl⟩ := hS k hk
  have hlay := hts _ (hin _ (u_in_lay hk))
  have hst := (u_facts hfc hkC (u_lays hts hin hk) hi).1
  have fin : ∀ (H' : Heap), H'[a]? = some (cell.setSlot f.slot v) → H'.size = H.size → (∀ q, q ≠ a → H'[q]? = H[q]?) → W p l e R s mm args below meth c H' (locs ++ [⟨a, f.slot⟩]) cells slots Z (F0 mm (pc + 3) ls rest) := by
    intro H' e1 e2 e3
    rw [hsl] at e1 ⊢
    exact kk H' _ (hP.set hD he ⟨_, hc, t_OB.to (V := updV (vp_V fs) k v) ⟨_, e1, q2, q3, t_set q4 hap hk v⟩ (fun j _ => vp_updV_set hl v j)⟩ e3) (hS0.put e2 e3 (hD.2 q0 _ he)) e2
  unfold u_lay at hlay
  rcases hfin with hf | ⟨hf, hin2, hdecl⟩
  · rw [if_neg (by rw [hf]; decide)] at hlay
    have h6 := u_store hfc hkC hkind hlay hi (hty k hk) hn hfit
    exact W.putK hexec hb (f := f) ⟨hown, hlink, ⟨_, _, _, hi⟩, hst⟩ (by rw [q2]; exact h6) q1 q3 (by rw [hsl]; exact k2_hasslot (q4 k hk)) rfl rfl hdg fin
  · rw [if_pos hf] at hlay
    have hcf : mm.cls = cf := by
      obtain ⟨_, _, c', _, _, _, -, -, hf', -, -, -, hown2, -⟩ := Cond.laysFinal_spec hlay
      have e1 : c' = cf := by have := hi.symm.trans hf'; simp at this; exact this.1.symm
      rw [hdecl] at hown2
      rw [← e1]; exact Option.some.inj (hown.symm.trans hown2)
    have h6 := u_fits hfc hkC hkind (Or.inr hlay) hi (hty k hk) hn hfit
    exact W.putFinK hexec hb hown hlink hi hst hcf hin2 (by rw [q2]; exact h6) q1 q3 (by rw [hsl]; exact k2_hasslot (q4 k hk)) rfl rfl hdg fin
theorem wp_putG {idx ci j q : Nat} {fin : Bool} {v : AV} {w' : Wo} (hd : decode (cd m) pc = .ok (.putfield idx, 3)) (hf : FLP (yy m).cls idx ci j fin) (hfi : fin = false ∨ (yy m).name = "<init>") (hdc : fin = false ∨ ∃ T, clT[ci]? = some ((yy m).cls, T, nf ci)) (hc : ClP ci) (hq : oq w q (0, ci))
    (hn : ∀ G : Gh, narrow (tyF ci j) (cv G v) = cv G v) (hft : ∀ G : Gh, fits (tyF ci j) (cv G v) = true) (hv : ∀ G : Gh, fv G w' q j (fty ci j) = cv G v) (hw : wn w' = wn w) (hsh : ∀ b, wsh w' b = wsh w b)
    (hsame : ∀ (G : Gh) (o i : Nat), ¬ (o = q ∧ i = j) → gI w' o i = gI w o i ∧ gJ w' o i = gJ w o i ∧ gP w' o i = gP w o i) (hi : InS w → okv v → InS w') (hI : ∀ (G : Gh) (H H1 : Heap), H1.size = H.size → Inv b G w H → Inv b G w' H1)
    (h : WpG b bF m (pc + 3) L S k w' Q) : WpG b bF m pc L (v :: vr q :: S) k w Q := fun p l e s mm args below meth c G n0 Z H locs ls X Y => by
  obtain ⟨C, T, h1, h2, h3, h4, h5⟩ := hf
  obtain ⟨C', T', g1, g2, g3, g4⟩ := hc
  cases Option.some.inj (h1.symm.trans g1)
  have hq1 : q ≤ 1000 := Nat.le_trans hq.2.1 Y.2.2.2.2.2.2.2.2.2
  rw [List.map_cons, mp_ref hq.1 hq1]
  refine ob_put (D := gD G) (cl := clT) (tys := tysG G) (own := (yy m).cls) (C := C) (T := T) (N := nf ci) (ci := ci) (v := cv G v) X.1 X.2.1 X.2.2.2.2.1 g2 (tyF ci) g3 g4 X.2.2.2.1 X.2.2.2.2.2.1.1 Y.2.2.2.1 (wL_D Y.2.2.2.2.2.2.2.2.1) Y.2.2.2.2.2.2.1 (q - 1) (cE_obj hq) h1 j h2 (X.2.2.2.2.1 _ h3) ?_ (hn G) (hft G) (by rw [fsL_len]; exact h2) hd (fun H1 locs1 hP hS hz => ?_)
  · rcases hfi with hfi | hfi
    · exact Or.inl (h4.trans hfi)
    · rcases hdc with hdc | ⟨T2, hdc⟩
      · exact Or.inl (h4.trans hdc)
      · have := Option.some.inj (h1.symm.trans hdc)
        cases hfb : fin
        · exact Or.inl (h4.trans hfb)
        · refine Or.inr ⟨h4.trans hfb, X.2.2.2.2.2.2.1.trans hfi, h5.trans ?_⟩
          exact congrArg Prod.fst this
  · have e1 : (fsL G w q (fty ci) (nf ci)).set j (cv G v) = fsL G w' q (fty ci) (nf ci) := by
      refine fsL_set h2 (hv G) (fun i hi2 => ?_)
      obtain ⟨a1, a2, a3⟩ := hsame G q i (fun z => hi2 z.2)
      unfold fv
      split
      · rw [a2]
      · rw [a3]
      · rw [a1]
    have e2 : (wL G w).set (q - 1) (gB G + q, .inr (ci, (fsL G w q (fty ci) (nf ci)).set j (cv G v))) = wL G w' := by
      refine wL_set hq.1 hw ?_ (fun o ho => ?_)
      · rw [e1]
        unfold cE
        rw [hsh q, hq.2.2]
        rfl
      · exact cE_congr (hsh o) (fun i => (hsame G o i (fun z => ho z.1)).1) (fun i => (hsame G o i (fun z => ho z.1)).2.1) (fun i => (hsame G o i (fun z => ho z.1)).2.2)
    rw [e2] at hP
    exact h p l e s mm args below meth c G n0 Z H1 locs1 ls X (Y.put hP hS (hi Y.2.2.2.2.1 (okv_hd Y.2.2.1)) (hI G H H1 hz Y.2.2.2.2.2.1) hw (okv_tl (okv_tl Y.2.2.1)))
theorem up2_ne {α : Type} {f : Nat → Nat → α} {o k b j : Nat} {v : α} (h : ¬ (b = o ∧ j = k)) : up2 f o k v b j = f b j := if_neg h
theorem up2_eq {α : Type} {f : Nat → Nat → α} {o k : Nat} {v : α} : up2 f o k v o k = v := if_pos ⟨rfl, rfl⟩
theorem gI_self {w : Wo} {o k : Nat} {v : Int} : gI (uI w o k v) o k = v := up2_eq
theorem gJ_self {w : Wo} {o k : Nat} {v : Int} : gJ (uJ w o k v) o k = v := up2_eq
theorem gP_self {w : Wo} {o k : Nat} {v : Nat} : gP (uP w o k v) o k = v := up2_eq
theorem wp_putI {idx ci j q : Nat} {x : Int} (hd : decode (cd m) pc = .ok (.putfield idx, 3)) (hf : FLP (yy m).cls idx ci j false) (hc : ClP ci) (ht : fty ci j = 1 ∧ tyF ci j = .int) (hq : oq w q (0, ci)) (h : ∀ w', w' = uI w q j x → WpG b bF m (pc + 3) L S k w' Q) : WpG b bF m pc L (vi x :: vr q :: S) k w Q :=
  wp_putG (v := vi x) (w' := uI w q j x) hd hf (Or.inl rfl) (Or.inl rfl) hc hq (fun G => by rw [ht.2]; rfl) (fun G => by rw [ht.2]; rfl) (fun G => by rw [ht.1]; show Value.int (Int32.ofInt (gI _ _ _)) = _; rw [gI_self]; rfl) rfl (fun _ => rfl) (fun G o i hz => ⟨up2_ne hz, rfl, rfl⟩) (fun hi ho => hi.uI ho) (fun G H H1 hz hI => hI.uI hz q j x) (h _ rfl)
theorem nar_z {x : Int} (h : x = 0 ∨ x = 1) : narrow .boolean (.int (Int32.ofInt x)) = .int (Int32.ofInt x) ∧ fits .boolean (.int (Int32.ofInt x)) = true := by
  rcases h with rfl | rfl <;> decide
theorem wp_putZ {idx ci j q : Nat} {x : Int} (hd : decode (cd m) pc = .ok (.putfield idx, 3)) (hf : FLP (yy m).cls idx ci j false) (hc : ClP ci) (ht : fty ci j = 1 ∧ tyF ci j = .boolean) (hq : oq w q (0, ci)) (hx : x = 0 ∨ x = 1) (h : ∀ w', w' = uI w q j x → WpG b bF m (pc + 3) L S k w' Q) : WpG b bF m pc L (vi x :: vr q :: S) k w Q :=
  wp_putG (v := vi x) (w' := uI w q j x) hd hf (Or.inl rfl) (Or.inl rfl) hc hq (fun G => by rw [ht.2]; exact (nar_z hx).1) (fun G => by rw [ht.2]; exact (nar_z hx).2) (fun G => by rw [ht.1]; show Value.int (Int32.ofInt (gI _ _ _)) = _; rw [gI_self]; rfl) rfl (fun _ => rfl) (fun G o i hz => ⟨up2_ne hz, rfl, rfl⟩) (fun hi ho => hi.uI ho) (fun G H H1 hz hI => hI.uI hz q j x) (h _ rfl)
theorem wp_putJ {idx ci j q : Nat} {x : Int} (hd : decode (cd m) pc = .ok (.putfield idx, 3)) (hf : FLP (yy m).cls idx ci j false) (hc : ClP ci) (ht : fty ci j = 2 ∧ tyF ci j = .long) (hq : oq w q (0, ci)) (h : ∀ w', w' = uJ w q j x → WpG b bF m (pc + 3) L S k w' Q) : WpG b bF m pc L (vl x :: vr q :: S) k w Q :=
  wp_putG (v := vl x) (w' := uJ w q j x) hd hf (Or.inl rfl) (Or.inl rfl) hc hq (fun G => by rw [ht.2]; rfl) (fun G => by rw [ht.2]; rfl) (fun G => by rw [ht.1]; show Value.long (Int64.ofInt (gJ _ _ _)) = _; rw [gJ_self]; rfl) rfl (fun _ => rfl) (fun G o i hz => ⟨rfl, up2_ne hz, rfl⟩) (fun hi ho => hi.uJ ho) (fun G H H1 hz hI => hI.uJ hz q j x) (h _ rfl)
/-- a reference is written into an object: at construction anything, later as the layout allows -/
theorem fitsR {ty : FieldType} (ht : (∃ n, ty = .object n) ∨ ∃ t, ty = .array t) (r : Option Nat) : narrow ty (va_rf r) = va_rf r ∧ fits ty (va_rf r) = true := by
  rcases ht with ⟨n, rfl⟩ | ⟨t, rfl⟩ <;> cases r <;> exact ⟨rfl, rfl⟩
theorem wp_putP {idx ci j q v : Nat} {fin : Bool} (hd : decode (cd m) pc = .ok (.putfield idx, 3)) (hf : FLP (yy m).cls idx ci j fin) (hfi : fin = false ∨ (yy m).name = "<init>") (hdc : fin = false ∨ ∃ T, clT[ci]? = some ((yy m).cls, T, nf ci)) (hc : ClP ci) (ht : fty ci j = 5 ∧ ((∃ n, tyF ci j = .object n) ∨ ∃ t, tyF ci j = .array t)) (hq : oq w q (0, ci)) (hI : b = true → LY w → LY (uP w q j v)) (h : ∀ w', w' = uP w q j v → WpG b bF m (pc + 3) L S k w' Q) : WpG b bF m pc L (vr v :: vr q :: S) k w Q :=
  wp_putG (v := vr v) (w' := uP w q j v) hd hf hfi hdc hc hq (fun G => (fitsR ht.2 _).1) (fun G => (fitsR ht.2 _).2) (fun G => by rw [ht.1]; show va_rf (cr G (gP _ _ _)) = _; rw [gP_self]; rfl) rfl (fun _ => rfl) (fun G o i hz => ⟨rfl, rfl, up2_ne hz⟩) (fun hi _ => hi) (fun G H H1 hz hh => by
    cases b
    · exact Eq.trans hz hh
    · exact hI rfl hh) (h _ rfl)
theorem inA_a {w : Wo} {a t : Nat} {i : Int} (h : inA w a t i) : i.toNat < (wsh w a).2 ∧ vp_in (Int32.ofInt i) (wsh w a).2 ∧ (Int32.ofInt i).toNatClampNeg = i.toNat := by
  obtain ⟨-, -, -, h1, h2, h3⟩ := h
  exact ⟨by omega, i32_in h1 h2 h3, i32_cl h1 (by omega)⟩
theorem wp_iaload {a : Nat} {i : Int} (hd : decode (cd m) pc = .ok (.iaload, 1)) (ha : inA w a 1 i) (h : WpG b bF m (pc + 1) L (vi (gI w a i.toNat) :: S) k w Q) : WpG b bF m pc L (vi i :: vr a :: S) k w Q := fun p l e s mm args below meth c G n0 Z H locs ls X Y => by
  obtain ⟨h1, h2, h3⟩ := inA_a ha
  have hq1 : a ≤ 1000 := Nat.le_trans ha.2.1 Y.2.2.2.2.2.2.2.2.2
  have hh := h p l e s mm args below meth c G n0 Z H locs ls X (Y.stk (okv_cons (Y.2.2.2.2.1.1 _ _) (okv_tl (okv_tl Y.2.2.1))))
  rw [List.map_cons, mp_ref ha.1 hq1]
  refine va_iald X.1 X.2.1 X.2.2.2.2.2.1.1 Y.2.2.2.1 (a - 1) 0 (cE_int ha.1 ha.2.1 ha.2.2.1 (Or.inl rfl)) rfl h2 hd ?_
  rw [h3]
  exact hh
theorem wp_baload {a : Nat} {i : Int} (hd : decode (cd m) pc = .ok (.baload, 1)) (ha : inA w a 3 i) (h : WpG b bF m (pc + 1) L (vi (gI w a i.toNat) :: S) k w Q) : WpG b bF m pc L (vi i :: vr a :: S) k w Q := fun p l e s mm args below meth c G n0 Z H locs ls X Y => by
  obtain ⟨h1, h2, h3⟩ := inA_a ha
  have hq1 : a ≤ 1000 := Nat.le_trans ha.2.1 Y.2.2.2.2.2.2.2.2.2
  have hh := h p l e s mm args below meth c G n0 Z H locs ls X (Y.stk (okv_cons (Y.2.2.2.2.1.1 _ _) (okv_tl (okv_tl Y.2.2.1))))
  rw [List.map_cons, mp_ref ha.1 hq1]
  refine va_bald X.1 X.2.1 X.2.2.2.2.2.1.1 Y.2.2.2.1 (a - 1) 2 (cE_int ha.1 ha.2.1 ha.2.2.1 (Or.inr (Or.inl rfl))) rfl h2 hd ?_
  rw [h3]
  exact hh
theorem wp_zaload {a : Nat} {i : Int} (hd : decode (cd m) pc = .ok (.baload, 1)) (ha : inA w a 4 i) (h : WpG b bF m (pc + 1) L (vi (gI w a i.toNat) :: S) k w Q) : WpG b bF m pc L (vi i :: vr a :: S) k w Q := fun p l e s mm args below meth c G n0 Z H locs ls X Y => by
  obtain ⟨h1, h2, h3⟩ := inA_a ha
  have hq1 : a ≤ 1000 := Nat.le_trans ha.2.1 Y.2.2.2.2.2.2.2.2.2
  have hh := h p l e s mm args below meth c G n0 Z H locs ls X (Y.stk (okv_cons (Y.2.2.2.2.1.1 _ _) (okv_tl (okv_tl Y.2.2.1))))
  rw [List.map_cons, mp_ref ha.1 hq1]
  refine va_zald X.1 X.2.1 X.2.2.2.2.2.1.1 Y.2.2.2.1 (a - 1) 3 (cE_int ha.1 ha.2.1 ha.2.2.1 (Or.inr (Or.inr rfl))) rfl h2 hd ?_
  rw [h3]
  exact hh
theorem wp_laload {a : Nat} {i : Int} (hd : decode (cd m) pc = .ok (.laload, 1)) (ha : inA w a 2 i) (h : WpG b bF m (pc + 1) L (vl (gJ w a i.toNat) :: S) k w Q) : WpG b bF m pc L (vi i :: vr a :: S) k w Q := fun p l e s mm args below meth c G n0 Z H locs ls X Y => by
  obtain ⟨h1, h2, h3⟩ := inA_a ha
  have hq1 : a ≤ 1000 := Nat.le_trans ha.2.1 Y.2.2.2.2.2.2.2.2.2
  have hh := h p l e s mm args below meth c G n0 Z H locs ls X (Y.stk (okv_cons (Y.2.2.2.2.1.2 _ _) (okv_tl (okv_tl Y.2.2.1))))
  rw [List.map_cons, mp_ref ha.1 hq1]
  refine va_lald X.1 X.2.1 X.2.2.2.2.2.1.1 Y.2.2.2.1 (a - 1) 1 (cE_long ha.1 ha.2.1 ha.2.2.1) rfl h2 hd ?_
  rw [h3]
  exact hh
theorem wp_aaload {a : Nat} {i : Int} {v : Nat} (hd : decode (cd m) pc = .ok (.aaload, 1)) (ha : inA w a 5 i) (hv : gP w a i.toNat = v) (h : WpG b bF m (pc + 1) L (vr v :: S) k w Q) : WpG b bF m pc L (vi i :: vr a :: S) k w Q := fun p l e s mm args below meth c G n0 Z H locs ls X Y => by
  obtain ⟨h1, h2, h3⟩ := inA_a ha
  have hq1 : a ≤ 1000 := Nat.le_trans ha.2.1 Y.2.2.2.2.2.2.2.2.2
  have hh := h p l e s mm args below meth c G n0 Z H locs ls X (Y.stk (okv_cons trivial (okv_tl (okv_tl Y.2.2.1))))
  rw [List.map_cons, mp_ref ha.1 hq1]
  refine va_aldq X.1 X.2.1 X.2.2.2.2.2.1.1 Y.2.2.2.1 (a - 1) 4 (cE_refs ha.1 ha.2.1 ha.2.2.1) rfl h2 hd ?_
  rw [h3, hv]
  exact hh
end Rows
end
section
section Rows
variable {b bF : Bool} {m : MR} {pc : Nat} {L L' : List (Nat × AV)} {S : List AV} {k : Nat × Nat} {w : Wo} {Q : Option AV → Wo → Prop}
/-- the list of cells behind a write into an array of ints -/
theorem wL_upd {G : Gh} {w w' : Wo} {a : Nat} {e : va_E} (h0 : 0 < a) (hn : wn w' = wn w) (he : cE G w' a = e) (hs : ∀ o, wsh w' o = wsh w o) (hsame : ∀ o i, o ≠ a → gI w' o i = gI w o i ∧ gJ w' o i = gJ w o i ∧ gP w' o i = gP w o i) : (wL G w).set (a - 1) (gB G + a, e) = wL G w' :=
  wL_set h0 hn he (fun o ho => cE_congr (hs o) (fun i => (hsame o i ho).1) (fun i => (hsame o i ho).2.1) (fun i => (hsame o i ho).2.2))
theorem upI {w : Wo} {a n : Nat} {x : Int} : (fun j => Int32.ofInt (gI (uI w a n x) a j)) = upd (fun j => Int32.ofInt (gI w a j)) n (Int32.ofInt x) := by
  funext j
  unfold upd
  rw [gI_uI]
  by_cases hj : j = n
  · rw [if_pos ⟨rfl, hj⟩, if_pos hj]
  · rw [if_neg (fun z => hj z.2), if_neg hj]
theorem upJ {w : Wo} {a n : Nat} {x : Int} : (fun j => Int64.ofInt (gJ (uJ w a n x) a j)) = vp_updL (fun j => Int64.ofInt (gJ w a j)) n (Int64.ofInt x) := by
  funext j
  unfold vp_updL
  rw [gJ_uJ]
  by_cases hj : j = n
  · rw [if_pos ⟨rfl, hj⟩, if_pos hj]
  · rw [if_neg (fun z => hj z.2), if_neg hj]
theorem wL_uI {G : Gh} {w : Wo} {a t n : Nat} {x : Int} (h0 : 0 < a) (ht : (wsh w a).1 = t) (h2 : t = 1 ∨ t = 3 ∨ t = 4) : (wL G w).set (a - 1) (gB G + a, .inl (gC G t, (wsh w a).2, .inl (upd (fun j => Int32.ofInt (gI w a j)) n (Int32.ofInt x)))) = wL G (uI w a n x) := by
  refine wL_upd h0 rfl ?_ (fun _ => rfl) (fun o i ho => ⟨up2_ne (fun z => ho z.1), rfl, rfl⟩)
  unfold cE
  have hs : wsh (uI w a n x) a = wsh w a := rfl
  rw [hs, ht]
  rcases h2 with rfl | rfl | rfl <;> (rw [← upI]; rfl)
theorem wL_uJ {G : Gh} {w : Wo} {a n : Nat} {x : Int} (h0 : 0 < a) (ht : (wsh w a).1 = 2) : (wL G w).set (a - 1) (gB G + a, .inl (gC G 2, (wsh w a).2, .inr (.inl (vp_updL (fun j => Int64.ofInt (gJ w a j)) n (Int64.ofInt x))))) = wL G (uJ w a n x) := by
  refine wL_upd h0 rfl ?_ (fun _ => rfl) (fun o i ho => ⟨rfl, up2_ne (fun z => ho z.1), rfl⟩)
  unfold cE
  have hs : wsh (uJ w a n x) a = wsh w a := rfl
  rw [hs, ht, ← upJ]
  rfl
theorem nar_b {x : Int} (h : -128 ≤ x ∧ x < 128) : vp_nar .byte (Int32.ofInt x) = Int32.ofInt x := by
  rw [vp_nar_byte, ← Int32.toInt_inj, Int8.toInt_toInt32, Int32.toInt_toInt8, Int32.toInt_ofInt_of_le (by omega) (by omega)]
  exact Int.bmod_eq_of_le (by omega) (by omega)
theorem nar_zz {x : Int} (h : x = 0 ∨ x = 1) : vp_nar .boolean (Int32.ofInt x) = Int32.ofInt x := by
  rcases h with rfl | rfl <;> decide
theorem wp_iastore {a : Nat} {i x : Int} (hd : decode (cd m) pc = .ok (.iastore, 1)) (ha : inA w a 1 i) (h : ∀ w', w' = uI w a i.toNat x → WpG true bF m (pc + 1) L S k w' Q) : WpG true bF m pc L (vi x :: vi i :: vr a :: S) k w Q := fun p l e s mm args below meth c G n0 Z H locs ls X Y => by
  obtain ⟨h1, h2, h3⟩ := inA_a ha
  have hq1 : a ≤ 1000 := Nat.le_trans ha.2.1 Y.2.2.2.2.2.2.2.2.2
  rw [List.map_cons, List.map_cons, mp_ref ha.1 hq1]
  refine va_iast X.1 X.2.1 X.2.2.2.2.2.1.1 Y.2.2.2.1 (wL_D Y.2.2.2.2.2.2.2.2.1) Y.2.2.2.2.2.2.1 (a - 1) 0 (cE_int ha.1 ha.2.1 ha.2.2.1 (Or.inl rfl)) rfl h2 hd (fun H1 locs1 hP hD hS => ?_)
  rw [h3, wL_uI ha.1 ha.2.2.1 (Or.inl rfl)] at hP
  exact h _ rfl p l e s mm args below meth c G n0 Z H1 locs1 ls X (Y.put hP hS (Y.2.2.2.2.1.uI (okv_hd Y.2.2.1)) Y.2.2.2.2.2.1 rfl (okv_tl (okv_tl (okv_tl Y.2.2.1))))
theorem wp_bastore {a : Nat} {i x : Int} (hd : decode (cd m) pc = .ok (.bastore, 1)) (ha : inA w a 3 i) (hx : -128 ≤ x ∧ x < 128) (h : ∀ w', w' = uI w a i.toNat x → WpG true bF m (pc + 1) L S k w' Q) : WpG true bF m pc L (vi x :: vi i :: vr a :: S) k w Q := fun p l e s mm args below meth c G n0 Z H locs ls X Y => by
  obtain ⟨h1, h2, h3⟩ := inA_a ha
  have hq1 : a ≤ 1000 := Nat.le_trans ha.2.1 Y.2.2.2.2.2.2.2.2.2
  rw [List.map_cons, List.map_cons, mp_ref ha.1 hq1]
  refine va_bast X.1 X.2.1 X.2.2.2.2.2.1.1 Y.2.2.2.1 (wL_D Y.2.2.2.2.2.2.2.2.1) Y.2.2.2.2.2.2.1 (a - 1) 2 (cE_int ha.1 ha.2.1 ha.2.2.1 (Or.inr (Or.inl rfl))) rfl h2 hd (fun H1 locs1 hP hD hS => ?_)
  rw [h3, nar_b hx, wL_uI ha.1 ha.2.2.1 (Or.inr (Or.inl rfl))] at hP
  exact h _ rfl p l e s mm args below meth c G n0 Z H1 locs1 ls X (Y.put hP hS (Y.2.2.2.2.1.uI (okv_hd Y.2.2.1)) Y.2.2.2.2.2.1 rfl (okv_tl (okv_tl (okv_tl Y.2.2.1))))
theorem wp_zastore {a : Nat} {i x : Int} (hd : decode (cd m) pc = .ok (.bastore, 1)) (ha : inA w a 4 i) (hx : x = 0 ∨ x = 1) (h : ∀ w', w' = uI w a i.toNat x → WpG true bF m (pc + 1) L S k w' Q) : WpG true bF m pc L (vi x :: vi i :: vr a :: S) k w Q := fun p l e s mm args below meth c G n0 Z H locs ls X Y => by
  obtain ⟨h1, h2, h3⟩ := inA_a ha
  have hq1 : a ≤ 1000 := Nat.le_trans ha.2.1 Y.2.2.2.2.2.2.2.2.2
  rw [List.map_cons, List.map_cons, mp_ref ha.1 hq1]
  refine va_zast X.1 X.2.1 X.2.2.2.2.2.1.1 Y.2.2.2.1 (wL_D Y.2.2.2.2.2.2.2.2.1) Y.2.2.2.2.2.2.1 (a - 1) 3 (cE_int ha.1 ha.2.1 ha.2.2.1 (Or.inr (Or.inr rfl))) rfl h2 hd (fun H1 locs1 hP hD hS => ?_)
  rw [h3, nar_zz hx, wL_uI ha.1 ha.2.2.1 (Or.inr (Or.inr rfl))] at hP
  exact h _ rfl p l e s mm args below meth c G n0 Z H1 locs1 ls X (Y.put hP hS (Y.2.2.2.2.1.uI (okv_hd Y.2.2.1)) Y.2.2.2.2.2.1 rfl (okv_tl (okv_tl (okv_tl Y.2.2.1))))
theorem wp_lastore {a : Nat} {i x : Int} (hd : decode (cd m) pc = .ok (.lastore, 1)) (ha : inA w a 2 i) (h : ∀ w', w' = uJ w a i.toNat x → WpG true bF m (pc + 1) L S k w' Q) : WpG true bF m pc L (vl x :: vi i :: vr a :: S) k w Q := fun p l e s mm args below meth c G n0 Z H locs ls X Y => by
  obtain ⟨h1, h2, h3⟩ := inA_a ha
  have hq1 : a ≤ 1000 := Nat.le_trans ha.2.1 Y.2.2.2.2.2.2.2.2.2
  rw [List.map_cons, List.map_cons, mp_ref ha.1 hq1]
  refine va_last X.1 X.2.1 X.2.2.2.2.2.1.1 Y.2.2.2.1 (wL_D Y.2.2.2.2.2.2.2.2.1) Y.2.2.2.2.2.2.1 (a - 1) 1 (cE_long ha.1 ha.2.1 ha.2.2.1) rfl h2 hd (fun H1 locs1 hP hD hS => ?_)
  rw [h3, wL_uJ ha.1 ha.2.2.1] at hP
  exact h _ rfl p l e s mm args below meth c G n0 Z H1 locs1 ls X (Y.put hP hS (Y.2.2.2.2.1.uJ (okv_hd Y.2.2.1)) Y.2.2.2.2.2.1 rfl (okv_tl (okv_tl (okv_tl Y.2.2.1))))
theorem wp_alen {a t n : Nat} (hd : decode (cd m) pc = .ok (.arraylength, 1)) (ha : oq w a (t, n)) (ht : t = 1 ∨ t = 2 ∨ t = 3 ∨ t = 4 ∨ t = 5) (hn : n < 2147483648) (h : WpG b bF m (pc + 1) L (vi (n : Int) :: S) k w Q) : WpG b bF m pc L (vr a :: S) k w Q := fun p l e s mm args below meth c G n0 Z H locs ls X Y => by
  have hq1 : a ≤ 1000 := Nat.le_trans ha.2.1 Y.2.2.2.2.2.2.2.2.2
  have hh := h p l e s mm args below meth c G n0 Z H locs ls X (Y.stk (okv_cons (show inr32 (n : Int) from ⟨by omega, by omega⟩) (okv_tl Y.2.2.1)))
  have e1 : (wsh w a).1 = t := by rw [ha.2.2]
  have e2 : (wsh w a).2 = n := by rw [ha.2.2]
  rw [mp_ref ha.1 hq1]
  have e3 : Int32.ofNat n = Int32.ofInt (n : Int) := (Int32.ofInt_eq_ofNat).symm
  rcases ht with rfl | rfl | rfl | rfl | rfl
  · have h9 := cE_int (G := G) ha.1 ha.2.1 e1 (Or.inl rfl)
    rw [e2] at h9
    exact va_alen X.1 X.2.1 X.2.2.2.2.2.1.1 Y.2.2.2.1 (a - 1) 0 h9 rfl e3 hd hh
  · have h9 := cE_long (G := G) ha.1 ha.2.1 e1
    rw [e2] at h9
    exact va_alen X.1 X.2.1 X.2.2.2.2.2.1.1 Y.2.2.2.1 (a - 1) 1 h9 rfl e3 hd hh
  · have h9 := cE_int (G := G) ha.1 ha.2.1 e1 (Or.inr (Or.inl rfl))
    rw [e2] at h9
    exact va_alen X.1 X.2.1 X.2.2.2.2.2.1.1 Y.2.2.2.1 (a - 1) 2 h9 rfl e3 hd hh
  · have h9 := cE_int (G := G) ha.1 ha.2.1 e1 (Or.inr (Or.inr rfl))
    rw [e2] at h9
    exact va_alen X.1 X.2.1 X.2.2.2.2.2.1.1 Y.2.2.2.1 (a - 1) 3 h9 rfl e3 hd hh
  · have h9 := cE_refs (G := G) ha.1 ha.2.1 e1
    rw [e2] at h9
    exact va_alen X.1 X.2.1 X.2.2.2.2.2.1.1 Y.2.2.2.1 (a - 1) 4 h9 rfl e3 hd hh
end Rows
end
section
def wsm (m : MR) : List Cond := Cond.code (yy m) (cd m) (nLo m) (rtt m) :: AW
def Qcc (b : Bool) (G : Gh) (n0 sz : Nat) (Q : Option AV → Wo → Prop) : Array Value → State → Outcome → State → Prop := fun _ st o t =>
  (∃ (r : Option AV) (w' : Wo), Q r w' ∧ o = .returned (r.map (cv G)) ∧ (∀ v ∈ r.toList, okv v) ∧ va_P (gD G) clT (wL G w') t.heap ∧ InS w' ∧ Inv b G w' t.heap ∧ n0 ≤ wn w' ∧ (wn w' ≤ n0 ∨ sz ≤ gB G + n0 + 1) ∧ wn w' ≤ 1000) ∧ va_F (fr (gB G) n0 sz) st t
def PcC (b : Bool) (G : Gh) (sz : Nat) (w : Wo) (U : State) : Prop := U.heap.size = sz ∧ KK G U ∧ va_P (gD G) clT (wL G w) U.heap ∧ InS w ∧ Inv b G w U.heap ∧ wn w ≤ 1000
/-- THE CONTRACT of method m, called with As in world w: it returns, with Q -/
def MetS (b : Bool) (m : MR) (As : List AV) (w : Wo) (Q : Option AV → Wo → Prop) : Prop := ∀ (l : Launch) (G : Gh) (sz : Nat), (∀ v ∈ As, okv v) → Met l (yy m) (wsm m) (rmm m) (va_Pc (As.map (cv G)) (PcC b G sz w)) (Qcc b G (wn w) sz Q) (rmm m).cells (rmm m).slots (fr (gB G) (wn w) sz)
abbrev MetI (m : MR) (As : List AV) (w : Wo) (K : Int → Wo → Prop) : Prop := MetS true m As w (fun r w' => ∃ x, r = some (vi x) ∧ K x w')
abbrev MetJ (m : MR) (As : List AV) (w : Wo) (K : Int → Wo → Prop) : Prop := MetS true m As w (fun r w' => ∃ x, r = some (vl x) ∧ K x w')
abbrev MetV (m : MR) (As : List AV) (w : Wo) (K : Wo → Prop) : Prop := MetS true m As w (fun r w' => r = none ∧ K w')
theorem Met.imp {l : Launch} {y : MethodName} {ws : List Cond} {rm : Room} {Pc : Array Value → State → Prop} {Qc Qc' : Array Value → State → Outcome → State → Prop} {mc ms : Nat} {free : Addr → Prop} (h : Met l y ws rm Pc Qc mc ms free) (hq : ∀ a st o t, Qc a st o t → Qc' a st o t) : Met l y ws rm Pc Qc' mc ms free := by
  intro p e h1 h2 h3 s m args below h4 h5 h6 h7
  obtain ⟨n, o, a1, a2, a3, a4, a5⟩ := h p e h1 h2 h3 s m args below h4 h5 h6 h7
  exact ⟨n, o, a1, a2, a3, hq _ _ _ _ a4, a5⟩
theorem MetS.mono {b : Bool} {m : MR} {As : List AV} {w : Wo} {Q Q' : Option AV → Wo → Prop} (h : MetS b m As w Q) (hq : ∀ r w', Q r w' → Q' r w') : MetS b m As w Q' := fun l G sz ho =>
  Met.imp (h l G sz ho) (fun a st o t hh => by
    obtain ⟨⟨r, w', h1, h2⟩, h3⟩ := hh
    exact ⟨⟨r, w', hq r w' h1, h2⟩, h3⟩)
theorem KK.moved {G : Gh} {s U : State} {H : Heap} {locs : List Loc} {n0 : Nat} (hW : s.WarmedH U.vm) (hU : U.heap = H) (hS : va_S (fr (gB G) n0 s.heap.size) s.heap H locs) (h : KK G s) : KK G U := ⟨va_K.moved hW.alike h.1, SK.moved hW (fun a h1 h2 => by
  rw [hU]
  refine hS.2.1 a h1 (fun z => ?_)
  unfold fr at z
  omega) h.2⟩
theorem KK.calling {G : Gh} {U : State} {g : JFrame} {mk : MethodId} {a : Array Value} (h : KK G U) : KK G (U.calling g mk a) := ⟨va_K.moved (u := U) (U := U.calling g mk a) (Vm.Alike.refl U.vm) h.1, SK.calling h.2⟩
theorem blindC {b : Bool} {G : Gh} {sz : Nat} {w : Wo} {av : List Value} : FrameBlind (va_Pc av (PcC b G sz w)) := fun a U g mk q => by
  obtain ⟨q0, q1, q2, q3⟩ := q
  exact ⟨q0, q1, q2.calling, q3⟩
def argL : Nat → List AV → List (Nat × AV)
  | _, [] => []
  | i, v :: t => (i, v) :: argL (if isl v then i + 2 else i + 1) t
theorem argL_map (G : Gh) (As : List AV) : ∀ i, lv_args i (As.map (cv G)) = (argL i As).map (fun q => (q.1, cv G q.2)) := by
  induction As with
  | nil => intro i; rfl
  | cons v t ih =>
    intro i
    rw [List.map_cons]
    unfold lv_args argL
    rw [List.map_cons]
    have h1 := cat_cv G v
    cases hv : isl v
    · rw [hv] at h1
      have h2 : ¬ (cv G v).category = 2 := fun z => by rw [z] at h1; cases h1
      rw [if_neg h2, ih]
      rfl
    · rw [hv] at h1
      have h2 : (cv G v).category = 2 := by simpa using h1
      rw [if_pos h2, ih]
      rfl
def slL : List AV → Nat
  | [] => 0
  | v :: t => (if isl v then 2 else 1) + slL t
theorem slL_eq (G : Gh) (As : List AV) : (lg_sl (As.map (cv G))).length = slL As := by
  induction As with
  | nil => rfl
  | cons v t ih =>
    rw [List.map_cons]
    unfold lg_sl slL
    rw [List.flatMap_cons, List.length_append]
    unfold lg_sl at ih
    rw [ih]
    have h1 := cat_cv G v
    cases hv : isl v
    · rw [hv] at h1
      have h2 : ¬ (cv G v).category = 2 := fun z => by rw [z] at h1; cases h1
      rw [if_neg h2]
      rfl
    · rw [hv] at h1
      have h2 : (cv G v).category = 2 := by simpa using h1
      rw [if_pos h2]
      rfl
/-- a walk of the body is the contract -/
theorem met_of {b : Bool} {m : MR} {As : List AV} {w : Wo} {Q : Option AV → Wo → Prop} (hy : plainName (yy m).cls = true) (hn : slL As ≤ nLo m) (h : WpG b b m 0 (argL 0 As) [] (0, 0) w Q) : MetS b m As w Q := fun l G sz ho => by
  refine Met.ofW (cc := cd m) (maxL := nLo m) (ret := rtt m) hy rfl ?_
  intro p e s mm args below meth c s₁ B hml hv
  obtain ⟨rfl, hsz, hK, hP, hi, hI, h1000⟩ := hv
  subst hsz
  have hts := atoms_spec (ws := wsm m) B.pre
  have hlocks := B.notSynchronized
  have hl := lv_entry (As.map (cv G)) (n := nLo m) (by rw [slL_eq]; exact hn)
  rw [lg_entry_eq]
  generalize (lg_sl (As.map (cv G)) ++ List.replicate (nLo m - (lg_sl (As.map (cv G))).length) Slot.unset).toArray = ls at hl ⊢
  rw [argL_map] at hl
  refine h p l e s mm _ below meth c G (wn w) _ s.heap [] ls ⟨B.exec, B.bytes, hml, findClass_of_methodNamed B.named, fun x hx => hts x (List.mem_cons_of_mem _ hx), hK, (name_of_methodNamed B.named B.method).1, ?_⟩ ⟨hl, ?_, fun v hv => (by cases hv), hP, hi, hI, va_S.rf, Nat.le_refl _, Or.inl (Nat.le_refl _), h1000⟩
  · intro H locs ls' pc k r w' hQ hY hk1 hk2 hR
    refine W.widen (k := (rmm m).cells) (n := (rmm m).slots) hk1 hk2 ?_
    have hS := hY.2.2.2.2.2.2.1
    have fin : ∀ (v : Option Value), v = r.map (cv G) → ∀ t : State, t.heap = H → Qcc b G (wn w) s.heap.size Q (As.map (cv G)).toArray s (.returned v) t := fun v hv t ht => ⟨⟨r, w', hQ, by rw [hv], hY.2.2.1, by rw [ht]; exact hY.2.2.2.1, hY.2.2.2.2.1, by rw [ht]; exact hY.2.2.2.2.2.1, hY.2.2.2.2.2.2.2⟩, hS.F ht⟩
    rcases r with _ | x | x | x
    · exact W.vret B.exec B.bytes (B.returns.trans hR.2) (fun t ht _ => fin none rfl t ht) hS.2.2 hR.1
    · have hx : inr32 x := hY.2.2.1 (vi x) List.mem_cons_self
      rcases hR.2 with hr | ⟨hr, hz⟩
      · exact W.iret B.exec B.bytes (B.returns.trans hr) (fun t ht _ => fin _ rfl t ht) hS.2.2 hR.1
      · exact W.zret B.exec B.bytes (B.returns.trans hr) (nar_z hz).1 (fun t ht _ => fin _ rfl t ht) hS.2.2 hR.1
    · exact W.lret B.exec B.bytes (B.returns.trans hR.2) (fun t ht _ => fin _ rfl t ht) hS.2.2 hR.1
    · exact hR.elim
  · intro q hq
    have hall : ∀ (As : List AV) (i : Nat), ∀ q ∈ argL i As, q.2 ∈ As := by
      intro As
      induction As with
      | nil => intro i q hq; cases hq
      | cons v t ih =>
        intro i q hq
        unfold argL at hq
        rcases List.mem_cons.mp hq with rfl | h2
        · exact List.mem_cons_self
        · exact List.mem_cons_of_mem _ (ih _ q h2)
    exact ho _ (hall As 0 q hq)
section Calls
variable {b bF : Bool} {m : MR} {pc : Nat} {L : List (Nat × AV)} {S : List AV} {k : Nat × Nat} {w : Wo} {Q : Option AV → Wo → Prop}
theorem run_k {p : Program} {l : Launch} {e : Env} {s : State} {mm : MethodId} {args : Array Value} {below : List Frame} {meth : Method} {c : Code} {G : Gh} {n0 : Nat} {Z : State → Prop} {H : Heap} {locs : List Loc} {ls : Array Slot} {mc ms : Nat} {st : List Value} {S0 : List AV} {a : Array Value} {Qx : Option AV → Wo → Prop}
    (hr : va_Run p l e (rmm m) s mm args below meth c H locs k.1 k.2 mc ms (F0 mm pc ls st) (S.map (cv G)) (Qcc b G (wn w) H.size Qx a) (fr (gB G) (wn w) H.size)) (X : Wx m Q p l e s mm args below meth c bF G n0 Z) (Y : Wy b G n0 s (nLo m) L S0 w H locs ls) (hs : ∀ v ∈ S, okv v)
    (hx : ∀ r w', Qx r w' → WpG b bF m (pc + 3) L (r.toList ++ S) (k.1 + mc, k.2 + ms) w' Q) : W p l e (rmm m) s mm args below meth c H locs k.1 k.2 Z (F0 mm pc ls st) := by
  intro T hT X0
  obtain ⟨v, st₀, t, T', L0, h0, X', hL, e1, e2, ⟨⟨r, w', hq, hv, ho, hP, hi, hI, hn1, hn2, hn3⟩, hz, hk⟩, stp⟩ := hr T hT X0
  cases hv
  rw [h0] at hz hk
  have hS := Y.2.2.2.2.2.2.1
  have hc1 := Y.2.2.2.2.2.2.2.1
  have hc2 := Y.2.2.2.2.2.2.2.2.1
  have hsub : ∀ q, fr (gB G) (wn w) H.size q → fr (gB G) n0 s.heap.size q := by
    intro q hq
    have h9 := hS.1
    unfold fr at hq ⊢
    omega
  have Y' : Wy b G n0 s (nLo m) L (r.toList ++ S) w' T'.heap (locs ++ L0) ls := by
    refine ⟨Y.1, Y.2.1, fun v hv => ?_, by rw [e1]; exact hP, hi, by rw [e1]; exact hI, ⟨Nat.le_trans hS.1 (by rw [e1]; exact hz), fun q h1 h2 => ?_, fun q hq => ?_⟩, by omega, ?_, hn3⟩
    · rcases List.mem_append.mp hv with h | h
      · exact ho v h
      · exact hs v h
    · rw [e1, hk q (Nat.lt_of_lt_of_le h1 hS.1) (fun z => h2 (hsub q z))]
      exact hS.2.1 q h1 h2
    · rcases List.mem_append.mp hq with h | h
      · exact hS.2.2 q h
      · exact hsub _ (hL q h)
    · have h9 := hS.1
      omega
  have hh := hx r w' hq p l e s mm args below meth c G n0 Z T'.heap (locs ++ L0) ls X Y'
  obtain ⟨t2, a1, b1⟩ := hh T' rfl X'
  refine ⟨t2, stp t2 ?_, b1⟩
  have e3 : (r.toList ++ S).map (cv G) = (r.map (cv G)).toList ++ S.map (cv G) := by
    rw [List.map_append]
    cases r <;> rfl
  rw [e3] at a1
  exact a1
def catA (v : AV) : Nat := if isl v then 2 else 1
theorem catA_eq (G : Gh) (v : AV) : (cv G v).category = catA v := by
  have h1 := cat_cv G v
  unfold catA
  cases hv : isl v
  · exact cat1 G hv
  · rw [hv] at h1
    have h2 : (cv G v).category = 2 := by simpa using h1
    rw [h2]; rfl
theorem catS_eq (G : Gh) (S : List AV) : ((S.map (cv G)).map fun v => v.category).sum = (S.map catA).sum := by
  rw [List.map_map]
  congr 1
  refine List.map_congr_left (fun v _ => ?_)
  exact catA_eq G v
/-- what the tables say of a callee c with n arguments, called in m -/
def CaP (m c : MR) (n : Nat) : Prop := Cond.code (yy c) (cd c) (nLo c) (rtt c) ∈ AW ∧ Cond.initialized (yy c).cls ∈ AW ∧ ((yy c).cls ≠ "java/lang/invoke/MethodHandle" ∧ (yy c).cls ≠ "java/lang/invoke/VarHandle") ∧ (parseMethodDescriptor (yy c).desc).map (fun d => d.parameters.length) = some n ∧ ((rmm c).frames + 1 ≤ (rmm m).frames ∧ 8 + (nLo c + 11) + (rmm c).locals ≤ (rmm m).locals)
theorem goodC {c : MR} (h : Cond.code (yy c) (cd c) (nLo c) (rtt c) ∈ AW) : GoodIn AW (wsm c) := fun x hx => by
  have hin : x ∈ AW := by
    rcases List.mem_cons.mp hx with rfl | h2
    · exact h
    · exact h2
  exact ⟨hin, AW_good x hin⟩
theorem callB_c {s : State} {args : Array Value} {c : MR} {n idx : Nat} (h : CaP m c n) (hl : Cond.methodLink (yy m).cls idx (yy c) ∈ AW) (hts : ∀ w ∈ AW, w.before args s = true) : CallB (rmm m) s args (yy m).cls idx (yy c) (cd c) (nLo c) (rtt c) (wsm c) (rmm c) (rmm c).cells (rmm c).slots n :=
  callB_of n hts (goodC h.1) rfl rfl rfl (hts _ h.2.1) (hts _ hl) ⟨h.2.2.1.1, h.2.2.1.2, h.2.2.2.1⟩ h.2.2.2.2
/-- a virtual call: pool entry idx of m's class is method c, with n arguments, of class ci -/
def VLP (m c : MR) (idx n ci : Nat) : Prop := CaP m c n ∧ Cond.methodLink (yy m).cls idx (yy c) ∈ AW ∧ Cond.instanceMethod (yy c) ∈ AW ∧ Cond.selects (yy c).cls (yy c) (yy c) ∈ AW ∧ ∃ T, clT[ci]? = some ((yy c).cls, T, nf ci)
def SLP (m c : MR) (idx n : Nat) : Prop := CaP m c n ∧ Cond.methodLink (yy m).cls idx (yy c) ∈ AW ∧ Cond.static (yy c) ∈ AW
theorem wp_callV {c : MR} {idx q ci : Nat} {A St : List AV} (hd : decode (cd m) pc = .ok (.invokevirtual idx, 3)) (hvl : VLP m c idx A.length ci) (hq : oq w q (0, ci))
    (hst : St = A.reverse ++ vr q :: S) (hW : (S.map catA).sum ≤ 8) (hk : k.1 + (rmm c).cells ≤ (rmm m).cells ∧ k.2 + (rmm c).slots ≤ (rmm m).slots)
    (hM : MetS b c (vr q :: A) w (fun r w' => WpG b bF m (pc + 3) L (r.toList ++ S) (k.1 + (rmm c).cells, k.2 + (rmm c).slots) w' Q)) : WpG b bF m pc L St k w Q := fun p l e s mm args below meth c0 G n0 Z H locs ls X Y => by
  subst hst
  obtain ⟨hc, hl, hin, hse, T, hci⟩ := hvl
  have hoA : ∀ v ∈ A, okv v := fun v hv => Y.2.2.1 v (List.mem_append_left _ (List.mem_reverse.mpr hv))
  have hoS : ∀ v ∈ S, okv v := fun v hv => Y.2.2.1 v (List.mem_append_right _ (List.mem_cons_of_mem _ hv))
  have hq1 : q ≤ 1000 := Nat.le_trans hq.2.1 Y.2.2.2.2.2.2.2.2.2
  have hM2 := hM l G H.size (okv_cons trivial hoA)
  rw [mp_ref hq.1 hq1] at hM2
  refine run_k (va_runV (b := gB G + q) (As := A.map (cv G)) (C := (yy c).cls) (n := A.length) (nL := nLo m) ⟨X.1, X.2.1, X.2.2.1, X.2.2.2.1, X.2.2.2.2.1⟩ hM2 ⟨callB_c hc hl X.2.2.2.2.1, X.2.2.2.2.1 _ hin, X.2.2.2.2.1 _ hse⟩ ⟨blindC, va_recv X.2.2.2.2.2.1.1 Y.2.2.2.1 hci (cE_obj hq), fun U hU hW2 => ⟨rfl, by rw [hU], X.2.2.2.2.2.1.moved hW2 hU Y.2.2.2.2.2.2.1, by rw [hU]; exact Y.2.2.2.1, Y.2.2.2.2.1, by rw [hU]; exact Y.2.2.2.2.2.1, Y.2.2.2.2.2.2.2.2.2⟩⟩ rfl (by rw [List.length_map]) Y.1.1 ?_ ?_ hd hk) X Y hoS (fun r w' h => h)
  · show (A.reverse ++ vr q :: S).map (cv G) = _
    rw [List.map_append, mp_ref hq.1 hq1, List.map_reverse]
  · show 0 + ((S.map (cv G)).map fun v => v.category).sum ≤ 8
    rw [catS_eq, Nat.zero_add]
    exact hW
theorem wp_callS {c : MR} {idx : Nat} {A St : List AV} (hd : decode (cd m) pc = .ok (.invokestatic idx, 3)) (hsl : SLP m c idx A.length)
    (hst : St = A.reverse ++ S) (hW : (S.map catA).sum ≤ 8) (hk : k.1 + (rmm c).cells ≤ (rmm m).cells ∧ k.2 + (rmm c).slots ≤ (rmm m).slots)
    (hM : MetS b c A w (fun r w' => WpG b bF m (pc + 3) L (r.toList ++ S) (k.1 + (rmm c).cells, k.2 + (rmm c).slots) w' Q)) : WpG b bF m pc L St k w Q := fun p l e s mm args below meth c0 G n0 Z H locs ls X Y => by
  subst hst
  obtain ⟨hc, hl, hin⟩ := hsl
  have hoA : ∀ v ∈ A, okv v := fun v hv => Y.2.2.1 v (List.mem_append_left _ (List.mem_reverse.mpr hv))
  have hoS : ∀ v ∈ S, okv v := fun v hv => Y.2.2.1 v (List.mem_append_right _ hv)
  have hM2 := hM l G H.size hoA
  refine run_k (va_runS (As := A.map (cv G)) (n := A.length) (nL := nLo m) ⟨X.1, X.2.1, X.2.2.1, X.2.2.2.1, X.2.2.2.2.1⟩ hM2 ⟨callB_c hc hl X.2.2.2.2.1, X.2.2.2.2.1 _ hin⟩ ⟨blindC, fun U hU hW2 => ⟨rfl, by rw [hU], X.2.2.2.2.2.1.moved hW2 hU Y.2.2.2.2.2.2.1, by rw [hU]; exact Y.2.2.2.1, Y.2.2.2.2.1, by rw [hU]; exact Y.2.2.2.2.2.1, Y.2.2.2.2.2.2.2.2.2⟩⟩ rfl (by rw [List.length_map]) Y.1.1 ?_ ?_ hd hk) X Y hoS (fun r w' h => h)
  · show (A.reverse ++ S).map (cv G) = _
    rw [List.map_append, List.map_reverse]
  · show 0 + ((S.map (cv G)).map fun v => v.category).sum ≤ 8
    rw [catS_eq, Nat.zero_add]
    exact hW
theorem wp_callC {c : MR} {idx q : Nat} {A St : List AV} (hd : decode (cd m) pc = .ok (.invokespecial idx, 3)) (hc : CaP m c A.length) (hrt : rtt c = none) (hl : Cond.methodLink (yy m).cls idx (yy c) ∈ AW) (hin : Cond.instanceMethod (yy c) ∈ AW) (hnm : (yy c).name = "<init>") (hq0 : 0 < q) (hq : q ≤ 1000)
    (hst : St = A.reverse ++ vr q :: S) (hW : (S.map catA).sum ≤ 8) (hk : k.1 + (rmm c).cells ≤ (rmm m).cells ∧ k.2 + (rmm c).slots ≤ (rmm m).slots)
    (hM : MetS b c (vr q :: A) w (fun r w' => WpG b bF m (pc + 3) L (r.toList ++ S) (k.1 + (rmm c).cells, k.2 + (rmm c).slots) w' Q)) : WpG b bF m pc L St k w Q := fun p l e s mm args below meth c0 G n0 Z H locs ls X Y => by
  subst hst
  have hoA : ∀ v ∈ A, okv v := fun v hv => Y.2.2.1 v (List.mem_append_left _ (List.mem_reverse.mpr hv))
  have hoS : ∀ v ∈ S, okv v := fun v hv => Y.2.2.1 v (List.mem_append_right _ (List.mem_cons_of_mem _ hv))
  have hM2 := hM l G H.size (okv_cons trivial hoA)
  rw [mp_ref hq0 hq] at hM2
  have hcb := callB_c (m := m) hc hl X.2.2.2.2.1
  rw [hrt] at hcb
  refine run_k (va_runI (b := gB G + q) (As := A.map (cv G)) (n := A.length) (nL := nLo m) ⟨X.1, X.2.1, X.2.2.1, X.2.2.2.1, X.2.2.2.2.1⟩ hM2 ⟨hcb, hnm, X.2.2.2.2.1 _ hin⟩ ⟨blindC, fun U hU hW2 => ⟨rfl, by rw [hU], X.2.2.2.2.2.1.moved hW2 hU Y.2.2.2.2.2.2.1, by rw [hU]; exact Y.2.2.2.1, Y.2.2.2.2.1, by rw [hU]; exact Y.2.2.2.2.2.1, Y.2.2.2.2.2.2.2.2.2⟩⟩ rfl (by rw [List.length_map]) Y.1.1 ?_ ?_ hd hk) X Y hoS (fun r w' h => h)
  · show (A.reverse ++ vr q :: S).map (cv G) = _
    rw [List.map_append, mp_ref hq0 hq, List.map_reverse]
  · show 0 + ((S.map (cv G)).map fun v => v.category).sum ≤ 8
    rw [catS_eq, Nat.zero_add]
    exact hW
end Calls
end
section
/-! the classes as the tables have them (by program) -/
theorem cl_0 : ClP 0 := ⟨RC0, TC0, rfl, fun w hw => by
  have h2 : w ∈ [u_lay RC0 TC0 0, u_lay RC0 TC0 1, u_lay RC0 TC0 2, u_lay RC0 TC0 3, u_lay RC0 TC0 4, u_lay RC0 TC0 5, u_lay RC0 TC0 6, u_lay RC0 TC0 7] := hw
  simp only [List.mem_cons, List.not_mem_nil, or_false] at h2
  rcases h2 with rfl | rfl | rfl | rfl | rfl | rfl | rfl | rfl
  · exact (aw2 (i := 75) rfl rfl)
  · exact (aw2 (i := 77) rfl rfl)
  · exact (aw2 (i := 79) rfl rfl)
  · exact (aw2 (i := 81) rfl rfl)
  · exact (aw2 (i := 83) rfl rfl)
  · exact (aw2 (i := 85) rfl rfl)
  · exact (aw2 (i := 87) rfl rfl)
  · exact (aw2 (i := 89) rfl rfl)
  , by decide +kernel, by decide +kernel⟩
theorem cl_1 : ClP 1 := ⟨RC1, TC1, rfl, fun w hw => by
  have h2 : w ∈ [u_lay RC1 TC1 0, u_lay RC1 TC1 1, u_lay RC1 TC1 2, u_lay RC1 TC1 3, u_lay RC1 TC1 4, u_lay RC1 TC1 5, u_lay RC1 TC1 6, u_lay RC1 TC1 7, u_lay RC1 TC1 8, u_lay RC1 TC1 9, u_lay RC1 TC1 10, u_lay RC1 TC1 11] := hw
  simp only [List.mem_cons, List.not_mem_nil, or_false] at h2
  rcases h2 with rfl | rfl | rfl | rfl | rfl | rfl | rfl | rfl | rfl | rfl | rfl | rfl
  · exact (aw1 (i := 156) rfl rfl)
  · exact (aw1 (i := 158) rfl rfl)
  · exact (aw1 (i := 160) rfl rfl)
  · exact (aw1 (i := 162) rfl rfl)
  · exact (aw1 (i := 164) rfl rfl)
  · exact (aw1 (i := 166) rfl rfl)
  · exact (aw1 (i := 168) rfl rfl)
  · exact (aw1 (i := 170) rfl rfl)
  · exact (aw1 (i := 172) rfl rfl)
  · exact (aw1 (i := 174) rfl rfl)
  · exact (aw1 (i := 176) rfl rfl)
  · exact (aw1 (i := 178) rfl rfl)
  , by decide +kernel, by decide +kernel⟩
theorem cl_2 : ClP 2 := ⟨RC2, TC2, rfl, fun w hw => by
  have h2 : w ∈ [u_lay RC2 TC2 0, u_lay RC2 TC2 1, u_lay RC2 TC2 2] := hw
  simp only [List.mem_cons, List.not_mem_nil, or_false] at h2
  rcases h2 with rfl | rfl | rfl
  · exact (aw1 (i := 191) rfl rfl)
  · exact (aw1 (i := 193) rfl rfl)
  · exact (aw1 (i := 195) rfl rfl)
  , by decide +kernel, by decide +kernel⟩
theorem cl_3 : ClP 3 := ⟨RC3, TC3, rfl, fun w hw => by
  have h2 : w ∈ [u_lay RC3 TC3 0, u_lay RC3 TC3 1, u_lay RC3 TC3 2, u_lay RC3 TC3 3, u_lay RC3 TC3 4, u_lay RC3 TC3 5, u_lay RC3 TC3 6] := hw
  simp only [List.mem_cons, List.not_mem_nil, or_false] at h2
  rcases h2 with rfl | rfl | rfl | rfl | rfl | rfl | rfl
  · exact (aw1 (i := 110) rfl rfl)
  · exact (aw1 (i := 112) rfl rfl)
  · exact (aw1 (i := 114) rfl rfl)
  · exact (aw1 (i := 116) rfl rfl)
  · exact (aw1 (i := 118) rfl rfl)
  · exact (aw1 (i := 120) rfl rfl)
  · exact (aw1 (i := 122) rfl rfl)
  , by decide +kernel, by decide +kernel⟩
theorem cl_4 : ClP 4 := ⟨RC4, TC4, rfl, fun w hw => by
  have h2 : w ∈ [u_lay RC4 TC4 0, u_lay RC4 TC4 1, u_lay RC4 TC4 2, u_lay RC4 TC4 3, u_lay RC4 TC4 4, u_lay RC4 TC4 5, u_lay RC4 TC4 6, u_lay RC4 TC4 7, u_lay RC4 TC4 8, u_lay RC4 TC4 9] := hw
  simp only [List.mem_cons, List.not_mem_nil, or_false] at h2
  rcases h2 with rfl | rfl | rfl | rfl | rfl | rfl | rfl | rfl | rfl | rfl
  · exact (aw1 (i := 210) rfl rfl)
  · exact (aw1 (i := 212) rfl rfl)
  · exact (aw1 (i := 214) rfl rfl)
  · exact (aw1 (i := 216) rfl rfl)
  · exact (aw1 (i := 218) rfl rfl)
  · exact (aw1 (i := 220) rfl rfl)
  · exact (aw1 (i := 222) rfl rfl)
  · exact (aw1 (i := 224) rfl rfl)
  · exact (aw1 (i := 226) rfl rfl)
  · exact (aw1 (i := 228) rfl rfl)
  , by decide +kernel, by decide +kernel⟩
theorem cl_5 : ClP 5 := ⟨RC5, TC5, rfl, fun w hw => by
  have h2 : w ∈ [u_lay RC5 TC5 0, u_lay RC5 TC5 1, u_lay RC5 TC5 2, u_lay RC5 TC5 3, u_lay RC5 TC5 4, u_lay RC5 TC5 5, u_lay RC5 TC5 6, u_lay RC5 TC5 7, u_lay RC5 TC5 8, u_lay RC5 TC5 9, u_lay RC5 TC5 10, u_lay RC5 TC5 11] := hw
  simp only [List.mem_cons, List.not_mem_nil, or_false] at h2
  rcases h2 with rfl | rfl | rfl | rfl | rfl | rfl | rfl | rfl | rfl | rfl | rfl | rfl
  · exact (aw2 (i := 34) rfl rfl)
  · exact (aw2 (i := 36) rfl rfl)
  · exact (aw2 (i := 38) rfl rfl)
  · exact (aw2 (i := 40) rfl rfl)
  · exact (aw2 (i := 42) rfl rfl)
  · exact (aw2 (i := 44) rfl rfl)
  · exact (aw2 (i := 46) rfl rfl)
  · exact (aw2 (i := 48) rfl rfl)
  · exact (aw2 (i := 50) rfl rfl)
  · exact (aw2 (i := 52) rfl rfl)
  · exact (aw2 (i := 54) rfl rfl)
  · exact (aw2 (i := 56) rfl rfl)
  , by decide +kernel, by decide +kernel⟩
theorem cl_6 : ClP 6 := ⟨RC6, TC6, rfl, fun w hw => by
  have h2 : w ∈ [u_lay RC6 TC6 0, u_lay RC6 TC6 1] := hw
  simp only [List.mem_cons, List.not_mem_nil, or_false] at h2
  rcases h2 with rfl | rfl
  · exact (aw1 (i := 41) rfl rfl)
  · exact (aw1 (i := 43) rfl rfl)
  , by decide +kernel, by decide +kernel⟩
theorem cl_7 : ClP 7 := ⟨RC7, TC7, rfl, fun w hw => by
  have h2 : w ∈ [u_lay RC7 TC7 0, u_lay RC7 TC7 1, u_lay RC7 TC7 2, u_lay RC7 TC7 3] := hw
  simp only [List.mem_cons, List.not_mem_nil, or_false] at h2
  rcases h2 with rfl | rfl | rfl | rfl
  · exact (aw1 (i := 67) rfl rfl)
  · exact (aw1 (i := 69) rfl rfl)
  · exact (aw1 (i := 71) rfl rfl)
  · exact (aw1 (i := 73) rfl rfl)
  , by decide +kernel, by decide +kernel⟩
theorem cl_8 : ClP 8 := ⟨RC8, TC8, rfl, fun w hw => by
  have h2 : w ∈ [u_lay RC8 TC8 0, u_lay RC8 TC8 1, u_lay RC8 TC8 2, u_lay RC8 TC8 3] := hw
  simp only [List.mem_cons, List.not_mem_nil, or_false] at h2
  rcases h2 with rfl | rfl | rfl | rfl
  · exact (aw2 (i := 96) rfl rfl)
  · exact (aw2 (i := 98) rfl rfl)
  · exact (aw2 (i := 100) rfl rfl)
  · exact (aw2 (i := 102) rfl rfl)
  , by decide +kernel, by decide +kernel⟩
theorem cl_9 : ClP 9 := ⟨RC9, TC9, rfl, fun w hw => by
  have h2 : w ∈ [u_lay RC9 TC9 0, u_lay RC9 TC9 1, u_lay RC9 TC9 2, u_lay RC9 TC9 3, u_lay RC9 TC9 4, u_lay RC9 TC9 5, u_lay RC9 TC9 6, u_lay RC9 TC9 7, u_lay RC9 TC9 8, u_lay RC9 TC9 9, u_lay RC9 TC9 10, u_lay RC9 TC9 11, u_lay RC9 TC9 12, u_lay RC9 TC9 13, u_lay RC9 TC9 14, u_lay RC9 TC9 15, u_lay RC9 TC9 16, u_lay RC9 TC9 17, u_lay RC9 TC9 18, u_lay RC9 TC9 19, u_lay RC9 TC9 20, u_lay RC9 TC9 21, u_lay RC9 TC9 22, u_lay RC9 TC9 23, u_lay RC9 TC9 24, u_lay RC9 TC9 25, u_lay RC9 TC9 26, u_lay RC9 TC9 27, u_lay RC9 TC9 28, u_lay RC9 TC9 29, u_lay RC9 TC9 30, u_lay RC9 TC9 31, u_lay RC9 TC9 32, u_lay RC9 TC9 33, u_lay RC9 TC9 34, u_lay RC9 TC9 35, u_lay RC9 TC9 36, u_lay RC9 TC9 37, u_lay RC9 TC9 38, u_lay RC9 TC9 39, u_lay RC9 TC9 40, u_lay RC9 TC9 41, u_lay RC9 TC9 42, u_lay RC9 TC9 43, u_lay RC9 TC9 44, u_lay RC9 TC9 45, u_lay RC9 TC9 46, u_lay RC9 TC9 47, u_lay RC9 TC9 48, u_lay RC9 TC9 49, u_lay RC9 TC9 50, u_lay RC9 TC9 51, u_lay RC9 TC9 52, u_lay RC9 TC9 53, u_lay RC9 TC9 54, u_lay RC9 TC9 55] := hw
  simp only [List.mem_cons, List.not_mem_nil, or_false] at h2
  rcases h2 with rfl | rfl | rfl | rfl | rfl | rfl | rfl | rfl | rfl | rfl | rfl | rfl | rfl | rfl | rfl | rfl | rfl | rfl | rfl | rfl | rfl | rfl | rfl | rfl | rfl | rfl | rfl | rfl | rfl | rfl | rfl | rfl | rfl | rfl | rfl | rfl | rfl | rfl | rfl | rfl | rfl | rfl | rfl | rfl | rfl | rfl | rfl | rfl | rfl | rfl | rfl | rfl | rfl | rfl | rfl | rfl
  · exact (aw4 (i := 146) rfl rfl)
  · exact (aw4 (i := 148) rfl rfl)
  · exact (aw4 (i := 150) rfl rfl)
  · exact (aw4 (i := 152) rfl rfl)
  · exact (aw4 (i := 154) rfl rfl)
  · exact (aw4 (i := 156) rfl rfl)
  · exact (aw4 (i := 158) rfl rfl)
  · exact (aw4 (i := 160) rfl rfl)
  · exact (aw4 (i := 162) rfl rfl)
  · exact (aw4 (i := 164) rfl rfl)
  · exact (aw4 (i := 166) rfl rfl)
  · exact (aw4 (i := 168) rfl rfl)
  · exact (aw4 (i := 170) rfl rfl)
  · exact (aw4 (i := 172) rfl rfl)
  · exact (aw4 (i := 174) rfl rfl)
  · exact (aw4 (i := 176) rfl rfl)
  · exact (aw4 (i := 178) rfl rfl)
  · exact (aw4 (i := 180) rfl rfl)
  · exact (aw4 (i := 182) rfl rfl)
  · exact (aw4 (i := 184) rfl rfl)
  · exact (aw4 (i := 186) rfl rfl)
  · exact (aw4 (i := 188) rfl rfl)
  · exact (aw4 (i := 190) rfl rfl)
  · exact (aw4 (i := 192) rfl rfl)
  · exact (aw4 (i := 194) rfl rfl)
  · exact (aw4 (i := 196) rfl rfl)
  · exact (aw4 (i := 198) rfl rfl)
  · exact (aw4 (i := 200) rfl rfl)
  · exact (aw4 (i := 202) rfl rfl)
  · exact (aw4 (i := 204) rfl rfl)
  · exact (aw4 (i := 206) rfl rfl)
  · exact (aw4 (i := 208) rfl rfl)
  · exact (aw4 (i := 210) rfl rfl)
  · exact (aw4 (i := 212) rfl rfl)
  · exact (aw4 (i := 214) rfl rfl)
  · exact (aw4 (i := 216) rfl rfl)
  · exact (aw4 (i := 218) rfl rfl)
  · exact (aw4 (i := 220) rfl rfl)
  · exact (aw4 (i := 222) rfl rfl)
  · exact (aw4 (i := 224) rfl rfl)
  · exact (aw4 (i := 226) rfl rfl)
  · exact (aw4 (i := 228) rfl rfl)
  · exact (aw4 (i := 230) rfl rfl)
  · exact (aw4 (i := 232) rfl rfl)
  · exact (aw4 (i := 234) rfl rfl)
  · exact (aw4 (i := 236) rfl rfl)
  · exact (aw4 (i := 238) rfl rfl)
  · exact (aw5 (i := 0) rfl rfl)
  · exact (aw5 (i := 2) rfl rfl)
  · exact (aw5 (i := 4) rfl rfl)
  · exact (aw5 (i := 6) rfl rfl)
  · exact (aw5 (i := 8) rfl rfl)
  · exact (aw5 (i := 10) rfl rfl)
  · exact (aw5 (i := 12) rfl rfl)
  · exact (aw5 (i := 14) rfl rfl)
  · exact (aw5 (i := 16) rfl rfl)
  , by decide +kernel, by decide +kernel⟩
end
section
/-! decode rows (by program) -/
theorem d_Bk_init_0 : decode (cd m_Bk_init) 0 = .ok (.aload_n 0, 1) := by decide +kernel
theorem d_Bk_init_1 : decode (cd m_Bk_init) 1 = .ok (.invokespecial 3, 3) := by decide +kernel
theorem d_Bk_init_4 : decode (cd m_Bk_init) 4 = .ok (.aload_n 0, 1) := by decide +kernel
theorem d_Bk_init_5 : decode (cd m_Bk_init) 5 = .ok (.new 9, 3) := by decide +kernel
theorem d_Bk_init_8 : decode (cd m_Bk_init) 8 = .ok (.dup, 1) := by decide +kernel
theorem d_Bk_init_9 : decode (cd m_Bk_init) 9 = .ok (.invokespecial 11, 3) := by decide +kernel
theorem d_Bk_init_12 : decode (cd m_Bk_init) 12 = .ok (.putfield 12, 3) := by decide +kernel
theorem d_Bk_init_15 : decode (cd m_Bk_init) 15 = .ok (.aload_n 0, 1) := by decide +kernel
theorem d_Bk_init_16 : decode (cd m_Bk_init) 16 = .ok (.bipush 16, 2) := by decide +kernel
theorem d_Bk_init_18 : decode (cd m_Bk_init) 18 = .ok (.newarray .long, 2) := by decide +kernel
theorem d_Bk_init_20 : decode (cd m_Bk_init) 20 = .ok (.putfield 18, 3) := by decide +kernel
theorem d_Bk_init_23 : decode (cd m_Bk_init) 23 = .ok (.aload_n 0, 1) := by decide +kernel
theorem d_Bk_init_24 : decode (cd m_Bk_init) 24 = .ok (.bipush 16, 2) := by decide +kernel
theorem d_Bk_init_26 : decode (cd m_Bk_init) 26 = .ok (.newarray .int, 2) := by decide +kernel
theorem d_Bk_init_28 : decode (cd m_Bk_init) 28 = .ok (.putfield 22, 3) := by decide +kernel
theorem d_Bk_init_31 : decode (cd m_Bk_init) 31 = .ok (.aload_n 0, 1) := by decide +kernel
theorem d_Bk_init_32 : decode (cd m_Bk_init) 32 = .ok (.bipush 16, 2) := by decide +kernel
theorem d_Bk_init_34 : decode (cd m_Bk_init) 34 = .ok (.newarray .int, 2) := by decide +kernel
theorem d_Bk_init_36 : decode (cd m_Bk_init) 36 = .ok (.putfield 26, 3) := by decide +kernel
theorem d_Bk_init_39 : decode (cd m_Bk_init) 39 = .ok (.aload_n 0, 1) := by decide +kernel
theorem d_Bk_init_40 : decode (cd m_Bk_init) 40 = .ok (.bipush 16, 2) := by decide +kernel
theorem d_Bk_init_42 : decode (cd m_Bk_init) 42 = .ok (.newarray .int, 2) := by decide +kernel
theorem d_Bk_init_44 : decode (cd m_Bk_init) 44 = .ok (.putfield 29, 3) := by decide +kernel
theorem d_Bk_init_47 : decode (cd m_Bk_init) 47 = .ok (.aload_n 0, 1) := by decide +kernel
theorem d_Bk_init_48 : decode (cd m_Bk_init) 48 = .ok (.bipush 16, 2) := by decide +kernel
theorem d_Bk_init_50 : decode (cd m_Bk_init) 50 = .ok (.newarray .int, 2) := by decide +kernel
theorem d_Bk_init_52 : decode (cd m_Bk_init) 52 = .ok (.putfield 32, 3) := by decide +kernel
theorem d_Bk_init_55 : decode (cd m_Bk_init) 55 = .ok (.aload_n 0, 1) := by decide +kernel
theorem d_Bk_init_56 : decode (cd m_Bk_init) 56 = .ok (.bipush 16, 2) := by decide +kernel
theorem d_Bk_init_58 : decode (cd m_Bk_init) 58 = .ok (.newarray .int, 2) := by decide +kernel
theorem d_Bk_init_60 : decode (cd m_Bk_init) 60 = .ok (.putfield 35, 3) := by decide +kernel
theorem d_Bk_init_63 : decode (cd m_Bk_init) 63 = .ok (.return_, 1) := by decide +kernel
theorem d_Bk_clear_0 : decode (cd m_Bk_clear) 0 = .ok (.aload_n 0, 1) := by decide +kernel
theorem d_Bk_clear_1 : decode (cd m_Bk_clear) 1 = .ok (.iconst 0, 1) := by decide +kernel
theorem d_Bk_clear_2 : decode (cd m_Bk_clear) 2 = .ok (.putfield 38, 3) := by decide +kernel
theorem d_Bk_clear_5 : decode (cd m_Bk_clear) 5 = .ok (.aload_n 0, 1) := by decide +kernel
theorem d_Bk_clear_6 : decode (cd m_Bk_clear) 6 = .ok (.getfield 12, 3) := by decide +kernel
theorem d_Bk_clear_9 : decode (cd m_Bk_clear) 9 = .ok (.iconst 0, 1) := by decide +kernel
theorem d_Bk_clear_10 : decode (cd m_Bk_clear) 10 = .ok (.putfield 42, 3) := by decide +kernel
theorem d_Bk_clear_13 : decode (cd m_Bk_clear) 13 = .ok (.return_, 1) := by decide +kernel
theorem d_Bk_numberOf_0 : decode (cd m_Bk_numberOf) 0 = .ok (.iconst 0, 1) := by decide +kernel
theorem d_Bk_numberOf_1 : decode (cd m_Bk_numberOf) 1 = .ok (.istore_n 3, 1) := by decide +kernel
theorem d_Bk_numberOf_2 : decode (cd m_Bk_numberOf) 2 = .ok (.iload_n 3, 1) := by decide +kernel
theorem d_Bk_numberOf_3 : decode (cd m_Bk_numberOf) 3 = .ok (.aload_n 0, 1) := by decide +kernel
theorem d_Bk_numberOf_4 : decode (cd m_Bk_numberOf) 4 = .ok (.getfield 38, 3) := by decide +kernel
theorem d_Bk_numberOf_7 : decode (cd m_Bk_numberOf) 7 = .ok (.if_icmp .ge 22, 3) := by decide +kernel
theorem d_Bk_numberOf_10 : decode (cd m_Bk_numberOf) 10 = .ok (.aload_n 0, 1) := by decide +kernel
theorem d_Bk_numberOf_11 : decode (cd m_Bk_numberOf) 11 = .ok (.getfield 18, 3) := by decide +kernel
theorem d_Bk_numberOf_14 : decode (cd m_Bk_numberOf) 14 = .ok (.iload_n 3, 1) := by decide +kernel
theorem d_Bk_numberOf_15 : decode (cd m_Bk_numberOf) 15 = .ok (.laload, 1) := by decide +kernel
theorem d_Bk_numberOf_16 : decode (cd m_Bk_numberOf) 16 = .ok (.lload_n 1, 1) := by decide +kernel
theorem d_Bk_numberOf_17 : decode (cd m_Bk_numberOf) 17 = .ok (.lcmp, 1) := by decide +kernel
theorem d_Bk_numberOf_18 : decode (cd m_Bk_numberOf) 18 = .ok (.ifCond .ne 5, 3) := by decide +kernel
theorem d_Bk_numberOf_21 : decode (cd m_Bk_numberOf) 21 = .ok (.iload_n 3, 1) := by decide +kernel
theorem d_Bk_numberOf_22 : decode (cd m_Bk_numberOf) 22 = .ok (.ireturn, 1) := by decide +kernel
theorem d_Bk_numberOf_23 : decode (cd m_Bk_numberOf) 23 = .ok (.iinc 3 1, 3) := by decide +kernel
theorem d_Bk_numberOf_26 : decode (cd m_Bk_numberOf) 26 = .ok (.goto (-24), 3) := by decide +kernel
theorem d_Bk_numberOf_29 : decode (cd m_Bk_numberOf) 29 = .ok (.aload_n 0, 1) := by decide +kernel
theorem d_Bk_numberOf_30 : decode (cd m_Bk_numberOf) 30 = .ok (.getfield 38, 3) := by decide +kernel
theorem d_Bk_numberOf_33 : decode (cd m_Bk_numberOf) 33 = .ok (.bipush 16, 2) := by decide +kernel
theorem d_Bk_numberOf_35 : decode (cd m_Bk_numberOf) 35 = .ok (.if_icmp .lt 5, 3) := by decide +kernel
theorem d_Bk_numberOf_38 : decode (cd m_Bk_numberOf) 38 = .ok (.iconst (-1), 1) := by decide +kernel
theorem d_Bk_numberOf_39 : decode (cd m_Bk_numberOf) 39 = .ok (.ireturn, 1) := by decide +kernel
theorem d_Bk_numberOf_40 : decode (cd m_Bk_numberOf) 40 = .ok (.aload_n 0, 1) := by decide +kernel
theorem d_Bk_numberOf_41 : decode (cd m_Bk_numberOf) 41 = .ok (.getfield 18, 3) := by decide +kernel
theorem d_Bk_numberOf_44 : decode (cd m_Bk_numberOf) 44 = .ok (.aload_n 0, 1) := by decide +kernel
theorem d_Bk_numberOf_45 : decode (cd m_Bk_numberOf) 45 = .ok (.getfield 38, 3) := by decide +kernel
theorem d_Bk_numberOf_48 : decode (cd m_Bk_numberOf) 48 = .ok (.lload_n 1, 1) := by decide +kernel
theorem d_Bk_numberOf_49 : decode (cd m_Bk_numberOf) 49 = .ok (.lastore, 1) := by decide +kernel
theorem d_Bk_numberOf_50 : decode (cd m_Bk_numberOf) 50 = .ok (.aload_n 0, 1) := by decide +kernel
theorem d_Bk_numberOf_51 : decode (cd m_Bk_numberOf) 51 = .ok (.getfield 22, 3) := by decide +kernel
theorem d_Bk_numberOf_54 : decode (cd m_Bk_numberOf) 54 = .ok (.aload_n 0, 1) := by decide +kernel
theorem d_Bk_numberOf_55 : decode (cd m_Bk_numberOf) 55 = .ok (.getfield 38, 3) := by decide +kernel
theorem d_Bk_numberOf_58 : decode (cd m_Bk_numberOf) 58 = .ok (.iconst 0, 1) := by decide +kernel
theorem d_Bk_numberOf_59 : decode (cd m_Bk_numberOf) 59 = .ok (.iastore, 1) := by decide +kernel
theorem d_Bk_numberOf_60 : decode (cd m_Bk_numberOf) 60 = .ok (.aload_n 0, 1) := by decide +kernel
theorem d_Bk_numberOf_61 : decode (cd m_Bk_numberOf) 61 = .ok (.getfield 26, 3) := by decide +kernel
theorem d_Bk_numberOf_64 : decode (cd m_Bk_numberOf) 64 = .ok (.aload_n 0, 1) := by decide +kernel
theorem d_Bk_numberOf_65 : decode (cd m_Bk_numberOf) 65 = .ok (.getfield 38, 3) := by decide +kernel
theorem d_Bk_numberOf_68 : decode (cd m_Bk_numberOf) 68 = .ok (.iconst 0, 1) := by decide +kernel
theorem d_Bk_numberOf_69 : decode (cd m_Bk_numberOf) 69 = .ok (.iastore, 1) := by decide +kernel
theorem d_Bk_numberOf_70 : decode (cd m_Bk_numberOf) 70 = .ok (.aload_n 0, 1) := by decide +kernel
theorem d_Bk_numberOf_71 : decode (cd m_Bk_numberOf) 71 = .ok (.getfield 29, 3) := by decide +kernel
theorem d_Bk_numberOf_74 : decode (cd m_Bk_numberOf) 74 = .ok (.aload_n 0, 1) := by decide +kernel
theorem d_Bk_numberOf_75 : decode (cd m_Bk_numberOf) 75 = .ok (.getfield 38, 3) := by decide +kernel
theorem d_Bk_numberOf_78 : decode (cd m_Bk_numberOf) 78 = .ok (.iconst 0, 1) := by decide +kernel
theorem d_Bk_numberOf_79 : decode (cd m_Bk_numberOf) 79 = .ok (.iastore, 1) := by decide +kernel
theorem d_Bk_numberOf_80 : decode (cd m_Bk_numberOf) 80 = .ok (.aload_n 0, 1) := by decide +kernel
theorem d_Bk_numberOf_81 : decode (cd m_Bk_numberOf) 81 = .ok (.getfield 32, 3) := by decide +kernel
theorem d_Bk_numberOf_84 : decode (cd m_Bk_numberOf) 84 = .ok (.aload_n 0, 1) := by decide +kernel
theorem d_Bk_numberOf_85 : decode (cd m_Bk_numberOf) 85 = .ok (.getfield 38, 3) := by decide +kernel
theorem d_Bk_numberOf_88 : decode (cd m_Bk_numberOf) 88 = .ok (.iconst 0, 1) := by decide +kernel
theorem d_Bk_numberOf_89 : decode (cd m_Bk_numberOf) 89 = .ok (.iastore, 1) := by decide +kernel
theorem d_Bk_numberOf_90 : decode (cd m_Bk_numberOf) 90 = .ok (.aload_n 0, 1) := by decide +kernel
theorem d_Bk_numberOf_91 : decode (cd m_Bk_numberOf) 91 = .ok (.getfield 35, 3) := by decide +kernel
theorem d_Bk_numberOf_94 : decode (cd m_Bk_numberOf) 94 = .ok (.aload_n 0, 1) := by decide +kernel
theorem d_Bk_numberOf_95 : decode (cd m_Bk_numberOf) 95 = .ok (.getfield 38, 3) := by decide +kernel
theorem d_Bk_numberOf_98 : decode (cd m_Bk_numberOf) 98 = .ok (.iconst 0, 1) := by decide +kernel
theorem d_Bk_numberOf_99 : decode (cd m_Bk_numberOf) 99 = .ok (.iastore, 1) := by decide +kernel
theorem d_Bk_numberOf_100 : decode (cd m_Bk_numberOf) 100 = .ok (.aload_n 0, 1) := by decide +kernel
theorem d_Bk_numberOf_101 : decode (cd m_Bk_numberOf) 101 = .ok (.dup, 1) := by decide +kernel
theorem d_Bk_numberOf_102 : decode (cd m_Bk_numberOf) 102 = .ok (.getfield 38, 3) := by decide +kernel
theorem d_Bk_numberOf_105 : decode (cd m_Bk_numberOf) 105 = .ok (.iconst 1, 1) := by decide +kernel
theorem d_Bk_numberOf_106 : decode (cd m_Bk_numberOf) 106 = .ok (.iadd, 1) := by decide +kernel
theorem d_Bk_numberOf_107 : decode (cd m_Bk_numberOf) 107 = .ok (.putfield 38, 3) := by decide +kernel
theorem d_Bk_numberOf_110 : decode (cd m_Bk_numberOf) 110 = .ok (.aload_n 0, 1) := by decide +kernel
theorem d_Bk_numberOf_111 : decode (cd m_Bk_numberOf) 111 = .ok (.getfield 38, 3) := by decide +kernel
theorem d_Bk_numberOf_114 : decode (cd m_Bk_numberOf) 114 = .ok (.iconst 1, 1) := by decide +kernel
theorem d_Bk_numberOf_115 : decode (cd m_Bk_numberOf) 115 = .ok (.isub, 1) := by decide +kernel
theorem d_Bk_numberOf_116 : decode (cd m_Bk_numberOf) 116 = .ok (.ireturn, 1) := by decide +kernel
theorem d_Bk_agrees_0 : decode (cd m_Bk_agrees) 0 = .ok (.iload_n 1, 1) := by decide +kernel
theorem d_Bk_agrees_1 : decode (cd m_Bk_agrees) 1 = .ok (.ifCond .lt 11, 3) := by decide +kernel
theorem d_Bk_agrees_4 : decode (cd m_Bk_agrees) 4 = .ok (.iload_n 1, 1) := by decide +kernel
theorem d_Bk_agrees_5 : decode (cd m_Bk_agrees) 5 = .ok (.aload_n 0, 1) := by decide +kernel
theorem d_Bk_agrees_6 : decode (cd m_Bk_agrees) 6 = .ok (.getfield 38, 3) := by decide +kernel
theorem d_Bk_agrees_9 : decode (cd m_Bk_agrees) 9 = .ok (.if_icmp .lt 5, 3) := by decide +kernel
theorem d_Bk_agrees_12 : decode (cd m_Bk_agrees) 12 = .ok (.iconst 0, 1) := by decide +kernel
theorem d_Bk_agrees_13 : decode (cd m_Bk_agrees) 13 = .ok (.ireturn, 1) := by decide +kernel
theorem d_Bk_agrees_14 : decode (cd m_Bk_agrees) 14 = .ok (.aload_n 0, 1) := by decide +kernel
theorem d_Bk_agrees_15 : decode (cd m_Bk_agrees) 15 = .ok (.getfield 22, 3) := by decide +kernel
theorem d_Bk_agrees_18 : decode (cd m_Bk_agrees) 18 = .ok (.iload_n 1, 1) := by decide +kernel
theorem d_Bk_agrees_19 : decode (cd m_Bk_agrees) 19 = .ok (.iaload, 1) := by decide +kernel
theorem d_Bk_agrees_20 : decode (cd m_Bk_agrees) 20 = .ok (.ifCond .ne 10, 3) := by decide +kernel
theorem d_Bk_agrees_23 : decode (cd m_Bk_agrees) 23 = .ok (.aload_n 0, 1) := by decide +kernel
theorem d_Bk_agrees_24 : decode (cd m_Bk_agrees) 24 = .ok (.getfield 22, 3) := by decide +kernel
theorem d_Bk_agrees_27 : decode (cd m_Bk_agrees) 27 = .ok (.iload_n 1, 1) := by decide +kernel
theorem d_Bk_agrees_28 : decode (cd m_Bk_agrees) 28 = .ok (.iload_n 2, 1) := by decide +kernel
theorem d_Bk_agrees_29 : decode (cd m_Bk_agrees) 29 = .ok (.iastore, 1) := by decide +kernel
theorem d_Bk_agrees_30 : decode (cd m_Bk_agrees) 30 = .ok (.aload_n 0, 1) := by decide +kernel
theorem d_Bk_agrees_31 : decode (cd m_Bk_agrees) 31 = .ok (.getfield 22, 3) := by decide +kernel
theorem d_Bk_agrees_34 : decode (cd m_Bk_agrees) 34 = .ok (.iload_n 1, 1) := by decide +kernel
theorem d_Bk_agrees_35 : decode (cd m_Bk_agrees) 35 = .ok (.iaload, 1) := by decide +kernel
theorem d_Bk_agrees_36 : decode (cd m_Bk_agrees) 36 = .ok (.iload_n 2, 1) := by decide +kernel
theorem d_Bk_agrees_37 : decode (cd m_Bk_agrees) 37 = .ok (.if_icmp .ne 7, 3) := by decide +kernel
theorem d_Bk_agrees_40 : decode (cd m_Bk_agrees) 40 = .ok (.iconst 1, 1) := by decide +kernel
theorem d_Bk_agrees_41 : decode (cd m_Bk_agrees) 41 = .ok (.goto 4, 3) := by decide +kernel
theorem d_Bk_agrees_44 : decode (cd m_Bk_agrees) 44 = .ok (.iconst 0, 1) := by decide +kernel
theorem d_Bk_agrees_45 : decode (cd m_Bk_agrees) 45 = .ok (.ireturn, 1) := by decide +kernel
theorem d_Bk_addRule_0 : decode (cd m_Bk_addRule) 0 = .ok (.aload_n 1, 1) := by decide +kernel
theorem d_Bk_addRule_1 : decode (cd m_Bk_addRule) 1 = .ok (.getfield 43, 3) := by decide +kernel
theorem d_Bk_addRule_4 : decode (cd m_Bk_addRule) 4 = .ok (.getfield 49, 3) := by decide +kernel
theorem d_Bk_addRule_7 : decode (cd m_Bk_addRule) 7 = .ok (.istore_n 2, 1) := by decide +kernel
theorem d_Bk_addRule_8 : decode (cd m_Bk_addRule) 8 = .ok (.iload_n 2, 1) := by decide +kernel
theorem d_Bk_addRule_9 : decode (cd m_Bk_addRule) 9 = .ok (.ifCond .lt 11, 3) := by decide +kernel
theorem d_Bk_addRule_12 : decode (cd m_Bk_addRule) 12 = .ok (.iload_n 2, 1) := by decide +kernel
theorem d_Bk_addRule_13 : decode (cd m_Bk_addRule) 13 = .ok (.aload_n 0, 1) := by decide +kernel
theorem d_Bk_addRule_14 : decode (cd m_Bk_addRule) 14 = .ok (.getfield 38, 3) := by decide +kernel
theorem d_Bk_addRule_17 : decode (cd m_Bk_addRule) 17 = .ok (.if_icmp .lt 4, 3) := by decide +kernel
theorem d_Bk_addRule_20 : decode (cd m_Bk_addRule) 20 = .ok (.return_, 1) := by decide +kernel
theorem d_Bk_addRule_21 : decode (cd m_Bk_addRule) 21 = .ok (.aload_n 0, 1) := by decide +kernel
theorem d_Bk_addRule_22 : decode (cd m_Bk_addRule) 22 = .ok (.getfield 12, 3) := by decide +kernel
theorem d_Bk_addRule_25 : decode (cd m_Bk_addRule) 25 = .ok (.aload_n 1, 1) := by decide +kernel
theorem d_Bk_addRule_26 : decode (cd m_Bk_addRule) 26 = .ok (.invokevirtual 54, 3) := by decide +kernel
theorem d_Bk_addRule_29 : decode (cd m_Bk_addRule) 29 = .ok (.aload_n 0, 1) := by decide +kernel
theorem d_Bk_addRule_30 : decode (cd m_Bk_addRule) 30 = .ok (.getfield 26, 3) := by decide +kernel
theorem d_Bk_addRule_33 : decode (cd m_Bk_addRule) 33 = .ok (.iload_n 2, 1) := by decide +kernel
theorem d_Bk_addRule_34 : decode (cd m_Bk_addRule) 34 = .ok (.dup2, 1) := by decide +kernel
theorem d_Bk_addRule_35 : decode (cd m_Bk_addRule) 35 = .ok (.iaload, 1) := by decide +kernel
theorem d_Bk_addRule_36 : decode (cd m_Bk_addRule) 36 = .ok (.iconst 1, 1) := by decide +kernel
theorem d_Bk_addRule_37 : decode (cd m_Bk_addRule) 37 = .ok (.iadd, 1) := by decide +kernel
theorem d_Bk_addRule_38 : decode (cd m_Bk_addRule) 38 = .ok (.iastore, 1) := by decide +kernel
theorem d_Bk_addRule_39 : decode (cd m_Bk_addRule) 39 = .ok (.iconst 0, 1) := by decide +kernel
theorem d_Bk_addRule_40 : decode (cd m_Bk_addRule) 40 = .ok (.istore_n 3, 1) := by decide +kernel
theorem d_Bk_addRule_41 : decode (cd m_Bk_addRule) 41 = .ok (.iload_n 3, 1) := by decide +kernel
theorem d_Bk_addRule_42 : decode (cd m_Bk_addRule) 42 = .ok (.aload_n 1, 1) := by decide +kernel
theorem d_Bk_addRule_43 : decode (cd m_Bk_addRule) 43 = .ok (.getfield 58, 3) := by decide +kernel
theorem d_Bk_addRule_46 : decode (cd m_Bk_addRule) 46 = .ok (.if_icmp .ge 41, 3) := by decide +kernel
theorem d_Bk_addRule_49 : decode (cd m_Bk_addRule) 49 = .ok (.aload_n 1, 1) := by decide +kernel
theorem d_Bk_addRule_50 : decode (cd m_Bk_addRule) 50 = .ok (.getfield 61, 3) := by decide +kernel
theorem d_Bk_addRule_53 : decode (cd m_Bk_addRule) 53 = .ok (.iload_n 3, 1) := by decide +kernel
theorem d_Bk_addRule_54 : decode (cd m_Bk_addRule) 54 = .ok (.aaload, 1) := by decide +kernel
theorem d_Bk_addRule_55 : decode (cd m_Bk_addRule) 55 = .ok (.invokevirtual 65, 3) := by decide +kernel
theorem d_Bk_addRule_58 : decode (cd m_Bk_addRule) 58 = .ok (.ifCond .eq 23, 3) := by decide +kernel
theorem d_Bk_addRule_61 : decode (cd m_Bk_addRule) 61 = .ok (.aload_n 0, 1) := by decide +kernel
theorem d_Bk_addRule_62 : decode (cd m_Bk_addRule) 62 = .ok (.getfield 35, 3) := by decide +kernel
theorem d_Bk_addRule_65 : decode (cd m_Bk_addRule) 65 = .ok (.iload_n 2, 1) := by decide +kernel
theorem d_Bk_addRule_66 : decode (cd m_Bk_addRule) 66 = .ok (.dup2, 1) := by decide +kernel
theorem d_Bk_addRule_67 : decode (cd m_Bk_addRule) 67 = .ok (.iaload, 1) := by decide +kernel
theorem d_Bk_addRule_68 : decode (cd m_Bk_addRule) 68 = .ok (.iconst 1, 1) := by decide +kernel
theorem d_Bk_addRule_69 : decode (cd m_Bk_addRule) 69 = .ok (.aload_n 1, 1) := by decide +kernel
theorem d_Bk_addRule_70 : decode (cd m_Bk_addRule) 70 = .ok (.getfield 61, 3) := by decide +kernel
theorem d_Bk_addRule_73 : decode (cd m_Bk_addRule) 73 = .ok (.iload_n 3, 1) := by decide +kernel
theorem d_Bk_addRule_74 : decode (cd m_Bk_addRule) 74 = .ok (.aaload, 1) := by decide +kernel
theorem d_Bk_addRule_75 : decode (cd m_Bk_addRule) 75 = .ok (.getfield 49, 3) := by decide +kernel
theorem d_Bk_addRule_78 : decode (cd m_Bk_addRule) 78 = .ok (.ishl, 1) := by decide +kernel
theorem d_Bk_addRule_79 : decode (cd m_Bk_addRule) 79 = .ok (.ior, 1) := by decide +kernel
theorem d_Bk_addRule_80 : decode (cd m_Bk_addRule) 80 = .ok (.iastore, 1) := by decide +kernel
theorem d_Bk_addRule_81 : decode (cd m_Bk_addRule) 81 = .ok (.iinc 3 1, 3) := by decide +kernel
theorem d_Bk_addRule_84 : decode (cd m_Bk_addRule) 84 = .ok (.goto (-43), 3) := by decide +kernel
theorem d_Bk_addRule_87 : decode (cd m_Bk_addRule) 87 = .ok (.return_, 1) := by decide +kernel
theorem d_Bk_addFact_0 : decode (cd m_Bk_addFact) 0 = .ok (.iload_n 1, 1) := by decide +kernel
theorem d_Bk_addFact_1 : decode (cd m_Bk_addFact) 1 = .ok (.ifCond .lt 21, 3) := by decide +kernel
theorem d_Bk_addFact_4 : decode (cd m_Bk_addFact) 4 = .ok (.iload_n 1, 1) := by decide +kernel
theorem d_Bk_addFact_5 : decode (cd m_Bk_addFact) 5 = .ok (.aload_n 0, 1) := by decide +kernel
theorem d_Bk_addFact_6 : decode (cd m_Bk_addFact) 6 = .ok (.getfield 38, 3) := by decide +kernel
theorem d_Bk_addFact_9 : decode (cd m_Bk_addFact) 9 = .ok (.if_icmp .ge 13, 3) := by decide +kernel
theorem d_Bk_addFact_12 : decode (cd m_Bk_addFact) 12 = .ok (.aload_n 0, 1) := by decide +kernel
theorem d_Bk_addFact_13 : decode (cd m_Bk_addFact) 13 = .ok (.getfield 29, 3) := by decide +kernel
theorem d_Bk_addFact_16 : decode (cd m_Bk_addFact) 16 = .ok (.iload_n 1, 1) := by decide +kernel
theorem d_Bk_addFact_17 : decode (cd m_Bk_addFact) 17 = .ok (.dup2, 1) := by decide +kernel
theorem d_Bk_addFact_18 : decode (cd m_Bk_addFact) 18 = .ok (.iaload, 1) := by decide +kernel
theorem d_Bk_addFact_19 : decode (cd m_Bk_addFact) 19 = .ok (.iconst 1, 1) := by decide +kernel
theorem d_Bk_addFact_20 : decode (cd m_Bk_addFact) 20 = .ok (.iadd, 1) := by decide +kernel
theorem d_Bk_addFact_21 : decode (cd m_Bk_addFact) 21 = .ok (.iastore, 1) := by decide +kernel
theorem d_Bk_addFact_22 : decode (cd m_Bk_addFact) 22 = .ok (.return_, 1) := by decide +kernel
theorem d_Bk_reaches_0 : decode (cd m_Bk_reaches) 0 = .ok (.aload_n 0, 1) := by decide +kernel
theorem d_Bk_reaches_1 : decode (cd m_Bk_reaches) 1 = .ok (.getfield 35, 3) := by decide +kernel
theorem d_Bk_reaches_4 : decode (cd m_Bk_reaches) 4 = .ok (.iload_n 1, 1) := by decide +kernel
theorem d_Bk_reaches_5 : decode (cd m_Bk_reaches) 5 = .ok (.iaload, 1) := by decide +kernel
theorem d_Bk_reaches_6 : decode (cd m_Bk_reaches) 6 = .ok (.iload_n 2, 1) := by decide +kernel
theorem d_Bk_reaches_7 : decode (cd m_Bk_reaches) 7 = .ok (.ishr, 1) := by decide +kernel
theorem d_Bk_reaches_8 : decode (cd m_Bk_reaches) 8 = .ok (.iconst 1, 1) := by decide +kernel
theorem d_Bk_reaches_9 : decode (cd m_Bk_reaches) 9 = .ok (.iand, 1) := by decide +kernel
theorem d_Bk_reaches_10 : decode (cd m_Bk_reaches) 10 = .ok (.ifCond .eq 7, 3) := by decide +kernel
theorem d_Bk_reaches_13 : decode (cd m_Bk_reaches) 13 = .ok (.iconst 1, 1) := by decide +kernel
theorem d_Bk_reaches_14 : decode (cd m_Bk_reaches) 14 = .ok (.goto 4, 3) := by decide +kernel
theorem d_Bk_reaches_17 : decode (cd m_Bk_reaches) 17 = .ok (.iconst 0, 1) := by decide +kernel
theorem d_Bk_reaches_18 : decode (cd m_Bk_reaches) 18 = .ok (.ireturn, 1) := by decide +kernel
theorem d_Bk_spreadHanging_0 : decode (cd m_Bk_spreadHanging) 0 = .ok (.iconst 0, 1) := by decide +kernel
theorem d_Bk_spreadHanging_1 : decode (cd m_Bk_spreadHanging) 1 = .ok (.istore_n 1, 1) := by decide +kernel
theorem d_Bk_spreadHanging_2 : decode (cd m_Bk_spreadHanging) 2 = .ok (.iload_n 1, 1) := by decide +kernel
theorem d_Bk_spreadHanging_3 : decode (cd m_Bk_spreadHanging) 3 = .ok (.aload_n 0, 1) := by decide +kernel
theorem d_Bk_spreadHanging_4 : decode (cd m_Bk_spreadHanging) 4 = .ok (.getfield 38, 3) := by decide +kernel
theorem d_Bk_spreadHanging_7 : decode (cd m_Bk_spreadHanging) 7 = .ok (.if_icmp .ge 49, 3) := by decide +kernel
theorem d_Bk_spreadHanging_10 : decode (cd m_Bk_spreadHanging) 10 = .ok (.iconst 0, 1) := by decide +kernel
theorem d_Bk_spreadHanging_11 : decode (cd m_Bk_spreadHanging) 11 = .ok (.istore_n 2, 1) := by decide +kernel
theorem d_Bk_spreadHanging_12 : decode (cd m_Bk_spreadHanging) 12 = .ok (.iload_n 2, 1) := by decide +kernel
theorem d_Bk_spreadHanging_13 : decode (cd m_Bk_spreadHanging) 13 = .ok (.aload_n 0, 1) := by decide +kernel
theorem d_Bk_spreadHanging_14 : decode (cd m_Bk_spreadHanging) 14 = .ok (.getfield 38, 3) := by decide +kernel
theorem d_Bk_spreadHanging_17 : decode (cd m_Bk_spreadHanging) 17 = .ok (.if_icmp .ge 33, 3) := by decide +kernel
theorem d_Bk_spreadHanging_20 : decode (cd m_Bk_spreadHanging) 20 = .ok (.aload_n 0, 1) := by decide +kernel
theorem d_Bk_spreadHanging_21 : decode (cd m_Bk_spreadHanging) 21 = .ok (.iload_n 2, 1) := by decide +kernel
theorem d_Bk_spreadHanging_22 : decode (cd m_Bk_spreadHanging) 22 = .ok (.iload_n 1, 1) := by decide +kernel
theorem d_Bk_spreadHanging_23 : decode (cd m_Bk_spreadHanging) 23 = .ok (.invokevirtual 69, 3) := by decide +kernel
theorem d_Bk_spreadHanging_26 : decode (cd m_Bk_spreadHanging) 26 = .ok (.ifCond .eq 18, 3) := by decide +kernel
theorem d_Bk_spreadHanging_29 : decode (cd m_Bk_spreadHanging) 29 = .ok (.aload_n 0, 1) := by decide +kernel
theorem d_Bk_spreadHanging_30 : decode (cd m_Bk_spreadHanging) 30 = .ok (.getfield 35, 3) := by decide +kernel
theorem d_Bk_spreadHanging_33 : decode (cd m_Bk_spreadHanging) 33 = .ok (.iload_n 2, 1) := by decide +kernel
theorem d_Bk_spreadHanging_34 : decode (cd m_Bk_spreadHanging) 34 = .ok (.dup2, 1) := by decide +kernel
theorem d_Bk_spreadHanging_35 : decode (cd m_Bk_spreadHanging) 35 = .ok (.iaload, 1) := by decide +kernel
theorem d_Bk_spreadHanging_36 : decode (cd m_Bk_spreadHanging) 36 = .ok (.aload_n 0, 1) := by decide +kernel
theorem d_Bk_spreadHanging_37 : decode (cd m_Bk_spreadHanging) 37 = .ok (.getfield 35, 3) := by decide +kernel
theorem d_Bk_spreadHanging_40 : decode (cd m_Bk_spreadHanging) 40 = .ok (.iload_n 1, 1) := by decide +kernel
theorem d_Bk_spreadHanging_41 : decode (cd m_Bk_spreadHanging) 41 = .ok (.iaload, 1) := by decide +kernel
theorem d_Bk_spreadHanging_42 : decode (cd m_Bk_spreadHanging) 42 = .ok (.ior, 1) := by decide +kernel
theorem d_Bk_spreadHanging_43 : decode (cd m_Bk_spreadHanging) 43 = .ok (.iastore, 1) := by decide +kernel
theorem d_Bk_spreadHanging_44 : decode (cd m_Bk_spreadHanging) 44 = .ok (.iinc 2 1, 3) := by decide +kernel
theorem d_Bk_spreadHanging_47 : decode (cd m_Bk_spreadHanging) 47 = .ok (.goto (-35), 3) := by decide +kernel
theorem d_Bk_spreadHanging_50 : decode (cd m_Bk_spreadHanging) 50 = .ok (.iinc 1 1, 3) := by decide +kernel
theorem d_Bk_spreadHanging_53 : decode (cd m_Bk_spreadHanging) 53 = .ok (.goto (-51), 3) := by decide +kernel
theorem d_Bk_spreadHanging_56 : decode (cd m_Bk_spreadHanging) 56 = .ok (.return_, 1) := by decide +kernel
theorem d_Bk_leadsBack_0 : decode (cd m_Bk_leadsBack) 0 = .ok (.aload_n 0, 1) := by decide +kernel
theorem d_Bk_leadsBack_1 : decode (cd m_Bk_leadsBack) 1 = .ok (.getfield 12, 3) := by decide +kernel
theorem d_Bk_leadsBack_4 : decode (cd m_Bk_leadsBack) 4 = .ok (.getfield 73, 3) := by decide +kernel
theorem d_Bk_leadsBack_7 : decode (cd m_Bk_leadsBack) 7 = .ok (.iload_n 2, 1) := by decide +kernel
theorem d_Bk_leadsBack_8 : decode (cd m_Bk_leadsBack) 8 = .ok (.iaload, 1) := by decide +kernel
theorem d_Bk_leadsBack_9 : decode (cd m_Bk_leadsBack) 9 = .ok (.istore_n 3, 1) := by decide +kernel
theorem d_Bk_leadsBack_10 : decode (cd m_Bk_leadsBack) 10 = .ok (.aload_n 0, 1) := by decide +kernel
theorem d_Bk_leadsBack_11 : decode (cd m_Bk_leadsBack) 11 = .ok (.getfield 12, 3) := by decide +kernel
theorem d_Bk_leadsBack_14 : decode (cd m_Bk_leadsBack) 14 = .ok (.getfield 75, 3) := by decide +kernel
theorem d_Bk_leadsBack_17 : decode (cd m_Bk_leadsBack) 17 = .ok (.iload_n 1, 1) := by decide +kernel
theorem d_Bk_leadsBack_18 : decode (cd m_Bk_leadsBack) 18 = .ok (.iaload, 1) := by decide +kernel
theorem d_Bk_leadsBack_19 : decode (cd m_Bk_leadsBack) 19 = .ok (.istore 4, 2) := by decide +kernel
theorem d_Bk_leadsBack_21 : decode (cd m_Bk_leadsBack) 21 = .ok (.iload_n 3, 1) := by decide +kernel
theorem d_Bk_leadsBack_22 : decode (cd m_Bk_leadsBack) 22 = .ok (.ifCond .lt 31, 3) := by decide +kernel
theorem d_Bk_leadsBack_25 : decode (cd m_Bk_leadsBack) 25 = .ok (.iload_n 3, 1) := by decide +kernel
theorem d_Bk_leadsBack_26 : decode (cd m_Bk_leadsBack) 26 = .ok (.aload_n 0, 1) := by decide +kernel
theorem d_Bk_leadsBack_27 : decode (cd m_Bk_leadsBack) 27 = .ok (.getfield 38, 3) := by decide +kernel
theorem d_Bk_leadsBack_30 : decode (cd m_Bk_leadsBack) 30 = .ok (.if_icmp .ge 23, 3) := by decide +kernel
theorem d_Bk_leadsBack_33 : decode (cd m_Bk_leadsBack) 33 = .ok (.iload_n 3, 1) := by decide +kernel
theorem d_Bk_leadsBack_34 : decode (cd m_Bk_leadsBack) 34 = .ok (.iload 4, 2) := by decide +kernel
theorem d_Bk_leadsBack_36 : decode (cd m_Bk_leadsBack) 36 = .ok (.if_icmp .eq 13, 3) := by decide +kernel
theorem d_Bk_leadsBack_39 : decode (cd m_Bk_leadsBack) 39 = .ok (.aload_n 0, 1) := by decide +kernel
theorem d_Bk_leadsBack_40 : decode (cd m_Bk_leadsBack) 40 = .ok (.iload_n 3, 1) := by decide +kernel
theorem d_Bk_leadsBack_41 : decode (cd m_Bk_leadsBack) 41 = .ok (.iload 4, 2) := by decide +kernel
theorem d_Bk_leadsBack_43 : decode (cd m_Bk_leadsBack) 43 = .ok (.invokevirtual 69, 3) := by decide +kernel
theorem d_Bk_leadsBack_46 : decode (cd m_Bk_leadsBack) 46 = .ok (.ifCond .eq 7, 3) := by decide +kernel
theorem d_Bk_leadsBack_49 : decode (cd m_Bk_leadsBack) 49 = .ok (.iconst 1, 1) := by decide +kernel
theorem d_Bk_leadsBack_50 : decode (cd m_Bk_leadsBack) 50 = .ok (.goto 4, 3) := by decide +kernel
theorem d_Bk_leadsBack_53 : decode (cd m_Bk_leadsBack) 53 = .ok (.iconst 0, 1) := by decide +kernel
theorem d_Bk_leadsBack_54 : decode (cd m_Bk_leadsBack) 54 = .ok (.ireturn, 1) := by decide +kernel
theorem d_Bk_circles_0 : decode (cd m_Bk_circles) 0 = .ok (.iconst 0, 1) := by decide +kernel
theorem d_Bk_circles_1 : decode (cd m_Bk_circles) 1 = .ok (.istore_n 2, 1) := by decide +kernel
theorem d_Bk_circles_2 : decode (cd m_Bk_circles) 2 = .ok (.iconst 0, 1) := by decide +kernel
theorem d_Bk_circles_3 : decode (cd m_Bk_circles) 3 = .ok (.istore_n 3, 1) := by decide +kernel
theorem d_Bk_circles_4 : decode (cd m_Bk_circles) 4 = .ok (.iload_n 3, 1) := by decide +kernel
theorem d_Bk_circles_5 : decode (cd m_Bk_circles) 5 = .ok (.aload_n 0, 1) := by decide +kernel
theorem d_Bk_circles_6 : decode (cd m_Bk_circles) 6 = .ok (.getfield 12, 3) := by decide +kernel
theorem d_Bk_circles_9 : decode (cd m_Bk_circles) 9 = .ok (.getfield 78, 3) := by decide +kernel
theorem d_Bk_circles_12 : decode (cd m_Bk_circles) 12 = .ok (.iload_n 1, 1) := by decide +kernel
theorem d_Bk_circles_13 : decode (cd m_Bk_circles) 13 = .ok (.iaload, 1) := by decide +kernel
theorem d_Bk_circles_14 : decode (cd m_Bk_circles) 14 = .ok (.if_icmp .ge 43, 3) := by decide +kernel
theorem d_Bk_circles_17 : decode (cd m_Bk_circles) 17 = .ok (.iload_n 1, 1) := by decide +kernel
theorem d_Bk_circles_18 : decode (cd m_Bk_circles) 18 = .ok (.bipush 6, 2) := by decide +kernel
theorem d_Bk_circles_20 : decode (cd m_Bk_circles) 20 = .ok (.imul, 1) := by decide +kernel
theorem d_Bk_circles_21 : decode (cd m_Bk_circles) 21 = .ok (.iload_n 3, 1) := by decide +kernel
theorem d_Bk_circles_22 : decode (cd m_Bk_circles) 22 = .ok (.iadd, 1) := by decide +kernel
theorem d_Bk_circles_23 : decode (cd m_Bk_circles) 23 = .ok (.istore 4, 2) := by decide +kernel
theorem d_Bk_circles_25 : decode (cd m_Bk_circles) 25 = .ok (.aload_n 0, 1) := by decide +kernel
theorem d_Bk_circles_26 : decode (cd m_Bk_circles) 26 = .ok (.getfield 12, 3) := by decide +kernel
theorem d_Bk_circles_29 : decode (cd m_Bk_circles) 29 = .ok (.getfield 79, 3) := by decide +kernel
theorem d_Bk_circles_32 : decode (cd m_Bk_circles) 32 = .ok (.iload 4, 2) := by decide +kernel
theorem d_Bk_circles_34 : decode (cd m_Bk_circles) 34 = .ok (.iaload, 1) := by decide +kernel
theorem d_Bk_circles_35 : decode (cd m_Bk_circles) 35 = .ok (.ifCond .ne 16, 3) := by decide +kernel
theorem d_Bk_circles_38 : decode (cd m_Bk_circles) 38 = .ok (.aload_n 0, 1) := by decide +kernel
theorem d_Bk_circles_39 : decode (cd m_Bk_circles) 39 = .ok (.iload_n 1, 1) := by decide +kernel
theorem d_Bk_circles_40 : decode (cd m_Bk_circles) 40 = .ok (.iload 4, 2) := by decide +kernel
theorem d_Bk_circles_42 : decode (cd m_Bk_circles) 42 = .ok (.invokevirtual 82, 3) := by decide +kernel
theorem d_Bk_circles_45 : decode (cd m_Bk_circles) 45 = .ok (.ifCond .eq 6, 3) := by decide +kernel
theorem d_Bk_circles_48 : decode (cd m_Bk_circles) 48 = .ok (.iinc 2 1, 3) := by decide +kernel
theorem d_Bk_circles_51 : decode (cd m_Bk_circles) 51 = .ok (.iinc 3 1, 3) := by decide +kernel
theorem d_Bk_circles_54 : decode (cd m_Bk_circles) 54 = .ok (.goto (-50), 3) := by decide +kernel
theorem d_Bk_circles_57 : decode (cd m_Bk_circles) 57 = .ok (.iload_n 2, 1) := by decide +kernel
theorem d_Bk_circles_58 : decode (cd m_Bk_circles) 58 = .ok (.ireturn, 1) := by decide +kernel
theorem d_Bk_knotPlace_0 : decode (cd m_Bk_knotPlace) 0 = .ok (.iconst 0, 1) := by decide +kernel
theorem d_Bk_knotPlace_1 : decode (cd m_Bk_knotPlace) 1 = .ok (.istore_n 1, 1) := by decide +kernel
theorem d_Bk_knotPlace_2 : decode (cd m_Bk_knotPlace) 2 = .ok (.iload_n 1, 1) := by decide +kernel
theorem d_Bk_knotPlace_3 : decode (cd m_Bk_knotPlace) 3 = .ok (.aload_n 0, 1) := by decide +kernel
theorem d_Bk_knotPlace_4 : decode (cd m_Bk_knotPlace) 4 = .ok (.getfield 12, 3) := by decide +kernel
theorem d_Bk_knotPlace_7 : decode (cd m_Bk_knotPlace) 7 = .ok (.getfield 42, 3) := by decide +kernel
theorem d_Bk_knotPlace_10 : decode (cd m_Bk_knotPlace) 10 = .ok (.if_icmp .ge 92, 3) := by decide +kernel
theorem d_Bk_knotPlace_13 : decode (cd m_Bk_knotPlace) 13 = .ok (.iconst 0, 1) := by decide +kernel
theorem d_Bk_knotPlace_14 : decode (cd m_Bk_knotPlace) 14 = .ok (.istore_n 2, 1) := by decide +kernel
theorem d_Bk_knotPlace_15 : decode (cd m_Bk_knotPlace) 15 = .ok (.iload_n 2, 1) := by decide +kernel
theorem d_Bk_knotPlace_16 : decode (cd m_Bk_knotPlace) 16 = .ok (.aload_n 0, 1) := by decide +kernel
theorem d_Bk_knotPlace_17 : decode (cd m_Bk_knotPlace) 17 = .ok (.getfield 12, 3) := by decide +kernel
theorem d_Bk_knotPlace_20 : decode (cd m_Bk_knotPlace) 20 = .ok (.getfield 78, 3) := by decide +kernel
theorem d_Bk_knotPlace_23 : decode (cd m_Bk_knotPlace) 23 = .ok (.iload_n 1, 1) := by decide +kernel
theorem d_Bk_knotPlace_24 : decode (cd m_Bk_knotPlace) 24 = .ok (.iaload, 1) := by decide +kernel
theorem d_Bk_knotPlace_25 : decode (cd m_Bk_knotPlace) 25 = .ok (.if_icmp .ge 71, 3) := by decide +kernel
theorem d_Bk_knotPlace_28 : decode (cd m_Bk_knotPlace) 28 = .ok (.iload_n 1, 1) := by decide +kernel
theorem d_Bk_knotPlace_29 : decode (cd m_Bk_knotPlace) 29 = .ok (.bipush 6, 2) := by decide +kernel
theorem d_Bk_knotPlace_31 : decode (cd m_Bk_knotPlace) 31 = .ok (.imul, 1) := by decide +kernel
theorem d_Bk_knotPlace_32 : decode (cd m_Bk_knotPlace) 32 = .ok (.iload_n 2, 1) := by decide +kernel
theorem d_Bk_knotPlace_33 : decode (cd m_Bk_knotPlace) 33 = .ok (.iadd, 1) := by decide +kernel
theorem d_Bk_knotPlace_34 : decode (cd m_Bk_knotPlace) 34 = .ok (.istore_n 3, 1) := by decide +kernel
theorem d_Bk_knotPlace_35 : decode (cd m_Bk_knotPlace) 35 = .ok (.aload_n 0, 1) := by decide +kernel
theorem d_Bk_knotPlace_36 : decode (cd m_Bk_knotPlace) 36 = .ok (.getfield 12, 3) := by decide +kernel
theorem d_Bk_knotPlace_39 : decode (cd m_Bk_knotPlace) 39 = .ok (.iload_n 1, 1) := by decide +kernel
theorem d_Bk_knotPlace_40 : decode (cd m_Bk_knotPlace) 40 = .ok (.iload_n 3, 1) := by decide +kernel
theorem d_Bk_knotPlace_41 : decode (cd m_Bk_knotPlace) 41 = .ok (.invokevirtual 85, 3) := by decide +kernel
theorem d_Bk_knotPlace_44 : decode (cd m_Bk_knotPlace) 44 = .ok (.ifCond .eq 46, 3) := by decide +kernel
theorem d_Bk_knotPlace_47 : decode (cd m_Bk_knotPlace) 47 = .ok (.aload_n 0, 1) := by decide +kernel
theorem d_Bk_knotPlace_48 : decode (cd m_Bk_knotPlace) 48 = .ok (.iload_n 1, 1) := by decide +kernel
theorem d_Bk_knotPlace_49 : decode (cd m_Bk_knotPlace) 49 = .ok (.iload_n 3, 1) := by decide +kernel
theorem d_Bk_knotPlace_50 : decode (cd m_Bk_knotPlace) 50 = .ok (.invokevirtual 82, 3) := by decide +kernel
theorem d_Bk_knotPlace_53 : decode (cd m_Bk_knotPlace) 53 = .ok (.ifCond .eq 37, 3) := by decide +kernel
theorem d_Bk_knotPlace_56 : decode (cd m_Bk_knotPlace) 56 = .ok (.aload_n 0, 1) := by decide +kernel
theorem d_Bk_knotPlace_57 : decode (cd m_Bk_knotPlace) 57 = .ok (.getfield 12, 3) := by decide +kernel
theorem d_Bk_knotPlace_60 : decode (cd m_Bk_knotPlace) 60 = .ok (.getfield 88, 3) := by decide +kernel
theorem d_Bk_knotPlace_63 : decode (cd m_Bk_knotPlace) 63 = .ok (.iload_n 1, 1) := by decide +kernel
theorem d_Bk_knotPlace_64 : decode (cd m_Bk_knotPlace) 64 = .ok (.iaload, 1) := by decide +kernel
theorem d_Bk_knotPlace_65 : decode (cd m_Bk_knotPlace) 65 = .ok (.ifCond .le 15, 3) := by decide +kernel
theorem d_Bk_knotPlace_68 : decode (cd m_Bk_knotPlace) 68 = .ok (.aload_n 0, 1) := by decide +kernel
theorem d_Bk_knotPlace_69 : decode (cd m_Bk_knotPlace) 69 = .ok (.getfield 12, 3) := by decide +kernel
theorem d_Bk_knotPlace_72 : decode (cd m_Bk_knotPlace) 72 = .ok (.getfield 91, 3) := by decide +kernel
theorem d_Bk_knotPlace_75 : decode (cd m_Bk_knotPlace) 75 = .ok (.iload_n 1, 1) := by decide +kernel
theorem d_Bk_knotPlace_76 : decode (cd m_Bk_knotPlace) 76 = .ok (.iaload, 1) := by decide +kernel
theorem d_Bk_knotPlace_77 : decode (cd m_Bk_knotPlace) 77 = .ok (.goto 12, 3) := by decide +kernel
theorem d_Bk_knotPlace_80 : decode (cd m_Bk_knotPlace) 80 = .ok (.aload_n 0, 1) := by decide +kernel
theorem d_Bk_knotPlace_81 : decode (cd m_Bk_knotPlace) 81 = .ok (.getfield 12, 3) := by decide +kernel
theorem d_Bk_knotPlace_84 : decode (cd m_Bk_knotPlace) 84 = .ok (.getfield 94, 3) := by decide +kernel
theorem d_Bk_knotPlace_87 : decode (cd m_Bk_knotPlace) 87 = .ok (.iload_n 3, 1) := by decide +kernel
theorem d_Bk_knotPlace_88 : decode (cd m_Bk_knotPlace) 88 = .ok (.iaload, 1) := by decide +kernel
theorem d_Bk_knotPlace_89 : decode (cd m_Bk_knotPlace) 89 = .ok (.ireturn, 1) := by decide +kernel
theorem d_Bk_knotPlace_90 : decode (cd m_Bk_knotPlace) 90 = .ok (.iinc 2 1, 3) := by decide +kernel
theorem d_Bk_knotPlace_93 : decode (cd m_Bk_knotPlace) 93 = .ok (.goto (-78), 3) := by decide +kernel
theorem d_Bk_knotPlace_96 : decode (cd m_Bk_knotPlace) 96 = .ok (.iinc 1 1, 3) := by decide +kernel
theorem d_Bk_knotPlace_99 : decode (cd m_Bk_knotPlace) 99 = .ok (.goto (-97), 3) := by decide +kernel
theorem d_Bk_knotPlace_102 : decode (cd m_Bk_knotPlace) 102 = .ok (.iconst (-1), 1) := by decide +kernel
theorem d_Bk_knotPlace_103 : decode (cd m_Bk_knotPlace) 103 = .ok (.ireturn, 1) := by decide +kernel
theorem d_Bk_layStrata_0 : decode (cd m_Bk_layStrata) 0 = .ok (.iconst 0, 1) := by decide +kernel
theorem d_Bk_layStrata_1 : decode (cd m_Bk_layStrata) 1 = .ok (.istore_n 1, 1) := by decide +kernel
theorem d_Bk_layStrata_2 : decode (cd m_Bk_layStrata) 2 = .ok (.iload_n 1, 1) := by decide +kernel
theorem d_Bk_layStrata_3 : decode (cd m_Bk_layStrata) 3 = .ok (.aload_n 0, 1) := by decide +kernel
theorem d_Bk_layStrata_4 : decode (cd m_Bk_layStrata) 4 = .ok (.getfield 38, 3) := by decide +kernel
theorem d_Bk_layStrata_7 : decode (cd m_Bk_layStrata) 7 = .ok (.if_icmp .ge 33, 3) := by decide +kernel
theorem d_Bk_layStrata_10 : decode (cd m_Bk_layStrata) 10 = .ok (.iconst 0, 1) := by decide +kernel
theorem d_Bk_layStrata_11 : decode (cd m_Bk_layStrata) 11 = .ok (.istore_n 2, 1) := by decide +kernel
theorem d_Bk_layStrata_12 : decode (cd m_Bk_layStrata) 12 = .ok (.iload_n 2, 1) := by decide +kernel
theorem d_Bk_layStrata_13 : decode (cd m_Bk_layStrata) 13 = .ok (.aload_n 0, 1) := by decide +kernel
theorem d_Bk_layStrata_14 : decode (cd m_Bk_layStrata) 14 = .ok (.getfield 12, 3) := by decide +kernel
theorem d_Bk_layStrata_17 : decode (cd m_Bk_layStrata) 17 = .ok (.getfield 42, 3) := by decide +kernel
theorem d_Bk_layStrata_20 : decode (cd m_Bk_layStrata) 20 = .ok (.if_icmp .ge 14, 3) := by decide +kernel
theorem d_Bk_layStrata_23 : decode (cd m_Bk_layStrata) 23 = .ok (.aload_n 0, 1) := by decide +kernel
theorem d_Bk_layStrata_24 : decode (cd m_Bk_layStrata) 24 = .ok (.iload_n 2, 1) := by decide +kernel
theorem d_Bk_layStrata_25 : decode (cd m_Bk_layStrata) 25 = .ok (.invokevirtual 97, 3) := by decide +kernel
theorem d_Bk_layStrata_28 : decode (cd m_Bk_layStrata) 28 = .ok (.iinc 2 1, 3) := by decide +kernel
theorem d_Bk_layStrata_31 : decode (cd m_Bk_layStrata) 31 = .ok (.goto (-19), 3) := by decide +kernel
theorem d_Bk_layStrata_34 : decode (cd m_Bk_layStrata) 34 = .ok (.iinc 1 1, 3) := by decide +kernel
theorem d_Bk_layStrata_37 : decode (cd m_Bk_layStrata) 37 = .ok (.goto (-35), 3) := by decide +kernel
theorem d_Bk_layStrata_40 : decode (cd m_Bk_layStrata) 40 = .ok (.return_, 1) := by decide +kernel
theorem d_Bk_liftHead_0 : decode (cd m_Bk_liftHead) 0 = .ok (.aload_n 0, 1) := by decide +kernel
theorem d_Bk_liftHead_1 : decode (cd m_Bk_liftHead) 1 = .ok (.getfield 12, 3) := by decide +kernel
theorem d_Bk_liftHead_4 : decode (cd m_Bk_liftHead) 4 = .ok (.getfield 75, 3) := by decide +kernel
theorem d_Bk_liftHead_7 : decode (cd m_Bk_liftHead) 7 = .ok (.iload_n 1, 1) := by decide +kernel
theorem d_Bk_liftHead_8 : decode (cd m_Bk_liftHead) 8 = .ok (.iaload, 1) := by decide +kernel
theorem d_Bk_liftHead_9 : decode (cd m_Bk_liftHead) 9 = .ok (.istore_n 2, 1) := by decide +kernel
theorem d_Bk_liftHead_10 : decode (cd m_Bk_liftHead) 10 = .ok (.iconst 0, 1) := by decide +kernel
theorem d_Bk_liftHead_11 : decode (cd m_Bk_liftHead) 11 = .ok (.istore_n 3, 1) := by decide +kernel
theorem d_Bk_liftHead_12 : decode (cd m_Bk_liftHead) 12 = .ok (.iload_n 3, 1) := by decide +kernel
theorem d_Bk_liftHead_13 : decode (cd m_Bk_liftHead) 13 = .ok (.aload_n 0, 1) := by decide +kernel
theorem d_Bk_liftHead_14 : decode (cd m_Bk_liftHead) 14 = .ok (.getfield 12, 3) := by decide +kernel
theorem d_Bk_liftHead_17 : decode (cd m_Bk_liftHead) 17 = .ok (.getfield 78, 3) := by decide +kernel
theorem d_Bk_liftHead_20 : decode (cd m_Bk_liftHead) 20 = .ok (.iload_n 1, 1) := by decide +kernel
theorem d_Bk_liftHead_21 : decode (cd m_Bk_liftHead) 21 = .ok (.iaload, 1) := by decide +kernel
theorem d_Bk_liftHead_22 : decode (cd m_Bk_liftHead) 22 = .ok (.if_icmp .ge 88, 3) := by decide +kernel
theorem d_Bk_liftHead_25 : decode (cd m_Bk_liftHead) 25 = .ok (.iload_n 1, 1) := by decide +kernel
theorem d_Bk_liftHead_26 : decode (cd m_Bk_liftHead) 26 = .ok (.bipush 6, 2) := by decide +kernel
theorem d_Bk_liftHead_28 : decode (cd m_Bk_liftHead) 28 = .ok (.imul, 1) := by decide +kernel
theorem d_Bk_liftHead_29 : decode (cd m_Bk_liftHead) 29 = .ok (.iload_n 3, 1) := by decide +kernel
theorem d_Bk_liftHead_30 : decode (cd m_Bk_liftHead) 30 = .ok (.iadd, 1) := by decide +kernel
theorem d_Bk_liftHead_31 : decode (cd m_Bk_liftHead) 31 = .ok (.istore 4, 2) := by decide +kernel
theorem d_Bk_liftHead_33 : decode (cd m_Bk_liftHead) 33 = .ok (.aload_n 0, 1) := by decide +kernel
theorem d_Bk_liftHead_34 : decode (cd m_Bk_liftHead) 34 = .ok (.getfield 12, 3) := by decide +kernel
theorem d_Bk_liftHead_37 : decode (cd m_Bk_liftHead) 37 = .ok (.getfield 73, 3) := by decide +kernel
theorem d_Bk_liftHead_40 : decode (cd m_Bk_liftHead) 40 = .ok (.iload 4, 2) := by decide +kernel
theorem d_Bk_liftHead_42 : decode (cd m_Bk_liftHead) 42 = .ok (.iaload, 1) := by decide +kernel
theorem d_Bk_liftHead_43 : decode (cd m_Bk_liftHead) 43 = .ok (.istore 5, 2) := by decide +kernel
theorem d_Bk_liftHead_45 : decode (cd m_Bk_liftHead) 45 = .ok (.iload 5, 2) := by decide +kernel
theorem d_Bk_liftHead_47 : decode (cd m_Bk_liftHead) 47 = .ok (.ifCond .lt 57, 3) := by decide +kernel
theorem d_Bk_liftHead_50 : decode (cd m_Bk_liftHead) 50 = .ok (.iload 5, 2) := by decide +kernel
theorem d_Bk_liftHead_52 : decode (cd m_Bk_liftHead) 52 = .ok (.aload_n 0, 1) := by decide +kernel
theorem d_Bk_liftHead_53 : decode (cd m_Bk_liftHead) 53 = .ok (.getfield 38, 3) := by decide +kernel
theorem d_Bk_liftHead_56 : decode (cd m_Bk_liftHead) 56 = .ok (.if_icmp .ge 48, 3) := by decide +kernel
theorem d_Bk_liftHead_59 : decode (cd m_Bk_liftHead) 59 = .ok (.aload_n 0, 1) := by decide +kernel
theorem d_Bk_liftHead_60 : decode (cd m_Bk_liftHead) 60 = .ok (.getfield 32, 3) := by decide +kernel
theorem d_Bk_liftHead_63 : decode (cd m_Bk_liftHead) 63 = .ok (.iload 5, 2) := by decide +kernel
theorem d_Bk_liftHead_65 : decode (cd m_Bk_liftHead) 65 = .ok (.iaload, 1) := by decide +kernel
theorem d_Bk_liftHead_66 : decode (cd m_Bk_liftHead) 66 = .ok (.aload_n 0, 1) := by decide +kernel
theorem d_Bk_liftHead_67 : decode (cd m_Bk_liftHead) 67 = .ok (.getfield 12, 3) := by decide +kernel
theorem d_Bk_liftHead_70 : decode (cd m_Bk_liftHead) 70 = .ok (.iload_n 1, 1) := by decide +kernel
theorem d_Bk_liftHead_71 : decode (cd m_Bk_liftHead) 71 = .ok (.iload 4, 2) := by decide +kernel
theorem d_Bk_liftHead_73 : decode (cd m_Bk_liftHead) 73 = .ok (.invokevirtual 85, 3) := by decide +kernel
theorem d_Bk_liftHead_76 : decode (cd m_Bk_liftHead) 76 = .ok (.ifCond .eq 7, 3) := by decide +kernel
theorem d_Bk_liftHead_79 : decode (cd m_Bk_liftHead) 79 = .ok (.iconst 1, 1) := by decide +kernel
theorem d_Bk_liftHead_80 : decode (cd m_Bk_liftHead) 80 = .ok (.goto 4, 3) := by decide +kernel
theorem d_Bk_liftHead_83 : decode (cd m_Bk_liftHead) 83 = .ok (.iconst 0, 1) := by decide +kernel
theorem d_Bk_liftHead_84 : decode (cd m_Bk_liftHead) 84 = .ok (.iadd, 1) := by decide +kernel
theorem d_Bk_liftHead_85 : decode (cd m_Bk_liftHead) 85 = .ok (.istore 6, 2) := by decide +kernel
theorem d_Bk_liftHead_87 : decode (cd m_Bk_liftHead) 87 = .ok (.aload_n 0, 1) := by decide +kernel
theorem d_Bk_liftHead_88 : decode (cd m_Bk_liftHead) 88 = .ok (.getfield 32, 3) := by decide +kernel
theorem d_Bk_liftHead_91 : decode (cd m_Bk_liftHead) 91 = .ok (.iload_n 2, 1) := by decide +kernel
theorem d_Bk_liftHead_92 : decode (cd m_Bk_liftHead) 92 = .ok (.aload_n 0, 1) := by decide +kernel
theorem d_Bk_liftHead_93 : decode (cd m_Bk_liftHead) 93 = .ok (.getfield 32, 3) := by decide +kernel
theorem d_Bk_liftHead_96 : decode (cd m_Bk_liftHead) 96 = .ok (.iload_n 2, 1) := by decide +kernel
theorem d_Bk_liftHead_97 : decode (cd m_Bk_liftHead) 97 = .ok (.iaload, 1) := by decide +kernel
theorem d_Bk_liftHead_98 : decode (cd m_Bk_liftHead) 98 = .ok (.iload 6, 2) := by decide +kernel
theorem d_Bk_liftHead_100 : decode (cd m_Bk_liftHead) 100 = .ok (.invokestatic 101, 3) := by decide +kernel
theorem d_Bk_liftHead_103 : decode (cd m_Bk_liftHead) 103 = .ok (.iastore, 1) := by decide +kernel
theorem d_Bk_liftHead_104 : decode (cd m_Bk_liftHead) 104 = .ok (.iinc 3 1, 3) := by decide +kernel
theorem d_Bk_liftHead_107 : decode (cd m_Bk_liftHead) 107 = .ok (.goto (-95), 3) := by decide +kernel
theorem d_Bk_liftHead_110 : decode (cd m_Bk_liftHead) 110 = .ok (.return_, 1) := by decide +kernel
end
section
/-! decode rows (by program) -/
theorem d_Cl_init_0 : decode (cd m_Cl_init) 0 = .ok (.aload_n 0, 1) := by decide +kernel
theorem d_Cl_init_1 : decode (cd m_Cl_init) 1 = .ok (.invokespecial 3, 3) := by decide +kernel
theorem d_Cl_init_4 : decode (cd m_Cl_init) 4 = .ok (.aload_n 0, 1) := by decide +kernel
theorem d_Cl_init_5 : decode (cd m_Cl_init) 5 = .ok (.new 9, 3) := by decide +kernel
theorem d_Cl_init_8 : decode (cd m_Cl_init) 8 = .ok (.dup, 1) := by decide +kernel
theorem d_Cl_init_9 : decode (cd m_Cl_init) 9 = .ok (.invokespecial 11, 3) := by decide +kernel
theorem d_Cl_init_12 : decode (cd m_Cl_init) 12 = .ok (.putfield 12, 3) := by decide +kernel
theorem d_Cl_init_15 : decode (cd m_Cl_init) 15 = .ok (.aload_n 0, 1) := by decide +kernel
theorem d_Cl_init_16 : decode (cd m_Cl_init) 16 = .ok (.bipush 6, 2) := by decide +kernel
theorem d_Cl_init_18 : decode (cd m_Cl_init) 18 = .ok (.anewarray 9, 3) := by decide +kernel
theorem d_Cl_init_21 : decode (cd m_Cl_init) 21 = .ok (.putfield 18, 3) := by decide +kernel
theorem d_Cl_init_24 : decode (cd m_Cl_init) 24 = .ok (.aload_n 0, 1) := by decide +kernel
theorem d_Cl_init_25 : decode (cd m_Cl_init) 25 = .ok (.bipush 8, 2) := by decide +kernel
theorem d_Cl_init_27 : decode (cd m_Cl_init) 27 = .ok (.newarray .long, 2) := by decide +kernel
theorem d_Cl_init_29 : decode (cd m_Cl_init) 29 = .ok (.putfield 22, 3) := by decide +kernel
theorem d_Cl_init_32 : decode (cd m_Cl_init) 32 = .ok (.aload_n 0, 1) := by decide +kernel
theorem d_Cl_init_33 : decode (cd m_Cl_init) 33 = .ok (.bipush 8, 2) := by decide +kernel
theorem d_Cl_init_35 : decode (cd m_Cl_init) 35 = .ok (.newarray .int, 2) := by decide +kernel
theorem d_Cl_init_37 : decode (cd m_Cl_init) 37 = .ok (.putfield 26, 3) := by decide +kernel
theorem d_Cl_init_40 : decode (cd m_Cl_init) 40 = .ok (.aload_n 0, 1) := by decide +kernel
theorem d_Cl_init_41 : decode (cd m_Cl_init) 41 = .ok (.bipush 6, 2) := by decide +kernel
theorem d_Cl_init_43 : decode (cd m_Cl_init) 43 = .ok (.newarray .int, 2) := by decide +kernel
theorem d_Cl_init_45 : decode (cd m_Cl_init) 45 = .ok (.putfield 30, 3) := by decide +kernel
theorem d_Cl_init_48 : decode (cd m_Cl_init) 48 = .ok (.aload_n 0, 1) := by decide +kernel
theorem d_Cl_init_49 : decode (cd m_Cl_init) 49 = .ok (.bipush 6, 2) := by decide +kernel
theorem d_Cl_init_51 : decode (cd m_Cl_init) 51 = .ok (.newarray .int, 2) := by decide +kernel
theorem d_Cl_init_53 : decode (cd m_Cl_init) 53 = .ok (.putfield 33, 3) := by decide +kernel
theorem d_Cl_init_56 : decode (cd m_Cl_init) 56 = .ok (.aload_n 0, 1) := by decide +kernel
theorem d_Cl_init_57 : decode (cd m_Cl_init) 57 = .ok (.bipush 6, 2) := by decide +kernel
theorem d_Cl_init_59 : decode (cd m_Cl_init) 59 = .ok (.newarray .int, 2) := by decide +kernel
theorem d_Cl_init_61 : decode (cd m_Cl_init) 61 = .ok (.putfield 36, 3) := by decide +kernel
theorem d_Cl_init_64 : decode (cd m_Cl_init) 64 = .ok (.iconst 0, 1) := by decide +kernel
theorem d_Cl_init_65 : decode (cd m_Cl_init) 65 = .ok (.istore_n 1, 1) := by decide +kernel
theorem d_Cl_init_66 : decode (cd m_Cl_init) 66 = .ok (.iload_n 1, 1) := by decide +kernel
theorem d_Cl_init_67 : decode (cd m_Cl_init) 67 = .ok (.aload_n 0, 1) := by decide +kernel
theorem d_Cl_init_68 : decode (cd m_Cl_init) 68 = .ok (.getfield 18, 3) := by decide +kernel
theorem d_Cl_init_71 : decode (cd m_Cl_init) 71 = .ok (.arraylength, 1) := by decide +kernel
theorem d_Cl_init_72 : decode (cd m_Cl_init) 72 = .ok (.if_icmp .ge 22, 3) := by decide +kernel
theorem d_Cl_init_75 : decode (cd m_Cl_init) 75 = .ok (.aload_n 0, 1) := by decide +kernel
theorem d_Cl_init_76 : decode (cd m_Cl_init) 76 = .ok (.getfield 18, 3) := by decide +kernel
theorem d_Cl_init_79 : decode (cd m_Cl_init) 79 = .ok (.iload_n 1, 1) := by decide +kernel
theorem d_Cl_init_80 : decode (cd m_Cl_init) 80 = .ok (.new 9, 3) := by decide +kernel
theorem d_Cl_init_83 : decode (cd m_Cl_init) 83 = .ok (.dup, 1) := by decide +kernel
theorem d_Cl_init_84 : decode (cd m_Cl_init) 84 = .ok (.invokespecial 11, 3) := by decide +kernel
theorem d_Cl_init_87 : decode (cd m_Cl_init) 87 = .ok (.aastore, 1) := by decide +kernel
theorem d_Cl_init_88 : decode (cd m_Cl_init) 88 = .ok (.iinc 1 1, 3) := by decide +kernel
theorem d_Cl_init_91 : decode (cd m_Cl_init) 91 = .ok (.goto (-25), 3) := by decide +kernel
theorem d_Cl_init_94 : decode (cd m_Cl_init) 94 = .ok (.return_, 1) := by decide +kernel
theorem d_Cl_begin_0 : decode (cd m_Cl_begin) 0 = .ok (.aload_n 0, 1) := by decide +kernel
theorem d_Cl_begin_1 : decode (cd m_Cl_begin) 1 = .ok (.getfield 12, 3) := by decide +kernel
theorem d_Cl_begin_4 : decode (cd m_Cl_begin) 4 = .ok (.iconst 4, 1) := by decide +kernel
theorem d_Cl_begin_5 : decode (cd m_Cl_begin) 5 = .ok (.iload_n 1, 1) := by decide +kernel
theorem d_Cl_begin_6 : decode (cd m_Cl_begin) 6 = .ok (.invokevirtual 39, 3) := by decide +kernel
theorem d_Cl_begin_9 : decode (cd m_Cl_begin) 9 = .ok (.aload_n 0, 1) := by decide +kernel
theorem d_Cl_begin_10 : decode (cd m_Cl_begin) 10 = .ok (.iconst 0, 1) := by decide +kernel
theorem d_Cl_begin_11 : decode (cd m_Cl_begin) 11 = .ok (.putfield 43, 3) := by decide +kernel
theorem d_Cl_begin_14 : decode (cd m_Cl_begin) 14 = .ok (.aload_n 0, 1) := by decide +kernel
theorem d_Cl_begin_15 : decode (cd m_Cl_begin) 15 = .ok (.iconst 0, 1) := by decide +kernel
theorem d_Cl_begin_16 : decode (cd m_Cl_begin) 16 = .ok (.putfield 47, 3) := by decide +kernel
theorem d_Cl_begin_19 : decode (cd m_Cl_begin) 19 = .ok (.aload_n 0, 1) := by decide +kernel
theorem d_Cl_begin_20 : decode (cd m_Cl_begin) 20 = .ok (.iconst 0, 1) := by decide +kernel
theorem d_Cl_begin_21 : decode (cd m_Cl_begin) 21 = .ok (.putfield 50, 3) := by decide +kernel
theorem d_Cl_begin_24 : decode (cd m_Cl_begin) 24 = .ok (.aload_n 0, 1) := by decide +kernel
theorem d_Cl_begin_25 : decode (cd m_Cl_begin) 25 = .ok (.iconst 0, 1) := by decide +kernel
theorem d_Cl_begin_26 : decode (cd m_Cl_begin) 26 = .ok (.putfield 53, 3) := by decide +kernel
theorem d_Cl_begin_29 : decode (cd m_Cl_begin) 29 = .ok (.aload_n 0, 1) := by decide +kernel
theorem d_Cl_begin_30 : decode (cd m_Cl_begin) 30 = .ok (.iconst 0, 1) := by decide +kernel
theorem d_Cl_begin_31 : decode (cd m_Cl_begin) 31 = .ok (.putfield 56, 3) := by decide +kernel
theorem d_Cl_begin_34 : decode (cd m_Cl_begin) 34 = .ok (.return_, 1) := by decide +kernel
theorem d_Cl_variableOf_0 : decode (cd m_Cl_variableOf) 0 = .ok (.iconst 0, 1) := by decide +kernel
theorem d_Cl_variableOf_1 : decode (cd m_Cl_variableOf) 1 = .ok (.istore 4, 2) := by decide +kernel
theorem d_Cl_variableOf_3 : decode (cd m_Cl_variableOf) 3 = .ok (.iload 4, 2) := by decide +kernel
theorem d_Cl_variableOf_5 : decode (cd m_Cl_variableOf) 5 = .ok (.aload_n 0, 1) := by decide +kernel
theorem d_Cl_variableOf_6 : decode (cd m_Cl_variableOf) 6 = .ok (.getfield 56, 3) := by decide +kernel
theorem d_Cl_variableOf_9 : decode (cd m_Cl_variableOf) 9 = .ok (.if_icmp .ge 24, 3) := by decide +kernel
theorem d_Cl_variableOf_12 : decode (cd m_Cl_variableOf) 12 = .ok (.aload_n 0, 1) := by decide +kernel
theorem d_Cl_variableOf_13 : decode (cd m_Cl_variableOf) 13 = .ok (.getfield 22, 3) := by decide +kernel
theorem d_Cl_variableOf_16 : decode (cd m_Cl_variableOf) 16 = .ok (.iload 4, 2) := by decide +kernel
theorem d_Cl_variableOf_18 : decode (cd m_Cl_variableOf) 18 = .ok (.laload, 1) := by decide +kernel
theorem d_Cl_variableOf_19 : decode (cd m_Cl_variableOf) 19 = .ok (.lload_n 1, 1) := by decide +kernel
theorem d_Cl_variableOf_20 : decode (cd m_Cl_variableOf) 20 = .ok (.lcmp, 1) := by decide +kernel
theorem d_Cl_variableOf_21 : decode (cd m_Cl_variableOf) 21 = .ok (.ifCond .ne 6, 3) := by decide +kernel
theorem d_Cl_variableOf_24 : decode (cd m_Cl_variableOf) 24 = .ok (.iload 4, 2) := by decide +kernel
theorem d_Cl_variableOf_26 : decode (cd m_Cl_variableOf) 26 = .ok (.ireturn, 1) := by decide +kernel
theorem d_Cl_variableOf_27 : decode (cd m_Cl_variableOf) 27 = .ok (.iinc 4 1, 3) := by decide +kernel
theorem d_Cl_variableOf_30 : decode (cd m_Cl_variableOf) 30 = .ok (.goto (-27), 3) := by decide +kernel
theorem d_Cl_variableOf_33 : decode (cd m_Cl_variableOf) 33 = .ok (.aload_n 0, 1) := by decide +kernel
theorem d_Cl_variableOf_34 : decode (cd m_Cl_variableOf) 34 = .ok (.getfield 56, 3) := by decide +kernel
theorem d_Cl_variableOf_37 : decode (cd m_Cl_variableOf) 37 = .ok (.aload_n 0, 1) := by decide +kernel
theorem d_Cl_variableOf_38 : decode (cd m_Cl_variableOf) 38 = .ok (.getfield 22, 3) := by decide +kernel
theorem d_Cl_variableOf_41 : decode (cd m_Cl_variableOf) 41 = .ok (.arraylength, 1) := by decide +kernel
theorem d_Cl_variableOf_42 : decode (cd m_Cl_variableOf) 42 = .ok (.if_icmp .lt 5, 3) := by decide +kernel
theorem d_Cl_variableOf_45 : decode (cd m_Cl_variableOf) 45 = .ok (.iconst (-1), 1) := by decide +kernel
theorem d_Cl_variableOf_46 : decode (cd m_Cl_variableOf) 46 = .ok (.ireturn, 1) := by decide +kernel
theorem d_Cl_variableOf_47 : decode (cd m_Cl_variableOf) 47 = .ok (.aload_n 0, 1) := by decide +kernel
theorem d_Cl_variableOf_48 : decode (cd m_Cl_variableOf) 48 = .ok (.getfield 22, 3) := by decide +kernel
theorem d_Cl_variableOf_51 : decode (cd m_Cl_variableOf) 51 = .ok (.aload_n 0, 1) := by decide +kernel
theorem d_Cl_variableOf_52 : decode (cd m_Cl_variableOf) 52 = .ok (.getfield 56, 3) := by decide +kernel
theorem d_Cl_variableOf_55 : decode (cd m_Cl_variableOf) 55 = .ok (.lload_n 1, 1) := by decide +kernel
theorem d_Cl_variableOf_56 : decode (cd m_Cl_variableOf) 56 = .ok (.lastore, 1) := by decide +kernel
theorem d_Cl_variableOf_57 : decode (cd m_Cl_variableOf) 57 = .ok (.aload_n 0, 1) := by decide +kernel
theorem d_Cl_variableOf_58 : decode (cd m_Cl_variableOf) 58 = .ok (.getfield 26, 3) := by decide +kernel
theorem d_Cl_variableOf_61 : decode (cd m_Cl_variableOf) 61 = .ok (.aload_n 0, 1) := by decide +kernel
theorem d_Cl_variableOf_62 : decode (cd m_Cl_variableOf) 62 = .ok (.getfield 56, 3) := by decide +kernel
theorem d_Cl_variableOf_65 : decode (cd m_Cl_variableOf) 65 = .ok (.iload_n 3, 1) := by decide +kernel
theorem d_Cl_variableOf_66 : decode (cd m_Cl_variableOf) 66 = .ok (.iastore, 1) := by decide +kernel
theorem d_Cl_variableOf_67 : decode (cd m_Cl_variableOf) 67 = .ok (.aload_n 0, 1) := by decide +kernel
theorem d_Cl_variableOf_68 : decode (cd m_Cl_variableOf) 68 = .ok (.dup, 1) := by decide +kernel
theorem d_Cl_variableOf_69 : decode (cd m_Cl_variableOf) 69 = .ok (.getfield 56, 3) := by decide +kernel
theorem d_Cl_variableOf_72 : decode (cd m_Cl_variableOf) 72 = .ok (.iconst 1, 1) := by decide +kernel
theorem d_Cl_variableOf_73 : decode (cd m_Cl_variableOf) 73 = .ok (.iadd, 1) := by decide +kernel
theorem d_Cl_variableOf_74 : decode (cd m_Cl_variableOf) 74 = .ok (.putfield 56, 3) := by decide +kernel
theorem d_Cl_variableOf_77 : decode (cd m_Cl_variableOf) 77 = .ok (.aload_n 0, 1) := by decide +kernel
theorem d_Cl_variableOf_78 : decode (cd m_Cl_variableOf) 78 = .ok (.getfield 56, 3) := by decide +kernel
theorem d_Cl_variableOf_81 : decode (cd m_Cl_variableOf) 81 = .ok (.iconst 1, 1) := by decide +kernel
theorem d_Cl_variableOf_82 : decode (cd m_Cl_variableOf) 82 = .ok (.isub, 1) := by decide +kernel
theorem d_Cl_variableOf_83 : decode (cd m_Cl_variableOf) 83 = .ok (.ireturn, 1) := by decide +kernel
theorem d_Cl_openPlace_0 : decode (cd m_Cl_openPlace) 0 = .ok (.aload_n 0, 1) := by decide +kernel
theorem d_Cl_openPlace_1 : decode (cd m_Cl_openPlace) 1 = .ok (.getfield 56, 3) := by decide +kernel
theorem d_Cl_openPlace_4 : decode (cd m_Cl_openPlace) 4 = .ok (.ifCond .ne 5, 3) := by decide +kernel
theorem d_Cl_openPlace_7 : decode (cd m_Cl_openPlace) 7 = .ok (.iconst (-1), 1) := by decide +kernel
theorem d_Cl_openPlace_8 : decode (cd m_Cl_openPlace) 8 = .ok (.ireturn, 1) := by decide +kernel
theorem d_Cl_openPlace_9 : decode (cd m_Cl_openPlace) 9 = .ok (.aload_n 0, 1) := by decide +kernel
theorem d_Cl_openPlace_10 : decode (cd m_Cl_openPlace) 10 = .ok (.getfield 50, 3) := by decide +kernel
theorem d_Cl_openPlace_13 : decode (cd m_Cl_openPlace) 13 = .ok (.ifCond .le 19, 3) := by decide +kernel
theorem d_Cl_openPlace_16 : decode (cd m_Cl_openPlace) 16 = .ok (.aload_n 0, 1) := by decide +kernel
theorem d_Cl_openPlace_17 : decode (cd m_Cl_openPlace) 17 = .ok (.getfield 53, 3) := by decide +kernel
theorem d_Cl_openPlace_20 : decode (cd m_Cl_openPlace) 20 = .ok (.aload_n 0, 1) := by decide +kernel
theorem d_Cl_openPlace_21 : decode (cd m_Cl_openPlace) 21 = .ok (.getfield 26, 3) := by decide +kernel
theorem d_Cl_openPlace_24 : decode (cd m_Cl_openPlace) 24 = .ok (.iconst 0, 1) := by decide +kernel
theorem d_Cl_openPlace_25 : decode (cd m_Cl_openPlace) 25 = .ok (.iaload, 1) := by decide +kernel
theorem d_Cl_openPlace_26 : decode (cd m_Cl_openPlace) 26 = .ok (.invokestatic 59, 3) := by decide +kernel
theorem d_Cl_openPlace_29 : decode (cd m_Cl_openPlace) 29 = .ok (.goto 9, 3) := by decide +kernel
theorem d_Cl_openPlace_32 : decode (cd m_Cl_openPlace) 32 = .ok (.aload_n 0, 1) := by decide +kernel
theorem d_Cl_openPlace_33 : decode (cd m_Cl_openPlace) 33 = .ok (.getfield 26, 3) := by decide +kernel
theorem d_Cl_openPlace_36 : decode (cd m_Cl_openPlace) 36 = .ok (.iconst 0, 1) := by decide +kernel
theorem d_Cl_openPlace_37 : decode (cd m_Cl_openPlace) 37 = .ok (.iaload, 1) := by decide +kernel
theorem d_Cl_openPlace_38 : decode (cd m_Cl_openPlace) 38 = .ok (.ireturn, 1) := by decide +kernel
theorem d_Cl_plan_0 : decode (cd m_Cl_plan) 0 = .ok (.iconst 0, 1) := by decide +kernel
theorem d_Cl_plan_1 : decode (cd m_Cl_plan) 1 = .ok (.istore_n 1, 1) := by decide +kernel
theorem d_Cl_plan_2 : decode (cd m_Cl_plan) 2 = .ok (.iconst 1, 1) := by decide +kernel
theorem d_Cl_plan_3 : decode (cd m_Cl_plan) 3 = .ok (.aload_n 0, 1) := by decide +kernel
theorem d_Cl_plan_4 : decode (cd m_Cl_plan) 4 = .ok (.getfield 43, 3) := by decide +kernel
theorem d_Cl_plan_7 : decode (cd m_Cl_plan) 7 = .ok (.ishl, 1) := by decide +kernel
theorem d_Cl_plan_8 : decode (cd m_Cl_plan) 8 = .ok (.iconst 1, 1) := by decide +kernel
theorem d_Cl_plan_9 : decode (cd m_Cl_plan) 9 = .ok (.isub, 1) := by decide +kernel
theorem d_Cl_plan_10 : decode (cd m_Cl_plan) 10 = .ok (.istore_n 2, 1) := by decide +kernel
theorem d_Cl_plan_11 : decode (cd m_Cl_plan) 11 = .ok (.iconst 0, 1) := by decide +kernel
theorem d_Cl_plan_12 : decode (cd m_Cl_plan) 12 = .ok (.istore_n 3, 1) := by decide +kernel
theorem d_Cl_plan_13 : decode (cd m_Cl_plan) 13 = .ok (.iload_n 3, 1) := by decide +kernel
theorem d_Cl_plan_14 : decode (cd m_Cl_plan) 14 = .ok (.aload_n 0, 1) := by decide +kernel
theorem d_Cl_plan_15 : decode (cd m_Cl_plan) 15 = .ok (.getfield 43, 3) := by decide +kernel
theorem d_Cl_plan_18 : decode (cd m_Cl_plan) 18 = .ok (.if_icmp .ge 95, 3) := by decide +kernel
theorem d_Cl_plan_21 : decode (cd m_Cl_plan) 21 = .ok (.aload_n 0, 1) := by decide +kernel
theorem d_Cl_plan_22 : decode (cd m_Cl_plan) 22 = .ok (.iload_n 2, 1) := by decide +kernel
theorem d_Cl_plan_23 : decode (cd m_Cl_plan) 23 = .ok (.iload_n 1, 1) := by decide +kernel
theorem d_Cl_plan_24 : decode (cd m_Cl_plan) 24 = .ok (.invokevirtual 65, 3) := by decide +kernel
theorem d_Cl_plan_27 : decode (cd m_Cl_plan) 27 = .ok (.istore 4, 2) := by decide +kernel
theorem d_Cl_plan_29 : decode (cd m_Cl_plan) 29 = .ok (.iload 4, 2) := by decide +kernel
theorem d_Cl_plan_31 : decode (cd m_Cl_plan) 31 = .ok (.iconst (-1), 1) := by decide +kernel
theorem d_Cl_plan_32 : decode (cd m_Cl_plan) 32 = .ok (.if_icmp .ne 6, 3) := by decide +kernel
theorem d_Cl_plan_35 : decode (cd m_Cl_plan) 35 = .ok (.goto 78, 3) := by decide +kernel
theorem d_Cl_plan_38 : decode (cd m_Cl_plan) 38 = .ok (.aload_n 0, 1) := by decide +kernel
theorem d_Cl_plan_39 : decode (cd m_Cl_plan) 39 = .ok (.getfield 18, 3) := by decide +kernel
theorem d_Cl_plan_42 : decode (cd m_Cl_plan) 42 = .ok (.iload 4, 2) := by decide +kernel
theorem d_Cl_plan_44 : decode (cd m_Cl_plan) 44 = .ok (.aaload, 1) := by decide +kernel
theorem d_Cl_plan_45 : decode (cd m_Cl_plan) 45 = .ok (.astore 5, 2) := by decide +kernel
theorem d_Cl_plan_47 : decode (cd m_Cl_plan) 47 = .ok (.aload_n 0, 1) := by decide +kernel
theorem d_Cl_plan_48 : decode (cd m_Cl_plan) 48 = .ok (.getfield 30, 3) := by decide +kernel
theorem d_Cl_plan_51 : decode (cd m_Cl_plan) 51 = .ok (.iload_n 3, 1) := by decide +kernel
theorem d_Cl_plan_52 : decode (cd m_Cl_plan) 52 = .ok (.iload 4, 2) := by decide +kernel
theorem d_Cl_plan_54 : decode (cd m_Cl_plan) 54 = .ok (.iastore, 1) := by decide +kernel
theorem d_Cl_plan_55 : decode (cd m_Cl_plan) 55 = .ok (.aload_n 0, 1) := by decide +kernel
theorem d_Cl_plan_56 : decode (cd m_Cl_plan) 56 = .ok (.getfield 33, 3) := by decide +kernel
theorem d_Cl_plan_59 : decode (cd m_Cl_plan) 59 = .ok (.iload_n 3, 1) := by decide +kernel
theorem d_Cl_plan_60 : decode (cd m_Cl_plan) 60 = .ok (.aload 5, 2) := by decide +kernel
theorem d_Cl_plan_62 : decode (cd m_Cl_plan) 62 = .ok (.invokevirtual 68, 3) := by decide +kernel
theorem d_Cl_plan_65 : decode (cd m_Cl_plan) 65 = .ok (.ifCond .eq 12, 3) := by decide +kernel
theorem d_Cl_plan_68 : decode (cd m_Cl_plan) 68 = .ok (.aload 5, 2) := by decide +kernel
theorem d_Cl_plan_70 : decode (cd m_Cl_plan) 70 = .ok (.iload_n 1, 1) := by decide +kernel
theorem d_Cl_plan_71 : decode (cd m_Cl_plan) 71 = .ok (.invokevirtual 72, 3) := by decide +kernel
theorem d_Cl_plan_74 : decode (cd m_Cl_plan) 74 = .ok (.goto 4, 3) := by decide +kernel
theorem d_Cl_plan_77 : decode (cd m_Cl_plan) 77 = .ok (.iconst 0, 1) := by decide +kernel
theorem d_Cl_plan_78 : decode (cd m_Cl_plan) 78 = .ok (.iastore, 1) := by decide +kernel
theorem d_Cl_plan_79 : decode (cd m_Cl_plan) 79 = .ok (.iload_n 1, 1) := by decide +kernel
theorem d_Cl_plan_80 : decode (cd m_Cl_plan) 80 = .ok (.aload 5, 2) := by decide +kernel
theorem d_Cl_plan_82 : decode (cd m_Cl_plan) 82 = .ok (.iconst 0, 1) := by decide +kernel
theorem d_Cl_plan_83 : decode (cd m_Cl_plan) 83 = .ok (.invokevirtual 76, 3) := by decide +kernel
theorem d_Cl_plan_86 : decode (cd m_Cl_plan) 86 = .ok (.ior, 1) := by decide +kernel
theorem d_Cl_plan_87 : decode (cd m_Cl_plan) 87 = .ok (.istore_n 1, 1) := by decide +kernel
theorem d_Cl_plan_88 : decode (cd m_Cl_plan) 88 = .ok (.aload_n 0, 1) := by decide +kernel
theorem d_Cl_plan_89 : decode (cd m_Cl_plan) 89 = .ok (.getfield 36, 3) := by decide +kernel
theorem d_Cl_plan_92 : decode (cd m_Cl_plan) 92 = .ok (.iload_n 3, 1) := by decide +kernel
theorem d_Cl_plan_93 : decode (cd m_Cl_plan) 93 = .ok (.iload_n 1, 1) := by decide +kernel
theorem d_Cl_plan_94 : decode (cd m_Cl_plan) 94 = .ok (.invokestatic 79, 3) := by decide +kernel
theorem d_Cl_plan_97 : decode (cd m_Cl_plan) 97 = .ok (.iastore, 1) := by decide +kernel
theorem d_Cl_plan_98 : decode (cd m_Cl_plan) 98 = .ok (.iload_n 2, 1) := by decide +kernel
theorem d_Cl_plan_99 : decode (cd m_Cl_plan) 99 = .ok (.iconst 1, 1) := by decide +kernel
theorem d_Cl_plan_100 : decode (cd m_Cl_plan) 100 = .ok (.iload 4, 2) := by decide +kernel
theorem d_Cl_plan_102 : decode (cd m_Cl_plan) 102 = .ok (.ishl, 1) := by decide +kernel
theorem d_Cl_plan_103 : decode (cd m_Cl_plan) 103 = .ok (.iconst (-1), 1) := by decide +kernel
theorem d_Cl_plan_104 : decode (cd m_Cl_plan) 104 = .ok (.ixor, 1) := by decide +kernel
theorem d_Cl_plan_105 : decode (cd m_Cl_plan) 105 = .ok (.iand, 1) := by decide +kernel
theorem d_Cl_plan_106 : decode (cd m_Cl_plan) 106 = .ok (.istore_n 2, 1) := by decide +kernel
theorem d_Cl_plan_107 : decode (cd m_Cl_plan) 107 = .ok (.iinc 3 1, 3) := by decide +kernel
theorem d_Cl_plan_110 : decode (cd m_Cl_plan) 110 = .ok (.goto (-97), 3) := by decide +kernel
theorem d_Cl_plan_113 : decode (cd m_Cl_plan) 113 = .ok (.aload_n 0, 1) := by decide +kernel
theorem d_Cl_plan_114 : decode (cd m_Cl_plan) 114 = .ok (.iload_n 1, 1) := by decide +kernel
theorem d_Cl_plan_115 : decode (cd m_Cl_plan) 115 = .ok (.invokevirtual 84, 3) := by decide +kernel
theorem d_Cl_plan_118 : decode (cd m_Cl_plan) 118 = .ok (.ireturn, 1) := by decide +kernel
theorem d_Cl_nextAsked_0 : decode (cd m_Cl_nextAsked) 0 = .ok (.iconst (-1), 1) := by decide +kernel
theorem d_Cl_nextAsked_1 : decode (cd m_Cl_nextAsked) 1 = .ok (.istore_n 3, 1) := by decide +kernel
theorem d_Cl_nextAsked_2 : decode (cd m_Cl_nextAsked) 2 = .ok (.iconst (-1), 1) := by decide +kernel
theorem d_Cl_nextAsked_3 : decode (cd m_Cl_nextAsked) 3 = .ok (.istore 4, 2) := by decide +kernel
theorem d_Cl_nextAsked_5 : decode (cd m_Cl_nextAsked) 5 = .ok (.iconst 0, 1) := by decide +kernel
theorem d_Cl_nextAsked_6 : decode (cd m_Cl_nextAsked) 6 = .ok (.istore 5, 2) := by decide +kernel
theorem d_Cl_nextAsked_8 : decode (cd m_Cl_nextAsked) 8 = .ok (.iload 5, 2) := by decide +kernel
theorem d_Cl_nextAsked_10 : decode (cd m_Cl_nextAsked) 10 = .ok (.aload_n 0, 1) := by decide +kernel
theorem d_Cl_nextAsked_11 : decode (cd m_Cl_nextAsked) 11 = .ok (.getfield 43, 3) := by decide +kernel
theorem d_Cl_nextAsked_14 : decode (cd m_Cl_nextAsked) 14 = .ok (.if_icmp .ge 112, 3) := by decide +kernel
theorem d_Cl_nextAsked_17 : decode (cd m_Cl_nextAsked) 17 = .ok (.iload_n 1, 1) := by decide +kernel
theorem d_Cl_nextAsked_18 : decode (cd m_Cl_nextAsked) 18 = .ok (.iload 5, 2) := by decide +kernel
theorem d_Cl_nextAsked_20 : decode (cd m_Cl_nextAsked) 20 = .ok (.ishr, 1) := by decide +kernel
theorem d_Cl_nextAsked_21 : decode (cd m_Cl_nextAsked) 21 = .ok (.iconst 1, 1) := by decide +kernel
theorem d_Cl_nextAsked_22 : decode (cd m_Cl_nextAsked) 22 = .ok (.iand, 1) := by decide +kernel
theorem d_Cl_nextAsked_23 : decode (cd m_Cl_nextAsked) 23 = .ok (.ifCond .eq 7, 3) := by decide +kernel
theorem d_Cl_nextAsked_26 : decode (cd m_Cl_nextAsked) 26 = .ok (.iconst 1, 1) := by decide +kernel
theorem d_Cl_nextAsked_27 : decode (cd m_Cl_nextAsked) 27 = .ok (.goto 4, 3) := by decide +kernel
theorem d_Cl_nextAsked_30 : decode (cd m_Cl_nextAsked) 30 = .ok (.iconst 0, 1) := by decide +kernel
theorem d_Cl_nextAsked_31 : decode (cd m_Cl_nextAsked) 31 = .ok (.istore 6, 2) := by decide +kernel
theorem d_Cl_nextAsked_33 : decode (cd m_Cl_nextAsked) 33 = .ok (.aload_n 0, 1) := by decide +kernel
theorem d_Cl_nextAsked_34 : decode (cd m_Cl_nextAsked) 34 = .ok (.getfield 18, 3) := by decide +kernel
theorem d_Cl_nextAsked_37 : decode (cd m_Cl_nextAsked) 37 = .ok (.iload 5, 2) := by decide +kernel
theorem d_Cl_nextAsked_39 : decode (cd m_Cl_nextAsked) 39 = .ok (.aaload, 1) := by decide +kernel
theorem d_Cl_nextAsked_40 : decode (cd m_Cl_nextAsked) 40 = .ok (.getfield 87, 3) := by decide +kernel
theorem d_Cl_nextAsked_43 : decode (cd m_Cl_nextAsked) 43 = .ok (.ifCond .ne 7, 3) := by decide +kernel
theorem d_Cl_nextAsked_46 : decode (cd m_Cl_nextAsked) 46 = .ok (.iconst 1, 1) := by decide +kernel
theorem d_Cl_nextAsked_47 : decode (cd m_Cl_nextAsked) 47 = .ok (.goto 4, 3) := by decide +kernel
theorem d_Cl_nextAsked_50 : decode (cd m_Cl_nextAsked) 50 = .ok (.iconst 0, 1) := by decide +kernel
theorem d_Cl_nextAsked_51 : decode (cd m_Cl_nextAsked) 51 = .ok (.istore 7, 2) := by decide +kernel
theorem d_Cl_nextAsked_53 : decode (cd m_Cl_nextAsked) 53 = .ok (.iload 6, 2) := by decide +kernel
theorem d_Cl_nextAsked_55 : decode (cd m_Cl_nextAsked) 55 = .ok (.ifCond .eq 25, 3) := by decide +kernel
theorem d_Cl_nextAsked_58 : decode (cd m_Cl_nextAsked) 58 = .ok (.iload 7, 2) := by decide +kernel
theorem d_Cl_nextAsked_60 : decode (cd m_Cl_nextAsked) 60 = .ok (.ifCond .ne 20, 3) := by decide +kernel
theorem d_Cl_nextAsked_63 : decode (cd m_Cl_nextAsked) 63 = .ok (.aload_n 0, 1) := by decide +kernel
theorem d_Cl_nextAsked_64 : decode (cd m_Cl_nextAsked) 64 = .ok (.getfield 18, 3) := by decide +kernel
theorem d_Cl_nextAsked_67 : decode (cd m_Cl_nextAsked) 67 = .ok (.iload 5, 2) := by decide +kernel
theorem d_Cl_nextAsked_69 : decode (cd m_Cl_nextAsked) 69 = .ok (.aaload, 1) := by decide +kernel
theorem d_Cl_nextAsked_70 : decode (cd m_Cl_nextAsked) 70 = .ok (.iload_n 2, 1) := by decide +kernel
theorem d_Cl_nextAsked_71 : decode (cd m_Cl_nextAsked) 71 = .ok (.invokevirtual 90, 3) := by decide +kernel
theorem d_Cl_nextAsked_74 : decode (cd m_Cl_nextAsked) 74 = .ok (.ifCond .eq 6, 3) := by decide +kernel
theorem d_Cl_nextAsked_77 : decode (cd m_Cl_nextAsked) 77 = .ok (.iload 5, 2) := by decide +kernel
theorem d_Cl_nextAsked_79 : decode (cd m_Cl_nextAsked) 79 = .ok (.ireturn, 1) := by decide +kernel
theorem d_Cl_nextAsked_80 : decode (cd m_Cl_nextAsked) 80 = .ok (.aload_n 0, 1) := by decide +kernel
theorem d_Cl_nextAsked_81 : decode (cd m_Cl_nextAsked) 81 = .ok (.getfield 18, 3) := by decide +kernel
theorem d_Cl_nextAsked_84 : decode (cd m_Cl_nextAsked) 84 = .ok (.iload 5, 2) := by decide +kernel
theorem d_Cl_nextAsked_86 : decode (cd m_Cl_nextAsked) 86 = .ok (.aaload, 1) := by decide +kernel
theorem d_Cl_nextAsked_87 : decode (cd m_Cl_nextAsked) 87 = .ok (.iload_n 2, 1) := by decide +kernel
theorem d_Cl_nextAsked_88 : decode (cd m_Cl_nextAsked) 88 = .ok (.invokevirtual 72, 3) := by decide +kernel
theorem d_Cl_nextAsked_91 : decode (cd m_Cl_nextAsked) 91 = .ok (.invokestatic 79, 3) := by decide +kernel
theorem d_Cl_nextAsked_94 : decode (cd m_Cl_nextAsked) 94 = .ok (.istore 8, 2) := by decide +kernel
theorem d_Cl_nextAsked_96 : decode (cd m_Cl_nextAsked) 96 = .ok (.iload 6, 2) := by decide +kernel
theorem d_Cl_nextAsked_98 : decode (cd m_Cl_nextAsked) 98 = .ok (.ifCond .eq 22, 3) := by decide +kernel
theorem d_Cl_nextAsked_101 : decode (cd m_Cl_nextAsked) 101 = .ok (.iload 7, 2) := by decide +kernel
theorem d_Cl_nextAsked_103 : decode (cd m_Cl_nextAsked) 103 = .ok (.ifCond .eq 17, 3) := by decide +kernel
theorem d_Cl_nextAsked_106 : decode (cd m_Cl_nextAsked) 106 = .ok (.iload 8, 2) := by decide +kernel
theorem d_Cl_nextAsked_108 : decode (cd m_Cl_nextAsked) 108 = .ok (.iload 4, 2) := by decide +kernel
theorem d_Cl_nextAsked_110 : decode (cd m_Cl_nextAsked) 110 = .ok (.if_icmp .le 10, 3) := by decide +kernel
theorem d_Cl_nextAsked_113 : decode (cd m_Cl_nextAsked) 113 = .ok (.iload 5, 2) := by decide +kernel
theorem d_Cl_nextAsked_115 : decode (cd m_Cl_nextAsked) 115 = .ok (.istore_n 3, 1) := by decide +kernel
theorem d_Cl_nextAsked_116 : decode (cd m_Cl_nextAsked) 116 = .ok (.iload 8, 2) := by decide +kernel
theorem d_Cl_nextAsked_118 : decode (cd m_Cl_nextAsked) 118 = .ok (.istore 4, 2) := by decide +kernel
theorem d_Cl_nextAsked_120 : decode (cd m_Cl_nextAsked) 120 = .ok (.iinc 5 1, 3) := by decide +kernel
theorem d_Cl_nextAsked_123 : decode (cd m_Cl_nextAsked) 123 = .ok (.goto (-115), 3) := by decide +kernel
theorem d_Cl_nextAsked_126 : decode (cd m_Cl_nextAsked) 126 = .ok (.iload_n 3, 1) := by decide +kernel
theorem d_Cl_nextAsked_127 : decode (cd m_Cl_nextAsked) 127 = .ok (.ireturn, 1) := by decide +kernel
theorem d_Cl_firstWithout_0 : decode (cd m_Cl_firstWithout) 0 = .ok (.iconst 0, 1) := by decide +kernel
theorem d_Cl_firstWithout_1 : decode (cd m_Cl_firstWithout) 1 = .ok (.istore_n 2, 1) := by decide +kernel
theorem d_Cl_firstWithout_2 : decode (cd m_Cl_firstWithout) 2 = .ok (.iload_n 2, 1) := by decide +kernel
theorem d_Cl_firstWithout_3 : decode (cd m_Cl_firstWithout) 3 = .ok (.aload_n 0, 1) := by decide +kernel
theorem d_Cl_firstWithout_4 : decode (cd m_Cl_firstWithout) 4 = .ok (.getfield 56, 3) := by decide +kernel
theorem d_Cl_firstWithout_7 : decode (cd m_Cl_firstWithout) 7 = .ok (.if_icmp .ge 24, 3) := by decide +kernel
theorem d_Cl_firstWithout_10 : decode (cd m_Cl_firstWithout) 10 = .ok (.iload_n 1, 1) := by decide +kernel
theorem d_Cl_firstWithout_11 : decode (cd m_Cl_firstWithout) 11 = .ok (.iload_n 2, 1) := by decide +kernel
theorem d_Cl_firstWithout_12 : decode (cd m_Cl_firstWithout) 12 = .ok (.ishr, 1) := by decide +kernel
theorem d_Cl_firstWithout_13 : decode (cd m_Cl_firstWithout) 13 = .ok (.iconst 1, 1) := by decide +kernel
theorem d_Cl_firstWithout_14 : decode (cd m_Cl_firstWithout) 14 = .ok (.iand, 1) := by decide +kernel
theorem d_Cl_firstWithout_15 : decode (cd m_Cl_firstWithout) 15 = .ok (.ifCond .ne 10, 3) := by decide +kernel
theorem d_Cl_firstWithout_18 : decode (cd m_Cl_firstWithout) 18 = .ok (.aload_n 0, 1) := by decide +kernel
theorem d_Cl_firstWithout_19 : decode (cd m_Cl_firstWithout) 19 = .ok (.getfield 26, 3) := by decide +kernel
theorem d_Cl_firstWithout_22 : decode (cd m_Cl_firstWithout) 22 = .ok (.iload_n 2, 1) := by decide +kernel
theorem d_Cl_firstWithout_23 : decode (cd m_Cl_firstWithout) 23 = .ok (.iaload, 1) := by decide +kernel
theorem d_Cl_firstWithout_24 : decode (cd m_Cl_firstWithout) 24 = .ok (.ireturn, 1) := by decide +kernel
theorem d_Cl_firstWithout_25 : decode (cd m_Cl_firstWithout) 25 = .ok (.iinc 2 1, 3) := by decide +kernel
theorem d_Cl_firstWithout_28 : decode (cd m_Cl_firstWithout) 28 = .ok (.goto (-26), 3) := by decide +kernel
theorem d_Cl_firstWithout_31 : decode (cd m_Cl_firstWithout) 31 = .ok (.iconst (-1), 1) := by decide +kernel
theorem d_Cl_firstWithout_32 : decode (cd m_Cl_firstWithout) 32 = .ok (.ireturn, 1) := by decide +kernel
end
section
/-! decode rows (by program) -/
theorem d_Fc_init_0 : decode (cd m_Fc_init) 0 = .ok (.aload_n 0, 1) := by decide +kernel
theorem d_Fc_init_1 : decode (cd m_Fc_init) 1 = .ok (.invokespecial 3, 3) := by decide +kernel
theorem d_Fc_init_4 : decode (cd m_Fc_init) 4 = .ok (.aload_n 0, 1) := by decide +kernel
theorem d_Fc_init_5 : decode (cd m_Fc_init) 5 = .ok (.bipush 120, 2) := by decide +kernel
theorem d_Fc_init_7 : decode (cd m_Fc_init) 7 = .ok (.newarray .int, 2) := by decide +kernel
theorem d_Fc_init_9 : decode (cd m_Fc_init) 9 = .ok (.putfield 9, 3) := by decide +kernel
theorem d_Fc_init_12 : decode (cd m_Fc_init) 12 = .ok (.aload_n 0, 1) := by decide +kernel
theorem d_Fc_init_13 : decode (cd m_Fc_init) 13 = .ok (.sipush 480, 3) := by decide +kernel
theorem d_Fc_init_16 : decode (cd m_Fc_init) 16 = .ok (.newarray .long, 2) := by decide +kernel
theorem d_Fc_init_18 : decode (cd m_Fc_init) 18 = .ok (.putfield 15, 3) := by decide +kernel
theorem d_Fc_init_21 : decode (cd m_Fc_init) 21 = .ok (.return_, 1) := by decide +kernel
theorem d_Fc_add_0 : decode (cd m_Fc_add) 0 = .ok (.iconst 0, 1) := by decide +kernel
theorem d_Fc_add_1 : decode (cd m_Fc_add) 1 = .ok (.istore_n 2, 1) := by decide +kernel
theorem d_Fc_add_2 : decode (cd m_Fc_add) 2 = .ok (.iload_n 2, 1) := by decide +kernel
theorem d_Fc_add_3 : decode (cd m_Fc_add) 3 = .ok (.aload_n 0, 1) := by decide +kernel
theorem d_Fc_add_4 : decode (cd m_Fc_add) 4 = .ok (.getfield 19, 3) := by decide +kernel
theorem d_Fc_add_7 : decode (cd m_Fc_add) 7 = .ok (.if_icmp .ge 33, 3) := by decide +kernel
theorem d_Fc_add_10 : decode (cd m_Fc_add) 10 = .ok (.aload_n 0, 1) := by decide +kernel
theorem d_Fc_add_11 : decode (cd m_Fc_add) 11 = .ok (.getfield 9, 3) := by decide +kernel
theorem d_Fc_add_14 : decode (cd m_Fc_add) 14 = .ok (.iload_n 2, 1) := by decide +kernel
theorem d_Fc_add_15 : decode (cd m_Fc_add) 15 = .ok (.iaload, 1) := by decide +kernel
theorem d_Fc_add_16 : decode (cd m_Fc_add) 16 = .ok (.aload_n 1, 1) := by decide +kernel
theorem d_Fc_add_17 : decode (cd m_Fc_add) 17 = .ok (.getfield 23, 3) := by decide +kernel
theorem d_Fc_add_20 : decode (cd m_Fc_add) 20 = .ok (.if_icmp .ne 14, 3) := by decide +kernel
theorem d_Fc_add_23 : decode (cd m_Fc_add) 23 = .ok (.aload_n 0, 1) := by decide +kernel
theorem d_Fc_add_24 : decode (cd m_Fc_add) 24 = .ok (.iload_n 2, 1) := by decide +kernel
theorem d_Fc_add_25 : decode (cd m_Fc_add) 25 = .ok (.aload_n 1, 1) := by decide +kernel
theorem d_Fc_add_26 : decode (cd m_Fc_add) 26 = .ok (.invokevirtual 28, 3) := by decide +kernel
theorem d_Fc_add_29 : decode (cd m_Fc_add) 29 = .ok (.ifCond .eq 5, 3) := by decide +kernel
theorem d_Fc_add_32 : decode (cd m_Fc_add) 32 = .ok (.iconst 0, 1) := by decide +kernel
theorem d_Fc_add_33 : decode (cd m_Fc_add) 33 = .ok (.ireturn, 1) := by decide +kernel
theorem d_Fc_add_34 : decode (cd m_Fc_add) 34 = .ok (.iinc 2 1, 3) := by decide +kernel
theorem d_Fc_add_37 : decode (cd m_Fc_add) 37 = .ok (.goto (-35), 3) := by decide +kernel
theorem d_Fc_add_40 : decode (cd m_Fc_add) 40 = .ok (.aload_n 0, 1) := by decide +kernel
theorem d_Fc_add_41 : decode (cd m_Fc_add) 41 = .ok (.getfield 19, 3) := by decide +kernel
theorem d_Fc_add_44 : decode (cd m_Fc_add) 44 = .ok (.bipush 120, 2) := by decide +kernel
theorem d_Fc_add_46 : decode (cd m_Fc_add) 46 = .ok (.if_icmp .ge 48, 3) := by decide +kernel
theorem d_Fc_add_49 : decode (cd m_Fc_add) 49 = .ok (.aload_n 0, 1) := by decide +kernel
theorem d_Fc_add_50 : decode (cd m_Fc_add) 50 = .ok (.getfield 9, 3) := by decide +kernel
theorem d_Fc_add_53 : decode (cd m_Fc_add) 53 = .ok (.aload_n 0, 1) := by decide +kernel
theorem d_Fc_add_54 : decode (cd m_Fc_add) 54 = .ok (.getfield 19, 3) := by decide +kernel
theorem d_Fc_add_57 : decode (cd m_Fc_add) 57 = .ok (.aload_n 1, 1) := by decide +kernel
theorem d_Fc_add_58 : decode (cd m_Fc_add) 58 = .ok (.getfield 23, 3) := by decide +kernel
theorem d_Fc_add_61 : decode (cd m_Fc_add) 61 = .ok (.iastore, 1) := by decide +kernel
theorem d_Fc_add_62 : decode (cd m_Fc_add) 62 = .ok (.aload_n 1, 1) := by decide +kernel
theorem d_Fc_add_63 : decode (cd m_Fc_add) 63 = .ok (.getfield 32, 3) := by decide +kernel
theorem d_Fc_add_66 : decode (cd m_Fc_add) 66 = .ok (.iconst 0, 1) := by decide +kernel
theorem d_Fc_add_67 : decode (cd m_Fc_add) 67 = .ok (.aload_n 0, 1) := by decide +kernel
theorem d_Fc_add_68 : decode (cd m_Fc_add) 68 = .ok (.getfield 15, 3) := by decide +kernel
theorem d_Fc_add_71 : decode (cd m_Fc_add) 71 = .ok (.aload_n 0, 1) := by decide +kernel
theorem d_Fc_add_72 : decode (cd m_Fc_add) 72 = .ok (.getfield 19, 3) := by decide +kernel
theorem d_Fc_add_75 : decode (cd m_Fc_add) 75 = .ok (.iconst 4, 1) := by decide +kernel
theorem d_Fc_add_76 : decode (cd m_Fc_add) 76 = .ok (.imul, 1) := by decide +kernel
theorem d_Fc_add_77 : decode (cd m_Fc_add) 77 = .ok (.aload_n 1, 1) := by decide +kernel
theorem d_Fc_add_78 : decode (cd m_Fc_add) 78 = .ok (.getfield 33, 3) := by decide +kernel
theorem d_Fc_add_81 : decode (cd m_Fc_add) 81 = .ok (.invokestatic 36, 3) := by decide +kernel
theorem d_Fc_add_84 : decode (cd m_Fc_add) 84 = .ok (.aload_n 0, 1) := by decide +kernel
theorem d_Fc_add_85 : decode (cd m_Fc_add) 85 = .ok (.dup, 1) := by decide +kernel
theorem d_Fc_add_86 : decode (cd m_Fc_add) 86 = .ok (.getfield 19, 3) := by decide +kernel
theorem d_Fc_add_89 : decode (cd m_Fc_add) 89 = .ok (.iconst 1, 1) := by decide +kernel
theorem d_Fc_add_90 : decode (cd m_Fc_add) 90 = .ok (.iadd, 1) := by decide +kernel
theorem d_Fc_add_91 : decode (cd m_Fc_add) 91 = .ok (.putfield 19, 3) := by decide +kernel
theorem d_Fc_add_94 : decode (cd m_Fc_add) 94 = .ok (.iconst 1, 1) := by decide +kernel
theorem d_Fc_add_95 : decode (cd m_Fc_add) 95 = .ok (.ireturn, 1) := by decide +kernel
theorem d_Fc_isSame_0 : decode (cd m_Fc_isSame) 0 = .ok (.iconst 0, 1) := by decide +kernel
theorem d_Fc_isSame_1 : decode (cd m_Fc_isSame) 1 = .ok (.istore_n 3, 1) := by decide +kernel
theorem d_Fc_isSame_2 : decode (cd m_Fc_isSame) 2 = .ok (.iload_n 3, 1) := by decide +kernel
theorem d_Fc_isSame_3 : decode (cd m_Fc_isSame) 3 = .ok (.aload_n 2, 1) := by decide +kernel
theorem d_Fc_isSame_4 : decode (cd m_Fc_isSame) 4 = .ok (.getfield 33, 3) := by decide +kernel
theorem d_Fc_isSame_7 : decode (cd m_Fc_isSame) 7 = .ok (.if_icmp .ge 31, 3) := by decide +kernel
theorem d_Fc_isSame_10 : decode (cd m_Fc_isSame) 10 = .ok (.aload_n 0, 1) := by decide +kernel
theorem d_Fc_isSame_11 : decode (cd m_Fc_isSame) 11 = .ok (.getfield 15, 3) := by decide +kernel
theorem d_Fc_isSame_14 : decode (cd m_Fc_isSame) 14 = .ok (.iload_n 1, 1) := by decide +kernel
theorem d_Fc_isSame_15 : decode (cd m_Fc_isSame) 15 = .ok (.iconst 4, 1) := by decide +kernel
theorem d_Fc_isSame_16 : decode (cd m_Fc_isSame) 16 = .ok (.imul, 1) := by decide +kernel
theorem d_Fc_isSame_17 : decode (cd m_Fc_isSame) 17 = .ok (.iload_n 3, 1) := by decide +kernel
theorem d_Fc_isSame_18 : decode (cd m_Fc_isSame) 18 = .ok (.iadd, 1) := by decide +kernel
theorem d_Fc_isSame_19 : decode (cd m_Fc_isSame) 19 = .ok (.laload, 1) := by decide +kernel
theorem d_Fc_isSame_20 : decode (cd m_Fc_isSame) 20 = .ok (.aload_n 2, 1) := by decide +kernel
theorem d_Fc_isSame_21 : decode (cd m_Fc_isSame) 21 = .ok (.getfield 32, 3) := by decide +kernel
theorem d_Fc_isSame_24 : decode (cd m_Fc_isSame) 24 = .ok (.iload_n 3, 1) := by decide +kernel
theorem d_Fc_isSame_25 : decode (cd m_Fc_isSame) 25 = .ok (.laload, 1) := by decide +kernel
theorem d_Fc_isSame_26 : decode (cd m_Fc_isSame) 26 = .ok (.lcmp, 1) := by decide +kernel
theorem d_Fc_isSame_27 : decode (cd m_Fc_isSame) 27 = .ok (.ifCond .eq 5, 3) := by decide +kernel
theorem d_Fc_isSame_30 : decode (cd m_Fc_isSame) 30 = .ok (.iconst 0, 1) := by decide +kernel
theorem d_Fc_isSame_31 : decode (cd m_Fc_isSame) 31 = .ok (.ireturn, 1) := by decide +kernel
theorem d_Fc_isSame_32 : decode (cd m_Fc_isSame) 32 = .ok (.iinc 3 1, 3) := by decide +kernel
theorem d_Fc_isSame_35 : decode (cd m_Fc_isSame) 35 = .ok (.goto (-33), 3) := by decide +kernel
theorem d_Fc_isSame_38 : decode (cd m_Fc_isSame) 38 = .ok (.iconst 1, 1) := by decide +kernel
theorem d_Fc_isSame_39 : decode (cd m_Fc_isSame) 39 = .ok (.ireturn, 1) := by decide +kernel
end
section
/-! decode rows (by program) -/
theorem d_Lt_init_0 : decode (cd m_Lt_init) 0 = .ok (.aload_n 0, 1) := by decide +kernel
theorem d_Lt_init_1 : decode (cd m_Lt_init) 1 = .ok (.invokespecial 3, 3) := by decide +kernel
theorem d_Lt_init_4 : decode (cd m_Lt_init) 4 = .ok (.aload_n 0, 1) := by decide +kernel
theorem d_Lt_init_5 : decode (cd m_Lt_init) 5 = .ok (.iconst 4, 1) := by decide +kernel
theorem d_Lt_init_6 : decode (cd m_Lt_init) 6 = .ok (.newarray .long, 2) := by decide +kernel
theorem d_Lt_init_8 : decode (cd m_Lt_init) 8 = .ok (.putfield 9, 3) := by decide +kernel
theorem d_Lt_init_11 : decode (cd m_Lt_init) 11 = .ok (.aload_n 0, 1) := by decide +kernel
theorem d_Lt_init_12 : decode (cd m_Lt_init) 12 = .ok (.iconst 4, 1) := by decide +kernel
theorem d_Lt_init_13 : decode (cd m_Lt_init) 13 = .ok (.newarray .int, 2) := by decide +kernel
theorem d_Lt_init_15 : decode (cd m_Lt_init) 15 = .ok (.putfield 15, 3) := by decide +kernel
theorem d_Lt_init_18 : decode (cd m_Lt_init) 18 = .ok (.return_, 1) := by decide +kernel
theorem d_Lt_begin_0 : decode (cd m_Lt_begin) 0 = .ok (.aload_n 0, 1) := by decide +kernel
theorem d_Lt_begin_1 : decode (cd m_Lt_begin) 1 = .ok (.iload_n 1, 1) := by decide +kernel
theorem d_Lt_begin_2 : decode (cd m_Lt_begin) 2 = .ok (.putfield 19, 3) := by decide +kernel
theorem d_Lt_begin_5 : decode (cd m_Lt_begin) 5 = .ok (.aload_n 0, 1) := by decide +kernel
theorem d_Lt_begin_6 : decode (cd m_Lt_begin) 6 = .ok (.iload_n 2, 1) := by decide +kernel
theorem d_Lt_begin_7 : decode (cd m_Lt_begin) 7 = .ok (.putfield 23, 3) := by decide +kernel
theorem d_Lt_begin_10 : decode (cd m_Lt_begin) 10 = .ok (.aload_n 0, 1) := by decide +kernel
theorem d_Lt_begin_11 : decode (cd m_Lt_begin) 11 = .ok (.iconst (-1), 1) := by decide +kernel
theorem d_Lt_begin_12 : decode (cd m_Lt_begin) 12 = .ok (.putfield 26, 3) := by decide +kernel
theorem d_Lt_begin_15 : decode (cd m_Lt_begin) 15 = .ok (.aload_n 0, 1) := by decide +kernel
theorem d_Lt_begin_16 : decode (cd m_Lt_begin) 16 = .ok (.iconst 0, 1) := by decide +kernel
theorem d_Lt_begin_17 : decode (cd m_Lt_begin) 17 = .ok (.putfield 29, 3) := by decide +kernel
theorem d_Lt_begin_20 : decode (cd m_Lt_begin) 20 = .ok (.aload_n 0, 1) := by decide +kernel
theorem d_Lt_begin_21 : decode (cd m_Lt_begin) 21 = .ok (.iconst 0, 1) := by decide +kernel
theorem d_Lt_begin_22 : decode (cd m_Lt_begin) 22 = .ok (.putfield 33, 3) := by decide +kernel
theorem d_Lt_begin_25 : decode (cd m_Lt_begin) 25 = .ok (.return_, 1) := by decide +kernel
theorem d_Lt_add_0 : decode (cd m_Lt_add) 0 = .ok (.aload_n 0, 1) := by decide +kernel
theorem d_Lt_add_1 : decode (cd m_Lt_add) 1 = .ok (.getfield 33, 3) := by decide +kernel
theorem d_Lt_add_4 : decode (cd m_Lt_add) 4 = .ok (.aload_n 0, 1) := by decide +kernel
theorem d_Lt_add_5 : decode (cd m_Lt_add) 5 = .ok (.getfield 9, 3) := by decide +kernel
theorem d_Lt_add_8 : decode (cd m_Lt_add) 8 = .ok (.arraylength, 1) := by decide +kernel
theorem d_Lt_add_9 : decode (cd m_Lt_add) 9 = .ok (.if_icmp .ge 70, 3) := by decide +kernel
theorem d_Lt_add_12 : decode (cd m_Lt_add) 12 = .ok (.lload_n 1, 1) := by decide +kernel
theorem d_Lt_add_13 : decode (cd m_Lt_add) 13 = .ok (.ldc2_w 36, 3) := by decide +kernel
theorem d_Lt_add_16 : decode (cd m_Lt_add) 16 = .ok (.lcmp, 1) := by decide +kernel
theorem d_Lt_add_17 : decode (cd m_Lt_add) 17 = .ok (.ifCond .lt 15, 3) := by decide +kernel
theorem d_Lt_add_20 : decode (cd m_Lt_add) 20 = .ok (.lload_n 1, 1) := by decide +kernel
theorem d_Lt_add_21 : decode (cd m_Lt_add) 21 = .ok (.ldc2_w 38, 3) := by decide +kernel
theorem d_Lt_add_24 : decode (cd m_Lt_add) 24 = .ok (.lcmp, 1) := by decide +kernel
theorem d_Lt_add_25 : decode (cd m_Lt_add) 25 = .ok (.ifCond .ge 7, 3) := by decide +kernel
theorem d_Lt_add_28 : decode (cd m_Lt_add) 28 = .ok (.iconst 1, 1) := by decide +kernel
theorem d_Lt_add_29 : decode (cd m_Lt_add) 29 = .ok (.goto 4, 3) := by decide +kernel
theorem d_Lt_add_32 : decode (cd m_Lt_add) 32 = .ok (.iconst 0, 1) := by decide +kernel
theorem d_Lt_add_33 : decode (cd m_Lt_add) 33 = .ok (.istore_n 3, 1) := by decide +kernel
theorem d_Lt_add_34 : decode (cd m_Lt_add) 34 = .ok (.aload_n 0, 1) := by decide +kernel
theorem d_Lt_add_35 : decode (cd m_Lt_add) 35 = .ok (.getfield 9, 3) := by decide +kernel
theorem d_Lt_add_38 : decode (cd m_Lt_add) 38 = .ok (.aload_n 0, 1) := by decide +kernel
theorem d_Lt_add_39 : decode (cd m_Lt_add) 39 = .ok (.getfield 33, 3) := by decide +kernel
theorem d_Lt_add_42 : decode (cd m_Lt_add) 42 = .ok (.lload_n 1, 1) := by decide +kernel
theorem d_Lt_add_43 : decode (cd m_Lt_add) 43 = .ok (.lastore, 1) := by decide +kernel
theorem d_Lt_add_44 : decode (cd m_Lt_add) 44 = .ok (.aload_n 0, 1) := by decide +kernel
theorem d_Lt_add_45 : decode (cd m_Lt_add) 45 = .ok (.getfield 15, 3) := by decide +kernel
theorem d_Lt_add_48 : decode (cd m_Lt_add) 48 = .ok (.aload_n 0, 1) := by decide +kernel
theorem d_Lt_add_49 : decode (cd m_Lt_add) 49 = .ok (.getfield 33, 3) := by decide +kernel
theorem d_Lt_add_52 : decode (cd m_Lt_add) 52 = .ok (.iload_n 3, 1) := by decide +kernel
theorem d_Lt_add_53 : decode (cd m_Lt_add) 53 = .ok (.ifCond .eq 14, 3) := by decide +kernel
theorem d_Lt_add_56 : decode (cd m_Lt_add) 56 = .ok (.iconst 1, 1) := by decide +kernel
theorem d_Lt_add_57 : decode (cd m_Lt_add) 57 = .ok (.lload_n 1, 1) := by decide +kernel
theorem d_Lt_add_58 : decode (cd m_Lt_add) 58 = .ok (.ldc2_w 36, 3) := by decide +kernel
theorem d_Lt_add_61 : decode (cd m_Lt_add) 61 = .ok (.lsub, 1) := by decide +kernel
theorem d_Lt_add_62 : decode (cd m_Lt_add) 62 = .ok (.l2i, 1) := by decide +kernel
theorem d_Lt_add_63 : decode (cd m_Lt_add) 63 = .ok (.ishl, 1) := by decide +kernel
theorem d_Lt_add_64 : decode (cd m_Lt_add) 64 = .ok (.goto 4, 3) := by decide +kernel
theorem d_Lt_add_67 : decode (cd m_Lt_add) 67 = .ok (.iconst 0, 1) := by decide +kernel
theorem d_Lt_add_68 : decode (cd m_Lt_add) 68 = .ok (.iastore, 1) := by decide +kernel
theorem d_Lt_add_69 : decode (cd m_Lt_add) 69 = .ok (.aload_n 0, 1) := by decide +kernel
theorem d_Lt_add_70 : decode (cd m_Lt_add) 70 = .ok (.dup, 1) := by decide +kernel
theorem d_Lt_add_71 : decode (cd m_Lt_add) 71 = .ok (.getfield 33, 3) := by decide +kernel
theorem d_Lt_add_74 : decode (cd m_Lt_add) 74 = .ok (.iconst 1, 1) := by decide +kernel
theorem d_Lt_add_75 : decode (cd m_Lt_add) 75 = .ok (.iadd, 1) := by decide +kernel
theorem d_Lt_add_76 : decode (cd m_Lt_add) 76 = .ok (.putfield 33, 3) := by decide +kernel
theorem d_Lt_add_79 : decode (cd m_Lt_add) 79 = .ok (.return_, 1) := by decide +kernel
theorem d_Lt_isAtom_0 : decode (cd m_Lt_isAtom) 0 = .ok (.aload_n 0, 1) := by decide +kernel
theorem d_Lt_isAtom_1 : decode (cd m_Lt_isAtom) 1 = .ok (.getfield 19, 3) := by decide +kernel
theorem d_Lt_isAtom_4 : decode (cd m_Lt_isAtom) 4 = .ok (.ifCond .eq 11, 3) := by decide +kernel
theorem d_Lt_isAtom_7 : decode (cd m_Lt_isAtom) 7 = .ok (.aload_n 0, 1) := by decide +kernel
theorem d_Lt_isAtom_8 : decode (cd m_Lt_isAtom) 8 = .ok (.getfield 19, 3) := by decide +kernel
theorem d_Lt_isAtom_11 : decode (cd m_Lt_isAtom) 11 = .ok (.iconst 1, 1) := by decide +kernel
theorem d_Lt_isAtom_12 : decode (cd m_Lt_isAtom) 12 = .ok (.if_icmp .ne 7, 3) := by decide +kernel
theorem d_Lt_isAtom_15 : decode (cd m_Lt_isAtom) 15 = .ok (.iconst 1, 1) := by decide +kernel
theorem d_Lt_isAtom_16 : decode (cd m_Lt_isAtom) 16 = .ok (.goto 4, 3) := by decide +kernel
theorem d_Lt_isAtom_19 : decode (cd m_Lt_isAtom) 19 = .ok (.iconst 0, 1) := by decide +kernel
theorem d_Lt_isAtom_20 : decode (cd m_Lt_isAtom) 20 = .ok (.ireturn, 1) := by decide +kernel
theorem d_Lt_variablesFrom_0 : decode (cd m_Lt_variablesFrom) 0 = .ok (.iconst 0, 1) := by decide +kernel
theorem d_Lt_variablesFrom_1 : decode (cd m_Lt_variablesFrom) 1 = .ok (.istore_n 2, 1) := by decide +kernel
theorem d_Lt_variablesFrom_2 : decode (cd m_Lt_variablesFrom) 2 = .ok (.iload_n 1, 1) := by decide +kernel
theorem d_Lt_variablesFrom_3 : decode (cd m_Lt_variablesFrom) 3 = .ok (.istore_n 3, 1) := by decide +kernel
theorem d_Lt_variablesFrom_4 : decode (cd m_Lt_variablesFrom) 4 = .ok (.iload_n 3, 1) := by decide +kernel
theorem d_Lt_variablesFrom_5 : decode (cd m_Lt_variablesFrom) 5 = .ok (.aload_n 0, 1) := by decide +kernel
theorem d_Lt_variablesFrom_6 : decode (cd m_Lt_variablesFrom) 6 = .ok (.getfield 33, 3) := by decide +kernel
theorem d_Lt_variablesFrom_9 : decode (cd m_Lt_variablesFrom) 9 = .ok (.if_icmp .ge 18, 3) := by decide +kernel
theorem d_Lt_variablesFrom_12 : decode (cd m_Lt_variablesFrom) 12 = .ok (.iload_n 2, 1) := by decide +kernel
theorem d_Lt_variablesFrom_13 : decode (cd m_Lt_variablesFrom) 13 = .ok (.aload_n 0, 1) := by decide +kernel
theorem d_Lt_variablesFrom_14 : decode (cd m_Lt_variablesFrom) 14 = .ok (.getfield 15, 3) := by decide +kernel
theorem d_Lt_variablesFrom_17 : decode (cd m_Lt_variablesFrom) 17 = .ok (.iload_n 3, 1) := by decide +kernel
theorem d_Lt_variablesFrom_18 : decode (cd m_Lt_variablesFrom) 18 = .ok (.iaload, 1) := by decide +kernel
theorem d_Lt_variablesFrom_19 : decode (cd m_Lt_variablesFrom) 19 = .ok (.ior, 1) := by decide +kernel
theorem d_Lt_variablesFrom_20 : decode (cd m_Lt_variablesFrom) 20 = .ok (.istore_n 2, 1) := by decide +kernel
theorem d_Lt_variablesFrom_21 : decode (cd m_Lt_variablesFrom) 21 = .ok (.iinc 3 1, 3) := by decide +kernel
theorem d_Lt_variablesFrom_24 : decode (cd m_Lt_variablesFrom) 24 = .ok (.goto (-20), 3) := by decide +kernel
theorem d_Lt_variablesFrom_27 : decode (cd m_Lt_variablesFrom) 27 = .ok (.iload_n 2, 1) := by decide +kernel
theorem d_Lt_variablesFrom_28 : decode (cd m_Lt_variablesFrom) 28 = .ok (.ireturn, 1) := by decide +kernel
theorem d_Lt_canBeAsked_0 : decode (cd m_Lt_canBeAsked) 0 = .ok (.aload_n 0, 1) := by decide +kernel
theorem d_Lt_canBeAsked_1 : decode (cd m_Lt_canBeAsked) 1 = .ok (.getfield 29, 3) := by decide +kernel
theorem d_Lt_canBeAsked_4 : decode (cd m_Lt_canBeAsked) 4 = .ok (.ifCond .eq 35, 3) := by decide +kernel
theorem d_Lt_canBeAsked_7 : decode (cd m_Lt_canBeAsked) 7 = .ok (.aload_n 0, 1) := by decide +kernel
theorem d_Lt_canBeAsked_8 : decode (cd m_Lt_canBeAsked) 8 = .ok (.getfield 15, 3) := by decide +kernel
theorem d_Lt_canBeAsked_11 : decode (cd m_Lt_canBeAsked) 11 = .ok (.iconst 0, 1) := by decide +kernel
theorem d_Lt_canBeAsked_12 : decode (cd m_Lt_canBeAsked) 12 = .ok (.iaload, 1) := by decide +kernel
theorem d_Lt_canBeAsked_13 : decode (cd m_Lt_canBeAsked) 13 = .ok (.iload_n 1, 1) := by decide +kernel
theorem d_Lt_canBeAsked_14 : decode (cd m_Lt_canBeAsked) 14 = .ok (.iconst (-1), 1) := by decide +kernel
theorem d_Lt_canBeAsked_15 : decode (cd m_Lt_canBeAsked) 15 = .ok (.ixor, 1) := by decide +kernel
theorem d_Lt_canBeAsked_16 : decode (cd m_Lt_canBeAsked) 16 = .ok (.iand, 1) := by decide +kernel
theorem d_Lt_canBeAsked_17 : decode (cd m_Lt_canBeAsked) 17 = .ok (.ifCond .eq 16, 3) := by decide +kernel
theorem d_Lt_canBeAsked_20 : decode (cd m_Lt_canBeAsked) 20 = .ok (.aload_n 0, 1) := by decide +kernel
theorem d_Lt_canBeAsked_21 : decode (cd m_Lt_canBeAsked) 21 = .ok (.getfield 15, 3) := by decide +kernel
theorem d_Lt_canBeAsked_24 : decode (cd m_Lt_canBeAsked) 24 = .ok (.iconst 1, 1) := by decide +kernel
theorem d_Lt_canBeAsked_25 : decode (cd m_Lt_canBeAsked) 25 = .ok (.iaload, 1) := by decide +kernel
theorem d_Lt_canBeAsked_26 : decode (cd m_Lt_canBeAsked) 26 = .ok (.iload_n 1, 1) := by decide +kernel
theorem d_Lt_canBeAsked_27 : decode (cd m_Lt_canBeAsked) 27 = .ok (.iconst (-1), 1) := by decide +kernel
theorem d_Lt_canBeAsked_28 : decode (cd m_Lt_canBeAsked) 28 = .ok (.ixor, 1) := by decide +kernel
theorem d_Lt_canBeAsked_29 : decode (cd m_Lt_canBeAsked) 29 = .ok (.iand, 1) := by decide +kernel
theorem d_Lt_canBeAsked_30 : decode (cd m_Lt_canBeAsked) 30 = .ok (.ifCond .ne 7, 3) := by decide +kernel
theorem d_Lt_canBeAsked_33 : decode (cd m_Lt_canBeAsked) 33 = .ok (.iconst 1, 1) := by decide +kernel
theorem d_Lt_canBeAsked_34 : decode (cd m_Lt_canBeAsked) 34 = .ok (.goto 4, 3) := by decide +kernel
theorem d_Lt_canBeAsked_37 : decode (cd m_Lt_canBeAsked) 37 = .ok (.iconst 0, 1) := by decide +kernel
theorem d_Lt_canBeAsked_38 : decode (cd m_Lt_canBeAsked) 38 = .ok (.ireturn, 1) := by decide +kernel
theorem d_Lt_canBeAsked_39 : decode (cd m_Lt_canBeAsked) 39 = .ok (.aload_n 0, 1) := by decide +kernel
theorem d_Lt_canBeAsked_40 : decode (cd m_Lt_canBeAsked) 40 = .ok (.aload_n 0, 1) := by decide +kernel
theorem d_Lt_canBeAsked_41 : decode (cd m_Lt_canBeAsked) 41 = .ok (.getfield 19, 3) := by decide +kernel
theorem d_Lt_canBeAsked_44 : decode (cd m_Lt_canBeAsked) 44 = .ok (.iconst 3, 1) := by decide +kernel
theorem d_Lt_canBeAsked_45 : decode (cd m_Lt_canBeAsked) 45 = .ok (.if_icmp .ne 7, 3) := by decide +kernel
theorem d_Lt_canBeAsked_48 : decode (cd m_Lt_canBeAsked) 48 = .ok (.iconst 1, 1) := by decide +kernel
theorem d_Lt_canBeAsked_49 : decode (cd m_Lt_canBeAsked) 49 = .ok (.goto 4, 3) := by decide +kernel
theorem d_Lt_canBeAsked_52 : decode (cd m_Lt_canBeAsked) 52 = .ok (.iconst 0, 1) := by decide +kernel
theorem d_Lt_canBeAsked_53 : decode (cd m_Lt_canBeAsked) 53 = .ok (.invokevirtual 40, 3) := by decide +kernel
theorem d_Lt_canBeAsked_56 : decode (cd m_Lt_canBeAsked) 56 = .ok (.istore_n 2, 1) := by decide +kernel
theorem d_Lt_canBeAsked_57 : decode (cd m_Lt_canBeAsked) 57 = .ok (.iload_n 2, 1) := by decide +kernel
theorem d_Lt_canBeAsked_58 : decode (cd m_Lt_canBeAsked) 58 = .ok (.iload_n 1, 1) := by decide +kernel
theorem d_Lt_canBeAsked_59 : decode (cd m_Lt_canBeAsked) 59 = .ok (.iconst (-1), 1) := by decide +kernel
theorem d_Lt_canBeAsked_60 : decode (cd m_Lt_canBeAsked) 60 = .ok (.ixor, 1) := by decide +kernel
theorem d_Lt_canBeAsked_61 : decode (cd m_Lt_canBeAsked) 61 = .ok (.iand, 1) := by decide +kernel
theorem d_Lt_canBeAsked_62 : decode (cd m_Lt_canBeAsked) 62 = .ok (.ifCond .ne 7, 3) := by decide +kernel
theorem d_Lt_canBeAsked_65 : decode (cd m_Lt_canBeAsked) 65 = .ok (.iconst 1, 1) := by decide +kernel
theorem d_Lt_canBeAsked_66 : decode (cd m_Lt_canBeAsked) 66 = .ok (.goto 4, 3) := by decide +kernel
theorem d_Lt_canBeAsked_69 : decode (cd m_Lt_canBeAsked) 69 = .ok (.iconst 0, 1) := by decide +kernel
theorem d_Lt_canBeAsked_70 : decode (cd m_Lt_canBeAsked) 70 = .ok (.ireturn, 1) := by decide +kernel
theorem d_Lt_knownArguments_0 : decode (cd m_Lt_knownArguments) 0 = .ok (.iconst 0, 1) := by decide +kernel
theorem d_Lt_knownArguments_1 : decode (cd m_Lt_knownArguments) 1 = .ok (.istore_n 2, 1) := by decide +kernel
theorem d_Lt_knownArguments_2 : decode (cd m_Lt_knownArguments) 2 = .ok (.iconst 0, 1) := by decide +kernel
theorem d_Lt_knownArguments_3 : decode (cd m_Lt_knownArguments) 3 = .ok (.istore_n 3, 1) := by decide +kernel
theorem d_Lt_knownArguments_4 : decode (cd m_Lt_knownArguments) 4 = .ok (.iload_n 3, 1) := by decide +kernel
theorem d_Lt_knownArguments_5 : decode (cd m_Lt_knownArguments) 5 = .ok (.aload_n 0, 1) := by decide +kernel
theorem d_Lt_knownArguments_6 : decode (cd m_Lt_knownArguments) 6 = .ok (.getfield 33, 3) := by decide +kernel
theorem d_Lt_knownArguments_9 : decode (cd m_Lt_knownArguments) 9 = .ok (.if_icmp .ge 41, 3) := by decide +kernel
theorem d_Lt_knownArguments_12 : decode (cd m_Lt_knownArguments) 12 = .ok (.aload_n 0, 1) := by decide +kernel
theorem d_Lt_knownArguments_13 : decode (cd m_Lt_knownArguments) 13 = .ok (.getfield 9, 3) := by decide +kernel
theorem d_Lt_knownArguments_16 : decode (cd m_Lt_knownArguments) 16 = .ok (.iload_n 3, 1) := by decide +kernel
theorem d_Lt_knownArguments_17 : decode (cd m_Lt_knownArguments) 17 = .ok (.laload, 1) := by decide +kernel
theorem d_Lt_knownArguments_18 : decode (cd m_Lt_knownArguments) 18 = .ok (.ldc2_w 38, 3) := by decide +kernel
theorem d_Lt_knownArguments_21 : decode (cd m_Lt_knownArguments) 21 = .ok (.lcmp, 1) := by decide +kernel
theorem d_Lt_knownArguments_22 : decode (cd m_Lt_knownArguments) 22 = .ok (.ifCond .eq 22, 3) := by decide +kernel
theorem d_Lt_knownArguments_25 : decode (cd m_Lt_knownArguments) 25 = .ok (.aload_n 0, 1) := by decide +kernel
theorem d_Lt_knownArguments_26 : decode (cd m_Lt_knownArguments) 26 = .ok (.getfield 15, 3) := by decide +kernel
theorem d_Lt_knownArguments_29 : decode (cd m_Lt_knownArguments) 29 = .ok (.iload_n 3, 1) := by decide +kernel
theorem d_Lt_knownArguments_30 : decode (cd m_Lt_knownArguments) 30 = .ok (.iaload, 1) := by decide +kernel
theorem d_Lt_knownArguments_31 : decode (cd m_Lt_knownArguments) 31 = .ok (.iload_n 1, 1) := by decide +kernel
theorem d_Lt_knownArguments_32 : decode (cd m_Lt_knownArguments) 32 = .ok (.iconst (-1), 1) := by decide +kernel
theorem d_Lt_knownArguments_33 : decode (cd m_Lt_knownArguments) 33 = .ok (.ixor, 1) := by decide +kernel
theorem d_Lt_knownArguments_34 : decode (cd m_Lt_knownArguments) 34 = .ok (.iand, 1) := by decide +kernel
theorem d_Lt_knownArguments_35 : decode (cd m_Lt_knownArguments) 35 = .ok (.ifCond .ne 9, 3) := by decide +kernel
theorem d_Lt_knownArguments_38 : decode (cd m_Lt_knownArguments) 38 = .ok (.iload_n 2, 1) := by decide +kernel
theorem d_Lt_knownArguments_39 : decode (cd m_Lt_knownArguments) 39 = .ok (.iconst 1, 1) := by decide +kernel
theorem d_Lt_knownArguments_40 : decode (cd m_Lt_knownArguments) 40 = .ok (.iload_n 3, 1) := by decide +kernel
theorem d_Lt_knownArguments_41 : decode (cd m_Lt_knownArguments) 41 = .ok (.ishl, 1) := by decide +kernel
theorem d_Lt_knownArguments_42 : decode (cd m_Lt_knownArguments) 42 = .ok (.ior, 1) := by decide +kernel
theorem d_Lt_knownArguments_43 : decode (cd m_Lt_knownArguments) 43 = .ok (.istore_n 2, 1) := by decide +kernel
theorem d_Lt_knownArguments_44 : decode (cd m_Lt_knownArguments) 44 = .ok (.iinc 3 1, 3) := by decide +kernel
theorem d_Lt_knownArguments_47 : decode (cd m_Lt_knownArguments) 47 = .ok (.goto (-43), 3) := by decide +kernel
theorem d_Lt_knownArguments_50 : decode (cd m_Lt_knownArguments) 50 = .ok (.iload_n 2, 1) := by decide +kernel
theorem d_Lt_knownArguments_51 : decode (cd m_Lt_knownArguments) 51 = .ok (.ireturn, 1) := by decide +kernel
end
section
/-! decode rows (by program) -/
theorem d_Rd_init_0 : decode (cd m_Rd_init) 0 = .ok (.aload_n 0, 1) := by decide +kernel
theorem d_Rd_init_1 : decode (cd m_Rd_init) 1 = .ok (.invokespecial 3, 3) := by decide +kernel
theorem d_Rd_init_4 : decode (cd m_Rd_init) 4 = .ok (.aload_n 0, 1) := by decide +kernel
theorem d_Rd_init_5 : decode (cd m_Rd_init) 5 = .ok (.new 9, 3) := by decide +kernel
theorem d_Rd_init_8 : decode (cd m_Rd_init) 8 = .ok (.dup, 1) := by decide +kernel
theorem d_Rd_init_9 : decode (cd m_Rd_init) 9 = .ok (.invokespecial 11, 3) := by decide +kernel
theorem d_Rd_init_12 : decode (cd m_Rd_init) 12 = .ok (.putfield 12, 3) := by decide +kernel
theorem d_Rd_init_15 : decode (cd m_Rd_init) 15 = .ok (.aload_n 0, 1) := by decide +kernel
theorem d_Rd_init_16 : decode (cd m_Rd_init) 16 = .ok (.new 18, 3) := by decide +kernel
theorem d_Rd_init_19 : decode (cd m_Rd_init) 19 = .ok (.dup, 1) := by decide +kernel
theorem d_Rd_init_20 : decode (cd m_Rd_init) 20 = .ok (.invokespecial 20, 3) := by decide +kernel
theorem d_Rd_init_23 : decode (cd m_Rd_init) 23 = .ok (.putfield 21, 3) := by decide +kernel
theorem d_Rd_init_26 : decode (cd m_Rd_init) 26 = .ok (.aload_n 0, 1) := by decide +kernel
theorem d_Rd_init_27 : decode (cd m_Rd_init) 27 = .ok (.new 25, 3) := by decide +kernel
theorem d_Rd_init_30 : decode (cd m_Rd_init) 30 = .ok (.dup, 1) := by decide +kernel
theorem d_Rd_init_31 : decode (cd m_Rd_init) 31 = .ok (.invokespecial 27, 3) := by decide +kernel
theorem d_Rd_init_34 : decode (cd m_Rd_init) 34 = .ok (.putfield 28, 3) := by decide +kernel
theorem d_Rd_init_37 : decode (cd m_Rd_init) 37 = .ok (.return_, 1) := by decide +kernel
theorem d_Rd_read_0 : decode (cd m_Rd_read) 0 = .ok (.aload_n 0, 1) := by decide +kernel
theorem d_Rd_read_1 : decode (cd m_Rd_read) 1 = .ok (.getfield 12, 3) := by decide +kernel
theorem d_Rd_read_4 : decode (cd m_Rd_read) 4 = .ok (.aload_n 1, 1) := by decide +kernel
theorem d_Rd_read_5 : decode (cd m_Rd_read) 5 = .ok (.invokevirtual 32, 3) := by decide +kernel
theorem d_Rd_read_8 : decode (cd m_Rd_read) 8 = .ok (.aload_n 0, 1) := by decide +kernel
theorem d_Rd_read_9 : decode (cd m_Rd_read) 9 = .ok (.aload_n 2, 1) := by decide +kernel
theorem d_Rd_read_10 : decode (cd m_Rd_read) 10 = .ok (.putfield 36, 3) := by decide +kernel
theorem d_Rd_read_13 : decode (cd m_Rd_read) 13 = .ok (.aload_n 0, 1) := by decide +kernel
theorem d_Rd_read_14 : decode (cd m_Rd_read) 14 = .ok (.getfield 36, 3) := by decide +kernel
theorem d_Rd_read_17 : decode (cd m_Rd_read) 17 = .ok (.invokevirtual 40, 3) := by decide +kernel
theorem d_Rd_read_20 : decode (cd m_Rd_read) 20 = .ok (.aload_n 0, 1) := by decide +kernel
theorem d_Rd_read_21 : decode (cd m_Rd_read) 21 = .ok (.getfield 28, 3) := by decide +kernel
theorem d_Rd_read_24 : decode (cd m_Rd_read) 24 = .ok (.iconst 0, 1) := by decide +kernel
theorem d_Rd_read_25 : decode (cd m_Rd_read) 25 = .ok (.putfield 45, 3) := by decide +kernel
theorem d_Rd_read_28 : decode (cd m_Rd_read) 28 = .ok (.aload_n 0, 1) := by decide +kernel
theorem d_Rd_read_29 : decode (cd m_Rd_read) 29 = .ok (.iconst 0, 1) := by decide +kernel
theorem d_Rd_read_30 : decode (cd m_Rd_read) 30 = .ok (.putfield 49, 3) := by decide +kernel
theorem d_Rd_read_33 : decode (cd m_Rd_read) 33 = .ok (.aload_n 0, 1) := by decide +kernel
theorem d_Rd_read_34 : decode (cd m_Rd_read) 34 = .ok (.iconst 0, 1) := by decide +kernel
theorem d_Rd_read_35 : decode (cd m_Rd_read) 35 = .ok (.putfield 52, 3) := by decide +kernel
theorem d_Rd_read_38 : decode (cd m_Rd_read) 38 = .ok (.aload_n 0, 1) := by decide +kernel
theorem d_Rd_read_39 : decode (cd m_Rd_read) 39 = .ok (.iconst 0, 1) := by decide +kernel
theorem d_Rd_read_40 : decode (cd m_Rd_read) 40 = .ok (.invokevirtual 55, 3) := by decide +kernel
theorem d_Rd_read_43 : decode (cd m_Rd_read) 43 = .ok (.iconst 0, 1) := by decide +kernel
theorem d_Rd_read_44 : decode (cd m_Rd_read) 44 = .ok (.istore_n 3, 1) := by decide +kernel
theorem d_Rd_read_45 : decode (cd m_Rd_read) 45 = .ok (.iload_n 3, 1) := by decide +kernel
theorem d_Rd_read_46 : decode (cd m_Rd_read) 46 = .ok (.aload_n 0, 1) := by decide +kernel
theorem d_Rd_read_47 : decode (cd m_Rd_read) 47 = .ok (.getfield 12, 3) := by decide +kernel
theorem d_Rd_read_50 : decode (cd m_Rd_read) 50 = .ok (.getfield 59, 3) := by decide +kernel
theorem d_Rd_read_53 : decode (cd m_Rd_read) 53 = .ok (.if_icmp .ge 79, 3) := by decide +kernel
theorem d_Rd_read_56 : decode (cd m_Rd_read) 56 = .ok (.aload_n 0, 1) := by decide +kernel
theorem d_Rd_read_57 : decode (cd m_Rd_read) 57 = .ok (.getfield 60, 3) := by decide +kernel
theorem d_Rd_read_60 : decode (cd m_Rd_read) 60 = .ok (.ifCond .eq 72, 3) := by decide +kernel
theorem d_Rd_read_63 : decode (cd m_Rd_read) 63 = .ok (.aload_n 0, 1) := by decide +kernel
theorem d_Rd_read_64 : decode (cd m_Rd_read) 64 = .ok (.getfield 21, 3) := by decide +kernel
theorem d_Rd_read_67 : decode (cd m_Rd_read) 67 = .ok (.aload_n 0, 1) := by decide +kernel
theorem d_Rd_read_68 : decode (cd m_Rd_read) 68 = .ok (.getfield 63, 3) := by decide +kernel
theorem d_Rd_read_71 : decode (cd m_Rd_read) 71 = .ok (.invokevirtual 66, 3) := by decide +kernel
theorem d_Rd_read_74 : decode (cd m_Rd_read) 74 = .ok (.aload_n 0, 1) := by decide +kernel
theorem d_Rd_read_75 : decode (cd m_Rd_read) 75 = .ok (.aload_n 0, 1) := by decide +kernel
theorem d_Rd_read_76 : decode (cd m_Rd_read) 76 = .ok (.getfield 21, 3) := by decide +kernel
theorem d_Rd_read_79 : decode (cd m_Rd_read) 79 = .ok (.getfield 69, 3) := by decide +kernel
theorem d_Rd_read_82 : decode (cd m_Rd_read) 82 = .ok (.invokevirtual 73, 3) := by decide +kernel
theorem d_Rd_read_85 : decode (cd m_Rd_read) 85 = .ok (.ifCond .eq 10, 3) := by decide +kernel
theorem d_Rd_read_88 : decode (cd m_Rd_read) 88 = .ok (.aload_n 0, 1) := by decide +kernel
theorem d_Rd_read_89 : decode (cd m_Rd_read) 89 = .ok (.invokevirtual 77, 3) := by decide +kernel
theorem d_Rd_read_92 : decode (cd m_Rd_read) 92 = .ok (.ifCond .ne 5, 3) := by decide +kernel
theorem d_Rd_read_95 : decode (cd m_Rd_read) 95 = .ok (.iconst 0, 1) := by decide +kernel
theorem d_Rd_read_96 : decode (cd m_Rd_read) 96 = .ok (.ireturn, 1) := by decide +kernel
theorem d_Rd_read_97 : decode (cd m_Rd_read) 97 = .ok (.aload_n 0, 1) := by decide +kernel
theorem d_Rd_read_98 : decode (cd m_Rd_read) 98 = .ok (.getfield 21, 3) := by decide +kernel
theorem d_Rd_read_101 : decode (cd m_Rd_read) 101 = .ok (.getfield 81, 3) := by decide +kernel
theorem d_Rd_read_104 : decode (cd m_Rd_read) 104 = .ok (.ifCond .le 13, 3) := by decide +kernel
theorem d_Rd_read_107 : decode (cd m_Rd_read) 107 = .ok (.aload_n 0, 1) := by decide +kernel
theorem d_Rd_read_108 : decode (cd m_Rd_read) 108 = .ok (.invokevirtual 84, 3) := by decide +kernel
theorem d_Rd_read_111 : decode (cd m_Rd_read) 111 = .ok (.ifCond .eq 13, 3) := by decide +kernel
theorem d_Rd_read_114 : decode (cd m_Rd_read) 114 = .ok (.goto 12, 3) := by decide +kernel
theorem d_Rd_read_117 : decode (cd m_Rd_read) 117 = .ok (.aload_n 0, 1) := by decide +kernel
theorem d_Rd_read_118 : decode (cd m_Rd_read) 118 = .ok (.invokevirtual 87, 3) := by decide +kernel
theorem d_Rd_read_121 : decode (cd m_Rd_read) 121 = .ok (.ifCond .ne 5, 3) := by decide +kernel
theorem d_Rd_read_124 : decode (cd m_Rd_read) 124 = .ok (.iconst 0, 1) := by decide +kernel
theorem d_Rd_read_125 : decode (cd m_Rd_read) 125 = .ok (.ireturn, 1) := by decide +kernel
theorem d_Rd_read_126 : decode (cd m_Rd_read) 126 = .ok (.iinc 3 1, 3) := by decide +kernel
theorem d_Rd_read_129 : decode (cd m_Rd_read) 129 = .ok (.goto (-84), 3) := by decide +kernel
theorem d_Rd_read_132 : decode (cd m_Rd_read) 132 = .ok (.aload_n 0, 1) := by decide +kernel
theorem d_Rd_read_133 : decode (cd m_Rd_read) 133 = .ok (.getfield 49, 3) := by decide +kernel
theorem d_Rd_read_136 : decode (cd m_Rd_read) 136 = .ok (.ifCond .ne 7, 3) := by decide +kernel
theorem d_Rd_read_139 : decode (cd m_Rd_read) 139 = .ok (.aload_n 0, 1) := by decide +kernel
theorem d_Rd_read_140 : decode (cd m_Rd_read) 140 = .ok (.invokevirtual 90, 3) := by decide +kernel
theorem d_Rd_read_143 : decode (cd m_Rd_read) 143 = .ok (.aload_n 0, 1) := by decide +kernel
theorem d_Rd_read_144 : decode (cd m_Rd_read) 144 = .ok (.getfield 49, 3) := by decide +kernel
theorem d_Rd_read_147 : decode (cd m_Rd_read) 147 = .ok (.ifCond .ne 7, 3) := by decide +kernel
theorem d_Rd_read_150 : decode (cd m_Rd_read) 150 = .ok (.iconst 1, 1) := by decide +kernel
theorem d_Rd_read_151 : decode (cd m_Rd_read) 151 = .ok (.goto 4, 3) := by decide +kernel
theorem d_Rd_read_154 : decode (cd m_Rd_read) 154 = .ok (.iconst 0, 1) := by decide +kernel
theorem d_Rd_read_155 : decode (cd m_Rd_read) 155 = .ok (.ireturn, 1) := by decide +kernel
theorem d_Rd_finish_0 : decode (cd m_Rd_finish) 0 = .ok (.aload_n 0, 1) := by decide +kernel
theorem d_Rd_finish_1 : decode (cd m_Rd_finish) 1 = .ok (.getfield 36, 3) := by decide +kernel
theorem d_Rd_finish_4 : decode (cd m_Rd_finish) 4 = .ok (.invokevirtual 93, 3) := by decide +kernel
theorem d_Rd_finish_7 : decode (cd m_Rd_finish) 7 = .ok (.aload_n 0, 1) := by decide +kernel
theorem d_Rd_finish_8 : decode (cd m_Rd_finish) 8 = .ok (.getfield 36, 3) := by decide +kernel
theorem d_Rd_finish_11 : decode (cd m_Rd_finish) 11 = .ok (.invokevirtual 96, 3) := by decide +kernel
theorem d_Rd_finish_14 : decode (cd m_Rd_finish) 14 = .ok (.istore_n 1, 1) := by decide +kernel
theorem d_Rd_finish_15 : decode (cd m_Rd_finish) 15 = .ok (.iload_n 1, 1) := by decide +kernel
theorem d_Rd_finish_16 : decode (cd m_Rd_finish) 16 = .ok (.iconst (-1), 1) := by decide +kernel
theorem d_Rd_finish_17 : decode (cd m_Rd_finish) 17 = .ok (.if_icmp .eq 12, 3) := by decide +kernel
theorem d_Rd_finish_20 : decode (cd m_Rd_finish) 20 = .ok (.aload_n 0, 1) := by decide +kernel
theorem d_Rd_finish_21 : decode (cd m_Rd_finish) 21 = .ok (.iconst 4, 1) := by decide +kernel
theorem d_Rd_finish_22 : decode (cd m_Rd_finish) 22 = .ok (.iload_n 1, 1) := by decide +kernel
theorem d_Rd_finish_23 : decode (cd m_Rd_finish) 23 = .ok (.invokevirtual 100, 3) := by decide +kernel
theorem d_Rd_finish_26 : decode (cd m_Rd_finish) 26 = .ok (.goto 10, 3) := by decide +kernel
theorem d_Rd_finish_29 : decode (cd m_Rd_finish) 29 = .ok (.aload_n 0, 1) := by decide +kernel
theorem d_Rd_finish_30 : decode (cd m_Rd_finish) 30 = .ok (.getfield 36, 3) := by decide +kernel
theorem d_Rd_finish_33 : decode (cd m_Rd_finish) 33 = .ok (.invokevirtual 104, 3) := by decide +kernel
theorem d_Rd_finish_36 : decode (cd m_Rd_finish) 36 = .ok (.return_, 1) := by decide +kernel
theorem d_Rd_moveTo_0 : decode (cd m_Rd_moveTo) 0 = .ok (.iload_n 1, 1) := by decide +kernel
theorem d_Rd_moveTo_1 : decode (cd m_Rd_moveTo) 1 = .ok (.ifCond .lt 58, 3) := by decide +kernel
theorem d_Rd_moveTo_4 : decode (cd m_Rd_moveTo) 4 = .ok (.iload_n 1, 1) := by decide +kernel
theorem d_Rd_moveTo_5 : decode (cd m_Rd_moveTo) 5 = .ok (.aload_n 0, 1) := by decide +kernel
theorem d_Rd_moveTo_6 : decode (cd m_Rd_moveTo) 6 = .ok (.getfield 12, 3) := by decide +kernel
theorem d_Rd_moveTo_9 : decode (cd m_Rd_moveTo) 9 = .ok (.getfield 59, 3) := by decide +kernel
theorem d_Rd_moveTo_12 : decode (cd m_Rd_moveTo) 12 = .ok (.if_icmp .ge 47, 3) := by decide +kernel
theorem d_Rd_moveTo_15 : decode (cd m_Rd_moveTo) 15 = .ok (.aload_n 0, 1) := by decide +kernel
theorem d_Rd_moveTo_16 : decode (cd m_Rd_moveTo) 16 = .ok (.iload_n 1, 1) := by decide +kernel
theorem d_Rd_moveTo_17 : decode (cd m_Rd_moveTo) 17 = .ok (.putfield 107, 3) := by decide +kernel
theorem d_Rd_moveTo_20 : decode (cd m_Rd_moveTo) 20 = .ok (.aload_n 0, 1) := by decide +kernel
theorem d_Rd_moveTo_21 : decode (cd m_Rd_moveTo) 21 = .ok (.aload_n 0, 1) := by decide +kernel
theorem d_Rd_moveTo_22 : decode (cd m_Rd_moveTo) 22 = .ok (.getfield 12, 3) := by decide +kernel
theorem d_Rd_moveTo_25 : decode (cd m_Rd_moveTo) 25 = .ok (.getfield 110, 3) := by decide +kernel
theorem d_Rd_moveTo_28 : decode (cd m_Rd_moveTo) 28 = .ok (.iload_n 1, 1) := by decide +kernel
theorem d_Rd_moveTo_29 : decode (cd m_Rd_moveTo) 29 = .ok (.iaload, 1) := by decide +kernel
theorem d_Rd_moveTo_30 : decode (cd m_Rd_moveTo) 30 = .ok (.putfield 60, 3) := by decide +kernel
theorem d_Rd_moveTo_33 : decode (cd m_Rd_moveTo) 33 = .ok (.aload_n 0, 1) := by decide +kernel
theorem d_Rd_moveTo_34 : decode (cd m_Rd_moveTo) 34 = .ok (.aload_n 0, 1) := by decide +kernel
theorem d_Rd_moveTo_35 : decode (cd m_Rd_moveTo) 35 = .ok (.getfield 12, 3) := by decide +kernel
theorem d_Rd_moveTo_38 : decode (cd m_Rd_moveTo) 38 = .ok (.getfield 114, 3) := by decide +kernel
theorem d_Rd_moveTo_41 : decode (cd m_Rd_moveTo) 41 = .ok (.iload_n 1, 1) := by decide +kernel
theorem d_Rd_moveTo_42 : decode (cd m_Rd_moveTo) 42 = .ok (.iaload, 1) := by decide +kernel
theorem d_Rd_moveTo_43 : decode (cd m_Rd_moveTo) 43 = .ok (.putfield 63, 3) := by decide +kernel
theorem d_Rd_moveTo_46 : decode (cd m_Rd_moveTo) 46 = .ok (.aload_n 0, 1) := by decide +kernel
theorem d_Rd_moveTo_47 : decode (cd m_Rd_moveTo) 47 = .ok (.aload_n 0, 1) := by decide +kernel
theorem d_Rd_moveTo_48 : decode (cd m_Rd_moveTo) 48 = .ok (.getfield 12, 3) := by decide +kernel
theorem d_Rd_moveTo_51 : decode (cd m_Rd_moveTo) 51 = .ok (.getfield 117, 3) := by decide +kernel
theorem d_Rd_moveTo_54 : decode (cd m_Rd_moveTo) 54 = .ok (.iload_n 1, 1) := by decide +kernel
theorem d_Rd_moveTo_55 : decode (cd m_Rd_moveTo) 55 = .ok (.laload, 1) := by decide +kernel
theorem d_Rd_moveTo_56 : decode (cd m_Rd_moveTo) 56 = .ok (.putfield 121, 3) := by decide +kernel
theorem d_Rd_moveTo_59 : decode (cd m_Rd_moveTo) 59 = .ok (.return_, 1) := by decide +kernel
theorem d_Rd_refuse_0 : decode (cd m_Rd_refuse) 0 = .ok (.aload_n 0, 1) := by decide +kernel
theorem d_Rd_refuse_1 : decode (cd m_Rd_refuse) 1 = .ok (.iconst 1, 1) := by decide +kernel
theorem d_Rd_refuse_2 : decode (cd m_Rd_refuse) 2 = .ok (.putfield 49, 3) := by decide +kernel
theorem d_Rd_refuse_5 : decode (cd m_Rd_refuse) 5 = .ok (.aload_n 0, 1) := by decide +kernel
theorem d_Rd_refuse_6 : decode (cd m_Rd_refuse) 6 = .ok (.iload_n 1, 1) := by decide +kernel
theorem d_Rd_refuse_7 : decode (cd m_Rd_refuse) 7 = .ok (.putfield 52, 3) := by decide +kernel
theorem d_Rd_refuse_10 : decode (cd m_Rd_refuse) 10 = .ok (.iconst 0, 1) := by decide +kernel
theorem d_Rd_refuse_11 : decode (cd m_Rd_refuse) 11 = .ok (.ireturn, 1) := by decide +kernel
theorem d_Rd_note_0 : decode (cd m_Rd_note) 0 = .ok (.aload_n 0, 1) := by decide +kernel
theorem d_Rd_note_1 : decode (cd m_Rd_note) 1 = .ok (.getfield 49, 3) := by decide +kernel
theorem d_Rd_note_4 : decode (cd m_Rd_note) 4 = .ok (.ifCond .eq 11, 3) := by decide +kernel
theorem d_Rd_note_7 : decode (cd m_Rd_note) 7 = .ok (.iload_n 2, 1) := by decide +kernel
theorem d_Rd_note_8 : decode (cd m_Rd_note) 8 = .ok (.aload_n 0, 1) := by decide +kernel
theorem d_Rd_note_9 : decode (cd m_Rd_note) 9 = .ok (.getfield 52, 3) := by decide +kernel
theorem d_Rd_note_12 : decode (cd m_Rd_note) 12 = .ok (.if_icmp .ge 13, 3) := by decide +kernel
theorem d_Rd_note_15 : decode (cd m_Rd_note) 15 = .ok (.aload_n 0, 1) := by decide +kernel
theorem d_Rd_note_16 : decode (cd m_Rd_note) 16 = .ok (.iload_n 1, 1) := by decide +kernel
theorem d_Rd_note_17 : decode (cd m_Rd_note) 17 = .ok (.putfield 49, 3) := by decide +kernel
theorem d_Rd_note_20 : decode (cd m_Rd_note) 20 = .ok (.aload_n 0, 1) := by decide +kernel
theorem d_Rd_note_21 : decode (cd m_Rd_note) 21 = .ok (.iload_n 2, 1) := by decide +kernel
theorem d_Rd_note_22 : decode (cd m_Rd_note) 22 = .ok (.putfield 52, 3) := by decide +kernel
theorem d_Rd_note_25 : decode (cd m_Rd_note) 25 = .ok (.return_, 1) := by decide +kernel
theorem d_Rd_take_0 : decode (cd m_Rd_take) 0 = .ok (.aload_n 0, 1) := by decide +kernel
theorem d_Rd_take_1 : decode (cd m_Rd_take) 1 = .ok (.getfield 60, 3) := by decide +kernel
theorem d_Rd_take_4 : decode (cd m_Rd_take) 4 = .ok (.iload_n 1, 1) := by decide +kernel
theorem d_Rd_take_5 : decode (cd m_Rd_take) 5 = .ok (.if_icmp .eq 12, 3) := by decide +kernel
theorem d_Rd_take_8 : decode (cd m_Rd_take) 8 = .ok (.aload_n 0, 1) := by decide +kernel
theorem d_Rd_take_9 : decode (cd m_Rd_take) 9 = .ok (.aload_n 0, 1) := by decide +kernel
theorem d_Rd_take_10 : decode (cd m_Rd_take) 10 = .ok (.getfield 63, 3) := by decide +kernel
theorem d_Rd_take_13 : decode (cd m_Rd_take) 13 = .ok (.invokevirtual 125, 3) := by decide +kernel
theorem d_Rd_take_16 : decode (cd m_Rd_take) 16 = .ok (.ireturn, 1) := by decide +kernel
theorem d_Rd_take_17 : decode (cd m_Rd_take) 17 = .ok (.aload_n 0, 1) := by decide +kernel
theorem d_Rd_take_18 : decode (cd m_Rd_take) 18 = .ok (.aload_n 0, 1) := by decide +kernel
theorem d_Rd_take_19 : decode (cd m_Rd_take) 19 = .ok (.getfield 107, 3) := by decide +kernel
theorem d_Rd_take_22 : decode (cd m_Rd_take) 22 = .ok (.iconst 1, 1) := by decide +kernel
theorem d_Rd_take_23 : decode (cd m_Rd_take) 23 = .ok (.iadd, 1) := by decide +kernel
theorem d_Rd_take_24 : decode (cd m_Rd_take) 24 = .ok (.invokevirtual 55, 3) := by decide +kernel
theorem d_Rd_take_27 : decode (cd m_Rd_take) 27 = .ok (.iconst 1, 1) := by decide +kernel
theorem d_Rd_take_28 : decode (cd m_Rd_take) 28 = .ok (.ireturn, 1) := by decide +kernel
theorem d_Rd_readBody_0 : decode (cd m_Rd_readBody) 0 = .ok (.aload_n 0, 1) := by decide +kernel
theorem d_Rd_readBody_1 : decode (cd m_Rd_readBody) 1 = .ok (.getfield 60, 3) := by decide +kernel
theorem d_Rd_readBody_4 : decode (cd m_Rd_readBody) 4 = .ok (.bipush 8, 2) := by decide +kernel
theorem d_Rd_readBody_6 : decode (cd m_Rd_readBody) 6 = .ok (.if_icmp .ne 5, 3) := by decide +kernel
theorem d_Rd_readBody_9 : decode (cd m_Rd_readBody) 9 = .ok (.iconst 1, 1) := by decide +kernel
theorem d_Rd_readBody_10 : decode (cd m_Rd_readBody) 10 = .ok (.ireturn, 1) := by decide +kernel
theorem d_Rd_readBody_11 : decode (cd m_Rd_readBody) 11 = .ok (.aload_n 0, 1) := by decide +kernel
theorem d_Rd_readBody_12 : decode (cd m_Rd_readBody) 12 = .ok (.getfield 60, 3) := by decide +kernel
theorem d_Rd_readBody_15 : decode (cd m_Rd_readBody) 15 = .ok (.bipush 11, 2) := by decide +kernel
theorem d_Rd_readBody_17 : decode (cd m_Rd_readBody) 17 = .ok (.if_icmp .ne 33, 3) := by decide +kernel
theorem d_Rd_readBody_20 : decode (cd m_Rd_readBody) 20 = .ok (.aload_n 0, 1) := by decide +kernel
theorem d_Rd_readBody_21 : decode (cd m_Rd_readBody) 21 = .ok (.getfield 36, 3) := by decide +kernel
theorem d_Rd_readBody_24 : decode (cd m_Rd_readBody) 24 = .ok (.getfield 129, 3) := by decide +kernel
theorem d_Rd_readBody_27 : decode (cd m_Rd_readBody) 27 = .ok (.getfield 133, 3) := by decide +kernel
theorem d_Rd_readBody_30 : decode (cd m_Rd_readBody) 30 = .ok (.bipush 30, 2) := by decide +kernel
theorem d_Rd_readBody_32 : decode (cd m_Rd_readBody) 32 = .ok (.if_icmp .lt 18, 3) := by decide +kernel
theorem d_Rd_readBody_35 : decode (cd m_Rd_readBody) 35 = .ok (.aload_n 0, 1) := by decide +kernel
theorem d_Rd_readBody_36 : decode (cd m_Rd_readBody) 36 = .ok (.aload_n 0, 1) := by decide +kernel
theorem d_Rd_readBody_37 : decode (cd m_Rd_readBody) 37 = .ok (.getfield 21, 3) := by decide +kernel
theorem d_Rd_readBody_40 : decode (cd m_Rd_readBody) 40 = .ok (.getfield 69, 3) := by decide +kernel
theorem d_Rd_readBody_43 : decode (cd m_Rd_readBody) 43 = .ok (.getfield 136, 3) := by decide +kernel
theorem d_Rd_readBody_46 : decode (cd m_Rd_readBody) 46 = .ok (.invokevirtual 125, 3) := by decide +kernel
theorem d_Rd_readBody_49 : decode (cd m_Rd_readBody) 49 = .ok (.ireturn, 1) := by decide +kernel
theorem d_Rd_readBody_50 : decode (cd m_Rd_readBody) 50 = .ok (.aload_n 0, 1) := by decide +kernel
theorem d_Rd_readBody_51 : decode (cd m_Rd_readBody) 51 = .ok (.bipush 11, 2) := by decide +kernel
theorem d_Rd_readBody_53 : decode (cd m_Rd_readBody) 53 = .ok (.invokevirtual 139, 3) := by decide +kernel
theorem d_Rd_readBody_56 : decode (cd m_Rd_readBody) 56 = .ok (.ifCond .ne 5, 3) := by decide +kernel
theorem d_Rd_readBody_59 : decode (cd m_Rd_readBody) 59 = .ok (.iconst 0, 1) := by decide +kernel
theorem d_Rd_readBody_60 : decode (cd m_Rd_readBody) 60 = .ok (.ireturn, 1) := by decide +kernel
theorem d_Rd_readBody_61 : decode (cd m_Rd_readBody) 61 = .ok (.iconst 0, 1) := by decide +kernel
theorem d_Rd_readBody_62 : decode (cd m_Rd_readBody) 62 = .ok (.istore_n 1, 1) := by decide +kernel
theorem d_Rd_readBody_63 : decode (cd m_Rd_readBody) 63 = .ok (.iload_n 1, 1) := by decide +kernel
theorem d_Rd_readBody_64 : decode (cd m_Rd_readBody) 64 = .ok (.bipush 6, 2) := by decide +kernel
theorem d_Rd_readBody_66 : decode (cd m_Rd_readBody) 66 = .ok (.if_icmp .ge 62, 3) := by decide +kernel
theorem d_Rd_readBody_69 : decode (cd m_Rd_readBody) 69 = .ok (.aload_n 0, 1) := by decide +kernel
theorem d_Rd_readBody_70 : decode (cd m_Rd_readBody) 70 = .ok (.aload_n 0, 1) := by decide +kernel
theorem d_Rd_readBody_71 : decode (cd m_Rd_readBody) 71 = .ok (.getfield 21, 3) := by decide +kernel
theorem d_Rd_readBody_74 : decode (cd m_Rd_readBody) 74 = .ok (.getfield 142, 3) := by decide +kernel
theorem d_Rd_readBody_77 : decode (cd m_Rd_readBody) 77 = .ok (.iload_n 1, 1) := by decide +kernel
theorem d_Rd_readBody_78 : decode (cd m_Rd_readBody) 78 = .ok (.aaload, 1) := by decide +kernel
theorem d_Rd_readBody_79 : decode (cd m_Rd_readBody) 79 = .ok (.invokevirtual 146, 3) := by decide +kernel
theorem d_Rd_readBody_82 : decode (cd m_Rd_readBody) 82 = .ok (.ifCond .ne 5, 3) := by decide +kernel
theorem d_Rd_readBody_85 : decode (cd m_Rd_readBody) 85 = .ok (.iconst 0, 1) := by decide +kernel
theorem d_Rd_readBody_86 : decode (cd m_Rd_readBody) 86 = .ok (.ireturn, 1) := by decide +kernel
theorem d_Rd_readBody_87 : decode (cd m_Rd_readBody) 87 = .ok (.aload_n 0, 1) := by decide +kernel
theorem d_Rd_readBody_88 : decode (cd m_Rd_readBody) 88 = .ok (.getfield 21, 3) := by decide +kernel
theorem d_Rd_readBody_91 : decode (cd m_Rd_readBody) 91 = .ok (.dup, 1) := by decide +kernel
theorem d_Rd_readBody_92 : decode (cd m_Rd_readBody) 92 = .ok (.getfield 81, 3) := by decide +kernel
theorem d_Rd_readBody_95 : decode (cd m_Rd_readBody) 95 = .ok (.iconst 1, 1) := by decide +kernel
theorem d_Rd_readBody_96 : decode (cd m_Rd_readBody) 96 = .ok (.iadd, 1) := by decide +kernel
theorem d_Rd_readBody_97 : decode (cd m_Rd_readBody) 97 = .ok (.putfield 81, 3) := by decide +kernel
theorem d_Rd_readBody_100 : decode (cd m_Rd_readBody) 100 = .ok (.aload_n 0, 1) := by decide +kernel
theorem d_Rd_readBody_101 : decode (cd m_Rd_readBody) 101 = .ok (.getfield 60, 3) := by decide +kernel
theorem d_Rd_readBody_104 : decode (cd m_Rd_readBody) 104 = .ok (.bipush 8, 2) := by decide +kernel
theorem d_Rd_readBody_106 : decode (cd m_Rd_readBody) 106 = .ok (.if_icmp .ne 5, 3) := by decide +kernel
theorem d_Rd_readBody_109 : decode (cd m_Rd_readBody) 109 = .ok (.iconst 1, 1) := by decide +kernel
theorem d_Rd_readBody_110 : decode (cd m_Rd_readBody) 110 = .ok (.ireturn, 1) := by decide +kernel
theorem d_Rd_readBody_111 : decode (cd m_Rd_readBody) 111 = .ok (.aload_n 0, 1) := by decide +kernel
theorem d_Rd_readBody_112 : decode (cd m_Rd_readBody) 112 = .ok (.bipush 7, 2) := by decide +kernel
theorem d_Rd_readBody_114 : decode (cd m_Rd_readBody) 114 = .ok (.invokevirtual 139, 3) := by decide +kernel
theorem d_Rd_readBody_117 : decode (cd m_Rd_readBody) 117 = .ok (.ifCond .ne 5, 3) := by decide +kernel
theorem d_Rd_readBody_120 : decode (cd m_Rd_readBody) 120 = .ok (.iconst 0, 1) := by decide +kernel
theorem d_Rd_readBody_121 : decode (cd m_Rd_readBody) 121 = .ok (.ireturn, 1) := by decide +kernel
theorem d_Rd_readBody_122 : decode (cd m_Rd_readBody) 122 = .ok (.iinc 1 1, 3) := by decide +kernel
theorem d_Rd_readBody_125 : decode (cd m_Rd_readBody) 125 = .ok (.goto (-62), 3) := by decide +kernel
theorem d_Rd_readBody_128 : decode (cd m_Rd_readBody) 128 = .ok (.aload_n 0, 1) := by decide +kernel
theorem d_Rd_readBody_129 : decode (cd m_Rd_readBody) 129 = .ok (.aload_n 0, 1) := by decide +kernel
theorem d_Rd_readBody_130 : decode (cd m_Rd_readBody) 130 = .ok (.getfield 63, 3) := by decide +kernel
theorem d_Rd_readBody_133 : decode (cd m_Rd_readBody) 133 = .ok (.invokevirtual 125, 3) := by decide +kernel
theorem d_Rd_readBody_136 : decode (cd m_Rd_readBody) 136 = .ok (.ireturn, 1) := by decide +kernel
theorem d_Rd_endRule_0 : decode (cd m_Rd_endRule) 0 = .ok (.aload_n 0, 1) := by decide +kernel
theorem d_Rd_endRule_1 : decode (cd m_Rd_endRule) 1 = .ok (.getfield 21, 3) := by decide +kernel
theorem d_Rd_endRule_4 : decode (cd m_Rd_endRule) 4 = .ok (.invokevirtual 149, 3) := by decide +kernel
theorem d_Rd_endRule_7 : decode (cd m_Rd_endRule) 7 = .ok (.istore_n 1, 1) := by decide +kernel
theorem d_Rd_endRule_8 : decode (cd m_Rd_endRule) 8 = .ok (.iload_n 1, 1) := by decide +kernel
theorem d_Rd_endRule_9 : decode (cd m_Rd_endRule) 9 = .ok (.iconst (-1), 1) := by decide +kernel
theorem d_Rd_endRule_10 : decode (cd m_Rd_endRule) 10 = .ok (.if_icmp .eq 9, 3) := by decide +kernel
theorem d_Rd_endRule_13 : decode (cd m_Rd_endRule) 13 = .ok (.aload_n 0, 1) := by decide +kernel
theorem d_Rd_endRule_14 : decode (cd m_Rd_endRule) 14 = .ok (.iconst 3, 1) := by decide +kernel
theorem d_Rd_endRule_15 : decode (cd m_Rd_endRule) 15 = .ok (.iload_n 1, 1) := by decide +kernel
theorem d_Rd_endRule_16 : decode (cd m_Rd_endRule) 16 = .ok (.invokevirtual 100, 3) := by decide +kernel
theorem d_Rd_endRule_19 : decode (cd m_Rd_endRule) 19 = .ok (.aload_n 0, 1) := by decide +kernel
theorem d_Rd_endRule_20 : decode (cd m_Rd_endRule) 20 = .ok (.getfield 36, 3) := by decide +kernel
theorem d_Rd_endRule_23 : decode (cd m_Rd_endRule) 23 = .ok (.aload_n 0, 1) := by decide +kernel
theorem d_Rd_endRule_24 : decode (cd m_Rd_endRule) 24 = .ok (.getfield 21, 3) := by decide +kernel
theorem d_Rd_endRule_27 : decode (cd m_Rd_endRule) 27 = .ok (.invokevirtual 152, 3) := by decide +kernel
theorem d_Rd_endRule_30 : decode (cd m_Rd_endRule) 30 = .ok (.aload_n 0, 1) := by decide +kernel
theorem d_Rd_endRule_31 : decode (cd m_Rd_endRule) 31 = .ok (.bipush 8, 2) := by decide +kernel
theorem d_Rd_endRule_33 : decode (cd m_Rd_endRule) 33 = .ok (.invokevirtual 139, 3) := by decide +kernel
theorem d_Rd_endRule_36 : decode (cd m_Rd_endRule) 36 = .ok (.ireturn, 1) := by decide +kernel
theorem d_Rd_endFact_0 : decode (cd m_Rd_endFact) 0 = .ok (.aload_n 0, 1) := by decide +kernel
theorem d_Rd_endFact_1 : decode (cd m_Rd_endFact) 1 = .ok (.getfield 21, 3) := by decide +kernel
theorem d_Rd_endFact_4 : decode (cd m_Rd_endFact) 4 = .ok (.invokevirtual 156, 3) := by decide +kernel
theorem d_Rd_endFact_7 : decode (cd m_Rd_endFact) 7 = .ok (.istore_n 1, 1) := by decide +kernel
theorem d_Rd_endFact_8 : decode (cd m_Rd_endFact) 8 = .ok (.iload_n 1, 1) := by decide +kernel
theorem d_Rd_endFact_9 : decode (cd m_Rd_endFact) 9 = .ok (.iconst (-1), 1) := by decide +kernel
theorem d_Rd_endFact_10 : decode (cd m_Rd_endFact) 10 = .ok (.if_icmp .eq 9, 3) := by decide +kernel
theorem d_Rd_endFact_13 : decode (cd m_Rd_endFact) 13 = .ok (.aload_n 0, 1) := by decide +kernel
theorem d_Rd_endFact_14 : decode (cd m_Rd_endFact) 14 = .ok (.iload_n 1, 1) := by decide +kernel
theorem d_Rd_endFact_15 : decode (cd m_Rd_endFact) 15 = .ok (.invokevirtual 125, 3) := by decide +kernel
theorem d_Rd_endFact_18 : decode (cd m_Rd_endFact) 18 = .ok (.ireturn, 1) := by decide +kernel
theorem d_Rd_endFact_19 : decode (cd m_Rd_endFact) 19 = .ok (.aload_n 0, 1) := by decide +kernel
theorem d_Rd_endFact_20 : decode (cd m_Rd_endFact) 20 = .ok (.getfield 28, 3) := by decide +kernel
theorem d_Rd_endFact_23 : decode (cd m_Rd_endFact) 23 = .ok (.aload_n 0, 1) := by decide +kernel
theorem d_Rd_endFact_24 : decode (cd m_Rd_endFact) 24 = .ok (.getfield 21, 3) := by decide +kernel
theorem d_Rd_endFact_27 : decode (cd m_Rd_endFact) 27 = .ok (.getfield 69, 3) := by decide +kernel
theorem d_Rd_endFact_30 : decode (cd m_Rd_endFact) 30 = .ok (.invokevirtual 159, 3) := by decide +kernel
theorem d_Rd_endFact_33 : decode (cd m_Rd_endFact) 33 = .ok (.ifCond .eq 20, 3) := by decide +kernel
theorem d_Rd_endFact_36 : decode (cd m_Rd_endFact) 36 = .ok (.aload_n 0, 1) := by decide +kernel
theorem d_Rd_endFact_37 : decode (cd m_Rd_endFact) 37 = .ok (.getfield 36, 3) := by decide +kernel
theorem d_Rd_endFact_40 : decode (cd m_Rd_endFact) 40 = .ok (.aload_n 0, 1) := by decide +kernel
theorem d_Rd_endFact_41 : decode (cd m_Rd_endFact) 41 = .ok (.getfield 21, 3) := by decide +kernel
theorem d_Rd_endFact_44 : decode (cd m_Rd_endFact) 44 = .ok (.getfield 69, 3) := by decide +kernel
theorem d_Rd_endFact_47 : decode (cd m_Rd_endFact) 47 = .ok (.getfield 162, 3) := by decide +kernel
theorem d_Rd_endFact_50 : decode (cd m_Rd_endFact) 50 = .ok (.invokevirtual 165, 3) := by decide +kernel
theorem d_Rd_endFact_53 : decode (cd m_Rd_endFact) 53 = .ok (.aload_n 0, 1) := by decide +kernel
theorem d_Rd_endFact_54 : decode (cd m_Rd_endFact) 54 = .ok (.bipush 8, 2) := by decide +kernel
theorem d_Rd_endFact_56 : decode (cd m_Rd_endFact) 56 = .ok (.invokevirtual 139, 3) := by decide +kernel
theorem d_Rd_endFact_59 : decode (cd m_Rd_endFact) 59 = .ok (.ireturn, 1) := by decide +kernel
theorem d_Rd_readLiteral_0 : decode (cd m_Rd_readLiteral) 0 = .ok (.aload_n 0, 1) := by decide +kernel
theorem d_Rd_readLiteral_1 : decode (cd m_Rd_readLiteral) 1 = .ok (.getfield 60, 3) := by decide +kernel
theorem d_Rd_readLiteral_4 : decode (cd m_Rd_readLiteral) 4 = .ok (.bipush 9, 2) := by decide +kernel
theorem d_Rd_readLiteral_6 : decode (cd m_Rd_readLiteral) 6 = .ok (.if_icmp .ne 28, 3) := by decide +kernel
theorem d_Rd_readLiteral_9 : decode (cd m_Rd_readLiteral) 9 = .ok (.aload_n 1, 1) := by decide +kernel
theorem d_Rd_readLiteral_10 : decode (cd m_Rd_readLiteral) 10 = .ok (.iconst 1, 1) := by decide +kernel
theorem d_Rd_readLiteral_11 : decode (cd m_Rd_readLiteral) 11 = .ok (.aload_n 0, 1) := by decide +kernel
theorem d_Rd_readLiteral_12 : decode (cd m_Rd_readLiteral) 12 = .ok (.getfield 63, 3) := by decide +kernel
theorem d_Rd_readLiteral_15 : decode (cd m_Rd_readLiteral) 15 = .ok (.invokevirtual 168, 3) := by decide +kernel
theorem d_Rd_readLiteral_18 : decode (cd m_Rd_readLiteral) 18 = .ok (.aload_n 0, 1) := by decide +kernel
theorem d_Rd_readLiteral_19 : decode (cd m_Rd_readLiteral) 19 = .ok (.aload_n 0, 1) := by decide +kernel
theorem d_Rd_readLiteral_20 : decode (cd m_Rd_readLiteral) 20 = .ok (.getfield 107, 3) := by decide +kernel
theorem d_Rd_readLiteral_23 : decode (cd m_Rd_readLiteral) 23 = .ok (.iconst 1, 1) := by decide +kernel
theorem d_Rd_readLiteral_24 : decode (cd m_Rd_readLiteral) 24 = .ok (.iadd, 1) := by decide +kernel
theorem d_Rd_readLiteral_25 : decode (cd m_Rd_readLiteral) 25 = .ok (.invokevirtual 55, 3) := by decide +kernel
theorem d_Rd_readLiteral_28 : decode (cd m_Rd_readLiteral) 28 = .ok (.aload_n 0, 1) := by decide +kernel
theorem d_Rd_readLiteral_29 : decode (cd m_Rd_readLiteral) 29 = .ok (.aload_n 1, 1) := by decide +kernel
theorem d_Rd_readLiteral_30 : decode (cd m_Rd_readLiteral) 30 = .ok (.invokevirtual 73, 3) := by decide +kernel
theorem d_Rd_readLiteral_33 : decode (cd m_Rd_readLiteral) 33 = .ok (.ireturn, 1) := by decide +kernel
theorem d_Rd_readLiteral_34 : decode (cd m_Rd_readLiteral) 34 = .ok (.aload_n 0, 1) := by decide +kernel
theorem d_Rd_readLiteral_35 : decode (cd m_Rd_readLiteral) 35 = .ok (.getfield 60, 3) := by decide +kernel
theorem d_Rd_readLiteral_38 : decode (cd m_Rd_readLiteral) 38 = .ok (.iconst 2, 1) := by decide +kernel
theorem d_Rd_readLiteral_39 : decode (cd m_Rd_readLiteral) 39 = .ok (.if_icmp .ne 58, 3) := by decide +kernel
theorem d_Rd_readLiteral_42 : decode (cd m_Rd_readLiteral) 42 = .ok (.aload_n 0, 1) := by decide +kernel
theorem d_Rd_readLiteral_43 : decode (cd m_Rd_readLiteral) 43 = .ok (.invokevirtual 170, 3) := by decide +kernel
theorem d_Rd_readLiteral_46 : decode (cd m_Rd_readLiteral) 46 = .ok (.ifCond .eq 51, 3) := by decide +kernel
theorem d_Rd_readLiteral_49 : decode (cd m_Rd_readLiteral) 49 = .ok (.aload_n 0, 1) := by decide +kernel
theorem d_Rd_readLiteral_50 : decode (cd m_Rd_readLiteral) 50 = .ok (.getfield 21, 3) := by decide +kernel
theorem d_Rd_readLiteral_53 : decode (cd m_Rd_readLiteral) 53 = .ok (.getfield 173, 3) := by decide +kernel
theorem d_Rd_readLiteral_56 : decode (cd m_Rd_readLiteral) 56 = .ok (.iconst 3, 1) := by decide +kernel
theorem d_Rd_readLiteral_57 : decode (cd m_Rd_readLiteral) 57 = .ok (.if_icmp .lt 12, 3) := by decide +kernel
theorem d_Rd_readLiteral_60 : decode (cd m_Rd_readLiteral) 60 = .ok (.aload_n 0, 1) := by decide +kernel
theorem d_Rd_readLiteral_61 : decode (cd m_Rd_readLiteral) 61 = .ok (.aload_n 0, 1) := by decide +kernel
theorem d_Rd_readLiteral_62 : decode (cd m_Rd_readLiteral) 62 = .ok (.getfield 63, 3) := by decide +kernel
theorem d_Rd_readLiteral_65 : decode (cd m_Rd_readLiteral) 65 = .ok (.invokevirtual 125, 3) := by decide +kernel
theorem d_Rd_readLiteral_68 : decode (cd m_Rd_readLiteral) 68 = .ok (.ireturn, 1) := by decide +kernel
theorem d_Rd_readLiteral_69 : decode (cd m_Rd_readLiteral) 69 = .ok (.aload_n 0, 1) := by decide +kernel
theorem d_Rd_readLiteral_70 : decode (cd m_Rd_readLiteral) 70 = .ok (.getfield 21, 3) := by decide +kernel
theorem d_Rd_readLiteral_73 : decode (cd m_Rd_readLiteral) 73 = .ok (.dup, 1) := by decide +kernel
theorem d_Rd_readLiteral_74 : decode (cd m_Rd_readLiteral) 74 = .ok (.getfield 173, 3) := by decide +kernel
theorem d_Rd_readLiteral_77 : decode (cd m_Rd_readLiteral) 77 = .ok (.iconst 1, 1) := by decide +kernel
theorem d_Rd_readLiteral_78 : decode (cd m_Rd_readLiteral) 78 = .ok (.iadd, 1) := by decide +kernel
theorem d_Rd_readLiteral_79 : decode (cd m_Rd_readLiteral) 79 = .ok (.putfield 173, 3) := by decide +kernel
theorem d_Rd_readLiteral_82 : decode (cd m_Rd_readLiteral) 82 = .ok (.aload_n 1, 1) := by decide +kernel
theorem d_Rd_readLiteral_83 : decode (cd m_Rd_readLiteral) 83 = .ok (.iconst 0, 1) := by decide +kernel
theorem d_Rd_readLiteral_84 : decode (cd m_Rd_readLiteral) 84 = .ok (.aload_n 0, 1) := by decide +kernel
theorem d_Rd_readLiteral_85 : decode (cd m_Rd_readLiteral) 85 = .ok (.getfield 63, 3) := by decide +kernel
theorem d_Rd_readLiteral_88 : decode (cd m_Rd_readLiteral) 88 = .ok (.invokevirtual 168, 3) := by decide +kernel
theorem d_Rd_readLiteral_91 : decode (cd m_Rd_readLiteral) 91 = .ok (.aload_n 0, 1) := by decide +kernel
theorem d_Rd_readLiteral_92 : decode (cd m_Rd_readLiteral) 92 = .ok (.aload_n 1, 1) := by decide +kernel
theorem d_Rd_readLiteral_93 : decode (cd m_Rd_readLiteral) 93 = .ok (.invokevirtual 73, 3) := by decide +kernel
theorem d_Rd_readLiteral_96 : decode (cd m_Rd_readLiteral) 96 = .ok (.ireturn, 1) := by decide +kernel
theorem d_Rd_readLiteral_97 : decode (cd m_Rd_readLiteral) 97 = .ok (.aload_n 0, 1) := by decide +kernel
theorem d_Rd_readLiteral_98 : decode (cd m_Rd_readLiteral) 98 = .ok (.aload_n 1, 1) := by decide +kernel
theorem d_Rd_readLiteral_99 : decode (cd m_Rd_readLiteral) 99 = .ok (.invokevirtual 176, 3) := by decide +kernel
theorem d_Rd_readLiteral_102 : decode (cd m_Rd_readLiteral) 102 = .ok (.ireturn, 1) := by decide +kernel
theorem d_Rd_isOpenNext_0 : decode (cd m_Rd_isOpenNext) 0 = .ok (.aload_n 0, 1) := by decide +kernel
theorem d_Rd_isOpenNext_1 : decode (cd m_Rd_isOpenNext) 1 = .ok (.getfield 107, 3) := by decide +kernel
theorem d_Rd_isOpenNext_4 : decode (cd m_Rd_isOpenNext) 4 = .ok (.iconst 1, 1) := by decide +kernel
theorem d_Rd_isOpenNext_5 : decode (cd m_Rd_isOpenNext) 5 = .ok (.iadd, 1) := by decide +kernel
theorem d_Rd_isOpenNext_6 : decode (cd m_Rd_isOpenNext) 6 = .ok (.aload_n 0, 1) := by decide +kernel
theorem d_Rd_isOpenNext_7 : decode (cd m_Rd_isOpenNext) 7 = .ok (.getfield 12, 3) := by decide +kernel
theorem d_Rd_isOpenNext_10 : decode (cd m_Rd_isOpenNext) 10 = .ok (.getfield 59, 3) := by decide +kernel
theorem d_Rd_isOpenNext_13 : decode (cd m_Rd_isOpenNext) 13 = .ok (.if_icmp .ge 25, 3) := by decide +kernel
theorem d_Rd_isOpenNext_16 : decode (cd m_Rd_isOpenNext) 16 = .ok (.aload_n 0, 1) := by decide +kernel
theorem d_Rd_isOpenNext_17 : decode (cd m_Rd_isOpenNext) 17 = .ok (.getfield 12, 3) := by decide +kernel
theorem d_Rd_isOpenNext_20 : decode (cd m_Rd_isOpenNext) 20 = .ok (.getfield 110, 3) := by decide +kernel
theorem d_Rd_isOpenNext_23 : decode (cd m_Rd_isOpenNext) 23 = .ok (.aload_n 0, 1) := by decide +kernel
theorem d_Rd_isOpenNext_24 : decode (cd m_Rd_isOpenNext) 24 = .ok (.getfield 107, 3) := by decide +kernel
theorem d_Rd_isOpenNext_27 : decode (cd m_Rd_isOpenNext) 27 = .ok (.iconst 1, 1) := by decide +kernel
theorem d_Rd_isOpenNext_28 : decode (cd m_Rd_isOpenNext) 28 = .ok (.iadd, 1) := by decide +kernel
theorem d_Rd_isOpenNext_29 : decode (cd m_Rd_isOpenNext) 29 = .ok (.iaload, 1) := by decide +kernel
theorem d_Rd_isOpenNext_30 : decode (cd m_Rd_isOpenNext) 30 = .ok (.iconst 5, 1) := by decide +kernel
theorem d_Rd_isOpenNext_31 : decode (cd m_Rd_isOpenNext) 31 = .ok (.if_icmp .ne 7, 3) := by decide +kernel
theorem d_Rd_isOpenNext_34 : decode (cd m_Rd_isOpenNext) 34 = .ok (.iconst 1, 1) := by decide +kernel
theorem d_Rd_isOpenNext_35 : decode (cd m_Rd_isOpenNext) 35 = .ok (.goto 4, 3) := by decide +kernel
theorem d_Rd_isOpenNext_38 : decode (cd m_Rd_isOpenNext) 38 = .ok (.iconst 0, 1) := by decide +kernel
theorem d_Rd_isOpenNext_39 : decode (cd m_Rd_isOpenNext) 39 = .ok (.ireturn, 1) := by decide +kernel
theorem d_Rd_readTest_0 : decode (cd m_Rd_readTest) 0 = .ok (.aload_n 0, 1) := by decide +kernel
theorem d_Rd_readTest_1 : decode (cd m_Rd_readTest) 1 = .ok (.getfield 60, 3) := by decide +kernel
theorem d_Rd_readTest_4 : decode (cd m_Rd_readTest) 4 = .ok (.iconst 3, 1) := by decide +kernel
theorem d_Rd_readTest_5 : decode (cd m_Rd_readTest) 5 = .ok (.if_icmp .ne 7, 3) := by decide +kernel
theorem d_Rd_readTest_8 : decode (cd m_Rd_readTest) 8 = .ok (.iconst 1, 1) := by decide +kernel
theorem d_Rd_readTest_9 : decode (cd m_Rd_readTest) 9 = .ok (.goto 4, 3) := by decide +kernel
theorem d_Rd_readTest_12 : decode (cd m_Rd_readTest) 12 = .ok (.iconst 0, 1) := by decide +kernel
theorem d_Rd_readTest_13 : decode (cd m_Rd_readTest) 13 = .ok (.istore_n 2, 1) := by decide +kernel
theorem d_Rd_readTest_14 : decode (cd m_Rd_readTest) 14 = .ok (.aload_n 1, 1) := by decide +kernel
theorem d_Rd_readTest_15 : decode (cd m_Rd_readTest) 15 = .ok (.iconst 2, 1) := by decide +kernel
theorem d_Rd_readTest_16 : decode (cd m_Rd_readTest) 16 = .ok (.aload_n 0, 1) := by decide +kernel
theorem d_Rd_readTest_17 : decode (cd m_Rd_readTest) 17 = .ok (.getfield 63, 3) := by decide +kernel
theorem d_Rd_readTest_20 : decode (cd m_Rd_readTest) 20 = .ok (.invokevirtual 168, 3) := by decide +kernel
theorem d_Rd_readTest_23 : decode (cd m_Rd_readTest) 23 = .ok (.aload_n 0, 1) := by decide +kernel
theorem d_Rd_readTest_24 : decode (cd m_Rd_readTest) 24 = .ok (.aload_n 1, 1) := by decide +kernel
theorem d_Rd_readTest_25 : decode (cd m_Rd_readTest) 25 = .ok (.invokevirtual 179, 3) := by decide +kernel
theorem d_Rd_readTest_28 : decode (cd m_Rd_readTest) 28 = .ok (.ifCond .ne 5, 3) := by decide +kernel
theorem d_Rd_readTest_31 : decode (cd m_Rd_readTest) 31 = .ok (.iconst 0, 1) := by decide +kernel
theorem d_Rd_readTest_32 : decode (cd m_Rd_readTest) 32 = .ok (.ireturn, 1) := by decide +kernel
theorem d_Rd_readTest_33 : decode (cd m_Rd_readTest) 33 = .ok (.iload_n 2, 1) := by decide +kernel
theorem d_Rd_readTest_34 : decode (cd m_Rd_readTest) 34 = .ok (.ifCond .eq 56, 3) := by decide +kernel
theorem d_Rd_readTest_37 : decode (cd m_Rd_readTest) 37 = .ok (.aload_n 0, 1) := by decide +kernel
theorem d_Rd_readTest_38 : decode (cd m_Rd_readTest) 38 = .ok (.getfield 60, 3) := by decide +kernel
theorem d_Rd_readTest_41 : decode (cd m_Rd_readTest) 41 = .ok (.bipush 16, 2) := by decide +kernel
theorem d_Rd_readTest_43 : decode (cd m_Rd_readTest) 43 = .ok (.if_icmp .ne 47, 3) := by decide +kernel
theorem d_Rd_readTest_46 : decode (cd m_Rd_readTest) 46 = .ok (.aload_n 1, 1) := by decide +kernel
theorem d_Rd_readTest_47 : decode (cd m_Rd_readTest) 47 = .ok (.iconst 3, 1) := by decide +kernel
theorem d_Rd_readTest_48 : decode (cd m_Rd_readTest) 48 = .ok (.putfield 182, 3) := by decide +kernel
theorem d_Rd_readTest_51 : decode (cd m_Rd_readTest) 51 = .ok (.aload_n 0, 1) := by decide +kernel
theorem d_Rd_readTest_52 : decode (cd m_Rd_readTest) 52 = .ok (.aload_n 0, 1) := by decide +kernel
theorem d_Rd_readTest_53 : decode (cd m_Rd_readTest) 53 = .ok (.getfield 107, 3) := by decide +kernel
theorem d_Rd_readTest_56 : decode (cd m_Rd_readTest) 56 = .ok (.iconst 1, 1) := by decide +kernel
theorem d_Rd_readTest_57 : decode (cd m_Rd_readTest) 57 = .ok (.iadd, 1) := by decide +kernel
theorem d_Rd_readTest_58 : decode (cd m_Rd_readTest) 58 = .ok (.invokevirtual 55, 3) := by decide +kernel
theorem d_Rd_readTest_61 : decode (cd m_Rd_readTest) 61 = .ok (.aload_n 0, 1) := by decide +kernel
theorem d_Rd_readTest_62 : decode (cd m_Rd_readTest) 62 = .ok (.aload_n 1, 1) := by decide +kernel
theorem d_Rd_readTest_63 : decode (cd m_Rd_readTest) 63 = .ok (.invokevirtual 179, 3) := by decide +kernel
theorem d_Rd_readTest_66 : decode (cd m_Rd_readTest) 66 = .ok (.ifCond .eq 22, 3) := by decide +kernel
theorem d_Rd_readTest_69 : decode (cd m_Rd_readTest) 69 = .ok (.aload_n 0, 1) := by decide +kernel
theorem d_Rd_readTest_70 : decode (cd m_Rd_readTest) 70 = .ok (.invokevirtual 183, 3) := by decide +kernel
theorem d_Rd_readTest_73 : decode (cd m_Rd_readTest) 73 = .ok (.ifCond .eq 15, 3) := by decide +kernel
theorem d_Rd_readTest_76 : decode (cd m_Rd_readTest) 76 = .ok (.aload_n 0, 1) := by decide +kernel
theorem d_Rd_readTest_77 : decode (cd m_Rd_readTest) 77 = .ok (.aload_n 1, 1) := by decide +kernel
theorem d_Rd_readTest_78 : decode (cd m_Rd_readTest) 78 = .ok (.invokevirtual 179, 3) := by decide +kernel
theorem d_Rd_readTest_81 : decode (cd m_Rd_readTest) 81 = .ok (.ifCond .eq 7, 3) := by decide +kernel
theorem d_Rd_readTest_84 : decode (cd m_Rd_readTest) 84 = .ok (.iconst 1, 1) := by decide +kernel
theorem d_Rd_readTest_85 : decode (cd m_Rd_readTest) 85 = .ok (.goto 4, 3) := by decide +kernel
theorem d_Rd_readTest_88 : decode (cd m_Rd_readTest) 88 = .ok (.iconst 0, 1) := by decide +kernel
theorem d_Rd_readTest_89 : decode (cd m_Rd_readTest) 89 = .ok (.ireturn, 1) := by decide +kernel
theorem d_Rd_readTest_90 : decode (cd m_Rd_readTest) 90 = .ok (.aload_n 0, 1) := by decide +kernel
theorem d_Rd_readTest_91 : decode (cd m_Rd_readTest) 91 = .ok (.getfield 60, 3) := by decide +kernel
theorem d_Rd_readTest_94 : decode (cd m_Rd_readTest) 94 = .ok (.bipush 12, 2) := by decide +kernel
theorem d_Rd_readTest_96 : decode (cd m_Rd_readTest) 96 = .ok (.if_icmp .eq 21, 3) := by decide +kernel
theorem d_Rd_readTest_99 : decode (cd m_Rd_readTest) 99 = .ok (.aload_n 0, 1) := by decide +kernel
theorem d_Rd_readTest_100 : decode (cd m_Rd_readTest) 100 = .ok (.getfield 60, 3) := by decide +kernel
theorem d_Rd_readTest_103 : decode (cd m_Rd_readTest) 103 = .ok (.bipush 13, 2) := by decide +kernel
theorem d_Rd_readTest_105 : decode (cd m_Rd_readTest) 105 = .ok (.if_icmp .eq 12, 3) := by decide +kernel
theorem d_Rd_readTest_108 : decode (cd m_Rd_readTest) 108 = .ok (.aload_n 0, 1) := by decide +kernel
theorem d_Rd_readTest_109 : decode (cd m_Rd_readTest) 109 = .ok (.aload_n 0, 1) := by decide +kernel
theorem d_Rd_readTest_110 : decode (cd m_Rd_readTest) 110 = .ok (.getfield 63, 3) := by decide +kernel
theorem d_Rd_readTest_113 : decode (cd m_Rd_readTest) 113 = .ok (.invokevirtual 125, 3) := by decide +kernel
theorem d_Rd_readTest_116 : decode (cd m_Rd_readTest) 116 = .ok (.ireturn, 1) := by decide +kernel
theorem d_Rd_readTest_117 : decode (cd m_Rd_readTest) 117 = .ok (.aload_n 1, 1) := by decide +kernel
theorem d_Rd_readTest_118 : decode (cd m_Rd_readTest) 118 = .ok (.aload_n 0, 1) := by decide +kernel
theorem d_Rd_readTest_119 : decode (cd m_Rd_readTest) 119 = .ok (.getfield 60, 3) := by decide +kernel
theorem d_Rd_readTest_122 : decode (cd m_Rd_readTest) 122 = .ok (.bipush 12, 2) := by decide +kernel
theorem d_Rd_readTest_124 : decode (cd m_Rd_readTest) 124 = .ok (.if_icmp .ne 7, 3) := by decide +kernel
theorem d_Rd_readTest_127 : decode (cd m_Rd_readTest) 127 = .ok (.iconst 1, 1) := by decide +kernel
theorem d_Rd_readTest_128 : decode (cd m_Rd_readTest) 128 = .ok (.goto 4, 3) := by decide +kernel
theorem d_Rd_readTest_131 : decode (cd m_Rd_readTest) 131 = .ok (.iconst 0, 1) := by decide +kernel
theorem d_Rd_readTest_132 : decode (cd m_Rd_readTest) 132 = .ok (.putfield 186, 3) := by decide +kernel
theorem d_Rd_readTest_135 : decode (cd m_Rd_readTest) 135 = .ok (.aload_n 0, 1) := by decide +kernel
theorem d_Rd_readTest_136 : decode (cd m_Rd_readTest) 136 = .ok (.aload_n 0, 1) := by decide +kernel
theorem d_Rd_readTest_137 : decode (cd m_Rd_readTest) 137 = .ok (.getfield 107, 3) := by decide +kernel
theorem d_Rd_readTest_140 : decode (cd m_Rd_readTest) 140 = .ok (.iconst 1, 1) := by decide +kernel
theorem d_Rd_readTest_141 : decode (cd m_Rd_readTest) 141 = .ok (.iadd, 1) := by decide +kernel
theorem d_Rd_readTest_142 : decode (cd m_Rd_readTest) 142 = .ok (.invokevirtual 55, 3) := by decide +kernel
theorem d_Rd_readTest_145 : decode (cd m_Rd_readTest) 145 = .ok (.aload_n 0, 1) := by decide +kernel
theorem d_Rd_readTest_146 : decode (cd m_Rd_readTest) 146 = .ok (.aload_n 1, 1) := by decide +kernel
theorem d_Rd_readTest_147 : decode (cd m_Rd_readTest) 147 = .ok (.invokevirtual 179, 3) := by decide +kernel
theorem d_Rd_readTest_150 : decode (cd m_Rd_readTest) 150 = .ok (.ireturn, 1) := by decide +kernel
theorem d_Rd_readOperation_0 : decode (cd m_Rd_readOperation) 0 = .ok (.aload_n 0, 1) := by decide +kernel
theorem d_Rd_readOperation_1 : decode (cd m_Rd_readOperation) 1 = .ok (.aload_n 0, 1) := by decide +kernel
theorem d_Rd_readOperation_2 : decode (cd m_Rd_readOperation) 2 = .ok (.getfield 60, 3) := by decide +kernel
theorem d_Rd_readOperation_5 : decode (cd m_Rd_readOperation) 5 = .ok (.bipush 14, 2) := by decide +kernel
theorem d_Rd_readOperation_7 : decode (cd m_Rd_readOperation) 7 = .ok (.if_icmp .ne 8, 3) := by decide +kernel
theorem d_Rd_readOperation_10 : decode (cd m_Rd_readOperation) 10 = .ok (.bipush 14, 2) := by decide +kernel
theorem d_Rd_readOperation_12 : decode (cd m_Rd_readOperation) 12 = .ok (.goto 5, 3) := by decide +kernel
theorem d_Rd_readOperation_15 : decode (cd m_Rd_readOperation) 15 = .ok (.bipush 15, 2) := by decide +kernel
theorem d_Rd_readOperation_17 : decode (cd m_Rd_readOperation) 17 = .ok (.invokevirtual 139, 3) := by decide +kernel
theorem d_Rd_readOperation_20 : decode (cd m_Rd_readOperation) 20 = .ok (.ireturn, 1) := by decide +kernel
theorem d_Rd_readAtom_0 : decode (cd m_Rd_readAtom) 0 = .ok (.aload_n 0, 1) := by decide +kernel
theorem d_Rd_readAtom_1 : decode (cd m_Rd_readAtom) 1 = .ok (.getfield 63, 3) := by decide +kernel
theorem d_Rd_readAtom_4 : decode (cd m_Rd_readAtom) 4 = .ok (.istore_n 2, 1) := by decide +kernel
theorem d_Rd_readAtom_5 : decode (cd m_Rd_readAtom) 5 = .ok (.aload_n 0, 1) := by decide +kernel
theorem d_Rd_readAtom_6 : decode (cd m_Rd_readAtom) 6 = .ok (.getfield 60, 3) := by decide +kernel
theorem d_Rd_readAtom_9 : decode (cd m_Rd_readAtom) 9 = .ok (.iconst 2, 1) := by decide +kernel
theorem d_Rd_readAtom_10 : decode (cd m_Rd_readAtom) 10 = .ok (.if_icmp .eq 12, 3) := by decide +kernel
theorem d_Rd_readAtom_13 : decode (cd m_Rd_readAtom) 13 = .ok (.aload_n 0, 1) := by decide +kernel
theorem d_Rd_readAtom_14 : decode (cd m_Rd_readAtom) 14 = .ok (.aload_n 0, 1) := by decide +kernel
theorem d_Rd_readAtom_15 : decode (cd m_Rd_readAtom) 15 = .ok (.getfield 63, 3) := by decide +kernel
theorem d_Rd_readAtom_18 : decode (cd m_Rd_readAtom) 18 = .ok (.invokevirtual 125, 3) := by decide +kernel
theorem d_Rd_readAtom_21 : decode (cd m_Rd_readAtom) 21 = .ok (.ireturn, 1) := by decide +kernel
theorem d_Rd_readAtom_22 : decode (cd m_Rd_readAtom) 22 = .ok (.aload_n 1, 1) := by decide +kernel
theorem d_Rd_readAtom_23 : decode (cd m_Rd_readAtom) 23 = .ok (.aload_n 0, 1) := by decide +kernel
theorem d_Rd_readAtom_24 : decode (cd m_Rd_readAtom) 24 = .ok (.getfield 36, 3) := by decide +kernel
theorem d_Rd_readAtom_27 : decode (cd m_Rd_readAtom) 27 = .ok (.aload_n 0, 1) := by decide +kernel
theorem d_Rd_readAtom_28 : decode (cd m_Rd_readAtom) 28 = .ok (.getfield 121, 3) := by decide +kernel
theorem d_Rd_readAtom_31 : decode (cd m_Rd_readAtom) 31 = .ok (.invokevirtual 190, 3) := by decide +kernel
theorem d_Rd_readAtom_34 : decode (cd m_Rd_readAtom) 34 = .ok (.putfield 162, 3) := by decide +kernel
theorem d_Rd_readAtom_37 : decode (cd m_Rd_readAtom) 37 = .ok (.aload_n 1, 1) := by decide +kernel
theorem d_Rd_readAtom_38 : decode (cd m_Rd_readAtom) 38 = .ok (.getfield 162, 3) := by decide +kernel
theorem d_Rd_readAtom_41 : decode (cd m_Rd_readAtom) 41 = .ok (.iconst (-1), 1) := by decide +kernel
theorem d_Rd_readAtom_42 : decode (cd m_Rd_readAtom) 42 = .ok (.if_icmp .ne 12, 3) := by decide +kernel
theorem d_Rd_readAtom_45 : decode (cd m_Rd_readAtom) 45 = .ok (.aload_n 0, 1) := by decide +kernel
theorem d_Rd_readAtom_46 : decode (cd m_Rd_readAtom) 46 = .ok (.aload_n 0, 1) := by decide +kernel
theorem d_Rd_readAtom_47 : decode (cd m_Rd_readAtom) 47 = .ok (.getfield 63, 3) := by decide +kernel
theorem d_Rd_readAtom_50 : decode (cd m_Rd_readAtom) 50 = .ok (.invokevirtual 125, 3) := by decide +kernel
theorem d_Rd_readAtom_53 : decode (cd m_Rd_readAtom) 53 = .ok (.ireturn, 1) := by decide +kernel
theorem d_Rd_readAtom_54 : decode (cd m_Rd_readAtom) 54 = .ok (.aload_n 0, 1) := by decide +kernel
theorem d_Rd_readAtom_55 : decode (cd m_Rd_readAtom) 55 = .ok (.aload_n 0, 1) := by decide +kernel
theorem d_Rd_readAtom_56 : decode (cd m_Rd_readAtom) 56 = .ok (.getfield 107, 3) := by decide +kernel
theorem d_Rd_readAtom_59 : decode (cd m_Rd_readAtom) 59 = .ok (.iconst 1, 1) := by decide +kernel
theorem d_Rd_readAtom_60 : decode (cd m_Rd_readAtom) 60 = .ok (.iadd, 1) := by decide +kernel
theorem d_Rd_readAtom_61 : decode (cd m_Rd_readAtom) 61 = .ok (.invokevirtual 55, 3) := by decide +kernel
theorem d_Rd_readAtom_64 : decode (cd m_Rd_readAtom) 64 = .ok (.aload_n 0, 1) := by decide +kernel
theorem d_Rd_readAtom_65 : decode (cd m_Rd_readAtom) 65 = .ok (.iconst 5, 1) := by decide +kernel
theorem d_Rd_readAtom_66 : decode (cd m_Rd_readAtom) 66 = .ok (.invokevirtual 139, 3) := by decide +kernel
theorem d_Rd_readAtom_69 : decode (cd m_Rd_readAtom) 69 = .ok (.ifCond .ne 5, 3) := by decide +kernel
theorem d_Rd_readAtom_72 : decode (cd m_Rd_readAtom) 72 = .ok (.iconst 0, 1) := by decide +kernel
theorem d_Rd_readAtom_73 : decode (cd m_Rd_readAtom) 73 = .ok (.ireturn, 1) := by decide +kernel
theorem d_Rd_readAtom_74 : decode (cd m_Rd_readAtom) 74 = .ok (.iconst 0, 1) := by decide +kernel
theorem d_Rd_readAtom_75 : decode (cd m_Rd_readAtom) 75 = .ok (.istore_n 3, 1) := by decide +kernel
theorem d_Rd_readAtom_76 : decode (cd m_Rd_readAtom) 76 = .ok (.iload_n 3, 1) := by decide +kernel
theorem d_Rd_readAtom_77 : decode (cd m_Rd_readAtom) 77 = .ok (.iconst 4, 1) := by decide +kernel
theorem d_Rd_readAtom_78 : decode (cd m_Rd_readAtom) 78 = .ok (.if_icmp .ge 108, 3) := by decide +kernel
theorem d_Rd_readAtom_81 : decode (cd m_Rd_readAtom) 81 = .ok (.aload_n 0, 1) := by decide +kernel
theorem d_Rd_readAtom_82 : decode (cd m_Rd_readAtom) 82 = .ok (.getfield 60, 3) := by decide +kernel
theorem d_Rd_readAtom_85 : decode (cd m_Rd_readAtom) 85 = .ok (.bipush 17, 2) := by decide +kernel
theorem d_Rd_readAtom_87 : decode (cd m_Rd_readAtom) 87 = .ok (.if_icmp .ne 11, 3) := by decide +kernel
theorem d_Rd_readAtom_90 : decode (cd m_Rd_readAtom) 90 = .ok (.aload_n 0, 1) := by decide +kernel
theorem d_Rd_readAtom_91 : decode (cd m_Rd_readAtom) 91 = .ok (.aload_n 1, 1) := by decide +kernel
theorem d_Rd_readAtom_92 : decode (cd m_Rd_readAtom) 92 = .ok (.invokevirtual 194, 3) := by decide +kernel
theorem d_Rd_readAtom_95 : decode (cd m_Rd_readAtom) 95 = .ok (.goto 25, 3) := by decide +kernel
theorem d_Rd_readAtom_98 : decode (cd m_Rd_readAtom) 98 = .ok (.aload_n 0, 1) := by decide +kernel
theorem d_Rd_readAtom_99 : decode (cd m_Rd_readAtom) 99 = .ok (.getfield 60, 3) := by decide +kernel
theorem d_Rd_readAtom_102 : decode (cd m_Rd_readAtom) 102 = .ok (.bipush 10, 2) := by decide +kernel
theorem d_Rd_readAtom_104 : decode (cd m_Rd_readAtom) 104 = .ok (.if_icmp .ne 11, 3) := by decide +kernel
theorem d_Rd_readAtom_107 : decode (cd m_Rd_readAtom) 107 = .ok (.aload_n 0, 1) := by decide +kernel
theorem d_Rd_readAtom_108 : decode (cd m_Rd_readAtom) 108 = .ok (.aload_n 1, 1) := by decide +kernel
theorem d_Rd_readAtom_109 : decode (cd m_Rd_readAtom) 109 = .ok (.invokevirtual 197, 3) := by decide +kernel
theorem d_Rd_readAtom_112 : decode (cd m_Rd_readAtom) 112 = .ok (.goto 8, 3) := by decide +kernel
theorem d_Rd_readAtom_115 : decode (cd m_Rd_readAtom) 115 = .ok (.aload_n 0, 1) := by decide +kernel
theorem d_Rd_readAtom_116 : decode (cd m_Rd_readAtom) 116 = .ok (.aload_n 1, 1) := by decide +kernel
theorem d_Rd_readAtom_117 : decode (cd m_Rd_readAtom) 117 = .ok (.invokevirtual 179, 3) := by decide +kernel
theorem d_Rd_readAtom_120 : decode (cd m_Rd_readAtom) 120 = .ok (.istore 4, 2) := by decide +kernel
theorem d_Rd_readAtom_122 : decode (cd m_Rd_readAtom) 122 = .ok (.iload 4, 2) := by decide +kernel
theorem d_Rd_readAtom_124 : decode (cd m_Rd_readAtom) 124 = .ok (.ifCond .ne 5, 3) := by decide +kernel
theorem d_Rd_readAtom_127 : decode (cd m_Rd_readAtom) 127 = .ok (.iconst 0, 1) := by decide +kernel
theorem d_Rd_readAtom_128 : decode (cd m_Rd_readAtom) 128 = .ok (.ireturn, 1) := by decide +kernel
theorem d_Rd_readAtom_129 : decode (cd m_Rd_readAtom) 129 = .ok (.aload_n 0, 1) := by decide +kernel
theorem d_Rd_readAtom_130 : decode (cd m_Rd_readAtom) 130 = .ok (.getfield 60, 3) := by decide +kernel
theorem d_Rd_readAtom_133 : decode (cd m_Rd_readAtom) 133 = .ok (.bipush 6, 2) := by decide +kernel
theorem d_Rd_readAtom_135 : decode (cd m_Rd_readAtom) 135 = .ok (.if_icmp .ne 34, 3) := by decide +kernel
theorem d_Rd_readAtom_138 : decode (cd m_Rd_readAtom) 138 = .ok (.aload_n 0, 1) := by decide +kernel
theorem d_Rd_readAtom_139 : decode (cd m_Rd_readAtom) 139 = .ok (.getfield 36, 3) := by decide +kernel
theorem d_Rd_readAtom_142 : decode (cd m_Rd_readAtom) 142 = .ok (.aload_n 1, 1) := by decide +kernel
theorem d_Rd_readAtom_143 : decode (cd m_Rd_readAtom) 143 = .ok (.getfield 162, 3) := by decide +kernel
theorem d_Rd_readAtom_146 : decode (cd m_Rd_readAtom) 146 = .ok (.aload_n 1, 1) := by decide +kernel
theorem d_Rd_readAtom_147 : decode (cd m_Rd_readAtom) 147 = .ok (.getfield 200, 3) := by decide +kernel
theorem d_Rd_readAtom_150 : decode (cd m_Rd_readAtom) 150 = .ok (.invokevirtual 201, 3) := by decide +kernel
theorem d_Rd_readAtom_153 : decode (cd m_Rd_readAtom) 153 = .ok (.ifCond .ne 9, 3) := by decide +kernel
theorem d_Rd_readAtom_156 : decode (cd m_Rd_readAtom) 156 = .ok (.aload_n 0, 1) := by decide +kernel
theorem d_Rd_readAtom_157 : decode (cd m_Rd_readAtom) 157 = .ok (.iconst 2, 1) := by decide +kernel
theorem d_Rd_readAtom_158 : decode (cd m_Rd_readAtom) 158 = .ok (.iload_n 2, 1) := by decide +kernel
theorem d_Rd_readAtom_159 : decode (cd m_Rd_readAtom) 159 = .ok (.invokevirtual 100, 3) := by decide +kernel
theorem d_Rd_readAtom_162 : decode (cd m_Rd_readAtom) 162 = .ok (.aload_n 0, 1) := by decide +kernel
theorem d_Rd_readAtom_163 : decode (cd m_Rd_readAtom) 163 = .ok (.bipush 6, 2) := by decide +kernel
theorem d_Rd_readAtom_165 : decode (cd m_Rd_readAtom) 165 = .ok (.invokevirtual 139, 3) := by decide +kernel
theorem d_Rd_readAtom_168 : decode (cd m_Rd_readAtom) 168 = .ok (.ireturn, 1) := by decide +kernel
theorem d_Rd_readAtom_169 : decode (cd m_Rd_readAtom) 169 = .ok (.aload_n 0, 1) := by decide +kernel
theorem d_Rd_readAtom_170 : decode (cd m_Rd_readAtom) 170 = .ok (.bipush 7, 2) := by decide +kernel
theorem d_Rd_readAtom_172 : decode (cd m_Rd_readAtom) 172 = .ok (.invokevirtual 139, 3) := by decide +kernel
theorem d_Rd_readAtom_175 : decode (cd m_Rd_readAtom) 175 = .ok (.ifCond .ne 5, 3) := by decide +kernel
theorem d_Rd_readAtom_178 : decode (cd m_Rd_readAtom) 178 = .ok (.iconst 0, 1) := by decide +kernel
theorem d_Rd_readAtom_179 : decode (cd m_Rd_readAtom) 179 = .ok (.ireturn, 1) := by decide +kernel
theorem d_Rd_readAtom_180 : decode (cd m_Rd_readAtom) 180 = .ok (.iinc 3 1, 3) := by decide +kernel
theorem d_Rd_readAtom_183 : decode (cd m_Rd_readAtom) 183 = .ok (.goto (-107), 3) := by decide +kernel
theorem d_Rd_readAtom_186 : decode (cd m_Rd_readAtom) 186 = .ok (.aload_n 0, 1) := by decide +kernel
theorem d_Rd_readAtom_187 : decode (cd m_Rd_readAtom) 187 = .ok (.aload_n 0, 1) := by decide +kernel
theorem d_Rd_readAtom_188 : decode (cd m_Rd_readAtom) 188 = .ok (.getfield 63, 3) := by decide +kernel
theorem d_Rd_readAtom_191 : decode (cd m_Rd_readAtom) 191 = .ok (.invokevirtual 125, 3) := by decide +kernel
theorem d_Rd_readAtom_194 : decode (cd m_Rd_readAtom) 194 = .ok (.ireturn, 1) := by decide +kernel
theorem d_Rd_readTotal_0 : decode (cd m_Rd_readTotal) 0 = .ok (.aload_n 1, 1) := by decide +kernel
theorem d_Rd_readTotal_1 : decode (cd m_Rd_readTotal) 1 = .ok (.getfield 182, 3) := by decide +kernel
theorem d_Rd_readTotal_4 : decode (cd m_Rd_readTotal) 4 = .ok (.iconst 4, 1) := by decide +kernel
theorem d_Rd_readTotal_5 : decode (cd m_Rd_readTotal) 5 = .ok (.if_icmp .ne 13, 3) := by decide +kernel
theorem d_Rd_readTotal_8 : decode (cd m_Rd_readTotal) 8 = .ok (.aload_n 0, 1) := by decide +kernel
theorem d_Rd_readTotal_9 : decode (cd m_Rd_readTotal) 9 = .ok (.getfield 21, 3) := by decide +kernel
theorem d_Rd_readTotal_12 : decode (cd m_Rd_readTotal) 12 = .ok (.getfield 205, 3) := by decide +kernel
theorem d_Rd_readTotal_15 : decode (cd m_Rd_readTotal) 15 = .ok (.ifCond .le 12, 3) := by decide +kernel
theorem d_Rd_readTotal_18 : decode (cd m_Rd_readTotal) 18 = .ok (.aload_n 0, 1) := by decide +kernel
theorem d_Rd_readTotal_19 : decode (cd m_Rd_readTotal) 19 = .ok (.aload_n 0, 1) := by decide +kernel
theorem d_Rd_readTotal_20 : decode (cd m_Rd_readTotal) 20 = .ok (.getfield 63, 3) := by decide +kernel
theorem d_Rd_readTotal_23 : decode (cd m_Rd_readTotal) 23 = .ok (.invokevirtual 125, 3) := by decide +kernel
theorem d_Rd_readTotal_26 : decode (cd m_Rd_readTotal) 26 = .ok (.ireturn, 1) := by decide +kernel
theorem d_Rd_readTotal_27 : decode (cd m_Rd_readTotal) 27 = .ok (.aload_n 0, 1) := by decide +kernel
theorem d_Rd_readTotal_28 : decode (cd m_Rd_readTotal) 28 = .ok (.getfield 21, 3) := by decide +kernel
theorem d_Rd_readTotal_31 : decode (cd m_Rd_readTotal) 31 = .ok (.aload_n 0, 1) := by decide +kernel
theorem d_Rd_readTotal_32 : decode (cd m_Rd_readTotal) 32 = .ok (.getfield 121, 3) := by decide +kernel
theorem d_Rd_readTotal_35 : decode (cd m_Rd_readTotal) 35 = .ok (.l2i, 1) := by decide +kernel
theorem d_Rd_readTotal_36 : decode (cd m_Rd_readTotal) 36 = .ok (.putfield 205, 3) := by decide +kernel
theorem d_Rd_readTotal_39 : decode (cd m_Rd_readTotal) 39 = .ok (.aload_n 0, 1) := by decide +kernel
theorem d_Rd_readTotal_40 : decode (cd m_Rd_readTotal) 40 = .ok (.getfield 21, 3) := by decide +kernel
theorem d_Rd_readTotal_43 : decode (cd m_Rd_readTotal) 43 = .ok (.aload_n 0, 1) := by decide +kernel
theorem d_Rd_readTotal_44 : decode (cd m_Rd_readTotal) 44 = .ok (.getfield 63, 3) := by decide +kernel
theorem d_Rd_readTotal_47 : decode (cd m_Rd_readTotal) 47 = .ok (.putfield 208, 3) := by decide +kernel
theorem d_Rd_readTotal_50 : decode (cd m_Rd_readTotal) 50 = .ok (.aload_n 0, 1) := by decide +kernel
theorem d_Rd_readTotal_51 : decode (cd m_Rd_readTotal) 51 = .ok (.aload_n 0, 1) := by decide +kernel
theorem d_Rd_readTotal_52 : decode (cd m_Rd_readTotal) 52 = .ok (.getfield 107, 3) := by decide +kernel
theorem d_Rd_readTotal_55 : decode (cd m_Rd_readTotal) 55 = .ok (.iconst 1, 1) := by decide +kernel
theorem d_Rd_readTotal_56 : decode (cd m_Rd_readTotal) 56 = .ok (.iadd, 1) := by decide +kernel
theorem d_Rd_readTotal_57 : decode (cd m_Rd_readTotal) 57 = .ok (.invokevirtual 55, 3) := by decide +kernel
theorem d_Rd_readTotal_60 : decode (cd m_Rd_readTotal) 60 = .ok (.aload_n 0, 1) := by decide +kernel
theorem d_Rd_readTotal_61 : decode (cd m_Rd_readTotal) 61 = .ok (.iconst 5, 1) := by decide +kernel
theorem d_Rd_readTotal_62 : decode (cd m_Rd_readTotal) 62 = .ok (.invokevirtual 139, 3) := by decide +kernel
theorem d_Rd_readTotal_65 : decode (cd m_Rd_readTotal) 65 = .ok (.ifCond .ne 5, 3) := by decide +kernel
theorem d_Rd_readTotal_68 : decode (cd m_Rd_readTotal) 68 = .ok (.iconst 0, 1) := by decide +kernel
theorem d_Rd_readTotal_69 : decode (cd m_Rd_readTotal) 69 = .ok (.ireturn, 1) := by decide +kernel
theorem d_Rd_readTotal_70 : decode (cd m_Rd_readTotal) 70 = .ok (.aload_n 0, 1) := by decide +kernel
theorem d_Rd_readTotal_71 : decode (cd m_Rd_readTotal) 71 = .ok (.getfield 60, 3) := by decide +kernel
theorem d_Rd_readTotal_74 : decode (cd m_Rd_readTotal) 74 = .ok (.iconst 3, 1) := by decide +kernel
theorem d_Rd_readTotal_75 : decode (cd m_Rd_readTotal) 75 = .ok (.if_icmp .eq 12, 3) := by decide +kernel
theorem d_Rd_readTotal_78 : decode (cd m_Rd_readTotal) 78 = .ok (.aload_n 0, 1) := by decide +kernel
theorem d_Rd_readTotal_79 : decode (cd m_Rd_readTotal) 79 = .ok (.aload_n 0, 1) := by decide +kernel
theorem d_Rd_readTotal_80 : decode (cd m_Rd_readTotal) 80 = .ok (.getfield 63, 3) := by decide +kernel
theorem d_Rd_readTotal_83 : decode (cd m_Rd_readTotal) 83 = .ok (.invokevirtual 125, 3) := by decide +kernel
theorem d_Rd_readTotal_86 : decode (cd m_Rd_readTotal) 86 = .ok (.ireturn, 1) := by decide +kernel
theorem d_Rd_readTotal_87 : decode (cd m_Rd_readTotal) 87 = .ok (.aload_n 0, 1) := by decide +kernel
theorem d_Rd_readTotal_88 : decode (cd m_Rd_readTotal) 88 = .ok (.aload_n 1, 1) := by decide +kernel
theorem d_Rd_readTotal_89 : decode (cd m_Rd_readTotal) 89 = .ok (.invokevirtual 179, 3) := by decide +kernel
theorem d_Rd_readTotal_92 : decode (cd m_Rd_readTotal) 92 = .ok (.ifCond .eq 16, 3) := by decide +kernel
theorem d_Rd_readTotal_95 : decode (cd m_Rd_readTotal) 95 = .ok (.aload_n 0, 1) := by decide +kernel
theorem d_Rd_readTotal_96 : decode (cd m_Rd_readTotal) 96 = .ok (.bipush 6, 2) := by decide +kernel
theorem d_Rd_readTotal_98 : decode (cd m_Rd_readTotal) 98 = .ok (.invokevirtual 139, 3) := by decide +kernel
theorem d_Rd_readTotal_101 : decode (cd m_Rd_readTotal) 101 = .ok (.ifCond .eq 7, 3) := by decide +kernel
theorem d_Rd_readTotal_104 : decode (cd m_Rd_readTotal) 104 = .ok (.iconst 1, 1) := by decide +kernel
theorem d_Rd_readTotal_105 : decode (cd m_Rd_readTotal) 105 = .ok (.goto 4, 3) := by decide +kernel
theorem d_Rd_readTotal_108 : decode (cd m_Rd_readTotal) 108 = .ok (.iconst 0, 1) := by decide +kernel
theorem d_Rd_readTotal_109 : decode (cd m_Rd_readTotal) 109 = .ok (.ireturn, 1) := by decide +kernel
theorem d_Rd_readAnything_0 : decode (cd m_Rd_readAnything) 0 = .ok (.aload_n 1, 1) := by decide +kernel
theorem d_Rd_readAnything_1 : decode (cd m_Rd_readAnything) 1 = .ok (.getfield 182, 3) := by decide +kernel
theorem d_Rd_readAnything_4 : decode (cd m_Rd_readAnything) 4 = .ok (.ifCond .ne 17, 3) := by decide +kernel
theorem d_Rd_readAnything_7 : decode (cd m_Rd_readAnything) 7 = .ok (.aload_n 0, 1) := by decide +kernel
theorem d_Rd_readAnything_8 : decode (cd m_Rd_readAnything) 8 = .ok (.getfield 21, 3) := by decide +kernel
theorem d_Rd_readAnything_11 : decode (cd m_Rd_readAnything) 11 = .ok (.getfield 205, 3) := by decide +kernel
theorem d_Rd_readAnything_14 : decode (cd m_Rd_readAnything) 14 = .ok (.ifCond .le 7, 3) := by decide +kernel
theorem d_Rd_readAnything_17 : decode (cd m_Rd_readAnything) 17 = .ok (.iconst 1, 1) := by decide +kernel
theorem d_Rd_readAnything_18 : decode (cd m_Rd_readAnything) 18 = .ok (.goto 4, 3) := by decide +kernel
theorem d_Rd_readAnything_21 : decode (cd m_Rd_readAnything) 21 = .ok (.iconst 0, 1) := by decide +kernel
theorem d_Rd_readAnything_22 : decode (cd m_Rd_readAnything) 22 = .ok (.istore_n 2, 1) := by decide +kernel
theorem d_Rd_readAnything_23 : decode (cd m_Rd_readAnything) 23 = .ok (.aload_n 1, 1) := by decide +kernel
theorem d_Rd_readAnything_24 : decode (cd m_Rd_readAnything) 24 = .ok (.getfield 182, 3) := by decide +kernel
theorem d_Rd_readAnything_27 : decode (cd m_Rd_readAnything) 27 = .ok (.iconst 4, 1) := by decide +kernel
theorem d_Rd_readAnything_28 : decode (cd m_Rd_readAnything) 28 = .ok (.if_icmp .eq 7, 3) := by decide +kernel
theorem d_Rd_readAnything_31 : decode (cd m_Rd_readAnything) 31 = .ok (.iload_n 2, 1) := by decide +kernel
theorem d_Rd_readAnything_32 : decode (cd m_Rd_readAnything) 32 = .ok (.ifCond .eq 12, 3) := by decide +kernel
theorem d_Rd_readAnything_35 : decode (cd m_Rd_readAnything) 35 = .ok (.aload_n 0, 1) := by decide +kernel
theorem d_Rd_readAnything_36 : decode (cd m_Rd_readAnything) 36 = .ok (.aload_n 0, 1) := by decide +kernel
theorem d_Rd_readAnything_37 : decode (cd m_Rd_readAnything) 37 = .ok (.getfield 63, 3) := by decide +kernel
theorem d_Rd_readAnything_40 : decode (cd m_Rd_readAnything) 40 = .ok (.invokevirtual 125, 3) := by decide +kernel
theorem d_Rd_readAnything_43 : decode (cd m_Rd_readAnything) 43 = .ok (.ireturn, 1) := by decide +kernel
theorem d_Rd_readAnything_44 : decode (cd m_Rd_readAnything) 44 = .ok (.aload_n 1, 1) := by decide +kernel
theorem d_Rd_readAnything_45 : decode (cd m_Rd_readAnything) 45 = .ok (.ldc2_w 211, 3) := by decide +kernel
theorem d_Rd_readAnything_48 : decode (cd m_Rd_readAnything) 48 = .ok (.invokevirtual 213, 3) := by decide +kernel
theorem d_Rd_readAnything_51 : decode (cd m_Rd_readAnything) 51 = .ok (.aload_n 0, 1) := by decide +kernel
theorem d_Rd_readAnything_52 : decode (cd m_Rd_readAnything) 52 = .ok (.aload_n 0, 1) := by decide +kernel
theorem d_Rd_readAnything_53 : decode (cd m_Rd_readAnything) 53 = .ok (.getfield 107, 3) := by decide +kernel
theorem d_Rd_readAnything_56 : decode (cd m_Rd_readAnything) 56 = .ok (.iconst 1, 1) := by decide +kernel
theorem d_Rd_readAnything_57 : decode (cd m_Rd_readAnything) 57 = .ok (.iadd, 1) := by decide +kernel
theorem d_Rd_readAnything_58 : decode (cd m_Rd_readAnything) 58 = .ok (.invokevirtual 55, 3) := by decide +kernel
theorem d_Rd_readAnything_61 : decode (cd m_Rd_readAnything) 61 = .ok (.iconst 1, 1) := by decide +kernel
theorem d_Rd_readAnything_62 : decode (cd m_Rd_readAnything) 62 = .ok (.ireturn, 1) := by decide +kernel
theorem d_Rd_readTerm_0 : decode (cd m_Rd_readTerm) 0 = .ok (.aload_n 0, 1) := by decide +kernel
theorem d_Rd_readTerm_1 : decode (cd m_Rd_readTerm) 1 = .ok (.getfield 60, 3) := by decide +kernel
theorem d_Rd_readTerm_4 : decode (cd m_Rd_readTerm) 4 = .ok (.bipush 14, 2) := by decide +kernel
theorem d_Rd_readTerm_6 : decode (cd m_Rd_readTerm) 6 = .ok (.if_icmp .ne 7, 3) := by decide +kernel
theorem d_Rd_readTerm_9 : decode (cd m_Rd_readTerm) 9 = .ok (.iconst 1, 1) := by decide +kernel
theorem d_Rd_readTerm_10 : decode (cd m_Rd_readTerm) 10 = .ok (.goto 4, 3) := by decide +kernel
theorem d_Rd_readTerm_13 : decode (cd m_Rd_readTerm) 13 = .ok (.iconst 0, 1) := by decide +kernel
theorem d_Rd_readTerm_14 : decode (cd m_Rd_readTerm) 14 = .ok (.istore_n 2, 1) := by decide +kernel
theorem d_Rd_readTerm_15 : decode (cd m_Rd_readTerm) 15 = .ok (.iload_n 2, 1) := by decide +kernel
theorem d_Rd_readTerm_16 : decode (cd m_Rd_readTerm) 16 = .ok (.ifCond .eq 13, 3) := by decide +kernel
theorem d_Rd_readTerm_19 : decode (cd m_Rd_readTerm) 19 = .ok (.aload_n 0, 1) := by decide +kernel
theorem d_Rd_readTerm_20 : decode (cd m_Rd_readTerm) 20 = .ok (.aload_n 0, 1) := by decide +kernel
theorem d_Rd_readTerm_21 : decode (cd m_Rd_readTerm) 21 = .ok (.getfield 107, 3) := by decide +kernel
theorem d_Rd_readTerm_24 : decode (cd m_Rd_readTerm) 24 = .ok (.iconst 1, 1) := by decide +kernel
theorem d_Rd_readTerm_25 : decode (cd m_Rd_readTerm) 25 = .ok (.iadd, 1) := by decide +kernel
theorem d_Rd_readTerm_26 : decode (cd m_Rd_readTerm) 26 = .ok (.invokevirtual 55, 3) := by decide +kernel
theorem d_Rd_readTerm_29 : decode (cd m_Rd_readTerm) 29 = .ok (.aload_n 0, 1) := by decide +kernel
theorem d_Rd_readTerm_30 : decode (cd m_Rd_readTerm) 30 = .ok (.getfield 60, 3) := by decide +kernel
theorem d_Rd_readTerm_33 : decode (cd m_Rd_readTerm) 33 = .ok (.iconst 4, 1) := by decide +kernel
theorem d_Rd_readTerm_34 : decode (cd m_Rd_readTerm) 34 = .ok (.if_icmp .ne 26, 3) := by decide +kernel
theorem d_Rd_readTerm_37 : decode (cd m_Rd_readTerm) 37 = .ok (.aload_n 1, 1) := by decide +kernel
theorem d_Rd_readTerm_38 : decode (cd m_Rd_readTerm) 38 = .ok (.iload_n 2, 1) := by decide +kernel
theorem d_Rd_readTerm_39 : decode (cd m_Rd_readTerm) 39 = .ok (.ifCond .eq 11, 3) := by decide +kernel
theorem d_Rd_readTerm_42 : decode (cd m_Rd_readTerm) 42 = .ok (.aload_n 0, 1) := by decide +kernel
theorem d_Rd_readTerm_43 : decode (cd m_Rd_readTerm) 43 = .ok (.getfield 121, 3) := by decide +kernel
theorem d_Rd_readTerm_46 : decode (cd m_Rd_readTerm) 46 = .ok (.lneg, 1) := by decide +kernel
theorem d_Rd_readTerm_47 : decode (cd m_Rd_readTerm) 47 = .ok (.goto 7, 3) := by decide +kernel
theorem d_Rd_readTerm_50 : decode (cd m_Rd_readTerm) 50 = .ok (.aload_n 0, 1) := by decide +kernel
theorem d_Rd_readTerm_51 : decode (cd m_Rd_readTerm) 51 = .ok (.getfield 121, 3) := by decide +kernel
theorem d_Rd_readTerm_54 : decode (cd m_Rd_readTerm) 54 = .ok (.invokevirtual 213, 3) := by decide +kernel
theorem d_Rd_readTerm_57 : decode (cd m_Rd_readTerm) 57 = .ok (.goto 94, 3) := by decide +kernel
theorem d_Rd_readTerm_60 : decode (cd m_Rd_readTerm) 60 = .ok (.aload_n 0, 1) := by decide +kernel
theorem d_Rd_readTerm_61 : decode (cd m_Rd_readTerm) 61 = .ok (.getfield 60, 3) := by decide +kernel
theorem d_Rd_readTerm_64 : decode (cd m_Rd_readTerm) 64 = .ok (.iconst 2, 1) := by decide +kernel
theorem d_Rd_readTerm_65 : decode (cd m_Rd_readTerm) 65 = .ok (.if_icmp .ne 22, 3) := by decide +kernel
theorem d_Rd_readTerm_68 : decode (cd m_Rd_readTerm) 68 = .ok (.iload_n 2, 1) := by decide +kernel
end
section
/-! decode rows (by program) -/
theorem d_Rd_readTerm_69 : decode (cd m_Rd_readTerm) 69 = .ok (.ifCond .ne 18, 3) := by decide +kernel
theorem d_Rd_readTerm_72 : decode (cd m_Rd_readTerm) 72 = .ok (.aload_n 1, 1) := by decide +kernel
theorem d_Rd_readTerm_73 : decode (cd m_Rd_readTerm) 73 = .ok (.ldc2_w 216, 3) := by decide +kernel
theorem d_Rd_readTerm_76 : decode (cd m_Rd_readTerm) 76 = .ok (.aload_n 0, 1) := by decide +kernel
theorem d_Rd_readTerm_77 : decode (cd m_Rd_readTerm) 77 = .ok (.getfield 121, 3) := by decide +kernel
theorem d_Rd_readTerm_80 : decode (cd m_Rd_readTerm) 80 = .ok (.ladd, 1) := by decide +kernel
theorem d_Rd_readTerm_81 : decode (cd m_Rd_readTerm) 81 = .ok (.invokevirtual 213, 3) := by decide +kernel
theorem d_Rd_readTerm_84 : decode (cd m_Rd_readTerm) 84 = .ok (.goto 67, 3) := by decide +kernel
theorem d_Rd_readTerm_87 : decode (cd m_Rd_readTerm) 87 = .ok (.aload_n 0, 1) := by decide +kernel
theorem d_Rd_readTerm_88 : decode (cd m_Rd_readTerm) 88 = .ok (.getfield 60, 3) := by decide +kernel
theorem d_Rd_readTerm_91 : decode (cd m_Rd_readTerm) 91 = .ok (.iconst 3, 1) := by decide +kernel
theorem d_Rd_readTerm_92 : decode (cd m_Rd_readTerm) 92 = .ok (.if_icmp .ne 50, 3) := by decide +kernel
theorem d_Rd_readTerm_95 : decode (cd m_Rd_readTerm) 95 = .ok (.iload_n 2, 1) := by decide +kernel
theorem d_Rd_readTerm_96 : decode (cd m_Rd_readTerm) 96 = .ok (.ifCond .ne 46, 3) := by decide +kernel
theorem d_Rd_readTerm_99 : decode (cd m_Rd_readTerm) 99 = .ok (.aload_n 0, 1) := by decide +kernel
theorem d_Rd_readTerm_100 : decode (cd m_Rd_readTerm) 100 = .ok (.getfield 21, 3) := by decide +kernel
theorem d_Rd_readTerm_103 : decode (cd m_Rd_readTerm) 103 = .ok (.aload_n 0, 1) := by decide +kernel
theorem d_Rd_readTerm_104 : decode (cd m_Rd_readTerm) 104 = .ok (.getfield 121, 3) := by decide +kernel
theorem d_Rd_readTerm_107 : decode (cd m_Rd_readTerm) 107 = .ok (.aload_n 0, 1) := by decide +kernel
theorem d_Rd_readTerm_108 : decode (cd m_Rd_readTerm) 108 = .ok (.getfield 63, 3) := by decide +kernel
theorem d_Rd_readTerm_111 : decode (cd m_Rd_readTerm) 111 = .ok (.invokevirtual 218, 3) := by decide +kernel
theorem d_Rd_readTerm_114 : decode (cd m_Rd_readTerm) 114 = .ok (.istore_n 3, 1) := by decide +kernel
theorem d_Rd_readTerm_115 : decode (cd m_Rd_readTerm) 115 = .ok (.iload_n 3, 1) := by decide +kernel
theorem d_Rd_readTerm_116 : decode (cd m_Rd_readTerm) 116 = .ok (.iconst (-1), 1) := by decide +kernel
theorem d_Rd_readTerm_117 : decode (cd m_Rd_readTerm) 117 = .ok (.if_icmp .ne 12, 3) := by decide +kernel
theorem d_Rd_readTerm_120 : decode (cd m_Rd_readTerm) 120 = .ok (.aload_n 0, 1) := by decide +kernel
theorem d_Rd_readTerm_121 : decode (cd m_Rd_readTerm) 121 = .ok (.aload_n 0, 1) := by decide +kernel
theorem d_Rd_readTerm_122 : decode (cd m_Rd_readTerm) 122 = .ok (.getfield 63, 3) := by decide +kernel
theorem d_Rd_readTerm_125 : decode (cd m_Rd_readTerm) 125 = .ok (.invokevirtual 125, 3) := by decide +kernel
theorem d_Rd_readTerm_128 : decode (cd m_Rd_readTerm) 128 = .ok (.ireturn, 1) := by decide +kernel
theorem d_Rd_readTerm_129 : decode (cd m_Rd_readTerm) 129 = .ok (.aload_n 1, 1) := by decide +kernel
theorem d_Rd_readTerm_130 : decode (cd m_Rd_readTerm) 130 = .ok (.ldc2_w 222, 3) := by decide +kernel
theorem d_Rd_readTerm_133 : decode (cd m_Rd_readTerm) 133 = .ok (.iload_n 3, 1) := by decide +kernel
theorem d_Rd_readTerm_134 : decode (cd m_Rd_readTerm) 134 = .ok (.i2l, 1) := by decide +kernel
theorem d_Rd_readTerm_135 : decode (cd m_Rd_readTerm) 135 = .ok (.ladd, 1) := by decide +kernel
theorem d_Rd_readTerm_136 : decode (cd m_Rd_readTerm) 136 = .ok (.invokevirtual 213, 3) := by decide +kernel
theorem d_Rd_readTerm_139 : decode (cd m_Rd_readTerm) 139 = .ok (.goto 12, 3) := by decide +kernel
theorem d_Rd_readTerm_142 : decode (cd m_Rd_readTerm) 142 = .ok (.aload_n 0, 1) := by decide +kernel
theorem d_Rd_readTerm_143 : decode (cd m_Rd_readTerm) 143 = .ok (.aload_n 0, 1) := by decide +kernel
theorem d_Rd_readTerm_144 : decode (cd m_Rd_readTerm) 144 = .ok (.getfield 63, 3) := by decide +kernel
theorem d_Rd_readTerm_147 : decode (cd m_Rd_readTerm) 147 = .ok (.invokevirtual 125, 3) := by decide +kernel
theorem d_Rd_readTerm_150 : decode (cd m_Rd_readTerm) 150 = .ok (.ireturn, 1) := by decide +kernel
theorem d_Rd_readTerm_151 : decode (cd m_Rd_readTerm) 151 = .ok (.aload_n 0, 1) := by decide +kernel
theorem d_Rd_readTerm_152 : decode (cd m_Rd_readTerm) 152 = .ok (.aload_n 0, 1) := by decide +kernel
theorem d_Rd_readTerm_153 : decode (cd m_Rd_readTerm) 153 = .ok (.getfield 107, 3) := by decide +kernel
theorem d_Rd_readTerm_156 : decode (cd m_Rd_readTerm) 156 = .ok (.iconst 1, 1) := by decide +kernel
theorem d_Rd_readTerm_157 : decode (cd m_Rd_readTerm) 157 = .ok (.iadd, 1) := by decide +kernel
theorem d_Rd_readTerm_158 : decode (cd m_Rd_readTerm) 158 = .ok (.invokevirtual 55, 3) := by decide +kernel
theorem d_Rd_readTerm_161 : decode (cd m_Rd_readTerm) 161 = .ok (.iconst 1, 1) := by decide +kernel
theorem d_Rd_readTerm_162 : decode (cd m_Rd_readTerm) 162 = .ok (.ireturn, 1) := by decide +kernel
end
section
/-! decode rows (by program) -/
theorem d_Rl_init_0 : decode (cd m_Rl_init) 0 = .ok (.aload_n 0, 1) := by decide +kernel
theorem d_Rl_init_1 : decode (cd m_Rl_init) 1 = .ok (.invokespecial 3, 3) := by decide +kernel
theorem d_Rl_init_4 : decode (cd m_Rl_init) 4 = .ok (.aload_n 0, 1) := by decide +kernel
theorem d_Rl_init_5 : decode (cd m_Rl_init) 5 = .ok (.bipush 30, 2) := by decide +kernel
theorem d_Rl_init_7 : decode (cd m_Rl_init) 7 = .ok (.newarray .int, 2) := by decide +kernel
theorem d_Rl_init_9 : decode (cd m_Rl_init) 9 = .ok (.putfield 9, 3) := by decide +kernel
theorem d_Rl_init_12 : decode (cd m_Rl_init) 12 = .ok (.aload_n 0, 1) := by decide +kernel
theorem d_Rl_init_13 : decode (cd m_Rl_init) 13 = .ok (.bipush 30, 2) := by decide +kernel
theorem d_Rl_init_15 : decode (cd m_Rl_init) 15 = .ok (.newarray .int, 2) := by decide +kernel
theorem d_Rl_init_17 : decode (cd m_Rl_init) 17 = .ok (.putfield 15, 3) := by decide +kernel
theorem d_Rl_init_20 : decode (cd m_Rl_init) 20 = .ok (.aload_n 0, 1) := by decide +kernel
theorem d_Rl_init_21 : decode (cd m_Rl_init) 21 = .ok (.bipush 30, 2) := by decide +kernel
theorem d_Rl_init_23 : decode (cd m_Rl_init) 23 = .ok (.newarray .int, 2) := by decide +kernel
theorem d_Rl_init_25 : decode (cd m_Rl_init) 25 = .ok (.putfield 18, 3) := by decide +kernel
theorem d_Rl_init_28 : decode (cd m_Rl_init) 28 = .ok (.aload_n 0, 1) := by decide +kernel
theorem d_Rl_init_29 : decode (cd m_Rl_init) 29 = .ok (.bipush 30, 2) := by decide +kernel
theorem d_Rl_init_31 : decode (cd m_Rl_init) 31 = .ok (.newarray .int, 2) := by decide +kernel
theorem d_Rl_init_33 : decode (cd m_Rl_init) 33 = .ok (.putfield 21, 3) := by decide +kernel
theorem d_Rl_init_36 : decode (cd m_Rl_init) 36 = .ok (.aload_n 0, 1) := by decide +kernel
theorem d_Rl_init_37 : decode (cd m_Rl_init) 37 = .ok (.bipush 30, 2) := by decide +kernel
theorem d_Rl_init_39 : decode (cd m_Rl_init) 39 = .ok (.newarray .int, 2) := by decide +kernel
theorem d_Rl_init_41 : decode (cd m_Rl_init) 41 = .ok (.putfield 24, 3) := by decide +kernel
theorem d_Rl_init_44 : decode (cd m_Rl_init) 44 = .ok (.aload_n 0, 1) := by decide +kernel
theorem d_Rl_init_45 : decode (cd m_Rl_init) 45 = .ok (.sipush 180, 3) := by decide +kernel
theorem d_Rl_init_48 : decode (cd m_Rl_init) 48 = .ok (.newarray .int, 2) := by decide +kernel
theorem d_Rl_init_50 : decode (cd m_Rl_init) 50 = .ok (.putfield 27, 3) := by decide +kernel
theorem d_Rl_init_53 : decode (cd m_Rl_init) 53 = .ok (.aload_n 0, 1) := by decide +kernel
theorem d_Rl_init_54 : decode (cd m_Rl_init) 54 = .ok (.sipush 180, 3) := by decide +kernel
theorem d_Rl_init_57 : decode (cd m_Rl_init) 57 = .ok (.newarray .int, 2) := by decide +kernel
theorem d_Rl_init_59 : decode (cd m_Rl_init) 59 = .ok (.putfield 30, 3) := by decide +kernel
theorem d_Rl_init_62 : decode (cd m_Rl_init) 62 = .ok (.aload_n 0, 1) := by decide +kernel
theorem d_Rl_init_63 : decode (cd m_Rl_init) 63 = .ok (.sipush 180, 3) := by decide +kernel
theorem d_Rl_init_66 : decode (cd m_Rl_init) 66 = .ok (.newarray .int, 2) := by decide +kernel
theorem d_Rl_init_68 : decode (cd m_Rl_init) 68 = .ok (.putfield 33, 3) := by decide +kernel
theorem d_Rl_init_71 : decode (cd m_Rl_init) 71 = .ok (.aload_n 0, 1) := by decide +kernel
theorem d_Rl_init_72 : decode (cd m_Rl_init) 72 = .ok (.sipush 180, 3) := by decide +kernel
theorem d_Rl_init_75 : decode (cd m_Rl_init) 75 = .ok (.newarray .int, 2) := by decide +kernel
theorem d_Rl_init_77 : decode (cd m_Rl_init) 77 = .ok (.putfield 36, 3) := by decide +kernel
theorem d_Rl_init_80 : decode (cd m_Rl_init) 80 = .ok (.aload_n 0, 1) := by decide +kernel
theorem d_Rl_init_81 : decode (cd m_Rl_init) 81 = .ok (.sipush 180, 3) := by decide +kernel
theorem d_Rl_init_84 : decode (cd m_Rl_init) 84 = .ok (.newarray .int, 2) := by decide +kernel
theorem d_Rl_init_86 : decode (cd m_Rl_init) 86 = .ok (.putfield 39, 3) := by decide +kernel
theorem d_Rl_init_89 : decode (cd m_Rl_init) 89 = .ok (.aload_n 0, 1) := by decide +kernel
theorem d_Rl_init_90 : decode (cd m_Rl_init) 90 = .ok (.sipush 180, 3) := by decide +kernel
theorem d_Rl_init_93 : decode (cd m_Rl_init) 93 = .ok (.newarray .int, 2) := by decide +kernel
theorem d_Rl_init_95 : decode (cd m_Rl_init) 95 = .ok (.putfield 42, 3) := by decide +kernel
theorem d_Rl_init_98 : decode (cd m_Rl_init) 98 = .ok (.return_, 1) := by decide +kernel
theorem d_Rl_add_0 : decode (cd m_Rl_add) 0 = .ok (.aload_n 0, 1) := by decide +kernel
theorem d_Rl_add_1 : decode (cd m_Rl_add) 1 = .ok (.getfield 45, 3) := by decide +kernel
theorem d_Rl_add_4 : decode (cd m_Rl_add) 4 = .ok (.bipush 30, 2) := by decide +kernel
theorem d_Rl_add_6 : decode (cd m_Rl_add) 6 = .ok (.if_icmp .lt 4, 3) := by decide +kernel
theorem d_Rl_add_9 : decode (cd m_Rl_add) 9 = .ok (.return_, 1) := by decide +kernel
theorem d_Rl_add_10 : decode (cd m_Rl_add) 10 = .ok (.aload_n 0, 1) := by decide +kernel
theorem d_Rl_add_11 : decode (cd m_Rl_add) 11 = .ok (.getfield 9, 3) := by decide +kernel
theorem d_Rl_add_14 : decode (cd m_Rl_add) 14 = .ok (.aload_n 0, 1) := by decide +kernel
theorem d_Rl_add_15 : decode (cd m_Rl_add) 15 = .ok (.getfield 45, 3) := by decide +kernel
theorem d_Rl_add_18 : decode (cd m_Rl_add) 18 = .ok (.aload_n 1, 1) := by decide +kernel
theorem d_Rl_add_19 : decode (cd m_Rl_add) 19 = .ok (.getfield 49, 3) := by decide +kernel
theorem d_Rl_add_22 : decode (cd m_Rl_add) 22 = .ok (.getfield 55, 3) := by decide +kernel
theorem d_Rl_add_25 : decode (cd m_Rl_add) 25 = .ok (.iastore, 1) := by decide +kernel
theorem d_Rl_add_26 : decode (cd m_Rl_add) 26 = .ok (.aload_n 0, 1) := by decide +kernel
theorem d_Rl_add_27 : decode (cd m_Rl_add) 27 = .ok (.getfield 15, 3) := by decide +kernel
theorem d_Rl_add_30 : decode (cd m_Rl_add) 30 = .ok (.aload_n 0, 1) := by decide +kernel
theorem d_Rl_add_31 : decode (cd m_Rl_add) 31 = .ok (.getfield 45, 3) := by decide +kernel
theorem d_Rl_add_34 : decode (cd m_Rl_add) 34 = .ok (.aload_n 1, 1) := by decide +kernel
theorem d_Rl_add_35 : decode (cd m_Rl_add) 35 = .ok (.getfield 59, 3) := by decide +kernel
theorem d_Rl_add_38 : decode (cd m_Rl_add) 38 = .ok (.iastore, 1) := by decide +kernel
theorem d_Rl_add_39 : decode (cd m_Rl_add) 39 = .ok (.aload_n 0, 1) := by decide +kernel
theorem d_Rl_add_40 : decode (cd m_Rl_add) 40 = .ok (.getfield 18, 3) := by decide +kernel
theorem d_Rl_add_43 : decode (cd m_Rl_add) 43 = .ok (.aload_n 0, 1) := by decide +kernel
theorem d_Rl_add_44 : decode (cd m_Rl_add) 44 = .ok (.getfield 45, 3) := by decide +kernel
theorem d_Rl_add_47 : decode (cd m_Rl_add) 47 = .ok (.aload_n 1, 1) := by decide +kernel
theorem d_Rl_add_48 : decode (cd m_Rl_add) 48 = .ok (.getfield 62, 3) := by decide +kernel
theorem d_Rl_add_51 : decode (cd m_Rl_add) 51 = .ok (.iastore, 1) := by decide +kernel
theorem d_Rl_add_52 : decode (cd m_Rl_add) 52 = .ok (.aload_n 0, 1) := by decide +kernel
theorem d_Rl_add_53 : decode (cd m_Rl_add) 53 = .ok (.getfield 21, 3) := by decide +kernel
theorem d_Rl_add_56 : decode (cd m_Rl_add) 56 = .ok (.aload_n 0, 1) := by decide +kernel
theorem d_Rl_add_57 : decode (cd m_Rl_add) 57 = .ok (.getfield 45, 3) := by decide +kernel
theorem d_Rl_add_60 : decode (cd m_Rl_add) 60 = .ok (.aload_n 1, 1) := by decide +kernel
theorem d_Rl_add_61 : decode (cd m_Rl_add) 61 = .ok (.getfield 64, 3) := by decide +kernel
theorem d_Rl_add_64 : decode (cd m_Rl_add) 64 = .ok (.iastore, 1) := by decide +kernel
theorem d_Rl_add_65 : decode (cd m_Rl_add) 65 = .ok (.aload_n 0, 1) := by decide +kernel
theorem d_Rl_add_66 : decode (cd m_Rl_add) 66 = .ok (.getfield 24, 3) := by decide +kernel
theorem d_Rl_add_69 : decode (cd m_Rl_add) 69 = .ok (.aload_n 0, 1) := by decide +kernel
theorem d_Rl_add_70 : decode (cd m_Rl_add) 70 = .ok (.getfield 45, 3) := by decide +kernel
theorem d_Rl_add_73 : decode (cd m_Rl_add) 73 = .ok (.aload_n 1, 1) := by decide +kernel
theorem d_Rl_add_74 : decode (cd m_Rl_add) 74 = .ok (.getfield 67, 3) := by decide +kernel
theorem d_Rl_add_77 : decode (cd m_Rl_add) 77 = .ok (.iastore, 1) := by decide +kernel
theorem d_Rl_add_78 : decode (cd m_Rl_add) 78 = .ok (.iconst 0, 1) := by decide +kernel
theorem d_Rl_add_79 : decode (cd m_Rl_add) 79 = .ok (.istore_n 2, 1) := by decide +kernel
theorem d_Rl_add_80 : decode (cd m_Rl_add) 80 = .ok (.iload_n 2, 1) := by decide +kernel
theorem d_Rl_add_81 : decode (cd m_Rl_add) 81 = .ok (.aload_n 1, 1) := by decide +kernel
theorem d_Rl_add_82 : decode (cd m_Rl_add) 82 = .ok (.getfield 59, 3) := by decide +kernel
theorem d_Rl_add_85 : decode (cd m_Rl_add) 85 = .ok (.if_icmp .ge 100, 3) := by decide +kernel
theorem d_Rl_add_88 : decode (cd m_Rl_add) 88 = .ok (.aload_n 0, 1) := by decide +kernel
theorem d_Rl_add_89 : decode (cd m_Rl_add) 89 = .ok (.getfield 45, 3) := by decide +kernel
theorem d_Rl_add_92 : decode (cd m_Rl_add) 92 = .ok (.bipush 6, 2) := by decide +kernel
theorem d_Rl_add_94 : decode (cd m_Rl_add) 94 = .ok (.imul, 1) := by decide +kernel
theorem d_Rl_add_95 : decode (cd m_Rl_add) 95 = .ok (.iload_n 2, 1) := by decide +kernel
theorem d_Rl_add_96 : decode (cd m_Rl_add) 96 = .ok (.iadd, 1) := by decide +kernel
theorem d_Rl_add_97 : decode (cd m_Rl_add) 97 = .ok (.istore_n 3, 1) := by decide +kernel
theorem d_Rl_add_98 : decode (cd m_Rl_add) 98 = .ok (.aload_n 0, 1) := by decide +kernel
theorem d_Rl_add_99 : decode (cd m_Rl_add) 99 = .ok (.getfield 27, 3) := by decide +kernel
theorem d_Rl_add_102 : decode (cd m_Rl_add) 102 = .ok (.iload_n 3, 1) := by decide +kernel
theorem d_Rl_add_103 : decode (cd m_Rl_add) 103 = .ok (.aload_n 1, 1) := by decide +kernel
theorem d_Rl_add_104 : decode (cd m_Rl_add) 104 = .ok (.getfield 70, 3) := by decide +kernel
theorem d_Rl_add_107 : decode (cd m_Rl_add) 107 = .ok (.iload_n 2, 1) := by decide +kernel
theorem d_Rl_add_108 : decode (cd m_Rl_add) 108 = .ok (.aaload, 1) := by decide +kernel
theorem d_Rl_add_109 : decode (cd m_Rl_add) 109 = .ok (.getfield 74, 3) := by decide +kernel
theorem d_Rl_add_112 : decode (cd m_Rl_add) 112 = .ok (.iastore, 1) := by decide +kernel
theorem d_Rl_add_113 : decode (cd m_Rl_add) 113 = .ok (.aload_n 0, 1) := by decide +kernel
theorem d_Rl_add_114 : decode (cd m_Rl_add) 114 = .ok (.getfield 30, 3) := by decide +kernel
theorem d_Rl_add_117 : decode (cd m_Rl_add) 117 = .ok (.iload_n 3, 1) := by decide +kernel
theorem d_Rl_add_118 : decode (cd m_Rl_add) 118 = .ok (.aload_n 1, 1) := by decide +kernel
theorem d_Rl_add_119 : decode (cd m_Rl_add) 119 = .ok (.getfield 70, 3) := by decide +kernel
theorem d_Rl_add_122 : decode (cd m_Rl_add) 122 = .ok (.iload_n 2, 1) := by decide +kernel
theorem d_Rl_add_123 : decode (cd m_Rl_add) 123 = .ok (.aaload, 1) := by decide +kernel
theorem d_Rl_add_124 : decode (cd m_Rl_add) 124 = .ok (.getfield 55, 3) := by decide +kernel
theorem d_Rl_add_127 : decode (cd m_Rl_add) 127 = .ok (.iastore, 1) := by decide +kernel
theorem d_Rl_add_128 : decode (cd m_Rl_add) 128 = .ok (.aload_n 0, 1) := by decide +kernel
theorem d_Rl_add_129 : decode (cd m_Rl_add) 129 = .ok (.getfield 33, 3) := by decide +kernel
theorem d_Rl_add_132 : decode (cd m_Rl_add) 132 = .ok (.iload_n 3, 1) := by decide +kernel
theorem d_Rl_add_133 : decode (cd m_Rl_add) 133 = .ok (.aload_n 1, 1) := by decide +kernel
theorem d_Rl_add_134 : decode (cd m_Rl_add) 134 = .ok (.getfield 70, 3) := by decide +kernel
theorem d_Rl_add_137 : decode (cd m_Rl_add) 137 = .ok (.iload_n 2, 1) := by decide +kernel
theorem d_Rl_add_138 : decode (cd m_Rl_add) 138 = .ok (.aaload, 1) := by decide +kernel
theorem d_Rl_add_139 : decode (cd m_Rl_add) 139 = .ok (.getfield 77, 3) := by decide +kernel
theorem d_Rl_add_142 : decode (cd m_Rl_add) 142 = .ok (.iastore, 1) := by decide +kernel
theorem d_Rl_add_143 : decode (cd m_Rl_add) 143 = .ok (.aload_n 0, 1) := by decide +kernel
theorem d_Rl_add_144 : decode (cd m_Rl_add) 144 = .ok (.getfield 36, 3) := by decide +kernel
theorem d_Rl_add_147 : decode (cd m_Rl_add) 147 = .ok (.iload_n 3, 1) := by decide +kernel
theorem d_Rl_add_148 : decode (cd m_Rl_add) 148 = .ok (.aload_n 1, 1) := by decide +kernel
theorem d_Rl_add_149 : decode (cd m_Rl_add) 149 = .ok (.getfield 80, 3) := by decide +kernel
theorem d_Rl_add_152 : decode (cd m_Rl_add) 152 = .ok (.iload_n 2, 1) := by decide +kernel
theorem d_Rl_add_153 : decode (cd m_Rl_add) 153 = .ok (.iaload, 1) := by decide +kernel
theorem d_Rl_add_154 : decode (cd m_Rl_add) 154 = .ok (.iastore, 1) := by decide +kernel
theorem d_Rl_add_155 : decode (cd m_Rl_add) 155 = .ok (.aload_n 0, 1) := by decide +kernel
theorem d_Rl_add_156 : decode (cd m_Rl_add) 156 = .ok (.getfield 39, 3) := by decide +kernel
theorem d_Rl_add_159 : decode (cd m_Rl_add) 159 = .ok (.iload_n 3, 1) := by decide +kernel
theorem d_Rl_add_160 : decode (cd m_Rl_add) 160 = .ok (.aload_n 1, 1) := by decide +kernel
theorem d_Rl_add_161 : decode (cd m_Rl_add) 161 = .ok (.getfield 81, 3) := by decide +kernel
theorem d_Rl_add_164 : decode (cd m_Rl_add) 164 = .ok (.iload_n 2, 1) := by decide +kernel
theorem d_Rl_add_165 : decode (cd m_Rl_add) 165 = .ok (.iaload, 1) := by decide +kernel
theorem d_Rl_add_166 : decode (cd m_Rl_add) 166 = .ok (.iastore, 1) := by decide +kernel
theorem d_Rl_add_167 : decode (cd m_Rl_add) 167 = .ok (.aload_n 0, 1) := by decide +kernel
theorem d_Rl_add_168 : decode (cd m_Rl_add) 168 = .ok (.getfield 42, 3) := by decide +kernel
theorem d_Rl_add_171 : decode (cd m_Rl_add) 171 = .ok (.iload_n 3, 1) := by decide +kernel
theorem d_Rl_add_172 : decode (cd m_Rl_add) 172 = .ok (.aload_n 1, 1) := by decide +kernel
theorem d_Rl_add_173 : decode (cd m_Rl_add) 173 = .ok (.getfield 82, 3) := by decide +kernel
theorem d_Rl_add_176 : decode (cd m_Rl_add) 176 = .ok (.iload_n 2, 1) := by decide +kernel
theorem d_Rl_add_177 : decode (cd m_Rl_add) 177 = .ok (.iaload, 1) := by decide +kernel
theorem d_Rl_add_178 : decode (cd m_Rl_add) 178 = .ok (.iastore, 1) := by decide +kernel
theorem d_Rl_add_179 : decode (cd m_Rl_add) 179 = .ok (.iinc 2 1, 3) := by decide +kernel
theorem d_Rl_add_182 : decode (cd m_Rl_add) 182 = .ok (.goto (-102), 3) := by decide +kernel
theorem d_Rl_add_185 : decode (cd m_Rl_add) 185 = .ok (.aload_n 0, 1) := by decide +kernel
theorem d_Rl_add_186 : decode (cd m_Rl_add) 186 = .ok (.dup, 1) := by decide +kernel
theorem d_Rl_add_187 : decode (cd m_Rl_add) 187 = .ok (.getfield 45, 3) := by decide +kernel
theorem d_Rl_add_190 : decode (cd m_Rl_add) 190 = .ok (.iconst 1, 1) := by decide +kernel
theorem d_Rl_add_191 : decode (cd m_Rl_add) 191 = .ok (.iadd, 1) := by decide +kernel
theorem d_Rl_add_192 : decode (cd m_Rl_add) 192 = .ok (.putfield 45, 3) := by decide +kernel
theorem d_Rl_add_195 : decode (cd m_Rl_add) 195 = .ok (.return_, 1) := by decide +kernel
theorem d_Rl_waits_0 : decode (cd m_Rl_waits) 0 = .ok (.aload_n 0, 1) := by decide +kernel
theorem d_Rl_waits_1 : decode (cd m_Rl_waits) 1 = .ok (.getfield 21, 3) := by decide +kernel
theorem d_Rl_waits_4 : decode (cd m_Rl_waits) 4 = .ok (.iload_n 1, 1) := by decide +kernel
theorem d_Rl_waits_5 : decode (cd m_Rl_waits) 5 = .ok (.iaload, 1) := by decide +kernel
theorem d_Rl_waits_6 : decode (cd m_Rl_waits) 6 = .ok (.ifCond .gt 13, 3) := by decide +kernel
theorem d_Rl_waits_9 : decode (cd m_Rl_waits) 9 = .ok (.aload_n 0, 1) := by decide +kernel
theorem d_Rl_waits_10 : decode (cd m_Rl_waits) 10 = .ok (.getfield 27, 3) := by decide +kernel
theorem d_Rl_waits_13 : decode (cd m_Rl_waits) 13 = .ok (.iload_n 2, 1) := by decide +kernel
theorem d_Rl_waits_14 : decode (cd m_Rl_waits) 14 = .ok (.iaload, 1) := by decide +kernel
theorem d_Rl_waits_15 : decode (cd m_Rl_waits) 15 = .ok (.iconst 1, 1) := by decide +kernel
theorem d_Rl_waits_16 : decode (cd m_Rl_waits) 16 = .ok (.if_icmp .ne 7, 3) := by decide +kernel
theorem d_Rl_waits_19 : decode (cd m_Rl_waits) 19 = .ok (.iconst 1, 1) := by decide +kernel
theorem d_Rl_waits_20 : decode (cd m_Rl_waits) 20 = .ok (.goto 4, 3) := by decide +kernel
theorem d_Rl_waits_23 : decode (cd m_Rl_waits) 23 = .ok (.iconst 0, 1) := by decide +kernel
theorem d_Rl_waits_24 : decode (cd m_Rl_waits) 24 = .ok (.ireturn, 1) := by decide +kernel
end
section
/-! decode rows (by program) -/
theorem d_Tp_init_0 : decode (cd m_Tp_init) 0 = .ok (.aload_n 0, 1) := by decide +kernel
theorem d_Tp_init_1 : decode (cd m_Tp_init) 1 = .ok (.invokespecial 3, 3) := by decide +kernel
theorem d_Tp_init_4 : decode (cd m_Tp_init) 4 = .ok (.aload_n 0, 1) := by decide +kernel
theorem d_Tp_init_5 : decode (cd m_Tp_init) 5 = .ok (.sipush 600, 3) := by decide +kernel
theorem d_Tp_init_8 : decode (cd m_Tp_init) 8 = .ok (.newarray .byte, 2) := by decide +kernel
theorem d_Tp_init_10 : decode (cd m_Tp_init) 10 = .ok (.putfield 9, 3) := by decide +kernel
theorem d_Tp_init_13 : decode (cd m_Tp_init) 13 = .ok (.return_, 1) := by decide +kernel
theorem d_Tp_add_0 : decode (cd m_Tp_add) 0 = .ok (.aload_n 0, 1) := by decide +kernel
theorem d_Tp_add_1 : decode (cd m_Tp_add) 1 = .ok (.getfield 15, 3) := by decide +kernel
theorem d_Tp_add_4 : decode (cd m_Tp_add) 4 = .ok (.aload_n 0, 1) := by decide +kernel
theorem d_Tp_add_5 : decode (cd m_Tp_add) 5 = .ok (.getfield 9, 3) := by decide +kernel
theorem d_Tp_add_8 : decode (cd m_Tp_add) 8 = .ok (.arraylength, 1) := by decide +kernel
theorem d_Tp_add_9 : decode (cd m_Tp_add) 9 = .ok (.if_icmp .ge 24, 3) := by decide +kernel
theorem d_Tp_add_12 : decode (cd m_Tp_add) 12 = .ok (.aload_n 0, 1) := by decide +kernel
theorem d_Tp_add_13 : decode (cd m_Tp_add) 13 = .ok (.getfield 9, 3) := by decide +kernel
theorem d_Tp_add_16 : decode (cd m_Tp_add) 16 = .ok (.aload_n 0, 1) := by decide +kernel
theorem d_Tp_add_17 : decode (cd m_Tp_add) 17 = .ok (.getfield 15, 3) := by decide +kernel
theorem d_Tp_add_20 : decode (cd m_Tp_add) 20 = .ok (.iload_n 1, 1) := by decide +kernel
theorem d_Tp_add_21 : decode (cd m_Tp_add) 21 = .ok (.i2b, 1) := by decide +kernel
theorem d_Tp_add_22 : decode (cd m_Tp_add) 22 = .ok (.bastore, 1) := by decide +kernel
theorem d_Tp_add_23 : decode (cd m_Tp_add) 23 = .ok (.aload_n 0, 1) := by decide +kernel
theorem d_Tp_add_24 : decode (cd m_Tp_add) 24 = .ok (.dup, 1) := by decide +kernel
theorem d_Tp_add_25 : decode (cd m_Tp_add) 25 = .ok (.getfield 15, 3) := by decide +kernel
theorem d_Tp_add_28 : decode (cd m_Tp_add) 28 = .ok (.iconst 1, 1) := by decide +kernel
theorem d_Tp_add_29 : decode (cd m_Tp_add) 29 = .ok (.iadd, 1) := by decide +kernel
theorem d_Tp_add_30 : decode (cd m_Tp_add) 30 = .ok (.putfield 15, 3) := by decide +kernel
theorem d_Tp_add_33 : decode (cd m_Tp_add) 33 = .ok (.return_, 1) := by decide +kernel
theorem d_Tp_at_0 : decode (cd m_Tp_at) 0 = .ok (.iload_n 1, 1) := by decide +kernel
theorem d_Tp_at_1 : decode (cd m_Tp_at) 1 = .ok (.ifCond .lt 20, 3) := by decide +kernel
theorem d_Tp_at_4 : decode (cd m_Tp_at) 4 = .ok (.iload_n 1, 1) := by decide +kernel
theorem d_Tp_at_5 : decode (cd m_Tp_at) 5 = .ok (.aload_n 0, 1) := by decide +kernel
theorem d_Tp_at_6 : decode (cd m_Tp_at) 6 = .ok (.getfield 15, 3) := by decide +kernel
theorem d_Tp_at_9 : decode (cd m_Tp_at) 9 = .ok (.if_icmp .ge 12, 3) := by decide +kernel
theorem d_Tp_at_12 : decode (cd m_Tp_at) 12 = .ok (.aload_n 0, 1) := by decide +kernel
theorem d_Tp_at_13 : decode (cd m_Tp_at) 13 = .ok (.getfield 9, 3) := by decide +kernel
theorem d_Tp_at_16 : decode (cd m_Tp_at) 16 = .ok (.iload_n 1, 1) := by decide +kernel
theorem d_Tp_at_17 : decode (cd m_Tp_at) 17 = .ok (.baload, 1) := by decide +kernel
theorem d_Tp_at_18 : decode (cd m_Tp_at) 18 = .ok (.goto 4, 3) := by decide +kernel
theorem d_Tp_at_21 : decode (cd m_Tp_at) 21 = .ok (.iconst 0, 1) := by decide +kernel
theorem d_Tp_at_22 : decode (cd m_Tp_at) 22 = .ok (.ireturn, 1) := by decide +kernel
theorem d_Tp_sortAt_0 : decode (cd m_Tp_sortAt) 0 = .ok (.aload_n 0, 1) := by decide +kernel
theorem d_Tp_sortAt_1 : decode (cd m_Tp_sortAt) 1 = .ok (.iload_n 1, 1) := by decide +kernel
theorem d_Tp_sortAt_2 : decode (cd m_Tp_sortAt) 2 = .ok (.invokevirtual 19, 3) := by decide +kernel
theorem d_Tp_sortAt_5 : decode (cd m_Tp_sortAt) 5 = .ok (.istore_n 2, 1) := by decide +kernel
theorem d_Tp_sortAt_6 : decode (cd m_Tp_sortAt) 6 = .ok (.iload_n 2, 1) := by decide +kernel
theorem d_Tp_sortAt_7 : decode (cd m_Tp_sortAt) 7 = .ok (.bipush 97, 2) := by decide +kernel
theorem d_Tp_sortAt_9 : decode (cd m_Tp_sortAt) 9 = .ok (.if_icmp .lt 11, 3) := by decide +kernel
theorem d_Tp_sortAt_12 : decode (cd m_Tp_sortAt) 12 = .ok (.iload_n 2, 1) := by decide +kernel
theorem d_Tp_sortAt_13 : decode (cd m_Tp_sortAt) 13 = .ok (.bipush 122, 2) := by decide +kernel
theorem d_Tp_sortAt_15 : decode (cd m_Tp_sortAt) 15 = .ok (.if_icmp .gt 5, 3) := by decide +kernel
theorem d_Tp_sortAt_18 : decode (cd m_Tp_sortAt) 18 = .ok (.iconst 1, 1) := by decide +kernel
theorem d_Tp_sortAt_19 : decode (cd m_Tp_sortAt) 19 = .ok (.ireturn, 1) := by decide +kernel
theorem d_Tp_sortAt_20 : decode (cd m_Tp_sortAt) 20 = .ok (.iload_n 2, 1) := by decide +kernel
theorem d_Tp_sortAt_21 : decode (cd m_Tp_sortAt) 21 = .ok (.bipush 65, 2) := by decide +kernel
theorem d_Tp_sortAt_23 : decode (cd m_Tp_sortAt) 23 = .ok (.if_icmp .lt 11, 3) := by decide +kernel
theorem d_Tp_sortAt_26 : decode (cd m_Tp_sortAt) 26 = .ok (.iload_n 2, 1) := by decide +kernel
theorem d_Tp_sortAt_27 : decode (cd m_Tp_sortAt) 27 = .ok (.bipush 90, 2) := by decide +kernel
theorem d_Tp_sortAt_29 : decode (cd m_Tp_sortAt) 29 = .ok (.if_icmp .gt 5, 3) := by decide +kernel
theorem d_Tp_sortAt_32 : decode (cd m_Tp_sortAt) 32 = .ok (.iconst 2, 1) := by decide +kernel
theorem d_Tp_sortAt_33 : decode (cd m_Tp_sortAt) 33 = .ok (.ireturn, 1) := by decide +kernel
theorem d_Tp_sortAt_34 : decode (cd m_Tp_sortAt) 34 = .ok (.iload_n 2, 1) := by decide +kernel
theorem d_Tp_sortAt_35 : decode (cd m_Tp_sortAt) 35 = .ok (.bipush 48, 2) := by decide +kernel
theorem d_Tp_sortAt_37 : decode (cd m_Tp_sortAt) 37 = .ok (.if_icmp .lt 13, 3) := by decide +kernel
theorem d_Tp_sortAt_40 : decode (cd m_Tp_sortAt) 40 = .ok (.iload_n 2, 1) := by decide +kernel
theorem d_Tp_sortAt_41 : decode (cd m_Tp_sortAt) 41 = .ok (.bipush 57, 2) := by decide +kernel
theorem d_Tp_sortAt_43 : decode (cd m_Tp_sortAt) 43 = .ok (.if_icmp .gt 7, 3) := by decide +kernel
theorem d_Tp_sortAt_46 : decode (cd m_Tp_sortAt) 46 = .ok (.iconst 4, 1) := by decide +kernel
theorem d_Tp_sortAt_47 : decode (cd m_Tp_sortAt) 47 = .ok (.goto 4, 3) := by decide +kernel
theorem d_Tp_sortAt_50 : decode (cd m_Tp_sortAt) 50 = .ok (.iconst 0, 1) := by decide +kernel
theorem d_Tp_sortAt_51 : decode (cd m_Tp_sortAt) 51 = .ok (.ireturn, 1) := by decide +kernel
theorem d_Tp_endOfRun_0 : decode (cd m_Tp_endOfRun) 0 = .ok (.iload_n 1, 1) := by decide +kernel
theorem d_Tp_endOfRun_1 : decode (cd m_Tp_endOfRun) 1 = .ok (.istore_n 3, 1) := by decide +kernel
theorem d_Tp_endOfRun_2 : decode (cd m_Tp_endOfRun) 2 = .ok (.iload_n 3, 1) := by decide +kernel
theorem d_Tp_endOfRun_3 : decode (cd m_Tp_endOfRun) 3 = .ok (.aload_n 0, 1) := by decide +kernel
theorem d_Tp_endOfRun_4 : decode (cd m_Tp_endOfRun) 4 = .ok (.getfield 15, 3) := by decide +kernel
theorem d_Tp_endOfRun_7 : decode (cd m_Tp_endOfRun) 7 = .ok (.if_icmp .ge 21, 3) := by decide +kernel
theorem d_Tp_endOfRun_10 : decode (cd m_Tp_endOfRun) 10 = .ok (.aload_n 0, 1) := by decide +kernel
theorem d_Tp_endOfRun_11 : decode (cd m_Tp_endOfRun) 11 = .ok (.iload_n 3, 1) := by decide +kernel
theorem d_Tp_endOfRun_12 : decode (cd m_Tp_endOfRun) 12 = .ok (.invokevirtual 23, 3) := by decide +kernel
theorem d_Tp_endOfRun_15 : decode (cd m_Tp_endOfRun) 15 = .ok (.iload_n 2, 1) := by decide +kernel
theorem d_Tp_endOfRun_16 : decode (cd m_Tp_endOfRun) 16 = .ok (.iand, 1) := by decide +kernel
theorem d_Tp_endOfRun_17 : decode (cd m_Tp_endOfRun) 17 = .ok (.ifCond .ne 5, 3) := by decide +kernel
theorem d_Tp_endOfRun_20 : decode (cd m_Tp_endOfRun) 20 = .ok (.iload_n 3, 1) := by decide +kernel
theorem d_Tp_endOfRun_21 : decode (cd m_Tp_endOfRun) 21 = .ok (.ireturn, 1) := by decide +kernel
theorem d_Tp_endOfRun_22 : decode (cd m_Tp_endOfRun) 22 = .ok (.iinc 3 1, 3) := by decide +kernel
theorem d_Tp_endOfRun_25 : decode (cd m_Tp_endOfRun) 25 = .ok (.goto (-23), 3) := by decide +kernel
theorem d_Tp_endOfRun_28 : decode (cd m_Tp_endOfRun) 28 = .ok (.aload_n 0, 1) := by decide +kernel
theorem d_Tp_endOfRun_29 : decode (cd m_Tp_endOfRun) 29 = .ok (.getfield 15, 3) := by decide +kernel
theorem d_Tp_endOfRun_32 : decode (cd m_Tp_endOfRun) 32 = .ok (.ireturn, 1) := by decide +kernel
theorem d_Tp_spells_0 : decode (cd m_Tp_spells) 0 = .ok (.iload_n 2, 1) := by decide +kernel
theorem d_Tp_spells_1 : decode (cd m_Tp_spells) 1 = .ok (.iload_n 1, 1) := by decide +kernel
theorem d_Tp_spells_2 : decode (cd m_Tp_spells) 2 = .ok (.isub, 1) := by decide +kernel
theorem d_Tp_spells_3 : decode (cd m_Tp_spells) 3 = .ok (.aload_n 3, 1) := by decide +kernel
theorem d_Tp_spells_4 : decode (cd m_Tp_spells) 4 = .ok (.invokevirtual 26, 3) := by decide +kernel
theorem d_Tp_spells_7 : decode (cd m_Tp_spells) 7 = .ok (.if_icmp .eq 5, 3) := by decide +kernel
theorem d_Tp_spells_10 : decode (cd m_Tp_spells) 10 = .ok (.iconst 0, 1) := by decide +kernel
theorem d_Tp_spells_11 : decode (cd m_Tp_spells) 11 = .ok (.ireturn, 1) := by decide +kernel
theorem d_Tp_spells_12 : decode (cd m_Tp_spells) 12 = .ok (.iconst 0, 1) := by decide +kernel
theorem d_Tp_spells_13 : decode (cd m_Tp_spells) 13 = .ok (.istore 4, 2) := by decide +kernel
theorem d_Tp_spells_15 : decode (cd m_Tp_spells) 15 = .ok (.iload 4, 2) := by decide +kernel
theorem d_Tp_spells_17 : decode (cd m_Tp_spells) 17 = .ok (.aload_n 3, 1) := by decide +kernel
theorem d_Tp_spells_18 : decode (cd m_Tp_spells) 18 = .ok (.invokevirtual 26, 3) := by decide +kernel
theorem d_Tp_spells_21 : decode (cd m_Tp_spells) 21 = .ok (.if_icmp .ge 28, 3) := by decide +kernel
theorem d_Tp_spells_24 : decode (cd m_Tp_spells) 24 = .ok (.aload_n 0, 1) := by decide +kernel
theorem d_Tp_spells_25 : decode (cd m_Tp_spells) 25 = .ok (.iload_n 1, 1) := by decide +kernel
theorem d_Tp_spells_26 : decode (cd m_Tp_spells) 26 = .ok (.iload 4, 2) := by decide +kernel
theorem d_Tp_spells_28 : decode (cd m_Tp_spells) 28 = .ok (.iadd, 1) := by decide +kernel
theorem d_Tp_spells_29 : decode (cd m_Tp_spells) 29 = .ok (.invokevirtual 19, 3) := by decide +kernel
theorem d_Tp_spells_32 : decode (cd m_Tp_spells) 32 = .ok (.aload_n 3, 1) := by decide +kernel
theorem d_Tp_spells_33 : decode (cd m_Tp_spells) 33 = .ok (.iload 4, 2) := by decide +kernel
theorem d_Tp_spells_35 : decode (cd m_Tp_spells) 35 = .ok (.invokevirtual 31, 3) := by decide +kernel
theorem d_Tp_spells_38 : decode (cd m_Tp_spells) 38 = .ok (.if_icmp .eq 5, 3) := by decide +kernel
theorem d_Tp_spells_41 : decode (cd m_Tp_spells) 41 = .ok (.iconst 0, 1) := by decide +kernel
theorem d_Tp_spells_42 : decode (cd m_Tp_spells) 42 = .ok (.ireturn, 1) := by decide +kernel
theorem d_Tp_spells_43 : decode (cd m_Tp_spells) 43 = .ok (.iinc 4 1, 3) := by decide +kernel
theorem d_Tp_spells_46 : decode (cd m_Tp_spells) 46 = .ok (.goto (-31), 3) := by decide +kernel
theorem d_Tp_spells_49 : decode (cd m_Tp_spells) 49 = .ok (.iconst 1, 1) := by decide +kernel
theorem d_Tp_spells_50 : decode (cd m_Tp_spells) 50 = .ok (.ireturn, 1) := by decide +kernel
theorem d_Tp_packed_0 : decode (cd m_Tp_packed) 0 = .ok (.lconst 0, 1) := by decide +kernel
theorem d_Tp_packed_1 : decode (cd m_Tp_packed) 1 = .ok (.lstore_n 3, 1) := by decide +kernel
theorem d_Tp_packed_2 : decode (cd m_Tp_packed) 2 = .ok (.iload_n 1, 1) := by decide +kernel
theorem d_Tp_packed_3 : decode (cd m_Tp_packed) 3 = .ok (.istore 5, 2) := by decide +kernel
theorem d_Tp_packed_5 : decode (cd m_Tp_packed) 5 = .ok (.iload 5, 2) := by decide +kernel
theorem d_Tp_packed_7 : decode (cd m_Tp_packed) 7 = .ok (.iload_n 2, 1) := by decide +kernel
theorem d_Tp_packed_8 : decode (cd m_Tp_packed) 8 = .ok (.if_icmp .ge 22, 3) := by decide +kernel
theorem d_Tp_packed_11 : decode (cd m_Tp_packed) 11 = .ok (.lload_n 3, 1) := by decide +kernel
theorem d_Tp_packed_12 : decode (cd m_Tp_packed) 12 = .ok (.bipush 7, 2) := by decide +kernel
theorem d_Tp_packed_14 : decode (cd m_Tp_packed) 14 = .ok (.lshl, 1) := by decide +kernel
theorem d_Tp_packed_15 : decode (cd m_Tp_packed) 15 = .ok (.aload_n 0, 1) := by decide +kernel
theorem d_Tp_packed_16 : decode (cd m_Tp_packed) 16 = .ok (.iload 5, 2) := by decide +kernel
theorem d_Tp_packed_18 : decode (cd m_Tp_packed) 18 = .ok (.invokevirtual 19, 3) := by decide +kernel
theorem d_Tp_packed_21 : decode (cd m_Tp_packed) 21 = .ok (.i2l, 1) := by decide +kernel
theorem d_Tp_packed_22 : decode (cd m_Tp_packed) 22 = .ok (.lor, 1) := by decide +kernel
theorem d_Tp_packed_23 : decode (cd m_Tp_packed) 23 = .ok (.lstore_n 3, 1) := by decide +kernel
theorem d_Tp_packed_24 : decode (cd m_Tp_packed) 24 = .ok (.iinc 5 1, 3) := by decide +kernel
theorem d_Tp_packed_27 : decode (cd m_Tp_packed) 27 = .ok (.goto (-22), 3) := by decide +kernel
theorem d_Tp_packed_30 : decode (cd m_Tp_packed) 30 = .ok (.lload_n 3, 1) := by decide +kernel
theorem d_Tp_packed_31 : decode (cd m_Tp_packed) 31 = .ok (.lreturn, 1) := by decide +kernel
theorem d_Tp_number_0 : decode (cd m_Tp_number) 0 = .ok (.lconst 0, 1) := by decide +kernel
theorem d_Tp_number_1 : decode (cd m_Tp_number) 1 = .ok (.lstore_n 3, 1) := by decide +kernel
theorem d_Tp_number_2 : decode (cd m_Tp_number) 2 = .ok (.iload_n 1, 1) := by decide +kernel
theorem d_Tp_number_3 : decode (cd m_Tp_number) 3 = .ok (.istore 5, 2) := by decide +kernel
theorem d_Tp_number_5 : decode (cd m_Tp_number) 5 = .ok (.iload 5, 2) := by decide +kernel
theorem d_Tp_number_7 : decode (cd m_Tp_number) 7 = .ok (.iload_n 2, 1) := by decide +kernel
theorem d_Tp_number_8 : decode (cd m_Tp_number) 8 = .ok (.if_icmp .ge 27, 3) := by decide +kernel
theorem d_Tp_number_11 : decode (cd m_Tp_number) 11 = .ok (.lload_n 3, 1) := by decide +kernel
theorem d_Tp_number_12 : decode (cd m_Tp_number) 12 = .ok (.ldc2_w 35, 3) := by decide +kernel
theorem d_Tp_number_15 : decode (cd m_Tp_number) 15 = .ok (.lmul, 1) := by decide +kernel
theorem d_Tp_number_16 : decode (cd m_Tp_number) 16 = .ok (.aload_n 0, 1) := by decide +kernel
theorem d_Tp_number_17 : decode (cd m_Tp_number) 17 = .ok (.iload 5, 2) := by decide +kernel
theorem d_Tp_number_19 : decode (cd m_Tp_number) 19 = .ok (.invokevirtual 19, 3) := by decide +kernel
theorem d_Tp_number_22 : decode (cd m_Tp_number) 22 = .ok (.i2l, 1) := by decide +kernel
theorem d_Tp_number_23 : decode (cd m_Tp_number) 23 = .ok (.ladd, 1) := by decide +kernel
theorem d_Tp_number_24 : decode (cd m_Tp_number) 24 = .ok (.ldc2_w 37, 3) := by decide +kernel
theorem d_Tp_number_27 : decode (cd m_Tp_number) 27 = .ok (.lsub, 1) := by decide +kernel
theorem d_Tp_number_28 : decode (cd m_Tp_number) 28 = .ok (.lstore_n 3, 1) := by decide +kernel
theorem d_Tp_number_29 : decode (cd m_Tp_number) 29 = .ok (.iinc 5 1, 3) := by decide +kernel
theorem d_Tp_number_32 : decode (cd m_Tp_number) 32 = .ok (.goto (-27), 3) := by decide +kernel
theorem d_Tp_number_35 : decode (cd m_Tp_number) 35 = .ok (.lload_n 3, 1) := by decide +kernel
theorem d_Tp_number_36 : decode (cd m_Tp_number) 36 = .ok (.lreturn, 1) := by decide +kernel
end
section
/-! decode rows (by program) -/
theorem d_Tk_init_0 : decode (cd m_Tk_init) 0 = .ok (.aload_n 0, 1) := by decide +kernel
theorem d_Tk_init_1 : decode (cd m_Tk_init) 1 = .ok (.invokespecial 3, 3) := by decide +kernel
theorem d_Tk_init_4 : decode (cd m_Tk_init) 4 = .ok (.aload_n 0, 1) := by decide +kernel
theorem d_Tk_init_5 : decode (cd m_Tk_init) 5 = .ok (.sipush 601, 3) := by decide +kernel
theorem d_Tk_init_8 : decode (cd m_Tk_init) 8 = .ok (.newarray .int, 2) := by decide +kernel
theorem d_Tk_init_10 : decode (cd m_Tk_init) 10 = .ok (.putfield 9, 3) := by decide +kernel
theorem d_Tk_init_13 : decode (cd m_Tk_init) 13 = .ok (.aload_n 0, 1) := by decide +kernel
theorem d_Tk_init_14 : decode (cd m_Tk_init) 14 = .ok (.sipush 601, 3) := by decide +kernel
theorem d_Tk_init_17 : decode (cd m_Tk_init) 17 = .ok (.newarray .int, 2) := by decide +kernel
theorem d_Tk_init_19 : decode (cd m_Tk_init) 19 = .ok (.putfield 15, 3) := by decide +kernel
theorem d_Tk_init_22 : decode (cd m_Tk_init) 22 = .ok (.aload_n 0, 1) := by decide +kernel
theorem d_Tk_init_23 : decode (cd m_Tk_init) 23 = .ok (.sipush 601, 3) := by decide +kernel
theorem d_Tk_init_26 : decode (cd m_Tk_init) 26 = .ok (.newarray .long, 2) := by decide +kernel
theorem d_Tk_init_28 : decode (cd m_Tk_init) 28 = .ok (.putfield 18, 3) := by decide +kernel
theorem d_Tk_init_31 : decode (cd m_Tk_init) 31 = .ok (.return_, 1) := by decide +kernel
theorem d_Tk_cut_0 : decode (cd m_Tk_cut) 0 = .ok (.aload_n 0, 1) := by decide +kernel
theorem d_Tk_cut_1 : decode (cd m_Tk_cut) 1 = .ok (.iconst 0, 1) := by decide +kernel
theorem d_Tk_cut_2 : decode (cd m_Tk_cut) 2 = .ok (.putfield 22, 3) := by decide +kernel
theorem d_Tk_cut_5 : decode (cd m_Tk_cut) 5 = .ok (.iconst 0, 1) := by decide +kernel
theorem d_Tk_cut_6 : decode (cd m_Tk_cut) 6 = .ok (.istore_n 2, 1) := by decide +kernel
theorem d_Tk_cut_7 : decode (cd m_Tk_cut) 7 = .ok (.iconst 0, 1) := by decide +kernel
theorem d_Tk_cut_8 : decode (cd m_Tk_cut) 8 = .ok (.istore_n 3, 1) := by decide +kernel
theorem d_Tk_cut_9 : decode (cd m_Tk_cut) 9 = .ok (.iload_n 3, 1) := by decide +kernel
theorem d_Tk_cut_10 : decode (cd m_Tk_cut) 10 = .ok (.aload_n 1, 1) := by decide +kernel
theorem d_Tk_cut_11 : decode (cd m_Tk_cut) 11 = .ok (.getfield 26, 3) := by decide +kernel
theorem d_Tk_cut_14 : decode (cd m_Tk_cut) 14 = .ok (.if_icmp .ge 97, 3) := by decide +kernel
theorem d_Tk_cut_17 : decode (cd m_Tk_cut) 17 = .ok (.iload_n 3, 1) := by decide +kernel
theorem d_Tk_cut_18 : decode (cd m_Tk_cut) 18 = .ok (.iload_n 2, 1) := by decide +kernel
theorem d_Tk_cut_19 : decode (cd m_Tk_cut) 19 = .ok (.if_icmp .lt 86, 3) := by decide +kernel
theorem d_Tk_cut_22 : decode (cd m_Tk_cut) 22 = .ok (.aload_n 1, 1) := by decide +kernel
theorem d_Tk_cut_23 : decode (cd m_Tk_cut) 23 = .ok (.iload_n 3, 1) := by decide +kernel
theorem d_Tk_cut_24 : decode (cd m_Tk_cut) 24 = .ok (.invokevirtual 31, 3) := by decide +kernel
theorem d_Tk_cut_27 : decode (cd m_Tk_cut) 27 = .ok (.bipush 32, 2) := by decide +kernel
theorem d_Tk_cut_29 : decode (cd m_Tk_cut) 29 = .ok (.if_icmp .eq 76, 3) := by decide +kernel
theorem d_Tk_cut_32 : decode (cd m_Tk_cut) 32 = .ok (.aload_n 1, 1) := by decide +kernel
theorem d_Tk_cut_33 : decode (cd m_Tk_cut) 33 = .ok (.iload_n 3, 1) := by decide +kernel
theorem d_Tk_cut_34 : decode (cd m_Tk_cut) 34 = .ok (.invokevirtual 35, 3) := by decide +kernel
theorem d_Tk_cut_37 : decode (cd m_Tk_cut) 37 = .ok (.tableswitch 61 1 4 #[31, 41, 61, 51], 31) := by decide +kernel
theorem d_Tk_cut_68 : decode (cd m_Tk_cut) 68 = .ok (.aload_n 0, 1) := by decide +kernel
theorem d_Tk_cut_69 : decode (cd m_Tk_cut) 69 = .ok (.aload_n 1, 1) := by decide +kernel
theorem d_Tk_cut_70 : decode (cd m_Tk_cut) 70 = .ok (.iload_n 3, 1) := by decide +kernel
theorem d_Tk_cut_71 : decode (cd m_Tk_cut) 71 = .ok (.invokevirtual 38, 3) := by decide +kernel
theorem d_Tk_cut_74 : decode (cd m_Tk_cut) 74 = .ok (.istore_n 2, 1) := by decide +kernel
theorem d_Tk_cut_75 : decode (cd m_Tk_cut) 75 = .ok (.goto 30, 3) := by decide +kernel
theorem d_Tk_cut_78 : decode (cd m_Tk_cut) 78 = .ok (.aload_n 0, 1) := by decide +kernel
theorem d_Tk_cut_79 : decode (cd m_Tk_cut) 79 = .ok (.aload_n 1, 1) := by decide +kernel
theorem d_Tk_cut_80 : decode (cd m_Tk_cut) 80 = .ok (.iload_n 3, 1) := by decide +kernel
theorem d_Tk_cut_81 : decode (cd m_Tk_cut) 81 = .ok (.invokevirtual 42, 3) := by decide +kernel
theorem d_Tk_cut_84 : decode (cd m_Tk_cut) 84 = .ok (.istore_n 2, 1) := by decide +kernel
theorem d_Tk_cut_85 : decode (cd m_Tk_cut) 85 = .ok (.goto 20, 3) := by decide +kernel
theorem d_Tk_cut_88 : decode (cd m_Tk_cut) 88 = .ok (.aload_n 0, 1) := by decide +kernel
theorem d_Tk_cut_89 : decode (cd m_Tk_cut) 89 = .ok (.aload_n 1, 1) := by decide +kernel
theorem d_Tk_cut_90 : decode (cd m_Tk_cut) 90 = .ok (.iload_n 3, 1) := by decide +kernel
theorem d_Tk_cut_91 : decode (cd m_Tk_cut) 91 = .ok (.invokevirtual 45, 3) := by decide +kernel
theorem d_Tk_cut_94 : decode (cd m_Tk_cut) 94 = .ok (.istore_n 2, 1) := by decide +kernel
theorem d_Tk_cut_95 : decode (cd m_Tk_cut) 95 = .ok (.goto 10, 3) := by decide +kernel
theorem d_Tk_cut_98 : decode (cd m_Tk_cut) 98 = .ok (.aload_n 0, 1) := by decide +kernel
theorem d_Tk_cut_99 : decode (cd m_Tk_cut) 99 = .ok (.aload_n 1, 1) := by decide +kernel
theorem d_Tk_cut_100 : decode (cd m_Tk_cut) 100 = .ok (.iload_n 3, 1) := by decide +kernel
theorem d_Tk_cut_101 : decode (cd m_Tk_cut) 101 = .ok (.invokevirtual 48, 3) := by decide +kernel
theorem d_Tk_cut_104 : decode (cd m_Tk_cut) 104 = .ok (.istore_n 2, 1) := by decide +kernel
theorem d_Tk_cut_105 : decode (cd m_Tk_cut) 105 = .ok (.iinc 3 1, 3) := by decide +kernel
theorem d_Tk_cut_108 : decode (cd m_Tk_cut) 108 = .ok (.goto (-99), 3) := by decide +kernel
theorem d_Tk_cut_111 : decode (cd m_Tk_cut) 111 = .ok (.aload_n 0, 1) := by decide +kernel
theorem d_Tk_cut_112 : decode (cd m_Tk_cut) 112 = .ok (.iconst 0, 1) := by decide +kernel
theorem d_Tk_cut_113 : decode (cd m_Tk_cut) 113 = .ok (.aload_n 1, 1) := by decide +kernel
theorem d_Tk_cut_114 : decode (cd m_Tk_cut) 114 = .ok (.getfield 26, 3) := by decide +kernel
theorem d_Tk_cut_117 : decode (cd m_Tk_cut) 117 = .ok (.lconst 0, 1) := by decide +kernel
theorem d_Tk_cut_118 : decode (cd m_Tk_cut) 118 = .ok (.invokevirtual 51, 3) := by decide +kernel
theorem d_Tk_cut_121 : decode (cd m_Tk_cut) 121 = .ok (.return_, 1) := by decide +kernel
theorem d_Tk_add_0 : decode (cd m_Tk_add) 0 = .ok (.aload_n 0, 1) := by decide +kernel
theorem d_Tk_add_1 : decode (cd m_Tk_add) 1 = .ok (.getfield 22, 3) := by decide +kernel
theorem d_Tk_add_4 : decode (cd m_Tk_add) 4 = .ok (.aload_n 0, 1) := by decide +kernel
theorem d_Tk_add_5 : decode (cd m_Tk_add) 5 = .ok (.getfield 9, 3) := by decide +kernel
theorem d_Tk_add_8 : decode (cd m_Tk_add) 8 = .ok (.arraylength, 1) := by decide +kernel
theorem d_Tk_add_9 : decode (cd m_Tk_add) 9 = .ok (.if_icmp .ge 43, 3) := by decide +kernel
theorem d_Tk_add_12 : decode (cd m_Tk_add) 12 = .ok (.aload_n 0, 1) := by decide +kernel
theorem d_Tk_add_13 : decode (cd m_Tk_add) 13 = .ok (.getfield 9, 3) := by decide +kernel
theorem d_Tk_add_16 : decode (cd m_Tk_add) 16 = .ok (.aload_n 0, 1) := by decide +kernel
theorem d_Tk_add_17 : decode (cd m_Tk_add) 17 = .ok (.getfield 22, 3) := by decide +kernel
theorem d_Tk_add_20 : decode (cd m_Tk_add) 20 = .ok (.iload_n 1, 1) := by decide +kernel
theorem d_Tk_add_21 : decode (cd m_Tk_add) 21 = .ok (.iastore, 1) := by decide +kernel
theorem d_Tk_add_22 : decode (cd m_Tk_add) 22 = .ok (.aload_n 0, 1) := by decide +kernel
theorem d_Tk_add_23 : decode (cd m_Tk_add) 23 = .ok (.getfield 15, 3) := by decide +kernel
theorem d_Tk_add_26 : decode (cd m_Tk_add) 26 = .ok (.aload_n 0, 1) := by decide +kernel
theorem d_Tk_add_27 : decode (cd m_Tk_add) 27 = .ok (.getfield 22, 3) := by decide +kernel
theorem d_Tk_add_30 : decode (cd m_Tk_add) 30 = .ok (.iload_n 2, 1) := by decide +kernel
theorem d_Tk_add_31 : decode (cd m_Tk_add) 31 = .ok (.iastore, 1) := by decide +kernel
theorem d_Tk_add_32 : decode (cd m_Tk_add) 32 = .ok (.aload_n 0, 1) := by decide +kernel
theorem d_Tk_add_33 : decode (cd m_Tk_add) 33 = .ok (.getfield 18, 3) := by decide +kernel
theorem d_Tk_add_36 : decode (cd m_Tk_add) 36 = .ok (.aload_n 0, 1) := by decide +kernel
theorem d_Tk_add_37 : decode (cd m_Tk_add) 37 = .ok (.getfield 22, 3) := by decide +kernel
theorem d_Tk_add_40 : decode (cd m_Tk_add) 40 = .ok (.lload_n 3, 1) := by decide +kernel
theorem d_Tk_add_41 : decode (cd m_Tk_add) 41 = .ok (.lastore, 1) := by decide +kernel
theorem d_Tk_add_42 : decode (cd m_Tk_add) 42 = .ok (.aload_n 0, 1) := by decide +kernel
theorem d_Tk_add_43 : decode (cd m_Tk_add) 43 = .ok (.dup, 1) := by decide +kernel
theorem d_Tk_add_44 : decode (cd m_Tk_add) 44 = .ok (.getfield 22, 3) := by decide +kernel
theorem d_Tk_add_47 : decode (cd m_Tk_add) 47 = .ok (.iconst 1, 1) := by decide +kernel
theorem d_Tk_add_48 : decode (cd m_Tk_add) 48 = .ok (.iadd, 1) := by decide +kernel
theorem d_Tk_add_49 : decode (cd m_Tk_add) 49 = .ok (.putfield 22, 3) := by decide +kernel
theorem d_Tk_add_52 : decode (cd m_Tk_add) 52 = .ok (.return_, 1) := by decide +kernel
theorem d_Tk_cutName_0 : decode (cd m_Tk_cutName) 0 = .ok (.aload_n 1, 1) := by decide +kernel
theorem d_Tk_cutName_1 : decode (cd m_Tk_cutName) 1 = .ok (.iload_n 2, 1) := by decide +kernel
theorem d_Tk_cutName_2 : decode (cd m_Tk_cutName) 2 = .ok (.iconst 5, 1) := by decide +kernel
theorem d_Tk_cutName_3 : decode (cd m_Tk_cutName) 3 = .ok (.invokevirtual 55, 3) := by decide +kernel
theorem d_Tk_cutName_6 : decode (cd m_Tk_cutName) 6 = .ok (.istore_n 3, 1) := by decide +kernel
theorem d_Tk_cutName_7 : decode (cd m_Tk_cutName) 7 = .ok (.aload_n 1, 1) := by decide +kernel
theorem d_Tk_cutName_8 : decode (cd m_Tk_cutName) 8 = .ok (.iload_n 2, 1) := by decide +kernel
theorem d_Tk_cutName_9 : decode (cd m_Tk_cutName) 9 = .ok (.iload_n 3, 1) := by decide +kernel
theorem d_Tk_cutName_10 : decode (cd m_Tk_cutName) 10 = .ok (.invokestatic 59, 3) := by decide +kernel
theorem d_Tk_cutName_13 : decode (cd m_Tk_cutName) 13 = .ok (.istore 4, 2) := by decide +kernel
theorem d_Tk_cutName_15 : decode (cd m_Tk_cutName) 15 = .ok (.iload_n 3, 1) := by decide +kernel
theorem d_Tk_cutName_16 : decode (cd m_Tk_cutName) 16 = .ok (.iload_n 2, 1) := by decide +kernel
theorem d_Tk_cutName_17 : decode (cd m_Tk_cutName) 17 = .ok (.isub, 1) := by decide +kernel
theorem d_Tk_cutName_18 : decode (cd m_Tk_cutName) 18 = .ok (.bipush 6, 2) := by decide +kernel
theorem d_Tk_cutName_20 : decode (cd m_Tk_cutName) 20 = .ok (.if_icmp .le 13, 3) := by decide +kernel
theorem d_Tk_cutName_23 : decode (cd m_Tk_cutName) 23 = .ok (.aload_n 0, 1) := by decide +kernel
theorem d_Tk_cutName_24 : decode (cd m_Tk_cutName) 24 = .ok (.iconst 1, 1) := by decide +kernel
theorem d_Tk_cutName_25 : decode (cd m_Tk_cutName) 25 = .ok (.iload_n 2, 1) := by decide +kernel
theorem d_Tk_cutName_26 : decode (cd m_Tk_cutName) 26 = .ok (.lconst 0, 1) := by decide +kernel
theorem d_Tk_cutName_27 : decode (cd m_Tk_cutName) 27 = .ok (.invokevirtual 51, 3) := by decide +kernel
theorem d_Tk_cutName_30 : decode (cd m_Tk_cutName) 30 = .ok (.goto 55, 3) := by decide +kernel
theorem d_Tk_cutName_33 : decode (cd m_Tk_cutName) 33 = .ok (.iload 4, 2) := by decide +kernel
theorem d_Tk_cutName_35 : decode (cd m_Tk_cutName) 35 = .ok (.ifCond .le 16, 3) := by decide +kernel
theorem d_Tk_cutName_38 : decode (cd m_Tk_cutName) 38 = .ok (.aload_n 0, 1) := by decide +kernel
theorem d_Tk_cutName_39 : decode (cd m_Tk_cutName) 39 = .ok (.bipush 17, 2) := by decide +kernel
theorem d_Tk_cutName_41 : decode (cd m_Tk_cutName) 41 = .ok (.iload_n 2, 1) := by decide +kernel
theorem d_Tk_cutName_42 : decode (cd m_Tk_cutName) 42 = .ok (.iload 4, 2) := by decide +kernel
theorem d_Tk_cutName_44 : decode (cd m_Tk_cutName) 44 = .ok (.i2l, 1) := by decide +kernel
theorem d_Tk_cutName_45 : decode (cd m_Tk_cutName) 45 = .ok (.invokevirtual 51, 3) := by decide +kernel
theorem d_Tk_cutName_48 : decode (cd m_Tk_cutName) 48 = .ok (.goto 37, 3) := by decide +kernel
theorem d_Tk_cutName_51 : decode (cd m_Tk_cutName) 51 = .ok (.aload_n 1, 1) := by decide +kernel
theorem d_Tk_cutName_52 : decode (cd m_Tk_cutName) 52 = .ok (.iload_n 2, 1) := by decide +kernel
theorem d_Tk_cutName_53 : decode (cd m_Tk_cutName) 53 = .ok (.iload_n 3, 1) := by decide +kernel
theorem d_Tk_cutName_54 : decode (cd m_Tk_cutName) 54 = .ok (.ldc 63, 2) := by decide +kernel
theorem d_Tk_cutName_56 : decode (cd m_Tk_cutName) 56 = .ok (.invokevirtual 65, 3) := by decide +kernel
theorem d_Tk_cutName_59 : decode (cd m_Tk_cutName) 59 = .ok (.ifCond .eq 14, 3) := by decide +kernel
theorem d_Tk_cutName_62 : decode (cd m_Tk_cutName) 62 = .ok (.aload_n 0, 1) := by decide +kernel
theorem d_Tk_cutName_63 : decode (cd m_Tk_cutName) 63 = .ok (.bipush 16, 2) := by decide +kernel
theorem d_Tk_cutName_65 : decode (cd m_Tk_cutName) 65 = .ok (.iload_n 2, 1) := by decide +kernel
theorem d_Tk_cutName_66 : decode (cd m_Tk_cutName) 66 = .ok (.lconst 0, 1) := by decide +kernel
theorem d_Tk_cutName_67 : decode (cd m_Tk_cutName) 67 = .ok (.invokevirtual 51, 3) := by decide +kernel
theorem d_Tk_cutName_70 : decode (cd m_Tk_cutName) 70 = .ok (.goto 15, 3) := by decide +kernel
theorem d_Tk_cutName_73 : decode (cd m_Tk_cutName) 73 = .ok (.aload_n 0, 1) := by decide +kernel
theorem d_Tk_cutName_74 : decode (cd m_Tk_cutName) 74 = .ok (.iconst 2, 1) := by decide +kernel
theorem d_Tk_cutName_75 : decode (cd m_Tk_cutName) 75 = .ok (.iload_n 2, 1) := by decide +kernel
theorem d_Tk_cutName_76 : decode (cd m_Tk_cutName) 76 = .ok (.aload_n 1, 1) := by decide +kernel
theorem d_Tk_cutName_77 : decode (cd m_Tk_cutName) 77 = .ok (.iload_n 2, 1) := by decide +kernel
theorem d_Tk_cutName_78 : decode (cd m_Tk_cutName) 78 = .ok (.iload_n 3, 1) := by decide +kernel
theorem d_Tk_cutName_79 : decode (cd m_Tk_cutName) 79 = .ok (.invokevirtual 69, 3) := by decide +kernel
theorem d_Tk_cutName_82 : decode (cd m_Tk_cutName) 82 = .ok (.invokevirtual 51, 3) := by decide +kernel
theorem d_Tk_cutName_85 : decode (cd m_Tk_cutName) 85 = .ok (.iload_n 3, 1) := by decide +kernel
theorem d_Tk_cutName_86 : decode (cd m_Tk_cutName) 86 = .ok (.ireturn, 1) := by decide +kernel
theorem d_Tk_totalAt_0 : decode (cd m_Tk_totalAt) 0 = .ok (.aload_n 0, 1) := by decide +kernel
theorem d_Tk_totalAt_1 : decode (cd m_Tk_totalAt) 1 = .ok (.iload_n 1, 1) := by decide +kernel
theorem d_Tk_totalAt_2 : decode (cd m_Tk_totalAt) 2 = .ok (.iload_n 2, 1) := by decide +kernel
theorem d_Tk_totalAt_3 : decode (cd m_Tk_totalAt) 3 = .ok (.ldc 73, 2) := by decide +kernel
theorem d_Tk_totalAt_5 : decode (cd m_Tk_totalAt) 5 = .ok (.invokevirtual 65, 3) := by decide +kernel
theorem d_Tk_totalAt_8 : decode (cd m_Tk_totalAt) 8 = .ok (.ifCond .eq 5, 3) := by decide +kernel
theorem d_Tk_totalAt_11 : decode (cd m_Tk_totalAt) 11 = .ok (.iconst 1, 1) := by decide +kernel
theorem d_Tk_totalAt_12 : decode (cd m_Tk_totalAt) 12 = .ok (.ireturn, 1) := by decide +kernel
theorem d_Tk_totalAt_13 : decode (cd m_Tk_totalAt) 13 = .ok (.aload_n 0, 1) := by decide +kernel
theorem d_Tk_totalAt_14 : decode (cd m_Tk_totalAt) 14 = .ok (.iload_n 1, 1) := by decide +kernel
theorem d_Tk_totalAt_15 : decode (cd m_Tk_totalAt) 15 = .ok (.iload_n 2, 1) := by decide +kernel
theorem d_Tk_totalAt_16 : decode (cd m_Tk_totalAt) 16 = .ok (.ldc 74, 2) := by decide +kernel
theorem d_Tk_totalAt_18 : decode (cd m_Tk_totalAt) 18 = .ok (.invokevirtual 65, 3) := by decide +kernel
theorem d_Tk_totalAt_21 : decode (cd m_Tk_totalAt) 21 = .ok (.ifCond .eq 5, 3) := by decide +kernel
theorem d_Tk_totalAt_24 : decode (cd m_Tk_totalAt) 24 = .ok (.iconst 2, 1) := by decide +kernel
theorem d_Tk_totalAt_25 : decode (cd m_Tk_totalAt) 25 = .ok (.ireturn, 1) := by decide +kernel
theorem d_Tk_totalAt_26 : decode (cd m_Tk_totalAt) 26 = .ok (.aload_n 0, 1) := by decide +kernel
theorem d_Tk_totalAt_27 : decode (cd m_Tk_totalAt) 27 = .ok (.iload_n 1, 1) := by decide +kernel
theorem d_Tk_totalAt_28 : decode (cd m_Tk_totalAt) 28 = .ok (.iload_n 2, 1) := by decide +kernel
theorem d_Tk_totalAt_29 : decode (cd m_Tk_totalAt) 29 = .ok (.ldc 76, 2) := by decide +kernel
theorem d_Tk_totalAt_31 : decode (cd m_Tk_totalAt) 31 = .ok (.invokevirtual 65, 3) := by decide +kernel
theorem d_Tk_totalAt_34 : decode (cd m_Tk_totalAt) 34 = .ok (.ifCond .eq 5, 3) := by decide +kernel
theorem d_Tk_totalAt_37 : decode (cd m_Tk_totalAt) 37 = .ok (.iconst 3, 1) := by decide +kernel
theorem d_Tk_totalAt_38 : decode (cd m_Tk_totalAt) 38 = .ok (.ireturn, 1) := by decide +kernel
theorem d_Tk_totalAt_39 : decode (cd m_Tk_totalAt) 39 = .ok (.aload_n 0, 1) := by decide +kernel
theorem d_Tk_totalAt_40 : decode (cd m_Tk_totalAt) 40 = .ok (.iload_n 1, 1) := by decide +kernel
theorem d_Tk_totalAt_41 : decode (cd m_Tk_totalAt) 41 = .ok (.iload_n 2, 1) := by decide +kernel
theorem d_Tk_totalAt_42 : decode (cd m_Tk_totalAt) 42 = .ok (.ldc 78, 2) := by decide +kernel
theorem d_Tk_totalAt_44 : decode (cd m_Tk_totalAt) 44 = .ok (.invokevirtual 65, 3) := by decide +kernel
theorem d_Tk_totalAt_47 : decode (cd m_Tk_totalAt) 47 = .ok (.ifCond .eq 7, 3) := by decide +kernel
theorem d_Tk_totalAt_50 : decode (cd m_Tk_totalAt) 50 = .ok (.iconst 4, 1) := by decide +kernel
theorem d_Tk_totalAt_51 : decode (cd m_Tk_totalAt) 51 = .ok (.goto 4, 3) := by decide +kernel
theorem d_Tk_totalAt_54 : decode (cd m_Tk_totalAt) 54 = .ok (.iconst 0, 1) := by decide +kernel
theorem d_Tk_totalAt_55 : decode (cd m_Tk_totalAt) 55 = .ok (.ireturn, 1) := by decide +kernel
theorem d_Tk_cutVariable_0 : decode (cd m_Tk_cutVariable) 0 = .ok (.aload_n 1, 1) := by decide +kernel
theorem d_Tk_cutVariable_1 : decode (cd m_Tk_cutVariable) 1 = .ok (.iload_n 2, 1) := by decide +kernel
theorem d_Tk_cutVariable_2 : decode (cd m_Tk_cutVariable) 2 = .ok (.bipush 7, 2) := by decide +kernel
theorem d_Tk_cutVariable_4 : decode (cd m_Tk_cutVariable) 4 = .ok (.invokevirtual 55, 3) := by decide +kernel
theorem d_Tk_cutVariable_7 : decode (cd m_Tk_cutVariable) 7 = .ok (.istore_n 3, 1) := by decide +kernel
theorem d_Tk_cutVariable_8 : decode (cd m_Tk_cutVariable) 8 = .ok (.iload_n 3, 1) := by decide +kernel
theorem d_Tk_cutVariable_9 : decode (cd m_Tk_cutVariable) 9 = .ok (.iload_n 2, 1) := by decide +kernel
theorem d_Tk_cutVariable_10 : decode (cd m_Tk_cutVariable) 10 = .ok (.isub, 1) := by decide +kernel
theorem d_Tk_cutVariable_11 : decode (cd m_Tk_cutVariable) 11 = .ok (.iconst 4, 1) := by decide +kernel
theorem d_Tk_cutVariable_12 : decode (cd m_Tk_cutVariable) 12 = .ok (.if_icmp .le 13, 3) := by decide +kernel
theorem d_Tk_cutVariable_15 : decode (cd m_Tk_cutVariable) 15 = .ok (.aload_n 0, 1) := by decide +kernel
theorem d_Tk_cutVariable_16 : decode (cd m_Tk_cutVariable) 16 = .ok (.iconst 1, 1) := by decide +kernel
theorem d_Tk_cutVariable_17 : decode (cd m_Tk_cutVariable) 17 = .ok (.iload_n 2, 1) := by decide +kernel
theorem d_Tk_cutVariable_18 : decode (cd m_Tk_cutVariable) 18 = .ok (.lconst 0, 1) := by decide +kernel
theorem d_Tk_cutVariable_19 : decode (cd m_Tk_cutVariable) 19 = .ok (.invokevirtual 51, 3) := by decide +kernel
theorem d_Tk_cutVariable_22 : decode (cd m_Tk_cutVariable) 22 = .ok (.goto 15, 3) := by decide +kernel
theorem d_Tk_cutVariable_25 : decode (cd m_Tk_cutVariable) 25 = .ok (.aload_n 0, 1) := by decide +kernel
theorem d_Tk_cutVariable_26 : decode (cd m_Tk_cutVariable) 26 = .ok (.iconst 3, 1) := by decide +kernel
theorem d_Tk_cutVariable_27 : decode (cd m_Tk_cutVariable) 27 = .ok (.iload_n 2, 1) := by decide +kernel
theorem d_Tk_cutVariable_28 : decode (cd m_Tk_cutVariable) 28 = .ok (.aload_n 1, 1) := by decide +kernel
theorem d_Tk_cutVariable_29 : decode (cd m_Tk_cutVariable) 29 = .ok (.iload_n 2, 1) := by decide +kernel
theorem d_Tk_cutVariable_30 : decode (cd m_Tk_cutVariable) 30 = .ok (.iload_n 3, 1) := by decide +kernel
theorem d_Tk_cutVariable_31 : decode (cd m_Tk_cutVariable) 31 = .ok (.invokevirtual 69, 3) := by decide +kernel
theorem d_Tk_cutVariable_34 : decode (cd m_Tk_cutVariable) 34 = .ok (.invokevirtual 51, 3) := by decide +kernel
theorem d_Tk_cutVariable_37 : decode (cd m_Tk_cutVariable) 37 = .ok (.iload_n 3, 1) := by decide +kernel
theorem d_Tk_cutVariable_38 : decode (cd m_Tk_cutVariable) 38 = .ok (.ireturn, 1) := by decide +kernel
theorem d_Tk_cutNumber_0 : decode (cd m_Tk_cutNumber) 0 = .ok (.aload_n 1, 1) := by decide +kernel
theorem d_Tk_cutNumber_1 : decode (cd m_Tk_cutNumber) 1 = .ok (.iload_n 2, 1) := by decide +kernel
theorem d_Tk_cutNumber_2 : decode (cd m_Tk_cutNumber) 2 = .ok (.iconst 4, 1) := by decide +kernel
theorem d_Tk_cutNumber_3 : decode (cd m_Tk_cutNumber) 3 = .ok (.invokevirtual 55, 3) := by decide +kernel
theorem d_Tk_cutNumber_6 : decode (cd m_Tk_cutNumber) 6 = .ok (.istore_n 3, 1) := by decide +kernel
theorem d_Tk_cutNumber_7 : decode (cd m_Tk_cutNumber) 7 = .ok (.iload_n 3, 1) := by decide +kernel
theorem d_Tk_cutNumber_8 : decode (cd m_Tk_cutNumber) 8 = .ok (.iload_n 2, 1) := by decide +kernel
theorem d_Tk_cutNumber_9 : decode (cd m_Tk_cutNumber) 9 = .ok (.isub, 1) := by decide +kernel
theorem d_Tk_cutNumber_10 : decode (cd m_Tk_cutNumber) 10 = .ok (.bipush 9, 2) := by decide +kernel
theorem d_Tk_cutNumber_12 : decode (cd m_Tk_cutNumber) 12 = .ok (.if_icmp .le 13, 3) := by decide +kernel
theorem d_Tk_cutNumber_15 : decode (cd m_Tk_cutNumber) 15 = .ok (.aload_n 0, 1) := by decide +kernel
theorem d_Tk_cutNumber_16 : decode (cd m_Tk_cutNumber) 16 = .ok (.iconst 1, 1) := by decide +kernel
theorem d_Tk_cutNumber_17 : decode (cd m_Tk_cutNumber) 17 = .ok (.iload_n 2, 1) := by decide +kernel
theorem d_Tk_cutNumber_18 : decode (cd m_Tk_cutNumber) 18 = .ok (.lconst 0, 1) := by decide +kernel
theorem d_Tk_cutNumber_19 : decode (cd m_Tk_cutNumber) 19 = .ok (.invokevirtual 51, 3) := by decide +kernel
theorem d_Tk_cutNumber_22 : decode (cd m_Tk_cutNumber) 22 = .ok (.goto 15, 3) := by decide +kernel
theorem d_Tk_cutNumber_25 : decode (cd m_Tk_cutNumber) 25 = .ok (.aload_n 0, 1) := by decide +kernel
theorem d_Tk_cutNumber_26 : decode (cd m_Tk_cutNumber) 26 = .ok (.iconst 4, 1) := by decide +kernel
theorem d_Tk_cutNumber_27 : decode (cd m_Tk_cutNumber) 27 = .ok (.iload_n 2, 1) := by decide +kernel
theorem d_Tk_cutNumber_28 : decode (cd m_Tk_cutNumber) 28 = .ok (.aload_n 1, 1) := by decide +kernel
theorem d_Tk_cutNumber_29 : decode (cd m_Tk_cutNumber) 29 = .ok (.iload_n 2, 1) := by decide +kernel
theorem d_Tk_cutNumber_30 : decode (cd m_Tk_cutNumber) 30 = .ok (.iload_n 3, 1) := by decide +kernel
theorem d_Tk_cutNumber_31 : decode (cd m_Tk_cutNumber) 31 = .ok (.invokevirtual 80, 3) := by decide +kernel
theorem d_Tk_cutNumber_34 : decode (cd m_Tk_cutNumber) 34 = .ok (.invokevirtual 51, 3) := by decide +kernel
theorem d_Tk_cutNumber_37 : decode (cd m_Tk_cutNumber) 37 = .ok (.iload_n 3, 1) := by decide +kernel
theorem d_Tk_cutNumber_38 : decode (cd m_Tk_cutNumber) 38 = .ok (.ireturn, 1) := by decide +kernel
theorem d_Tk_cutSign_0 : decode (cd m_Tk_cutSign) 0 = .ok (.aload_n 1, 1) := by decide +kernel
theorem d_Tk_cutSign_1 : decode (cd m_Tk_cutSign) 1 = .ok (.iload_n 2, 1) := by decide +kernel
theorem d_Tk_cutSign_2 : decode (cd m_Tk_cutSign) 2 = .ok (.invokevirtual 31, 3) := by decide +kernel
theorem d_Tk_cutSign_5 : decode (cd m_Tk_cutSign) 5 = .ok (.aload_n 1, 1) := by decide +kernel
theorem d_Tk_cutSign_6 : decode (cd m_Tk_cutSign) 6 = .ok (.iload_n 2, 1) := by decide +kernel
theorem d_Tk_cutSign_7 : decode (cd m_Tk_cutSign) 7 = .ok (.iconst 1, 1) := by decide +kernel
theorem d_Tk_cutSign_8 : decode (cd m_Tk_cutSign) 8 = .ok (.iadd, 1) := by decide +kernel
theorem d_Tk_cutSign_9 : decode (cd m_Tk_cutSign) 9 = .ok (.invokevirtual 31, 3) := by decide +kernel
theorem d_Tk_cutSign_12 : decode (cd m_Tk_cutSign) 12 = .ok (.invokestatic 83, 3) := by decide +kernel
theorem d_Tk_cutSign_15 : decode (cd m_Tk_cutSign) 15 = .ok (.istore_n 3, 1) := by decide +kernel
theorem d_Tk_cutSign_16 : decode (cd m_Tk_cutSign) 16 = .ok (.iload_n 3, 1) := by decide +kernel
theorem d_Tk_cutSign_17 : decode (cd m_Tk_cutSign) 17 = .ok (.iconst 1, 1) := by decide +kernel
theorem d_Tk_cutSign_18 : decode (cd m_Tk_cutSign) 18 = .ok (.if_icmp .eq 14, 3) := by decide +kernel
theorem d_Tk_cutSign_21 : decode (cd m_Tk_cutSign) 21 = .ok (.aload_n 0, 1) := by decide +kernel
theorem d_Tk_cutSign_22 : decode (cd m_Tk_cutSign) 22 = .ok (.iload_n 3, 1) := by decide +kernel
theorem d_Tk_cutSign_23 : decode (cd m_Tk_cutSign) 23 = .ok (.iload_n 2, 1) := by decide +kernel
theorem d_Tk_cutSign_24 : decode (cd m_Tk_cutSign) 24 = .ok (.lconst 0, 1) := by decide +kernel
theorem d_Tk_cutSign_25 : decode (cd m_Tk_cutSign) 25 = .ok (.invokevirtual 51, 3) := by decide +kernel
theorem d_Tk_cutSign_28 : decode (cd m_Tk_cutSign) 28 = .ok (.iload_n 2, 1) := by decide +kernel
theorem d_Tk_cutSign_29 : decode (cd m_Tk_cutSign) 29 = .ok (.iconst 2, 1) := by decide +kernel
theorem d_Tk_cutSign_30 : decode (cd m_Tk_cutSign) 30 = .ok (.iadd, 1) := by decide +kernel
theorem d_Tk_cutSign_31 : decode (cd m_Tk_cutSign) 31 = .ok (.ireturn, 1) := by decide +kernel
theorem d_Tk_cutSign_32 : decode (cd m_Tk_cutSign) 32 = .ok (.aload_n 0, 1) := by decide +kernel
theorem d_Tk_cutSign_33 : decode (cd m_Tk_cutSign) 33 = .ok (.aload_n 1, 1) := by decide +kernel
theorem d_Tk_cutSign_34 : decode (cd m_Tk_cutSign) 34 = .ok (.iload_n 2, 1) := by decide +kernel
theorem d_Tk_cutSign_35 : decode (cd m_Tk_cutSign) 35 = .ok (.invokevirtual 31, 3) := by decide +kernel
theorem d_Tk_cutSign_38 : decode (cd m_Tk_cutSign) 38 = .ok (.invokestatic 86, 3) := by decide +kernel
theorem d_Tk_cutSign_41 : decode (cd m_Tk_cutSign) 41 = .ok (.iload_n 2, 1) := by decide +kernel
theorem d_Tk_cutSign_42 : decode (cd m_Tk_cutSign) 42 = .ok (.lconst 0, 1) := by decide +kernel
theorem d_Tk_cutSign_43 : decode (cd m_Tk_cutSign) 43 = .ok (.invokevirtual 51, 3) := by decide +kernel
theorem d_Tk_cutSign_46 : decode (cd m_Tk_cutSign) 46 = .ok (.iload_n 2, 1) := by decide +kernel
theorem d_Tk_cutSign_47 : decode (cd m_Tk_cutSign) 47 = .ok (.iconst 1, 1) := by decide +kernel
theorem d_Tk_cutSign_48 : decode (cd m_Tk_cutSign) 48 = .ok (.iadd, 1) := by decide +kernel
theorem d_Tk_cutSign_49 : decode (cd m_Tk_cutSign) 49 = .ok (.ireturn, 1) := by decide +kernel
theorem d_Tk_pairKind_0 : decode (cd m_Tk_pairKind) 0 = .ok (.iload_n 0, 1) := by decide +kernel
theorem d_Tk_pairKind_1 : decode (cd m_Tk_pairKind) 1 = .ok (.bipush 58, 2) := by decide +kernel
theorem d_Tk_pairKind_3 : decode (cd m_Tk_pairKind) 3 = .ok (.if_icmp .ne 12, 3) := by decide +kernel
theorem d_Tk_pairKind_6 : decode (cd m_Tk_pairKind) 6 = .ok (.iload_n 1, 1) := by decide +kernel
theorem d_Tk_pairKind_7 : decode (cd m_Tk_pairKind) 7 = .ok (.bipush 45, 2) := by decide +kernel
theorem d_Tk_pairKind_9 : decode (cd m_Tk_pairKind) 9 = .ok (.if_icmp .ne 6, 3) := by decide +kernel
theorem d_Tk_pairKind_12 : decode (cd m_Tk_pairKind) 12 = .ok (.bipush 11, 2) := by decide +kernel
theorem d_Tk_pairKind_14 : decode (cd m_Tk_pairKind) 14 = .ok (.ireturn, 1) := by decide +kernel
theorem d_Tk_pairKind_15 : decode (cd m_Tk_pairKind) 15 = .ok (.iload_n 0, 1) := by decide +kernel
theorem d_Tk_pairKind_16 : decode (cd m_Tk_pairKind) 16 = .ok (.bipush 33, 2) := by decide +kernel
theorem d_Tk_pairKind_18 : decode (cd m_Tk_pairKind) 18 = .ok (.if_icmp .eq 15, 3) := by decide +kernel
theorem d_Tk_pairKind_21 : decode (cd m_Tk_pairKind) 21 = .ok (.iload_n 0, 1) := by decide +kernel
theorem d_Tk_pairKind_22 : decode (cd m_Tk_pairKind) 22 = .ok (.bipush 60, 2) := by decide +kernel
theorem d_Tk_pairKind_24 : decode (cd m_Tk_pairKind) 24 = .ok (.if_icmp .eq 9, 3) := by decide +kernel
theorem d_Tk_pairKind_27 : decode (cd m_Tk_pairKind) 27 = .ok (.iload_n 0, 1) := by decide +kernel
theorem d_Tk_pairKind_28 : decode (cd m_Tk_pairKind) 28 = .ok (.bipush 62, 2) := by decide +kernel
theorem d_Tk_pairKind_30 : decode (cd m_Tk_pairKind) 30 = .ok (.if_icmp .ne 7, 3) := by decide +kernel
theorem d_Tk_pairKind_33 : decode (cd m_Tk_pairKind) 33 = .ok (.iconst 1, 1) := by decide +kernel
theorem d_Tk_pairKind_34 : decode (cd m_Tk_pairKind) 34 = .ok (.goto 4, 3) := by decide +kernel
theorem d_Tk_pairKind_37 : decode (cd m_Tk_pairKind) 37 = .ok (.iconst 0, 1) := by decide +kernel
theorem d_Tk_pairKind_38 : decode (cd m_Tk_pairKind) 38 = .ok (.istore_n 2, 1) := by decide +kernel
theorem d_Tk_pairKind_39 : decode (cd m_Tk_pairKind) 39 = .ok (.iload_n 2, 1) := by decide +kernel
theorem d_Tk_pairKind_40 : decode (cd m_Tk_pairKind) 40 = .ok (.ifCond .eq 14, 3) := by decide +kernel
theorem d_Tk_pairKind_43 : decode (cd m_Tk_pairKind) 43 = .ok (.iload_n 1, 1) := by decide +kernel
theorem d_Tk_pairKind_44 : decode (cd m_Tk_pairKind) 44 = .ok (.bipush 61, 2) := by decide +kernel
theorem d_Tk_pairKind_46 : decode (cd m_Tk_pairKind) 46 = .ok (.if_icmp .ne 8, 3) := by decide +kernel
theorem d_Tk_pairKind_49 : decode (cd m_Tk_pairKind) 49 = .ok (.bipush 13, 2) := by decide +kernel
theorem d_Tk_pairKind_51 : decode (cd m_Tk_pairKind) 51 = .ok (.goto 4, 3) := by decide +kernel
theorem d_Tk_pairKind_54 : decode (cd m_Tk_pairKind) 54 = .ok (.iconst 1, 1) := by decide +kernel
theorem d_Tk_pairKind_55 : decode (cd m_Tk_pairKind) 55 = .ok (.ireturn, 1) := by decide +kernel
theorem d_Tk_signKind_0 : decode (cd m_Tk_signKind) 0 = .ok (.iload_n 0, 1) := by decide +kernel
theorem d_Tk_signKind_1 : decode (cd m_Tk_signKind) 1 = .ok (.lookupswitch 152 #[(33, 134), (37, 149), (40, 123), (41, 125), (42, 149), (43, 149), (44, 128), (45, 146), (46, 131), (47, 149), (60, 143), (61, 140), (62, 143), (95, 137)], 123) := by decide +kernel
theorem d_Tk_signKind_124 : decode (cd m_Tk_signKind) 124 = .ok (.iconst 5, 1) := by decide +kernel
theorem d_Tk_signKind_125 : decode (cd m_Tk_signKind) 125 = .ok (.ireturn, 1) := by decide +kernel
theorem d_Tk_signKind_126 : decode (cd m_Tk_signKind) 126 = .ok (.bipush 6, 2) := by decide +kernel
theorem d_Tk_signKind_128 : decode (cd m_Tk_signKind) 128 = .ok (.ireturn, 1) := by decide +kernel
theorem d_Tk_signKind_129 : decode (cd m_Tk_signKind) 129 = .ok (.bipush 7, 2) := by decide +kernel
theorem d_Tk_signKind_131 : decode (cd m_Tk_signKind) 131 = .ok (.ireturn, 1) := by decide +kernel
theorem d_Tk_signKind_132 : decode (cd m_Tk_signKind) 132 = .ok (.bipush 8, 2) := by decide +kernel
theorem d_Tk_signKind_134 : decode (cd m_Tk_signKind) 134 = .ok (.ireturn, 1) := by decide +kernel
theorem d_Tk_signKind_135 : decode (cd m_Tk_signKind) 135 = .ok (.bipush 9, 2) := by decide +kernel
theorem d_Tk_signKind_137 : decode (cd m_Tk_signKind) 137 = .ok (.ireturn, 1) := by decide +kernel
theorem d_Tk_signKind_138 : decode (cd m_Tk_signKind) 138 = .ok (.bipush 10, 2) := by decide +kernel
theorem d_Tk_signKind_140 : decode (cd m_Tk_signKind) 140 = .ok (.ireturn, 1) := by decide +kernel
theorem d_Tk_signKind_141 : decode (cd m_Tk_signKind) 141 = .ok (.bipush 12, 2) := by decide +kernel
theorem d_Tk_signKind_143 : decode (cd m_Tk_signKind) 143 = .ok (.ireturn, 1) := by decide +kernel
theorem d_Tk_signKind_144 : decode (cd m_Tk_signKind) 144 = .ok (.bipush 13, 2) := by decide +kernel
theorem d_Tk_signKind_146 : decode (cd m_Tk_signKind) 146 = .ok (.ireturn, 1) := by decide +kernel
theorem d_Tk_signKind_147 : decode (cd m_Tk_signKind) 147 = .ok (.bipush 14, 2) := by decide +kernel
theorem d_Tk_signKind_149 : decode (cd m_Tk_signKind) 149 = .ok (.ireturn, 1) := by decide +kernel
theorem d_Tk_signKind_150 : decode (cd m_Tk_signKind) 150 = .ok (.bipush 15, 2) := by decide +kernel
theorem d_Tk_signKind_152 : decode (cd m_Tk_signKind) 152 = .ok (.ireturn, 1) := by decide +kernel
theorem d_Tk_signKind_153 : decode (cd m_Tk_signKind) 153 = .ok (.iconst 1, 1) := by decide +kernel
theorem d_Tk_signKind_154 : decode (cd m_Tk_signKind) 154 = .ok (.ireturn, 1) := by decide +kernel
end
section
/-! decode rows (by program) -/
theorem d_D_init_0 : decode (cd m_D_init) 0 = .ok (.aload_n 0, 1) := by decide +kernel
theorem d_D_init_1 : decode (cd m_D_init) 1 = .ok (.invokespecial 1, 3) := by decide +kernel
theorem d_D_init_4 : decode (cd m_D_init) 4 = .ok (.aload_n 0, 1) := by decide +kernel
theorem d_D_init_5 : decode (cd m_D_init) 5 = .ok (.new 7, 3) := by decide +kernel
theorem d_D_init_8 : decode (cd m_D_init) 8 = .ok (.dup, 1) := by decide +kernel
theorem d_D_init_9 : decode (cd m_D_init) 9 = .ok (.invokespecial 9, 3) := by decide +kernel
theorem d_D_init_12 : decode (cd m_D_init) 12 = .ok (.putfield 10, 3) := by decide +kernel
theorem d_D_init_15 : decode (cd m_D_init) 15 = .ok (.aload_n 0, 1) := by decide +kernel
theorem d_D_init_16 : decode (cd m_D_init) 16 = .ok (.new 16, 3) := by decide +kernel
theorem d_D_init_19 : decode (cd m_D_init) 19 = .ok (.dup, 1) := by decide +kernel
theorem d_D_init_20 : decode (cd m_D_init) 20 = .ok (.invokespecial 18, 3) := by decide +kernel
theorem d_D_init_23 : decode (cd m_D_init) 23 = .ok (.putfield 19, 3) := by decide +kernel
theorem d_D_init_26 : decode (cd m_D_init) 26 = .ok (.aload_n 0, 1) := by decide +kernel
theorem d_D_init_27 : decode (cd m_D_init) 27 = .ok (.new 23, 3) := by decide +kernel
theorem d_D_init_30 : decode (cd m_D_init) 30 = .ok (.dup, 1) := by decide +kernel
theorem d_D_init_31 : decode (cd m_D_init) 31 = .ok (.invokespecial 25, 3) := by decide +kernel
theorem d_D_init_34 : decode (cd m_D_init) 34 = .ok (.putfield 26, 3) := by decide +kernel
theorem d_D_init_37 : decode (cd m_D_init) 37 = .ok (.aload_n 0, 1) := by decide +kernel
theorem d_D_init_38 : decode (cd m_D_init) 38 = .ok (.new 23, 3) := by decide +kernel
theorem d_D_init_41 : decode (cd m_D_init) 41 = .ok (.dup, 1) := by decide +kernel
theorem d_D_init_42 : decode (cd m_D_init) 42 = .ok (.invokespecial 25, 3) := by decide +kernel
theorem d_D_init_45 : decode (cd m_D_init) 45 = .ok (.putfield 30, 3) := by decide +kernel
theorem d_D_init_48 : decode (cd m_D_init) 48 = .ok (.return_, 1) := by decide +kernel
theorem d_D_type_0 : decode (cd m_D_type) 0 = .ok (.iload_n 3, 1) := by decide +kernel
theorem d_D_type_1 : decode (cd m_D_type) 1 = .ok (.iconst 1, 1) := by decide +kernel
theorem d_D_type_2 : decode (cd m_D_type) 2 = .ok (.if_icmp .lt 24, 3) := by decide +kernel
theorem d_D_type_5 : decode (cd m_D_type) 5 = .ok (.iload_n 3, 1) := by decide +kernel
theorem d_D_type_6 : decode (cd m_D_type) 6 = .ok (.bipush 8, 2) := by decide +kernel
theorem d_D_type_8 : decode (cd m_D_type) 8 = .ok (.if_icmp .gt 18, 3) := by decide +kernel
theorem d_D_type_11 : decode (cd m_D_type) 11 = .ok (.aload_n 0, 1) := by decide +kernel
theorem d_D_type_12 : decode (cd m_D_type) 12 = .ok (.getfield 10, 3) := by decide +kernel
theorem d_D_type_15 : decode (cd m_D_type) 15 = .ok (.getfield 33, 3) := by decide +kernel
theorem d_D_type_18 : decode (cd m_D_type) 18 = .ok (.iload_n 3, 1) := by decide +kernel
theorem d_D_type_19 : decode (cd m_D_type) 19 = .ok (.iadd, 1) := by decide +kernel
theorem d_D_type_20 : decode (cd m_D_type) 20 = .ok (.sipush 600, 3) := by decide +kernel
theorem d_D_type_23 : decode (cd m_D_type) 23 = .ok (.if_icmp .le 5, 3) := by decide +kernel
theorem d_D_type_26 : decode (cd m_D_type) 26 = .ok (.iconst 0, 1) := by decide +kernel
theorem d_D_type_27 : decode (cd m_D_type) 27 = .ok (.ireturn, 1) := by decide +kernel
theorem d_D_type_28 : decode (cd m_D_type) 28 = .ok (.iconst 0, 1) := by decide +kernel
theorem d_D_type_29 : decode (cd m_D_type) 29 = .ok (.istore 4, 2) := by decide +kernel
theorem d_D_type_31 : decode (cd m_D_type) 31 = .ok (.iload 4, 2) := by decide +kernel
theorem d_D_type_33 : decode (cd m_D_type) 33 = .ok (.iload_n 3, 1) := by decide +kernel
theorem d_D_type_34 : decode (cd m_D_type) 34 = .ok (.if_icmp .ge 33, 3) := by decide +kernel
theorem d_D_type_37 : decode (cd m_D_type) 37 = .ok (.lload_n 1, 1) := by decide +kernel
theorem d_D_type_38 : decode (cd m_D_type) 38 = .ok (.iload 4, 2) := by decide +kernel
theorem d_D_type_40 : decode (cd m_D_type) 40 = .ok (.invokestatic 37, 3) := by decide +kernel
theorem d_D_type_43 : decode (cd m_D_type) 43 = .ok (.istore 5, 2) := by decide +kernel
theorem d_D_type_45 : decode (cd m_D_type) 45 = .ok (.iload 5, 2) := by decide +kernel
theorem d_D_type_47 : decode (cd m_D_type) 47 = .ok (.bipush 32, 2) := by decide +kernel
theorem d_D_type_49 : decode (cd m_D_type) 49 = .ok (.if_icmp .lt 10, 3) := by decide +kernel
theorem d_D_type_52 : decode (cd m_D_type) 52 = .ok (.iload 5, 2) := by decide +kernel
theorem d_D_type_54 : decode (cd m_D_type) 54 = .ok (.bipush 126, 2) := by decide +kernel
theorem d_D_type_56 : decode (cd m_D_type) 56 = .ok (.if_icmp .le 5, 3) := by decide +kernel
theorem d_D_type_59 : decode (cd m_D_type) 59 = .ok (.iconst 0, 1) := by decide +kernel
theorem d_D_type_60 : decode (cd m_D_type) 60 = .ok (.ireturn, 1) := by decide +kernel
theorem d_D_type_61 : decode (cd m_D_type) 61 = .ok (.iinc 4 1, 3) := by decide +kernel
theorem d_D_type_64 : decode (cd m_D_type) 64 = .ok (.goto (-33), 3) := by decide +kernel
theorem d_D_type_67 : decode (cd m_D_type) 67 = .ok (.iload_n 3, 1) := by decide +kernel
theorem d_D_type_68 : decode (cd m_D_type) 68 = .ok (.iconst 1, 1) := by decide +kernel
theorem d_D_type_69 : decode (cd m_D_type) 69 = .ok (.isub, 1) := by decide +kernel
theorem d_D_type_70 : decode (cd m_D_type) 70 = .ok (.istore 4, 2) := by decide +kernel
theorem d_D_type_72 : decode (cd m_D_type) 72 = .ok (.iload 4, 2) := by decide +kernel
theorem d_D_type_74 : decode (cd m_D_type) 74 = .ok (.ifCond .lt 22, 3) := by decide +kernel
theorem d_D_type_77 : decode (cd m_D_type) 77 = .ok (.aload_n 0, 1) := by decide +kernel
theorem d_D_type_78 : decode (cd m_D_type) 78 = .ok (.getfield 10, 3) := by decide +kernel
theorem d_D_type_81 : decode (cd m_D_type) 81 = .ok (.lload_n 1, 1) := by decide +kernel
theorem d_D_type_82 : decode (cd m_D_type) 82 = .ok (.iload 4, 2) := by decide +kernel
theorem d_D_type_84 : decode (cd m_D_type) 84 = .ok (.invokestatic 37, 3) := by decide +kernel
theorem d_D_type_87 : decode (cd m_D_type) 87 = .ok (.invokevirtual 41, 3) := by decide +kernel
theorem d_D_type_90 : decode (cd m_D_type) 90 = .ok (.iinc 4 (-1), 3) := by decide +kernel
theorem d_D_type_93 : decode (cd m_D_type) 93 = .ok (.goto (-21), 3) := by decide +kernel
theorem d_D_type_96 : decode (cd m_D_type) 96 = .ok (.iconst 1, 1) := by decide +kernel
theorem d_D_type_97 : decode (cd m_D_type) 97 = .ok (.ireturn, 1) := by decide +kernel
theorem d_D_program_0 : decode (cd m_D_program) 0 = .ok (.aload_n 0, 1) := by decide +kernel
theorem d_D_program_1 : decode (cd m_D_program) 1 = .ok (.getfield 19, 3) := by decide +kernel
theorem d_D_program_4 : decode (cd m_D_program) 4 = .ok (.aload_n 0, 1) := by decide +kernel
theorem d_D_program_5 : decode (cd m_D_program) 5 = .ok (.getfield 10, 3) := by decide +kernel
theorem d_D_program_8 : decode (cd m_D_program) 8 = .ok (.aload_n 0, 1) := by decide +kernel
theorem d_D_program_9 : decode (cd m_D_program) 9 = .ok (.getfield 30, 3) := by decide +kernel
theorem d_D_program_12 : decode (cd m_D_program) 12 = .ok (.invokevirtual 45, 3) := by decide +kernel
theorem d_D_program_15 : decode (cd m_D_program) 15 = .ok (.istore_n 1, 1) := by decide +kernel
theorem d_D_program_16 : decode (cd m_D_program) 16 = .ok (.aload_n 0, 1) := by decide +kernel
theorem d_D_program_17 : decode (cd m_D_program) 17 = .ok (.getfield 10, 3) := by decide +kernel
theorem d_D_program_20 : decode (cd m_D_program) 20 = .ok (.iconst 0, 1) := by decide +kernel
theorem d_D_program_21 : decode (cd m_D_program) 21 = .ok (.putfield 33, 3) := by decide +kernel
theorem d_D_program_24 : decode (cd m_D_program) 24 = .ok (.iload_n 1, 1) := by decide +kernel
theorem d_D_program_25 : decode (cd m_D_program) 25 = .ok (.ifCond .ne 13, 3) := by decide +kernel
theorem d_D_program_28 : decode (cd m_D_program) 28 = .ok (.new 49, 3) := by decide +kernel
theorem d_D_program_31 : decode (cd m_D_program) 31 = .ok (.dup, 1) := by decide +kernel
theorem d_D_program_32 : decode (cd m_D_program) 32 = .ok (.ldc 51, 2) := by decide +kernel
theorem d_D_program_34 : decode (cd m_D_program) 34 = .ok (.invokespecial 53, 3) := by decide +kernel
theorem d_D_program_37 : decode (cd m_D_program) 37 = .ok (.athrow, 1) := by decide +kernel
theorem d_D_program_38 : decode (cd m_D_program) 38 = .ok (.aload_n 0, 1) := by decide +kernel
theorem d_D_program_39 : decode (cd m_D_program) 39 = .ok (.getfield 26, 3) := by decide +kernel
theorem d_D_program_42 : decode (cd m_D_program) 42 = .ok (.astore_n 2, 1) := by decide +kernel
theorem d_D_program_43 : decode (cd m_D_program) 43 = .ok (.aload_n 0, 1) := by decide +kernel
theorem d_D_program_44 : decode (cd m_D_program) 44 = .ok (.aload_n 0, 1) := by decide +kernel
theorem d_D_program_45 : decode (cd m_D_program) 45 = .ok (.getfield 30, 3) := by decide +kernel
theorem d_D_program_48 : decode (cd m_D_program) 48 = .ok (.putfield 26, 3) := by decide +kernel
theorem d_D_program_51 : decode (cd m_D_program) 51 = .ok (.aload_n 0, 1) := by decide +kernel
theorem d_D_program_52 : decode (cd m_D_program) 52 = .ok (.aload_n 2, 1) := by decide +kernel
theorem d_D_program_53 : decode (cd m_D_program) 53 = .ok (.putfield 30, 3) := by decide +kernel
theorem d_D_program_56 : decode (cd m_D_program) 56 = .ok (.aload_n 0, 1) := by decide +kernel
theorem d_D_program_57 : decode (cd m_D_program) 57 = .ok (.getfield 26, 3) := by decide +kernel
theorem d_D_program_60 : decode (cd m_D_program) 60 = .ok (.getfield 56, 3) := by decide +kernel
theorem d_D_program_63 : decode (cd m_D_program) 63 = .ok (.getfield 60, 3) := by decide +kernel
theorem d_D_program_66 : decode (cd m_D_program) 66 = .ok (.ireturn, 1) := by decide +kernel
theorem d_D_fault_0 : decode (cd m_D_fault) 0 = .ok (.iload_n 1, 1) := by decide +kernel
theorem d_D_fault_1 : decode (cd m_D_fault) 1 = .ok (.lookupswitch 43 #[(0, 27), (1, 35)], 27) := by decide +kernel
theorem d_D_fault_28 : decode (cd m_D_fault) 28 = .ok (.aload_n 0, 1) := by decide +kernel
theorem d_D_fault_29 : decode (cd m_D_fault) 29 = .ok (.getfield 19, 3) := by decide +kernel
theorem d_D_fault_32 : decode (cd m_D_fault) 32 = .ok (.getfield 65, 3) := by decide +kernel
theorem d_D_fault_35 : decode (cd m_D_fault) 35 = .ok (.ireturn, 1) := by decide +kernel
theorem d_D_fault_36 : decode (cd m_D_fault) 36 = .ok (.aload_n 0, 1) := by decide +kernel
theorem d_D_fault_37 : decode (cd m_D_fault) 37 = .ok (.getfield 19, 3) := by decide +kernel
theorem d_D_fault_40 : decode (cd m_D_fault) 40 = .ok (.getfield 68, 3) := by decide +kernel
theorem d_D_fault_43 : decode (cd m_D_fault) 43 = .ok (.ireturn, 1) := by decide +kernel
theorem d_D_fault_44 : decode (cd m_D_fault) 44 = .ok (.iconst (-1), 1) := by decide +kernel
theorem d_D_fault_45 : decode (cd m_D_fault) 45 = .ok (.ireturn, 1) := by decide +kernel
theorem d_D_predicates_0 : decode (cd m_D_predicates) 0 = .ok (.aload_n 0, 1) := by decide +kernel
theorem d_D_predicates_1 : decode (cd m_D_predicates) 1 = .ok (.getfield 26, 3) := by decide +kernel
theorem d_D_predicates_4 : decode (cd m_D_predicates) 4 = .ok (.getfield 71, 3) := by decide +kernel
theorem d_D_predicates_7 : decode (cd m_D_predicates) 7 = .ok (.ireturn, 1) := by decide +kernel
theorem d_D_predicate_0 : decode (cd m_D_predicate) 0 = .ok (.iload_n 1, 1) := by decide +kernel
theorem d_D_predicate_1 : decode (cd m_D_predicate) 1 = .ok (.ifCond .lt 14, 3) := by decide +kernel
theorem d_D_predicate_4 : decode (cd m_D_predicate) 4 = .ok (.iload_n 1, 1) := by decide +kernel
theorem d_D_predicate_5 : decode (cd m_D_predicate) 5 = .ok (.aload_n 0, 1) := by decide +kernel
theorem d_D_predicate_6 : decode (cd m_D_predicate) 6 = .ok (.getfield 26, 3) := by decide +kernel
theorem d_D_predicate_9 : decode (cd m_D_predicate) 9 = .ok (.getfield 71, 3) := by decide +kernel
theorem d_D_predicate_12 : decode (cd m_D_predicate) 12 = .ok (.if_icmp .lt 5, 3) := by decide +kernel
theorem d_D_predicate_15 : decode (cd m_D_predicate) 15 = .ok (.iconst (-1), 1) := by decide +kernel
theorem d_D_predicate_16 : decode (cd m_D_predicate) 16 = .ok (.ireturn, 1) := by decide +kernel
theorem d_D_predicate_17 : decode (cd m_D_predicate) 17 = .ok (.iload_n 2, 1) := by decide +kernel
theorem d_D_predicate_18 : decode (cd m_D_predicate) 18 = .ok (.tableswitch 87 0 4 #[34, 44, 54, 64, 74], 34) := by decide +kernel
theorem d_D_predicate_52 : decode (cd m_D_predicate) 52 = .ok (.aload_n 0, 1) := by decide +kernel
theorem d_D_predicate_53 : decode (cd m_D_predicate) 53 = .ok (.getfield 26, 3) := by decide +kernel
theorem d_D_predicate_56 : decode (cd m_D_predicate) 56 = .ok (.getfield 72, 3) := by decide +kernel
theorem d_D_predicate_59 : decode (cd m_D_predicate) 59 = .ok (.iload_n 1, 1) := by decide +kernel
theorem d_D_predicate_60 : decode (cd m_D_predicate) 60 = .ok (.iaload, 1) := by decide +kernel
theorem d_D_predicate_61 : decode (cd m_D_predicate) 61 = .ok (.ireturn, 1) := by decide +kernel
theorem d_D_predicate_62 : decode (cd m_D_predicate) 62 = .ok (.aload_n 0, 1) := by decide +kernel
theorem d_D_predicate_63 : decode (cd m_D_predicate) 63 = .ok (.getfield 26, 3) := by decide +kernel
theorem d_D_predicate_66 : decode (cd m_D_predicate) 66 = .ok (.getfield 76, 3) := by decide +kernel
theorem d_D_predicate_69 : decode (cd m_D_predicate) 69 = .ok (.iload_n 1, 1) := by decide +kernel
theorem d_D_predicate_70 : decode (cd m_D_predicate) 70 = .ok (.iaload, 1) := by decide +kernel
theorem d_D_predicate_71 : decode (cd m_D_predicate) 71 = .ok (.ireturn, 1) := by decide +kernel
theorem d_D_predicate_72 : decode (cd m_D_predicate) 72 = .ok (.aload_n 0, 1) := by decide +kernel
theorem d_D_predicate_73 : decode (cd m_D_predicate) 73 = .ok (.getfield 26, 3) := by decide +kernel
theorem d_D_predicate_76 : decode (cd m_D_predicate) 76 = .ok (.getfield 79, 3) := by decide +kernel
theorem d_D_predicate_79 : decode (cd m_D_predicate) 79 = .ok (.iload_n 1, 1) := by decide +kernel
theorem d_D_predicate_80 : decode (cd m_D_predicate) 80 = .ok (.iaload, 1) := by decide +kernel
theorem d_D_predicate_81 : decode (cd m_D_predicate) 81 = .ok (.ireturn, 1) := by decide +kernel
theorem d_D_predicate_82 : decode (cd m_D_predicate) 82 = .ok (.aload_n 0, 1) := by decide +kernel
theorem d_D_predicate_83 : decode (cd m_D_predicate) 83 = .ok (.getfield 26, 3) := by decide +kernel
theorem d_D_predicate_86 : decode (cd m_D_predicate) 86 = .ok (.getfield 82, 3) := by decide +kernel
theorem d_D_predicate_89 : decode (cd m_D_predicate) 89 = .ok (.iload_n 1, 1) := by decide +kernel
theorem d_D_predicate_90 : decode (cd m_D_predicate) 90 = .ok (.iaload, 1) := by decide +kernel
theorem d_D_predicate_91 : decode (cd m_D_predicate) 91 = .ok (.ireturn, 1) := by decide +kernel
theorem d_D_predicate_92 : decode (cd m_D_predicate) 92 = .ok (.aload_n 0, 1) := by decide +kernel
theorem d_D_predicate_93 : decode (cd m_D_predicate) 93 = .ok (.getfield 26, 3) := by decide +kernel
theorem d_D_predicate_96 : decode (cd m_D_predicate) 96 = .ok (.getfield 85, 3) := by decide +kernel
theorem d_D_predicate_99 : decode (cd m_D_predicate) 99 = .ok (.iload_n 1, 1) := by decide +kernel
theorem d_D_predicate_100 : decode (cd m_D_predicate) 100 = .ok (.laload, 1) := by decide +kernel
theorem d_D_predicate_101 : decode (cd m_D_predicate) 101 = .ok (.invokestatic 89, 3) := by decide +kernel
theorem d_D_predicate_104 : decode (cd m_D_predicate) 104 = .ok (.ireturn, 1) := by decide +kernel
theorem d_D_predicate_105 : decode (cd m_D_predicate) 105 = .ok (.iload_n 2, 1) := by decide +kernel
theorem d_D_predicate_106 : decode (cd m_D_predicate) 106 = .ok (.bipush 100, 2) := by decide +kernel
theorem d_D_predicate_108 : decode (cd m_D_predicate) 108 = .ok (.if_icmp .ge 7, 3) := by decide +kernel
theorem d_D_predicate_111 : decode (cd m_D_predicate) 111 = .ok (.iconst (-1), 1) := by decide +kernel
theorem d_D_predicate_112 : decode (cd m_D_predicate) 112 = .ok (.goto 19, 3) := by decide +kernel
theorem d_D_predicate_115 : decode (cd m_D_predicate) 115 = .ok (.aload_n 0, 1) := by decide +kernel
theorem d_D_predicate_116 : decode (cd m_D_predicate) 116 = .ok (.getfield 26, 3) := by decide +kernel
theorem d_D_predicate_119 : decode (cd m_D_predicate) 119 = .ok (.getfield 85, 3) := by decide +kernel
theorem d_D_predicate_122 : decode (cd m_D_predicate) 122 = .ok (.iload_n 1, 1) := by decide +kernel
theorem d_D_predicate_123 : decode (cd m_D_predicate) 123 = .ok (.laload, 1) := by decide +kernel
theorem d_D_predicate_124 : decode (cd m_D_predicate) 124 = .ok (.iload_n 2, 1) := by decide +kernel
theorem d_D_predicate_125 : decode (cd m_D_predicate) 125 = .ok (.bipush 100, 2) := by decide +kernel
theorem d_D_predicate_127 : decode (cd m_D_predicate) 127 = .ok (.isub, 1) := by decide +kernel
theorem d_D_predicate_128 : decode (cd m_D_predicate) 128 = .ok (.invokestatic 93, 3) := by decide +kernel
theorem d_D_predicate_131 : decode (cd m_D_predicate) 131 = .ok (.ireturn, 1) := by decide +kernel
theorem d_D_hangs_0 : decode (cd m_D_hangs) 0 = .ok (.iload_n 1, 1) := by decide +kernel
theorem d_D_hangs_1 : decode (cd m_D_hangs) 1 = .ok (.ifCond .lt 45, 3) := by decide +kernel
theorem d_D_hangs_4 : decode (cd m_D_hangs) 4 = .ok (.iload_n 1, 1) := by decide +kernel
theorem d_D_hangs_5 : decode (cd m_D_hangs) 5 = .ok (.aload_n 0, 1) := by decide +kernel
theorem d_D_hangs_6 : decode (cd m_D_hangs) 6 = .ok (.getfield 26, 3) := by decide +kernel
theorem d_D_hangs_9 : decode (cd m_D_hangs) 9 = .ok (.getfield 71, 3) := by decide +kernel
theorem d_D_hangs_12 : decode (cd m_D_hangs) 12 = .ok (.if_icmp .ge 34, 3) := by decide +kernel
theorem d_D_hangs_15 : decode (cd m_D_hangs) 15 = .ok (.iload_n 2, 1) := by decide +kernel
theorem d_D_hangs_16 : decode (cd m_D_hangs) 16 = .ok (.ifCond .lt 30, 3) := by decide +kernel
theorem d_D_hangs_19 : decode (cd m_D_hangs) 19 = .ok (.iload_n 2, 1) := by decide +kernel
theorem d_D_hangs_20 : decode (cd m_D_hangs) 20 = .ok (.aload_n 0, 1) := by decide +kernel
theorem d_D_hangs_21 : decode (cd m_D_hangs) 21 = .ok (.getfield 26, 3) := by decide +kernel
theorem d_D_hangs_24 : decode (cd m_D_hangs) 24 = .ok (.getfield 71, 3) := by decide +kernel
theorem d_D_hangs_27 : decode (cd m_D_hangs) 27 = .ok (.if_icmp .ge 19, 3) := by decide +kernel
theorem d_D_hangs_30 : decode (cd m_D_hangs) 30 = .ok (.aload_n 0, 1) := by decide +kernel
theorem d_D_hangs_31 : decode (cd m_D_hangs) 31 = .ok (.getfield 26, 3) := by decide +kernel
theorem d_D_hangs_34 : decode (cd m_D_hangs) 34 = .ok (.iload_n 1, 1) := by decide +kernel
theorem d_D_hangs_35 : decode (cd m_D_hangs) 35 = .ok (.iload_n 2, 1) := by decide +kernel
theorem d_D_hangs_36 : decode (cd m_D_hangs) 36 = .ok (.invokevirtual 96, 3) := by decide +kernel
theorem d_D_hangs_39 : decode (cd m_D_hangs) 39 = .ok (.ifCond .eq 7, 3) := by decide +kernel
theorem d_D_hangs_42 : decode (cd m_D_hangs) 42 = .ok (.iconst 1, 1) := by decide +kernel
theorem d_D_hangs_43 : decode (cd m_D_hangs) 43 = .ok (.goto 4, 3) := by decide +kernel
theorem d_D_hangs_46 : decode (cd m_D_hangs) 46 = .ok (.iconst 0, 1) := by decide +kernel
theorem d_D_hangs_47 : decode (cd m_D_hangs) 47 = .ok (.ireturn, 1) := by decide +kernel
theorem d_D_rule_0 : decode (cd m_D_rule) 0 = .ok (.aload_n 0, 1) := by decide +kernel
theorem d_D_rule_1 : decode (cd m_D_rule) 1 = .ok (.getfield 26, 3) := by decide +kernel
theorem d_D_rule_4 : decode (cd m_D_rule) 4 = .ok (.getfield 56, 3) := by decide +kernel
theorem d_D_rule_7 : decode (cd m_D_rule) 7 = .ok (.astore_n 3, 1) := by decide +kernel
theorem d_D_rule_8 : decode (cd m_D_rule) 8 = .ok (.iload_n 1, 1) := by decide +kernel
theorem d_D_rule_9 : decode (cd m_D_rule) 9 = .ok (.ifCond .lt 11, 3) := by decide +kernel
theorem d_D_rule_12 : decode (cd m_D_rule) 12 = .ok (.iload_n 1, 1) := by decide +kernel
theorem d_D_rule_13 : decode (cd m_D_rule) 13 = .ok (.aload_n 3, 1) := by decide +kernel
theorem d_D_rule_14 : decode (cd m_D_rule) 14 = .ok (.getfield 60, 3) := by decide +kernel
theorem d_D_rule_17 : decode (cd m_D_rule) 17 = .ok (.if_icmp .lt 13, 3) := by decide +kernel
theorem d_D_rule_20 : decode (cd m_D_rule) 20 = .ok (.new 100, 3) := by decide +kernel
theorem d_D_rule_23 : decode (cd m_D_rule) 23 = .ok (.dup, 1) := by decide +kernel
theorem d_D_rule_24 : decode (cd m_D_rule) 24 = .ok (.ldc 102, 2) := by decide +kernel
theorem d_D_rule_26 : decode (cd m_D_rule) 26 = .ok (.invokespecial 104, 3) := by decide +kernel
theorem d_D_rule_29 : decode (cd m_D_rule) 29 = .ok (.athrow, 1) := by decide +kernel
theorem d_D_rule_30 : decode (cd m_D_rule) 30 = .ok (.iload_n 2, 1) := by decide +kernel
theorem d_D_rule_31 : decode (cd m_D_rule) 31 = .ok (.tableswitch 70 0 4 #[33, 40, 47, 54, 61], 33) := by decide +kernel
theorem d_D_rule_64 : decode (cd m_D_rule) 64 = .ok (.aload_n 3, 1) := by decide +kernel
theorem d_D_rule_65 : decode (cd m_D_rule) 65 = .ok (.getfield 105, 3) := by decide +kernel
theorem d_D_rule_68 : decode (cd m_D_rule) 68 = .ok (.iload_n 1, 1) := by decide +kernel
theorem d_D_rule_69 : decode (cd m_D_rule) 69 = .ok (.iaload, 1) := by decide +kernel
theorem d_D_rule_70 : decode (cd m_D_rule) 70 = .ok (.ireturn, 1) := by decide +kernel
theorem d_D_rule_71 : decode (cd m_D_rule) 71 = .ok (.aload_n 3, 1) := by decide +kernel
theorem d_D_rule_72 : decode (cd m_D_rule) 72 = .ok (.getfield 108, 3) := by decide +kernel
theorem d_D_rule_75 : decode (cd m_D_rule) 75 = .ok (.iload_n 1, 1) := by decide +kernel
theorem d_D_rule_76 : decode (cd m_D_rule) 76 = .ok (.iaload, 1) := by decide +kernel
theorem d_D_rule_77 : decode (cd m_D_rule) 77 = .ok (.ireturn, 1) := by decide +kernel
theorem d_D_rule_78 : decode (cd m_D_rule) 78 = .ok (.aload_n 3, 1) := by decide +kernel
theorem d_D_rule_79 : decode (cd m_D_rule) 79 = .ok (.getfield 109, 3) := by decide +kernel
theorem d_D_rule_82 : decode (cd m_D_rule) 82 = .ok (.iload_n 1, 1) := by decide +kernel
theorem d_D_rule_83 : decode (cd m_D_rule) 83 = .ok (.iaload, 1) := by decide +kernel
theorem d_D_rule_84 : decode (cd m_D_rule) 84 = .ok (.ireturn, 1) := by decide +kernel
theorem d_D_rule_85 : decode (cd m_D_rule) 85 = .ok (.aload_n 3, 1) := by decide +kernel
theorem d_D_rule_86 : decode (cd m_D_rule) 86 = .ok (.getfield 112, 3) := by decide +kernel
theorem d_D_rule_89 : decode (cd m_D_rule) 89 = .ok (.iload_n 1, 1) := by decide +kernel
theorem d_D_rule_90 : decode (cd m_D_rule) 90 = .ok (.iaload, 1) := by decide +kernel
theorem d_D_rule_91 : decode (cd m_D_rule) 91 = .ok (.ireturn, 1) := by decide +kernel
theorem d_D_rule_92 : decode (cd m_D_rule) 92 = .ok (.aload_n 0, 1) := by decide +kernel
theorem d_D_rule_93 : decode (cd m_D_rule) 93 = .ok (.getfield 26, 3) := by decide +kernel
theorem d_D_rule_96 : decode (cd m_D_rule) 96 = .ok (.iload_n 1, 1) := by decide +kernel
theorem d_D_rule_97 : decode (cd m_D_rule) 97 = .ok (.invokevirtual 115, 3) := by decide +kernel
theorem d_D_rule_100 : decode (cd m_D_rule) 100 = .ok (.ireturn, 1) := by decide +kernel
theorem d_D_rule_101 : decode (cd m_D_rule) 101 = .ok (.new 100, 3) := by decide +kernel
theorem d_D_rule_104 : decode (cd m_D_rule) 104 = .ok (.dup, 1) := by decide +kernel
theorem d_D_rule_105 : decode (cd m_D_rule) 105 = .ok (.ldc 119, 2) := by decide +kernel
theorem d_D_rule_107 : decode (cd m_D_rule) 107 = .ok (.invokespecial 104, 3) := by decide +kernel
theorem d_D_rule_110 : decode (cd m_D_rule) 110 = .ok (.athrow, 1) := by decide +kernel
theorem d_D_literal_0 : decode (cd m_D_literal) 0 = .ok (.aload_n 0, 1) := by decide +kernel
theorem d_D_literal_1 : decode (cd m_D_literal) 1 = .ok (.getfield 26, 3) := by decide +kernel
theorem d_D_literal_4 : decode (cd m_D_literal) 4 = .ok (.getfield 56, 3) := by decide +kernel
theorem d_D_literal_7 : decode (cd m_D_literal) 7 = .ok (.astore 4, 2) := by decide +kernel
theorem d_D_literal_9 : decode (cd m_D_literal) 9 = .ok (.iload_n 1, 1) := by decide +kernel
theorem d_D_literal_10 : decode (cd m_D_literal) 10 = .ok (.ifCond .lt 27, 3) := by decide +kernel
theorem d_D_literal_13 : decode (cd m_D_literal) 13 = .ok (.iload_n 1, 1) := by decide +kernel
theorem d_D_literal_14 : decode (cd m_D_literal) 14 = .ok (.aload 4, 2) := by decide +kernel
theorem d_D_literal_16 : decode (cd m_D_literal) 16 = .ok (.getfield 60, 3) := by decide +kernel
theorem d_D_literal_19 : decode (cd m_D_literal) 19 = .ok (.if_icmp .ge 18, 3) := by decide +kernel
theorem d_D_literal_22 : decode (cd m_D_literal) 22 = .ok (.iload_n 2, 1) := by decide +kernel
theorem d_D_literal_23 : decode (cd m_D_literal) 23 = .ok (.ifCond .lt 14, 3) := by decide +kernel
theorem d_D_literal_26 : decode (cd m_D_literal) 26 = .ok (.iload_n 2, 1) := by decide +kernel
theorem d_D_literal_27 : decode (cd m_D_literal) 27 = .ok (.aload 4, 2) := by decide +kernel
theorem d_D_literal_29 : decode (cd m_D_literal) 29 = .ok (.getfield 108, 3) := by decide +kernel
theorem d_D_literal_32 : decode (cd m_D_literal) 32 = .ok (.iload_n 1, 1) := by decide +kernel
theorem d_D_literal_33 : decode (cd m_D_literal) 33 = .ok (.iaload, 1) := by decide +kernel
theorem d_D_literal_34 : decode (cd m_D_literal) 34 = .ok (.if_icmp .lt 13, 3) := by decide +kernel
theorem d_D_literal_37 : decode (cd m_D_literal) 37 = .ok (.new 100, 3) := by decide +kernel
theorem d_D_literal_40 : decode (cd m_D_literal) 40 = .ok (.dup, 1) := by decide +kernel
theorem d_D_literal_41 : decode (cd m_D_literal) 41 = .ok (.ldc 121, 2) := by decide +kernel
theorem d_D_literal_43 : decode (cd m_D_literal) 43 = .ok (.invokespecial 104, 3) := by decide +kernel
theorem d_D_literal_46 : decode (cd m_D_literal) 46 = .ok (.athrow, 1) := by decide +kernel
theorem d_D_literal_47 : decode (cd m_D_literal) 47 = .ok (.iload_n 1, 1) := by decide +kernel
theorem d_D_literal_48 : decode (cd m_D_literal) 48 = .ok (.bipush 6, 2) := by decide +kernel
theorem d_D_literal_50 : decode (cd m_D_literal) 50 = .ok (.imul, 1) := by decide +kernel
theorem d_D_literal_51 : decode (cd m_D_literal) 51 = .ok (.iload_n 2, 1) := by decide +kernel
theorem d_D_literal_52 : decode (cd m_D_literal) 52 = .ok (.iadd, 1) := by decide +kernel
theorem d_D_literal_53 : decode (cd m_D_literal) 53 = .ok (.istore 5, 2) := by decide +kernel
theorem d_D_literal_55 : decode (cd m_D_literal) 55 = .ok (.iload_n 1, 1) := by decide +kernel
theorem d_D_literal_56 : decode (cd m_D_literal) 56 = .ok (.bipush 6, 2) := by decide +kernel
theorem d_D_literal_58 : decode (cd m_D_literal) 58 = .ok (.imul, 1) := by decide +kernel
theorem d_D_literal_59 : decode (cd m_D_literal) 59 = .ok (.aload 4, 2) := by decide +kernel
theorem d_D_literal_61 : decode (cd m_D_literal) 61 = .ok (.getfield 123, 3) := by decide +kernel
theorem d_D_literal_64 : decode (cd m_D_literal) 64 = .ok (.iload 5, 2) := by decide +kernel
theorem d_D_literal_66 : decode (cd m_D_literal) 66 = .ok (.iaload, 1) := by decide +kernel
theorem d_D_literal_67 : decode (cd m_D_literal) 67 = .ok (.iadd, 1) := by decide +kernel
theorem d_D_literal_68 : decode (cd m_D_literal) 68 = .ok (.istore 6, 2) := by decide +kernel
theorem d_D_literal_70 : decode (cd m_D_literal) 70 = .ok (.iload_n 3, 1) := by decide +kernel
theorem d_D_literal_71 : decode (cd m_D_literal) 71 = .ok (.tableswitch 78 0 4 #[33, 42, 51, 60, 69], 33) := by decide +kernel
theorem d_D_literal_104 : decode (cd m_D_literal) 104 = .ok (.aload 4, 2) := by decide +kernel
theorem d_D_literal_106 : decode (cd m_D_literal) 106 = .ok (.getfield 123, 3) := by decide +kernel
theorem d_D_literal_109 : decode (cd m_D_literal) 109 = .ok (.iload 5, 2) := by decide +kernel
theorem d_D_literal_111 : decode (cd m_D_literal) 111 = .ok (.iaload, 1) := by decide +kernel
theorem d_D_literal_112 : decode (cd m_D_literal) 112 = .ok (.ireturn, 1) := by decide +kernel
theorem d_D_literal_113 : decode (cd m_D_literal) 113 = .ok (.aload 4, 2) := by decide +kernel
theorem d_D_literal_115 : decode (cd m_D_literal) 115 = .ok (.getfield 126, 3) := by decide +kernel
theorem d_D_literal_118 : decode (cd m_D_literal) 118 = .ok (.iload 6, 2) := by decide +kernel
theorem d_D_literal_120 : decode (cd m_D_literal) 120 = .ok (.iaload, 1) := by decide +kernel
theorem d_D_literal_121 : decode (cd m_D_literal) 121 = .ok (.ireturn, 1) := by decide +kernel
theorem d_D_literal_122 : decode (cd m_D_literal) 122 = .ok (.aload 4, 2) := by decide +kernel
theorem d_D_literal_124 : decode (cd m_D_literal) 124 = .ok (.getfield 129, 3) := by decide +kernel
theorem d_D_literal_127 : decode (cd m_D_literal) 127 = .ok (.iload 6, 2) := by decide +kernel
theorem d_D_literal_129 : decode (cd m_D_literal) 129 = .ok (.iaload, 1) := by decide +kernel
theorem d_D_literal_130 : decode (cd m_D_literal) 130 = .ok (.ireturn, 1) := by decide +kernel
theorem d_D_literal_131 : decode (cd m_D_literal) 131 = .ok (.aload 4, 2) := by decide +kernel
theorem d_D_literal_133 : decode (cd m_D_literal) 133 = .ok (.getfield 132, 3) := by decide +kernel
theorem d_D_literal_136 : decode (cd m_D_literal) 136 = .ok (.iload 5, 2) := by decide +kernel
theorem d_D_literal_138 : decode (cd m_D_literal) 138 = .ok (.iaload, 1) := by decide +kernel
theorem d_D_literal_139 : decode (cd m_D_literal) 139 = .ok (.ireturn, 1) := by decide +kernel
theorem d_D_literal_140 : decode (cd m_D_literal) 140 = .ok (.aload 4, 2) := by decide +kernel
theorem d_D_literal_142 : decode (cd m_D_literal) 142 = .ok (.getfield 135, 3) := by decide +kernel
theorem d_D_literal_145 : decode (cd m_D_literal) 145 = .ok (.iload 5, 2) := by decide +kernel
theorem d_D_literal_147 : decode (cd m_D_literal) 147 = .ok (.iaload, 1) := by decide +kernel
theorem d_D_literal_148 : decode (cd m_D_literal) 148 = .ok (.ireturn, 1) := by decide +kernel
theorem d_D_literal_149 : decode (cd m_D_literal) 149 = .ok (.new 100, 3) := by decide +kernel
theorem d_D_literal_152 : decode (cd m_D_literal) 152 = .ok (.dup, 1) := by decide +kernel
theorem d_D_literal_153 : decode (cd m_D_literal) 153 = .ok (.ldc 138, 2) := by decide +kernel
theorem d_D_literal_155 : decode (cd m_D_literal) 155 = .ok (.invokespecial 104, 3) := by decide +kernel
theorem d_D_literal_158 : decode (cd m_D_literal) 158 = .ok (.athrow, 1) := by decide +kernel
theorem d_D_byteOf_0 : decode (cd m_D_byteOf) 0 = .ok (.lload_n 0, 1) := by decide +kernel
theorem d_D_byteOf_1 : decode (cd m_D_byteOf) 1 = .ok (.bipush 8, 2) := by decide +kernel
theorem d_D_byteOf_3 : decode (cd m_D_byteOf) 3 = .ok (.iload_n 2, 1) := by decide +kernel
theorem d_D_byteOf_4 : decode (cd m_D_byteOf) 4 = .ok (.imul, 1) := by decide +kernel
theorem d_D_byteOf_5 : decode (cd m_D_byteOf) 5 = .ok (.lushr, 1) := by decide +kernel
theorem d_D_byteOf_6 : decode (cd m_D_byteOf) 6 = .ok (.l2i, 1) := by decide +kernel
theorem d_D_byteOf_7 : decode (cd m_D_byteOf) 7 = .ok (.sipush 255, 3) := by decide +kernel
theorem d_D_byteOf_10 : decode (cd m_D_byteOf) 10 = .ok (.iand, 1) := by decide +kernel
theorem d_D_byteOf_11 : decode (cd m_D_byteOf) 11 = .ok (.ireturn, 1) := by decide +kernel
theorem d_D_letters_0 : decode (cd m_D_letters) 0 = .ok (.iconst 0, 1) := by decide +kernel
theorem d_D_letters_1 : decode (cd m_D_letters) 1 = .ok (.istore_n 2, 1) := by decide +kernel
theorem d_D_letters_2 : decode (cd m_D_letters) 2 = .ok (.iload_n 2, 1) := by decide +kernel
theorem d_D_letters_3 : decode (cd m_D_letters) 3 = .ok (.bipush 6, 2) := by decide +kernel
theorem d_D_letters_5 : decode (cd m_D_letters) 5 = .ok (.if_icmp .ge 20, 3) := by decide +kernel
theorem d_D_letters_8 : decode (cd m_D_letters) 8 = .ok (.lload_n 0, 1) := by decide +kernel
theorem d_D_letters_9 : decode (cd m_D_letters) 9 = .ok (.bipush 7, 2) := by decide +kernel
theorem d_D_letters_11 : decode (cd m_D_letters) 11 = .ok (.iload_n 2, 1) := by decide +kernel
theorem d_D_letters_12 : decode (cd m_D_letters) 12 = .ok (.imul, 1) := by decide +kernel
theorem d_D_letters_13 : decode (cd m_D_letters) 13 = .ok (.lshr, 1) := by decide +kernel
theorem d_D_letters_14 : decode (cd m_D_letters) 14 = .ok (.lconst 0, 1) := by decide +kernel
theorem d_D_letters_15 : decode (cd m_D_letters) 15 = .ok (.lcmp, 1) := by decide +kernel
theorem d_D_letters_16 : decode (cd m_D_letters) 16 = .ok (.ifCond .eq 9, 3) := by decide +kernel
theorem d_D_letters_19 : decode (cd m_D_letters) 19 = .ok (.iinc 2 1, 3) := by decide +kernel
theorem d_D_letters_22 : decode (cd m_D_letters) 22 = .ok (.goto (-20), 3) := by decide +kernel
theorem d_D_letters_25 : decode (cd m_D_letters) 25 = .ok (.iload_n 2, 1) := by decide +kernel
theorem d_D_letters_26 : decode (cd m_D_letters) 26 = .ok (.ireturn, 1) := by decide +kernel
theorem d_D_letter_0 : decode (cd m_D_letter) 0 = .ok (.lload_n 0, 1) := by decide +kernel
theorem d_D_letter_1 : decode (cd m_D_letter) 1 = .ok (.invokestatic 89, 3) := by decide +kernel
theorem d_D_letter_4 : decode (cd m_D_letter) 4 = .ok (.iconst 1, 1) := by decide +kernel
theorem d_D_letter_5 : decode (cd m_D_letter) 5 = .ok (.isub, 1) := by decide +kernel
theorem d_D_letter_6 : decode (cd m_D_letter) 6 = .ok (.iload_n 2, 1) := by decide +kernel
theorem d_D_letter_7 : decode (cd m_D_letter) 7 = .ok (.isub, 1) := by decide +kernel
theorem d_D_letter_8 : decode (cd m_D_letter) 8 = .ok (.istore_n 3, 1) := by decide +kernel
theorem d_D_letter_9 : decode (cd m_D_letter) 9 = .ok (.iload_n 2, 1) := by decide +kernel
theorem d_D_letter_10 : decode (cd m_D_letter) 10 = .ok (.ifCond .lt 7, 3) := by decide +kernel
theorem d_D_letter_13 : decode (cd m_D_letter) 13 = .ok (.iload_n 3, 1) := by decide +kernel
theorem d_D_letter_14 : decode (cd m_D_letter) 14 = .ok (.ifCond .ge 5, 3) := by decide +kernel
theorem d_D_letter_17 : decode (cd m_D_letter) 17 = .ok (.iconst (-1), 1) := by decide +kernel
theorem d_D_letter_18 : decode (cd m_D_letter) 18 = .ok (.ireturn, 1) := by decide +kernel
theorem d_D_letter_19 : decode (cd m_D_letter) 19 = .ok (.lload_n 0, 1) := by decide +kernel
theorem d_D_letter_20 : decode (cd m_D_letter) 20 = .ok (.bipush 7, 2) := by decide +kernel
theorem d_D_letter_22 : decode (cd m_D_letter) 22 = .ok (.iload_n 3, 1) := by decide +kernel
theorem d_D_letter_23 : decode (cd m_D_letter) 23 = .ok (.imul, 1) := by decide +kernel
theorem d_D_letter_24 : decode (cd m_D_letter) 24 = .ok (.lshr, 1) := by decide +kernel
theorem d_D_letter_25 : decode (cd m_D_letter) 25 = .ok (.l2i, 1) := by decide +kernel
theorem d_D_letter_26 : decode (cd m_D_letter) 26 = .ok (.bipush 127, 2) := by decide +kernel
theorem d_D_letter_28 : decode (cd m_D_letter) 28 = .ok (.iand, 1) := by decide +kernel
theorem d_D_letter_29 : decode (cd m_D_letter) 29 = .ok (.ireturn, 1) := by decide +kernel
end
section
/-! decode rows (by program) -/
theorem d_M_init_0 : decode (cd m_M_init) 0 = .ok (.aload_n 0, 1) := by decide +kernel
theorem d_M_init_1 : decode (cd m_M_init) 1 = .ok (.invokespecial 1, 3) := by decide +kernel
theorem d_M_init_4 : decode (cd m_M_init) 4 = .ok (.aload_n 0, 1) := by decide +kernel
theorem d_M_init_5 : decode (cd m_M_init) 5 = .ok (.sipush 600, 3) := by decide +kernel
theorem d_M_init_8 : decode (cd m_M_init) 8 = .ok (.newarray .int, 2) := by decide +kernel
theorem d_M_init_10 : decode (cd m_M_init) 10 = .ok (.putfield 7, 3) := by decide +kernel
theorem d_M_init_13 : decode (cd m_M_init) 13 = .ok (.aload_n 0, 1) := by decide +kernel
theorem d_M_init_14 : decode (cd m_M_init) 14 = .ok (.sipush 602, 3) := by decide +kernel
theorem d_M_init_17 : decode (cd m_M_init) 17 = .ok (.newarray .int, 2) := by decide +kernel
theorem d_M_init_19 : decode (cd m_M_init) 19 = .ok (.putfield 13, 3) := by decide +kernel
theorem d_M_init_22 : decode (cd m_M_init) 22 = .ok (.aload_n 0, 1) := by decide +kernel
theorem d_M_init_23 : decode (cd m_M_init) 23 = .ok (.sipush 602, 3) := by decide +kernel
theorem d_M_init_26 : decode (cd m_M_init) 26 = .ok (.newarray .int, 2) := by decide +kernel
theorem d_M_init_28 : decode (cd m_M_init) 28 = .ok (.putfield 16, 3) := by decide +kernel
theorem d_M_init_31 : decode (cd m_M_init) 31 = .ok (.aload_n 0, 1) := by decide +kernel
theorem d_M_init_32 : decode (cd m_M_init) 32 = .ok (.sipush 602, 3) := by decide +kernel
theorem d_M_init_35 : decode (cd m_M_init) 35 = .ok (.newarray .int, 2) := by decide +kernel
theorem d_M_init_37 : decode (cd m_M_init) 37 = .ok (.putfield 19, 3) := by decide +kernel
theorem d_M_init_40 : decode (cd m_M_init) 40 = .ok (.aload_n 0, 1) := by decide +kernel
theorem d_M_init_41 : decode (cd m_M_init) 41 = .ok (.sipush 602, 3) := by decide +kernel
theorem d_M_init_44 : decode (cd m_M_init) 44 = .ok (.newarray .long, 2) := by decide +kernel
theorem d_M_init_46 : decode (cd m_M_init) 46 = .ok (.putfield 22, 3) := by decide +kernel
theorem d_M_init_49 : decode (cd m_M_init) 49 = .ok (.aload_n 0, 1) := by decide +kernel
theorem d_M_init_50 : decode (cd m_M_init) 50 = .ok (.iconst 2, 1) := by decide +kernel
theorem d_M_init_51 : decode (cd m_M_init) 51 = .ok (.newarray .int, 2) := by decide +kernel
theorem d_M_init_53 : decode (cd m_M_init) 53 = .ok (.putfield 26, 3) := by decide +kernel
theorem d_M_init_56 : decode (cd m_M_init) 56 = .ok (.aload_n 0, 1) := by decide +kernel
theorem d_M_init_57 : decode (cd m_M_init) 57 = .ok (.bipush 32, 2) := by decide +kernel
theorem d_M_init_59 : decode (cd m_M_init) 59 = .ok (.newarray .long, 2) := by decide +kernel
theorem d_M_init_61 : decode (cd m_M_init) 61 = .ok (.putfield 29, 3) := by decide +kernel
theorem d_M_init_64 : decode (cd m_M_init) 64 = .ok (.aload_n 0, 1) := by decide +kernel
theorem d_M_init_65 : decode (cd m_M_init) 65 = .ok (.bipush 32, 2) := by decide +kernel
theorem d_M_init_67 : decode (cd m_M_init) 67 = .ok (.newarray .int, 2) := by decide +kernel
theorem d_M_init_69 : decode (cd m_M_init) 69 = .ok (.putfield 32, 3) := by decide +kernel
theorem d_M_init_72 : decode (cd m_M_init) 72 = .ok (.aload_n 0, 1) := by decide +kernel
theorem d_M_init_73 : decode (cd m_M_init) 73 = .ok (.bipush 32, 2) := by decide +kernel
theorem d_M_init_75 : decode (cd m_M_init) 75 = .ok (.newarray .int, 2) := by decide +kernel
theorem d_M_init_77 : decode (cd m_M_init) 77 = .ok (.putfield 35, 3) := by decide +kernel
theorem d_M_init_80 : decode (cd m_M_init) 80 = .ok (.aload_n 0, 1) := by decide +kernel
theorem d_M_init_81 : decode (cd m_M_init) 81 = .ok (.iconst 2, 1) := by decide +kernel
theorem d_M_init_82 : decode (cd m_M_init) 82 = .ok (.newarray .int, 2) := by decide +kernel
theorem d_M_init_84 : decode (cd m_M_init) 84 = .ok (.putfield 38, 3) := by decide +kernel
theorem d_M_init_87 : decode (cd m_M_init) 87 = .ok (.aload_n 0, 1) := by decide +kernel
theorem d_M_init_88 : decode (cd m_M_init) 88 = .ok (.bipush 61, 2) := by decide +kernel
theorem d_M_init_90 : decode (cd m_M_init) 90 = .ok (.newarray .int, 2) := by decide +kernel
theorem d_M_init_92 : decode (cd m_M_init) 92 = .ok (.putfield 41, 3) := by decide +kernel
theorem d_M_init_95 : decode (cd m_M_init) 95 = .ok (.aload_n 0, 1) := by decide +kernel
theorem d_M_init_96 : decode (cd m_M_init) 96 = .ok (.sipush 244, 3) := by decide +kernel
theorem d_M_init_99 : decode (cd m_M_init) 99 = .ok (.newarray .int, 2) := by decide +kernel
theorem d_M_init_101 : decode (cd m_M_init) 101 = .ok (.putfield 44, 3) := by decide +kernel
theorem d_M_init_104 : decode (cd m_M_init) 104 = .ok (.aload_n 0, 1) := by decide +kernel
theorem d_M_init_105 : decode (cd m_M_init) 105 = .ok (.sipush 244, 3) := by decide +kernel
theorem d_M_init_108 : decode (cd m_M_init) 108 = .ok (.newarray .long, 2) := by decide +kernel
theorem d_M_init_110 : decode (cd m_M_init) 110 = .ok (.putfield 47, 3) := by decide +kernel
theorem d_M_init_113 : decode (cd m_M_init) 113 = .ok (.aload_n 0, 1) := by decide +kernel
theorem d_M_init_114 : decode (cd m_M_init) 114 = .ok (.bipush 61, 2) := by decide +kernel
theorem d_M_init_116 : decode (cd m_M_init) 116 = .ok (.newarray .int, 2) := by decide +kernel
theorem d_M_init_118 : decode (cd m_M_init) 118 = .ok (.putfield 50, 3) := by decide +kernel
theorem d_M_init_121 : decode (cd m_M_init) 121 = .ok (.aload_n 0, 1) := by decide +kernel
theorem d_M_init_122 : decode (cd m_M_init) 122 = .ok (.bipush 61, 2) := by decide +kernel
theorem d_M_init_124 : decode (cd m_M_init) 124 = .ok (.newarray .int, 2) := by decide +kernel
theorem d_M_init_126 : decode (cd m_M_init) 126 = .ok (.putfield 53, 3) := by decide +kernel
theorem d_M_init_129 : decode (cd m_M_init) 129 = .ok (.aload_n 0, 1) := by decide +kernel
theorem d_M_init_130 : decode (cd m_M_init) 130 = .ok (.bipush 61, 2) := by decide +kernel
theorem d_M_init_132 : decode (cd m_M_init) 132 = .ok (.newarray .int, 2) := by decide +kernel
theorem d_M_init_134 : decode (cd m_M_init) 134 = .ok (.putfield 56, 3) := by decide +kernel
theorem d_M_init_137 : decode (cd m_M_init) 137 = .ok (.aload_n 0, 1) := by decide +kernel
theorem d_M_init_138 : decode (cd m_M_init) 138 = .ok (.bipush 61, 2) := by decide +kernel
theorem d_M_init_140 : decode (cd m_M_init) 140 = .ok (.newarray .int, 2) := by decide +kernel
theorem d_M_init_142 : decode (cd m_M_init) 142 = .ok (.putfield 59, 3) := by decide +kernel
theorem d_M_init_145 : decode (cd m_M_init) 145 = .ok (.aload_n 0, 1) := by decide +kernel
theorem d_M_init_146 : decode (cd m_M_init) 146 = .ok (.sipush 366, 3) := by decide +kernel
theorem d_M_init_149 : decode (cd m_M_init) 149 = .ok (.newarray .int, 2) := by decide +kernel
theorem d_M_init_151 : decode (cd m_M_init) 151 = .ok (.putfield 62, 3) := by decide +kernel
theorem d_M_init_154 : decode (cd m_M_init) 154 = .ok (.aload_n 0, 1) := by decide +kernel
theorem d_M_init_155 : decode (cd m_M_init) 155 = .ok (.sipush 366, 3) := by decide +kernel
theorem d_M_init_158 : decode (cd m_M_init) 158 = .ok (.newarray .int, 2) := by decide +kernel
theorem d_M_init_160 : decode (cd m_M_init) 160 = .ok (.putfield 65, 3) := by decide +kernel
theorem d_M_init_163 : decode (cd m_M_init) 163 = .ok (.aload_n 0, 1) := by decide +kernel
theorem d_M_init_164 : decode (cd m_M_init) 164 = .ok (.sipush 1464, 3) := by decide +kernel
theorem d_M_init_167 : decode (cd m_M_init) 167 = .ok (.newarray .int, 2) := by decide +kernel
theorem d_M_init_169 : decode (cd m_M_init) 169 = .ok (.putfield 68, 3) := by decide +kernel
theorem d_M_init_172 : decode (cd m_M_init) 172 = .ok (.aload_n 0, 1) := by decide +kernel
theorem d_M_init_173 : decode (cd m_M_init) 173 = .ok (.sipush 1464, 3) := by decide +kernel
theorem d_M_init_176 : decode (cd m_M_init) 176 = .ok (.newarray .long, 2) := by decide +kernel
theorem d_M_init_178 : decode (cd m_M_init) 178 = .ok (.putfield 71, 3) := by decide +kernel
theorem d_M_init_181 : decode (cd m_M_init) 181 = .ok (.aload_n 0, 1) := by decide +kernel
theorem d_M_init_182 : decode (cd m_M_init) 182 = .ok (.iconst 2, 1) := by decide +kernel
theorem d_M_init_183 : decode (cd m_M_init) 183 = .ok (.newarray .int, 2) := by decide +kernel
theorem d_M_init_185 : decode (cd m_M_init) 185 = .ok (.putfield 74, 3) := by decide +kernel
theorem d_M_init_188 : decode (cd m_M_init) 188 = .ok (.aload_n 0, 1) := by decide +kernel
theorem d_M_init_189 : decode (cd m_M_init) 189 = .ok (.sipush 400, 3) := by decide +kernel
theorem d_M_init_192 : decode (cd m_M_init) 192 = .ok (.newarray .int, 2) := by decide +kernel
theorem d_M_init_194 : decode (cd m_M_init) 194 = .ok (.putfield 77, 3) := by decide +kernel
theorem d_M_init_197 : decode (cd m_M_init) 197 = .ok (.aload_n 0, 1) := by decide +kernel
theorem d_M_init_198 : decode (cd m_M_init) 198 = .ok (.sipush 1600, 3) := by decide +kernel
theorem d_M_init_201 : decode (cd m_M_init) 201 = .ok (.newarray .long, 2) := by decide +kernel
theorem d_M_init_203 : decode (cd m_M_init) 203 = .ok (.putfield 80, 3) := by decide +kernel
theorem d_M_init_206 : decode (cd m_M_init) 206 = .ok (.aload_n 0, 1) := by decide +kernel
theorem d_M_init_207 : decode (cd m_M_init) 207 = .ok (.bipush 9, 2) := by decide +kernel
theorem d_M_init_209 : decode (cd m_M_init) 209 = .ok (.newarray .long, 2) := by decide +kernel
theorem d_M_init_211 : decode (cd m_M_init) 211 = .ok (.putfield 83, 3) := by decide +kernel
theorem d_M_init_214 : decode (cd m_M_init) 214 = .ok (.aload_n 0, 1) := by decide +kernel
theorem d_M_init_215 : decode (cd m_M_init) 215 = .ok (.bipush 9, 2) := by decide +kernel
theorem d_M_init_217 : decode (cd m_M_init) 217 = .ok (.newarray .int, 2) := by decide +kernel
theorem d_M_init_219 : decode (cd m_M_init) 219 = .ok (.putfield 86, 3) := by decide +kernel
theorem d_M_init_222 : decode (cd m_M_init) 222 = .ok (.aload_n 0, 1) := by decide +kernel
theorem d_M_init_223 : decode (cd m_M_init) 223 = .ok (.bipush 9, 2) := by decide +kernel
theorem d_M_init_225 : decode (cd m_M_init) 225 = .ok (.newarray .boolean, 2) := by decide +kernel
theorem d_M_init_227 : decode (cd m_M_init) 227 = .ok (.putfield 89, 3) := by decide +kernel
theorem d_M_init_230 : decode (cd m_M_init) 230 = .ok (.aload_n 0, 1) := by decide +kernel
theorem d_M_init_231 : decode (cd m_M_init) 231 = .ok (.iconst 4, 1) := by decide +kernel
theorem d_M_init_232 : decode (cd m_M_init) 232 = .ok (.newarray .int, 2) := by decide +kernel
theorem d_M_init_234 : decode (cd m_M_init) 234 = .ok (.putfield 93, 3) := by decide +kernel
theorem d_M_init_237 : decode (cd m_M_init) 237 = .ok (.aload_n 0, 1) := by decide +kernel
theorem d_M_init_238 : decode (cd m_M_init) 238 = .ok (.iconst 4, 1) := by decide +kernel
theorem d_M_init_239 : decode (cd m_M_init) 239 = .ok (.newarray .long, 2) := by decide +kernel
theorem d_M_init_241 : decode (cd m_M_init) 241 = .ok (.putfield 96, 3) := by decide +kernel
theorem d_M_init_244 : decode (cd m_M_init) 244 = .ok (.aload_n 0, 1) := by decide +kernel
theorem d_M_init_245 : decode (cd m_M_init) 245 = .ok (.sipush 366, 3) := by decide +kernel
theorem d_M_init_248 : decode (cd m_M_init) 248 = .ok (.newarray .int, 2) := by decide +kernel
theorem d_M_init_250 : decode (cd m_M_init) 250 = .ok (.putfield 99, 3) := by decide +kernel
theorem d_M_init_253 : decode (cd m_M_init) 253 = .ok (.aload_n 0, 1) := by decide +kernel
theorem d_M_init_254 : decode (cd m_M_init) 254 = .ok (.sipush 366, 3) := by decide +kernel
theorem d_M_init_257 : decode (cd m_M_init) 257 = .ok (.newarray .int, 2) := by decide +kernel
theorem d_M_init_259 : decode (cd m_M_init) 259 = .ok (.putfield 102, 3) := by decide +kernel
theorem d_M_init_262 : decode (cd m_M_init) 262 = .ok (.aload_n 0, 1) := by decide +kernel
theorem d_M_init_263 : decode (cd m_M_init) 263 = .ok (.bipush 61, 2) := by decide +kernel
theorem d_M_init_265 : decode (cd m_M_init) 265 = .ok (.newarray .int, 2) := by decide +kernel
theorem d_M_init_267 : decode (cd m_M_init) 267 = .ok (.putfield 105, 3) := by decide +kernel
theorem d_M_init_270 : decode (cd m_M_init) 270 = .ok (.aload_n 0, 1) := by decide +kernel
theorem d_M_init_271 : decode (cd m_M_init) 271 = .ok (.sipush 256, 3) := by decide +kernel
theorem d_M_init_274 : decode (cd m_M_init) 274 = .ok (.newarray .boolean, 2) := by decide +kernel
theorem d_M_init_276 : decode (cd m_M_init) 276 = .ok (.putfield 108, 3) := by decide +kernel
theorem d_M_init_279 : decode (cd m_M_init) 279 = .ok (.aload_n 0, 1) := by decide +kernel
theorem d_M_init_280 : decode (cd m_M_init) 280 = .ok (.bipush 6, 2) := by decide +kernel
theorem d_M_init_282 : decode (cd m_M_init) 282 = .ok (.newarray .int, 2) := by decide +kernel
theorem d_M_init_284 : decode (cd m_M_init) 284 = .ok (.putfield 111, 3) := by decide +kernel
theorem d_M_init_287 : decode (cd m_M_init) 287 = .ok (.aload_n 0, 1) := by decide +kernel
theorem d_M_init_288 : decode (cd m_M_init) 288 = .ok (.bipush 6, 2) := by decide +kernel
theorem d_M_init_290 : decode (cd m_M_init) 290 = .ok (.newarray .int, 2) := by decide +kernel
theorem d_M_init_292 : decode (cd m_M_init) 292 = .ok (.putfield 114, 3) := by decide +kernel
theorem d_M_init_295 : decode (cd m_M_init) 295 = .ok (.aload_n 0, 1) := by decide +kernel
theorem d_M_init_296 : decode (cd m_M_init) 296 = .ok (.bipush 6, 2) := by decide +kernel
theorem d_M_init_298 : decode (cd m_M_init) 298 = .ok (.newarray .int, 2) := by decide +kernel
theorem d_M_init_300 : decode (cd m_M_init) 300 = .ok (.putfield 117, 3) := by decide +kernel
theorem d_M_init_303 : decode (cd m_M_init) 303 = .ok (.aload_n 0, 1) := by decide +kernel
theorem d_M_init_304 : decode (cd m_M_init) 304 = .ok (.bipush 9, 2) := by decide +kernel
theorem d_M_init_306 : decode (cd m_M_init) 306 = .ok (.newarray .boolean, 2) := by decide +kernel
theorem d_M_init_308 : decode (cd m_M_init) 308 = .ok (.putfield 120, 3) := by decide +kernel
theorem d_M_init_311 : decode (cd m_M_init) 311 = .ok (.aload_n 0, 1) := by decide +kernel
theorem d_M_init_312 : decode (cd m_M_init) 312 = .ok (.bipush 6, 2) := by decide +kernel
theorem d_M_init_314 : decode (cd m_M_init) 314 = .ok (.newarray .boolean, 2) := by decide +kernel
theorem d_M_init_316 : decode (cd m_M_init) 316 = .ok (.putfield 123, 3) := by decide +kernel
theorem d_M_init_319 : decode (cd m_M_init) 319 = .ok (.return_, 1) := by decide +kernel
theorem d_M_thrown_0 : decode (cd m_M_thrown) 0 = .ok (.aload_n 0, 1) := by decide +kernel
theorem d_M_thrown_1 : decode (cd m_M_thrown) 1 = .ok (.getfield 126, 3) := by decide +kernel
theorem d_M_thrown_4 : decode (cd m_M_thrown) 4 = .ok (.ireturn, 1) := by decide +kernel
theorem d_M_raise_0 : decode (cd m_M_raise) 0 = .ok (.aload_n 0, 1) := by decide +kernel
theorem d_M_raise_1 : decode (cd m_M_raise) 1 = .ok (.iload_n 1, 1) := by decide +kernel
theorem d_M_raise_2 : decode (cd m_M_raise) 2 = .ok (.putfield 126, 3) := by decide +kernel
theorem d_M_raise_5 : decode (cd m_M_raise) 5 = .ok (.iconst 0, 1) := by decide +kernel
theorem d_M_raise_6 : decode (cd m_M_raise) 6 = .ok (.ireturn, 1) := by decide +kernel
theorem d_M_type_0 : decode (cd m_M_type) 0 = .ok (.aload_n 0, 1) := by decide +kernel
theorem d_M_type_1 : decode (cd m_M_type) 1 = .ok (.iconst 0, 1) := by decide +kernel
theorem d_M_type_2 : decode (cd m_M_type) 2 = .ok (.putfield 126, 3) := by decide +kernel
theorem d_M_type_5 : decode (cd m_M_type) 5 = .ok (.iload_n 3, 1) := by decide +kernel
theorem d_M_type_6 : decode (cd m_M_type) 6 = .ok (.iconst 1, 1) := by decide +kernel
theorem d_M_type_7 : decode (cd m_M_type) 7 = .ok (.if_icmp .lt 21, 3) := by decide +kernel
theorem d_M_type_10 : decode (cd m_M_type) 10 = .ok (.iload_n 3, 1) := by decide +kernel
theorem d_M_type_11 : decode (cd m_M_type) 11 = .ok (.bipush 8, 2) := by decide +kernel
theorem d_M_type_13 : decode (cd m_M_type) 13 = .ok (.if_icmp .gt 15, 3) := by decide +kernel
theorem d_M_type_16 : decode (cd m_M_type) 16 = .ok (.aload_n 0, 1) := by decide +kernel
theorem d_M_type_17 : decode (cd m_M_type) 17 = .ok (.getfield 130, 3) := by decide +kernel
theorem d_M_type_20 : decode (cd m_M_type) 20 = .ok (.iload_n 3, 1) := by decide +kernel
theorem d_M_type_21 : decode (cd m_M_type) 21 = .ok (.iadd, 1) := by decide +kernel
theorem d_M_type_22 : decode (cd m_M_type) 22 = .ok (.sipush 600, 3) := by decide +kernel
theorem d_M_type_25 : decode (cd m_M_type) 25 = .ok (.if_icmp .le 5, 3) := by decide +kernel
theorem d_M_type_28 : decode (cd m_M_type) 28 = .ok (.iconst 0, 1) := by decide +kernel
theorem d_M_type_29 : decode (cd m_M_type) 29 = .ok (.ireturn, 1) := by decide +kernel
theorem d_M_type_30 : decode (cd m_M_type) 30 = .ok (.iconst 0, 1) := by decide +kernel
theorem d_M_type_31 : decode (cd m_M_type) 31 = .ok (.istore 4, 2) := by decide +kernel
theorem d_M_type_33 : decode (cd m_M_type) 33 = .ok (.iload 4, 2) := by decide +kernel
theorem d_M_type_35 : decode (cd m_M_type) 35 = .ok (.iload_n 3, 1) := by decide +kernel
theorem d_M_type_36 : decode (cd m_M_type) 36 = .ok (.if_icmp .ge 39, 3) := by decide +kernel
theorem d_M_type_39 : decode (cd m_M_type) 39 = .ok (.lload_n 1, 1) := by decide +kernel
theorem d_M_type_40 : decode (cd m_M_type) 40 = .ok (.bipush 8, 2) := by decide +kernel
theorem d_M_type_42 : decode (cd m_M_type) 42 = .ok (.iload 4, 2) := by decide +kernel
theorem d_M_type_44 : decode (cd m_M_type) 44 = .ok (.imul, 1) := by decide +kernel
theorem d_M_type_45 : decode (cd m_M_type) 45 = .ok (.lshr, 1) := by decide +kernel
theorem d_M_type_46 : decode (cd m_M_type) 46 = .ok (.ldc2_w 133, 3) := by decide +kernel
theorem d_M_type_49 : decode (cd m_M_type) 49 = .ok (.land, 1) := by decide +kernel
theorem d_M_type_50 : decode (cd m_M_type) 50 = .ok (.l2i, 1) := by decide +kernel
theorem d_M_type_51 : decode (cd m_M_type) 51 = .ok (.istore 5, 2) := by decide +kernel
theorem d_M_type_53 : decode (cd m_M_type) 53 = .ok (.iload 5, 2) := by decide +kernel
theorem d_M_type_55 : decode (cd m_M_type) 55 = .ok (.bipush 32, 2) := by decide +kernel
theorem d_M_type_57 : decode (cd m_M_type) 57 = .ok (.if_icmp .lt 10, 3) := by decide +kernel
theorem d_M_type_60 : decode (cd m_M_type) 60 = .ok (.iload 5, 2) := by decide +kernel
theorem d_M_type_62 : decode (cd m_M_type) 62 = .ok (.bipush 126, 2) := by decide +kernel
theorem d_M_type_64 : decode (cd m_M_type) 64 = .ok (.if_icmp .le 5, 3) := by decide +kernel
theorem d_M_type_67 : decode (cd m_M_type) 67 = .ok (.iconst 0, 1) := by decide +kernel
theorem d_M_type_68 : decode (cd m_M_type) 68 = .ok (.ireturn, 1) := by decide +kernel
theorem d_M_type_69 : decode (cd m_M_type) 69 = .ok (.iinc 4 1, 3) := by decide +kernel
theorem d_M_type_72 : decode (cd m_M_type) 72 = .ok (.goto (-39), 3) := by decide +kernel
theorem d_M_type_75 : decode (cd m_M_type) 75 = .ok (.iload_n 3, 1) := by decide +kernel
theorem d_M_type_76 : decode (cd m_M_type) 76 = .ok (.iconst 1, 1) := by decide +kernel
theorem d_M_type_77 : decode (cd m_M_type) 77 = .ok (.isub, 1) := by decide +kernel
theorem d_M_type_78 : decode (cd m_M_type) 78 = .ok (.istore 4, 2) := by decide +kernel
theorem d_M_type_80 : decode (cd m_M_type) 80 = .ok (.iload 4, 2) := by decide +kernel
theorem d_M_type_82 : decode (cd m_M_type) 82 = .ok (.ifCond .lt 40, 3) := by decide +kernel
theorem d_M_type_85 : decode (cd m_M_type) 85 = .ok (.aload_n 0, 1) := by decide +kernel
theorem d_M_type_86 : decode (cd m_M_type) 86 = .ok (.getfield 7, 3) := by decide +kernel
theorem d_M_type_89 : decode (cd m_M_type) 89 = .ok (.aload_n 0, 1) := by decide +kernel
theorem d_M_type_90 : decode (cd m_M_type) 90 = .ok (.getfield 130, 3) := by decide +kernel
theorem d_M_type_93 : decode (cd m_M_type) 93 = .ok (.lload_n 1, 1) := by decide +kernel
theorem d_M_type_94 : decode (cd m_M_type) 94 = .ok (.bipush 8, 2) := by decide +kernel
theorem d_M_type_96 : decode (cd m_M_type) 96 = .ok (.iload 4, 2) := by decide +kernel
theorem d_M_type_98 : decode (cd m_M_type) 98 = .ok (.imul, 1) := by decide +kernel
theorem d_M_type_99 : decode (cd m_M_type) 99 = .ok (.lshr, 1) := by decide +kernel
theorem d_M_type_100 : decode (cd m_M_type) 100 = .ok (.ldc2_w 133, 3) := by decide +kernel
theorem d_M_type_103 : decode (cd m_M_type) 103 = .ok (.land, 1) := by decide +kernel
theorem d_M_type_104 : decode (cd m_M_type) 104 = .ok (.l2i, 1) := by decide +kernel
theorem d_M_type_105 : decode (cd m_M_type) 105 = .ok (.iastore, 1) := by decide +kernel
theorem d_M_type_106 : decode (cd m_M_type) 106 = .ok (.aload_n 0, 1) := by decide +kernel
theorem d_M_type_107 : decode (cd m_M_type) 107 = .ok (.dup, 1) := by decide +kernel
theorem d_M_type_108 : decode (cd m_M_type) 108 = .ok (.getfield 130, 3) := by decide +kernel
theorem d_M_type_111 : decode (cd m_M_type) 111 = .ok (.iconst 1, 1) := by decide +kernel
theorem d_M_type_112 : decode (cd m_M_type) 112 = .ok (.iadd, 1) := by decide +kernel
theorem d_M_type_113 : decode (cd m_M_type) 113 = .ok (.putfield 130, 3) := by decide +kernel
theorem d_M_type_116 : decode (cd m_M_type) 116 = .ok (.iinc 4 (-1), 3) := by decide +kernel
theorem d_M_type_119 : decode (cd m_M_type) 119 = .ok (.goto (-39), 3) := by decide +kernel
theorem d_M_type_122 : decode (cd m_M_type) 122 = .ok (.iconst 1, 1) := by decide +kernel
theorem d_M_type_123 : decode (cd m_M_type) 123 = .ok (.ireturn, 1) := by decide +kernel
theorem d_M_see_0 : decode (cd m_M_see) 0 = .ok (.iload_n 1, 1) := by decide +kernel
theorem d_M_see_1 : decode (cd m_M_see) 1 = .ok (.aload_n 0, 1) := by decide +kernel
theorem d_M_see_2 : decode (cd m_M_see) 2 = .ok (.getfield 130, 3) := by decide +kernel
theorem d_M_see_5 : decode (cd m_M_see) 5 = .ok (.if_icmp .ge 12, 3) := by decide +kernel
theorem d_M_see_8 : decode (cd m_M_see) 8 = .ok (.aload_n 0, 1) := by decide +kernel
theorem d_M_see_9 : decode (cd m_M_see) 9 = .ok (.getfield 7, 3) := by decide +kernel
theorem d_M_see_12 : decode (cd m_M_see) 12 = .ok (.iload_n 1, 1) := by decide +kernel
theorem d_M_see_13 : decode (cd m_M_see) 13 = .ok (.iaload, 1) := by decide +kernel
theorem d_M_see_14 : decode (cd m_M_see) 14 = .ok (.goto 4, 3) := by decide +kernel
theorem d_M_see_17 : decode (cd m_M_see) 17 = .ok (.iconst 0, 1) := by decide +kernel
theorem d_M_see_18 : decode (cd m_M_see) 18 = .ok (.ireturn, 1) := by decide +kernel
theorem d_M_isDigit_0 : decode (cd m_M_isDigit) 0 = .ok (.iload_n 0, 1) := by decide +kernel
theorem d_M_isDigit_1 : decode (cd m_M_isDigit) 1 = .ok (.bipush 48, 2) := by decide +kernel
theorem d_M_isDigit_3 : decode (cd m_M_isDigit) 3 = .ok (.if_icmp .lt 13, 3) := by decide +kernel
theorem d_M_isDigit_6 : decode (cd m_M_isDigit) 6 = .ok (.iload_n 0, 1) := by decide +kernel
theorem d_M_isDigit_7 : decode (cd m_M_isDigit) 7 = .ok (.bipush 57, 2) := by decide +kernel
theorem d_M_isDigit_9 : decode (cd m_M_isDigit) 9 = .ok (.if_icmp .gt 7, 3) := by decide +kernel
theorem d_M_isDigit_12 : decode (cd m_M_isDigit) 12 = .ok (.iconst 1, 1) := by decide +kernel
theorem d_M_isDigit_13 : decode (cd m_M_isDigit) 13 = .ok (.goto 4, 3) := by decide +kernel
theorem d_M_isDigit_16 : decode (cd m_M_isDigit) 16 = .ok (.iconst 0, 1) := by decide +kernel
theorem d_M_isDigit_17 : decode (cd m_M_isDigit) 17 = .ok (.ireturn, 1) := by decide +kernel
theorem d_M_isSmall_0 : decode (cd m_M_isSmall) 0 = .ok (.iload_n 0, 1) := by decide +kernel
theorem d_M_isSmall_1 : decode (cd m_M_isSmall) 1 = .ok (.bipush 97, 2) := by decide +kernel
theorem d_M_isSmall_3 : decode (cd m_M_isSmall) 3 = .ok (.if_icmp .lt 13, 3) := by decide +kernel
theorem d_M_isSmall_6 : decode (cd m_M_isSmall) 6 = .ok (.iload_n 0, 1) := by decide +kernel
theorem d_M_isSmall_7 : decode (cd m_M_isSmall) 7 = .ok (.bipush 122, 2) := by decide +kernel
theorem d_M_isSmall_9 : decode (cd m_M_isSmall) 9 = .ok (.if_icmp .gt 7, 3) := by decide +kernel
theorem d_M_isSmall_12 : decode (cd m_M_isSmall) 12 = .ok (.iconst 1, 1) := by decide +kernel
theorem d_M_isSmall_13 : decode (cd m_M_isSmall) 13 = .ok (.goto 4, 3) := by decide +kernel
theorem d_M_isSmall_16 : decode (cd m_M_isSmall) 16 = .ok (.iconst 0, 1) := by decide +kernel
theorem d_M_isSmall_17 : decode (cd m_M_isSmall) 17 = .ok (.ireturn, 1) := by decide +kernel
theorem d_M_isGreat_0 : decode (cd m_M_isGreat) 0 = .ok (.iload_n 0, 1) := by decide +kernel
theorem d_M_isGreat_1 : decode (cd m_M_isGreat) 1 = .ok (.bipush 65, 2) := by decide +kernel
theorem d_M_isGreat_3 : decode (cd m_M_isGreat) 3 = .ok (.if_icmp .lt 13, 3) := by decide +kernel
theorem d_M_isGreat_6 : decode (cd m_M_isGreat) 6 = .ok (.iload_n 0, 1) := by decide +kernel
theorem d_M_isGreat_7 : decode (cd m_M_isGreat) 7 = .ok (.bipush 90, 2) := by decide +kernel
theorem d_M_isGreat_9 : decode (cd m_M_isGreat) 9 = .ok (.if_icmp .gt 7, 3) := by decide +kernel
theorem d_M_isGreat_12 : decode (cd m_M_isGreat) 12 = .ok (.iconst 1, 1) := by decide +kernel
theorem d_M_isGreat_13 : decode (cd m_M_isGreat) 13 = .ok (.goto 4, 3) := by decide +kernel
theorem d_M_isGreat_16 : decode (cd m_M_isGreat) 16 = .ok (.iconst 0, 1) := by decide +kernel
theorem d_M_isGreat_17 : decode (cd m_M_isGreat) 17 = .ok (.ireturn, 1) := by decide +kernel
theorem d_M_isPart_0 : decode (cd m_M_isPart) 0 = .ok (.iload_n 0, 1) := by decide +kernel
theorem d_M_isPart_1 : decode (cd m_M_isPart) 1 = .ok (.invokestatic 135, 3) := by decide +kernel
theorem d_M_isPart_4 : decode (cd m_M_isPart) 4 = .ok (.ifCond .ne 17, 3) := by decide +kernel
theorem d_M_isPart_7 : decode (cd m_M_isPart) 7 = .ok (.iload_n 0, 1) := by decide +kernel
theorem d_M_isPart_8 : decode (cd m_M_isPart) 8 = .ok (.invokestatic 139, 3) := by decide +kernel
theorem d_M_isPart_11 : decode (cd m_M_isPart) 11 = .ok (.ifCond .ne 10, 3) := by decide +kernel
theorem d_M_isPart_14 : decode (cd m_M_isPart) 14 = .ok (.iload_n 0, 1) := by decide +kernel
theorem d_M_isPart_15 : decode (cd m_M_isPart) 15 = .ok (.invokestatic 142, 3) := by decide +kernel
theorem d_M_isPart_18 : decode (cd m_M_isPart) 18 = .ok (.ifCond .eq 7, 3) := by decide +kernel
theorem d_M_isPart_21 : decode (cd m_M_isPart) 21 = .ok (.iconst 1, 1) := by decide +kernel
theorem d_M_isPart_22 : decode (cd m_M_isPart) 22 = .ok (.goto 4, 3) := by decide +kernel
theorem d_M_isPart_25 : decode (cd m_M_isPart) 25 = .ok (.iconst 0, 1) := by decide +kernel
theorem d_M_isPart_26 : decode (cd m_M_isPart) 26 = .ok (.ireturn, 1) := by decide +kernel
theorem d_M_token_0 : decode (cd m_M_token) 0 = .ok (.aload_n 0, 1) := by decide +kernel
theorem d_M_token_1 : decode (cd m_M_token) 1 = .ok (.getfield 13, 3) := by decide +kernel
theorem d_M_token_4 : decode (cd m_M_token) 4 = .ok (.aload_n 0, 1) := by decide +kernel
theorem d_M_token_5 : decode (cd m_M_token) 5 = .ok (.getfield 145, 3) := by decide +kernel
theorem d_M_token_8 : decode (cd m_M_token) 8 = .ok (.iload_n 1, 1) := by decide +kernel
theorem d_M_token_9 : decode (cd m_M_token) 9 = .ok (.iastore, 1) := by decide +kernel
theorem d_M_token_10 : decode (cd m_M_token) 10 = .ok (.aload_n 0, 1) := by decide +kernel
theorem d_M_token_11 : decode (cd m_M_token) 11 = .ok (.getfield 19, 3) := by decide +kernel
theorem d_M_token_14 : decode (cd m_M_token) 14 = .ok (.aload_n 0, 1) := by decide +kernel
theorem d_M_token_15 : decode (cd m_M_token) 15 = .ok (.getfield 145, 3) := by decide +kernel
theorem d_M_token_18 : decode (cd m_M_token) 18 = .ok (.iload_n 2, 1) := by decide +kernel
theorem d_M_token_19 : decode (cd m_M_token) 19 = .ok (.iastore, 1) := by decide +kernel
theorem d_M_token_20 : decode (cd m_M_token) 20 = .ok (.aload_n 0, 1) := by decide +kernel
theorem d_M_token_21 : decode (cd m_M_token) 21 = .ok (.getfield 16, 3) := by decide +kernel
theorem d_M_token_24 : decode (cd m_M_token) 24 = .ok (.aload_n 0, 1) := by decide +kernel
theorem d_M_token_25 : decode (cd m_M_token) 25 = .ok (.getfield 145, 3) := by decide +kernel
theorem d_M_token_28 : decode (cd m_M_token) 28 = .ok (.iload_n 3, 1) := by decide +kernel
theorem d_M_token_29 : decode (cd m_M_token) 29 = .ok (.iastore, 1) := by decide +kernel
theorem d_M_token_30 : decode (cd m_M_token) 30 = .ok (.aload_n 0, 1) := by decide +kernel
theorem d_M_token_31 : decode (cd m_M_token) 31 = .ok (.getfield 22, 3) := by decide +kernel
theorem d_M_token_34 : decode (cd m_M_token) 34 = .ok (.aload_n 0, 1) := by decide +kernel
theorem d_M_token_35 : decode (cd m_M_token) 35 = .ok (.getfield 145, 3) := by decide +kernel
theorem d_M_token_38 : decode (cd m_M_token) 38 = .ok (.lload 4, 2) := by decide +kernel
theorem d_M_token_40 : decode (cd m_M_token) 40 = .ok (.lastore, 1) := by decide +kernel
theorem d_M_token_41 : decode (cd m_M_token) 41 = .ok (.aload_n 0, 1) := by decide +kernel
theorem d_M_token_42 : decode (cd m_M_token) 42 = .ok (.dup, 1) := by decide +kernel
theorem d_M_token_43 : decode (cd m_M_token) 43 = .ok (.getfield 145, 3) := by decide +kernel
theorem d_M_token_46 : decode (cd m_M_token) 46 = .ok (.iconst 1, 1) := by decide +kernel
theorem d_M_token_47 : decode (cd m_M_token) 47 = .ok (.iadd, 1) := by decide +kernel
theorem d_M_token_48 : decode (cd m_M_token) 48 = .ok (.putfield 145, 3) := by decide +kernel
theorem d_M_token_51 : decode (cd m_M_token) 51 = .ok (.return_, 1) := by decide +kernel
theorem d_M_packed_0 : decode (cd m_M_packed) 0 = .ok (.iload_n 0, 1) := by decide +kernel
theorem d_M_packed_1 : decode (cd m_M_packed) 1 = .ok (.i2l, 1) := by decide +kernel
theorem d_M_packed_2 : decode (cd m_M_packed) 2 = .ok (.bipush 8, 2) := by decide +kernel
theorem d_M_packed_4 : decode (cd m_M_packed) 4 = .ok (.lshl, 1) := by decide +kernel
theorem d_M_packed_5 : decode (cd m_M_packed) 5 = .ok (.iload_n 1, 1) := by decide +kernel
theorem d_M_packed_6 : decode (cd m_M_packed) 6 = .ok (.i2l, 1) := by decide +kernel
theorem d_M_packed_7 : decode (cd m_M_packed) 7 = .ok (.lor, 1) := by decide +kernel
theorem d_M_packed_8 : decode (cd m_M_packed) 8 = .ok (.bipush 8, 2) := by decide +kernel
theorem d_M_packed_10 : decode (cd m_M_packed) 10 = .ok (.lshl, 1) := by decide +kernel
theorem d_M_packed_11 : decode (cd m_M_packed) 11 = .ok (.iload_n 2, 1) := by decide +kernel
theorem d_M_packed_12 : decode (cd m_M_packed) 12 = .ok (.i2l, 1) := by decide +kernel
theorem d_M_packed_13 : decode (cd m_M_packed) 13 = .ok (.lor, 1) := by decide +kernel
theorem d_M_packed_14 : decode (cd m_M_packed) 14 = .ok (.bipush 8, 2) := by decide +kernel
theorem d_M_packed_16 : decode (cd m_M_packed) 16 = .ok (.lshl, 1) := by decide +kernel
theorem d_M_packed_17 : decode (cd m_M_packed) 17 = .ok (.iload_n 3, 1) := by decide +kernel
theorem d_M_packed_18 : decode (cd m_M_packed) 18 = .ok (.i2l, 1) := by decide +kernel
theorem d_M_packed_19 : decode (cd m_M_packed) 19 = .ok (.lor, 1) := by decide +kernel
theorem d_M_packed_20 : decode (cd m_M_packed) 20 = .ok (.bipush 8, 2) := by decide +kernel
theorem d_M_packed_22 : decode (cd m_M_packed) 22 = .ok (.lshl, 1) := by decide +kernel
theorem d_M_packed_23 : decode (cd m_M_packed) 23 = .ok (.iload 4, 2) := by decide +kernel
theorem d_M_packed_25 : decode (cd m_M_packed) 25 = .ok (.i2l, 1) := by decide +kernel
theorem d_M_packed_26 : decode (cd m_M_packed) 26 = .ok (.lor, 1) := by decide +kernel
theorem d_M_packed_27 : decode (cd m_M_packed) 27 = .ok (.lreturn, 1) := by decide +kernel
theorem d_M_wordOf_0 : decode (cd m_M_wordOf) 0 = .ok (.lload_n 0, 1) := by decide +kernel
theorem d_M_wordOf_1 : decode (cd m_M_wordOf) 1 = .ok (.iconst 0, 1) := by decide +kernel
theorem d_M_wordOf_2 : decode (cd m_M_wordOf) 2 = .ok (.iconst 0, 1) := by decide +kernel
theorem d_M_wordOf_3 : decode (cd m_M_wordOf) 3 = .ok (.iconst 0, 1) := by decide +kernel
theorem d_M_wordOf_4 : decode (cd m_M_wordOf) 4 = .ok (.bipush 105, 2) := by decide +kernel
theorem d_M_wordOf_6 : decode (cd m_M_wordOf) 6 = .ok (.bipush 115, 2) := by decide +kernel
theorem d_M_wordOf_8 : decode (cd m_M_wordOf) 8 = .ok (.invokestatic 148, 3) := by decide +kernel
theorem d_M_wordOf_11 : decode (cd m_M_wordOf) 11 = .ok (.lcmp, 1) := by decide +kernel
theorem d_M_wordOf_12 : decode (cd m_M_wordOf) 12 = .ok (.ifCond .ne 5, 3) := by decide +kernel
theorem d_M_wordOf_15 : decode (cd m_M_wordOf) 15 = .ok (.iconst 1, 1) := by decide +kernel
theorem d_M_wordOf_16 : decode (cd m_M_wordOf) 16 = .ok (.ireturn, 1) := by decide +kernel
theorem d_M_wordOf_17 : decode (cd m_M_wordOf) 17 = .ok (.lload_n 0, 1) := by decide +kernel
theorem d_M_wordOf_18 : decode (cd m_M_wordOf) 18 = .ok (.bipush 99, 2) := by decide +kernel
theorem d_M_wordOf_20 : decode (cd m_M_wordOf) 20 = .ok (.bipush 111, 2) := by decide +kernel
theorem d_M_wordOf_22 : decode (cd m_M_wordOf) 22 = .ok (.bipush 117, 2) := by decide +kernel
theorem d_M_wordOf_24 : decode (cd m_M_wordOf) 24 = .ok (.bipush 110, 2) := by decide +kernel
theorem d_M_wordOf_26 : decode (cd m_M_wordOf) 26 = .ok (.bipush 116, 2) := by decide +kernel
theorem d_M_wordOf_28 : decode (cd m_M_wordOf) 28 = .ok (.invokestatic 148, 3) := by decide +kernel
theorem d_M_wordOf_31 : decode (cd m_M_wordOf) 31 = .ok (.lcmp, 1) := by decide +kernel
theorem d_M_wordOf_32 : decode (cd m_M_wordOf) 32 = .ok (.ifCond .ne 5, 3) := by decide +kernel
theorem d_M_wordOf_35 : decode (cd m_M_wordOf) 35 = .ok (.iconst 2, 1) := by decide +kernel
theorem d_M_wordOf_36 : decode (cd m_M_wordOf) 36 = .ok (.ireturn, 1) := by decide +kernel
theorem d_M_wordOf_37 : decode (cd m_M_wordOf) 37 = .ok (.lload_n 0, 1) := by decide +kernel
theorem d_M_wordOf_38 : decode (cd m_M_wordOf) 38 = .ok (.iconst 0, 1) := by decide +kernel
theorem d_M_wordOf_39 : decode (cd m_M_wordOf) 39 = .ok (.iconst 0, 1) := by decide +kernel
theorem d_M_wordOf_40 : decode (cd m_M_wordOf) 40 = .ok (.bipush 115, 2) := by decide +kernel
theorem d_M_wordOf_42 : decode (cd m_M_wordOf) 42 = .ok (.bipush 117, 2) := by decide +kernel
theorem d_M_wordOf_44 : decode (cd m_M_wordOf) 44 = .ok (.bipush 109, 2) := by decide +kernel
theorem d_M_wordOf_46 : decode (cd m_M_wordOf) 46 = .ok (.invokestatic 148, 3) := by decide +kernel
theorem d_M_wordOf_49 : decode (cd m_M_wordOf) 49 = .ok (.lcmp, 1) := by decide +kernel
theorem d_M_wordOf_50 : decode (cd m_M_wordOf) 50 = .ok (.ifCond .ne 5, 3) := by decide +kernel
theorem d_M_wordOf_53 : decode (cd m_M_wordOf) 53 = .ok (.iconst 3, 1) := by decide +kernel
theorem d_M_wordOf_54 : decode (cd m_M_wordOf) 54 = .ok (.ireturn, 1) := by decide +kernel
theorem d_M_wordOf_55 : decode (cd m_M_wordOf) 55 = .ok (.lload_n 0, 1) := by decide +kernel
theorem d_M_wordOf_56 : decode (cd m_M_wordOf) 56 = .ok (.bipush 108, 2) := by decide +kernel
theorem d_M_wordOf_58 : decode (cd m_M_wordOf) 58 = .ok (.bipush 101, 2) := by decide +kernel
theorem d_M_wordOf_60 : decode (cd m_M_wordOf) 60 = .ok (.bipush 97, 2) := by decide +kernel
theorem d_M_wordOf_62 : decode (cd m_M_wordOf) 62 = .ok (.bipush 115, 2) := by decide +kernel
theorem d_M_wordOf_64 : decode (cd m_M_wordOf) 64 = .ok (.bipush 116, 2) := by decide +kernel
theorem d_M_wordOf_66 : decode (cd m_M_wordOf) 66 = .ok (.invokestatic 148, 3) := by decide +kernel
theorem d_M_wordOf_69 : decode (cd m_M_wordOf) 69 = .ok (.lcmp, 1) := by decide +kernel
theorem d_M_wordOf_70 : decode (cd m_M_wordOf) 70 = .ok (.ifCond .ne 5, 3) := by decide +kernel
theorem d_M_wordOf_73 : decode (cd m_M_wordOf) 73 = .ok (.iconst 4, 1) := by decide +kernel
theorem d_M_wordOf_74 : decode (cd m_M_wordOf) 74 = .ok (.ireturn, 1) := by decide +kernel
theorem d_M_wordOf_75 : decode (cd m_M_wordOf) 75 = .ok (.lload_n 0, 1) := by decide +kernel
theorem d_M_wordOf_76 : decode (cd m_M_wordOf) 76 = .ok (.iconst 0, 1) := by decide +kernel
theorem d_M_wordOf_77 : decode (cd m_M_wordOf) 77 = .ok (.bipush 109, 2) := by decide +kernel
theorem d_M_wordOf_79 : decode (cd m_M_wordOf) 79 = .ok (.bipush 111, 2) := by decide +kernel
theorem d_M_wordOf_81 : decode (cd m_M_wordOf) 81 = .ok (.bipush 115, 2) := by decide +kernel
theorem d_M_wordOf_83 : decode (cd m_M_wordOf) 83 = .ok (.bipush 116, 2) := by decide +kernel
theorem d_M_wordOf_85 : decode (cd m_M_wordOf) 85 = .ok (.invokestatic 148, 3) := by decide +kernel
theorem d_M_wordOf_88 : decode (cd m_M_wordOf) 88 = .ok (.lcmp, 1) := by decide +kernel
theorem d_M_wordOf_89 : decode (cd m_M_wordOf) 89 = .ok (.ifCond .ne 7, 3) := by decide +kernel
theorem d_M_wordOf_92 : decode (cd m_M_wordOf) 92 = .ok (.iconst 5, 1) := by decide +kernel
theorem d_M_wordOf_93 : decode (cd m_M_wordOf) 93 = .ok (.goto 4, 3) := by decide +kernel
theorem d_M_wordOf_96 : decode (cd m_M_wordOf) 96 = .ok (.iconst 0, 1) := by decide +kernel
theorem d_M_wordOf_97 : decode (cd m_M_wordOf) 97 = .ok (.ireturn, 1) := by decide +kernel
theorem d_M_tokenize_0 : decode (cd m_M_tokenize) 0 = .ok (.aload_n 0, 1) := by decide +kernel
theorem d_M_tokenize_1 : decode (cd m_M_tokenize) 1 = .ok (.iconst 0, 1) := by decide +kernel
theorem d_M_tokenize_2 : decode (cd m_M_tokenize) 2 = .ok (.putfield 145, 3) := by decide +kernel
theorem d_M_tokenize_5 : decode (cd m_M_tokenize) 5 = .ok (.iconst 0, 1) := by decide +kernel
theorem d_M_tokenize_6 : decode (cd m_M_tokenize) 6 = .ok (.istore_n 1, 1) := by decide +kernel
theorem d_M_tokenize_7 : decode (cd m_M_tokenize) 7 = .ok (.iconst 1, 1) := by decide +kernel
theorem d_M_tokenize_8 : decode (cd m_M_tokenize) 8 = .ok (.istore_n 2, 1) := by decide +kernel
theorem d_M_tokenize_9 : decode (cd m_M_tokenize) 9 = .ok (.iload_n 2, 1) := by decide +kernel
theorem d_M_tokenize_10 : decode (cd m_M_tokenize) 10 = .ok (.ifCond .eq 59, 3) := by decide +kernel
theorem d_M_tokenize_13 : decode (cd m_M_tokenize) 13 = .ok (.iload_n 1, 1) := by decide +kernel
theorem d_M_tokenize_14 : decode (cd m_M_tokenize) 14 = .ok (.aload_n 0, 1) := by decide +kernel
theorem d_M_tokenize_15 : decode (cd m_M_tokenize) 15 = .ok (.getfield 130, 3) := by decide +kernel
theorem d_M_tokenize_18 : decode (cd m_M_tokenize) 18 = .ok (.if_icmp .ge 51, 3) := by decide +kernel
theorem d_M_tokenize_21 : decode (cd m_M_tokenize) 21 = .ok (.aload_n 0, 1) := by decide +kernel
theorem d_M_tokenize_22 : decode (cd m_M_tokenize) 22 = .ok (.getfield 7, 3) := by decide +kernel
theorem d_M_tokenize_25 : decode (cd m_M_tokenize) 25 = .ok (.iload_n 1, 1) := by decide +kernel
theorem d_M_tokenize_26 : decode (cd m_M_tokenize) 26 = .ok (.iaload, 1) := by decide +kernel
theorem d_M_tokenize_27 : decode (cd m_M_tokenize) 27 = .ok (.bipush 32, 2) := by decide +kernel
theorem d_M_tokenize_29 : decode (cd m_M_tokenize) 29 = .ok (.if_icmp .ne 9, 3) := by decide +kernel
theorem d_M_tokenize_32 : decode (cd m_M_tokenize) 32 = .ok (.iinc 1 1, 3) := by decide +kernel
theorem d_M_tokenize_35 : decode (cd m_M_tokenize) 35 = .ok (.goto (-26), 3) := by decide +kernel
theorem d_M_tokenize_38 : decode (cd m_M_tokenize) 38 = .ok (.aload_n 0, 1) := by decide +kernel
theorem d_M_tokenize_39 : decode (cd m_M_tokenize) 39 = .ok (.iload_n 1, 1) := by decide +kernel
theorem d_M_tokenize_40 : decode (cd m_M_tokenize) 40 = .ok (.invokevirtual 152, 3) := by decide +kernel
theorem d_M_tokenize_43 : decode (cd m_M_tokenize) 43 = .ok (.istore_n 1, 1) := by decide +kernel
theorem d_M_tokenize_44 : decode (cd m_M_tokenize) 44 = .ok (.aload_n 0, 1) := by decide +kernel
theorem d_M_tokenize_45 : decode (cd m_M_tokenize) 45 = .ok (.getfield 13, 3) := by decide +kernel
theorem d_M_tokenize_48 : decode (cd m_M_tokenize) 48 = .ok (.aload_n 0, 1) := by decide +kernel
theorem d_M_tokenize_49 : decode (cd m_M_tokenize) 49 = .ok (.getfield 145, 3) := by decide +kernel
theorem d_M_tokenize_52 : decode (cd m_M_tokenize) 52 = .ok (.iconst 1, 1) := by decide +kernel
theorem d_M_tokenize_53 : decode (cd m_M_tokenize) 53 = .ok (.isub, 1) := by decide +kernel
theorem d_M_tokenize_54 : decode (cd m_M_tokenize) 54 = .ok (.iaload, 1) := by decide +kernel
theorem d_M_tokenize_55 : decode (cd m_M_tokenize) 55 = .ok (.bipush 6, 2) := by decide +kernel
theorem d_M_tokenize_57 : decode (cd m_M_tokenize) 57 = .ok (.if_icmp .eq 7, 3) := by decide +kernel
theorem d_M_tokenize_60 : decode (cd m_M_tokenize) 60 = .ok (.iconst 1, 1) := by decide +kernel
theorem d_M_tokenize_61 : decode (cd m_M_tokenize) 61 = .ok (.goto 4, 3) := by decide +kernel
theorem d_M_tokenize_64 : decode (cd m_M_tokenize) 64 = .ok (.iconst 0, 1) := by decide +kernel
theorem d_M_tokenize_65 : decode (cd m_M_tokenize) 65 = .ok (.istore_n 2, 1) := by decide +kernel
theorem d_M_tokenize_66 : decode (cd m_M_tokenize) 66 = .ok (.goto (-57), 3) := by decide +kernel
theorem d_M_tokenize_69 : decode (cd m_M_tokenize) 69 = .ok (.aload_n 0, 1) := by decide +kernel
theorem d_M_tokenize_70 : decode (cd m_M_tokenize) 70 = .ok (.iconst 0, 1) := by decide +kernel
theorem d_M_tokenize_71 : decode (cd m_M_tokenize) 71 = .ok (.iconst 0, 1) := by decide +kernel
theorem d_M_tokenize_72 : decode (cd m_M_tokenize) 72 = .ok (.aload_n 0, 1) := by decide +kernel
theorem d_M_tokenize_73 : decode (cd m_M_tokenize) 73 = .ok (.getfield 130, 3) := by decide +kernel
theorem d_M_tokenize_76 : decode (cd m_M_tokenize) 76 = .ok (.lconst 0, 1) := by decide +kernel
theorem d_M_tokenize_77 : decode (cd m_M_tokenize) 77 = .ok (.invokevirtual 156, 3) := by decide +kernel
theorem d_M_tokenize_80 : decode (cd m_M_tokenize) 80 = .ok (.return_, 1) := by decide +kernel
theorem d_M_oneToken_0 : decode (cd m_M_oneToken) 0 = .ok (.aload_n 0, 1) := by decide +kernel
theorem d_M_oneToken_1 : decode (cd m_M_oneToken) 1 = .ok (.getfield 7, 3) := by decide +kernel
theorem d_M_oneToken_4 : decode (cd m_M_oneToken) 4 = .ok (.iload_n 1, 1) := by decide +kernel
theorem d_M_oneToken_5 : decode (cd m_M_oneToken) 5 = .ok (.iaload, 1) := by decide +kernel
theorem d_M_oneToken_6 : decode (cd m_M_oneToken) 6 = .ok (.istore_n 2, 1) := by decide +kernel
theorem d_M_oneToken_7 : decode (cd m_M_oneToken) 7 = .ok (.iload_n 1, 1) := by decide +kernel
theorem d_M_oneToken_8 : decode (cd m_M_oneToken) 8 = .ok (.iconst 1, 1) := by decide +kernel
theorem d_M_oneToken_9 : decode (cd m_M_oneToken) 9 = .ok (.iadd, 1) := by decide +kernel
theorem d_M_oneToken_10 : decode (cd m_M_oneToken) 10 = .ok (.istore_n 3, 1) := by decide +kernel
theorem d_M_oneToken_11 : decode (cd m_M_oneToken) 11 = .ok (.iload_n 2, 1) := by decide +kernel
theorem d_M_oneToken_12 : decode (cd m_M_oneToken) 12 = .ok (.i2l, 1) := by decide +kernel
theorem d_M_oneToken_13 : decode (cd m_M_oneToken) 13 = .ok (.lstore 4, 2) := by decide +kernel
theorem d_M_oneToken_15 : decode (cd m_M_oneToken) 15 = .ok (.iload_n 2, 1) := by decide +kernel
theorem d_M_oneToken_16 : decode (cd m_M_oneToken) 16 = .ok (.invokestatic 142, 3) := by decide +kernel
theorem d_M_oneToken_19 : decode (cd m_M_oneToken) 19 = .ok (.ifCond .eq 84, 3) := by decide +kernel
theorem d_M_oneToken_22 : decode (cd m_M_oneToken) 22 = .ok (.iload_n 2, 1) := by decide +kernel
theorem d_M_oneToken_23 : decode (cd m_M_oneToken) 23 = .ok (.bipush 48, 2) := by decide +kernel
theorem d_M_oneToken_25 : decode (cd m_M_oneToken) 25 = .ok (.isub, 1) := by decide +kernel
theorem d_M_oneToken_26 : decode (cd m_M_oneToken) 26 = .ok (.i2l, 1) := by decide +kernel
theorem d_M_oneToken_27 : decode (cd m_M_oneToken) 27 = .ok (.lstore 4, 2) := by decide +kernel
theorem d_M_oneToken_29 : decode (cd m_M_oneToken) 29 = .ok (.aload_n 0, 1) := by decide +kernel
theorem d_M_oneToken_30 : decode (cd m_M_oneToken) 30 = .ok (.iload_n 3, 1) := by decide +kernel
theorem d_M_oneToken_31 : decode (cd m_M_oneToken) 31 = .ok (.invokevirtual 160, 3) := by decide +kernel
theorem d_M_oneToken_34 : decode (cd m_M_oneToken) 34 = .ok (.invokestatic 142, 3) := by decide +kernel
theorem d_M_oneToken_37 : decode (cd m_M_oneToken) 37 = .ok (.ifCond .eq 41, 3) := by decide +kernel
theorem d_M_oneToken_40 : decode (cd m_M_oneToken) 40 = .ok (.iload_n 3, 1) := by decide +kernel
theorem d_M_oneToken_41 : decode (cd m_M_oneToken) 41 = .ok (.iload_n 1, 1) := by decide +kernel
theorem d_M_oneToken_42 : decode (cd m_M_oneToken) 42 = .ok (.isub, 1) := by decide +kernel
theorem d_M_oneToken_43 : decode (cd m_M_oneToken) 43 = .ok (.bipush 9, 2) := by decide +kernel
theorem d_M_oneToken_45 : decode (cd m_M_oneToken) 45 = .ok (.if_icmp .ge 23, 3) := by decide +kernel
theorem d_M_oneToken_48 : decode (cd m_M_oneToken) 48 = .ok (.ldc2_w 163, 3) := by decide +kernel
theorem d_M_oneToken_51 : decode (cd m_M_oneToken) 51 = .ok (.lload 4, 2) := by decide +kernel
theorem d_M_oneToken_53 : decode (cd m_M_oneToken) 53 = .ok (.lmul, 1) := by decide +kernel
theorem d_M_oneToken_54 : decode (cd m_M_oneToken) 54 = .ok (.aload_n 0, 1) := by decide +kernel
theorem d_M_oneToken_55 : decode (cd m_M_oneToken) 55 = .ok (.iload_n 3, 1) := by decide +kernel
theorem d_M_oneToken_56 : decode (cd m_M_oneToken) 56 = .ok (.invokevirtual 160, 3) := by decide +kernel
theorem d_M_oneToken_59 : decode (cd m_M_oneToken) 59 = .ok (.i2l, 1) := by decide +kernel
theorem d_M_oneToken_60 : decode (cd m_M_oneToken) 60 = .ok (.ladd, 1) := by decide +kernel
theorem d_M_oneToken_61 : decode (cd m_M_oneToken) 61 = .ok (.ldc2_w 165, 3) := by decide +kernel
theorem d_M_oneToken_64 : decode (cd m_M_oneToken) 64 = .ok (.lsub, 1) := by decide +kernel
theorem d_M_oneToken_65 : decode (cd m_M_oneToken) 65 = .ok (.goto 5, 3) := by decide +kernel
theorem d_M_oneToken_68 : decode (cd m_M_oneToken) 68 = .ok (.lload 4, 2) := by decide +kernel
theorem d_M_oneToken_70 : decode (cd m_M_oneToken) 70 = .ok (.lstore 4, 2) := by decide +kernel
theorem d_M_oneToken_72 : decode (cd m_M_oneToken) 72 = .ok (.iinc 3 1, 3) := by decide +kernel
theorem d_M_oneToken_75 : decode (cd m_M_oneToken) 75 = .ok (.goto (-46), 3) := by decide +kernel
theorem d_M_oneToken_78 : decode (cd m_M_oneToken) 78 = .ok (.aload_n 0, 1) := by decide +kernel
theorem d_M_oneToken_79 : decode (cd m_M_oneToken) 79 = .ok (.iload_n 3, 1) := by decide +kernel
theorem d_M_oneToken_80 : decode (cd m_M_oneToken) 80 = .ok (.iload_n 1, 1) := by decide +kernel
theorem d_M_oneToken_81 : decode (cd m_M_oneToken) 81 = .ok (.isub, 1) := by decide +kernel
theorem d_M_oneToken_82 : decode (cd m_M_oneToken) 82 = .ok (.bipush 9, 2) := by decide +kernel
theorem d_M_oneToken_84 : decode (cd m_M_oneToken) 84 = .ok (.if_icmp .le 8, 3) := by decide +kernel
theorem d_M_oneToken_87 : decode (cd m_M_oneToken) 87 = .ok (.bipush 6, 2) := by decide +kernel
theorem d_M_oneToken_89 : decode (cd m_M_oneToken) 89 = .ok (.goto 4, 3) := by decide +kernel
theorem d_M_oneToken_92 : decode (cd m_M_oneToken) 92 = .ok (.iconst 3, 1) := by decide +kernel
theorem d_M_oneToken_93 : decode (cd m_M_oneToken) 93 = .ok (.iconst 0, 1) := by decide +kernel
theorem d_M_oneToken_94 : decode (cd m_M_oneToken) 94 = .ok (.iload_n 1, 1) := by decide +kernel
theorem d_M_oneToken_95 : decode (cd m_M_oneToken) 95 = .ok (.lload 4, 2) := by decide +kernel
theorem d_M_oneToken_97 : decode (cd m_M_oneToken) 97 = .ok (.invokevirtual 156, 3) := by decide +kernel
theorem d_M_oneToken_100 : decode (cd m_M_oneToken) 100 = .ok (.goto 421, 3) := by decide +kernel
theorem d_M_oneToken_103 : decode (cd m_M_oneToken) 103 = .ok (.iload_n 2, 1) := by decide +kernel
theorem d_M_oneToken_104 : decode (cd m_M_oneToken) 104 = .ok (.invokestatic 135, 3) := by decide +kernel
theorem d_M_oneToken_107 : decode (cd m_M_oneToken) 107 = .ok (.ifCond .eq 111, 3) := by decide +kernel
theorem d_M_oneToken_110 : decode (cd m_M_oneToken) 110 = .ok (.aload_n 0, 1) := by decide +kernel
theorem d_M_oneToken_111 : decode (cd m_M_oneToken) 111 = .ok (.iload_n 3, 1) := by decide +kernel
theorem d_M_oneToken_112 : decode (cd m_M_oneToken) 112 = .ok (.invokevirtual 160, 3) := by decide +kernel
theorem d_M_oneToken_115 : decode (cd m_M_oneToken) 115 = .ok (.invokestatic 135, 3) := by decide +kernel
theorem d_M_oneToken_118 : decode (cd m_M_oneToken) 118 = .ok (.ifCond .ne 14, 3) := by decide +kernel
theorem d_M_oneToken_121 : decode (cd m_M_oneToken) 121 = .ok (.aload_n 0, 1) := by decide +kernel
theorem d_M_oneToken_122 : decode (cd m_M_oneToken) 122 = .ok (.iload_n 3, 1) := by decide +kernel
theorem d_M_oneToken_123 : decode (cd m_M_oneToken) 123 = .ok (.invokevirtual 160, 3) := by decide +kernel
theorem d_M_oneToken_126 : decode (cd m_M_oneToken) 126 = .ok (.invokestatic 142, 3) := by decide +kernel
theorem d_M_oneToken_129 : decode (cd m_M_oneToken) 129 = .ok (.ifCond .eq 36, 3) := by decide +kernel
theorem d_M_oneToken_132 : decode (cd m_M_oneToken) 132 = .ok (.iload_n 3, 1) := by decide +kernel
theorem d_M_oneToken_133 : decode (cd m_M_oneToken) 133 = .ok (.iload_n 1, 1) := by decide +kernel
theorem d_M_oneToken_134 : decode (cd m_M_oneToken) 134 = .ok (.isub, 1) := by decide +kernel
theorem d_M_oneToken_135 : decode (cd m_M_oneToken) 135 = .ok (.bipush 7, 2) := by decide +kernel
theorem d_M_oneToken_137 : decode (cd m_M_oneToken) 137 = .ok (.if_icmp .ge 18, 3) := by decide +kernel
theorem d_M_oneToken_140 : decode (cd m_M_oneToken) 140 = .ok (.lload 4, 2) := by decide +kernel
theorem d_M_oneToken_142 : decode (cd m_M_oneToken) 142 = .ok (.bipush 8, 2) := by decide +kernel
theorem d_M_oneToken_144 : decode (cd m_M_oneToken) 144 = .ok (.lshl, 1) := by decide +kernel
theorem d_M_oneToken_145 : decode (cd m_M_oneToken) 145 = .ok (.aload_n 0, 1) := by decide +kernel
theorem d_M_oneToken_146 : decode (cd m_M_oneToken) 146 = .ok (.iload_n 3, 1) := by decide +kernel
theorem d_M_oneToken_147 : decode (cd m_M_oneToken) 147 = .ok (.invokevirtual 160, 3) := by decide +kernel
theorem d_M_oneToken_150 : decode (cd m_M_oneToken) 150 = .ok (.i2l, 1) := by decide +kernel
theorem d_M_oneToken_151 : decode (cd m_M_oneToken) 151 = .ok (.lor, 1) := by decide +kernel
theorem d_M_oneToken_152 : decode (cd m_M_oneToken) 152 = .ok (.goto 5, 3) := by decide +kernel
theorem d_M_oneToken_155 : decode (cd m_M_oneToken) 155 = .ok (.lload 4, 2) := by decide +kernel
theorem d_M_oneToken_157 : decode (cd m_M_oneToken) 157 = .ok (.lstore 4, 2) := by decide +kernel
theorem d_M_oneToken_159 : decode (cd m_M_oneToken) 159 = .ok (.iinc 3 1, 3) := by decide +kernel
theorem d_M_oneToken_162 : decode (cd m_M_oneToken) 162 = .ok (.goto (-52), 3) := by decide +kernel
theorem d_M_oneToken_165 : decode (cd m_M_oneToken) 165 = .ok (.iload_n 3, 1) := by decide +kernel
theorem d_M_oneToken_166 : decode (cd m_M_oneToken) 166 = .ok (.iload_n 1, 1) := by decide +kernel
theorem d_M_oneToken_167 : decode (cd m_M_oneToken) 167 = .ok (.isub, 1) := by decide +kernel
theorem d_M_oneToken_168 : decode (cd m_M_oneToken) 168 = .ok (.iconst 5, 1) := by decide +kernel
theorem d_M_oneToken_169 : decode (cd m_M_oneToken) 169 = .ok (.if_icmp .le 7, 3) := by decide +kernel
theorem d_M_oneToken_172 : decode (cd m_M_oneToken) 172 = .ok (.iconst 0, 1) := by decide +kernel
theorem d_M_oneToken_173 : decode (cd m_M_oneToken) 173 = .ok (.goto 8, 3) := by decide +kernel
theorem d_M_oneToken_176 : decode (cd m_M_oneToken) 176 = .ok (.lload 4, 2) := by decide +kernel
theorem d_M_oneToken_178 : decode (cd m_M_oneToken) 178 = .ok (.invokestatic 167, 3) := by decide +kernel
theorem d_M_oneToken_181 : decode (cd m_M_oneToken) 181 = .ok (.istore 6, 2) := by decide +kernel
theorem d_M_oneToken_183 : decode (cd m_M_oneToken) 183 = .ok (.aload_n 0, 1) := by decide +kernel
theorem d_M_oneToken_184 : decode (cd m_M_oneToken) 184 = .ok (.iload 6, 2) := by decide +kernel
theorem d_M_oneToken_186 : decode (cd m_M_oneToken) 186 = .ok (.ifCond .le 7, 3) := by decide +kernel
theorem d_M_oneToken_189 : decode (cd m_M_oneToken) 189 = .ok (.iconst 5, 1) := by decide +kernel
theorem d_M_oneToken_190 : decode (cd m_M_oneToken) 190 = .ok (.goto 17, 3) := by decide +kernel
theorem d_M_oneToken_193 : decode (cd m_M_oneToken) 193 = .ok (.iload_n 3, 1) := by decide +kernel
theorem d_M_oneToken_194 : decode (cd m_M_oneToken) 194 = .ok (.iload_n 1, 1) := by decide +kernel
theorem d_M_oneToken_195 : decode (cd m_M_oneToken) 195 = .ok (.isub, 1) := by decide +kernel
theorem d_M_oneToken_196 : decode (cd m_M_oneToken) 196 = .ok (.bipush 6, 2) := by decide +kernel
theorem d_M_oneToken_198 : decode (cd m_M_oneToken) 198 = .ok (.if_icmp .le 8, 3) := by decide +kernel
theorem d_M_oneToken_201 : decode (cd m_M_oneToken) 201 = .ok (.bipush 6, 2) := by decide +kernel
theorem d_M_oneToken_203 : decode (cd m_M_oneToken) 203 = .ok (.goto 4, 3) := by decide +kernel
theorem d_M_oneToken_206 : decode (cd m_M_oneToken) 206 = .ok (.iconst 1, 1) := by decide +kernel
theorem d_M_oneToken_207 : decode (cd m_M_oneToken) 207 = .ok (.iload 6, 2) := by decide +kernel
theorem d_M_oneToken_209 : decode (cd m_M_oneToken) 209 = .ok (.iload_n 1, 1) := by decide +kernel
theorem d_M_oneToken_210 : decode (cd m_M_oneToken) 210 = .ok (.lload 4, 2) := by decide +kernel
theorem d_M_oneToken_212 : decode (cd m_M_oneToken) 212 = .ok (.invokevirtual 156, 3) := by decide +kernel
theorem d_M_oneToken_215 : decode (cd m_M_oneToken) 215 = .ok (.goto 306, 3) := by decide +kernel
theorem d_M_oneToken_218 : decode (cd m_M_oneToken) 218 = .ok (.iload_n 2, 1) := by decide +kernel
theorem d_M_oneToken_219 : decode (cd m_M_oneToken) 219 = .ok (.invokestatic 139, 3) := by decide +kernel
theorem d_M_oneToken_222 : decode (cd m_M_oneToken) 222 = .ok (.ifCond .eq 70, 3) := by decide +kernel
theorem d_M_oneToken_225 : decode (cd m_M_oneToken) 225 = .ok (.aload_n 0, 1) := by decide +kernel
theorem d_M_oneToken_226 : decode (cd m_M_oneToken) 226 = .ok (.iload_n 3, 1) := by decide +kernel
theorem d_M_oneToken_227 : decode (cd m_M_oneToken) 227 = .ok (.invokevirtual 160, 3) := by decide +kernel
theorem d_M_oneToken_230 : decode (cd m_M_oneToken) 230 = .ok (.invokestatic 171, 3) := by decide +kernel
theorem d_M_oneToken_233 : decode (cd m_M_oneToken) 233 = .ok (.ifCond .eq 35, 3) := by decide +kernel
theorem d_M_oneToken_236 : decode (cd m_M_oneToken) 236 = .ok (.iload_n 3, 1) := by decide +kernel
theorem d_M_oneToken_237 : decode (cd m_M_oneToken) 237 = .ok (.iload_n 1, 1) := by decide +kernel
theorem d_M_oneToken_238 : decode (cd m_M_oneToken) 238 = .ok (.isub, 1) := by decide +kernel
theorem d_M_oneToken_239 : decode (cd m_M_oneToken) 239 = .ok (.iconst 5, 1) := by decide +kernel
theorem d_M_oneToken_240 : decode (cd m_M_oneToken) 240 = .ok (.if_icmp .ge 18, 3) := by decide +kernel
theorem d_M_oneToken_243 : decode (cd m_M_oneToken) 243 = .ok (.lload 4, 2) := by decide +kernel
theorem d_M_oneToken_245 : decode (cd m_M_oneToken) 245 = .ok (.bipush 8, 2) := by decide +kernel
theorem d_M_oneToken_247 : decode (cd m_M_oneToken) 247 = .ok (.lshl, 1) := by decide +kernel
theorem d_M_oneToken_248 : decode (cd m_M_oneToken) 248 = .ok (.aload_n 0, 1) := by decide +kernel
theorem d_M_oneToken_249 : decode (cd m_M_oneToken) 249 = .ok (.iload_n 3, 1) := by decide +kernel
theorem d_M_oneToken_250 : decode (cd m_M_oneToken) 250 = .ok (.invokevirtual 160, 3) := by decide +kernel
theorem d_M_oneToken_253 : decode (cd m_M_oneToken) 253 = .ok (.i2l, 1) := by decide +kernel
theorem d_M_oneToken_254 : decode (cd m_M_oneToken) 254 = .ok (.lor, 1) := by decide +kernel
theorem d_M_oneToken_255 : decode (cd m_M_oneToken) 255 = .ok (.goto 5, 3) := by decide +kernel
theorem d_M_oneToken_258 : decode (cd m_M_oneToken) 258 = .ok (.lload 4, 2) := by decide +kernel
theorem d_M_oneToken_260 : decode (cd m_M_oneToken) 260 = .ok (.lstore 4, 2) := by decide +kernel
theorem d_M_oneToken_262 : decode (cd m_M_oneToken) 262 = .ok (.iinc 3 1, 3) := by decide +kernel
theorem d_M_oneToken_265 : decode (cd m_M_oneToken) 265 = .ok (.goto (-40), 3) := by decide +kernel
theorem d_M_oneToken_268 : decode (cd m_M_oneToken) 268 = .ok (.aload_n 0, 1) := by decide +kernel
theorem d_M_oneToken_269 : decode (cd m_M_oneToken) 269 = .ok (.iload_n 3, 1) := by decide +kernel
theorem d_M_oneToken_270 : decode (cd m_M_oneToken) 270 = .ok (.iload_n 1, 1) := by decide +kernel
theorem d_M_oneToken_271 : decode (cd m_M_oneToken) 271 = .ok (.isub, 1) := by decide +kernel
theorem d_M_oneToken_272 : decode (cd m_M_oneToken) 272 = .ok (.iconst 4, 1) := by decide +kernel
theorem d_M_oneToken_273 : decode (cd m_M_oneToken) 273 = .ok (.if_icmp .le 8, 3) := by decide +kernel
theorem d_M_oneToken_276 : decode (cd m_M_oneToken) 276 = .ok (.bipush 6, 2) := by decide +kernel
theorem d_M_oneToken_278 : decode (cd m_M_oneToken) 278 = .ok (.goto 4, 3) := by decide +kernel
theorem d_M_oneToken_281 : decode (cd m_M_oneToken) 281 = .ok (.iconst 2, 1) := by decide +kernel
theorem d_M_oneToken_282 : decode (cd m_M_oneToken) 282 = .ok (.iconst 0, 1) := by decide +kernel
theorem d_M_oneToken_283 : decode (cd m_M_oneToken) 283 = .ok (.iload_n 1, 1) := by decide +kernel
theorem d_M_oneToken_284 : decode (cd m_M_oneToken) 284 = .ok (.lload 4, 2) := by decide +kernel
theorem d_M_oneToken_286 : decode (cd m_M_oneToken) 286 = .ok (.invokevirtual 156, 3) := by decide +kernel
theorem d_M_oneToken_289 : decode (cd m_M_oneToken) 289 = .ok (.goto 232, 3) := by decide +kernel
theorem d_M_oneToken_292 : decode (cd m_M_oneToken) 292 = .ok (.aload_n 0, 1) := by decide +kernel
theorem d_M_oneToken_293 : decode (cd m_M_oneToken) 293 = .ok (.iload_n 3, 1) := by decide +kernel
theorem d_M_oneToken_294 : decode (cd m_M_oneToken) 294 = .ok (.invokevirtual 160, 3) := by decide +kernel
theorem d_M_oneToken_297 : decode (cd m_M_oneToken) 297 = .ok (.istore 6, 2) := by decide +kernel
theorem d_M_oneToken_299 : decode (cd m_M_oneToken) 299 = .ok (.iload_n 2, 1) := by decide +kernel
theorem d_M_oneToken_300 : decode (cd m_M_oneToken) 300 = .ok (.bipush 58, 2) := by decide +kernel
theorem d_M_oneToken_302 : decode (cd m_M_oneToken) 302 = .ok (.if_icmp .ne 16, 3) := by decide +kernel
theorem d_M_oneToken_305 : decode (cd m_M_oneToken) 305 = .ok (.iload 6, 2) := by decide +kernel
theorem d_M_oneToken_307 : decode (cd m_M_oneToken) 307 = .ok (.bipush 45, 2) := by decide +kernel
theorem d_M_oneToken_309 : decode (cd m_M_oneToken) 309 = .ok (.if_icmp .ne 9, 3) := by decide +kernel
theorem d_M_oneToken_312 : decode (cd m_M_oneToken) 312 = .ok (.sipush 300, 3) := by decide +kernel
theorem d_M_oneToken_315 : decode (cd m_M_oneToken) 315 = .ok (.goto 61, 3) := by decide +kernel
theorem d_M_oneToken_318 : decode (cd m_M_oneToken) 318 = .ok (.iload_n 2, 1) := by decide +kernel
theorem d_M_oneToken_319 : decode (cd m_M_oneToken) 319 = .ok (.bipush 33, 2) := by decide +kernel
theorem d_M_oneToken_321 : decode (cd m_M_oneToken) 321 = .ok (.if_icmp .ne 16, 3) := by decide +kernel
theorem d_M_oneToken_324 : decode (cd m_M_oneToken) 324 = .ok (.iload 6, 2) := by decide +kernel
theorem d_M_oneToken_326 : decode (cd m_M_oneToken) 326 = .ok (.bipush 61, 2) := by decide +kernel
theorem d_M_oneToken_328 : decode (cd m_M_oneToken) 328 = .ok (.if_icmp .ne 9, 3) := by decide +kernel
theorem d_M_oneToken_331 : decode (cd m_M_oneToken) 331 = .ok (.sipush 301, 3) := by decide +kernel
theorem d_M_oneToken_334 : decode (cd m_M_oneToken) 334 = .ok (.goto 42, 3) := by decide +kernel
theorem d_M_oneToken_337 : decode (cd m_M_oneToken) 337 = .ok (.iload_n 2, 1) := by decide +kernel
theorem d_M_oneToken_338 : decode (cd m_M_oneToken) 338 = .ok (.bipush 60, 2) := by decide +kernel
theorem d_M_oneToken_340 : decode (cd m_M_oneToken) 340 = .ok (.if_icmp .ne 16, 3) := by decide +kernel
theorem d_M_oneToken_343 : decode (cd m_M_oneToken) 343 = .ok (.iload 6, 2) := by decide +kernel
theorem d_M_oneToken_345 : decode (cd m_M_oneToken) 345 = .ok (.bipush 61, 2) := by decide +kernel
theorem d_M_oneToken_347 : decode (cd m_M_oneToken) 347 = .ok (.if_icmp .ne 9, 3) := by decide +kernel
theorem d_M_oneToken_350 : decode (cd m_M_oneToken) 350 = .ok (.sipush 302, 3) := by decide +kernel
theorem d_M_oneToken_353 : decode (cd m_M_oneToken) 353 = .ok (.goto 23, 3) := by decide +kernel
theorem d_M_oneToken_356 : decode (cd m_M_oneToken) 356 = .ok (.iload_n 2, 1) := by decide +kernel
theorem d_M_oneToken_357 : decode (cd m_M_oneToken) 357 = .ok (.bipush 62, 2) := by decide +kernel
theorem d_M_oneToken_359 : decode (cd m_M_oneToken) 359 = .ok (.if_icmp .ne 16, 3) := by decide +kernel
theorem d_M_oneToken_362 : decode (cd m_M_oneToken) 362 = .ok (.iload 6, 2) := by decide +kernel
theorem d_M_oneToken_364 : decode (cd m_M_oneToken) 364 = .ok (.bipush 61, 2) := by decide +kernel
theorem d_M_oneToken_366 : decode (cd m_M_oneToken) 366 = .ok (.if_icmp .ne 9, 3) := by decide +kernel
theorem d_M_oneToken_369 : decode (cd m_M_oneToken) 369 = .ok (.sipush 303, 3) := by decide +kernel
theorem d_M_oneToken_372 : decode (cd m_M_oneToken) 372 = .ok (.goto 4, 3) := by decide +kernel
theorem d_M_oneToken_375 : decode (cd m_M_oneToken) 375 = .ok (.iconst 0, 1) := by decide +kernel
theorem d_M_oneToken_376 : decode (cd m_M_oneToken) 376 = .ok (.istore 7, 2) := by decide +kernel
theorem d_M_oneToken_378 : decode (cd m_M_oneToken) 378 = .ok (.iload_n 2, 1) := by decide +kernel
theorem d_M_oneToken_379 : decode (cd m_M_oneToken) 379 = .ok (.bipush 40, 2) := by decide +kernel
theorem d_M_oneToken_381 : decode (cd m_M_oneToken) 381 = .ok (.if_icmp .eq 87, 3) := by decide +kernel
theorem d_M_oneToken_384 : decode (cd m_M_oneToken) 384 = .ok (.iload_n 2, 1) := by decide +kernel
theorem d_M_oneToken_385 : decode (cd m_M_oneToken) 385 = .ok (.bipush 41, 2) := by decide +kernel
theorem d_M_oneToken_387 : decode (cd m_M_oneToken) 387 = .ok (.if_icmp .eq 81, 3) := by decide +kernel
theorem d_M_oneToken_390 : decode (cd m_M_oneToken) 390 = .ok (.iload_n 2, 1) := by decide +kernel
theorem d_M_oneToken_391 : decode (cd m_M_oneToken) 391 = .ok (.bipush 44, 2) := by decide +kernel
theorem d_M_oneToken_393 : decode (cd m_M_oneToken) 393 = .ok (.if_icmp .eq 75, 3) := by decide +kernel
theorem d_M_oneToken_396 : decode (cd m_M_oneToken) 396 = .ok (.iload_n 2, 1) := by decide +kernel
theorem d_M_oneToken_397 : decode (cd m_M_oneToken) 397 = .ok (.bipush 46, 2) := by decide +kernel
theorem d_M_oneToken_399 : decode (cd m_M_oneToken) 399 = .ok (.if_icmp .eq 69, 3) := by decide +kernel
theorem d_M_oneToken_402 : decode (cd m_M_oneToken) 402 = .ok (.iload_n 2, 1) := by decide +kernel
theorem d_M_oneToken_403 : decode (cd m_M_oneToken) 403 = .ok (.bipush 63, 2) := by decide +kernel
theorem d_M_oneToken_405 : decode (cd m_M_oneToken) 405 = .ok (.if_icmp .eq 63, 3) := by decide +kernel
theorem d_M_oneToken_408 : decode (cd m_M_oneToken) 408 = .ok (.iload_n 2, 1) := by decide +kernel
theorem d_M_oneToken_409 : decode (cd m_M_oneToken) 409 = .ok (.bipush 33, 2) := by decide +kernel
theorem d_M_oneToken_411 : decode (cd m_M_oneToken) 411 = .ok (.if_icmp .eq 57, 3) := by decide +kernel
theorem d_M_oneToken_414 : decode (cd m_M_oneToken) 414 = .ok (.iload_n 2, 1) := by decide +kernel
theorem d_M_oneToken_415 : decode (cd m_M_oneToken) 415 = .ok (.bipush 95, 2) := by decide +kernel
theorem d_M_oneToken_417 : decode (cd m_M_oneToken) 417 = .ok (.if_icmp .eq 51, 3) := by decide +kernel
theorem d_M_oneToken_420 : decode (cd m_M_oneToken) 420 = .ok (.iload_n 2, 1) := by decide +kernel
theorem d_M_oneToken_421 : decode (cd m_M_oneToken) 421 = .ok (.bipush 61, 2) := by decide +kernel
theorem d_M_oneToken_423 : decode (cd m_M_oneToken) 423 = .ok (.if_icmp .eq 45, 3) := by decide +kernel
theorem d_M_oneToken_426 : decode (cd m_M_oneToken) 426 = .ok (.iload_n 2, 1) := by decide +kernel
theorem d_M_oneToken_427 : decode (cd m_M_oneToken) 427 = .ok (.bipush 60, 2) := by decide +kernel
theorem d_M_oneToken_429 : decode (cd m_M_oneToken) 429 = .ok (.if_icmp .eq 39, 3) := by decide +kernel
theorem d_M_oneToken_432 : decode (cd m_M_oneToken) 432 = .ok (.iload_n 2, 1) := by decide +kernel
theorem d_M_oneToken_433 : decode (cd m_M_oneToken) 433 = .ok (.bipush 62, 2) := by decide +kernel
theorem d_M_oneToken_435 : decode (cd m_M_oneToken) 435 = .ok (.if_icmp .eq 33, 3) := by decide +kernel
theorem d_M_oneToken_438 : decode (cd m_M_oneToken) 438 = .ok (.iload_n 2, 1) := by decide +kernel
theorem d_M_oneToken_439 : decode (cd m_M_oneToken) 439 = .ok (.bipush 43, 2) := by decide +kernel
theorem d_M_oneToken_441 : decode (cd m_M_oneToken) 441 = .ok (.if_icmp .eq 27, 3) := by decide +kernel
theorem d_M_oneToken_444 : decode (cd m_M_oneToken) 444 = .ok (.iload_n 2, 1) := by decide +kernel
theorem d_M_oneToken_445 : decode (cd m_M_oneToken) 445 = .ok (.bipush 45, 2) := by decide +kernel
theorem d_M_oneToken_447 : decode (cd m_M_oneToken) 447 = .ok (.if_icmp .eq 21, 3) := by decide +kernel
theorem d_M_oneToken_450 : decode (cd m_M_oneToken) 450 = .ok (.iload_n 2, 1) := by decide +kernel
theorem d_M_oneToken_451 : decode (cd m_M_oneToken) 451 = .ok (.bipush 42, 2) := by decide +kernel
theorem d_M_oneToken_453 : decode (cd m_M_oneToken) 453 = .ok (.if_icmp .eq 15, 3) := by decide +kernel
theorem d_M_oneToken_456 : decode (cd m_M_oneToken) 456 = .ok (.iload_n 2, 1) := by decide +kernel
theorem d_M_oneToken_457 : decode (cd m_M_oneToken) 457 = .ok (.bipush 47, 2) := by decide +kernel
theorem d_M_oneToken_459 : decode (cd m_M_oneToken) 459 = .ok (.if_icmp .eq 9, 3) := by decide +kernel
theorem d_M_oneToken_462 : decode (cd m_M_oneToken) 462 = .ok (.iload_n 2, 1) := by decide +kernel
theorem d_M_oneToken_463 : decode (cd m_M_oneToken) 463 = .ok (.bipush 37, 2) := by decide +kernel
theorem d_M_oneToken_465 : decode (cd m_M_oneToken) 465 = .ok (.if_icmp .ne 7, 3) := by decide +kernel
theorem d_M_oneToken_468 : decode (cd m_M_oneToken) 468 = .ok (.iconst 1, 1) := by decide +kernel
theorem d_M_oneToken_469 : decode (cd m_M_oneToken) 469 = .ok (.goto 4, 3) := by decide +kernel
theorem d_M_oneToken_472 : decode (cd m_M_oneToken) 472 = .ok (.iconst 0, 1) := by decide +kernel
theorem d_M_oneToken_473 : decode (cd m_M_oneToken) 473 = .ok (.istore 8, 2) := by decide +kernel
theorem d_M_oneToken_475 : decode (cd m_M_oneToken) 475 = .ok (.aload_n 0, 1) := by decide +kernel
theorem d_M_oneToken_476 : decode (cd m_M_oneToken) 476 = .ok (.iload 7, 2) := by decide +kernel
theorem d_M_oneToken_478 : decode (cd m_M_oneToken) 478 = .ok (.ifCond .gt 8, 3) := by decide +kernel
theorem d_M_oneToken_481 : decode (cd m_M_oneToken) 481 = .ok (.iload 8, 2) := by decide +kernel
theorem d_M_oneToken_483 : decode (cd m_M_oneToken) 483 = .ok (.ifCond .eq 7, 3) := by decide +kernel
theorem d_M_oneToken_486 : decode (cd m_M_oneToken) 486 = .ok (.iconst 4, 1) := by decide +kernel
theorem d_M_oneToken_487 : decode (cd m_M_oneToken) 487 = .ok (.goto 5, 3) := by decide +kernel
theorem d_M_oneToken_490 : decode (cd m_M_oneToken) 490 = .ok (.bipush 6, 2) := by decide +kernel
theorem d_M_oneToken_492 : decode (cd m_M_oneToken) 492 = .ok (.iload 7, 2) := by decide +kernel
theorem d_M_oneToken_494 : decode (cd m_M_oneToken) 494 = .ok (.ifCond .le 8, 3) := by decide +kernel
end
section
/-! decode rows (by program) -/
theorem d_M_oneToken_497 : decode (cd m_M_oneToken) 497 = .ok (.iload 7, 2) := by decide +kernel
theorem d_M_oneToken_499 : decode (cd m_M_oneToken) 499 = .ok (.goto 4, 3) := by decide +kernel
theorem d_M_oneToken_502 : decode (cd m_M_oneToken) 502 = .ok (.iload_n 2, 1) := by decide +kernel
theorem d_M_oneToken_503 : decode (cd m_M_oneToken) 503 = .ok (.iload_n 1, 1) := by decide +kernel
theorem d_M_oneToken_504 : decode (cd m_M_oneToken) 504 = .ok (.lconst 0, 1) := by decide +kernel
theorem d_M_oneToken_505 : decode (cd m_M_oneToken) 505 = .ok (.invokevirtual 156, 3) := by decide +kernel
theorem d_M_oneToken_508 : decode (cd m_M_oneToken) 508 = .ok (.iload_n 3, 1) := by decide +kernel
theorem d_M_oneToken_509 : decode (cd m_M_oneToken) 509 = .ok (.iload 7, 2) := by decide +kernel
theorem d_M_oneToken_511 : decode (cd m_M_oneToken) 511 = .ok (.ifCond .le 7, 3) := by decide +kernel
theorem d_M_oneToken_514 : decode (cd m_M_oneToken) 514 = .ok (.iconst 1, 1) := by decide +kernel
theorem d_M_oneToken_515 : decode (cd m_M_oneToken) 515 = .ok (.goto 4, 3) := by decide +kernel
theorem d_M_oneToken_518 : decode (cd m_M_oneToken) 518 = .ok (.iconst 0, 1) := by decide +kernel
theorem d_M_oneToken_519 : decode (cd m_M_oneToken) 519 = .ok (.iadd, 1) := by decide +kernel
theorem d_M_oneToken_520 : decode (cd m_M_oneToken) 520 = .ok (.istore_n 3, 1) := by decide +kernel
theorem d_M_oneToken_521 : decode (cd m_M_oneToken) 521 = .ok (.iload_n 3, 1) := by decide +kernel
theorem d_M_oneToken_522 : decode (cd m_M_oneToken) 522 = .ok (.ireturn, 1) := by decide +kernel
theorem d_M_wrong_0 : decode (cd m_M_wrong) 0 = .ok (.aload_n 0, 1) := by decide +kernel
theorem d_M_wrong_1 : decode (cd m_M_wrong) 1 = .ok (.getfield 174, 3) := by decide +kernel
theorem d_M_wrong_4 : decode (cd m_M_wrong) 4 = .ok (.iconst 1, 1) := by decide +kernel
theorem d_M_wrong_5 : decode (cd m_M_wrong) 5 = .ok (.if_icmp .eq 13, 3) := by decide +kernel
theorem d_M_wrong_8 : decode (cd m_M_wrong) 8 = .ok (.aload_n 0, 1) := by decide +kernel
theorem d_M_wrong_9 : decode (cd m_M_wrong) 9 = .ok (.iconst 1, 1) := by decide +kernel
theorem d_M_wrong_10 : decode (cd m_M_wrong) 10 = .ok (.putfield 174, 3) := by decide +kernel
theorem d_M_wrong_13 : decode (cd m_M_wrong) 13 = .ok (.aload_n 0, 1) := by decide +kernel
theorem d_M_wrong_14 : decode (cd m_M_wrong) 14 = .ok (.iload_n 1, 1) := by decide +kernel
theorem d_M_wrong_15 : decode (cd m_M_wrong) 15 = .ok (.putfield 177, 3) := by decide +kernel
theorem d_M_wrong_18 : decode (cd m_M_wrong) 18 = .ok (.iconst 0, 1) := by decide +kernel
theorem d_M_wrong_19 : decode (cd m_M_wrong) 19 = .ok (.ireturn, 1) := by decide +kernel
theorem d_M_refuse_0 : decode (cd m_M_refuse) 0 = .ok (.aload_n 0, 1) := by decide +kernel
theorem d_M_refuse_1 : decode (cd m_M_refuse) 1 = .ok (.aload_n 0, 1) := by decide +kernel
theorem d_M_refuse_2 : decode (cd m_M_refuse) 2 = .ok (.getfield 16, 3) := by decide +kernel
theorem d_M_refuse_5 : decode (cd m_M_refuse) 5 = .ok (.aload_n 0, 1) := by decide +kernel
theorem d_M_refuse_6 : decode (cd m_M_refuse) 6 = .ok (.getfield 180, 3) := by decide +kernel
theorem d_M_refuse_9 : decode (cd m_M_refuse) 9 = .ok (.iaload, 1) := by decide +kernel
theorem d_M_refuse_10 : decode (cd m_M_refuse) 10 = .ok (.invokevirtual 183, 3) := by decide +kernel
theorem d_M_refuse_13 : decode (cd m_M_refuse) 13 = .ok (.ireturn, 1) := by decide +kernel
theorem d_M_isSign_0 : decode (cd m_M_isSign) 0 = .ok (.aload_n 0, 1) := by decide +kernel
theorem d_M_isSign_1 : decode (cd m_M_isSign) 1 = .ok (.getfield 13, 3) := by decide +kernel
theorem d_M_isSign_4 : decode (cd m_M_isSign) 4 = .ok (.aload_n 0, 1) := by decide +kernel
theorem d_M_isSign_5 : decode (cd m_M_isSign) 5 = .ok (.getfield 180, 3) := by decide +kernel
theorem d_M_isSign_8 : decode (cd m_M_isSign) 8 = .ok (.iaload, 1) := by decide +kernel
theorem d_M_isSign_9 : decode (cd m_M_isSign) 9 = .ok (.iconst 4, 1) := by decide +kernel
theorem d_M_isSign_10 : decode (cd m_M_isSign) 10 = .ok (.if_icmp .ne 20, 3) := by decide +kernel
theorem d_M_isSign_13 : decode (cd m_M_isSign) 13 = .ok (.aload_n 0, 1) := by decide +kernel
theorem d_M_isSign_14 : decode (cd m_M_isSign) 14 = .ok (.getfield 19, 3) := by decide +kernel
theorem d_M_isSign_17 : decode (cd m_M_isSign) 17 = .ok (.aload_n 0, 1) := by decide +kernel
theorem d_M_isSign_18 : decode (cd m_M_isSign) 18 = .ok (.getfield 180, 3) := by decide +kernel
theorem d_M_isSign_21 : decode (cd m_M_isSign) 21 = .ok (.iaload, 1) := by decide +kernel
theorem d_M_isSign_22 : decode (cd m_M_isSign) 22 = .ok (.iload_n 1, 1) := by decide +kernel
theorem d_M_isSign_23 : decode (cd m_M_isSign) 23 = .ok (.if_icmp .ne 7, 3) := by decide +kernel
theorem d_M_isSign_26 : decode (cd m_M_isSign) 26 = .ok (.iconst 1, 1) := by decide +kernel
theorem d_M_isSign_27 : decode (cd m_M_isSign) 27 = .ok (.goto 4, 3) := by decide +kernel
theorem d_M_isSign_30 : decode (cd m_M_isSign) 30 = .ok (.iconst 0, 1) := by decide +kernel
theorem d_M_isSign_31 : decode (cd m_M_isSign) 31 = .ok (.ireturn, 1) := by decide +kernel
theorem d_M_takes_0 : decode (cd m_M_takes) 0 = .ok (.aload_n 0, 1) := by decide +kernel
theorem d_M_takes_1 : decode (cd m_M_takes) 1 = .ok (.iload_n 1, 1) := by decide +kernel
theorem d_M_takes_2 : decode (cd m_M_takes) 2 = .ok (.invokevirtual 186, 3) := by decide +kernel
theorem d_M_takes_5 : decode (cd m_M_takes) 5 = .ok (.ifCond .ne 5, 3) := by decide +kernel
theorem d_M_takes_8 : decode (cd m_M_takes) 8 = .ok (.iconst 0, 1) := by decide +kernel
theorem d_M_takes_9 : decode (cd m_M_takes) 9 = .ok (.ireturn, 1) := by decide +kernel
theorem d_M_takes_10 : decode (cd m_M_takes) 10 = .ok (.aload_n 0, 1) := by decide +kernel
theorem d_M_takes_11 : decode (cd m_M_takes) 11 = .ok (.dup, 1) := by decide +kernel
theorem d_M_takes_12 : decode (cd m_M_takes) 12 = .ok (.getfield 180, 3) := by decide +kernel
theorem d_M_takes_15 : decode (cd m_M_takes) 15 = .ok (.iconst 1, 1) := by decide +kernel
theorem d_M_takes_16 : decode (cd m_M_takes) 16 = .ok (.iadd, 1) := by decide +kernel
theorem d_M_takes_17 : decode (cd m_M_takes) 17 = .ok (.putfield 180, 3) := by decide +kernel
theorem d_M_takes_20 : decode (cd m_M_takes) 20 = .ok (.iconst 1, 1) := by decide +kernel
theorem d_M_takes_21 : decode (cd m_M_takes) 21 = .ok (.ireturn, 1) := by decide +kernel
theorem d_M_want_0 : decode (cd m_M_want) 0 = .ok (.aload_n 0, 1) := by decide +kernel
theorem d_M_want_1 : decode (cd m_M_want) 1 = .ok (.iload_n 1, 1) := by decide +kernel
theorem d_M_want_2 : decode (cd m_M_want) 2 = .ok (.invokevirtual 189, 3) := by decide +kernel
theorem d_M_want_5 : decode (cd m_M_want) 5 = .ok (.ifCond .ne 10, 3) := by decide +kernel
theorem d_M_want_8 : decode (cd m_M_want) 8 = .ok (.aload_n 0, 1) := by decide +kernel
theorem d_M_want_9 : decode (cd m_M_want) 9 = .ok (.invokevirtual 192, 3) := by decide +kernel
theorem d_M_want_12 : decode (cd m_M_want) 12 = .ok (.ifCond .eq 7, 3) := by decide +kernel
theorem d_M_want_15 : decode (cd m_M_want) 15 = .ok (.iconst 1, 1) := by decide +kernel
theorem d_M_want_16 : decode (cd m_M_want) 16 = .ok (.goto 4, 3) := by decide +kernel
theorem d_M_want_19 : decode (cd m_M_want) 19 = .ok (.iconst 0, 1) := by decide +kernel
theorem d_M_want_20 : decode (cd m_M_want) 20 = .ok (.ireturn, 1) := by decide +kernel
theorem d_M_note_0 : decode (cd m_M_note) 0 = .ok (.aload_n 0, 1) := by decide +kernel
theorem d_M_note_1 : decode (cd m_M_note) 1 = .ok (.getfield 174, 3) := by decide +kernel
theorem d_M_note_4 : decode (cd m_M_note) 4 = .ok (.iconst 1, 1) := by decide +kernel
theorem d_M_note_5 : decode (cd m_M_note) 5 = .ok (.if_icmp .eq 18, 3) := by decide +kernel
theorem d_M_note_8 : decode (cd m_M_note) 8 = .ok (.aload_n 0, 1) := by decide +kernel
theorem d_M_note_9 : decode (cd m_M_note) 9 = .ok (.getfield 174, 3) := by decide +kernel
theorem d_M_note_12 : decode (cd m_M_note) 12 = .ok (.ifCond .eq 12, 3) := by decide +kernel
theorem d_M_note_15 : decode (cd m_M_note) 15 = .ok (.aload_n 0, 1) := by decide +kernel
theorem d_M_note_16 : decode (cd m_M_note) 16 = .ok (.getfield 177, 3) := by decide +kernel
theorem d_M_note_19 : decode (cd m_M_note) 19 = .ok (.iload_n 2, 1) := by decide +kernel
theorem d_M_note_20 : decode (cd m_M_note) 20 = .ok (.if_icmp .gt 4, 3) := by decide +kernel
theorem d_M_note_23 : decode (cd m_M_note) 23 = .ok (.return_, 1) := by decide +kernel
theorem d_M_note_24 : decode (cd m_M_note) 24 = .ok (.aload_n 0, 1) := by decide +kernel
theorem d_M_note_25 : decode (cd m_M_note) 25 = .ok (.iload_n 1, 1) := by decide +kernel
theorem d_M_note_26 : decode (cd m_M_note) 26 = .ok (.putfield 174, 3) := by decide +kernel
theorem d_M_note_29 : decode (cd m_M_note) 29 = .ok (.aload_n 0, 1) := by decide +kernel
theorem d_M_note_30 : decode (cd m_M_note) 30 = .ok (.iload_n 2, 1) := by decide +kernel
theorem d_M_note_31 : decode (cd m_M_note) 31 = .ok (.putfield 177, 3) := by decide +kernel
theorem d_M_note_34 : decode (cd m_M_note) 34 = .ok (.return_, 1) := by decide +kernel
theorem d_M_readVariable_0 : decode (cd m_M_readVariable) 0 = .ok (.iconst 0, 1) := by decide +kernel
theorem d_M_readVariable_1 : decode (cd m_M_readVariable) 1 = .ok (.istore_n 1, 1) := by decide +kernel
theorem d_M_readVariable_2 : decode (cd m_M_readVariable) 2 = .ok (.iload_n 1, 1) := by decide +kernel
theorem d_M_readVariable_3 : decode (cd m_M_readVariable) 3 = .ok (.aload_n 0, 1) := by decide +kernel
theorem d_M_readVariable_4 : decode (cd m_M_readVariable) 4 = .ok (.getfield 59, 3) := by decide +kernel
theorem d_M_readVariable_7 : decode (cd m_M_readVariable) 7 = .ok (.aload_n 0, 1) := by decide +kernel
theorem d_M_readVariable_8 : decode (cd m_M_readVariable) 8 = .ok (.getfield 196, 3) := by decide +kernel
theorem d_M_readVariable_11 : decode (cd m_M_readVariable) 11 = .ok (.iaload, 1) := by decide +kernel
theorem d_M_readVariable_12 : decode (cd m_M_readVariable) 12 = .ok (.if_icmp .ge 28, 3) := by decide +kernel
theorem d_M_readVariable_15 : decode (cd m_M_readVariable) 15 = .ok (.aload_n 0, 1) := by decide +kernel
theorem d_M_readVariable_16 : decode (cd m_M_readVariable) 16 = .ok (.getfield 83, 3) := by decide +kernel
theorem d_M_readVariable_19 : decode (cd m_M_readVariable) 19 = .ok (.iload_n 1, 1) := by decide +kernel
theorem d_M_readVariable_20 : decode (cd m_M_readVariable) 20 = .ok (.laload, 1) := by decide +kernel
theorem d_M_readVariable_21 : decode (cd m_M_readVariable) 21 = .ok (.aload_n 0, 1) := by decide +kernel
theorem d_M_readVariable_22 : decode (cd m_M_readVariable) 22 = .ok (.getfield 22, 3) := by decide +kernel
theorem d_M_readVariable_25 : decode (cd m_M_readVariable) 25 = .ok (.aload_n 0, 1) := by decide +kernel
theorem d_M_readVariable_26 : decode (cd m_M_readVariable) 26 = .ok (.getfield 180, 3) := by decide +kernel
theorem d_M_readVariable_29 : decode (cd m_M_readVariable) 29 = .ok (.laload, 1) := by decide +kernel
theorem d_M_readVariable_30 : decode (cd m_M_readVariable) 30 = .ok (.lcmp, 1) := by decide +kernel
theorem d_M_readVariable_31 : decode (cd m_M_readVariable) 31 = .ok (.ifCond .eq 9, 3) := by decide +kernel
theorem d_M_readVariable_34 : decode (cd m_M_readVariable) 34 = .ok (.iinc 1 1, 3) := by decide +kernel
theorem d_M_readVariable_37 : decode (cd m_M_readVariable) 37 = .ok (.goto (-35), 3) := by decide +kernel
theorem d_M_readVariable_40 : decode (cd m_M_readVariable) 40 = .ok (.iload_n 1, 1) := by decide +kernel
theorem d_M_readVariable_41 : decode (cd m_M_readVariable) 41 = .ok (.aload_n 0, 1) := by decide +kernel
theorem d_M_readVariable_42 : decode (cd m_M_readVariable) 42 = .ok (.getfield 59, 3) := by decide +kernel
theorem d_M_readVariable_45 : decode (cd m_M_readVariable) 45 = .ok (.aload_n 0, 1) := by decide +kernel
theorem d_M_readVariable_46 : decode (cd m_M_readVariable) 46 = .ok (.getfield 196, 3) := by decide +kernel
theorem d_M_readVariable_49 : decode (cd m_M_readVariable) 49 = .ok (.iaload, 1) := by decide +kernel
theorem d_M_readVariable_50 : decode (cd m_M_readVariable) 50 = .ok (.if_icmp .ne 57, 3) := by decide +kernel
theorem d_M_readVariable_53 : decode (cd m_M_readVariable) 53 = .ok (.iload_n 1, 1) := by decide +kernel
theorem d_M_readVariable_54 : decode (cd m_M_readVariable) 54 = .ok (.bipush 8, 2) := by decide +kernel
theorem d_M_readVariable_56 : decode (cd m_M_readVariable) 56 = .ok (.if_icmp .ne 8, 3) := by decide +kernel
theorem d_M_readVariable_59 : decode (cd m_M_readVariable) 59 = .ok (.aload_n 0, 1) := by decide +kernel
theorem d_M_readVariable_60 : decode (cd m_M_readVariable) 60 = .ok (.invokevirtual 192, 3) := by decide +kernel
theorem d_M_readVariable_63 : decode (cd m_M_readVariable) 63 = .ok (.ireturn, 1) := by decide +kernel
theorem d_M_readVariable_64 : decode (cd m_M_readVariable) 64 = .ok (.aload_n 0, 1) := by decide +kernel
theorem d_M_readVariable_65 : decode (cd m_M_readVariable) 65 = .ok (.getfield 83, 3) := by decide +kernel
theorem d_M_readVariable_68 : decode (cd m_M_readVariable) 68 = .ok (.iload_n 1, 1) := by decide +kernel
theorem d_M_readVariable_69 : decode (cd m_M_readVariable) 69 = .ok (.aload_n 0, 1) := by decide +kernel
theorem d_M_readVariable_70 : decode (cd m_M_readVariable) 70 = .ok (.getfield 22, 3) := by decide +kernel
theorem d_M_readVariable_73 : decode (cd m_M_readVariable) 73 = .ok (.aload_n 0, 1) := by decide +kernel
theorem d_M_readVariable_74 : decode (cd m_M_readVariable) 74 = .ok (.getfield 180, 3) := by decide +kernel
theorem d_M_readVariable_77 : decode (cd m_M_readVariable) 77 = .ok (.laload, 1) := by decide +kernel
theorem d_M_readVariable_78 : decode (cd m_M_readVariable) 78 = .ok (.lastore, 1) := by decide +kernel
theorem d_M_readVariable_79 : decode (cd m_M_readVariable) 79 = .ok (.aload_n 0, 1) := by decide +kernel
theorem d_M_readVariable_80 : decode (cd m_M_readVariable) 80 = .ok (.getfield 86, 3) := by decide +kernel
theorem d_M_readVariable_83 : decode (cd m_M_readVariable) 83 = .ok (.iload_n 1, 1) := by decide +kernel
theorem d_M_readVariable_84 : decode (cd m_M_readVariable) 84 = .ok (.aload_n 0, 1) := by decide +kernel
theorem d_M_readVariable_85 : decode (cd m_M_readVariable) 85 = .ok (.getfield 16, 3) := by decide +kernel
theorem d_M_readVariable_88 : decode (cd m_M_readVariable) 88 = .ok (.aload_n 0, 1) := by decide +kernel
theorem d_M_readVariable_89 : decode (cd m_M_readVariable) 89 = .ok (.getfield 180, 3) := by decide +kernel
theorem d_M_readVariable_92 : decode (cd m_M_readVariable) 92 = .ok (.iaload, 1) := by decide +kernel
theorem d_M_readVariable_93 : decode (cd m_M_readVariable) 93 = .ok (.iastore, 1) := by decide +kernel
theorem d_M_readVariable_94 : decode (cd m_M_readVariable) 94 = .ok (.aload_n 0, 1) := by decide +kernel
theorem d_M_readVariable_95 : decode (cd m_M_readVariable) 95 = .ok (.getfield 59, 3) := by decide +kernel
theorem d_M_readVariable_98 : decode (cd m_M_readVariable) 98 = .ok (.aload_n 0, 1) := by decide +kernel
theorem d_M_readVariable_99 : decode (cd m_M_readVariable) 99 = .ok (.getfield 196, 3) := by decide +kernel
theorem d_M_readVariable_102 : decode (cd m_M_readVariable) 102 = .ok (.dup2, 1) := by decide +kernel
theorem d_M_readVariable_103 : decode (cd m_M_readVariable) 103 = .ok (.iaload, 1) := by decide +kernel
theorem d_M_readVariable_104 : decode (cd m_M_readVariable) 104 = .ok (.iconst 1, 1) := by decide +kernel
theorem d_M_readVariable_105 : decode (cd m_M_readVariable) 105 = .ok (.iadd, 1) := by decide +kernel
theorem d_M_readVariable_106 : decode (cd m_M_readVariable) 106 = .ok (.iastore, 1) := by decide +kernel
theorem d_M_readVariable_107 : decode (cd m_M_readVariable) 107 = .ok (.aload_n 0, 1) := by decide +kernel
theorem d_M_readVariable_108 : decode (cd m_M_readVariable) 108 = .ok (.iconst 1, 1) := by decide +kernel
theorem d_M_readVariable_109 : decode (cd m_M_readVariable) 109 = .ok (.putfield 199, 3) := by decide +kernel
theorem d_M_readVariable_112 : decode (cd m_M_readVariable) 112 = .ok (.aload_n 0, 1) := by decide +kernel
theorem d_M_readVariable_113 : decode (cd m_M_readVariable) 113 = .ok (.iload_n 1, 1) := by decide +kernel
theorem d_M_readVariable_114 : decode (cd m_M_readVariable) 114 = .ok (.i2l, 1) := by decide +kernel
theorem d_M_readVariable_115 : decode (cd m_M_readVariable) 115 = .ok (.putfield 202, 3) := by decide +kernel
theorem d_M_readVariable_118 : decode (cd m_M_readVariable) 118 = .ok (.aload_n 0, 1) := by decide +kernel
theorem d_M_readVariable_119 : decode (cd m_M_readVariable) 119 = .ok (.dup, 1) := by decide +kernel
theorem d_M_readVariable_120 : decode (cd m_M_readVariable) 120 = .ok (.getfield 180, 3) := by decide +kernel
theorem d_M_readVariable_123 : decode (cd m_M_readVariable) 123 = .ok (.iconst 1, 1) := by decide +kernel
theorem d_M_readVariable_124 : decode (cd m_M_readVariable) 124 = .ok (.iadd, 1) := by decide +kernel
theorem d_M_readVariable_125 : decode (cd m_M_readVariable) 125 = .ok (.putfield 180, 3) := by decide +kernel
theorem d_M_readVariable_128 : decode (cd m_M_readVariable) 128 = .ok (.iconst 1, 1) := by decide +kernel
theorem d_M_readVariable_129 : decode (cd m_M_readVariable) 129 = .ok (.ireturn, 1) := by decide +kernel
theorem d_M_readTerm_0 : decode (cd m_M_readTerm) 0 = .ok (.aload_n 0, 1) := by decide +kernel
theorem d_M_readTerm_1 : decode (cd m_M_readTerm) 1 = .ok (.getfield 13, 3) := by decide +kernel
theorem d_M_readTerm_4 : decode (cd m_M_readTerm) 4 = .ok (.aload_n 0, 1) := by decide +kernel
theorem d_M_readTerm_5 : decode (cd m_M_readTerm) 5 = .ok (.getfield 180, 3) := by decide +kernel
theorem d_M_readTerm_8 : decode (cd m_M_readTerm) 8 = .ok (.iaload, 1) := by decide +kernel
theorem d_M_readTerm_9 : decode (cd m_M_readTerm) 9 = .ok (.iconst 2, 1) := by decide +kernel
theorem d_M_readTerm_10 : decode (cd m_M_readTerm) 10 = .ok (.if_icmp .ne 8, 3) := by decide +kernel
theorem d_M_readTerm_13 : decode (cd m_M_readTerm) 13 = .ok (.aload_n 0, 1) := by decide +kernel
theorem d_M_readTerm_14 : decode (cd m_M_readTerm) 14 = .ok (.invokevirtual 206, 3) := by decide +kernel
theorem d_M_readTerm_17 : decode (cd m_M_readTerm) 17 = .ok (.ireturn, 1) := by decide +kernel
theorem d_M_readTerm_18 : decode (cd m_M_readTerm) 18 = .ok (.aload_n 0, 1) := by decide +kernel
theorem d_M_readTerm_19 : decode (cd m_M_readTerm) 19 = .ok (.iconst 0, 1) := by decide +kernel
theorem d_M_readTerm_20 : decode (cd m_M_readTerm) 20 = .ok (.putfield 199, 3) := by decide +kernel
theorem d_M_readTerm_23 : decode (cd m_M_readTerm) 23 = .ok (.aload_n 0, 1) := by decide +kernel
theorem d_M_readTerm_24 : decode (cd m_M_readTerm) 24 = .ok (.getfield 13, 3) := by decide +kernel
theorem d_M_readTerm_27 : decode (cd m_M_readTerm) 27 = .ok (.aload_n 0, 1) := by decide +kernel
theorem d_M_readTerm_28 : decode (cd m_M_readTerm) 28 = .ok (.getfield 180, 3) := by decide +kernel
theorem d_M_readTerm_31 : decode (cd m_M_readTerm) 31 = .ok (.iaload, 1) := by decide +kernel
theorem d_M_readTerm_32 : decode (cd m_M_readTerm) 32 = .ok (.iconst 1, 1) := by decide +kernel
theorem d_M_readTerm_33 : decode (cd m_M_readTerm) 33 = .ok (.if_icmp .ne 32, 3) := by decide +kernel
theorem d_M_readTerm_36 : decode (cd m_M_readTerm) 36 = .ok (.aload_n 0, 1) := by decide +kernel
theorem d_M_readTerm_37 : decode (cd m_M_readTerm) 37 = .ok (.aload_n 0, 1) := by decide +kernel
theorem d_M_readTerm_38 : decode (cd m_M_readTerm) 38 = .ok (.getfield 22, 3) := by decide +kernel
theorem d_M_readTerm_41 : decode (cd m_M_readTerm) 41 = .ok (.aload_n 0, 1) := by decide +kernel
theorem d_M_readTerm_42 : decode (cd m_M_readTerm) 42 = .ok (.getfield 180, 3) := by decide +kernel
theorem d_M_readTerm_45 : decode (cd m_M_readTerm) 45 = .ok (.laload, 1) := by decide +kernel
theorem d_M_readTerm_46 : decode (cd m_M_readTerm) 46 = .ok (.ldc2_w 209, 3) := by decide +kernel
theorem d_M_readTerm_49 : decode (cd m_M_readTerm) 49 = .ok (.lor, 1) := by decide +kernel
theorem d_M_readTerm_50 : decode (cd m_M_readTerm) 50 = .ok (.putfield 202, 3) := by decide +kernel
theorem d_M_readTerm_53 : decode (cd m_M_readTerm) 53 = .ok (.aload_n 0, 1) := by decide +kernel
theorem d_M_readTerm_54 : decode (cd m_M_readTerm) 54 = .ok (.dup, 1) := by decide +kernel
theorem d_M_readTerm_55 : decode (cd m_M_readTerm) 55 = .ok (.getfield 180, 3) := by decide +kernel
theorem d_M_readTerm_58 : decode (cd m_M_readTerm) 58 = .ok (.iconst 1, 1) := by decide +kernel
theorem d_M_readTerm_59 : decode (cd m_M_readTerm) 59 = .ok (.iadd, 1) := by decide +kernel
theorem d_M_readTerm_60 : decode (cd m_M_readTerm) 60 = .ok (.putfield 180, 3) := by decide +kernel
theorem d_M_readTerm_63 : decode (cd m_M_readTerm) 63 = .ok (.iconst 1, 1) := by decide +kernel
theorem d_M_readTerm_64 : decode (cd m_M_readTerm) 64 = .ok (.ireturn, 1) := by decide +kernel
theorem d_M_readTerm_65 : decode (cd m_M_readTerm) 65 = .ok (.aload_n 0, 1) := by decide +kernel
theorem d_M_readTerm_66 : decode (cd m_M_readTerm) 66 = .ok (.bipush 45, 2) := by decide +kernel
theorem d_M_readTerm_68 : decode (cd m_M_readTerm) 68 = .ok (.invokevirtual 189, 3) := by decide +kernel
theorem d_M_readTerm_71 : decode (cd m_M_readTerm) 71 = .ok (.istore_n 1, 1) := by decide +kernel
theorem d_M_readTerm_72 : decode (cd m_M_readTerm) 72 = .ok (.aload_n 0, 1) := by decide +kernel
theorem d_M_readTerm_73 : decode (cd m_M_readTerm) 73 = .ok (.getfield 13, 3) := by decide +kernel
theorem d_M_readTerm_76 : decode (cd m_M_readTerm) 76 = .ok (.aload_n 0, 1) := by decide +kernel
theorem d_M_readTerm_77 : decode (cd m_M_readTerm) 77 = .ok (.getfield 180, 3) := by decide +kernel
theorem d_M_readTerm_80 : decode (cd m_M_readTerm) 80 = .ok (.iaload, 1) := by decide +kernel
theorem d_M_readTerm_81 : decode (cd m_M_readTerm) 81 = .ok (.iconst 3, 1) := by decide +kernel
theorem d_M_readTerm_82 : decode (cd m_M_readTerm) 82 = .ok (.if_icmp .eq 8, 3) := by decide +kernel
theorem d_M_readTerm_85 : decode (cd m_M_readTerm) 85 = .ok (.aload_n 0, 1) := by decide +kernel
theorem d_M_readTerm_86 : decode (cd m_M_readTerm) 86 = .ok (.invokevirtual 192, 3) := by decide +kernel
theorem d_M_readTerm_89 : decode (cd m_M_readTerm) 89 = .ok (.ireturn, 1) := by decide +kernel
theorem d_M_readTerm_90 : decode (cd m_M_readTerm) 90 = .ok (.aload_n 0, 1) := by decide +kernel
theorem d_M_readTerm_91 : decode (cd m_M_readTerm) 91 = .ok (.iload_n 1, 1) := by decide +kernel
theorem d_M_readTerm_92 : decode (cd m_M_readTerm) 92 = .ok (.ifCond .eq 16, 3) := by decide +kernel
theorem d_M_readTerm_95 : decode (cd m_M_readTerm) 95 = .ok (.aload_n 0, 1) := by decide +kernel
theorem d_M_readTerm_96 : decode (cd m_M_readTerm) 96 = .ok (.getfield 22, 3) := by decide +kernel
theorem d_M_readTerm_99 : decode (cd m_M_readTerm) 99 = .ok (.aload_n 0, 1) := by decide +kernel
theorem d_M_readTerm_100 : decode (cd m_M_readTerm) 100 = .ok (.getfield 180, 3) := by decide +kernel
theorem d_M_readTerm_103 : decode (cd m_M_readTerm) 103 = .ok (.laload, 1) := by decide +kernel
theorem d_M_readTerm_104 : decode (cd m_M_readTerm) 104 = .ok (.lneg, 1) := by decide +kernel
theorem d_M_readTerm_105 : decode (cd m_M_readTerm) 105 = .ok (.goto 12, 3) := by decide +kernel
theorem d_M_readTerm_108 : decode (cd m_M_readTerm) 108 = .ok (.aload_n 0, 1) := by decide +kernel
theorem d_M_readTerm_109 : decode (cd m_M_readTerm) 109 = .ok (.getfield 22, 3) := by decide +kernel
theorem d_M_readTerm_112 : decode (cd m_M_readTerm) 112 = .ok (.aload_n 0, 1) := by decide +kernel
theorem d_M_readTerm_113 : decode (cd m_M_readTerm) 113 = .ok (.getfield 180, 3) := by decide +kernel
theorem d_M_readTerm_116 : decode (cd m_M_readTerm) 116 = .ok (.laload, 1) := by decide +kernel
theorem d_M_readTerm_117 : decode (cd m_M_readTerm) 117 = .ok (.putfield 202, 3) := by decide +kernel
theorem d_M_readTerm_120 : decode (cd m_M_readTerm) 120 = .ok (.aload_n 0, 1) := by decide +kernel
theorem d_M_readTerm_121 : decode (cd m_M_readTerm) 121 = .ok (.dup, 1) := by decide +kernel
theorem d_M_readTerm_122 : decode (cd m_M_readTerm) 122 = .ok (.getfield 180, 3) := by decide +kernel
theorem d_M_readTerm_125 : decode (cd m_M_readTerm) 125 = .ok (.iconst 1, 1) := by decide +kernel
theorem d_M_readTerm_126 : decode (cd m_M_readTerm) 126 = .ok (.iadd, 1) := by decide +kernel
theorem d_M_readTerm_127 : decode (cd m_M_readTerm) 127 = .ok (.putfield 180, 3) := by decide +kernel
theorem d_M_readTerm_130 : decode (cd m_M_readTerm) 130 = .ok (.iconst 1, 1) := by decide +kernel
theorem d_M_readTerm_131 : decode (cd m_M_readTerm) 131 = .ok (.ireturn, 1) := by decide +kernel
theorem d_M_predicateOf_0 : decode (cd m_M_predicateOf) 0 = .ok (.bipush 16, 2) := by decide +kernel
theorem d_M_predicateOf_2 : decode (cd m_M_predicateOf) 2 = .ok (.aload_n 0, 1) := by decide +kernel
theorem d_M_predicateOf_3 : decode (cd m_M_predicateOf) 3 = .ok (.getfield 211, 3) := by decide +kernel
theorem d_M_predicateOf_6 : decode (cd m_M_predicateOf) 6 = .ok (.imul, 1) := by decide +kernel
theorem d_M_predicateOf_7 : decode (cd m_M_predicateOf) 7 = .ok (.istore 5, 2) := by decide +kernel
theorem d_M_predicateOf_9 : decode (cd m_M_predicateOf) 9 = .ok (.iload 5, 2) := by decide +kernel
theorem d_M_predicateOf_11 : decode (cd m_M_predicateOf) 11 = .ok (.istore 6, 2) := by decide +kernel
theorem d_M_predicateOf_13 : decode (cd m_M_predicateOf) 13 = .ok (.iload 6, 2) := by decide +kernel
theorem d_M_predicateOf_15 : decode (cd m_M_predicateOf) 15 = .ok (.iload 5, 2) := by decide +kernel
theorem d_M_predicateOf_17 : decode (cd m_M_predicateOf) 17 = .ok (.aload_n 0, 1) := by decide +kernel
theorem d_M_predicateOf_18 : decode (cd m_M_predicateOf) 18 = .ok (.getfield 26, 3) := by decide +kernel
theorem d_M_predicateOf_21 : decode (cd m_M_predicateOf) 21 = .ok (.aload_n 0, 1) := by decide +kernel
theorem d_M_predicateOf_22 : decode (cd m_M_predicateOf) 22 = .ok (.getfield 211, 3) := by decide +kernel
theorem d_M_predicateOf_25 : decode (cd m_M_predicateOf) 25 = .ok (.iaload, 1) := by decide +kernel
theorem d_M_predicateOf_26 : decode (cd m_M_predicateOf) 26 = .ok (.iadd, 1) := by decide +kernel
theorem d_M_predicateOf_27 : decode (cd m_M_predicateOf) 27 = .ok (.if_icmp .ge 48, 3) := by decide +kernel
theorem d_M_predicateOf_30 : decode (cd m_M_predicateOf) 30 = .ok (.aload_n 0, 1) := by decide +kernel
theorem d_M_predicateOf_31 : decode (cd m_M_predicateOf) 31 = .ok (.getfield 29, 3) := by decide +kernel
theorem d_M_predicateOf_34 : decode (cd m_M_predicateOf) 34 = .ok (.iload 6, 2) := by decide +kernel
theorem d_M_predicateOf_36 : decode (cd m_M_predicateOf) 36 = .ok (.laload, 1) := by decide +kernel
theorem d_M_predicateOf_37 : decode (cd m_M_predicateOf) 37 = .ok (.lload_n 1, 1) := by decide +kernel
theorem d_M_predicateOf_38 : decode (cd m_M_predicateOf) 38 = .ok (.lcmp, 1) := by decide +kernel
theorem d_M_predicateOf_39 : decode (cd m_M_predicateOf) 39 = .ok (.ifCond .eq 6, 3) := by decide +kernel
theorem d_M_predicateOf_42 : decode (cd m_M_predicateOf) 42 = .ok (.goto 27, 3) := by decide +kernel
theorem d_M_predicateOf_45 : decode (cd m_M_predicateOf) 45 = .ok (.aload_n 0, 1) := by decide +kernel
theorem d_M_predicateOf_46 : decode (cd m_M_predicateOf) 46 = .ok (.getfield 32, 3) := by decide +kernel
theorem d_M_predicateOf_49 : decode (cd m_M_predicateOf) 49 = .ok (.iload 6, 2) := by decide +kernel
theorem d_M_predicateOf_51 : decode (cd m_M_predicateOf) 51 = .ok (.iaload, 1) := by decide +kernel
theorem d_M_predicateOf_52 : decode (cd m_M_predicateOf) 52 = .ok (.iload_n 3, 1) := by decide +kernel
theorem d_M_predicateOf_53 : decode (cd m_M_predicateOf) 53 = .ok (.if_icmp .eq 10, 3) := by decide +kernel
theorem d_M_predicateOf_56 : decode (cd m_M_predicateOf) 56 = .ok (.aload_n 0, 1) := by decide +kernel
theorem d_M_predicateOf_57 : decode (cd m_M_predicateOf) 57 = .ok (.iconst 2, 1) := by decide +kernel
theorem d_M_predicateOf_58 : decode (cd m_M_predicateOf) 58 = .ok (.iload 4, 2) := by decide +kernel
theorem d_M_predicateOf_60 : decode (cd m_M_predicateOf) 60 = .ok (.invokevirtual 214, 3) := by decide +kernel
theorem d_M_predicateOf_63 : decode (cd m_M_predicateOf) 63 = .ok (.iload 6, 2) := by decide +kernel
theorem d_M_predicateOf_65 : decode (cd m_M_predicateOf) 65 = .ok (.iload 5, 2) := by decide +kernel
theorem d_M_predicateOf_67 : decode (cd m_M_predicateOf) 67 = .ok (.isub, 1) := by decide +kernel
theorem d_M_predicateOf_68 : decode (cd m_M_predicateOf) 68 = .ok (.ireturn, 1) := by decide +kernel
theorem d_M_predicateOf_69 : decode (cd m_M_predicateOf) 69 = .ok (.iinc 6 1, 3) := by decide +kernel
theorem d_M_predicateOf_72 : decode (cd m_M_predicateOf) 72 = .ok (.goto (-59), 3) := by decide +kernel
theorem d_M_predicateOf_75 : decode (cd m_M_predicateOf) 75 = .ok (.iload 5, 2) := by decide +kernel
theorem d_M_predicateOf_77 : decode (cd m_M_predicateOf) 77 = .ok (.aload_n 0, 1) := by decide +kernel
theorem d_M_predicateOf_78 : decode (cd m_M_predicateOf) 78 = .ok (.getfield 26, 3) := by decide +kernel
theorem d_M_predicateOf_81 : decode (cd m_M_predicateOf) 81 = .ok (.aload_n 0, 1) := by decide +kernel
theorem d_M_predicateOf_82 : decode (cd m_M_predicateOf) 82 = .ok (.getfield 211, 3) := by decide +kernel
theorem d_M_predicateOf_85 : decode (cd m_M_predicateOf) 85 = .ok (.iaload, 1) := by decide +kernel
theorem d_M_predicateOf_86 : decode (cd m_M_predicateOf) 86 = .ok (.iadd, 1) := by decide +kernel
theorem d_M_predicateOf_87 : decode (cd m_M_predicateOf) 87 = .ok (.istore 6, 2) := by decide +kernel
theorem d_M_predicateOf_89 : decode (cd m_M_predicateOf) 89 = .ok (.aload_n 0, 1) := by decide +kernel
theorem d_M_predicateOf_90 : decode (cd m_M_predicateOf) 90 = .ok (.getfield 29, 3) := by decide +kernel
theorem d_M_predicateOf_93 : decode (cd m_M_predicateOf) 93 = .ok (.iload 6, 2) := by decide +kernel
theorem d_M_predicateOf_95 : decode (cd m_M_predicateOf) 95 = .ok (.lload_n 1, 1) := by decide +kernel
theorem d_M_predicateOf_96 : decode (cd m_M_predicateOf) 96 = .ok (.lastore, 1) := by decide +kernel
theorem d_M_predicateOf_97 : decode (cd m_M_predicateOf) 97 = .ok (.aload_n 0, 1) := by decide +kernel
theorem d_M_predicateOf_98 : decode (cd m_M_predicateOf) 98 = .ok (.getfield 32, 3) := by decide +kernel
theorem d_M_predicateOf_101 : decode (cd m_M_predicateOf) 101 = .ok (.iload 6, 2) := by decide +kernel
theorem d_M_predicateOf_103 : decode (cd m_M_predicateOf) 103 = .ok (.iload_n 3, 1) := by decide +kernel
theorem d_M_predicateOf_104 : decode (cd m_M_predicateOf) 104 = .ok (.iastore, 1) := by decide +kernel
theorem d_M_predicateOf_105 : decode (cd m_M_predicateOf) 105 = .ok (.aload_n 0, 1) := by decide +kernel
theorem d_M_predicateOf_106 : decode (cd m_M_predicateOf) 106 = .ok (.getfield 26, 3) := by decide +kernel
theorem d_M_predicateOf_109 : decode (cd m_M_predicateOf) 109 = .ok (.aload_n 0, 1) := by decide +kernel
theorem d_M_predicateOf_110 : decode (cd m_M_predicateOf) 110 = .ok (.getfield 211, 3) := by decide +kernel
theorem d_M_predicateOf_113 : decode (cd m_M_predicateOf) 113 = .ok (.dup2, 1) := by decide +kernel
theorem d_M_predicateOf_114 : decode (cd m_M_predicateOf) 114 = .ok (.iaload, 1) := by decide +kernel
theorem d_M_predicateOf_115 : decode (cd m_M_predicateOf) 115 = .ok (.iconst 1, 1) := by decide +kernel
theorem d_M_predicateOf_116 : decode (cd m_M_predicateOf) 116 = .ok (.iadd, 1) := by decide +kernel
theorem d_M_predicateOf_117 : decode (cd m_M_predicateOf) 117 = .ok (.iastore, 1) := by decide +kernel
theorem d_M_predicateOf_118 : decode (cd m_M_predicateOf) 118 = .ok (.iload 6, 2) := by decide +kernel
theorem d_M_predicateOf_120 : decode (cd m_M_predicateOf) 120 = .ok (.iload 5, 2) := by decide +kernel
theorem d_M_predicateOf_122 : decode (cd m_M_predicateOf) 122 = .ok (.isub, 1) := by decide +kernel
theorem d_M_predicateOf_123 : decode (cd m_M_predicateOf) 123 = .ok (.ireturn, 1) := by decide +kernel
theorem d_M_isKnown_0 : decode (cd m_M_isKnown) 0 = .ok (.bipush 16, 2) := by decide +kernel
theorem d_M_isKnown_2 : decode (cd m_M_isKnown) 2 = .ok (.aload_n 0, 1) := by decide +kernel
theorem d_M_isKnown_3 : decode (cd m_M_isKnown) 3 = .ok (.getfield 211, 3) := by decide +kernel
theorem d_M_isKnown_6 : decode (cd m_M_isKnown) 6 = .ok (.imul, 1) := by decide +kernel
theorem d_M_isKnown_7 : decode (cd m_M_isKnown) 7 = .ok (.istore_n 3, 1) := by decide +kernel
theorem d_M_isKnown_8 : decode (cd m_M_isKnown) 8 = .ok (.iload_n 3, 1) := by decide +kernel
theorem d_M_isKnown_9 : decode (cd m_M_isKnown) 9 = .ok (.bipush 16, 2) := by decide +kernel
theorem d_M_isKnown_11 : decode (cd m_M_isKnown) 11 = .ok (.aload_n 0, 1) := by decide +kernel
theorem d_M_isKnown_12 : decode (cd m_M_isKnown) 12 = .ok (.getfield 211, 3) := by decide +kernel
theorem d_M_isKnown_15 : decode (cd m_M_isKnown) 15 = .ok (.imul, 1) := by decide +kernel
theorem d_M_isKnown_16 : decode (cd m_M_isKnown) 16 = .ok (.aload_n 0, 1) := by decide +kernel
theorem d_M_isKnown_17 : decode (cd m_M_isKnown) 17 = .ok (.getfield 26, 3) := by decide +kernel
theorem d_M_isKnown_20 : decode (cd m_M_isKnown) 20 = .ok (.aload_n 0, 1) := by decide +kernel
theorem d_M_isKnown_21 : decode (cd m_M_isKnown) 21 = .ok (.getfield 211, 3) := by decide +kernel
theorem d_M_isKnown_24 : decode (cd m_M_isKnown) 24 = .ok (.iaload, 1) := by decide +kernel
theorem d_M_isKnown_25 : decode (cd m_M_isKnown) 25 = .ok (.iadd, 1) := by decide +kernel
theorem d_M_isKnown_26 : decode (cd m_M_isKnown) 26 = .ok (.if_icmp .ge 22, 3) := by decide +kernel
theorem d_M_isKnown_29 : decode (cd m_M_isKnown) 29 = .ok (.aload_n 0, 1) := by decide +kernel
theorem d_M_isKnown_30 : decode (cd m_M_isKnown) 30 = .ok (.getfield 29, 3) := by decide +kernel
theorem d_M_isKnown_33 : decode (cd m_M_isKnown) 33 = .ok (.iload_n 3, 1) := by decide +kernel
theorem d_M_isKnown_34 : decode (cd m_M_isKnown) 34 = .ok (.laload, 1) := by decide +kernel
theorem d_M_isKnown_35 : decode (cd m_M_isKnown) 35 = .ok (.lload_n 1, 1) := by decide +kernel
theorem d_M_isKnown_36 : decode (cd m_M_isKnown) 36 = .ok (.lcmp, 1) := by decide +kernel
theorem d_M_isKnown_37 : decode (cd m_M_isKnown) 37 = .ok (.ifCond .ne 5, 3) := by decide +kernel
theorem d_M_isKnown_40 : decode (cd m_M_isKnown) 40 = .ok (.iconst 1, 1) := by decide +kernel
theorem d_M_isKnown_41 : decode (cd m_M_isKnown) 41 = .ok (.ireturn, 1) := by decide +kernel
theorem d_M_isKnown_42 : decode (cd m_M_isKnown) 42 = .ok (.iinc 3 1, 3) := by decide +kernel
theorem d_M_isKnown_45 : decode (cd m_M_isKnown) 45 = .ok (.goto (-37), 3) := by decide +kernel
theorem d_M_isKnown_48 : decode (cd m_M_isKnown) 48 = .ok (.iconst 0, 1) := by decide +kernel
theorem d_M_isKnown_49 : decode (cd m_M_isKnown) 49 = .ok (.ireturn, 1) := by decide +kernel
theorem d_M_readArguments_0 : decode (cd m_M_readArguments) 0 = .ok (.aload_n 0, 1) := by decide +kernel
theorem d_M_readArguments_1 : decode (cd m_M_readArguments) 1 = .ok (.getfield 180, 3) := by decide +kernel
theorem d_M_readArguments_4 : decode (cd m_M_readArguments) 4 = .ok (.istore_n 3, 1) := by decide +kernel
theorem d_M_readArguments_5 : decode (cd m_M_readArguments) 5 = .ok (.aload_n 0, 1) := by decide +kernel
theorem d_M_readArguments_6 : decode (cd m_M_readArguments) 6 = .ok (.getfield 13, 3) := by decide +kernel
theorem d_M_readArguments_9 : decode (cd m_M_readArguments) 9 = .ok (.aload_n 0, 1) := by decide +kernel
theorem d_M_readArguments_10 : decode (cd m_M_readArguments) 10 = .ok (.getfield 180, 3) := by decide +kernel
theorem d_M_readArguments_13 : decode (cd m_M_readArguments) 13 = .ok (.iaload, 1) := by decide +kernel
theorem d_M_readArguments_14 : decode (cd m_M_readArguments) 14 = .ok (.iconst 1, 1) := by decide +kernel
theorem d_M_readArguments_15 : decode (cd m_M_readArguments) 15 = .ok (.if_icmp .ne 33, 3) := by decide +kernel
theorem d_M_readArguments_18 : decode (cd m_M_readArguments) 18 = .ok (.aload_n 0, 1) := by decide +kernel
theorem d_M_readArguments_19 : decode (cd m_M_readArguments) 19 = .ok (.aload_n 0, 1) := by decide +kernel
theorem d_M_readArguments_20 : decode (cd m_M_readArguments) 20 = .ok (.getfield 22, 3) := by decide +kernel
theorem d_M_readArguments_23 : decode (cd m_M_readArguments) 23 = .ok (.aload_n 0, 1) := by decide +kernel
theorem d_M_readArguments_24 : decode (cd m_M_readArguments) 24 = .ok (.getfield 180, 3) := by decide +kernel
theorem d_M_readArguments_27 : decode (cd m_M_readArguments) 27 = .ok (.laload, 1) := by decide +kernel
theorem d_M_readArguments_28 : decode (cd m_M_readArguments) 28 = .ok (.invokevirtual 218, 3) := by decide +kernel
theorem d_M_readArguments_31 : decode (cd m_M_readArguments) 31 = .ok (.ifCond .ne 22, 3) := by decide +kernel
theorem d_M_readArguments_34 : decode (cd m_M_readArguments) 34 = .ok (.aload_n 0, 1) := by decide +kernel
theorem d_M_readArguments_35 : decode (cd m_M_readArguments) 35 = .ok (.getfield 26, 3) := by decide +kernel
theorem d_M_readArguments_38 : decode (cd m_M_readArguments) 38 = .ok (.aload_n 0, 1) := by decide +kernel
theorem d_M_readArguments_39 : decode (cd m_M_readArguments) 39 = .ok (.getfield 211, 3) := by decide +kernel
theorem d_M_readArguments_42 : decode (cd m_M_readArguments) 42 = .ok (.iaload, 1) := by decide +kernel
theorem d_M_readArguments_43 : decode (cd m_M_readArguments) 43 = .ok (.bipush 16, 2) := by decide +kernel
theorem d_M_readArguments_45 : decode (cd m_M_readArguments) 45 = .ok (.if_icmp .ne 8, 3) := by decide +kernel
theorem d_M_readArguments_48 : decode (cd m_M_readArguments) 48 = .ok (.aload_n 0, 1) := by decide +kernel
theorem d_M_readArguments_49 : decode (cd m_M_readArguments) 49 = .ok (.invokevirtual 192, 3) := by decide +kernel
theorem d_M_readArguments_52 : decode (cd m_M_readArguments) 52 = .ok (.ireturn, 1) := by decide +kernel
theorem d_M_readArguments_53 : decode (cd m_M_readArguments) 53 = .ok (.aload_n 0, 1) := by decide +kernel
theorem d_M_readArguments_54 : decode (cd m_M_readArguments) 54 = .ok (.dup, 1) := by decide +kernel
theorem d_M_readArguments_55 : decode (cd m_M_readArguments) 55 = .ok (.getfield 180, 3) := by decide +kernel
theorem d_M_readArguments_58 : decode (cd m_M_readArguments) 58 = .ok (.iconst 1, 1) := by decide +kernel
theorem d_M_readArguments_59 : decode (cd m_M_readArguments) 59 = .ok (.iadd, 1) := by decide +kernel
theorem d_M_readArguments_60 : decode (cd m_M_readArguments) 60 = .ok (.putfield 180, 3) := by decide +kernel
theorem d_M_readArguments_63 : decode (cd m_M_readArguments) 63 = .ok (.aload_n 0, 1) := by decide +kernel
theorem d_M_readArguments_64 : decode (cd m_M_readArguments) 64 = .ok (.iconst 0, 1) := by decide +kernel
theorem d_M_readArguments_65 : decode (cd m_M_readArguments) 65 = .ok (.putfield 222, 3) := by decide +kernel
theorem d_M_readArguments_68 : decode (cd m_M_readArguments) 68 = .ok (.aload_n 0, 1) := by decide +kernel
theorem d_M_readArguments_69 : decode (cd m_M_readArguments) 69 = .ok (.bipush 40, 2) := by decide +kernel
theorem d_M_readArguments_71 : decode (cd m_M_readArguments) 71 = .ok (.invokevirtual 225, 3) := by decide +kernel
theorem d_M_readArguments_74 : decode (cd m_M_readArguments) 74 = .ok (.ifCond .ne 5, 3) := by decide +kernel
theorem d_M_readArguments_77 : decode (cd m_M_readArguments) 77 = .ok (.iconst 0, 1) := by decide +kernel
theorem d_M_readArguments_78 : decode (cd m_M_readArguments) 78 = .ok (.ireturn, 1) := by decide +kernel
theorem d_M_readArguments_79 : decode (cd m_M_readArguments) 79 = .ok (.aload_n 0, 1) := by decide +kernel
theorem d_M_readArguments_80 : decode (cd m_M_readArguments) 80 = .ok (.getfield 222, 3) := by decide +kernel
theorem d_M_readArguments_83 : decode (cd m_M_readArguments) 83 = .ok (.iconst 4, 1) := by decide +kernel
theorem d_M_readArguments_84 : decode (cd m_M_readArguments) 84 = .ok (.if_icmp .ne 8, 3) := by decide +kernel
theorem d_M_readArguments_87 : decode (cd m_M_readArguments) 87 = .ok (.aload_n 0, 1) := by decide +kernel
theorem d_M_readArguments_88 : decode (cd m_M_readArguments) 88 = .ok (.invokevirtual 192, 3) := by decide +kernel
theorem d_M_readArguments_91 : decode (cd m_M_readArguments) 91 = .ok (.ireturn, 1) := by decide +kernel
theorem d_M_readArguments_92 : decode (cd m_M_readArguments) 92 = .ok (.aload_n 0, 1) := by decide +kernel
theorem d_M_readArguments_93 : decode (cd m_M_readArguments) 93 = .ok (.getfield 16, 3) := by decide +kernel
theorem d_M_readArguments_96 : decode (cd m_M_readArguments) 96 = .ok (.aload_n 0, 1) := by decide +kernel
theorem d_M_readArguments_97 : decode (cd m_M_readArguments) 97 = .ok (.getfield 180, 3) := by decide +kernel
theorem d_M_readArguments_100 : decode (cd m_M_readArguments) 100 = .ok (.iaload, 1) := by decide +kernel
theorem d_M_readArguments_101 : decode (cd m_M_readArguments) 101 = .ok (.istore 4, 2) := by decide +kernel
theorem d_M_readArguments_103 : decode (cd m_M_readArguments) 103 = .ok (.iload_n 1, 1) := by decide +kernel
theorem d_M_readArguments_104 : decode (cd m_M_readArguments) 104 = .ok (.ifCond .eq 144, 3) := by decide +kernel
theorem d_M_readArguments_107 : decode (cd m_M_readArguments) 107 = .ok (.aload_n 0, 1) := by decide +kernel
theorem d_M_readArguments_108 : decode (cd m_M_readArguments) 108 = .ok (.getfield 13, 3) := by decide +kernel
theorem d_M_readArguments_111 : decode (cd m_M_readArguments) 111 = .ok (.aload_n 0, 1) := by decide +kernel
theorem d_M_readArguments_112 : decode (cd m_M_readArguments) 112 = .ok (.getfield 180, 3) := by decide +kernel
theorem d_M_readArguments_115 : decode (cd m_M_readArguments) 115 = .ok (.iaload, 1) := by decide +kernel
theorem d_M_readArguments_116 : decode (cd m_M_readArguments) 116 = .ok (.iconst 5, 1) := by decide +kernel
theorem d_M_readArguments_117 : decode (cd m_M_readArguments) 117 = .ok (.if_icmp .ne 131, 3) := by decide +kernel
theorem d_M_readArguments_120 : decode (cd m_M_readArguments) 120 = .ok (.aload_n 0, 1) := by decide +kernel
theorem d_M_readArguments_121 : decode (cd m_M_readArguments) 121 = .ok (.getfield 19, 3) := by decide +kernel
theorem d_M_readArguments_124 : decode (cd m_M_readArguments) 124 = .ok (.aload_n 0, 1) := by decide +kernel
theorem d_M_readArguments_125 : decode (cd m_M_readArguments) 125 = .ok (.getfield 180, 3) := by decide +kernel
theorem d_M_readArguments_128 : decode (cd m_M_readArguments) 128 = .ok (.iaload, 1) := by decide +kernel
theorem d_M_readArguments_129 : decode (cd m_M_readArguments) 129 = .ok (.iconst 1, 1) := by decide +kernel
theorem d_M_readArguments_130 : decode (cd m_M_readArguments) 130 = .ok (.if_icmp .le 118, 3) := by decide +kernel
theorem d_M_readArguments_133 : decode (cd m_M_readArguments) 133 = .ok (.aload_n 0, 1) := by decide +kernel
theorem d_M_readArguments_134 : decode (cd m_M_readArguments) 134 = .ok (.getfield 228, 3) := by decide +kernel
theorem d_M_readArguments_137 : decode (cd m_M_readArguments) 137 = .ok (.ifCond .ne 111, 3) := by decide +kernel
theorem d_M_readArguments_140 : decode (cd m_M_readArguments) 140 = .ok (.aload_n 0, 1) := by decide +kernel
theorem d_M_readArguments_141 : decode (cd m_M_readArguments) 141 = .ok (.aload_n 0, 1) := by decide +kernel
theorem d_M_readArguments_142 : decode (cd m_M_readArguments) 142 = .ok (.getfield 19, 3) := by decide +kernel
theorem d_M_readArguments_145 : decode (cd m_M_readArguments) 145 = .ok (.aload_n 0, 1) := by decide +kernel
theorem d_M_readArguments_146 : decode (cd m_M_readArguments) 146 = .ok (.getfield 180, 3) := by decide +kernel
theorem d_M_readArguments_149 : decode (cd m_M_readArguments) 149 = .ok (.iaload, 1) := by decide +kernel
theorem d_M_readArguments_150 : decode (cd m_M_readArguments) 150 = .ok (.putfield 228, 3) := by decide +kernel
theorem d_M_readArguments_153 : decode (cd m_M_readArguments) 153 = .ok (.aload_n 0, 1) := by decide +kernel
theorem d_M_readArguments_154 : decode (cd m_M_readArguments) 154 = .ok (.aload_n 0, 1) := by decide +kernel
theorem d_M_readArguments_155 : decode (cd m_M_readArguments) 155 = .ok (.getfield 222, 3) := by decide +kernel
theorem d_M_readArguments_158 : decode (cd m_M_readArguments) 158 = .ok (.putfield 231, 3) := by decide +kernel
theorem d_M_readArguments_161 : decode (cd m_M_readArguments) 161 = .ok (.aload_n 0, 1) := by decide +kernel
theorem d_M_readArguments_162 : decode (cd m_M_readArguments) 162 = .ok (.iload 4, 2) := by decide +kernel
theorem d_M_readArguments_164 : decode (cd m_M_readArguments) 164 = .ok (.putfield 234, 3) := by decide +kernel
theorem d_M_readArguments_167 : decode (cd m_M_readArguments) 167 = .ok (.aload_n 0, 1) := by decide +kernel
theorem d_M_readArguments_168 : decode (cd m_M_readArguments) 168 = .ok (.dup, 1) := by decide +kernel
theorem d_M_readArguments_169 : decode (cd m_M_readArguments) 169 = .ok (.getfield 180, 3) := by decide +kernel
theorem d_M_readArguments_172 : decode (cd m_M_readArguments) 172 = .ok (.iconst 1, 1) := by decide +kernel
theorem d_M_readArguments_173 : decode (cd m_M_readArguments) 173 = .ok (.iadd, 1) := by decide +kernel
theorem d_M_readArguments_174 : decode (cd m_M_readArguments) 174 = .ok (.putfield 180, 3) := by decide +kernel
theorem d_M_readArguments_177 : decode (cd m_M_readArguments) 177 = .ok (.aload_n 0, 1) := by decide +kernel
theorem d_M_readArguments_178 : decode (cd m_M_readArguments) 178 = .ok (.bipush 40, 2) := by decide +kernel
theorem d_M_readArguments_180 : decode (cd m_M_readArguments) 180 = .ok (.invokevirtual 225, 3) := by decide +kernel
theorem d_M_readArguments_183 : decode (cd m_M_readArguments) 183 = .ok (.ifCond .ne 5, 3) := by decide +kernel
theorem d_M_readArguments_186 : decode (cd m_M_readArguments) 186 = .ok (.iconst 0, 1) := by decide +kernel
theorem d_M_readArguments_187 : decode (cd m_M_readArguments) 187 = .ok (.ireturn, 1) := by decide +kernel
theorem d_M_readArguments_188 : decode (cd m_M_readArguments) 188 = .ok (.aload_n 0, 1) := by decide +kernel
theorem d_M_readArguments_189 : decode (cd m_M_readArguments) 189 = .ok (.getfield 13, 3) := by decide +kernel
theorem d_M_readArguments_192 : decode (cd m_M_readArguments) 192 = .ok (.aload_n 0, 1) := by decide +kernel
theorem d_M_readArguments_193 : decode (cd m_M_readArguments) 193 = .ok (.getfield 180, 3) := by decide +kernel
theorem d_M_readArguments_196 : decode (cd m_M_readArguments) 196 = .ok (.iaload, 1) := by decide +kernel
theorem d_M_readArguments_197 : decode (cd m_M_readArguments) 197 = .ok (.iconst 2, 1) := by decide +kernel
theorem d_M_readArguments_198 : decode (cd m_M_readArguments) 198 = .ok (.if_icmp .eq 8, 3) := by decide +kernel
theorem d_M_readArguments_201 : decode (cd m_M_readArguments) 201 = .ok (.aload_n 0, 1) := by decide +kernel
theorem d_M_readArguments_202 : decode (cd m_M_readArguments) 202 = .ok (.invokevirtual 192, 3) := by decide +kernel
theorem d_M_readArguments_205 : decode (cd m_M_readArguments) 205 = .ok (.ireturn, 1) := by decide +kernel
theorem d_M_readArguments_206 : decode (cd m_M_readArguments) 206 = .ok (.aload_n 0, 1) := by decide +kernel
theorem d_M_readArguments_207 : decode (cd m_M_readArguments) 207 = .ok (.invokevirtual 206, 3) := by decide +kernel
theorem d_M_readArguments_210 : decode (cd m_M_readArguments) 210 = .ok (.ifCond .eq 12, 3) := by decide +kernel
theorem d_M_readArguments_213 : decode (cd m_M_readArguments) 213 = .ok (.aload_n 0, 1) := by decide +kernel
theorem d_M_readArguments_214 : decode (cd m_M_readArguments) 214 = .ok (.bipush 41, 2) := by decide +kernel
theorem d_M_readArguments_216 : decode (cd m_M_readArguments) 216 = .ok (.invokevirtual 225, 3) := by decide +kernel
theorem d_M_readArguments_219 : decode (cd m_M_readArguments) 219 = .ok (.ifCond .ne 5, 3) := by decide +kernel
theorem d_M_readArguments_222 : decode (cd m_M_readArguments) 222 = .ok (.iconst 0, 1) := by decide +kernel
theorem d_M_readArguments_223 : decode (cd m_M_readArguments) 223 = .ok (.ireturn, 1) := by decide +kernel
theorem d_M_readArguments_224 : decode (cd m_M_readArguments) 224 = .ok (.aload_n 0, 1) := by decide +kernel
theorem d_M_readArguments_225 : decode (cd m_M_readArguments) 225 = .ok (.aload_n 0, 1) := by decide +kernel
theorem d_M_readArguments_226 : decode (cd m_M_readArguments) 226 = .ok (.getfield 237, 3) := by decide +kernel
theorem d_M_readArguments_229 : decode (cd m_M_readArguments) 229 = .ok (.iconst (-1), 1) := by decide +kernel
theorem d_M_readArguments_230 : decode (cd m_M_readArguments) 230 = .ok (.if_icmp .ne 8, 3) := by decide +kernel
theorem d_M_readArguments_233 : decode (cd m_M_readArguments) 233 = .ok (.iload 4, 2) := by decide +kernel
theorem d_M_readArguments_235 : decode (cd m_M_readArguments) 235 = .ok (.goto 7, 3) := by decide +kernel
theorem d_M_readArguments_238 : decode (cd m_M_readArguments) 238 = .ok (.aload_n 0, 1) := by decide +kernel
theorem d_M_readArguments_239 : decode (cd m_M_readArguments) 239 = .ok (.getfield 237, 3) := by decide +kernel
theorem d_M_readArguments_242 : decode (cd m_M_readArguments) 242 = .ok (.putfield 237, 3) := by decide +kernel
theorem d_M_readArguments_245 : decode (cd m_M_readArguments) 245 = .ok (.goto 65, 3) := by decide +kernel
theorem d_M_readArguments_248 : decode (cd m_M_readArguments) 248 = .ok (.iload_n 2, 1) := by decide +kernel
theorem d_M_readArguments_249 : decode (cd m_M_readArguments) 249 = .ok (.ifCond .eq 30, 3) := by decide +kernel
theorem d_M_readArguments_252 : decode (cd m_M_readArguments) 252 = .ok (.aload_n 0, 1) := by decide +kernel
theorem d_M_readArguments_253 : decode (cd m_M_readArguments) 253 = .ok (.bipush 95, 2) := by decide +kernel
theorem d_M_readArguments_255 : decode (cd m_M_readArguments) 255 = .ok (.invokevirtual 186, 3) := by decide +kernel
theorem d_M_readArguments_258 : decode (cd m_M_readArguments) 258 = .ok (.ifCond .eq 21, 3) := by decide +kernel
theorem d_M_readArguments_261 : decode (cd m_M_readArguments) 261 = .ok (.aload_n 0, 1) := by decide +kernel
theorem d_M_readArguments_262 : decode (cd m_M_readArguments) 262 = .ok (.dup, 1) := by decide +kernel
theorem d_M_readArguments_263 : decode (cd m_M_readArguments) 263 = .ok (.getfield 180, 3) := by decide +kernel
theorem d_M_readArguments_266 : decode (cd m_M_readArguments) 266 = .ok (.iconst 1, 1) := by decide +kernel
theorem d_M_readArguments_267 : decode (cd m_M_readArguments) 267 = .ok (.iadd, 1) := by decide +kernel
theorem d_M_readArguments_268 : decode (cd m_M_readArguments) 268 = .ok (.putfield 180, 3) := by decide +kernel
theorem d_M_readArguments_271 : decode (cd m_M_readArguments) 271 = .ok (.aload_n 0, 1) := by decide +kernel
theorem d_M_readArguments_272 : decode (cd m_M_readArguments) 272 = .ok (.iconst 2, 1) := by decide +kernel
theorem d_M_readArguments_273 : decode (cd m_M_readArguments) 273 = .ok (.putfield 199, 3) := by decide +kernel
theorem d_M_readArguments_276 : decode (cd m_M_readArguments) 276 = .ok (.goto 34, 3) := by decide +kernel
theorem d_M_readArguments_279 : decode (cd m_M_readArguments) 279 = .ok (.aload_n 0, 1) := by decide +kernel
theorem d_M_readArguments_280 : decode (cd m_M_readArguments) 280 = .ok (.invokevirtual 240, 3) := by decide +kernel
theorem d_M_readArguments_283 : decode (cd m_M_readArguments) 283 = .ok (.ifCond .ne 5, 3) := by decide +kernel
theorem d_M_readArguments_286 : decode (cd m_M_readArguments) 286 = .ok (.iconst 0, 1) := by decide +kernel
theorem d_M_readArguments_287 : decode (cd m_M_readArguments) 287 = .ok (.ireturn, 1) := by decide +kernel
theorem d_M_readArguments_288 : decode (cd m_M_readArguments) 288 = .ok (.aload_n 0, 1) := by decide +kernel
theorem d_M_readArguments_289 : decode (cd m_M_readArguments) 289 = .ok (.getfield 199, 3) := by decide +kernel
theorem d_M_readArguments_292 : decode (cd m_M_readArguments) 292 = .ok (.iconst 1, 1) := by decide +kernel
theorem d_M_readArguments_293 : decode (cd m_M_readArguments) 293 = .ok (.if_icmp .ne 17, 3) := by decide +kernel
theorem d_M_readArguments_296 : decode (cd m_M_readArguments) 296 = .ok (.aload_n 0, 1) := by decide +kernel
theorem d_M_readArguments_297 : decode (cd m_M_readArguments) 297 = .ok (.getfield 237, 3) := by decide +kernel
theorem d_M_readArguments_300 : decode (cd m_M_readArguments) 300 = .ok (.iconst (-1), 1) := by decide +kernel
theorem d_M_readArguments_301 : decode (cd m_M_readArguments) 301 = .ok (.if_icmp .ne 9, 3) := by decide +kernel
theorem d_M_readArguments_304 : decode (cd m_M_readArguments) 304 = .ok (.aload_n 0, 1) := by decide +kernel
theorem d_M_readArguments_305 : decode (cd m_M_readArguments) 305 = .ok (.iload 4, 2) := by decide +kernel
theorem d_M_readArguments_307 : decode (cd m_M_readArguments) 307 = .ok (.putfield 237, 3) := by decide +kernel
theorem d_M_readArguments_310 : decode (cd m_M_readArguments) 310 = .ok (.aload_n 0, 1) := by decide +kernel
theorem d_M_readArguments_311 : decode (cd m_M_readArguments) 311 = .ok (.getfield 93, 3) := by decide +kernel
theorem d_M_readArguments_314 : decode (cd m_M_readArguments) 314 = .ok (.aload_n 0, 1) := by decide +kernel
theorem d_M_readArguments_315 : decode (cd m_M_readArguments) 315 = .ok (.getfield 222, 3) := by decide +kernel
theorem d_M_readArguments_318 : decode (cd m_M_readArguments) 318 = .ok (.aload_n 0, 1) := by decide +kernel
theorem d_M_readArguments_319 : decode (cd m_M_readArguments) 319 = .ok (.getfield 199, 3) := by decide +kernel
theorem d_M_readArguments_322 : decode (cd m_M_readArguments) 322 = .ok (.iastore, 1) := by decide +kernel
theorem d_M_readArguments_323 : decode (cd m_M_readArguments) 323 = .ok (.aload_n 0, 1) := by decide +kernel
theorem d_M_readArguments_324 : decode (cd m_M_readArguments) 324 = .ok (.getfield 96, 3) := by decide +kernel
theorem d_M_readArguments_327 : decode (cd m_M_readArguments) 327 = .ok (.aload_n 0, 1) := by decide +kernel
theorem d_M_readArguments_328 : decode (cd m_M_readArguments) 328 = .ok (.getfield 222, 3) := by decide +kernel
theorem d_M_readArguments_331 : decode (cd m_M_readArguments) 331 = .ok (.aload_n 0, 1) := by decide +kernel
theorem d_M_readArguments_332 : decode (cd m_M_readArguments) 332 = .ok (.getfield 202, 3) := by decide +kernel
theorem d_M_readArguments_335 : decode (cd m_M_readArguments) 335 = .ok (.lastore, 1) := by decide +kernel
theorem d_M_readArguments_336 : decode (cd m_M_readArguments) 336 = .ok (.aload_n 0, 1) := by decide +kernel
theorem d_M_readArguments_337 : decode (cd m_M_readArguments) 337 = .ok (.dup, 1) := by decide +kernel
theorem d_M_readArguments_338 : decode (cd m_M_readArguments) 338 = .ok (.getfield 222, 3) := by decide +kernel
theorem d_M_readArguments_341 : decode (cd m_M_readArguments) 341 = .ok (.iconst 1, 1) := by decide +kernel
theorem d_M_readArguments_342 : decode (cd m_M_readArguments) 342 = .ok (.iadd, 1) := by decide +kernel
theorem d_M_readArguments_343 : decode (cd m_M_readArguments) 343 = .ok (.putfield 222, 3) := by decide +kernel
theorem d_M_readArguments_346 : decode (cd m_M_readArguments) 346 = .ok (.aload_n 0, 1) := by decide +kernel
theorem d_M_readArguments_347 : decode (cd m_M_readArguments) 347 = .ok (.bipush 44, 2) := by decide +kernel
theorem d_M_readArguments_349 : decode (cd m_M_readArguments) 349 = .ok (.invokevirtual 189, 3) := by decide +kernel
theorem d_M_readArguments_352 : decode (cd m_M_readArguments) 352 = .ok (.ifCond .ne (-273), 3) := by decide +kernel
theorem d_M_readArguments_355 : decode (cd m_M_readArguments) 355 = .ok (.aload_n 0, 1) := by decide +kernel
theorem d_M_readArguments_356 : decode (cd m_M_readArguments) 356 = .ok (.bipush 41, 2) := by decide +kernel
theorem d_M_readArguments_358 : decode (cd m_M_readArguments) 358 = .ok (.invokevirtual 225, 3) := by decide +kernel
theorem d_M_readArguments_361 : decode (cd m_M_readArguments) 361 = .ok (.ifCond .ne 5, 3) := by decide +kernel
theorem d_M_readArguments_364 : decode (cd m_M_readArguments) 364 = .ok (.iconst 0, 1) := by decide +kernel
theorem d_M_readArguments_365 : decode (cd m_M_readArguments) 365 = .ok (.ireturn, 1) := by decide +kernel
theorem d_M_readArguments_366 : decode (cd m_M_readArguments) 366 = .ok (.aload_n 0, 1) := by decide +kernel
theorem d_M_readArguments_367 : decode (cd m_M_readArguments) 367 = .ok (.aload_n 0, 1) := by decide +kernel
theorem d_M_readArguments_368 : decode (cd m_M_readArguments) 368 = .ok (.aload_n 0, 1) := by decide +kernel
theorem d_M_readArguments_369 : decode (cd m_M_readArguments) 369 = .ok (.getfield 22, 3) := by decide +kernel
theorem d_M_readArguments_372 : decode (cd m_M_readArguments) 372 = .ok (.iload_n 3, 1) := by decide +kernel
theorem d_M_readArguments_373 : decode (cd m_M_readArguments) 373 = .ok (.laload, 1) := by decide +kernel
theorem d_M_readArguments_374 : decode (cd m_M_readArguments) 374 = .ok (.aload_n 0, 1) := by decide +kernel
theorem d_M_readArguments_375 : decode (cd m_M_readArguments) 375 = .ok (.getfield 222, 3) := by decide +kernel
theorem d_M_readArguments_378 : decode (cd m_M_readArguments) 378 = .ok (.aload_n 0, 1) := by decide +kernel
theorem d_M_readArguments_379 : decode (cd m_M_readArguments) 379 = .ok (.getfield 16, 3) := by decide +kernel
theorem d_M_readArguments_382 : decode (cd m_M_readArguments) 382 = .ok (.iload_n 3, 1) := by decide +kernel
theorem d_M_readArguments_383 : decode (cd m_M_readArguments) 383 = .ok (.iaload, 1) := by decide +kernel
theorem d_M_readArguments_384 : decode (cd m_M_readArguments) 384 = .ok (.invokevirtual 243, 3) := by decide +kernel
theorem d_M_readArguments_387 : decode (cd m_M_readArguments) 387 = .ok (.putfield 247, 3) := by decide +kernel
theorem d_M_readArguments_390 : decode (cd m_M_readArguments) 390 = .ok (.iconst 1, 1) := by decide +kernel
theorem d_M_readArguments_391 : decode (cd m_M_readArguments) 391 = .ok (.ireturn, 1) := by decide +kernel
theorem d_M_relation_0 : decode (cd m_M_relation) 0 = .ok (.aload_n 0, 1) := by decide +kernel
theorem d_M_relation_1 : decode (cd m_M_relation) 1 = .ok (.getfield 13, 3) := by decide +kernel
theorem d_M_relation_4 : decode (cd m_M_relation) 4 = .ok (.aload_n 0, 1) := by decide +kernel
theorem d_M_relation_5 : decode (cd m_M_relation) 5 = .ok (.getfield 180, 3) := by decide +kernel
theorem d_M_relation_8 : decode (cd m_M_relation) 8 = .ok (.iaload, 1) := by decide +kernel
theorem d_M_relation_9 : decode (cd m_M_relation) 9 = .ok (.iconst 4, 1) := by decide +kernel
theorem d_M_relation_10 : decode (cd m_M_relation) 10 = .ok (.if_icmp .eq 5, 3) := by decide +kernel
theorem d_M_relation_13 : decode (cd m_M_relation) 13 = .ok (.iconst 0, 1) := by decide +kernel
theorem d_M_relation_14 : decode (cd m_M_relation) 14 = .ok (.ireturn, 1) := by decide +kernel
theorem d_M_relation_15 : decode (cd m_M_relation) 15 = .ok (.aload_n 0, 1) := by decide +kernel
theorem d_M_relation_16 : decode (cd m_M_relation) 16 = .ok (.getfield 19, 3) := by decide +kernel
theorem d_M_relation_19 : decode (cd m_M_relation) 19 = .ok (.aload_n 0, 1) := by decide +kernel
theorem d_M_relation_20 : decode (cd m_M_relation) 20 = .ok (.getfield 180, 3) := by decide +kernel
theorem d_M_relation_23 : decode (cd m_M_relation) 23 = .ok (.iaload, 1) := by decide +kernel
theorem d_M_relation_24 : decode (cd m_M_relation) 24 = .ok (.istore_n 1, 1) := by decide +kernel
theorem d_M_relation_25 : decode (cd m_M_relation) 25 = .ok (.iload_n 1, 1) := by decide +kernel
theorem d_M_relation_26 : decode (cd m_M_relation) 26 = .ok (.bipush 61, 2) := by decide +kernel
theorem d_M_relation_28 : decode (cd m_M_relation) 28 = .ok (.if_icmp .eq 36, 3) := by decide +kernel
theorem d_M_relation_31 : decode (cd m_M_relation) 31 = .ok (.iload_n 1, 1) := by decide +kernel
theorem d_M_relation_32 : decode (cd m_M_relation) 32 = .ok (.sipush 301, 3) := by decide +kernel
theorem d_M_relation_35 : decode (cd m_M_relation) 35 = .ok (.if_icmp .eq 29, 3) := by decide +kernel
theorem d_M_relation_38 : decode (cd m_M_relation) 38 = .ok (.iload_n 1, 1) := by decide +kernel
theorem d_M_relation_39 : decode (cd m_M_relation) 39 = .ok (.bipush 60, 2) := by decide +kernel
theorem d_M_relation_41 : decode (cd m_M_relation) 41 = .ok (.if_icmp .eq 23, 3) := by decide +kernel
theorem d_M_relation_44 : decode (cd m_M_relation) 44 = .ok (.iload_n 1, 1) := by decide +kernel
theorem d_M_relation_45 : decode (cd m_M_relation) 45 = .ok (.sipush 302, 3) := by decide +kernel
theorem d_M_relation_48 : decode (cd m_M_relation) 48 = .ok (.if_icmp .eq 16, 3) := by decide +kernel
theorem d_M_relation_51 : decode (cd m_M_relation) 51 = .ok (.iload_n 1, 1) := by decide +kernel
theorem d_M_relation_52 : decode (cd m_M_relation) 52 = .ok (.bipush 62, 2) := by decide +kernel
theorem d_M_relation_54 : decode (cd m_M_relation) 54 = .ok (.if_icmp .eq 10, 3) := by decide +kernel
theorem d_M_relation_57 : decode (cd m_M_relation) 57 = .ok (.iload_n 1, 1) := by decide +kernel
theorem d_M_relation_58 : decode (cd m_M_relation) 58 = .ok (.sipush 303, 3) := by decide +kernel
theorem d_M_relation_61 : decode (cd m_M_relation) 61 = .ok (.if_icmp .ne 7, 3) := by decide +kernel
theorem d_M_relation_64 : decode (cd m_M_relation) 64 = .ok (.iload_n 1, 1) := by decide +kernel
theorem d_M_relation_65 : decode (cd m_M_relation) 65 = .ok (.goto 4, 3) := by decide +kernel
theorem d_M_relation_68 : decode (cd m_M_relation) 68 = .ok (.iconst 0, 1) := by decide +kernel
theorem d_M_relation_69 : decode (cd m_M_relation) 69 = .ok (.ireturn, 1) := by decide +kernel
theorem d_M_lay_0 : decode (cd m_M_lay) 0 = .ok (.aload_n 0, 1) := by decide +kernel
theorem d_M_lay_1 : decode (cd m_M_lay) 1 = .ok (.getfield 68, 3) := by decide +kernel
theorem d_M_lay_4 : decode (cd m_M_lay) 4 = .ok (.iconst 4, 1) := by decide +kernel
theorem d_M_lay_5 : decode (cd m_M_lay) 5 = .ok (.iload_n 1, 1) := by decide +kernel
theorem d_M_lay_6 : decode (cd m_M_lay) 6 = .ok (.imul, 1) := by decide +kernel
theorem d_M_lay_7 : decode (cd m_M_lay) 7 = .ok (.iload_n 2, 1) := by decide +kernel
theorem d_M_lay_8 : decode (cd m_M_lay) 8 = .ok (.iadd, 1) := by decide +kernel
theorem d_M_lay_9 : decode (cd m_M_lay) 9 = .ok (.aload_n 0, 1) := by decide +kernel
theorem d_M_lay_10 : decode (cd m_M_lay) 10 = .ok (.getfield 199, 3) := by decide +kernel
theorem d_M_lay_13 : decode (cd m_M_lay) 13 = .ok (.iastore, 1) := by decide +kernel
theorem d_M_lay_14 : decode (cd m_M_lay) 14 = .ok (.aload_n 0, 1) := by decide +kernel
theorem d_M_lay_15 : decode (cd m_M_lay) 15 = .ok (.getfield 71, 3) := by decide +kernel
theorem d_M_lay_18 : decode (cd m_M_lay) 18 = .ok (.iconst 4, 1) := by decide +kernel
theorem d_M_lay_19 : decode (cd m_M_lay) 19 = .ok (.iload_n 1, 1) := by decide +kernel
theorem d_M_lay_20 : decode (cd m_M_lay) 20 = .ok (.imul, 1) := by decide +kernel
theorem d_M_lay_21 : decode (cd m_M_lay) 21 = .ok (.iload_n 2, 1) := by decide +kernel
theorem d_M_lay_22 : decode (cd m_M_lay) 22 = .ok (.iadd, 1) := by decide +kernel
theorem d_M_lay_23 : decode (cd m_M_lay) 23 = .ok (.aload_n 0, 1) := by decide +kernel
theorem d_M_lay_24 : decode (cd m_M_lay) 24 = .ok (.getfield 202, 3) := by decide +kernel
theorem d_M_lay_27 : decode (cd m_M_lay) 27 = .ok (.lastore, 1) := by decide +kernel
theorem d_M_lay_28 : decode (cd m_M_lay) 28 = .ok (.return_, 1) := by decide +kernel
theorem d_M_readLiteral_0 : decode (cd m_M_readLiteral) 0 = .ok (.aload_n 0, 1) := by decide +kernel
theorem d_M_readLiteral_1 : decode (cd m_M_readLiteral) 1 = .ok (.getfield 56, 3) := by decide +kernel
theorem d_M_readLiteral_4 : decode (cd m_M_readLiteral) 4 = .ok (.aload_n 0, 1) := by decide +kernel
theorem d_M_readLiteral_5 : decode (cd m_M_readLiteral) 5 = .ok (.getfield 196, 3) := by decide +kernel
theorem d_M_readLiteral_8 : decode (cd m_M_readLiteral) 8 = .ok (.iaload, 1) := by decide +kernel
theorem d_M_readLiteral_9 : decode (cd m_M_readLiteral) 9 = .ok (.bipush 6, 2) := by decide +kernel
theorem d_M_readLiteral_11 : decode (cd m_M_readLiteral) 11 = .ok (.if_icmp .ne 8, 3) := by decide +kernel
theorem d_M_readLiteral_14 : decode (cd m_M_readLiteral) 14 = .ok (.aload_n 0, 1) := by decide +kernel
theorem d_M_readLiteral_15 : decode (cd m_M_readLiteral) 15 = .ok (.invokevirtual 192, 3) := by decide +kernel
theorem d_M_readLiteral_18 : decode (cd m_M_readLiteral) 18 = .ok (.ireturn, 1) := by decide +kernel
theorem d_M_readLiteral_19 : decode (cd m_M_readLiteral) 19 = .ok (.bipush 6, 2) := by decide +kernel
theorem d_M_readLiteral_21 : decode (cd m_M_readLiteral) 21 = .ok (.aload_n 0, 1) := by decide +kernel
theorem d_M_readLiteral_22 : decode (cd m_M_readLiteral) 22 = .ok (.getfield 196, 3) := by decide +kernel
theorem d_M_readLiteral_25 : decode (cd m_M_readLiteral) 25 = .ok (.imul, 1) := by decide +kernel
theorem d_M_readLiteral_26 : decode (cd m_M_readLiteral) 26 = .ok (.aload_n 0, 1) := by decide +kernel
theorem d_M_readLiteral_27 : decode (cd m_M_readLiteral) 27 = .ok (.getfield 56, 3) := by decide +kernel
theorem d_M_readLiteral_30 : decode (cd m_M_readLiteral) 30 = .ok (.aload_n 0, 1) := by decide +kernel
theorem d_M_readLiteral_31 : decode (cd m_M_readLiteral) 31 = .ok (.getfield 196, 3) := by decide +kernel
theorem d_M_readLiteral_34 : decode (cd m_M_readLiteral) 34 = .ok (.iaload, 1) := by decide +kernel
theorem d_M_readLiteral_35 : decode (cd m_M_readLiteral) 35 = .ok (.iadd, 1) := by decide +kernel
theorem d_M_readLiteral_36 : decode (cd m_M_readLiteral) 36 = .ok (.istore_n 1, 1) := by decide +kernel
theorem d_M_readLiteral_37 : decode (cd m_M_readLiteral) 37 = .ok (.aload_n 0, 1) := by decide +kernel
theorem d_M_readLiteral_38 : decode (cd m_M_readLiteral) 38 = .ok (.bipush 33, 2) := by decide +kernel
theorem d_M_readLiteral_40 : decode (cd m_M_readLiteral) 40 = .ok (.invokevirtual 186, 3) := by decide +kernel
theorem d_M_readLiteral_43 : decode (cd m_M_readLiteral) 43 = .ok (.istore_n 2, 1) := by decide +kernel
theorem d_M_readLiteral_44 : decode (cd m_M_readLiteral) 44 = .ok (.iload_n 2, 1) := by decide +kernel
theorem d_M_readLiteral_45 : decode (cd m_M_readLiteral) 45 = .ok (.ifCond .ne 47, 3) := by decide +kernel
theorem d_M_readLiteral_48 : decode (cd m_M_readLiteral) 48 = .ok (.aload_n 0, 1) := by decide +kernel
theorem d_M_readLiteral_49 : decode (cd m_M_readLiteral) 49 = .ok (.getfield 13, 3) := by decide +kernel
theorem d_M_readLiteral_52 : decode (cd m_M_readLiteral) 52 = .ok (.aload_n 0, 1) := by decide +kernel
theorem d_M_readLiteral_53 : decode (cd m_M_readLiteral) 53 = .ok (.getfield 180, 3) := by decide +kernel
theorem d_M_readLiteral_56 : decode (cd m_M_readLiteral) 56 = .ok (.iaload, 1) := by decide +kernel
theorem d_M_readLiteral_57 : decode (cd m_M_readLiteral) 57 = .ok (.iconst 1, 1) := by decide +kernel
theorem d_M_readLiteral_58 : decode (cd m_M_readLiteral) 58 = .ok (.if_icmp .ne 38, 3) := by decide +kernel
theorem d_M_readLiteral_61 : decode (cd m_M_readLiteral) 61 = .ok (.aload_n 0, 1) := by decide +kernel
theorem d_M_readLiteral_62 : decode (cd m_M_readLiteral) 62 = .ok (.getfield 13, 3) := by decide +kernel
theorem d_M_readLiteral_65 : decode (cd m_M_readLiteral) 65 = .ok (.aload_n 0, 1) := by decide +kernel
theorem d_M_readLiteral_66 : decode (cd m_M_readLiteral) 66 = .ok (.getfield 180, 3) := by decide +kernel
theorem d_M_readLiteral_69 : decode (cd m_M_readLiteral) 69 = .ok (.iconst 1, 1) := by decide +kernel
theorem d_M_readLiteral_70 : decode (cd m_M_readLiteral) 70 = .ok (.iadd, 1) := by decide +kernel
theorem d_M_readLiteral_71 : decode (cd m_M_readLiteral) 71 = .ok (.iaload, 1) := by decide +kernel
theorem d_M_readLiteral_72 : decode (cd m_M_readLiteral) 72 = .ok (.iconst 4, 1) := by decide +kernel
theorem d_M_readLiteral_73 : decode (cd m_M_readLiteral) 73 = .ok (.if_icmp .ne 23, 3) := by decide +kernel
theorem d_M_readLiteral_76 : decode (cd m_M_readLiteral) 76 = .ok (.aload_n 0, 1) := by decide +kernel
theorem d_M_readLiteral_77 : decode (cd m_M_readLiteral) 77 = .ok (.getfield 19, 3) := by decide +kernel
theorem d_M_readLiteral_80 : decode (cd m_M_readLiteral) 80 = .ok (.aload_n 0, 1) := by decide +kernel
theorem d_M_readLiteral_81 : decode (cd m_M_readLiteral) 81 = .ok (.getfield 180, 3) := by decide +kernel
theorem d_M_readLiteral_84 : decode (cd m_M_readLiteral) 84 = .ok (.iconst 1, 1) := by decide +kernel
theorem d_M_readLiteral_85 : decode (cd m_M_readLiteral) 85 = .ok (.iadd, 1) := by decide +kernel
theorem d_M_readLiteral_86 : decode (cd m_M_readLiteral) 86 = .ok (.iaload, 1) := by decide +kernel
theorem d_M_readLiteral_87 : decode (cd m_M_readLiteral) 87 = .ok (.bipush 40, 2) := by decide +kernel
theorem d_M_readLiteral_89 : decode (cd m_M_readLiteral) 89 = .ok (.if_icmp .ne 7, 3) := by decide +kernel
theorem d_M_readLiteral_92 : decode (cd m_M_readLiteral) 92 = .ok (.iconst 1, 1) := by decide +kernel
theorem d_M_readLiteral_93 : decode (cd m_M_readLiteral) 93 = .ok (.goto 4, 3) := by decide +kernel
theorem d_M_readLiteral_96 : decode (cd m_M_readLiteral) 96 = .ok (.iconst 0, 1) := by decide +kernel
theorem d_M_readLiteral_97 : decode (cd m_M_readLiteral) 97 = .ok (.istore_n 3, 1) := by decide +kernel
theorem d_M_readLiteral_98 : decode (cd m_M_readLiteral) 98 = .ok (.aload_n 0, 1) := by decide +kernel
theorem d_M_readLiteral_99 : decode (cd m_M_readLiteral) 99 = .ok (.getfield 99, 3) := by decide +kernel
theorem d_M_readLiteral_102 : decode (cd m_M_readLiteral) 102 = .ok (.iload_n 1, 1) := by decide +kernel
theorem d_M_readLiteral_103 : decode (cd m_M_readLiteral) 103 = .ok (.aload_n 0, 1) := by decide +kernel
theorem d_M_readLiteral_104 : decode (cd m_M_readLiteral) 104 = .ok (.getfield 16, 3) := by decide +kernel
theorem d_M_readLiteral_107 : decode (cd m_M_readLiteral) 107 = .ok (.aload_n 0, 1) := by decide +kernel
theorem d_M_readLiteral_108 : decode (cd m_M_readLiteral) 108 = .ok (.getfield 180, 3) := by decide +kernel
theorem d_M_readLiteral_111 : decode (cd m_M_readLiteral) 111 = .ok (.iaload, 1) := by decide +kernel
theorem d_M_readLiteral_112 : decode (cd m_M_readLiteral) 112 = .ok (.iastore, 1) := by decide +kernel
theorem d_M_readLiteral_113 : decode (cd m_M_readLiteral) 113 = .ok (.iload_n 3, 1) := by decide +kernel
theorem d_M_readLiteral_114 : decode (cd m_M_readLiteral) 114 = .ok (.ifCond .eq 186, 3) := by decide +kernel
theorem d_M_readLiteral_117 : decode (cd m_M_readLiteral) 117 = .ok (.iload_n 2, 1) := by decide +kernel
theorem d_M_readLiteral_118 : decode (cd m_M_readLiteral) 118 = .ok (.ifCond .eq 16, 3) := by decide +kernel
theorem d_M_readLiteral_121 : decode (cd m_M_readLiteral) 121 = .ok (.aload_n 0, 1) := by decide +kernel
theorem d_M_readLiteral_122 : decode (cd m_M_readLiteral) 122 = .ok (.dup, 1) := by decide +kernel
theorem d_M_readLiteral_123 : decode (cd m_M_readLiteral) 123 = .ok (.getfield 180, 3) := by decide +kernel
theorem d_M_readLiteral_126 : decode (cd m_M_readLiteral) 126 = .ok (.iconst 1, 1) := by decide +kernel
theorem d_M_readLiteral_127 : decode (cd m_M_readLiteral) 127 = .ok (.iadd, 1) := by decide +kernel
theorem d_M_readLiteral_128 : decode (cd m_M_readLiteral) 128 = .ok (.putfield 180, 3) := by decide +kernel
theorem d_M_readLiteral_131 : decode (cd m_M_readLiteral) 131 = .ok (.goto 16, 3) := by decide +kernel
theorem d_M_readLiteral_134 : decode (cd m_M_readLiteral) 134 = .ok (.aload_n 0, 1) := by decide +kernel
theorem d_M_readLiteral_135 : decode (cd m_M_readLiteral) 135 = .ok (.getfield 250, 3) := by decide +kernel
theorem d_M_readLiteral_138 : decode (cd m_M_readLiteral) 138 = .ok (.iconst 3, 1) := by decide +kernel
theorem d_M_readLiteral_139 : decode (cd m_M_readLiteral) 139 = .ok (.if_icmp .ne 8, 3) := by decide +kernel
theorem d_M_readLiteral_142 : decode (cd m_M_readLiteral) 142 = .ok (.aload_n 0, 1) := by decide +kernel
theorem d_M_readLiteral_143 : decode (cd m_M_readLiteral) 143 = .ok (.invokevirtual 192, 3) := by decide +kernel
end
section
/-! decode rows (by program) -/
theorem d_M_readLiteral_146 : decode (cd m_M_readLiteral) 146 = .ok (.ireturn, 1) := by decide +kernel
theorem d_M_readLiteral_147 : decode (cd m_M_readLiteral) 147 = .ok (.aload_n 0, 1) := by decide +kernel
theorem d_M_readLiteral_148 : decode (cd m_M_readLiteral) 148 = .ok (.iconst 0, 1) := by decide +kernel
theorem d_M_readLiteral_149 : decode (cd m_M_readLiteral) 149 = .ok (.iload_n 2, 1) := by decide +kernel
theorem d_M_readLiteral_150 : decode (cd m_M_readLiteral) 150 = .ok (.ifCond .ne 15, 3) := by decide +kernel
theorem d_M_readLiteral_153 : decode (cd m_M_readLiteral) 153 = .ok (.aload_n 0, 1) := by decide +kernel
theorem d_M_readLiteral_154 : decode (cd m_M_readLiteral) 154 = .ok (.getfield 50, 3) := by decide +kernel
theorem d_M_readLiteral_157 : decode (cd m_M_readLiteral) 157 = .ok (.aload_n 0, 1) := by decide +kernel
theorem d_M_readLiteral_158 : decode (cd m_M_readLiteral) 158 = .ok (.getfield 196, 3) := by decide +kernel
theorem d_M_readLiteral_161 : decode (cd m_M_readLiteral) 161 = .ok (.iaload, 1) := by decide +kernel
theorem d_M_readLiteral_162 : decode (cd m_M_readLiteral) 162 = .ok (.ifCond .ne 7, 3) := by decide +kernel
theorem d_M_readLiteral_165 : decode (cd m_M_readLiteral) 165 = .ok (.iconst 1, 1) := by decide +kernel
theorem d_M_readLiteral_166 : decode (cd m_M_readLiteral) 166 = .ok (.goto 4, 3) := by decide +kernel
theorem d_M_readLiteral_169 : decode (cd m_M_readLiteral) 169 = .ok (.iconst 0, 1) := by decide +kernel
theorem d_M_readLiteral_170 : decode (cd m_M_readLiteral) 170 = .ok (.invokevirtual 253, 3) := by decide +kernel
theorem d_M_readLiteral_173 : decode (cd m_M_readLiteral) 173 = .ok (.ifCond .ne 5, 3) := by decide +kernel
theorem d_M_readLiteral_176 : decode (cd m_M_readLiteral) 176 = .ok (.iconst 0, 1) := by decide +kernel
theorem d_M_readLiteral_177 : decode (cd m_M_readLiteral) 177 = .ok (.ireturn, 1) := by decide +kernel
theorem d_M_readLiteral_178 : decode (cd m_M_readLiteral) 178 = .ok (.aload_n 0, 1) := by decide +kernel
theorem d_M_readLiteral_179 : decode (cd m_M_readLiteral) 179 = .ok (.dup, 1) := by decide +kernel
theorem d_M_readLiteral_180 : decode (cd m_M_readLiteral) 180 = .ok (.getfield 250, 3) := by decide +kernel
theorem d_M_readLiteral_183 : decode (cd m_M_readLiteral) 183 = .ok (.iload_n 2, 1) := by decide +kernel
theorem d_M_readLiteral_184 : decode (cd m_M_readLiteral) 184 = .ok (.ifCond .eq 7, 3) := by decide +kernel
theorem d_M_readLiteral_187 : decode (cd m_M_readLiteral) 187 = .ok (.iconst 0, 1) := by decide +kernel
theorem d_M_readLiteral_188 : decode (cd m_M_readLiteral) 188 = .ok (.goto 4, 3) := by decide +kernel
theorem d_M_readLiteral_191 : decode (cd m_M_readLiteral) 191 = .ok (.iconst 1, 1) := by decide +kernel
theorem d_M_readLiteral_192 : decode (cd m_M_readLiteral) 192 = .ok (.iadd, 1) := by decide +kernel
theorem d_M_readLiteral_193 : decode (cd m_M_readLiteral) 193 = .ok (.putfield 250, 3) := by decide +kernel
theorem d_M_readLiteral_196 : decode (cd m_M_readLiteral) 196 = .ok (.aload_n 0, 1) := by decide +kernel
theorem d_M_readLiteral_197 : decode (cd m_M_readLiteral) 197 = .ok (.getfield 62, 3) := by decide +kernel
theorem d_M_readLiteral_200 : decode (cd m_M_readLiteral) 200 = .ok (.iload_n 1, 1) := by decide +kernel
theorem d_M_readLiteral_201 : decode (cd m_M_readLiteral) 201 = .ok (.iload_n 2, 1) := by decide +kernel
theorem d_M_readLiteral_202 : decode (cd m_M_readLiteral) 202 = .ok (.ifCond .eq 7, 3) := by decide +kernel
theorem d_M_readLiteral_205 : decode (cd m_M_readLiteral) 205 = .ok (.iconst 1, 1) := by decide +kernel
theorem d_M_readLiteral_206 : decode (cd m_M_readLiteral) 206 = .ok (.goto 4, 3) := by decide +kernel
theorem d_M_readLiteral_209 : decode (cd m_M_readLiteral) 209 = .ok (.iconst 0, 1) := by decide +kernel
theorem d_M_readLiteral_210 : decode (cd m_M_readLiteral) 210 = .ok (.iastore, 1) := by decide +kernel
theorem d_M_readLiteral_211 : decode (cd m_M_readLiteral) 211 = .ok (.aload_n 0, 1) := by decide +kernel
theorem d_M_readLiteral_212 : decode (cd m_M_readLiteral) 212 = .ok (.getfield 65, 3) := by decide +kernel
theorem d_M_readLiteral_215 : decode (cd m_M_readLiteral) 215 = .ok (.iload_n 1, 1) := by decide +kernel
theorem d_M_readLiteral_216 : decode (cd m_M_readLiteral) 216 = .ok (.aload_n 0, 1) := by decide +kernel
theorem d_M_readLiteral_217 : decode (cd m_M_readLiteral) 217 = .ok (.getfield 247, 3) := by decide +kernel
theorem d_M_readLiteral_220 : decode (cd m_M_readLiteral) 220 = .ok (.iastore, 1) := by decide +kernel
theorem d_M_readLiteral_221 : decode (cd m_M_readLiteral) 221 = .ok (.aload_n 0, 1) := by decide +kernel
theorem d_M_readLiteral_222 : decode (cd m_M_readLiteral) 222 = .ok (.getfield 102, 3) := by decide +kernel
theorem d_M_readLiteral_225 : decode (cd m_M_readLiteral) 225 = .ok (.iload_n 1, 1) := by decide +kernel
theorem d_M_readLiteral_226 : decode (cd m_M_readLiteral) 226 = .ok (.aload_n 0, 1) := by decide +kernel
theorem d_M_readLiteral_227 : decode (cd m_M_readLiteral) 227 = .ok (.getfield 222, 3) := by decide +kernel
theorem d_M_readLiteral_230 : decode (cd m_M_readLiteral) 230 = .ok (.iastore, 1) := by decide +kernel
theorem d_M_readLiteral_231 : decode (cd m_M_readLiteral) 231 = .ok (.iconst 0, 1) := by decide +kernel
theorem d_M_readLiteral_232 : decode (cd m_M_readLiteral) 232 = .ok (.istore 4, 2) := by decide +kernel
theorem d_M_readLiteral_234 : decode (cd m_M_readLiteral) 234 = .ok (.iload 4, 2) := by decide +kernel
theorem d_M_readLiteral_236 : decode (cd m_M_readLiteral) 236 = .ok (.aload_n 0, 1) := by decide +kernel
theorem d_M_readLiteral_237 : decode (cd m_M_readLiteral) 237 = .ok (.getfield 222, 3) := by decide +kernel
theorem d_M_readLiteral_240 : decode (cd m_M_readLiteral) 240 = .ok (.if_icmp .ge 45, 3) := by decide +kernel
theorem d_M_readLiteral_243 : decode (cd m_M_readLiteral) 243 = .ok (.aload_n 0, 1) := by decide +kernel
theorem d_M_readLiteral_244 : decode (cd m_M_readLiteral) 244 = .ok (.getfield 68, 3) := by decide +kernel
theorem d_M_readLiteral_247 : decode (cd m_M_readLiteral) 247 = .ok (.iconst 4, 1) := by decide +kernel
theorem d_M_readLiteral_248 : decode (cd m_M_readLiteral) 248 = .ok (.iload_n 1, 1) := by decide +kernel
theorem d_M_readLiteral_249 : decode (cd m_M_readLiteral) 249 = .ok (.imul, 1) := by decide +kernel
theorem d_M_readLiteral_250 : decode (cd m_M_readLiteral) 250 = .ok (.iload 4, 2) := by decide +kernel
theorem d_M_readLiteral_252 : decode (cd m_M_readLiteral) 252 = .ok (.iadd, 1) := by decide +kernel
theorem d_M_readLiteral_253 : decode (cd m_M_readLiteral) 253 = .ok (.aload_n 0, 1) := by decide +kernel
theorem d_M_readLiteral_254 : decode (cd m_M_readLiteral) 254 = .ok (.getfield 93, 3) := by decide +kernel
theorem d_M_readLiteral_257 : decode (cd m_M_readLiteral) 257 = .ok (.iload 4, 2) := by decide +kernel
theorem d_M_readLiteral_259 : decode (cd m_M_readLiteral) 259 = .ok (.iaload, 1) := by decide +kernel
theorem d_M_readLiteral_260 : decode (cd m_M_readLiteral) 260 = .ok (.iastore, 1) := by decide +kernel
theorem d_M_readLiteral_261 : decode (cd m_M_readLiteral) 261 = .ok (.aload_n 0, 1) := by decide +kernel
theorem d_M_readLiteral_262 : decode (cd m_M_readLiteral) 262 = .ok (.getfield 71, 3) := by decide +kernel
theorem d_M_readLiteral_265 : decode (cd m_M_readLiteral) 265 = .ok (.iconst 4, 1) := by decide +kernel
theorem d_M_readLiteral_266 : decode (cd m_M_readLiteral) 266 = .ok (.iload_n 1, 1) := by decide +kernel
theorem d_M_readLiteral_267 : decode (cd m_M_readLiteral) 267 = .ok (.imul, 1) := by decide +kernel
theorem d_M_readLiteral_268 : decode (cd m_M_readLiteral) 268 = .ok (.iload 4, 2) := by decide +kernel
theorem d_M_readLiteral_270 : decode (cd m_M_readLiteral) 270 = .ok (.iadd, 1) := by decide +kernel
theorem d_M_readLiteral_271 : decode (cd m_M_readLiteral) 271 = .ok (.aload_n 0, 1) := by decide +kernel
theorem d_M_readLiteral_272 : decode (cd m_M_readLiteral) 272 = .ok (.getfield 96, 3) := by decide +kernel
theorem d_M_readLiteral_275 : decode (cd m_M_readLiteral) 275 = .ok (.iload 4, 2) := by decide +kernel
theorem d_M_readLiteral_277 : decode (cd m_M_readLiteral) 277 = .ok (.laload, 1) := by decide +kernel
theorem d_M_readLiteral_278 : decode (cd m_M_readLiteral) 278 = .ok (.lastore, 1) := by decide +kernel
theorem d_M_readLiteral_279 : decode (cd m_M_readLiteral) 279 = .ok (.iinc 4 1, 3) := by decide +kernel
theorem d_M_readLiteral_282 : decode (cd m_M_readLiteral) 282 = .ok (.goto (-48), 3) := by decide +kernel
theorem d_M_readLiteral_285 : decode (cd m_M_readLiteral) 285 = .ok (.aload_n 0, 1) := by decide +kernel
theorem d_M_readLiteral_286 : decode (cd m_M_readLiteral) 286 = .ok (.getfield 56, 3) := by decide +kernel
theorem d_M_readLiteral_289 : decode (cd m_M_readLiteral) 289 = .ok (.aload_n 0, 1) := by decide +kernel
theorem d_M_readLiteral_290 : decode (cd m_M_readLiteral) 290 = .ok (.getfield 196, 3) := by decide +kernel
theorem d_M_readLiteral_293 : decode (cd m_M_readLiteral) 293 = .ok (.dup2, 1) := by decide +kernel
theorem d_M_readLiteral_294 : decode (cd m_M_readLiteral) 294 = .ok (.iaload, 1) := by decide +kernel
theorem d_M_readLiteral_295 : decode (cd m_M_readLiteral) 295 = .ok (.iconst 1, 1) := by decide +kernel
theorem d_M_readLiteral_296 : decode (cd m_M_readLiteral) 296 = .ok (.iadd, 1) := by decide +kernel
theorem d_M_readLiteral_297 : decode (cd m_M_readLiteral) 297 = .ok (.iastore, 1) := by decide +kernel
theorem d_M_readLiteral_298 : decode (cd m_M_readLiteral) 298 = .ok (.iconst 1, 1) := by decide +kernel
theorem d_M_readLiteral_299 : decode (cd m_M_readLiteral) 299 = .ok (.ireturn, 1) := by decide +kernel
theorem d_M_readLiteral_300 : decode (cd m_M_readLiteral) 300 = .ok (.aload_n 0, 1) := by decide +kernel
theorem d_M_readLiteral_301 : decode (cd m_M_readLiteral) 301 = .ok (.getfield 13, 3) := by decide +kernel
theorem d_M_readLiteral_304 : decode (cd m_M_readLiteral) 304 = .ok (.aload_n 0, 1) := by decide +kernel
theorem d_M_readLiteral_305 : decode (cd m_M_readLiteral) 305 = .ok (.getfield 180, 3) := by decide +kernel
theorem d_M_readLiteral_308 : decode (cd m_M_readLiteral) 308 = .ok (.iaload, 1) := by decide +kernel
theorem d_M_readLiteral_309 : decode (cd m_M_readLiteral) 309 = .ok (.iconst 2, 1) := by decide +kernel
theorem d_M_readLiteral_310 : decode (cd m_M_readLiteral) 310 = .ok (.if_icmp .ne 7, 3) := by decide +kernel
theorem d_M_readLiteral_313 : decode (cd m_M_readLiteral) 313 = .ok (.iconst 1, 1) := by decide +kernel
theorem d_M_readLiteral_314 : decode (cd m_M_readLiteral) 314 = .ok (.goto 4, 3) := by decide +kernel
theorem d_M_readLiteral_317 : decode (cd m_M_readLiteral) 317 = .ok (.iconst 0, 1) := by decide +kernel
theorem d_M_readLiteral_318 : decode (cd m_M_readLiteral) 318 = .ok (.istore 4, 2) := by decide +kernel
theorem d_M_readLiteral_320 : decode (cd m_M_readLiteral) 320 = .ok (.aload_n 0, 1) := by decide +kernel
theorem d_M_readLiteral_321 : decode (cd m_M_readLiteral) 321 = .ok (.invokevirtual 240, 3) := by decide +kernel
theorem d_M_readLiteral_324 : decode (cd m_M_readLiteral) 324 = .ok (.ifCond .ne 5, 3) := by decide +kernel
theorem d_M_readLiteral_327 : decode (cd m_M_readLiteral) 327 = .ok (.iconst 0, 1) := by decide +kernel
theorem d_M_readLiteral_328 : decode (cd m_M_readLiteral) 328 = .ok (.ireturn, 1) := by decide +kernel
theorem d_M_readLiteral_329 : decode (cd m_M_readLiteral) 329 = .ok (.aload_n 0, 1) := by decide +kernel
theorem d_M_readLiteral_330 : decode (cd m_M_readLiteral) 330 = .ok (.iload_n 1, 1) := by decide +kernel
theorem d_M_readLiteral_331 : decode (cd m_M_readLiteral) 331 = .ok (.iconst 0, 1) := by decide +kernel
theorem d_M_readLiteral_332 : decode (cd m_M_readLiteral) 332 = .ok (.invokevirtual 257, 3) := by decide +kernel
theorem d_M_readLiteral_335 : decode (cd m_M_readLiteral) 335 = .ok (.iload 4, 2) := by decide +kernel
theorem d_M_readLiteral_337 : decode (cd m_M_readLiteral) 337 = .ok (.ifCond .eq 166, 3) := by decide +kernel
theorem d_M_readLiteral_340 : decode (cd m_M_readLiteral) 340 = .ok (.aload_n 0, 1) := by decide +kernel
theorem d_M_readLiteral_341 : decode (cd m_M_readLiteral) 341 = .ok (.getfield 13, 3) := by decide +kernel
theorem d_M_readLiteral_344 : decode (cd m_M_readLiteral) 344 = .ok (.aload_n 0, 1) := by decide +kernel
theorem d_M_readLiteral_345 : decode (cd m_M_readLiteral) 345 = .ok (.getfield 180, 3) := by decide +kernel
theorem d_M_readLiteral_348 : decode (cd m_M_readLiteral) 348 = .ok (.iaload, 1) := by decide +kernel
theorem d_M_readLiteral_349 : decode (cd m_M_readLiteral) 349 = .ok (.iconst 5, 1) := by decide +kernel
theorem d_M_readLiteral_350 : decode (cd m_M_readLiteral) 350 = .ok (.if_icmp .ne 153, 3) := by decide +kernel
theorem d_M_readLiteral_353 : decode (cd m_M_readLiteral) 353 = .ok (.aload_n 0, 1) := by decide +kernel
theorem d_M_readLiteral_354 : decode (cd m_M_readLiteral) 354 = .ok (.getfield 19, 3) := by decide +kernel
theorem d_M_readLiteral_357 : decode (cd m_M_readLiteral) 357 = .ok (.aload_n 0, 1) := by decide +kernel
theorem d_M_readLiteral_358 : decode (cd m_M_readLiteral) 358 = .ok (.getfield 180, 3) := by decide +kernel
theorem d_M_readLiteral_361 : decode (cd m_M_readLiteral) 361 = .ok (.iaload, 1) := by decide +kernel
theorem d_M_readLiteral_362 : decode (cd m_M_readLiteral) 362 = .ok (.iconst 1, 1) := by decide +kernel
theorem d_M_readLiteral_363 : decode (cd m_M_readLiteral) 363 = .ok (.if_icmp .ne 140, 3) := by decide +kernel
theorem d_M_readLiteral_366 : decode (cd m_M_readLiteral) 366 = .ok (.aload_n 0, 1) := by decide +kernel
theorem d_M_readLiteral_367 : decode (cd m_M_readLiteral) 367 = .ok (.dup, 1) := by decide +kernel
theorem d_M_readLiteral_368 : decode (cd m_M_readLiteral) 368 = .ok (.getfield 180, 3) := by decide +kernel
theorem d_M_readLiteral_371 : decode (cd m_M_readLiteral) 371 = .ok (.iconst 1, 1) := by decide +kernel
theorem d_M_readLiteral_372 : decode (cd m_M_readLiteral) 372 = .ok (.iadd, 1) := by decide +kernel
theorem d_M_readLiteral_373 : decode (cd m_M_readLiteral) 373 = .ok (.putfield 180, 3) := by decide +kernel
theorem d_M_readLiteral_376 : decode (cd m_M_readLiteral) 376 = .ok (.aload_n 0, 1) := by decide +kernel
theorem d_M_readLiteral_377 : decode (cd m_M_readLiteral) 377 = .ok (.getfield 62, 3) := by decide +kernel
theorem d_M_readLiteral_380 : decode (cd m_M_readLiteral) 380 = .ok (.iload_n 1, 1) := by decide +kernel
theorem d_M_readLiteral_381 : decode (cd m_M_readLiteral) 381 = .ok (.iconst 3, 1) := by decide +kernel
theorem d_M_readLiteral_382 : decode (cd m_M_readLiteral) 382 = .ok (.iastore, 1) := by decide +kernel
theorem d_M_readLiteral_383 : decode (cd m_M_readLiteral) 383 = .ok (.aload_n 0, 1) := by decide +kernel
theorem d_M_readLiteral_384 : decode (cd m_M_readLiteral) 384 = .ok (.invokevirtual 240, 3) := by decide +kernel
theorem d_M_readLiteral_387 : decode (cd m_M_readLiteral) 387 = .ok (.ifCond .ne 5, 3) := by decide +kernel
theorem d_M_readLiteral_390 : decode (cd m_M_readLiteral) 390 = .ok (.iconst 0, 1) := by decide +kernel
theorem d_M_readLiteral_391 : decode (cd m_M_readLiteral) 391 = .ok (.ireturn, 1) := by decide +kernel
theorem d_M_readLiteral_392 : decode (cd m_M_readLiteral) 392 = .ok (.aload_n 0, 1) := by decide +kernel
theorem d_M_readLiteral_393 : decode (cd m_M_readLiteral) 393 = .ok (.iload_n 1, 1) := by decide +kernel
theorem d_M_readLiteral_394 : decode (cd m_M_readLiteral) 394 = .ok (.iconst 1, 1) := by decide +kernel
theorem d_M_readLiteral_395 : decode (cd m_M_readLiteral) 395 = .ok (.invokevirtual 257, 3) := by decide +kernel
theorem d_M_readLiteral_398 : decode (cd m_M_readLiteral) 398 = .ok (.aload_n 0, 1) := by decide +kernel
theorem d_M_readLiteral_399 : decode (cd m_M_readLiteral) 399 = .ok (.bipush 43, 2) := by decide +kernel
theorem d_M_readLiteral_401 : decode (cd m_M_readLiteral) 401 = .ok (.invokevirtual 186, 3) := by decide +kernel
theorem d_M_readLiteral_404 : decode (cd m_M_readLiteral) 404 = .ok (.ifCond .ne 39, 3) := by decide +kernel
theorem d_M_readLiteral_407 : decode (cd m_M_readLiteral) 407 = .ok (.aload_n 0, 1) := by decide +kernel
theorem d_M_readLiteral_408 : decode (cd m_M_readLiteral) 408 = .ok (.bipush 45, 2) := by decide +kernel
theorem d_M_readLiteral_410 : decode (cd m_M_readLiteral) 410 = .ok (.invokevirtual 186, 3) := by decide +kernel
theorem d_M_readLiteral_413 : decode (cd m_M_readLiteral) 413 = .ok (.ifCond .ne 30, 3) := by decide +kernel
theorem d_M_readLiteral_416 : decode (cd m_M_readLiteral) 416 = .ok (.aload_n 0, 1) := by decide +kernel
theorem d_M_readLiteral_417 : decode (cd m_M_readLiteral) 417 = .ok (.bipush 42, 2) := by decide +kernel
theorem d_M_readLiteral_419 : decode (cd m_M_readLiteral) 419 = .ok (.invokevirtual 186, 3) := by decide +kernel
theorem d_M_readLiteral_422 : decode (cd m_M_readLiteral) 422 = .ok (.ifCond .ne 21, 3) := by decide +kernel
theorem d_M_readLiteral_425 : decode (cd m_M_readLiteral) 425 = .ok (.aload_n 0, 1) := by decide +kernel
theorem d_M_readLiteral_426 : decode (cd m_M_readLiteral) 426 = .ok (.bipush 47, 2) := by decide +kernel
theorem d_M_readLiteral_428 : decode (cd m_M_readLiteral) 428 = .ok (.invokevirtual 186, 3) := by decide +kernel
theorem d_M_readLiteral_431 : decode (cd m_M_readLiteral) 431 = .ok (.ifCond .ne 12, 3) := by decide +kernel
theorem d_M_readLiteral_434 : decode (cd m_M_readLiteral) 434 = .ok (.aload_n 0, 1) := by decide +kernel
theorem d_M_readLiteral_435 : decode (cd m_M_readLiteral) 435 = .ok (.bipush 37, 2) := by decide +kernel
theorem d_M_readLiteral_437 : decode (cd m_M_readLiteral) 437 = .ok (.invokevirtual 186, 3) := by decide +kernel
theorem d_M_readLiteral_440 : decode (cd m_M_readLiteral) 440 = .ok (.ifCond .eq 7, 3) := by decide +kernel
theorem d_M_readLiteral_443 : decode (cd m_M_readLiteral) 443 = .ok (.iconst 1, 1) := by decide +kernel
theorem d_M_readLiteral_444 : decode (cd m_M_readLiteral) 444 = .ok (.goto 4, 3) := by decide +kernel
theorem d_M_readLiteral_447 : decode (cd m_M_readLiteral) 447 = .ok (.iconst 0, 1) := by decide +kernel
theorem d_M_readLiteral_448 : decode (cd m_M_readLiteral) 448 = .ok (.istore 5, 2) := by decide +kernel
theorem d_M_readLiteral_450 : decode (cd m_M_readLiteral) 450 = .ok (.iload 5, 2) := by decide +kernel
theorem d_M_readLiteral_452 : decode (cd m_M_readLiteral) 452 = .ok (.ifCond .ne 8, 3) := by decide +kernel
theorem d_M_readLiteral_455 : decode (cd m_M_readLiteral) 455 = .ok (.aload_n 0, 1) := by decide +kernel
theorem d_M_readLiteral_456 : decode (cd m_M_readLiteral) 456 = .ok (.invokevirtual 192, 3) := by decide +kernel
theorem d_M_readLiteral_459 : decode (cd m_M_readLiteral) 459 = .ok (.ireturn, 1) := by decide +kernel
theorem d_M_readLiteral_460 : decode (cd m_M_readLiteral) 460 = .ok (.aload_n 0, 1) := by decide +kernel
theorem d_M_readLiteral_461 : decode (cd m_M_readLiteral) 461 = .ok (.getfield 65, 3) := by decide +kernel
theorem d_M_readLiteral_464 : decode (cd m_M_readLiteral) 464 = .ok (.iload_n 1, 1) := by decide +kernel
theorem d_M_readLiteral_465 : decode (cd m_M_readLiteral) 465 = .ok (.aload_n 0, 1) := by decide +kernel
theorem d_M_readLiteral_466 : decode (cd m_M_readLiteral) 466 = .ok (.getfield 19, 3) := by decide +kernel
theorem d_M_readLiteral_469 : decode (cd m_M_readLiteral) 469 = .ok (.aload_n 0, 1) := by decide +kernel
theorem d_M_readLiteral_470 : decode (cd m_M_readLiteral) 470 = .ok (.getfield 180, 3) := by decide +kernel
theorem d_M_readLiteral_473 : decode (cd m_M_readLiteral) 473 = .ok (.iaload, 1) := by decide +kernel
theorem d_M_readLiteral_474 : decode (cd m_M_readLiteral) 474 = .ok (.iastore, 1) := by decide +kernel
theorem d_M_readLiteral_475 : decode (cd m_M_readLiteral) 475 = .ok (.aload_n 0, 1) := by decide +kernel
theorem d_M_readLiteral_476 : decode (cd m_M_readLiteral) 476 = .ok (.dup, 1) := by decide +kernel
theorem d_M_readLiteral_477 : decode (cd m_M_readLiteral) 477 = .ok (.getfield 180, 3) := by decide +kernel
theorem d_M_readLiteral_480 : decode (cd m_M_readLiteral) 480 = .ok (.iconst 1, 1) := by decide +kernel
theorem d_M_readLiteral_481 : decode (cd m_M_readLiteral) 481 = .ok (.iadd, 1) := by decide +kernel
theorem d_M_readLiteral_482 : decode (cd m_M_readLiteral) 482 = .ok (.putfield 180, 3) := by decide +kernel
theorem d_M_readLiteral_485 : decode (cd m_M_readLiteral) 485 = .ok (.aload_n 0, 1) := by decide +kernel
theorem d_M_readLiteral_486 : decode (cd m_M_readLiteral) 486 = .ok (.invokevirtual 240, 3) := by decide +kernel
theorem d_M_readLiteral_489 : decode (cd m_M_readLiteral) 489 = .ok (.ifCond .ne 5, 3) := by decide +kernel
theorem d_M_readLiteral_492 : decode (cd m_M_readLiteral) 492 = .ok (.iconst 0, 1) := by decide +kernel
theorem d_M_readLiteral_493 : decode (cd m_M_readLiteral) 493 = .ok (.ireturn, 1) := by decide +kernel
theorem d_M_readLiteral_494 : decode (cd m_M_readLiteral) 494 = .ok (.aload_n 0, 1) := by decide +kernel
theorem d_M_readLiteral_495 : decode (cd m_M_readLiteral) 495 = .ok (.iload_n 1, 1) := by decide +kernel
theorem d_M_readLiteral_496 : decode (cd m_M_readLiteral) 496 = .ok (.iconst 2, 1) := by decide +kernel
theorem d_M_readLiteral_497 : decode (cd m_M_readLiteral) 497 = .ok (.invokevirtual 257, 3) := by decide +kernel
theorem d_M_readLiteral_500 : decode (cd m_M_readLiteral) 500 = .ok (.goto 57, 3) := by decide +kernel
theorem d_M_readLiteral_503 : decode (cd m_M_readLiteral) 503 = .ok (.aload_n 0, 1) := by decide +kernel
theorem d_M_readLiteral_504 : decode (cd m_M_readLiteral) 504 = .ok (.invokevirtual 260, 3) := by decide +kernel
theorem d_M_readLiteral_507 : decode (cd m_M_readLiteral) 507 = .ok (.ifCond .ne 8, 3) := by decide +kernel
theorem d_M_readLiteral_510 : decode (cd m_M_readLiteral) 510 = .ok (.aload_n 0, 1) := by decide +kernel
theorem d_M_readLiteral_511 : decode (cd m_M_readLiteral) 511 = .ok (.invokevirtual 192, 3) := by decide +kernel
theorem d_M_readLiteral_514 : decode (cd m_M_readLiteral) 514 = .ok (.ireturn, 1) := by decide +kernel
theorem d_M_readLiteral_515 : decode (cd m_M_readLiteral) 515 = .ok (.aload_n 0, 1) := by decide +kernel
theorem d_M_readLiteral_516 : decode (cd m_M_readLiteral) 516 = .ok (.getfield 62, 3) := by decide +kernel
theorem d_M_readLiteral_519 : decode (cd m_M_readLiteral) 519 = .ok (.iload_n 1, 1) := by decide +kernel
theorem d_M_readLiteral_520 : decode (cd m_M_readLiteral) 520 = .ok (.iconst 2, 1) := by decide +kernel
theorem d_M_readLiteral_521 : decode (cd m_M_readLiteral) 521 = .ok (.iastore, 1) := by decide +kernel
theorem d_M_readLiteral_522 : decode (cd m_M_readLiteral) 522 = .ok (.aload_n 0, 1) := by decide +kernel
theorem d_M_readLiteral_523 : decode (cd m_M_readLiteral) 523 = .ok (.getfield 65, 3) := by decide +kernel
theorem d_M_readLiteral_526 : decode (cd m_M_readLiteral) 526 = .ok (.iload_n 1, 1) := by decide +kernel
theorem d_M_readLiteral_527 : decode (cd m_M_readLiteral) 527 = .ok (.aload_n 0, 1) := by decide +kernel
theorem d_M_readLiteral_528 : decode (cd m_M_readLiteral) 528 = .ok (.invokevirtual 260, 3) := by decide +kernel
theorem d_M_readLiteral_531 : decode (cd m_M_readLiteral) 531 = .ok (.iastore, 1) := by decide +kernel
theorem d_M_readLiteral_532 : decode (cd m_M_readLiteral) 532 = .ok (.aload_n 0, 1) := by decide +kernel
theorem d_M_readLiteral_533 : decode (cd m_M_readLiteral) 533 = .ok (.dup, 1) := by decide +kernel
theorem d_M_readLiteral_534 : decode (cd m_M_readLiteral) 534 = .ok (.getfield 180, 3) := by decide +kernel
theorem d_M_readLiteral_537 : decode (cd m_M_readLiteral) 537 = .ok (.iconst 1, 1) := by decide +kernel
theorem d_M_readLiteral_538 : decode (cd m_M_readLiteral) 538 = .ok (.iadd, 1) := by decide +kernel
theorem d_M_readLiteral_539 : decode (cd m_M_readLiteral) 539 = .ok (.putfield 180, 3) := by decide +kernel
theorem d_M_readLiteral_542 : decode (cd m_M_readLiteral) 542 = .ok (.aload_n 0, 1) := by decide +kernel
theorem d_M_readLiteral_543 : decode (cd m_M_readLiteral) 543 = .ok (.invokevirtual 240, 3) := by decide +kernel
theorem d_M_readLiteral_546 : decode (cd m_M_readLiteral) 546 = .ok (.ifCond .ne 5, 3) := by decide +kernel
theorem d_M_readLiteral_549 : decode (cd m_M_readLiteral) 549 = .ok (.iconst 0, 1) := by decide +kernel
theorem d_M_readLiteral_550 : decode (cd m_M_readLiteral) 550 = .ok (.ireturn, 1) := by decide +kernel
theorem d_M_readLiteral_551 : decode (cd m_M_readLiteral) 551 = .ok (.aload_n 0, 1) := by decide +kernel
theorem d_M_readLiteral_552 : decode (cd m_M_readLiteral) 552 = .ok (.iload_n 1, 1) := by decide +kernel
theorem d_M_readLiteral_553 : decode (cd m_M_readLiteral) 553 = .ok (.iconst 1, 1) := by decide +kernel
theorem d_M_readLiteral_554 : decode (cd m_M_readLiteral) 554 = .ok (.invokevirtual 257, 3) := by decide +kernel
theorem d_M_readLiteral_557 : decode (cd m_M_readLiteral) 557 = .ok (.aload_n 0, 1) := by decide +kernel
theorem d_M_readLiteral_558 : decode (cd m_M_readLiteral) 558 = .ok (.getfield 56, 3) := by decide +kernel
theorem d_M_readLiteral_561 : decode (cd m_M_readLiteral) 561 = .ok (.aload_n 0, 1) := by decide +kernel
theorem d_M_readLiteral_562 : decode (cd m_M_readLiteral) 562 = .ok (.getfield 196, 3) := by decide +kernel
theorem d_M_readLiteral_565 : decode (cd m_M_readLiteral) 565 = .ok (.dup2, 1) := by decide +kernel
theorem d_M_readLiteral_566 : decode (cd m_M_readLiteral) 566 = .ok (.iaload, 1) := by decide +kernel
theorem d_M_readLiteral_567 : decode (cd m_M_readLiteral) 567 = .ok (.iconst 1, 1) := by decide +kernel
theorem d_M_readLiteral_568 : decode (cd m_M_readLiteral) 568 = .ok (.iadd, 1) := by decide +kernel
theorem d_M_readLiteral_569 : decode (cd m_M_readLiteral) 569 = .ok (.iastore, 1) := by decide +kernel
theorem d_M_readLiteral_570 : decode (cd m_M_readLiteral) 570 = .ok (.iconst 1, 1) := by decide +kernel
theorem d_M_readLiteral_571 : decode (cd m_M_readLiteral) 571 = .ok (.ireturn, 1) := by decide +kernel
theorem d_M_readBody_0 : decode (cd m_M_readBody) 0 = .ok (.aload_n 0, 1) := by decide +kernel
theorem d_M_readBody_1 : decode (cd m_M_readBody) 1 = .ok (.iconst 0, 1) := by decide +kernel
theorem d_M_readBody_2 : decode (cd m_M_readBody) 2 = .ok (.putfield 250, 3) := by decide +kernel
theorem d_M_readBody_5 : decode (cd m_M_readBody) 5 = .ok (.aload_n 0, 1) := by decide +kernel
theorem d_M_readBody_6 : decode (cd m_M_readBody) 6 = .ok (.invokevirtual 264, 3) := by decide +kernel
theorem d_M_readBody_9 : decode (cd m_M_readBody) 9 = .ok (.ifCond .ne 5, 3) := by decide +kernel
theorem d_M_readBody_12 : decode (cd m_M_readBody) 12 = .ok (.iconst 0, 1) := by decide +kernel
theorem d_M_readBody_13 : decode (cd m_M_readBody) 13 = .ok (.ireturn, 1) := by decide +kernel
theorem d_M_readBody_14 : decode (cd m_M_readBody) 14 = .ok (.aload_n 0, 1) := by decide +kernel
theorem d_M_readBody_15 : decode (cd m_M_readBody) 15 = .ok (.bipush 44, 2) := by decide +kernel
theorem d_M_readBody_17 : decode (cd m_M_readBody) 17 = .ok (.invokevirtual 189, 3) := by decide +kernel
theorem d_M_readBody_20 : decode (cd m_M_readBody) 20 = .ok (.ifCond .ne (-15), 3) := by decide +kernel
theorem d_M_readBody_23 : decode (cd m_M_readBody) 23 = .ok (.iconst 1, 1) := by decide +kernel
theorem d_M_readBody_24 : decode (cd m_M_readBody) 24 = .ok (.ireturn, 1) := by decide +kernel
theorem d_M_isBound_0 : decode (cd m_M_isBound) 0 = .ok (.aload_n 0, 1) := by decide +kernel
theorem d_M_isBound_1 : decode (cd m_M_isBound) 1 = .ok (.getfield 68, 3) := by decide +kernel
theorem d_M_isBound_4 : decode (cd m_M_isBound) 4 = .ok (.iconst 4, 1) := by decide +kernel
theorem d_M_isBound_5 : decode (cd m_M_isBound) 5 = .ok (.iload_n 1, 1) := by decide +kernel
theorem d_M_isBound_6 : decode (cd m_M_isBound) 6 = .ok (.imul, 1) := by decide +kernel
theorem d_M_isBound_7 : decode (cd m_M_isBound) 7 = .ok (.iload_n 2, 1) := by decide +kernel
theorem d_M_isBound_8 : decode (cd m_M_isBound) 8 = .ok (.iadd, 1) := by decide +kernel
theorem d_M_isBound_9 : decode (cd m_M_isBound) 9 = .ok (.iaload, 1) := by decide +kernel
theorem d_M_isBound_10 : decode (cd m_M_isBound) 10 = .ok (.ifCond .eq 36, 3) := by decide +kernel
theorem d_M_isBound_13 : decode (cd m_M_isBound) 13 = .ok (.aload_n 0, 1) := by decide +kernel
theorem d_M_isBound_14 : decode (cd m_M_isBound) 14 = .ok (.getfield 68, 3) := by decide +kernel
theorem d_M_isBound_17 : decode (cd m_M_isBound) 17 = .ok (.iconst 4, 1) := by decide +kernel
theorem d_M_isBound_18 : decode (cd m_M_isBound) 18 = .ok (.iload_n 1, 1) := by decide +kernel
theorem d_M_isBound_19 : decode (cd m_M_isBound) 19 = .ok (.imul, 1) := by decide +kernel
theorem d_M_isBound_20 : decode (cd m_M_isBound) 20 = .ok (.iload_n 2, 1) := by decide +kernel
theorem d_M_isBound_21 : decode (cd m_M_isBound) 21 = .ok (.iadd, 1) := by decide +kernel
theorem d_M_isBound_22 : decode (cd m_M_isBound) 22 = .ok (.iaload, 1) := by decide +kernel
theorem d_M_isBound_23 : decode (cd m_M_isBound) 23 = .ok (.iconst 1, 1) := by decide +kernel
theorem d_M_isBound_24 : decode (cd m_M_isBound) 24 = .ok (.if_icmp .ne 26, 3) := by decide +kernel
theorem d_M_isBound_27 : decode (cd m_M_isBound) 27 = .ok (.aload_n 0, 1) := by decide +kernel
theorem d_M_isBound_28 : decode (cd m_M_isBound) 28 = .ok (.getfield 89, 3) := by decide +kernel
theorem d_M_isBound_31 : decode (cd m_M_isBound) 31 = .ok (.aload_n 0, 1) := by decide +kernel
theorem d_M_isBound_32 : decode (cd m_M_isBound) 32 = .ok (.getfield 71, 3) := by decide +kernel
theorem d_M_isBound_35 : decode (cd m_M_isBound) 35 = .ok (.iconst 4, 1) := by decide +kernel
theorem d_M_isBound_36 : decode (cd m_M_isBound) 36 = .ok (.iload_n 1, 1) := by decide +kernel
theorem d_M_isBound_37 : decode (cd m_M_isBound) 37 = .ok (.imul, 1) := by decide +kernel
theorem d_M_isBound_38 : decode (cd m_M_isBound) 38 = .ok (.iload_n 2, 1) := by decide +kernel
theorem d_M_isBound_39 : decode (cd m_M_isBound) 39 = .ok (.iadd, 1) := by decide +kernel
theorem d_M_isBound_40 : decode (cd m_M_isBound) 40 = .ok (.laload, 1) := by decide +kernel
theorem d_M_isBound_41 : decode (cd m_M_isBound) 41 = .ok (.l2i, 1) := by decide +kernel
theorem d_M_isBound_42 : decode (cd m_M_isBound) 42 = .ok (.baload, 1) := by decide +kernel
theorem d_M_isBound_43 : decode (cd m_M_isBound) 43 = .ok (.ifCond .eq 7, 3) := by decide +kernel
theorem d_M_isBound_46 : decode (cd m_M_isBound) 46 = .ok (.iconst 1, 1) := by decide +kernel
theorem d_M_isBound_47 : decode (cd m_M_isBound) 47 = .ok (.goto 4, 3) := by decide +kernel
theorem d_M_isBound_50 : decode (cd m_M_isBound) 50 = .ok (.iconst 0, 1) := by decide +kernel
theorem d_M_isBound_51 : decode (cd m_M_isBound) 51 = .ok (.ireturn, 1) := by decide +kernel
theorem d_M_bind_0 : decode (cd m_M_bind) 0 = .ok (.aload_n 0, 1) := by decide +kernel
theorem d_M_bind_1 : decode (cd m_M_bind) 1 = .ok (.getfield 68, 3) := by decide +kernel
theorem d_M_bind_4 : decode (cd m_M_bind) 4 = .ok (.iconst 4, 1) := by decide +kernel
theorem d_M_bind_5 : decode (cd m_M_bind) 5 = .ok (.iload_n 1, 1) := by decide +kernel
theorem d_M_bind_6 : decode (cd m_M_bind) 6 = .ok (.imul, 1) := by decide +kernel
theorem d_M_bind_7 : decode (cd m_M_bind) 7 = .ok (.iload_n 2, 1) := by decide +kernel
theorem d_M_bind_8 : decode (cd m_M_bind) 8 = .ok (.iadd, 1) := by decide +kernel
theorem d_M_bind_9 : decode (cd m_M_bind) 9 = .ok (.iaload, 1) := by decide +kernel
theorem d_M_bind_10 : decode (cd m_M_bind) 10 = .ok (.iconst 1, 1) := by decide +kernel
theorem d_M_bind_11 : decode (cd m_M_bind) 11 = .ok (.if_icmp .ne 20, 3) := by decide +kernel
theorem d_M_bind_14 : decode (cd m_M_bind) 14 = .ok (.aload_n 0, 1) := by decide +kernel
theorem d_M_bind_15 : decode (cd m_M_bind) 15 = .ok (.getfield 89, 3) := by decide +kernel
theorem d_M_bind_18 : decode (cd m_M_bind) 18 = .ok (.aload_n 0, 1) := by decide +kernel
theorem d_M_bind_19 : decode (cd m_M_bind) 19 = .ok (.getfield 71, 3) := by decide +kernel
theorem d_M_bind_22 : decode (cd m_M_bind) 22 = .ok (.iconst 4, 1) := by decide +kernel
theorem d_M_bind_23 : decode (cd m_M_bind) 23 = .ok (.iload_n 1, 1) := by decide +kernel
theorem d_M_bind_24 : decode (cd m_M_bind) 24 = .ok (.imul, 1) := by decide +kernel
theorem d_M_bind_25 : decode (cd m_M_bind) 25 = .ok (.iload_n 2, 1) := by decide +kernel
theorem d_M_bind_26 : decode (cd m_M_bind) 26 = .ok (.iadd, 1) := by decide +kernel
theorem d_M_bind_27 : decode (cd m_M_bind) 27 = .ok (.laload, 1) := by decide +kernel
theorem d_M_bind_28 : decode (cd m_M_bind) 28 = .ok (.l2i, 1) := by decide +kernel
theorem d_M_bind_29 : decode (cd m_M_bind) 29 = .ok (.iconst 1, 1) := by decide +kernel
theorem d_M_bind_30 : decode (cd m_M_bind) 30 = .ok (.bastore, 1) := by decide +kernel
theorem d_M_bind_31 : decode (cd m_M_bind) 31 = .ok (.return_, 1) := by decide +kernel
theorem d_M_lookBound_0 : decode (cd m_M_lookBound) 0 = .ok (.iconst 0, 1) := by decide +kernel
theorem d_M_lookBound_1 : decode (cd m_M_lookBound) 1 = .ok (.istore_n 1, 1) := by decide +kernel
theorem d_M_lookBound_2 : decode (cd m_M_lookBound) 2 = .ok (.iload_n 1, 1) := by decide +kernel
theorem d_M_lookBound_3 : decode (cd m_M_lookBound) 3 = .ok (.bipush 9, 2) := by decide +kernel
theorem d_M_lookBound_5 : decode (cd m_M_lookBound) 5 = .ok (.if_icmp .ge 16, 3) := by decide +kernel
theorem d_M_lookBound_8 : decode (cd m_M_lookBound) 8 = .ok (.aload_n 0, 1) := by decide +kernel
theorem d_M_lookBound_9 : decode (cd m_M_lookBound) 9 = .ok (.getfield 89, 3) := by decide +kernel
theorem d_M_lookBound_12 : decode (cd m_M_lookBound) 12 = .ok (.iload_n 1, 1) := by decide +kernel
theorem d_M_lookBound_13 : decode (cd m_M_lookBound) 13 = .ok (.iconst 0, 1) := by decide +kernel
theorem d_M_lookBound_14 : decode (cd m_M_lookBound) 14 = .ok (.bastore, 1) := by decide +kernel
theorem d_M_lookBound_15 : decode (cd m_M_lookBound) 15 = .ok (.iinc 1 1, 3) := by decide +kernel
theorem d_M_lookBound_18 : decode (cd m_M_lookBound) 18 = .ok (.goto (-16), 3) := by decide +kernel
theorem d_M_lookBound_21 : decode (cd m_M_lookBound) 21 = .ok (.bipush 6, 2) := by decide +kernel
theorem d_M_lookBound_23 : decode (cd m_M_lookBound) 23 = .ok (.aload_n 0, 1) := by decide +kernel
theorem d_M_lookBound_24 : decode (cd m_M_lookBound) 24 = .ok (.getfield 196, 3) := by decide +kernel
theorem d_M_lookBound_27 : decode (cd m_M_lookBound) 27 = .ok (.imul, 1) := by decide +kernel
theorem d_M_lookBound_28 : decode (cd m_M_lookBound) 28 = .ok (.istore_n 1, 1) := by decide +kernel
theorem d_M_lookBound_29 : decode (cd m_M_lookBound) 29 = .ok (.iload_n 1, 1) := by decide +kernel
theorem d_M_lookBound_30 : decode (cd m_M_lookBound) 30 = .ok (.aload_n 0, 1) := by decide +kernel
theorem d_M_lookBound_31 : decode (cd m_M_lookBound) 31 = .ok (.getfield 56, 3) := by decide +kernel
theorem d_M_lookBound_34 : decode (cd m_M_lookBound) 34 = .ok (.aload_n 0, 1) := by decide +kernel
theorem d_M_lookBound_35 : decode (cd m_M_lookBound) 35 = .ok (.getfield 196, 3) := by decide +kernel
theorem d_M_lookBound_38 : decode (cd m_M_lookBound) 38 = .ok (.iaload, 1) := by decide +kernel
theorem d_M_lookBound_39 : decode (cd m_M_lookBound) 39 = .ok (.iadd, 1) := by decide +kernel
theorem d_M_lookBound_40 : decode (cd m_M_lookBound) 40 = .ok (.istore_n 2, 1) := by decide +kernel
theorem d_M_lookBound_41 : decode (cd m_M_lookBound) 41 = .ok (.iload_n 1, 1) := by decide +kernel
theorem d_M_lookBound_42 : decode (cd m_M_lookBound) 42 = .ok (.istore_n 3, 1) := by decide +kernel
theorem d_M_lookBound_43 : decode (cd m_M_lookBound) 43 = .ok (.iload_n 3, 1) := by decide +kernel
theorem d_M_lookBound_44 : decode (cd m_M_lookBound) 44 = .ok (.iload_n 2, 1) := by decide +kernel
theorem d_M_lookBound_45 : decode (cd m_M_lookBound) 45 = .ok (.if_icmp .ge 44, 3) := by decide +kernel
theorem d_M_lookBound_48 : decode (cd m_M_lookBound) 48 = .ok (.aload_n 0, 1) := by decide +kernel
theorem d_M_lookBound_49 : decode (cd m_M_lookBound) 49 = .ok (.getfield 62, 3) := by decide +kernel
theorem d_M_lookBound_52 : decode (cd m_M_lookBound) 52 = .ok (.iload_n 3, 1) := by decide +kernel
theorem d_M_lookBound_53 : decode (cd m_M_lookBound) 53 = .ok (.iaload, 1) := by decide +kernel
theorem d_M_lookBound_54 : decode (cd m_M_lookBound) 54 = .ok (.ifCond .ne 29, 3) := by decide +kernel
theorem d_M_lookBound_57 : decode (cd m_M_lookBound) 57 = .ok (.iconst 0, 1) := by decide +kernel
theorem d_M_lookBound_58 : decode (cd m_M_lookBound) 58 = .ok (.istore 4, 2) := by decide +kernel
theorem d_M_lookBound_60 : decode (cd m_M_lookBound) 60 = .ok (.iload 4, 2) := by decide +kernel
theorem d_M_lookBound_62 : decode (cd m_M_lookBound) 62 = .ok (.aload_n 0, 1) := by decide +kernel
theorem d_M_lookBound_63 : decode (cd m_M_lookBound) 63 = .ok (.iload_n 3, 1) := by decide +kernel
theorem d_M_lookBound_64 : decode (cd m_M_lookBound) 64 = .ok (.invokevirtual 267, 3) := by decide +kernel
theorem d_M_lookBound_67 : decode (cd m_M_lookBound) 67 = .ok (.if_icmp .ge 16, 3) := by decide +kernel
theorem d_M_lookBound_70 : decode (cd m_M_lookBound) 70 = .ok (.aload_n 0, 1) := by decide +kernel
theorem d_M_lookBound_71 : decode (cd m_M_lookBound) 71 = .ok (.iload_n 3, 1) := by decide +kernel
theorem d_M_lookBound_72 : decode (cd m_M_lookBound) 72 = .ok (.iload 4, 2) := by decide +kernel
theorem d_M_lookBound_74 : decode (cd m_M_lookBound) 74 = .ok (.invokevirtual 270, 3) := by decide +kernel
theorem d_M_lookBound_77 : decode (cd m_M_lookBound) 77 = .ok (.iinc 4 1, 3) := by decide +kernel
theorem d_M_lookBound_80 : decode (cd m_M_lookBound) 80 = .ok (.goto (-20), 3) := by decide +kernel
theorem d_M_lookBound_83 : decode (cd m_M_lookBound) 83 = .ok (.iinc 3 1, 3) := by decide +kernel
theorem d_M_lookBound_86 : decode (cd m_M_lookBound) 86 = .ok (.goto (-43), 3) := by decide +kernel
theorem d_M_lookBound_89 : decode (cd m_M_lookBound) 89 = .ok (.iconst 1, 1) := by decide +kernel
theorem d_M_lookBound_90 : decode (cd m_M_lookBound) 90 = .ok (.istore_n 3, 1) := by decide +kernel
theorem d_M_lookBound_91 : decode (cd m_M_lookBound) 91 = .ok (.iload_n 3, 1) := by decide +kernel
theorem d_M_lookBound_92 : decode (cd m_M_lookBound) 92 = .ok (.ifCond .eq 129, 3) := by decide +kernel
theorem d_M_lookBound_95 : decode (cd m_M_lookBound) 95 = .ok (.iconst 0, 1) := by decide +kernel
theorem d_M_lookBound_96 : decode (cd m_M_lookBound) 96 = .ok (.istore_n 3, 1) := by decide +kernel
theorem d_M_lookBound_97 : decode (cd m_M_lookBound) 97 = .ok (.iload_n 1, 1) := by decide +kernel
theorem d_M_lookBound_98 : decode (cd m_M_lookBound) 98 = .ok (.istore 4, 2) := by decide +kernel
theorem d_M_lookBound_100 : decode (cd m_M_lookBound) 100 = .ok (.iload 4, 2) := by decide +kernel
theorem d_M_lookBound_102 : decode (cd m_M_lookBound) 102 = .ok (.iload_n 2, 1) := by decide +kernel
theorem d_M_lookBound_103 : decode (cd m_M_lookBound) 103 = .ok (.if_icmp .ge 115, 3) := by decide +kernel
theorem d_M_lookBound_106 : decode (cd m_M_lookBound) 106 = .ok (.aload_n 0, 1) := by decide +kernel
theorem d_M_lookBound_107 : decode (cd m_M_lookBound) 107 = .ok (.getfield 62, 3) := by decide +kernel
theorem d_M_lookBound_110 : decode (cd m_M_lookBound) 110 = .ok (.iload 4, 2) := by decide +kernel
theorem d_M_lookBound_112 : decode (cd m_M_lookBound) 112 = .ok (.iaload, 1) := by decide +kernel
theorem d_M_lookBound_113 : decode (cd m_M_lookBound) 113 = .ok (.iconst 3, 1) := by decide +kernel
theorem d_M_lookBound_114 : decode (cd m_M_lookBound) 114 = .ok (.if_icmp .ne 42, 3) := by decide +kernel
theorem d_M_lookBound_117 : decode (cd m_M_lookBound) 117 = .ok (.aload_n 0, 1) := by decide +kernel
theorem d_M_lookBound_118 : decode (cd m_M_lookBound) 118 = .ok (.iload 4, 2) := by decide +kernel
theorem d_M_lookBound_120 : decode (cd m_M_lookBound) 120 = .ok (.iconst 0, 1) := by decide +kernel
theorem d_M_lookBound_121 : decode (cd m_M_lookBound) 121 = .ok (.invokevirtual 273, 3) := by decide +kernel
theorem d_M_lookBound_124 : decode (cd m_M_lookBound) 124 = .ok (.ifCond .ne 32, 3) := by decide +kernel
theorem d_M_lookBound_127 : decode (cd m_M_lookBound) 127 = .ok (.aload_n 0, 1) := by decide +kernel
theorem d_M_lookBound_128 : decode (cd m_M_lookBound) 128 = .ok (.iload 4, 2) := by decide +kernel
theorem d_M_lookBound_130 : decode (cd m_M_lookBound) 130 = .ok (.iconst 1, 1) := by decide +kernel
theorem d_M_lookBound_131 : decode (cd m_M_lookBound) 131 = .ok (.invokevirtual 273, 3) := by decide +kernel
theorem d_M_lookBound_134 : decode (cd m_M_lookBound) 134 = .ok (.ifCond .eq 22, 3) := by decide +kernel
theorem d_M_lookBound_137 : decode (cd m_M_lookBound) 137 = .ok (.aload_n 0, 1) := by decide +kernel
theorem d_M_lookBound_138 : decode (cd m_M_lookBound) 138 = .ok (.iload 4, 2) := by decide +kernel
theorem d_M_lookBound_140 : decode (cd m_M_lookBound) 140 = .ok (.iconst 2, 1) := by decide +kernel
theorem d_M_lookBound_141 : decode (cd m_M_lookBound) 141 = .ok (.invokevirtual 273, 3) := by decide +kernel
theorem d_M_lookBound_144 : decode (cd m_M_lookBound) 144 = .ok (.ifCond .eq 12, 3) := by decide +kernel
theorem d_M_lookBound_147 : decode (cd m_M_lookBound) 147 = .ok (.aload_n 0, 1) := by decide +kernel
theorem d_M_lookBound_148 : decode (cd m_M_lookBound) 148 = .ok (.iload 4, 2) := by decide +kernel
theorem d_M_lookBound_150 : decode (cd m_M_lookBound) 150 = .ok (.iconst 0, 1) := by decide +kernel
theorem d_M_lookBound_151 : decode (cd m_M_lookBound) 151 = .ok (.invokevirtual 270, 3) := by decide +kernel
theorem d_M_lookBound_154 : decode (cd m_M_lookBound) 154 = .ok (.iconst 1, 1) := by decide +kernel
theorem d_M_lookBound_155 : decode (cd m_M_lookBound) 155 = .ok (.istore_n 3, 1) := by decide +kernel
theorem d_M_lookBound_156 : decode (cd m_M_lookBound) 156 = .ok (.aload_n 0, 1) := by decide +kernel
theorem d_M_lookBound_157 : decode (cd m_M_lookBound) 157 = .ok (.getfield 62, 3) := by decide +kernel
theorem d_M_lookBound_160 : decode (cd m_M_lookBound) 160 = .ok (.iload 4, 2) := by decide +kernel
theorem d_M_lookBound_162 : decode (cd m_M_lookBound) 162 = .ok (.iaload, 1) := by decide +kernel
theorem d_M_lookBound_163 : decode (cd m_M_lookBound) 163 = .ok (.iconst 2, 1) := by decide +kernel
theorem d_M_lookBound_164 : decode (cd m_M_lookBound) 164 = .ok (.if_icmp .ne 48, 3) := by decide +kernel
theorem d_M_lookBound_167 : decode (cd m_M_lookBound) 167 = .ok (.aload_n 0, 1) := by decide +kernel
theorem d_M_lookBound_168 : decode (cd m_M_lookBound) 168 = .ok (.getfield 65, 3) := by decide +kernel
theorem d_M_lookBound_171 : decode (cd m_M_lookBound) 171 = .ok (.iload 4, 2) := by decide +kernel
theorem d_M_lookBound_173 : decode (cd m_M_lookBound) 173 = .ok (.iaload, 1) := by decide +kernel
theorem d_M_lookBound_174 : decode (cd m_M_lookBound) 174 = .ok (.bipush 61, 2) := by decide +kernel
theorem d_M_lookBound_176 : decode (cd m_M_lookBound) 176 = .ok (.if_icmp .ne 36, 3) := by decide +kernel
theorem d_M_lookBound_179 : decode (cd m_M_lookBound) 179 = .ok (.aload_n 0, 1) := by decide +kernel
theorem d_M_lookBound_180 : decode (cd m_M_lookBound) 180 = .ok (.iload 4, 2) := by decide +kernel
theorem d_M_lookBound_182 : decode (cd m_M_lookBound) 182 = .ok (.iconst 0, 1) := by decide +kernel
theorem d_M_lookBound_183 : decode (cd m_M_lookBound) 183 = .ok (.invokevirtual 273, 3) := by decide +kernel
theorem d_M_lookBound_186 : decode (cd m_M_lookBound) 186 = .ok (.aload_n 0, 1) := by decide +kernel
theorem d_M_lookBound_187 : decode (cd m_M_lookBound) 187 = .ok (.iload 4, 2) := by decide +kernel
theorem d_M_lookBound_189 : decode (cd m_M_lookBound) 189 = .ok (.iconst 1, 1) := by decide +kernel
theorem d_M_lookBound_190 : decode (cd m_M_lookBound) 190 = .ok (.invokevirtual 273, 3) := by decide +kernel
theorem d_M_lookBound_193 : decode (cd m_M_lookBound) 193 = .ok (.if_icmp .eq 19, 3) := by decide +kernel
theorem d_M_lookBound_196 : decode (cd m_M_lookBound) 196 = .ok (.aload_n 0, 1) := by decide +kernel
theorem d_M_lookBound_197 : decode (cd m_M_lookBound) 197 = .ok (.iload 4, 2) := by decide +kernel
theorem d_M_lookBound_199 : decode (cd m_M_lookBound) 199 = .ok (.iconst 0, 1) := by decide +kernel
theorem d_M_lookBound_200 : decode (cd m_M_lookBound) 200 = .ok (.invokevirtual 270, 3) := by decide +kernel
theorem d_M_lookBound_203 : decode (cd m_M_lookBound) 203 = .ok (.aload_n 0, 1) := by decide +kernel
theorem d_M_lookBound_204 : decode (cd m_M_lookBound) 204 = .ok (.iload 4, 2) := by decide +kernel
theorem d_M_lookBound_206 : decode (cd m_M_lookBound) 206 = .ok (.iconst 1, 1) := by decide +kernel
theorem d_M_lookBound_207 : decode (cd m_M_lookBound) 207 = .ok (.invokevirtual 270, 3) := by decide +kernel
theorem d_M_lookBound_210 : decode (cd m_M_lookBound) 210 = .ok (.iconst 1, 1) := by decide +kernel
theorem d_M_lookBound_211 : decode (cd m_M_lookBound) 211 = .ok (.istore_n 3, 1) := by decide +kernel
theorem d_M_lookBound_212 : decode (cd m_M_lookBound) 212 = .ok (.iinc 4 1, 3) := by decide +kernel
theorem d_M_lookBound_215 : decode (cd m_M_lookBound) 215 = .ok (.goto (-115), 3) := by decide +kernel
theorem d_M_lookBound_218 : decode (cd m_M_lookBound) 218 = .ok (.goto (-127), 3) := by decide +kernel
theorem d_M_lookBound_221 : decode (cd m_M_lookBound) 221 = .ok (.iconst 0, 1) := by decide +kernel
theorem d_M_lookBound_222 : decode (cd m_M_lookBound) 222 = .ok (.istore 4, 2) := by decide +kernel
theorem d_M_lookBound_224 : decode (cd m_M_lookBound) 224 = .ok (.iload 4, 2) := by decide +kernel
theorem d_M_lookBound_226 : decode (cd m_M_lookBound) 226 = .ok (.aload_n 0, 1) := by decide +kernel
theorem d_M_lookBound_227 : decode (cd m_M_lookBound) 227 = .ok (.getfield 59, 3) := by decide +kernel
theorem d_M_lookBound_230 : decode (cd m_M_lookBound) 230 = .ok (.aload_n 0, 1) := by decide +kernel
theorem d_M_lookBound_231 : decode (cd m_M_lookBound) 231 = .ok (.getfield 196, 3) := by decide +kernel
theorem d_M_lookBound_234 : decode (cd m_M_lookBound) 234 = .ok (.iaload, 1) := by decide +kernel
theorem d_M_lookBound_235 : decode (cd m_M_lookBound) 235 = .ok (.if_icmp .ge 31, 3) := by decide +kernel
theorem d_M_lookBound_238 : decode (cd m_M_lookBound) 238 = .ok (.aload_n 0, 1) := by decide +kernel
theorem d_M_lookBound_239 : decode (cd m_M_lookBound) 239 = .ok (.getfield 89, 3) := by decide +kernel
theorem d_M_lookBound_242 : decode (cd m_M_lookBound) 242 = .ok (.iload 4, 2) := by decide +kernel
theorem d_M_lookBound_244 : decode (cd m_M_lookBound) 244 = .ok (.baload, 1) := by decide +kernel
theorem d_M_lookBound_245 : decode (cd m_M_lookBound) 245 = .ok (.ifCond .ne 15, 3) := by decide +kernel
theorem d_M_lookBound_248 : decode (cd m_M_lookBound) 248 = .ok (.aload_n 0, 1) := by decide +kernel
theorem d_M_lookBound_249 : decode (cd m_M_lookBound) 249 = .ok (.iconst 3, 1) := by decide +kernel
theorem d_M_lookBound_250 : decode (cd m_M_lookBound) 250 = .ok (.aload_n 0, 1) := by decide +kernel
theorem d_M_lookBound_251 : decode (cd m_M_lookBound) 251 = .ok (.getfield 86, 3) := by decide +kernel
theorem d_M_lookBound_254 : decode (cd m_M_lookBound) 254 = .ok (.iload 4, 2) := by decide +kernel
theorem d_M_lookBound_256 : decode (cd m_M_lookBound) 256 = .ok (.iaload, 1) := by decide +kernel
theorem d_M_lookBound_257 : decode (cd m_M_lookBound) 257 = .ok (.invokevirtual 214, 3) := by decide +kernel
theorem d_M_lookBound_260 : decode (cd m_M_lookBound) 260 = .ok (.iinc 4 1, 3) := by decide +kernel
theorem d_M_lookBound_263 : decode (cd m_M_lookBound) 263 = .ok (.goto (-39), 3) := by decide +kernel
theorem d_M_lookBound_266 : decode (cd m_M_lookBound) 266 = .ok (.return_, 1) := by decide +kernel
theorem d_M_predicateSizeOf_0 : decode (cd m_M_predicateSizeOf) 0 = .ok (.aload_n 0, 1) := by decide +kernel
theorem d_M_predicateSizeOf_1 : decode (cd m_M_predicateSizeOf) 1 = .ok (.getfield 102, 3) := by decide +kernel
theorem d_M_predicateSizeOf_4 : decode (cd m_M_predicateSizeOf) 4 = .ok (.iload_n 1, 1) := by decide +kernel
theorem d_M_predicateSizeOf_5 : decode (cd m_M_predicateSizeOf) 5 = .ok (.iaload, 1) := by decide +kernel
theorem d_M_predicateSizeOf_6 : decode (cd m_M_predicateSizeOf) 6 = .ok (.ireturn, 1) := by decide +kernel
theorem d_M_beginClause_0 : decode (cd m_M_beginClause) 0 = .ok (.aload_n 0, 1) := by decide +kernel
theorem d_M_beginClause_1 : decode (cd m_M_beginClause) 1 = .ok (.iload_n 1, 1) := by decide +kernel
theorem d_M_beginClause_2 : decode (cd m_M_beginClause) 2 = .ok (.putfield 196, 3) := by decide +kernel
theorem d_M_beginClause_5 : decode (cd m_M_beginClause) 5 = .ok (.aload_n 0, 1) := by decide +kernel
theorem d_M_beginClause_6 : decode (cd m_M_beginClause) 6 = .ok (.getfield 59, 3) := by decide +kernel
theorem d_M_beginClause_9 : decode (cd m_M_beginClause) 9 = .ok (.iload_n 1, 1) := by decide +kernel
theorem d_M_beginClause_10 : decode (cd m_M_beginClause) 10 = .ok (.iconst 0, 1) := by decide +kernel
theorem d_M_beginClause_11 : decode (cd m_M_beginClause) 11 = .ok (.iastore, 1) := by decide +kernel
theorem d_M_beginClause_12 : decode (cd m_M_beginClause) 12 = .ok (.aload_n 0, 1) := by decide +kernel
theorem d_M_beginClause_13 : decode (cd m_M_beginClause) 13 = .ok (.getfield 56, 3) := by decide +kernel
theorem d_M_beginClause_16 : decode (cd m_M_beginClause) 16 = .ok (.iload_n 1, 1) := by decide +kernel
theorem d_M_beginClause_17 : decode (cd m_M_beginClause) 17 = .ok (.iconst 0, 1) := by decide +kernel
theorem d_M_beginClause_18 : decode (cd m_M_beginClause) 18 = .ok (.iastore, 1) := by decide +kernel
theorem d_M_beginClause_19 : decode (cd m_M_beginClause) 19 = .ok (.aload_n 0, 1) := by decide +kernel
theorem d_M_beginClause_20 : decode (cd m_M_beginClause) 20 = .ok (.getfield 50, 3) := by decide +kernel
theorem d_M_beginClause_23 : decode (cd m_M_beginClause) 23 = .ok (.iload_n 1, 1) := by decide +kernel
theorem d_M_beginClause_24 : decode (cd m_M_beginClause) 24 = .ok (.iconst 0, 1) := by decide +kernel
theorem d_M_beginClause_25 : decode (cd m_M_beginClause) 25 = .ok (.iastore, 1) := by decide +kernel
theorem d_M_beginClause_26 : decode (cd m_M_beginClause) 26 = .ok (.aload_n 0, 1) := by decide +kernel
theorem d_M_beginClause_27 : decode (cd m_M_beginClause) 27 = .ok (.iconst 0, 1) := by decide +kernel
theorem d_M_beginClause_28 : decode (cd m_M_beginClause) 28 = .ok (.putfield 228, 3) := by decide +kernel
theorem d_M_beginClause_31 : decode (cd m_M_beginClause) 31 = .ok (.aload_n 0, 1) := by decide +kernel
theorem d_M_beginClause_32 : decode (cd m_M_beginClause) 32 = .ok (.iconst (-1), 1) := by decide +kernel
theorem d_M_beginClause_33 : decode (cd m_M_beginClause) 33 = .ok (.putfield 237, 3) := by decide +kernel
theorem d_M_beginClause_36 : decode (cd m_M_beginClause) 36 = .ok (.return_, 1) := by decide +kernel
theorem d_M_layHead_0 : decode (cd m_M_layHead) 0 = .ok (.aload_n 0, 1) := by decide +kernel
theorem d_M_layHead_1 : decode (cd m_M_layHead) 1 = .ok (.getfield 41, 3) := by decide +kernel
theorem d_M_layHead_4 : decode (cd m_M_layHead) 4 = .ok (.aload_n 0, 1) := by decide +kernel
theorem d_M_layHead_5 : decode (cd m_M_layHead) 5 = .ok (.getfield 196, 3) := by decide +kernel
theorem d_M_layHead_8 : decode (cd m_M_layHead) 8 = .ok (.aload_n 0, 1) := by decide +kernel
theorem d_M_layHead_9 : decode (cd m_M_layHead) 9 = .ok (.getfield 247, 3) := by decide +kernel
theorem d_M_layHead_12 : decode (cd m_M_layHead) 12 = .ok (.iastore, 1) := by decide +kernel
theorem d_M_layHead_13 : decode (cd m_M_layHead) 13 = .ok (.iconst 0, 1) := by decide +kernel
theorem d_M_layHead_14 : decode (cd m_M_layHead) 14 = .ok (.istore_n 1, 1) := by decide +kernel
theorem d_M_layHead_15 : decode (cd m_M_layHead) 15 = .ok (.iload_n 1, 1) := by decide +kernel
theorem d_M_layHead_16 : decode (cd m_M_layHead) 16 = .ok (.aload_n 0, 1) := by decide +kernel
theorem d_M_layHead_17 : decode (cd m_M_layHead) 17 = .ok (.getfield 222, 3) := by decide +kernel
theorem d_M_layHead_20 : decode (cd m_M_layHead) 20 = .ok (.if_icmp .ge 47, 3) := by decide +kernel
theorem d_M_layHead_23 : decode (cd m_M_layHead) 23 = .ok (.aload_n 0, 1) := by decide +kernel
theorem d_M_layHead_24 : decode (cd m_M_layHead) 24 = .ok (.getfield 44, 3) := by decide +kernel
theorem d_M_layHead_27 : decode (cd m_M_layHead) 27 = .ok (.iconst 4, 1) := by decide +kernel
theorem d_M_layHead_28 : decode (cd m_M_layHead) 28 = .ok (.aload_n 0, 1) := by decide +kernel
theorem d_M_layHead_29 : decode (cd m_M_layHead) 29 = .ok (.getfield 196, 3) := by decide +kernel
theorem d_M_layHead_32 : decode (cd m_M_layHead) 32 = .ok (.imul, 1) := by decide +kernel
theorem d_M_layHead_33 : decode (cd m_M_layHead) 33 = .ok (.iload_n 1, 1) := by decide +kernel
theorem d_M_layHead_34 : decode (cd m_M_layHead) 34 = .ok (.iadd, 1) := by decide +kernel
theorem d_M_layHead_35 : decode (cd m_M_layHead) 35 = .ok (.aload_n 0, 1) := by decide +kernel
theorem d_M_layHead_36 : decode (cd m_M_layHead) 36 = .ok (.getfield 93, 3) := by decide +kernel
theorem d_M_layHead_39 : decode (cd m_M_layHead) 39 = .ok (.iload_n 1, 1) := by decide +kernel
theorem d_M_layHead_40 : decode (cd m_M_layHead) 40 = .ok (.iaload, 1) := by decide +kernel
theorem d_M_layHead_41 : decode (cd m_M_layHead) 41 = .ok (.iastore, 1) := by decide +kernel
theorem d_M_layHead_42 : decode (cd m_M_layHead) 42 = .ok (.aload_n 0, 1) := by decide +kernel
theorem d_M_layHead_43 : decode (cd m_M_layHead) 43 = .ok (.getfield 47, 3) := by decide +kernel
theorem d_M_layHead_46 : decode (cd m_M_layHead) 46 = .ok (.iconst 4, 1) := by decide +kernel
theorem d_M_layHead_47 : decode (cd m_M_layHead) 47 = .ok (.aload_n 0, 1) := by decide +kernel
theorem d_M_layHead_48 : decode (cd m_M_layHead) 48 = .ok (.getfield 196, 3) := by decide +kernel
theorem d_M_layHead_51 : decode (cd m_M_layHead) 51 = .ok (.imul, 1) := by decide +kernel
theorem d_M_layHead_52 : decode (cd m_M_layHead) 52 = .ok (.iload_n 1, 1) := by decide +kernel
theorem d_M_layHead_53 : decode (cd m_M_layHead) 53 = .ok (.iadd, 1) := by decide +kernel
theorem d_M_layHead_54 : decode (cd m_M_layHead) 54 = .ok (.aload_n 0, 1) := by decide +kernel
theorem d_M_layHead_55 : decode (cd m_M_layHead) 55 = .ok (.getfield 96, 3) := by decide +kernel
theorem d_M_layHead_58 : decode (cd m_M_layHead) 58 = .ok (.iload_n 1, 1) := by decide +kernel
theorem d_M_layHead_59 : decode (cd m_M_layHead) 59 = .ok (.laload, 1) := by decide +kernel
theorem d_M_layHead_60 : decode (cd m_M_layHead) 60 = .ok (.lastore, 1) := by decide +kernel
theorem d_M_layHead_61 : decode (cd m_M_layHead) 61 = .ok (.iinc 1 1, 3) := by decide +kernel
theorem d_M_layHead_64 : decode (cd m_M_layHead) 64 = .ok (.goto (-49), 3) := by decide +kernel
theorem d_M_layHead_67 : decode (cd m_M_layHead) 67 = .ok (.aload_n 0, 1) := by decide +kernel
theorem d_M_layHead_68 : decode (cd m_M_layHead) 68 = .ok (.getfield 50, 3) := by decide +kernel
theorem d_M_layHead_71 : decode (cd m_M_layHead) 71 = .ok (.aload_n 0, 1) := by decide +kernel
theorem d_M_layHead_72 : decode (cd m_M_layHead) 72 = .ok (.getfield 196, 3) := by decide +kernel
theorem d_M_layHead_75 : decode (cd m_M_layHead) 75 = .ok (.aload_n 0, 1) := by decide +kernel
theorem d_M_layHead_76 : decode (cd m_M_layHead) 76 = .ok (.getfield 228, 3) := by decide +kernel
theorem d_M_layHead_79 : decode (cd m_M_layHead) 79 = .ok (.iastore, 1) := by decide +kernel
theorem d_M_layHead_80 : decode (cd m_M_layHead) 80 = .ok (.aload_n 0, 1) := by decide +kernel
theorem d_M_layHead_81 : decode (cd m_M_layHead) 81 = .ok (.getfield 53, 3) := by decide +kernel
theorem d_M_layHead_84 : decode (cd m_M_layHead) 84 = .ok (.aload_n 0, 1) := by decide +kernel
theorem d_M_layHead_85 : decode (cd m_M_layHead) 85 = .ok (.getfield 196, 3) := by decide +kernel
theorem d_M_layHead_88 : decode (cd m_M_layHead) 88 = .ok (.aload_n 0, 1) := by decide +kernel
theorem d_M_layHead_89 : decode (cd m_M_layHead) 89 = .ok (.getfield 231, 3) := by decide +kernel
theorem d_M_layHead_92 : decode (cd m_M_layHead) 92 = .ok (.iastore, 1) := by decide +kernel
theorem d_M_layHead_93 : decode (cd m_M_layHead) 93 = .ok (.aload_n 0, 1) := by decide +kernel
theorem d_M_layHead_94 : decode (cd m_M_layHead) 94 = .ok (.getfield 105, 3) := by decide +kernel
theorem d_M_layHead_97 : decode (cd m_M_layHead) 97 = .ok (.aload_n 0, 1) := by decide +kernel
theorem d_M_layHead_98 : decode (cd m_M_layHead) 98 = .ok (.getfield 196, 3) := by decide +kernel
theorem d_M_layHead_101 : decode (cd m_M_layHead) 101 = .ok (.aload_n 0, 1) := by decide +kernel
theorem d_M_layHead_102 : decode (cd m_M_layHead) 102 = .ok (.getfield 234, 3) := by decide +kernel
theorem d_M_layHead_105 : decode (cd m_M_layHead) 105 = .ok (.iastore, 1) := by decide +kernel
theorem d_M_layHead_106 : decode (cd m_M_layHead) 106 = .ok (.return_, 1) := by decide +kernel
theorem d_M_findFact_0 : decode (cd m_M_findFact) 0 = .ok (.sipush 200, 3) := by decide +kernel
theorem d_M_findFact_3 : decode (cd m_M_findFact) 3 = .ok (.aload_n 0, 1) := by decide +kernel
theorem d_M_findFact_4 : decode (cd m_M_findFact) 4 = .ok (.getfield 211, 3) := by decide +kernel
theorem d_M_findFact_7 : decode (cd m_M_findFact) 7 = .ok (.imul, 1) := by decide +kernel
theorem d_M_findFact_8 : decode (cd m_M_findFact) 8 = .ok (.istore_n 1, 1) := by decide +kernel
theorem d_M_findFact_9 : decode (cd m_M_findFact) 9 = .ok (.iload_n 1, 1) := by decide +kernel
theorem d_M_findFact_10 : decode (cd m_M_findFact) 10 = .ok (.sipush 200, 3) := by decide +kernel
theorem d_M_findFact_13 : decode (cd m_M_findFact) 13 = .ok (.aload_n 0, 1) := by decide +kernel
theorem d_M_findFact_14 : decode (cd m_M_findFact) 14 = .ok (.getfield 211, 3) := by decide +kernel
theorem d_M_findFact_17 : decode (cd m_M_findFact) 17 = .ok (.imul, 1) := by decide +kernel
theorem d_M_findFact_18 : decode (cd m_M_findFact) 18 = .ok (.aload_n 0, 1) := by decide +kernel
theorem d_M_findFact_19 : decode (cd m_M_findFact) 19 = .ok (.getfield 74, 3) := by decide +kernel
theorem d_M_findFact_22 : decode (cd m_M_findFact) 22 = .ok (.aload_n 0, 1) := by decide +kernel
theorem d_M_findFact_23 : decode (cd m_M_findFact) 23 = .ok (.getfield 211, 3) := by decide +kernel
theorem d_M_findFact_26 : decode (cd m_M_findFact) 26 = .ok (.iaload, 1) := by decide +kernel
theorem d_M_findFact_27 : decode (cd m_M_findFact) 27 = .ok (.iadd, 1) := by decide +kernel
theorem d_M_findFact_28 : decode (cd m_M_findFact) 28 = .ok (.if_icmp .ge 80, 3) := by decide +kernel
theorem d_M_findFact_31 : decode (cd m_M_findFact) 31 = .ok (.aload_n 0, 1) := by decide +kernel
theorem d_M_findFact_32 : decode (cd m_M_findFact) 32 = .ok (.getfield 77, 3) := by decide +kernel
theorem d_M_findFact_35 : decode (cd m_M_findFact) 35 = .ok (.iload_n 1, 1) := by decide +kernel
theorem d_M_findFact_36 : decode (cd m_M_findFact) 36 = .ok (.iaload, 1) := by decide +kernel
theorem d_M_findFact_37 : decode (cd m_M_findFact) 37 = .ok (.aload_n 0, 1) := by decide +kernel
theorem d_M_findFact_38 : decode (cd m_M_findFact) 38 = .ok (.getfield 247, 3) := by decide +kernel
theorem d_M_findFact_41 : decode (cd m_M_findFact) 41 = .ok (.if_icmp .ne 7, 3) := by decide +kernel
theorem d_M_findFact_44 : decode (cd m_M_findFact) 44 = .ok (.iconst 1, 1) := by decide +kernel
theorem d_M_findFact_45 : decode (cd m_M_findFact) 45 = .ok (.goto 4, 3) := by decide +kernel
theorem d_M_findFact_48 : decode (cd m_M_findFact) 48 = .ok (.iconst 0, 1) := by decide +kernel
theorem d_M_findFact_49 : decode (cd m_M_findFact) 49 = .ok (.istore_n 2, 1) := by decide +kernel
theorem d_M_findFact_50 : decode (cd m_M_findFact) 50 = .ok (.iconst 0, 1) := by decide +kernel
theorem d_M_findFact_51 : decode (cd m_M_findFact) 51 = .ok (.istore_n 3, 1) := by decide +kernel
theorem d_M_findFact_52 : decode (cd m_M_findFact) 52 = .ok (.iload_n 2, 1) := by decide +kernel
theorem d_M_findFact_53 : decode (cd m_M_findFact) 53 = .ok (.ifCond .eq 43, 3) := by decide +kernel
theorem d_M_findFact_56 : decode (cd m_M_findFact) 56 = .ok (.iload_n 3, 1) := by decide +kernel
theorem d_M_findFact_57 : decode (cd m_M_findFact) 57 = .ok (.aload_n 0, 1) := by decide +kernel
theorem d_M_findFact_58 : decode (cd m_M_findFact) 58 = .ok (.getfield 222, 3) := by decide +kernel
theorem d_M_findFact_61 : decode (cd m_M_findFact) 61 = .ok (.if_icmp .ge 35, 3) := by decide +kernel
theorem d_M_findFact_64 : decode (cd m_M_findFact) 64 = .ok (.aload_n 0, 1) := by decide +kernel
theorem d_M_findFact_65 : decode (cd m_M_findFact) 65 = .ok (.getfield 80, 3) := by decide +kernel
theorem d_M_findFact_68 : decode (cd m_M_findFact) 68 = .ok (.iconst 4, 1) := by decide +kernel
theorem d_M_findFact_69 : decode (cd m_M_findFact) 69 = .ok (.iload_n 1, 1) := by decide +kernel
theorem d_M_findFact_70 : decode (cd m_M_findFact) 70 = .ok (.imul, 1) := by decide +kernel
theorem d_M_findFact_71 : decode (cd m_M_findFact) 71 = .ok (.iload_n 3, 1) := by decide +kernel
theorem d_M_findFact_72 : decode (cd m_M_findFact) 72 = .ok (.iadd, 1) := by decide +kernel
theorem d_M_findFact_73 : decode (cd m_M_findFact) 73 = .ok (.laload, 1) := by decide +kernel
theorem d_M_findFact_74 : decode (cd m_M_findFact) 74 = .ok (.aload_n 0, 1) := by decide +kernel
theorem d_M_findFact_75 : decode (cd m_M_findFact) 75 = .ok (.getfield 96, 3) := by decide +kernel
theorem d_M_findFact_78 : decode (cd m_M_findFact) 78 = .ok (.iload_n 3, 1) := by decide +kernel
theorem d_M_findFact_79 : decode (cd m_M_findFact) 79 = .ok (.laload, 1) := by decide +kernel
theorem d_M_findFact_80 : decode (cd m_M_findFact) 80 = .ok (.lcmp, 1) := by decide +kernel
theorem d_M_findFact_81 : decode (cd m_M_findFact) 81 = .ok (.ifCond .ne 7, 3) := by decide +kernel
theorem d_M_findFact_84 : decode (cd m_M_findFact) 84 = .ok (.iconst 1, 1) := by decide +kernel
theorem d_M_findFact_85 : decode (cd m_M_findFact) 85 = .ok (.goto 4, 3) := by decide +kernel
theorem d_M_findFact_88 : decode (cd m_M_findFact) 88 = .ok (.iconst 0, 1) := by decide +kernel
theorem d_M_findFact_89 : decode (cd m_M_findFact) 89 = .ok (.istore_n 2, 1) := by decide +kernel
theorem d_M_findFact_90 : decode (cd m_M_findFact) 90 = .ok (.iinc 3 1, 3) := by decide +kernel
theorem d_M_findFact_93 : decode (cd m_M_findFact) 93 = .ok (.goto (-41), 3) := by decide +kernel
theorem d_M_findFact_96 : decode (cd m_M_findFact) 96 = .ok (.iload_n 2, 1) := by decide +kernel
theorem d_M_findFact_97 : decode (cd m_M_findFact) 97 = .ok (.ifCond .eq 5, 3) := by decide +kernel
theorem d_M_findFact_100 : decode (cd m_M_findFact) 100 = .ok (.iload_n 1, 1) := by decide +kernel
theorem d_M_findFact_101 : decode (cd m_M_findFact) 101 = .ok (.ireturn, 1) := by decide +kernel
theorem d_M_findFact_102 : decode (cd m_M_findFact) 102 = .ok (.iinc 1 1, 3) := by decide +kernel
theorem d_M_findFact_105 : decode (cd m_M_findFact) 105 = .ok (.goto (-96), 3) := by decide +kernel
theorem d_M_findFact_108 : decode (cd m_M_findFact) 108 = .ok (.iconst (-1), 1) := by decide +kernel
theorem d_M_findFact_109 : decode (cd m_M_findFact) 109 = .ok (.ireturn, 1) := by decide +kernel
theorem d_M_addFact_0 : decode (cd m_M_addFact) 0 = .ok (.sipush 200, 3) := by decide +kernel
theorem d_M_addFact_3 : decode (cd m_M_addFact) 3 = .ok (.aload_n 0, 1) := by decide +kernel
theorem d_M_addFact_4 : decode (cd m_M_addFact) 4 = .ok (.getfield 211, 3) := by decide +kernel
theorem d_M_addFact_7 : decode (cd m_M_addFact) 7 = .ok (.imul, 1) := by decide +kernel
theorem d_M_addFact_8 : decode (cd m_M_addFact) 8 = .ok (.aload_n 0, 1) := by decide +kernel
theorem d_M_addFact_9 : decode (cd m_M_addFact) 9 = .ok (.getfield 74, 3) := by decide +kernel
theorem d_M_addFact_12 : decode (cd m_M_addFact) 12 = .ok (.aload_n 0, 1) := by decide +kernel
theorem d_M_addFact_13 : decode (cd m_M_addFact) 13 = .ok (.getfield 211, 3) := by decide +kernel
theorem d_M_addFact_16 : decode (cd m_M_addFact) 16 = .ok (.iaload, 1) := by decide +kernel
theorem d_M_addFact_17 : decode (cd m_M_addFact) 17 = .ok (.iadd, 1) := by decide +kernel
theorem d_M_addFact_18 : decode (cd m_M_addFact) 18 = .ok (.istore_n 1, 1) := by decide +kernel
theorem d_M_addFact_19 : decode (cd m_M_addFact) 19 = .ok (.aload_n 0, 1) := by decide +kernel
theorem d_M_addFact_20 : decode (cd m_M_addFact) 20 = .ok (.getfield 77, 3) := by decide +kernel
theorem d_M_addFact_23 : decode (cd m_M_addFact) 23 = .ok (.iload_n 1, 1) := by decide +kernel
theorem d_M_addFact_24 : decode (cd m_M_addFact) 24 = .ok (.aload_n 0, 1) := by decide +kernel
theorem d_M_addFact_25 : decode (cd m_M_addFact) 25 = .ok (.getfield 247, 3) := by decide +kernel
theorem d_M_addFact_28 : decode (cd m_M_addFact) 28 = .ok (.iastore, 1) := by decide +kernel
theorem d_M_addFact_29 : decode (cd m_M_addFact) 29 = .ok (.iconst 0, 1) := by decide +kernel
theorem d_M_addFact_30 : decode (cd m_M_addFact) 30 = .ok (.istore_n 2, 1) := by decide +kernel
theorem d_M_addFact_31 : decode (cd m_M_addFact) 31 = .ok (.iload_n 2, 1) := by decide +kernel
theorem d_M_addFact_32 : decode (cd m_M_addFact) 32 = .ok (.aload_n 0, 1) := by decide +kernel
theorem d_M_addFact_33 : decode (cd m_M_addFact) 33 = .ok (.getfield 222, 3) := by decide +kernel
theorem d_M_addFact_36 : decode (cd m_M_addFact) 36 = .ok (.if_icmp .ge 25, 3) := by decide +kernel
theorem d_M_addFact_39 : decode (cd m_M_addFact) 39 = .ok (.aload_n 0, 1) := by decide +kernel
theorem d_M_addFact_40 : decode (cd m_M_addFact) 40 = .ok (.getfield 80, 3) := by decide +kernel
theorem d_M_addFact_43 : decode (cd m_M_addFact) 43 = .ok (.iconst 4, 1) := by decide +kernel
theorem d_M_addFact_44 : decode (cd m_M_addFact) 44 = .ok (.iload_n 1, 1) := by decide +kernel
theorem d_M_addFact_45 : decode (cd m_M_addFact) 45 = .ok (.imul, 1) := by decide +kernel
theorem d_M_addFact_46 : decode (cd m_M_addFact) 46 = .ok (.iload_n 2, 1) := by decide +kernel
theorem d_M_addFact_47 : decode (cd m_M_addFact) 47 = .ok (.iadd, 1) := by decide +kernel
theorem d_M_addFact_48 : decode (cd m_M_addFact) 48 = .ok (.aload_n 0, 1) := by decide +kernel
theorem d_M_addFact_49 : decode (cd m_M_addFact) 49 = .ok (.getfield 96, 3) := by decide +kernel
theorem d_M_addFact_52 : decode (cd m_M_addFact) 52 = .ok (.iload_n 2, 1) := by decide +kernel
theorem d_M_addFact_53 : decode (cd m_M_addFact) 53 = .ok (.laload, 1) := by decide +kernel
theorem d_M_addFact_54 : decode (cd m_M_addFact) 54 = .ok (.lastore, 1) := by decide +kernel
theorem d_M_addFact_55 : decode (cd m_M_addFact) 55 = .ok (.iinc 2 1, 3) := by decide +kernel
theorem d_M_addFact_58 : decode (cd m_M_addFact) 58 = .ok (.goto (-27), 3) := by decide +kernel
theorem d_M_addFact_61 : decode (cd m_M_addFact) 61 = .ok (.aload_n 0, 1) := by decide +kernel
theorem d_M_addFact_62 : decode (cd m_M_addFact) 62 = .ok (.getfield 74, 3) := by decide +kernel
theorem d_M_addFact_65 : decode (cd m_M_addFact) 65 = .ok (.aload_n 0, 1) := by decide +kernel
theorem d_M_addFact_66 : decode (cd m_M_addFact) 66 = .ok (.getfield 211, 3) := by decide +kernel
theorem d_M_addFact_69 : decode (cd m_M_addFact) 69 = .ok (.dup2, 1) := by decide +kernel
theorem d_M_addFact_70 : decode (cd m_M_addFact) 70 = .ok (.iaload, 1) := by decide +kernel
theorem d_M_addFact_71 : decode (cd m_M_addFact) 71 = .ok (.iconst 1, 1) := by decide +kernel
theorem d_M_addFact_72 : decode (cd m_M_addFact) 72 = .ok (.iadd, 1) := by decide +kernel
theorem d_M_addFact_73 : decode (cd m_M_addFact) 73 = .ok (.iastore, 1) := by decide +kernel
theorem d_M_addFact_74 : decode (cd m_M_addFact) 74 = .ok (.return_, 1) := by decide +kernel
theorem d_M_readClause_0 : decode (cd m_M_readClause) 0 = .ok (.aload_n 0, 1) := by decide +kernel
theorem d_M_readClause_1 : decode (cd m_M_readClause) 1 = .ok (.aload_n 0, 1) := by decide +kernel
theorem d_M_readClause_2 : decode (cd m_M_readClause) 2 = .ok (.getfield 38, 3) := by decide +kernel
theorem d_M_readClause_5 : decode (cd m_M_readClause) 5 = .ok (.aload_n 0, 1) := by decide +kernel
theorem d_M_readClause_6 : decode (cd m_M_readClause) 6 = .ok (.getfield 211, 3) := by decide +kernel
theorem d_M_readClause_9 : decode (cd m_M_readClause) 9 = .ok (.iaload, 1) := by decide +kernel
theorem d_M_readClause_10 : decode (cd m_M_readClause) 10 = .ok (.bipush 30, 2) := by decide +kernel
theorem d_M_readClause_12 : decode (cd m_M_readClause) 12 = .ok (.if_icmp .ne 8, 3) := by decide +kernel
theorem d_M_readClause_15 : decode (cd m_M_readClause) 15 = .ok (.bipush 60, 2) := by decide +kernel
theorem d_M_readClause_17 : decode (cd m_M_readClause) 17 = .ok (.goto 20, 3) := by decide +kernel
theorem d_M_readClause_20 : decode (cd m_M_readClause) 20 = .ok (.bipush 30, 2) := by decide +kernel
theorem d_M_readClause_22 : decode (cd m_M_readClause) 22 = .ok (.aload_n 0, 1) := by decide +kernel
theorem d_M_readClause_23 : decode (cd m_M_readClause) 23 = .ok (.getfield 211, 3) := by decide +kernel
theorem d_M_readClause_26 : decode (cd m_M_readClause) 26 = .ok (.imul, 1) := by decide +kernel
theorem d_M_readClause_27 : decode (cd m_M_readClause) 27 = .ok (.aload_n 0, 1) := by decide +kernel
theorem d_M_readClause_28 : decode (cd m_M_readClause) 28 = .ok (.getfield 38, 3) := by decide +kernel
theorem d_M_readClause_31 : decode (cd m_M_readClause) 31 = .ok (.aload_n 0, 1) := by decide +kernel
theorem d_M_readClause_32 : decode (cd m_M_readClause) 32 = .ok (.getfield 211, 3) := by decide +kernel
theorem d_M_readClause_35 : decode (cd m_M_readClause) 35 = .ok (.iaload, 1) := by decide +kernel
theorem d_M_readClause_36 : decode (cd m_M_readClause) 36 = .ok (.iadd, 1) := by decide +kernel
theorem d_M_readClause_37 : decode (cd m_M_readClause) 37 = .ok (.invokevirtual 277, 3) := by decide +kernel
theorem d_M_readClause_40 : decode (cd m_M_readClause) 40 = .ok (.aload_n 0, 1) := by decide +kernel
theorem d_M_readClause_41 : decode (cd m_M_readClause) 41 = .ok (.getfield 16, 3) := by decide +kernel
theorem d_M_readClause_44 : decode (cd m_M_readClause) 44 = .ok (.aload_n 0, 1) := by decide +kernel
theorem d_M_readClause_45 : decode (cd m_M_readClause) 45 = .ok (.getfield 180, 3) := by decide +kernel
theorem d_M_readClause_48 : decode (cd m_M_readClause) 48 = .ok (.iaload, 1) := by decide +kernel
theorem d_M_readClause_49 : decode (cd m_M_readClause) 49 = .ok (.istore_n 1, 1) := by decide +kernel
theorem d_M_readClause_50 : decode (cd m_M_readClause) 50 = .ok (.aload_n 0, 1) := by decide +kernel
theorem d_M_readClause_51 : decode (cd m_M_readClause) 51 = .ok (.iconst 1, 1) := by decide +kernel
theorem d_M_readClause_52 : decode (cd m_M_readClause) 52 = .ok (.iconst 0, 1) := by decide +kernel
theorem d_M_readClause_53 : decode (cd m_M_readClause) 53 = .ok (.invokevirtual 253, 3) := by decide +kernel
end
section
/-! decode rows (by program) -/
theorem d_M_readClause_56 : decode (cd m_M_readClause) 56 = .ok (.ifCond .ne 5, 3) := by decide +kernel
theorem d_M_readClause_59 : decode (cd m_M_readClause) 59 = .ok (.iconst 0, 1) := by decide +kernel
theorem d_M_readClause_60 : decode (cd m_M_readClause) 60 = .ok (.ireturn, 1) := by decide +kernel
theorem d_M_readClause_61 : decode (cd m_M_readClause) 61 = .ok (.aload_n 0, 1) := by decide +kernel
theorem d_M_readClause_62 : decode (cd m_M_readClause) 62 = .ok (.invokevirtual 281, 3) := by decide +kernel
theorem d_M_readClause_65 : decode (cd m_M_readClause) 65 = .ok (.aload_n 0, 1) := by decide +kernel
theorem d_M_readClause_66 : decode (cd m_M_readClause) 66 = .ok (.bipush 46, 2) := by decide +kernel
theorem d_M_readClause_68 : decode (cd m_M_readClause) 68 = .ok (.invokevirtual 189, 3) := by decide +kernel
theorem d_M_readClause_71 : decode (cd m_M_readClause) 71 = .ok (.ifCond .eq 34, 3) := by decide +kernel
theorem d_M_readClause_74 : decode (cd m_M_readClause) 74 = .ok (.aload_n 0, 1) := by decide +kernel
theorem d_M_readClause_75 : decode (cd m_M_readClause) 75 = .ok (.getfield 237, 3) := by decide +kernel
theorem d_M_readClause_78 : decode (cd m_M_readClause) 78 = .ok (.iconst (-1), 1) := by decide +kernel
theorem d_M_readClause_79 : decode (cd m_M_readClause) 79 = .ok (.if_icmp .eq 12, 3) := by decide +kernel
theorem d_M_readClause_82 : decode (cd m_M_readClause) 82 = .ok (.aload_n 0, 1) := by decide +kernel
theorem d_M_readClause_83 : decode (cd m_M_readClause) 83 = .ok (.aload_n 0, 1) := by decide +kernel
theorem d_M_readClause_84 : decode (cd m_M_readClause) 84 = .ok (.getfield 237, 3) := by decide +kernel
theorem d_M_readClause_87 : decode (cd m_M_readClause) 87 = .ok (.invokevirtual 183, 3) := by decide +kernel
theorem d_M_readClause_90 : decode (cd m_M_readClause) 90 = .ok (.ireturn, 1) := by decide +kernel
theorem d_M_readClause_91 : decode (cd m_M_readClause) 91 = .ok (.aload_n 0, 1) := by decide +kernel
theorem d_M_readClause_92 : decode (cd m_M_readClause) 92 = .ok (.invokevirtual 284, 3) := by decide +kernel
theorem d_M_readClause_95 : decode (cd m_M_readClause) 95 = .ok (.iconst (-1), 1) := by decide +kernel
theorem d_M_readClause_96 : decode (cd m_M_readClause) 96 = .ok (.if_icmp .ne 7, 3) := by decide +kernel
theorem d_M_readClause_99 : decode (cd m_M_readClause) 99 = .ok (.aload_n 0, 1) := by decide +kernel
theorem d_M_readClause_100 : decode (cd m_M_readClause) 100 = .ok (.invokevirtual 287, 3) := by decide +kernel
theorem d_M_readClause_103 : decode (cd m_M_readClause) 103 = .ok (.iconst 1, 1) := by decide +kernel
theorem d_M_readClause_104 : decode (cd m_M_readClause) 104 = .ok (.ireturn, 1) := by decide +kernel
theorem d_M_readClause_105 : decode (cd m_M_readClause) 105 = .ok (.aload_n 0, 1) := by decide +kernel
theorem d_M_readClause_106 : decode (cd m_M_readClause) 106 = .ok (.sipush 300, 3) := by decide +kernel
theorem d_M_readClause_109 : decode (cd m_M_readClause) 109 = .ok (.invokevirtual 186, 3) := by decide +kernel
theorem d_M_readClause_112 : decode (cd m_M_readClause) 112 = .ok (.ifCond .ne 8, 3) := by decide +kernel
theorem d_M_readClause_115 : decode (cd m_M_readClause) 115 = .ok (.aload_n 0, 1) := by decide +kernel
theorem d_M_readClause_116 : decode (cd m_M_readClause) 116 = .ok (.invokevirtual 192, 3) := by decide +kernel
theorem d_M_readClause_119 : decode (cd m_M_readClause) 119 = .ok (.ireturn, 1) := by decide +kernel
theorem d_M_readClause_120 : decode (cd m_M_readClause) 120 = .ok (.aload_n 0, 1) := by decide +kernel
theorem d_M_readClause_121 : decode (cd m_M_readClause) 121 = .ok (.getfield 38, 3) := by decide +kernel
theorem d_M_readClause_124 : decode (cd m_M_readClause) 124 = .ok (.aload_n 0, 1) := by decide +kernel
theorem d_M_readClause_125 : decode (cd m_M_readClause) 125 = .ok (.getfield 211, 3) := by decide +kernel
theorem d_M_readClause_128 : decode (cd m_M_readClause) 128 = .ok (.iaload, 1) := by decide +kernel
theorem d_M_readClause_129 : decode (cd m_M_readClause) 129 = .ok (.bipush 30, 2) := by decide +kernel
theorem d_M_readClause_131 : decode (cd m_M_readClause) 131 = .ok (.if_icmp .ne 9, 3) := by decide +kernel
theorem d_M_readClause_134 : decode (cd m_M_readClause) 134 = .ok (.aload_n 0, 1) := by decide +kernel
theorem d_M_readClause_135 : decode (cd m_M_readClause) 135 = .ok (.iload_n 1, 1) := by decide +kernel
theorem d_M_readClause_136 : decode (cd m_M_readClause) 136 = .ok (.invokevirtual 183, 3) := by decide +kernel
theorem d_M_readClause_139 : decode (cd m_M_readClause) 139 = .ok (.ireturn, 1) := by decide +kernel
theorem d_M_readClause_140 : decode (cd m_M_readClause) 140 = .ok (.aload_n 0, 1) := by decide +kernel
theorem d_M_readClause_141 : decode (cd m_M_readClause) 141 = .ok (.dup, 1) := by decide +kernel
theorem d_M_readClause_142 : decode (cd m_M_readClause) 142 = .ok (.getfield 180, 3) := by decide +kernel
theorem d_M_readClause_145 : decode (cd m_M_readClause) 145 = .ok (.iconst 1, 1) := by decide +kernel
theorem d_M_readClause_146 : decode (cd m_M_readClause) 146 = .ok (.iadd, 1) := by decide +kernel
theorem d_M_readClause_147 : decode (cd m_M_readClause) 147 = .ok (.putfield 180, 3) := by decide +kernel
theorem d_M_readClause_150 : decode (cd m_M_readClause) 150 = .ok (.aload_n 0, 1) := by decide +kernel
theorem d_M_readClause_151 : decode (cd m_M_readClause) 151 = .ok (.invokevirtual 290, 3) := by decide +kernel
theorem d_M_readClause_154 : decode (cd m_M_readClause) 154 = .ok (.ifCond .eq 12, 3) := by decide +kernel
theorem d_M_readClause_157 : decode (cd m_M_readClause) 157 = .ok (.aload_n 0, 1) := by decide +kernel
theorem d_M_readClause_158 : decode (cd m_M_readClause) 158 = .ok (.bipush 46, 2) := by decide +kernel
theorem d_M_readClause_160 : decode (cd m_M_readClause) 160 = .ok (.invokevirtual 225, 3) := by decide +kernel
theorem d_M_readClause_163 : decode (cd m_M_readClause) 163 = .ok (.ifCond .ne 5, 3) := by decide +kernel
theorem d_M_readClause_166 : decode (cd m_M_readClause) 166 = .ok (.iconst 0, 1) := by decide +kernel
theorem d_M_readClause_167 : decode (cd m_M_readClause) 167 = .ok (.ireturn, 1) := by decide +kernel
theorem d_M_readClause_168 : decode (cd m_M_readClause) 168 = .ok (.aload_n 0, 1) := by decide +kernel
theorem d_M_readClause_169 : decode (cd m_M_readClause) 169 = .ok (.invokevirtual 293, 3) := by decide +kernel
theorem d_M_readClause_172 : decode (cd m_M_readClause) 172 = .ok (.aload_n 0, 1) := by decide +kernel
theorem d_M_readClause_173 : decode (cd m_M_readClause) 173 = .ok (.getfield 38, 3) := by decide +kernel
theorem d_M_readClause_176 : decode (cd m_M_readClause) 176 = .ok (.aload_n 0, 1) := by decide +kernel
theorem d_M_readClause_177 : decode (cd m_M_readClause) 177 = .ok (.getfield 211, 3) := by decide +kernel
theorem d_M_readClause_180 : decode (cd m_M_readClause) 180 = .ok (.dup2, 1) := by decide +kernel
theorem d_M_readClause_181 : decode (cd m_M_readClause) 181 = .ok (.iaload, 1) := by decide +kernel
theorem d_M_readClause_182 : decode (cd m_M_readClause) 182 = .ok (.iconst 1, 1) := by decide +kernel
theorem d_M_readClause_183 : decode (cd m_M_readClause) 183 = .ok (.iadd, 1) := by decide +kernel
theorem d_M_readClause_184 : decode (cd m_M_readClause) 184 = .ok (.iastore, 1) := by decide +kernel
theorem d_M_readClause_185 : decode (cd m_M_readClause) 185 = .ok (.iconst 1, 1) := by decide +kernel
theorem d_M_readClause_186 : decode (cd m_M_readClause) 186 = .ok (.ireturn, 1) := by decide +kernel
theorem d_M_isAtom_0 : decode (cd m_M_isAtom) 0 = .ok (.aload_n 0, 1) := by decide +kernel
theorem d_M_isAtom_1 : decode (cd m_M_isAtom) 1 = .ok (.getfield 62, 3) := by decide +kernel
theorem d_M_isAtom_4 : decode (cd m_M_isAtom) 4 = .ok (.iload_n 1, 1) := by decide +kernel
theorem d_M_isAtom_5 : decode (cd m_M_isAtom) 5 = .ok (.iaload, 1) := by decide +kernel
theorem d_M_isAtom_6 : decode (cd m_M_isAtom) 6 = .ok (.ifCond .eq 13, 3) := by decide +kernel
theorem d_M_isAtom_9 : decode (cd m_M_isAtom) 9 = .ok (.aload_n 0, 1) := by decide +kernel
theorem d_M_isAtom_10 : decode (cd m_M_isAtom) 10 = .ok (.getfield 62, 3) := by decide +kernel
theorem d_M_isAtom_13 : decode (cd m_M_isAtom) 13 = .ok (.iload_n 1, 1) := by decide +kernel
theorem d_M_isAtom_14 : decode (cd m_M_isAtom) 14 = .ok (.iaload, 1) := by decide +kernel
theorem d_M_isAtom_15 : decode (cd m_M_isAtom) 15 = .ok (.iconst 1, 1) := by decide +kernel
theorem d_M_isAtom_16 : decode (cd m_M_isAtom) 16 = .ok (.if_icmp .ne 7, 3) := by decide +kernel
theorem d_M_isAtom_19 : decode (cd m_M_isAtom) 19 = .ok (.iconst 1, 1) := by decide +kernel
theorem d_M_isAtom_20 : decode (cd m_M_isAtom) 20 = .ok (.goto 4, 3) := by decide +kernel
theorem d_M_isAtom_23 : decode (cd m_M_isAtom) 23 = .ok (.iconst 0, 1) := by decide +kernel
theorem d_M_isAtom_24 : decode (cd m_M_isAtom) 24 = .ok (.ireturn, 1) := by decide +kernel
theorem d_M_lookHangs_0 : decode (cd m_M_lookHangs) 0 = .ok (.iconst 0, 1) := by decide +kernel
theorem d_M_lookHangs_1 : decode (cd m_M_lookHangs) 1 = .ok (.istore_n 1, 1) := by decide +kernel
theorem d_M_lookHangs_2 : decode (cd m_M_lookHangs) 2 = .ok (.iload_n 1, 1) := by decide +kernel
theorem d_M_lookHangs_3 : decode (cd m_M_lookHangs) 3 = .ok (.sipush 256, 3) := by decide +kernel
theorem d_M_lookHangs_6 : decode (cd m_M_lookHangs) 6 = .ok (.if_icmp .ge 16, 3) := by decide +kernel
theorem d_M_lookHangs_9 : decode (cd m_M_lookHangs) 9 = .ok (.aload_n 0, 1) := by decide +kernel
theorem d_M_lookHangs_10 : decode (cd m_M_lookHangs) 10 = .ok (.getfield 108, 3) := by decide +kernel
theorem d_M_lookHangs_13 : decode (cd m_M_lookHangs) 13 = .ok (.iload_n 1, 1) := by decide +kernel
theorem d_M_lookHangs_14 : decode (cd m_M_lookHangs) 14 = .ok (.iconst 0, 1) := by decide +kernel
theorem d_M_lookHangs_15 : decode (cd m_M_lookHangs) 15 = .ok (.bastore, 1) := by decide +kernel
theorem d_M_lookHangs_16 : decode (cd m_M_lookHangs) 16 = .ok (.iinc 1 1, 3) := by decide +kernel
theorem d_M_lookHangs_19 : decode (cd m_M_lookHangs) 19 = .ok (.goto (-17), 3) := by decide +kernel
theorem d_M_lookHangs_22 : decode (cd m_M_lookHangs) 22 = .ok (.bipush 30, 2) := by decide +kernel
theorem d_M_lookHangs_24 : decode (cd m_M_lookHangs) 24 = .ok (.aload_n 0, 1) := by decide +kernel
theorem d_M_lookHangs_25 : decode (cd m_M_lookHangs) 25 = .ok (.getfield 211, 3) := by decide +kernel
theorem d_M_lookHangs_28 : decode (cd m_M_lookHangs) 28 = .ok (.imul, 1) := by decide +kernel
theorem d_M_lookHangs_29 : decode (cd m_M_lookHangs) 29 = .ok (.istore_n 1, 1) := by decide +kernel
theorem d_M_lookHangs_30 : decode (cd m_M_lookHangs) 30 = .ok (.iload_n 1, 1) := by decide +kernel
theorem d_M_lookHangs_31 : decode (cd m_M_lookHangs) 31 = .ok (.bipush 30, 2) := by decide +kernel
theorem d_M_lookHangs_33 : decode (cd m_M_lookHangs) 33 = .ok (.aload_n 0, 1) := by decide +kernel
theorem d_M_lookHangs_34 : decode (cd m_M_lookHangs) 34 = .ok (.getfield 211, 3) := by decide +kernel
theorem d_M_lookHangs_37 : decode (cd m_M_lookHangs) 37 = .ok (.imul, 1) := by decide +kernel
theorem d_M_lookHangs_38 : decode (cd m_M_lookHangs) 38 = .ok (.aload_n 0, 1) := by decide +kernel
theorem d_M_lookHangs_39 : decode (cd m_M_lookHangs) 39 = .ok (.getfield 38, 3) := by decide +kernel
theorem d_M_lookHangs_42 : decode (cd m_M_lookHangs) 42 = .ok (.aload_n 0, 1) := by decide +kernel
theorem d_M_lookHangs_43 : decode (cd m_M_lookHangs) 43 = .ok (.getfield 211, 3) := by decide +kernel
theorem d_M_lookHangs_46 : decode (cd m_M_lookHangs) 46 = .ok (.iaload, 1) := by decide +kernel
theorem d_M_lookHangs_47 : decode (cd m_M_lookHangs) 47 = .ok (.iadd, 1) := by decide +kernel
theorem d_M_lookHangs_48 : decode (cd m_M_lookHangs) 48 = .ok (.if_icmp .ge 65, 3) := by decide +kernel
theorem d_M_lookHangs_51 : decode (cd m_M_lookHangs) 51 = .ok (.bipush 6, 2) := by decide +kernel
theorem d_M_lookHangs_53 : decode (cd m_M_lookHangs) 53 = .ok (.iload_n 1, 1) := by decide +kernel
theorem d_M_lookHangs_54 : decode (cd m_M_lookHangs) 54 = .ok (.imul, 1) := by decide +kernel
theorem d_M_lookHangs_55 : decode (cd m_M_lookHangs) 55 = .ok (.istore_n 2, 1) := by decide +kernel
theorem d_M_lookHangs_56 : decode (cd m_M_lookHangs) 56 = .ok (.iload_n 2, 1) := by decide +kernel
theorem d_M_lookHangs_57 : decode (cd m_M_lookHangs) 57 = .ok (.bipush 6, 2) := by decide +kernel
theorem d_M_lookHangs_59 : decode (cd m_M_lookHangs) 59 = .ok (.iload_n 1, 1) := by decide +kernel
theorem d_M_lookHangs_60 : decode (cd m_M_lookHangs) 60 = .ok (.imul, 1) := by decide +kernel
theorem d_M_lookHangs_61 : decode (cd m_M_lookHangs) 61 = .ok (.aload_n 0, 1) := by decide +kernel
theorem d_M_lookHangs_62 : decode (cd m_M_lookHangs) 62 = .ok (.getfield 56, 3) := by decide +kernel
theorem d_M_lookHangs_65 : decode (cd m_M_lookHangs) 65 = .ok (.iload_n 1, 1) := by decide +kernel
theorem d_M_lookHangs_66 : decode (cd m_M_lookHangs) 66 = .ok (.iaload, 1) := by decide +kernel
theorem d_M_lookHangs_67 : decode (cd m_M_lookHangs) 67 = .ok (.iadd, 1) := by decide +kernel
theorem d_M_lookHangs_68 : decode (cd m_M_lookHangs) 68 = .ok (.if_icmp .ge 39, 3) := by decide +kernel
theorem d_M_lookHangs_71 : decode (cd m_M_lookHangs) 71 = .ok (.aload_n 0, 1) := by decide +kernel
theorem d_M_lookHangs_72 : decode (cd m_M_lookHangs) 72 = .ok (.iload_n 2, 1) := by decide +kernel
theorem d_M_lookHangs_73 : decode (cd m_M_lookHangs) 73 = .ok (.invokevirtual 296, 3) := by decide +kernel
theorem d_M_lookHangs_76 : decode (cd m_M_lookHangs) 76 = .ok (.ifCond .eq 25, 3) := by decide +kernel
theorem d_M_lookHangs_79 : decode (cd m_M_lookHangs) 79 = .ok (.aload_n 0, 1) := by decide +kernel
theorem d_M_lookHangs_80 : decode (cd m_M_lookHangs) 80 = .ok (.getfield 108, 3) := by decide +kernel
theorem d_M_lookHangs_83 : decode (cd m_M_lookHangs) 83 = .ok (.bipush 16, 2) := by decide +kernel
theorem d_M_lookHangs_85 : decode (cd m_M_lookHangs) 85 = .ok (.aload_n 0, 1) := by decide +kernel
theorem d_M_lookHangs_86 : decode (cd m_M_lookHangs) 86 = .ok (.getfield 41, 3) := by decide +kernel
theorem d_M_lookHangs_89 : decode (cd m_M_lookHangs) 89 = .ok (.iload_n 1, 1) := by decide +kernel
theorem d_M_lookHangs_90 : decode (cd m_M_lookHangs) 90 = .ok (.iaload, 1) := by decide +kernel
theorem d_M_lookHangs_91 : decode (cd m_M_lookHangs) 91 = .ok (.imul, 1) := by decide +kernel
theorem d_M_lookHangs_92 : decode (cd m_M_lookHangs) 92 = .ok (.aload_n 0, 1) := by decide +kernel
theorem d_M_lookHangs_93 : decode (cd m_M_lookHangs) 93 = .ok (.getfield 65, 3) := by decide +kernel
theorem d_M_lookHangs_96 : decode (cd m_M_lookHangs) 96 = .ok (.iload_n 2, 1) := by decide +kernel
theorem d_M_lookHangs_97 : decode (cd m_M_lookHangs) 97 = .ok (.iaload, 1) := by decide +kernel
theorem d_M_lookHangs_98 : decode (cd m_M_lookHangs) 98 = .ok (.iadd, 1) := by decide +kernel
theorem d_M_lookHangs_99 : decode (cd m_M_lookHangs) 99 = .ok (.iconst 1, 1) := by decide +kernel
theorem d_M_lookHangs_100 : decode (cd m_M_lookHangs) 100 = .ok (.bastore, 1) := by decide +kernel
theorem d_M_lookHangs_101 : decode (cd m_M_lookHangs) 101 = .ok (.iinc 2 1, 3) := by decide +kernel
theorem d_M_lookHangs_104 : decode (cd m_M_lookHangs) 104 = .ok (.goto (-48), 3) := by decide +kernel
theorem d_M_lookHangs_107 : decode (cd m_M_lookHangs) 107 = .ok (.iinc 1 1, 3) := by decide +kernel
theorem d_M_lookHangs_110 : decode (cd m_M_lookHangs) 110 = .ok (.goto (-80), 3) := by decide +kernel
theorem d_M_lookHangs_113 : decode (cd m_M_lookHangs) 113 = .ok (.iconst 0, 1) := by decide +kernel
theorem d_M_lookHangs_114 : decode (cd m_M_lookHangs) 114 = .ok (.istore_n 1, 1) := by decide +kernel
theorem d_M_lookHangs_115 : decode (cd m_M_lookHangs) 115 = .ok (.iload_n 1, 1) := by decide +kernel
theorem d_M_lookHangs_116 : decode (cd m_M_lookHangs) 116 = .ok (.bipush 16, 2) := by decide +kernel
theorem d_M_lookHangs_118 : decode (cd m_M_lookHangs) 118 = .ok (.if_icmp .ge 84, 3) := by decide +kernel
theorem d_M_lookHangs_121 : decode (cd m_M_lookHangs) 121 = .ok (.iconst 0, 1) := by decide +kernel
theorem d_M_lookHangs_122 : decode (cd m_M_lookHangs) 122 = .ok (.istore_n 2, 1) := by decide +kernel
theorem d_M_lookHangs_123 : decode (cd m_M_lookHangs) 123 = .ok (.iload_n 2, 1) := by decide +kernel
theorem d_M_lookHangs_124 : decode (cd m_M_lookHangs) 124 = .ok (.bipush 16, 2) := by decide +kernel
theorem d_M_lookHangs_126 : decode (cd m_M_lookHangs) 126 = .ok (.if_icmp .ge 70, 3) := by decide +kernel
theorem d_M_lookHangs_129 : decode (cd m_M_lookHangs) 129 = .ok (.iconst 0, 1) := by decide +kernel
theorem d_M_lookHangs_130 : decode (cd m_M_lookHangs) 130 = .ok (.istore_n 3, 1) := by decide +kernel
theorem d_M_lookHangs_131 : decode (cd m_M_lookHangs) 131 = .ok (.iload_n 3, 1) := by decide +kernel
theorem d_M_lookHangs_132 : decode (cd m_M_lookHangs) 132 = .ok (.bipush 16, 2) := by decide +kernel
theorem d_M_lookHangs_134 : decode (cd m_M_lookHangs) 134 = .ok (.if_icmp .ge 56, 3) := by decide +kernel
theorem d_M_lookHangs_137 : decode (cd m_M_lookHangs) 137 = .ok (.aload_n 0, 1) := by decide +kernel
theorem d_M_lookHangs_138 : decode (cd m_M_lookHangs) 138 = .ok (.getfield 108, 3) := by decide +kernel
theorem d_M_lookHangs_141 : decode (cd m_M_lookHangs) 141 = .ok (.bipush 16, 2) := by decide +kernel
theorem d_M_lookHangs_143 : decode (cd m_M_lookHangs) 143 = .ok (.iload_n 2, 1) := by decide +kernel
theorem d_M_lookHangs_144 : decode (cd m_M_lookHangs) 144 = .ok (.imul, 1) := by decide +kernel
theorem d_M_lookHangs_145 : decode (cd m_M_lookHangs) 145 = .ok (.iload_n 3, 1) := by decide +kernel
theorem d_M_lookHangs_146 : decode (cd m_M_lookHangs) 146 = .ok (.iadd, 1) := by decide +kernel
theorem d_M_lookHangs_147 : decode (cd m_M_lookHangs) 147 = .ok (.dup2, 1) := by decide +kernel
theorem d_M_lookHangs_148 : decode (cd m_M_lookHangs) 148 = .ok (.baload, 1) := by decide +kernel
theorem d_M_lookHangs_149 : decode (cd m_M_lookHangs) 149 = .ok (.aload_n 0, 1) := by decide +kernel
theorem d_M_lookHangs_150 : decode (cd m_M_lookHangs) 150 = .ok (.getfield 108, 3) := by decide +kernel
theorem d_M_lookHangs_153 : decode (cd m_M_lookHangs) 153 = .ok (.bipush 16, 2) := by decide +kernel
theorem d_M_lookHangs_155 : decode (cd m_M_lookHangs) 155 = .ok (.iload_n 2, 1) := by decide +kernel
theorem d_M_lookHangs_156 : decode (cd m_M_lookHangs) 156 = .ok (.imul, 1) := by decide +kernel
theorem d_M_lookHangs_157 : decode (cd m_M_lookHangs) 157 = .ok (.iload_n 1, 1) := by decide +kernel
theorem d_M_lookHangs_158 : decode (cd m_M_lookHangs) 158 = .ok (.iadd, 1) := by decide +kernel
theorem d_M_lookHangs_159 : decode (cd m_M_lookHangs) 159 = .ok (.baload, 1) := by decide +kernel
theorem d_M_lookHangs_160 : decode (cd m_M_lookHangs) 160 = .ok (.ifCond .eq 21, 3) := by decide +kernel
theorem d_M_lookHangs_163 : decode (cd m_M_lookHangs) 163 = .ok (.aload_n 0, 1) := by decide +kernel
theorem d_M_lookHangs_164 : decode (cd m_M_lookHangs) 164 = .ok (.getfield 108, 3) := by decide +kernel
theorem d_M_lookHangs_167 : decode (cd m_M_lookHangs) 167 = .ok (.bipush 16, 2) := by decide +kernel
theorem d_M_lookHangs_169 : decode (cd m_M_lookHangs) 169 = .ok (.iload_n 1, 1) := by decide +kernel
theorem d_M_lookHangs_170 : decode (cd m_M_lookHangs) 170 = .ok (.imul, 1) := by decide +kernel
theorem d_M_lookHangs_171 : decode (cd m_M_lookHangs) 171 = .ok (.iload_n 3, 1) := by decide +kernel
theorem d_M_lookHangs_172 : decode (cd m_M_lookHangs) 172 = .ok (.iadd, 1) := by decide +kernel
theorem d_M_lookHangs_173 : decode (cd m_M_lookHangs) 173 = .ok (.baload, 1) := by decide +kernel
theorem d_M_lookHangs_174 : decode (cd m_M_lookHangs) 174 = .ok (.ifCond .eq 7, 3) := by decide +kernel
theorem d_M_lookHangs_177 : decode (cd m_M_lookHangs) 177 = .ok (.iconst 1, 1) := by decide +kernel
theorem d_M_lookHangs_178 : decode (cd m_M_lookHangs) 178 = .ok (.goto 4, 3) := by decide +kernel
theorem d_M_lookHangs_181 : decode (cd m_M_lookHangs) 181 = .ok (.iconst 0, 1) := by decide +kernel
theorem d_M_lookHangs_182 : decode (cd m_M_lookHangs) 182 = .ok (.ior, 1) := by decide +kernel
theorem d_M_lookHangs_183 : decode (cd m_M_lookHangs) 183 = .ok (.bastore, 1) := by decide +kernel
theorem d_M_lookHangs_184 : decode (cd m_M_lookHangs) 184 = .ok (.iinc 3 1, 3) := by decide +kernel
theorem d_M_lookHangs_187 : decode (cd m_M_lookHangs) 187 = .ok (.goto (-56), 3) := by decide +kernel
theorem d_M_lookHangs_190 : decode (cd m_M_lookHangs) 190 = .ok (.iinc 2 1, 3) := by decide +kernel
theorem d_M_lookHangs_193 : decode (cd m_M_lookHangs) 193 = .ok (.goto (-70), 3) := by decide +kernel
theorem d_M_lookHangs_196 : decode (cd m_M_lookHangs) 196 = .ok (.iinc 1 1, 3) := by decide +kernel
theorem d_M_lookHangs_199 : decode (cd m_M_lookHangs) 199 = .ok (.goto (-84), 3) := by decide +kernel
theorem d_M_lookHangs_202 : decode (cd m_M_lookHangs) 202 = .ok (.return_, 1) := by decide +kernel
theorem d_M_isBack_0 : decode (cd m_M_isBack) 0 = .ok (.iload_n 1, 1) := by decide +kernel
theorem d_M_isBack_1 : decode (cd m_M_isBack) 1 = .ok (.iload_n 2, 1) := by decide +kernel
theorem d_M_isBack_2 : decode (cd m_M_isBack) 2 = .ok (.if_icmp .eq 17, 3) := by decide +kernel
theorem d_M_isBack_5 : decode (cd m_M_isBack) 5 = .ok (.aload_n 0, 1) := by decide +kernel
theorem d_M_isBack_6 : decode (cd m_M_isBack) 6 = .ok (.getfield 108, 3) := by decide +kernel
theorem d_M_isBack_9 : decode (cd m_M_isBack) 9 = .ok (.bipush 16, 2) := by decide +kernel
theorem d_M_isBack_11 : decode (cd m_M_isBack) 11 = .ok (.iload_n 2, 1) := by decide +kernel
theorem d_M_isBack_12 : decode (cd m_M_isBack) 12 = .ok (.imul, 1) := by decide +kernel
theorem d_M_isBack_13 : decode (cd m_M_isBack) 13 = .ok (.iload_n 1, 1) := by decide +kernel
theorem d_M_isBack_14 : decode (cd m_M_isBack) 14 = .ok (.iadd, 1) := by decide +kernel
theorem d_M_isBack_15 : decode (cd m_M_isBack) 15 = .ok (.baload, 1) := by decide +kernel
theorem d_M_isBack_16 : decode (cd m_M_isBack) 16 = .ok (.ifCond .eq 7, 3) := by decide +kernel
theorem d_M_isBack_19 : decode (cd m_M_isBack) 19 = .ok (.iconst 1, 1) := by decide +kernel
theorem d_M_isBack_20 : decode (cd m_M_isBack) 20 = .ok (.goto 4, 3) := by decide +kernel
theorem d_M_isBack_23 : decode (cd m_M_isBack) 23 = .ok (.iconst 0, 1) := by decide +kernel
theorem d_M_isBack_24 : decode (cd m_M_isBack) 24 = .ok (.ireturn, 1) := by decide +kernel
theorem d_M_lookAbsence_0 : decode (cd m_M_lookAbsence) 0 = .ok (.aload_n 0, 1) := by decide +kernel
theorem d_M_lookAbsence_1 : decode (cd m_M_lookAbsence) 1 = .ok (.invokevirtual 299, 3) := by decide +kernel
theorem d_M_lookAbsence_4 : decode (cd m_M_lookAbsence) 4 = .ok (.bipush 30, 2) := by decide +kernel
theorem d_M_lookAbsence_6 : decode (cd m_M_lookAbsence) 6 = .ok (.aload_n 0, 1) := by decide +kernel
theorem d_M_lookAbsence_7 : decode (cd m_M_lookAbsence) 7 = .ok (.getfield 211, 3) := by decide +kernel
theorem d_M_lookAbsence_10 : decode (cd m_M_lookAbsence) 10 = .ok (.imul, 1) := by decide +kernel
theorem d_M_lookAbsence_11 : decode (cd m_M_lookAbsence) 11 = .ok (.istore_n 1, 1) := by decide +kernel
theorem d_M_lookAbsence_12 : decode (cd m_M_lookAbsence) 12 = .ok (.iload_n 1, 1) := by decide +kernel
theorem d_M_lookAbsence_13 : decode (cd m_M_lookAbsence) 13 = .ok (.bipush 30, 2) := by decide +kernel
theorem d_M_lookAbsence_15 : decode (cd m_M_lookAbsence) 15 = .ok (.aload_n 0, 1) := by decide +kernel
theorem d_M_lookAbsence_16 : decode (cd m_M_lookAbsence) 16 = .ok (.getfield 211, 3) := by decide +kernel
theorem d_M_lookAbsence_19 : decode (cd m_M_lookAbsence) 19 = .ok (.imul, 1) := by decide +kernel
theorem d_M_lookAbsence_20 : decode (cd m_M_lookAbsence) 20 = .ok (.aload_n 0, 1) := by decide +kernel
theorem d_M_lookAbsence_21 : decode (cd m_M_lookAbsence) 21 = .ok (.getfield 38, 3) := by decide +kernel
theorem d_M_lookAbsence_24 : decode (cd m_M_lookAbsence) 24 = .ok (.aload_n 0, 1) := by decide +kernel
theorem d_M_lookAbsence_25 : decode (cd m_M_lookAbsence) 25 = .ok (.getfield 211, 3) := by decide +kernel
theorem d_M_lookAbsence_28 : decode (cd m_M_lookAbsence) 28 = .ok (.iaload, 1) := by decide +kernel
theorem d_M_lookAbsence_29 : decode (cd m_M_lookAbsence) 29 = .ok (.iadd, 1) := by decide +kernel
theorem d_M_lookAbsence_30 : decode (cd m_M_lookAbsence) 30 = .ok (.if_icmp .ge 155, 3) := by decide +kernel
theorem d_M_lookAbsence_33 : decode (cd m_M_lookAbsence) 33 = .ok (.aload_n 0, 1) := by decide +kernel
theorem d_M_lookAbsence_34 : decode (cd m_M_lookAbsence) 34 = .ok (.getfield 174, 3) := by decide +kernel
theorem d_M_lookAbsence_37 : decode (cd m_M_lookAbsence) 37 = .ok (.ifCond .ne 148, 3) := by decide +kernel
theorem d_M_lookAbsence_40 : decode (cd m_M_lookAbsence) 40 = .ok (.bipush 6, 2) := by decide +kernel
theorem d_M_lookAbsence_42 : decode (cd m_M_lookAbsence) 42 = .ok (.iload_n 1, 1) := by decide +kernel
theorem d_M_lookAbsence_43 : decode (cd m_M_lookAbsence) 43 = .ok (.imul, 1) := by decide +kernel
theorem d_M_lookAbsence_44 : decode (cd m_M_lookAbsence) 44 = .ok (.istore_n 2, 1) := by decide +kernel
theorem d_M_lookAbsence_45 : decode (cd m_M_lookAbsence) 45 = .ok (.iload_n 2, 1) := by decide +kernel
theorem d_M_lookAbsence_46 : decode (cd m_M_lookAbsence) 46 = .ok (.bipush 6, 2) := by decide +kernel
theorem d_M_lookAbsence_48 : decode (cd m_M_lookAbsence) 48 = .ok (.iload_n 1, 1) := by decide +kernel
theorem d_M_lookAbsence_49 : decode (cd m_M_lookAbsence) 49 = .ok (.imul, 1) := by decide +kernel
theorem d_M_lookAbsence_50 : decode (cd m_M_lookAbsence) 50 = .ok (.aload_n 0, 1) := by decide +kernel
theorem d_M_lookAbsence_51 : decode (cd m_M_lookAbsence) 51 = .ok (.getfield 56, 3) := by decide +kernel
theorem d_M_lookAbsence_54 : decode (cd m_M_lookAbsence) 54 = .ok (.iload_n 1, 1) := by decide +kernel
theorem d_M_lookAbsence_55 : decode (cd m_M_lookAbsence) 55 = .ok (.iaload, 1) := by decide +kernel
theorem d_M_lookAbsence_56 : decode (cd m_M_lookAbsence) 56 = .ok (.iadd, 1) := by decide +kernel
theorem d_M_lookAbsence_57 : decode (cd m_M_lookAbsence) 57 = .ok (.if_icmp .ge 56, 3) := by decide +kernel
theorem d_M_lookAbsence_60 : decode (cd m_M_lookAbsence) 60 = .ok (.aload_n 0, 1) := by decide +kernel
theorem d_M_lookAbsence_61 : decode (cd m_M_lookAbsence) 61 = .ok (.getfield 50, 3) := by decide +kernel
theorem d_M_lookAbsence_64 : decode (cd m_M_lookAbsence) 64 = .ok (.iload_n 1, 1) := by decide +kernel
theorem d_M_lookAbsence_65 : decode (cd m_M_lookAbsence) 65 = .ok (.iaload, 1) := by decide +kernel
theorem d_M_lookAbsence_66 : decode (cd m_M_lookAbsence) 66 = .ok (.ifCond .le 41, 3) := by decide +kernel
theorem d_M_lookAbsence_69 : decode (cd m_M_lookAbsence) 69 = .ok (.aload_n 0, 1) := by decide +kernel
theorem d_M_lookAbsence_70 : decode (cd m_M_lookAbsence) 70 = .ok (.iload_n 2, 1) := by decide +kernel
theorem d_M_lookAbsence_71 : decode (cd m_M_lookAbsence) 71 = .ok (.invokevirtual 296, 3) := by decide +kernel
theorem d_M_lookAbsence_74 : decode (cd m_M_lookAbsence) 74 = .ok (.ifCond .eq 33, 3) := by decide +kernel
theorem d_M_lookAbsence_77 : decode (cd m_M_lookAbsence) 77 = .ok (.aload_n 0, 1) := by decide +kernel
theorem d_M_lookAbsence_78 : decode (cd m_M_lookAbsence) 78 = .ok (.aload_n 0, 1) := by decide +kernel
theorem d_M_lookAbsence_79 : decode (cd m_M_lookAbsence) 79 = .ok (.getfield 41, 3) := by decide +kernel
theorem d_M_lookAbsence_82 : decode (cd m_M_lookAbsence) 82 = .ok (.iload_n 1, 1) := by decide +kernel
theorem d_M_lookAbsence_83 : decode (cd m_M_lookAbsence) 83 = .ok (.iaload, 1) := by decide +kernel
theorem d_M_lookAbsence_84 : decode (cd m_M_lookAbsence) 84 = .ok (.aload_n 0, 1) := by decide +kernel
theorem d_M_lookAbsence_85 : decode (cd m_M_lookAbsence) 85 = .ok (.getfield 65, 3) := by decide +kernel
theorem d_M_lookAbsence_88 : decode (cd m_M_lookAbsence) 88 = .ok (.iload_n 2, 1) := by decide +kernel
theorem d_M_lookAbsence_89 : decode (cd m_M_lookAbsence) 89 = .ok (.iaload, 1) := by decide +kernel
theorem d_M_lookAbsence_90 : decode (cd m_M_lookAbsence) 90 = .ok (.invokevirtual 302, 3) := by decide +kernel
theorem d_M_lookAbsence_93 : decode (cd m_M_lookAbsence) 93 = .ok (.ifCond .eq 14, 3) := by decide +kernel
theorem d_M_lookAbsence_96 : decode (cd m_M_lookAbsence) 96 = .ok (.aload_n 0, 1) := by decide +kernel
theorem d_M_lookAbsence_97 : decode (cd m_M_lookAbsence) 97 = .ok (.iconst 4, 1) := by decide +kernel
theorem d_M_lookAbsence_98 : decode (cd m_M_lookAbsence) 98 = .ok (.aload_n 0, 1) := by decide +kernel
theorem d_M_lookAbsence_99 : decode (cd m_M_lookAbsence) 99 = .ok (.getfield 105, 3) := by decide +kernel
theorem d_M_lookAbsence_102 : decode (cd m_M_lookAbsence) 102 = .ok (.iload_n 1, 1) := by decide +kernel
theorem d_M_lookAbsence_103 : decode (cd m_M_lookAbsence) 103 = .ok (.iaload, 1) := by decide +kernel
theorem d_M_lookAbsence_104 : decode (cd m_M_lookAbsence) 104 = .ok (.invokevirtual 214, 3) := by decide +kernel
theorem d_M_lookAbsence_107 : decode (cd m_M_lookAbsence) 107 = .ok (.iinc 2 1, 3) := by decide +kernel
theorem d_M_lookAbsence_110 : decode (cd m_M_lookAbsence) 110 = .ok (.goto (-65), 3) := by decide +kernel
theorem d_M_lookAbsence_113 : decode (cd m_M_lookAbsence) 113 = .ok (.bipush 6, 2) := by decide +kernel
theorem d_M_lookAbsence_115 : decode (cd m_M_lookAbsence) 115 = .ok (.iload_n 1, 1) := by decide +kernel
theorem d_M_lookAbsence_116 : decode (cd m_M_lookAbsence) 116 = .ok (.imul, 1) := by decide +kernel
theorem d_M_lookAbsence_117 : decode (cd m_M_lookAbsence) 117 = .ok (.istore_n 2, 1) := by decide +kernel
theorem d_M_lookAbsence_118 : decode (cd m_M_lookAbsence) 118 = .ok (.iload_n 2, 1) := by decide +kernel
theorem d_M_lookAbsence_119 : decode (cd m_M_lookAbsence) 119 = .ok (.bipush 6, 2) := by decide +kernel
theorem d_M_lookAbsence_121 : decode (cd m_M_lookAbsence) 121 = .ok (.iload_n 1, 1) := by decide +kernel
theorem d_M_lookAbsence_122 : decode (cd m_M_lookAbsence) 122 = .ok (.imul, 1) := by decide +kernel
theorem d_M_lookAbsence_123 : decode (cd m_M_lookAbsence) 123 = .ok (.aload_n 0, 1) := by decide +kernel
theorem d_M_lookAbsence_124 : decode (cd m_M_lookAbsence) 124 = .ok (.getfield 56, 3) := by decide +kernel
theorem d_M_lookAbsence_127 : decode (cd m_M_lookAbsence) 127 = .ok (.iload_n 1, 1) := by decide +kernel
theorem d_M_lookAbsence_128 : decode (cd m_M_lookAbsence) 128 = .ok (.iaload, 1) := by decide +kernel
theorem d_M_lookAbsence_129 : decode (cd m_M_lookAbsence) 129 = .ok (.iadd, 1) := by decide +kernel
theorem d_M_lookAbsence_130 : decode (cd m_M_lookAbsence) 130 = .ok (.if_icmp .ge 49, 3) := by decide +kernel
theorem d_M_lookAbsence_133 : decode (cd m_M_lookAbsence) 133 = .ok (.aload_n 0, 1) := by decide +kernel
theorem d_M_lookAbsence_134 : decode (cd m_M_lookAbsence) 134 = .ok (.getfield 62, 3) := by decide +kernel
theorem d_M_lookAbsence_137 : decode (cd m_M_lookAbsence) 137 = .ok (.iload_n 2, 1) := by decide +kernel
theorem d_M_lookAbsence_138 : decode (cd m_M_lookAbsence) 138 = .ok (.iaload, 1) := by decide +kernel
theorem d_M_lookAbsence_139 : decode (cd m_M_lookAbsence) 139 = .ok (.iconst 1, 1) := by decide +kernel
theorem d_M_lookAbsence_140 : decode (cd m_M_lookAbsence) 140 = .ok (.if_icmp .ne 33, 3) := by decide +kernel
theorem d_M_lookAbsence_143 : decode (cd m_M_lookAbsence) 143 = .ok (.aload_n 0, 1) := by decide +kernel
theorem d_M_lookAbsence_144 : decode (cd m_M_lookAbsence) 144 = .ok (.aload_n 0, 1) := by decide +kernel
theorem d_M_lookAbsence_145 : decode (cd m_M_lookAbsence) 145 = .ok (.getfield 41, 3) := by decide +kernel
theorem d_M_lookAbsence_148 : decode (cd m_M_lookAbsence) 148 = .ok (.iload_n 1, 1) := by decide +kernel
theorem d_M_lookAbsence_149 : decode (cd m_M_lookAbsence) 149 = .ok (.iaload, 1) := by decide +kernel
theorem d_M_lookAbsence_150 : decode (cd m_M_lookAbsence) 150 = .ok (.aload_n 0, 1) := by decide +kernel
theorem d_M_lookAbsence_151 : decode (cd m_M_lookAbsence) 151 = .ok (.getfield 65, 3) := by decide +kernel
theorem d_M_lookAbsence_154 : decode (cd m_M_lookAbsence) 154 = .ok (.iload_n 2, 1) := by decide +kernel
theorem d_M_lookAbsence_155 : decode (cd m_M_lookAbsence) 155 = .ok (.iaload, 1) := by decide +kernel
theorem d_M_lookAbsence_156 : decode (cd m_M_lookAbsence) 156 = .ok (.invokevirtual 302, 3) := by decide +kernel
theorem d_M_lookAbsence_159 : decode (cd m_M_lookAbsence) 159 = .ok (.ifCond .eq 14, 3) := by decide +kernel
theorem d_M_lookAbsence_162 : decode (cd m_M_lookAbsence) 162 = .ok (.aload_n 0, 1) := by decide +kernel
theorem d_M_lookAbsence_163 : decode (cd m_M_lookAbsence) 163 = .ok (.iconst 4, 1) := by decide +kernel
theorem d_M_lookAbsence_164 : decode (cd m_M_lookAbsence) 164 = .ok (.aload_n 0, 1) := by decide +kernel
theorem d_M_lookAbsence_165 : decode (cd m_M_lookAbsence) 165 = .ok (.getfield 99, 3) := by decide +kernel
theorem d_M_lookAbsence_168 : decode (cd m_M_lookAbsence) 168 = .ok (.iload_n 2, 1) := by decide +kernel
theorem d_M_lookAbsence_169 : decode (cd m_M_lookAbsence) 169 = .ok (.iaload, 1) := by decide +kernel
theorem d_M_lookAbsence_170 : decode (cd m_M_lookAbsence) 170 = .ok (.invokevirtual 214, 3) := by decide +kernel
theorem d_M_lookAbsence_173 : decode (cd m_M_lookAbsence) 173 = .ok (.iinc 2 1, 3) := by decide +kernel
theorem d_M_lookAbsence_176 : decode (cd m_M_lookAbsence) 176 = .ok (.goto (-58), 3) := by decide +kernel
theorem d_M_lookAbsence_179 : decode (cd m_M_lookAbsence) 179 = .ok (.iinc 1 1, 3) := by decide +kernel
theorem d_M_lookAbsence_182 : decode (cd m_M_lookAbsence) 182 = .ok (.goto (-170), 3) := by decide +kernel
theorem d_M_lookAbsence_185 : decode (cd m_M_lookAbsence) 185 = .ok (.return_, 1) := by decide +kernel
theorem d_M_lookStrata_0 : decode (cd m_M_lookStrata) 0 = .ok (.bipush 16, 2) := by decide +kernel
theorem d_M_lookStrata_2 : decode (cd m_M_lookStrata) 2 = .ok (.aload_n 0, 1) := by decide +kernel
theorem d_M_lookStrata_3 : decode (cd m_M_lookStrata) 3 = .ok (.getfield 211, 3) := by decide +kernel
theorem d_M_lookStrata_6 : decode (cd m_M_lookStrata) 6 = .ok (.imul, 1) := by decide +kernel
theorem d_M_lookStrata_7 : decode (cd m_M_lookStrata) 7 = .ok (.istore_n 1, 1) := by decide +kernel
theorem d_M_lookStrata_8 : decode (cd m_M_lookStrata) 8 = .ok (.iload_n 1, 1) := by decide +kernel
theorem d_M_lookStrata_9 : decode (cd m_M_lookStrata) 9 = .ok (.istore_n 2, 1) := by decide +kernel
theorem d_M_lookStrata_10 : decode (cd m_M_lookStrata) 10 = .ok (.iload_n 2, 1) := by decide +kernel
theorem d_M_lookStrata_11 : decode (cd m_M_lookStrata) 11 = .ok (.iload_n 1, 1) := by decide +kernel
theorem d_M_lookStrata_12 : decode (cd m_M_lookStrata) 12 = .ok (.bipush 16, 2) := by decide +kernel
theorem d_M_lookStrata_14 : decode (cd m_M_lookStrata) 14 = .ok (.iadd, 1) := by decide +kernel
theorem d_M_lookStrata_15 : decode (cd m_M_lookStrata) 15 = .ok (.if_icmp .ge 16, 3) := by decide +kernel
theorem d_M_lookStrata_18 : decode (cd m_M_lookStrata) 18 = .ok (.aload_n 0, 1) := by decide +kernel
theorem d_M_lookStrata_19 : decode (cd m_M_lookStrata) 19 = .ok (.getfield 35, 3) := by decide +kernel
theorem d_M_lookStrata_22 : decode (cd m_M_lookStrata) 22 = .ok (.iload_n 2, 1) := by decide +kernel
theorem d_M_lookStrata_23 : decode (cd m_M_lookStrata) 23 = .ok (.iconst 0, 1) := by decide +kernel
theorem d_M_lookStrata_24 : decode (cd m_M_lookStrata) 24 = .ok (.iastore, 1) := by decide +kernel
theorem d_M_lookStrata_25 : decode (cd m_M_lookStrata) 25 = .ok (.iinc 2 1, 3) := by decide +kernel
theorem d_M_lookStrata_28 : decode (cd m_M_lookStrata) 28 = .ok (.goto (-18), 3) := by decide +kernel
theorem d_M_lookStrata_31 : decode (cd m_M_lookStrata) 31 = .ok (.iconst 1, 1) := by decide +kernel
theorem d_M_lookStrata_32 : decode (cd m_M_lookStrata) 32 = .ok (.istore_n 2, 1) := by decide +kernel
theorem d_M_lookStrata_33 : decode (cd m_M_lookStrata) 33 = .ok (.iload_n 2, 1) := by decide +kernel
theorem d_M_lookStrata_34 : decode (cd m_M_lookStrata) 34 = .ok (.ifCond .eq 163, 3) := by decide +kernel
theorem d_M_lookStrata_37 : decode (cd m_M_lookStrata) 37 = .ok (.iconst 0, 1) := by decide +kernel
theorem d_M_lookStrata_38 : decode (cd m_M_lookStrata) 38 = .ok (.istore_n 2, 1) := by decide +kernel
theorem d_M_lookStrata_39 : decode (cd m_M_lookStrata) 39 = .ok (.bipush 30, 2) := by decide +kernel
theorem d_M_lookStrata_41 : decode (cd m_M_lookStrata) 41 = .ok (.aload_n 0, 1) := by decide +kernel
theorem d_M_lookStrata_42 : decode (cd m_M_lookStrata) 42 = .ok (.getfield 211, 3) := by decide +kernel
theorem d_M_lookStrata_45 : decode (cd m_M_lookStrata) 45 = .ok (.imul, 1) := by decide +kernel
theorem d_M_lookStrata_46 : decode (cd m_M_lookStrata) 46 = .ok (.istore_n 3, 1) := by decide +kernel
theorem d_M_lookStrata_47 : decode (cd m_M_lookStrata) 47 = .ok (.iload_n 3, 1) := by decide +kernel
theorem d_M_lookStrata_48 : decode (cd m_M_lookStrata) 48 = .ok (.bipush 30, 2) := by decide +kernel
theorem d_M_lookStrata_50 : decode (cd m_M_lookStrata) 50 = .ok (.aload_n 0, 1) := by decide +kernel
theorem d_M_lookStrata_51 : decode (cd m_M_lookStrata) 51 = .ok (.getfield 211, 3) := by decide +kernel
theorem d_M_lookStrata_54 : decode (cd m_M_lookStrata) 54 = .ok (.imul, 1) := by decide +kernel
theorem d_M_lookStrata_55 : decode (cd m_M_lookStrata) 55 = .ok (.aload_n 0, 1) := by decide +kernel
theorem d_M_lookStrata_56 : decode (cd m_M_lookStrata) 56 = .ok (.getfield 38, 3) := by decide +kernel
theorem d_M_lookStrata_59 : decode (cd m_M_lookStrata) 59 = .ok (.aload_n 0, 1) := by decide +kernel
theorem d_M_lookStrata_60 : decode (cd m_M_lookStrata) 60 = .ok (.getfield 211, 3) := by decide +kernel
theorem d_M_lookStrata_63 : decode (cd m_M_lookStrata) 63 = .ok (.iaload, 1) := by decide +kernel
theorem d_M_lookStrata_64 : decode (cd m_M_lookStrata) 64 = .ok (.iadd, 1) := by decide +kernel
theorem d_M_lookStrata_65 : decode (cd m_M_lookStrata) 65 = .ok (.if_icmp .ge 129, 3) := by decide +kernel
theorem d_M_lookStrata_68 : decode (cd m_M_lookStrata) 68 = .ok (.bipush 6, 2) := by decide +kernel
theorem d_M_lookStrata_70 : decode (cd m_M_lookStrata) 70 = .ok (.iload_n 3, 1) := by decide +kernel
theorem d_M_lookStrata_71 : decode (cd m_M_lookStrata) 71 = .ok (.imul, 1) := by decide +kernel
theorem d_M_lookStrata_72 : decode (cd m_M_lookStrata) 72 = .ok (.istore 4, 2) := by decide +kernel
theorem d_M_lookStrata_74 : decode (cd m_M_lookStrata) 74 = .ok (.iload 4, 2) := by decide +kernel
theorem d_M_lookStrata_76 : decode (cd m_M_lookStrata) 76 = .ok (.bipush 6, 2) := by decide +kernel
theorem d_M_lookStrata_78 : decode (cd m_M_lookStrata) 78 = .ok (.iload_n 3, 1) := by decide +kernel
theorem d_M_lookStrata_79 : decode (cd m_M_lookStrata) 79 = .ok (.imul, 1) := by decide +kernel
theorem d_M_lookStrata_80 : decode (cd m_M_lookStrata) 80 = .ok (.aload_n 0, 1) := by decide +kernel
theorem d_M_lookStrata_81 : decode (cd m_M_lookStrata) 81 = .ok (.getfield 56, 3) := by decide +kernel
theorem d_M_lookStrata_84 : decode (cd m_M_lookStrata) 84 = .ok (.iload_n 3, 1) := by decide +kernel
theorem d_M_lookStrata_85 : decode (cd m_M_lookStrata) 85 = .ok (.iaload, 1) := by decide +kernel
theorem d_M_lookStrata_86 : decode (cd m_M_lookStrata) 86 = .ok (.iadd, 1) := by decide +kernel
theorem d_M_lookStrata_87 : decode (cd m_M_lookStrata) 87 = .ok (.if_icmp .ge 101, 3) := by decide +kernel
theorem d_M_lookStrata_90 : decode (cd m_M_lookStrata) 90 = .ok (.aload_n 0, 1) := by decide +kernel
theorem d_M_lookStrata_91 : decode (cd m_M_lookStrata) 91 = .ok (.iload 4, 2) := by decide +kernel
theorem d_M_lookStrata_93 : decode (cd m_M_lookStrata) 93 = .ok (.invokevirtual 296, 3) := by decide +kernel
theorem d_M_lookStrata_96 : decode (cd m_M_lookStrata) 96 = .ok (.ifCond .ne 6, 3) := by decide +kernel
theorem d_M_lookStrata_99 : decode (cd m_M_lookStrata) 99 = .ok (.goto 83, 3) := by decide +kernel
theorem d_M_lookStrata_102 : decode (cd m_M_lookStrata) 102 = .ok (.aload_n 0, 1) := by decide +kernel
theorem d_M_lookStrata_103 : decode (cd m_M_lookStrata) 103 = .ok (.getfield 35, 3) := by decide +kernel
theorem d_M_lookStrata_106 : decode (cd m_M_lookStrata) 106 = .ok (.iload_n 1, 1) := by decide +kernel
theorem d_M_lookStrata_107 : decode (cd m_M_lookStrata) 107 = .ok (.aload_n 0, 1) := by decide +kernel
theorem d_M_lookStrata_108 : decode (cd m_M_lookStrata) 108 = .ok (.getfield 65, 3) := by decide +kernel
theorem d_M_lookStrata_111 : decode (cd m_M_lookStrata) 111 = .ok (.iload 4, 2) := by decide +kernel
theorem d_M_lookStrata_113 : decode (cd m_M_lookStrata) 113 = .ok (.iaload, 1) := by decide +kernel
theorem d_M_lookStrata_114 : decode (cd m_M_lookStrata) 114 = .ok (.iadd, 1) := by decide +kernel
theorem d_M_lookStrata_115 : decode (cd m_M_lookStrata) 115 = .ok (.iaload, 1) := by decide +kernel
theorem d_M_lookStrata_116 : decode (cd m_M_lookStrata) 116 = .ok (.aload_n 0, 1) := by decide +kernel
theorem d_M_lookStrata_117 : decode (cd m_M_lookStrata) 117 = .ok (.getfield 62, 3) := by decide +kernel
theorem d_M_lookStrata_120 : decode (cd m_M_lookStrata) 120 = .ok (.iload 4, 2) := by decide +kernel
theorem d_M_lookStrata_122 : decode (cd m_M_lookStrata) 122 = .ok (.iaload, 1) := by decide +kernel
theorem d_M_lookStrata_123 : decode (cd m_M_lookStrata) 123 = .ok (.iconst 1, 1) := by decide +kernel
theorem d_M_lookStrata_124 : decode (cd m_M_lookStrata) 124 = .ok (.if_icmp .eq 12, 3) := by decide +kernel
theorem d_M_lookStrata_127 : decode (cd m_M_lookStrata) 127 = .ok (.aload_n 0, 1) := by decide +kernel
theorem d_M_lookStrata_128 : decode (cd m_M_lookStrata) 128 = .ok (.getfield 50, 3) := by decide +kernel
theorem d_M_lookStrata_131 : decode (cd m_M_lookStrata) 131 = .ok (.iload_n 3, 1) := by decide +kernel
theorem d_M_lookStrata_132 : decode (cd m_M_lookStrata) 132 = .ok (.iaload, 1) := by decide +kernel
theorem d_M_lookStrata_133 : decode (cd m_M_lookStrata) 133 = .ok (.ifCond .le 7, 3) := by decide +kernel
theorem d_M_lookStrata_136 : decode (cd m_M_lookStrata) 136 = .ok (.iconst 1, 1) := by decide +kernel
theorem d_M_lookStrata_137 : decode (cd m_M_lookStrata) 137 = .ok (.goto 4, 3) := by decide +kernel
theorem d_M_lookStrata_140 : decode (cd m_M_lookStrata) 140 = .ok (.iconst 0, 1) := by decide +kernel
theorem d_M_lookStrata_141 : decode (cd m_M_lookStrata) 141 = .ok (.iadd, 1) := by decide +kernel
theorem d_M_lookStrata_142 : decode (cd m_M_lookStrata) 142 = .ok (.istore 5, 2) := by decide +kernel
theorem d_M_lookStrata_144 : decode (cd m_M_lookStrata) 144 = .ok (.aload_n 0, 1) := by decide +kernel
theorem d_M_lookStrata_145 : decode (cd m_M_lookStrata) 145 = .ok (.getfield 35, 3) := by decide +kernel
theorem d_M_lookStrata_148 : decode (cd m_M_lookStrata) 148 = .ok (.iload_n 1, 1) := by decide +kernel
theorem d_M_lookStrata_149 : decode (cd m_M_lookStrata) 149 = .ok (.aload_n 0, 1) := by decide +kernel
theorem d_M_lookStrata_150 : decode (cd m_M_lookStrata) 150 = .ok (.getfield 41, 3) := by decide +kernel
theorem d_M_lookStrata_153 : decode (cd m_M_lookStrata) 153 = .ok (.iload_n 3, 1) := by decide +kernel
theorem d_M_lookStrata_154 : decode (cd m_M_lookStrata) 154 = .ok (.iaload, 1) := by decide +kernel
theorem d_M_lookStrata_155 : decode (cd m_M_lookStrata) 155 = .ok (.iadd, 1) := by decide +kernel
theorem d_M_lookStrata_156 : decode (cd m_M_lookStrata) 156 = .ok (.iaload, 1) := by decide +kernel
theorem d_M_lookStrata_157 : decode (cd m_M_lookStrata) 157 = .ok (.iload 5, 2) := by decide +kernel
theorem d_M_lookStrata_159 : decode (cd m_M_lookStrata) 159 = .ok (.if_icmp .lt 6, 3) := by decide +kernel
theorem d_M_lookStrata_162 : decode (cd m_M_lookStrata) 162 = .ok (.goto 20, 3) := by decide +kernel
theorem d_M_lookStrata_165 : decode (cd m_M_lookStrata) 165 = .ok (.aload_n 0, 1) := by decide +kernel
theorem d_M_lookStrata_166 : decode (cd m_M_lookStrata) 166 = .ok (.getfield 35, 3) := by decide +kernel
theorem d_M_lookStrata_169 : decode (cd m_M_lookStrata) 169 = .ok (.iload_n 1, 1) := by decide +kernel
theorem d_M_lookStrata_170 : decode (cd m_M_lookStrata) 170 = .ok (.aload_n 0, 1) := by decide +kernel
theorem d_M_lookStrata_171 : decode (cd m_M_lookStrata) 171 = .ok (.getfield 41, 3) := by decide +kernel
theorem d_M_lookStrata_174 : decode (cd m_M_lookStrata) 174 = .ok (.iload_n 3, 1) := by decide +kernel
theorem d_M_lookStrata_175 : decode (cd m_M_lookStrata) 175 = .ok (.iaload, 1) := by decide +kernel
theorem d_M_lookStrata_176 : decode (cd m_M_lookStrata) 176 = .ok (.iadd, 1) := by decide +kernel
theorem d_M_lookStrata_177 : decode (cd m_M_lookStrata) 177 = .ok (.iload 5, 2) := by decide +kernel
theorem d_M_lookStrata_179 : decode (cd m_M_lookStrata) 179 = .ok (.iastore, 1) := by decide +kernel
theorem d_M_lookStrata_180 : decode (cd m_M_lookStrata) 180 = .ok (.iconst 1, 1) := by decide +kernel
theorem d_M_lookStrata_181 : decode (cd m_M_lookStrata) 181 = .ok (.istore_n 2, 1) := by decide +kernel
theorem d_M_lookStrata_182 : decode (cd m_M_lookStrata) 182 = .ok (.iinc 4 1, 3) := by decide +kernel
theorem d_M_lookStrata_185 : decode (cd m_M_lookStrata) 185 = .ok (.goto (-111), 3) := by decide +kernel
theorem d_M_lookStrata_188 : decode (cd m_M_lookStrata) 188 = .ok (.iinc 3 1, 3) := by decide +kernel
theorem d_M_lookStrata_191 : decode (cd m_M_lookStrata) 191 = .ok (.goto (-144), 3) := by decide +kernel
theorem d_M_lookStrata_194 : decode (cd m_M_lookStrata) 194 = .ok (.goto (-161), 3) := by decide +kernel
theorem d_M_lookStrata_197 : decode (cd m_M_lookStrata) 197 = .ok (.return_, 1) := by decide +kernel
theorem d_M_program_0 : decode (cd m_M_program) 0 = .ok (.aload_n 0, 1) := by decide +kernel
theorem d_M_program_1 : decode (cd m_M_program) 1 = .ok (.iconst 0, 1) := by decide +kernel
theorem d_M_program_2 : decode (cd m_M_program) 2 = .ok (.putfield 174, 3) := by decide +kernel
theorem d_M_program_5 : decode (cd m_M_program) 5 = .ok (.aload_n 0, 1) := by decide +kernel
theorem d_M_program_6 : decode (cd m_M_program) 6 = .ok (.iconst 0, 1) := by decide +kernel
theorem d_M_program_7 : decode (cd m_M_program) 7 = .ok (.putfield 177, 3) := by decide +kernel
theorem d_M_program_10 : decode (cd m_M_program) 10 = .ok (.aload_n 0, 1) := by decide +kernel
theorem d_M_program_11 : decode (cd m_M_program) 11 = .ok (.invokevirtual 305, 3) := by decide +kernel
theorem d_M_program_14 : decode (cd m_M_program) 14 = .ok (.aload_n 0, 1) := by decide +kernel
theorem d_M_program_15 : decode (cd m_M_program) 15 = .ok (.iconst 0, 1) := by decide +kernel
theorem d_M_program_16 : decode (cd m_M_program) 16 = .ok (.putfield 130, 3) := by decide +kernel
theorem d_M_program_19 : decode (cd m_M_program) 19 = .ok (.aload_n 0, 1) := by decide +kernel
theorem d_M_program_20 : decode (cd m_M_program) 20 = .ok (.iconst 0, 1) := by decide +kernel
theorem d_M_program_21 : decode (cd m_M_program) 21 = .ok (.putfield 180, 3) := by decide +kernel
theorem d_M_program_24 : decode (cd m_M_program) 24 = .ok (.aload_n 0, 1) := by decide +kernel
theorem d_M_program_25 : decode (cd m_M_program) 25 = .ok (.iconst 1, 1) := by decide +kernel
theorem d_M_program_26 : decode (cd m_M_program) 26 = .ok (.aload_n 0, 1) := by decide +kernel
theorem d_M_program_27 : decode (cd m_M_program) 27 = .ok (.getfield 308, 3) := by decide +kernel
theorem d_M_program_30 : decode (cd m_M_program) 30 = .ok (.isub, 1) := by decide +kernel
theorem d_M_program_31 : decode (cd m_M_program) 31 = .ok (.putfield 211, 3) := by decide +kernel
theorem d_M_program_34 : decode (cd m_M_program) 34 = .ok (.aload_n 0, 1) := by decide +kernel
theorem d_M_program_35 : decode (cd m_M_program) 35 = .ok (.getfield 26, 3) := by decide +kernel
theorem d_M_program_38 : decode (cd m_M_program) 38 = .ok (.aload_n 0, 1) := by decide +kernel
theorem d_M_program_39 : decode (cd m_M_program) 39 = .ok (.getfield 211, 3) := by decide +kernel
theorem d_M_program_42 : decode (cd m_M_program) 42 = .ok (.iconst 0, 1) := by decide +kernel
theorem d_M_program_43 : decode (cd m_M_program) 43 = .ok (.iastore, 1) := by decide +kernel
theorem d_M_program_44 : decode (cd m_M_program) 44 = .ok (.aload_n 0, 1) := by decide +kernel
theorem d_M_program_45 : decode (cd m_M_program) 45 = .ok (.getfield 38, 3) := by decide +kernel
theorem d_M_program_48 : decode (cd m_M_program) 48 = .ok (.aload_n 0, 1) := by decide +kernel
theorem d_M_program_49 : decode (cd m_M_program) 49 = .ok (.getfield 211, 3) := by decide +kernel
theorem d_M_program_52 : decode (cd m_M_program) 52 = .ok (.iconst 0, 1) := by decide +kernel
theorem d_M_program_53 : decode (cd m_M_program) 53 = .ok (.iastore, 1) := by decide +kernel
theorem d_M_program_54 : decode (cd m_M_program) 54 = .ok (.aload_n 0, 1) := by decide +kernel
theorem d_M_program_55 : decode (cd m_M_program) 55 = .ok (.getfield 74, 3) := by decide +kernel
theorem d_M_program_58 : decode (cd m_M_program) 58 = .ok (.aload_n 0, 1) := by decide +kernel
theorem d_M_program_59 : decode (cd m_M_program) 59 = .ok (.getfield 211, 3) := by decide +kernel
theorem d_M_program_62 : decode (cd m_M_program) 62 = .ok (.iconst 0, 1) := by decide +kernel
theorem d_M_program_63 : decode (cd m_M_program) 63 = .ok (.iastore, 1) := by decide +kernel
theorem d_M_program_64 : decode (cd m_M_program) 64 = .ok (.iconst 1, 1) := by decide +kernel
theorem d_M_program_65 : decode (cd m_M_program) 65 = .ok (.istore_n 1, 1) := by decide +kernel
theorem d_M_program_66 : decode (cd m_M_program) 66 = .ok (.iload_n 1, 1) := by decide +kernel
theorem d_M_program_67 : decode (cd m_M_program) 67 = .ok (.ifCond .eq 23, 3) := by decide +kernel
theorem d_M_program_70 : decode (cd m_M_program) 70 = .ok (.aload_n 0, 1) := by decide +kernel
theorem d_M_program_71 : decode (cd m_M_program) 71 = .ok (.getfield 13, 3) := by decide +kernel
theorem d_M_program_74 : decode (cd m_M_program) 74 = .ok (.aload_n 0, 1) := by decide +kernel
theorem d_M_program_75 : decode (cd m_M_program) 75 = .ok (.getfield 180, 3) := by decide +kernel
theorem d_M_program_78 : decode (cd m_M_program) 78 = .ok (.iaload, 1) := by decide +kernel
theorem d_M_program_79 : decode (cd m_M_program) 79 = .ok (.ifCond .eq 11, 3) := by decide +kernel
theorem d_M_program_82 : decode (cd m_M_program) 82 = .ok (.aload_n 0, 1) := by decide +kernel
theorem d_M_program_83 : decode (cd m_M_program) 83 = .ok (.invokevirtual 311, 3) := by decide +kernel
theorem d_M_program_86 : decode (cd m_M_program) 86 = .ok (.istore_n 1, 1) := by decide +kernel
theorem d_M_program_87 : decode (cd m_M_program) 87 = .ok (.goto (-21), 3) := by decide +kernel
theorem d_M_program_90 : decode (cd m_M_program) 90 = .ok (.aload_n 0, 1) := by decide +kernel
theorem d_M_program_91 : decode (cd m_M_program) 91 = .ok (.getfield 174, 3) := by decide +kernel
theorem d_M_program_94 : decode (cd m_M_program) 94 = .ok (.ifCond .ne 7, 3) := by decide +kernel
theorem d_M_program_97 : decode (cd m_M_program) 97 = .ok (.aload_n 0, 1) := by decide +kernel
theorem d_M_program_98 : decode (cd m_M_program) 98 = .ok (.invokevirtual 314, 3) := by decide +kernel
theorem d_M_program_101 : decode (cd m_M_program) 101 = .ok (.aload_n 0, 1) := by decide +kernel
theorem d_M_program_102 : decode (cd m_M_program) 102 = .ok (.getfield 174, 3) := by decide +kernel
theorem d_M_program_105 : decode (cd m_M_program) 105 = .ok (.ifCond .eq 21, 3) := by decide +kernel
theorem d_M_program_108 : decode (cd m_M_program) 108 = .ok (.aload_n 0, 1) := by decide +kernel
theorem d_M_program_109 : decode (cd m_M_program) 109 = .ok (.aload_n 0, 1) := by decide +kernel
theorem d_M_program_110 : decode (cd m_M_program) 110 = .ok (.getfield 308, 3) := by decide +kernel
theorem d_M_program_113 : decode (cd m_M_program) 113 = .ok (.putfield 211, 3) := by decide +kernel
theorem d_M_program_116 : decode (cd m_M_program) 116 = .ok (.aload_n 0, 1) := by decide +kernel
theorem d_M_program_117 : decode (cd m_M_program) 117 = .ok (.invokevirtual 299, 3) := by decide +kernel
theorem d_M_program_120 : decode (cd m_M_program) 120 = .ok (.aload_n 0, 1) := by decide +kernel
theorem d_M_program_121 : decode (cd m_M_program) 121 = .ok (.iconst 1, 1) := by decide +kernel
theorem d_M_program_122 : decode (cd m_M_program) 122 = .ok (.invokevirtual 317, 3) := by decide +kernel
theorem d_M_program_125 : decode (cd m_M_program) 125 = .ok (.ireturn, 1) := by decide +kernel
theorem d_M_program_126 : decode (cd m_M_program) 126 = .ok (.aload_n 0, 1) := by decide +kernel
theorem d_M_program_127 : decode (cd m_M_program) 127 = .ok (.invokevirtual 320, 3) := by decide +kernel
theorem d_M_program_130 : decode (cd m_M_program) 130 = .ok (.aload_n 0, 1) := by decide +kernel
theorem d_M_program_131 : decode (cd m_M_program) 131 = .ok (.iconst 0, 1) := by decide +kernel
theorem d_M_program_132 : decode (cd m_M_program) 132 = .ok (.putfield 126, 3) := by decide +kernel
theorem d_M_program_135 : decode (cd m_M_program) 135 = .ok (.aload_n 0, 1) := by decide +kernel
theorem d_M_program_136 : decode (cd m_M_program) 136 = .ok (.aload_n 0, 1) := by decide +kernel
theorem d_M_program_137 : decode (cd m_M_program) 137 = .ok (.getfield 211, 3) := by decide +kernel
theorem d_M_program_140 : decode (cd m_M_program) 140 = .ok (.putfield 308, 3) := by decide +kernel
theorem d_M_program_143 : decode (cd m_M_program) 143 = .ok (.aload_n 0, 1) := by decide +kernel
theorem d_M_program_144 : decode (cd m_M_program) 144 = .ok (.getfield 38, 3) := by decide +kernel
theorem d_M_program_147 : decode (cd m_M_program) 147 = .ok (.aload_n 0, 1) := by decide +kernel
theorem d_M_program_148 : decode (cd m_M_program) 148 = .ok (.getfield 308, 3) := by decide +kernel
theorem d_M_program_151 : decode (cd m_M_program) 151 = .ok (.iaload, 1) := by decide +kernel
theorem d_M_program_152 : decode (cd m_M_program) 152 = .ok (.ireturn, 1) := by decide +kernel
theorem d_M_fault_0 : decode (cd m_M_fault) 0 = .ok (.aload_n 0, 1) := by decide +kernel
theorem d_M_fault_1 : decode (cd m_M_fault) 1 = .ok (.iconst 0, 1) := by decide +kernel
theorem d_M_fault_2 : decode (cd m_M_fault) 2 = .ok (.putfield 126, 3) := by decide +kernel
theorem d_M_fault_5 : decode (cd m_M_fault) 5 = .ok (.iload_n 1, 1) := by decide +kernel
theorem d_M_fault_6 : decode (cd m_M_fault) 6 = .ok (.ifCond .ne 10, 3) := by decide +kernel
theorem d_M_fault_9 : decode (cd m_M_fault) 9 = .ok (.aload_n 0, 1) := by decide +kernel
theorem d_M_fault_10 : decode (cd m_M_fault) 10 = .ok (.getfield 174, 3) := by decide +kernel
theorem d_M_fault_13 : decode (cd m_M_fault) 13 = .ok (.goto 16, 3) := by decide +kernel
theorem d_M_fault_16 : decode (cd m_M_fault) 16 = .ok (.iload_n 1, 1) := by decide +kernel
theorem d_M_fault_17 : decode (cd m_M_fault) 17 = .ok (.iconst 1, 1) := by decide +kernel
theorem d_M_fault_18 : decode (cd m_M_fault) 18 = .ok (.if_icmp .ne 10, 3) := by decide +kernel
theorem d_M_fault_21 : decode (cd m_M_fault) 21 = .ok (.aload_n 0, 1) := by decide +kernel
theorem d_M_fault_22 : decode (cd m_M_fault) 22 = .ok (.getfield 177, 3) := by decide +kernel
theorem d_M_fault_25 : decode (cd m_M_fault) 25 = .ok (.goto 4, 3) := by decide +kernel
theorem d_M_fault_28 : decode (cd m_M_fault) 28 = .ok (.iconst (-1), 1) := by decide +kernel
theorem d_M_fault_29 : decode (cd m_M_fault) 29 = .ok (.ireturn, 1) := by decide +kernel
theorem d_M_isKnownTerm_0 : decode (cd m_M_isKnownTerm) 0 = .ok (.aload_n 0, 1) := by decide +kernel
theorem d_M_isKnownTerm_1 : decode (cd m_M_isKnownTerm) 1 = .ok (.getfield 68, 3) := by decide +kernel
theorem d_M_isKnownTerm_4 : decode (cd m_M_isKnownTerm) 4 = .ok (.iconst 4, 1) := by decide +kernel
theorem d_M_isKnownTerm_5 : decode (cd m_M_isKnownTerm) 5 = .ok (.iload_n 1, 1) := by decide +kernel
theorem d_M_isKnownTerm_6 : decode (cd m_M_isKnownTerm) 6 = .ok (.imul, 1) := by decide +kernel
theorem d_M_isKnownTerm_7 : decode (cd m_M_isKnownTerm) 7 = .ok (.iload_n 2, 1) := by decide +kernel
theorem d_M_isKnownTerm_8 : decode (cd m_M_isKnownTerm) 8 = .ok (.iadd, 1) := by decide +kernel
theorem d_M_isKnownTerm_9 : decode (cd m_M_isKnownTerm) 9 = .ok (.iaload, 1) := by decide +kernel
theorem d_M_isKnownTerm_10 : decode (cd m_M_isKnownTerm) 10 = .ok (.ifCond .eq 36, 3) := by decide +kernel
theorem d_M_isKnownTerm_13 : decode (cd m_M_isKnownTerm) 13 = .ok (.aload_n 0, 1) := by decide +kernel
theorem d_M_isKnownTerm_14 : decode (cd m_M_isKnownTerm) 14 = .ok (.getfield 68, 3) := by decide +kernel
theorem d_M_isKnownTerm_17 : decode (cd m_M_isKnownTerm) 17 = .ok (.iconst 4, 1) := by decide +kernel
theorem d_M_isKnownTerm_18 : decode (cd m_M_isKnownTerm) 18 = .ok (.iload_n 1, 1) := by decide +kernel
theorem d_M_isKnownTerm_19 : decode (cd m_M_isKnownTerm) 19 = .ok (.imul, 1) := by decide +kernel
theorem d_M_isKnownTerm_20 : decode (cd m_M_isKnownTerm) 20 = .ok (.iload_n 2, 1) := by decide +kernel
theorem d_M_isKnownTerm_21 : decode (cd m_M_isKnownTerm) 21 = .ok (.iadd, 1) := by decide +kernel
theorem d_M_isKnownTerm_22 : decode (cd m_M_isKnownTerm) 22 = .ok (.iaload, 1) := by decide +kernel
theorem d_M_isKnownTerm_23 : decode (cd m_M_isKnownTerm) 23 = .ok (.iconst 1, 1) := by decide +kernel
theorem d_M_isKnownTerm_24 : decode (cd m_M_isKnownTerm) 24 = .ok (.if_icmp .ne 26, 3) := by decide +kernel
theorem d_M_isKnownTerm_27 : decode (cd m_M_isKnownTerm) 27 = .ok (.aload_n 0, 1) := by decide +kernel
theorem d_M_isKnownTerm_28 : decode (cd m_M_isKnownTerm) 28 = .ok (.getfield 120, 3) := by decide +kernel
theorem d_M_isKnownTerm_31 : decode (cd m_M_isKnownTerm) 31 = .ok (.aload_n 0, 1) := by decide +kernel
theorem d_M_isKnownTerm_32 : decode (cd m_M_isKnownTerm) 32 = .ok (.getfield 71, 3) := by decide +kernel
theorem d_M_isKnownTerm_35 : decode (cd m_M_isKnownTerm) 35 = .ok (.iconst 4, 1) := by decide +kernel
theorem d_M_isKnownTerm_36 : decode (cd m_M_isKnownTerm) 36 = .ok (.iload_n 1, 1) := by decide +kernel
theorem d_M_isKnownTerm_37 : decode (cd m_M_isKnownTerm) 37 = .ok (.imul, 1) := by decide +kernel
theorem d_M_isKnownTerm_38 : decode (cd m_M_isKnownTerm) 38 = .ok (.iload_n 2, 1) := by decide +kernel
theorem d_M_isKnownTerm_39 : decode (cd m_M_isKnownTerm) 39 = .ok (.iadd, 1) := by decide +kernel
theorem d_M_isKnownTerm_40 : decode (cd m_M_isKnownTerm) 40 = .ok (.laload, 1) := by decide +kernel
theorem d_M_isKnownTerm_41 : decode (cd m_M_isKnownTerm) 41 = .ok (.l2i, 1) := by decide +kernel
theorem d_M_isKnownTerm_42 : decode (cd m_M_isKnownTerm) 42 = .ok (.baload, 1) := by decide +kernel
theorem d_M_isKnownTerm_43 : decode (cd m_M_isKnownTerm) 43 = .ok (.ifCond .eq 7, 3) := by decide +kernel
theorem d_M_isKnownTerm_46 : decode (cd m_M_isKnownTerm) 46 = .ok (.iconst 1, 1) := by decide +kernel
theorem d_M_isKnownTerm_47 : decode (cd m_M_isKnownTerm) 47 = .ok (.goto 4, 3) := by decide +kernel
theorem d_M_isKnownTerm_50 : decode (cd m_M_isKnownTerm) 50 = .ok (.iconst 0, 1) := by decide +kernel
theorem d_M_isKnownTerm_51 : decode (cd m_M_isKnownTerm) 51 = .ok (.ireturn, 1) := by decide +kernel
theorem d_M_knownIn_0 : decode (cd m_M_knownIn) 0 = .ok (.iconst 0, 1) := by decide +kernel
theorem d_M_knownIn_1 : decode (cd m_M_knownIn) 1 = .ok (.istore_n 2, 1) := by decide +kernel
theorem d_M_knownIn_2 : decode (cd m_M_knownIn) 2 = .ok (.iconst 0, 1) := by decide +kernel
theorem d_M_knownIn_3 : decode (cd m_M_knownIn) 3 = .ok (.istore_n 3, 1) := by decide +kernel
theorem d_M_knownIn_4 : decode (cd m_M_knownIn) 4 = .ok (.iload_n 3, 1) := by decide +kernel
theorem d_M_knownIn_5 : decode (cd m_M_knownIn) 5 = .ok (.aload_n 0, 1) := by decide +kernel
theorem d_M_knownIn_6 : decode (cd m_M_knownIn) 6 = .ok (.getfield 102, 3) := by decide +kernel
theorem d_M_knownIn_9 : decode (cd m_M_knownIn) 9 = .ok (.iload_n 1, 1) := by decide +kernel
theorem d_M_knownIn_10 : decode (cd m_M_knownIn) 10 = .ok (.iaload, 1) := by decide +kernel
theorem d_M_knownIn_11 : decode (cd m_M_knownIn) 11 = .ok (.if_icmp .ge 28, 3) := by decide +kernel
theorem d_M_knownIn_14 : decode (cd m_M_knownIn) 14 = .ok (.iload_n 2, 1) := by decide +kernel
theorem d_M_knownIn_15 : decode (cd m_M_knownIn) 15 = .ok (.aload_n 0, 1) := by decide +kernel
theorem d_M_knownIn_16 : decode (cd m_M_knownIn) 16 = .ok (.iload_n 1, 1) := by decide +kernel
theorem d_M_knownIn_17 : decode (cd m_M_knownIn) 17 = .ok (.iload_n 3, 1) := by decide +kernel
theorem d_M_knownIn_18 : decode (cd m_M_knownIn) 18 = .ok (.invokevirtual 323, 3) := by decide +kernel
theorem d_M_knownIn_21 : decode (cd m_M_knownIn) 21 = .ok (.ifCond .eq 9, 3) := by decide +kernel
theorem d_M_knownIn_24 : decode (cd m_M_knownIn) 24 = .ok (.iconst 1, 1) := by decide +kernel
theorem d_M_knownIn_25 : decode (cd m_M_knownIn) 25 = .ok (.iload_n 3, 1) := by decide +kernel
theorem d_M_knownIn_26 : decode (cd m_M_knownIn) 26 = .ok (.ishl, 1) := by decide +kernel
theorem d_M_knownIn_27 : decode (cd m_M_knownIn) 27 = .ok (.goto 4, 3) := by decide +kernel
theorem d_M_knownIn_30 : decode (cd m_M_knownIn) 30 = .ok (.iconst 0, 1) := by decide +kernel
theorem d_M_knownIn_31 : decode (cd m_M_knownIn) 31 = .ok (.ior, 1) := by decide +kernel
theorem d_M_knownIn_32 : decode (cd m_M_knownIn) 32 = .ok (.istore_n 2, 1) := by decide +kernel
theorem d_M_knownIn_33 : decode (cd m_M_knownIn) 33 = .ok (.iinc 3 1, 3) := by decide +kernel
theorem d_M_knownIn_36 : decode (cd m_M_knownIn) 36 = .ok (.goto (-32), 3) := by decide +kernel
theorem d_M_knownIn_39 : decode (cd m_M_knownIn) 39 = .ok (.iload_n 2, 1) := by decide +kernel
theorem d_M_knownIn_40 : decode (cd m_M_knownIn) 40 = .ok (.ireturn, 1) := by decide +kernel
theorem d_M_many_0 : decode (cd m_M_many) 0 = .ok (.iconst 0, 1) := by decide +kernel
theorem d_M_many_1 : decode (cd m_M_many) 1 = .ok (.istore_n 1, 1) := by decide +kernel
theorem d_M_many_2 : decode (cd m_M_many) 2 = .ok (.iload_n 0, 1) := by decide +kernel
theorem d_M_many_3 : decode (cd m_M_many) 3 = .ok (.istore_n 2, 1) := by decide +kernel
theorem d_M_many_4 : decode (cd m_M_many) 4 = .ok (.iload_n 2, 1) := by decide +kernel
theorem d_M_many_5 : decode (cd m_M_many) 5 = .ok (.ifCond .le 16, 3) := by decide +kernel
theorem d_M_many_8 : decode (cd m_M_many) 8 = .ok (.iload_n 1, 1) := by decide +kernel
theorem d_M_many_9 : decode (cd m_M_many) 9 = .ok (.iload_n 2, 1) := by decide +kernel
theorem d_M_many_10 : decode (cd m_M_many) 10 = .ok (.iconst 1, 1) := by decide +kernel
theorem d_M_many_11 : decode (cd m_M_many) 11 = .ok (.iand, 1) := by decide +kernel
theorem d_M_many_12 : decode (cd m_M_many) 12 = .ok (.iadd, 1) := by decide +kernel
theorem d_M_many_13 : decode (cd m_M_many) 13 = .ok (.istore_n 1, 1) := by decide +kernel
theorem d_M_many_14 : decode (cd m_M_many) 14 = .ok (.iload_n 2, 1) := by decide +kernel
theorem d_M_many_15 : decode (cd m_M_many) 15 = .ok (.iconst 1, 1) := by decide +kernel
theorem d_M_many_16 : decode (cd m_M_many) 16 = .ok (.ishr, 1) := by decide +kernel
theorem d_M_many_17 : decode (cd m_M_many) 17 = .ok (.istore_n 2, 1) := by decide +kernel
theorem d_M_many_18 : decode (cd m_M_many) 18 = .ok (.goto (-14), 3) := by decide +kernel
theorem d_M_many_21 : decode (cd m_M_many) 21 = .ok (.iload_n 1, 1) := by decide +kernel
theorem d_M_many_22 : decode (cd m_M_many) 22 = .ok (.ireturn, 1) := by decide +kernel
theorem d_M_canAsk_0 : decode (cd m_M_canAsk) 0 = .ok (.aload_n 0, 1) := by decide +kernel
theorem d_M_canAsk_1 : decode (cd m_M_canAsk) 1 = .ok (.getfield 62, 3) := by decide +kernel
theorem d_M_canAsk_4 : decode (cd m_M_canAsk) 4 = .ok (.iload_n 1, 1) := by decide +kernel
theorem d_M_canAsk_5 : decode (cd m_M_canAsk) 5 = .ok (.iaload, 1) := by decide +kernel
theorem d_M_canAsk_6 : decode (cd m_M_canAsk) 6 = .ok (.iconst 3, 1) := by decide +kernel
theorem d_M_canAsk_7 : decode (cd m_M_canAsk) 7 = .ok (.if_icmp .ne 27, 3) := by decide +kernel
theorem d_M_canAsk_10 : decode (cd m_M_canAsk) 10 = .ok (.aload_n 0, 1) := by decide +kernel
theorem d_M_canAsk_11 : decode (cd m_M_canAsk) 11 = .ok (.iload_n 1, 1) := by decide +kernel
theorem d_M_canAsk_12 : decode (cd m_M_canAsk) 12 = .ok (.iconst 1, 1) := by decide +kernel
theorem d_M_canAsk_13 : decode (cd m_M_canAsk) 13 = .ok (.invokevirtual 323, 3) := by decide +kernel
theorem d_M_canAsk_16 : decode (cd m_M_canAsk) 16 = .ok (.ifCond .eq 16, 3) := by decide +kernel
theorem d_M_canAsk_19 : decode (cd m_M_canAsk) 19 = .ok (.aload_n 0, 1) := by decide +kernel
theorem d_M_canAsk_20 : decode (cd m_M_canAsk) 20 = .ok (.iload_n 1, 1) := by decide +kernel
theorem d_M_canAsk_21 : decode (cd m_M_canAsk) 21 = .ok (.iconst 2, 1) := by decide +kernel
theorem d_M_canAsk_22 : decode (cd m_M_canAsk) 22 = .ok (.invokevirtual 323, 3) := by decide +kernel
theorem d_M_canAsk_25 : decode (cd m_M_canAsk) 25 = .ok (.ifCond .eq 7, 3) := by decide +kernel
theorem d_M_canAsk_28 : decode (cd m_M_canAsk) 28 = .ok (.iconst 1, 1) := by decide +kernel
theorem d_M_canAsk_29 : decode (cd m_M_canAsk) 29 = .ok (.goto 4, 3) := by decide +kernel
theorem d_M_canAsk_32 : decode (cd m_M_canAsk) 32 = .ok (.iconst 0, 1) := by decide +kernel
theorem d_M_canAsk_33 : decode (cd m_M_canAsk) 33 = .ok (.ireturn, 1) := by decide +kernel
theorem d_M_canAsk_34 : decode (cd m_M_canAsk) 34 = .ok (.aload_n 0, 1) := by decide +kernel
theorem d_M_canAsk_35 : decode (cd m_M_canAsk) 35 = .ok (.getfield 62, 3) := by decide +kernel
theorem d_M_canAsk_38 : decode (cd m_M_canAsk) 38 = .ok (.iload_n 1, 1) := by decide +kernel
theorem d_M_canAsk_39 : decode (cd m_M_canAsk) 39 = .ok (.iaload, 1) := by decide +kernel
theorem d_M_canAsk_40 : decode (cd m_M_canAsk) 40 = .ok (.iconst 2, 1) := by decide +kernel
theorem d_M_canAsk_41 : decode (cd m_M_canAsk) 41 = .ok (.if_icmp .ne 64, 3) := by decide +kernel
theorem d_M_canAsk_44 : decode (cd m_M_canAsk) 44 = .ok (.aload_n 0, 1) := by decide +kernel
theorem d_M_canAsk_45 : decode (cd m_M_canAsk) 45 = .ok (.getfield 65, 3) := by decide +kernel
theorem d_M_canAsk_48 : decode (cd m_M_canAsk) 48 = .ok (.iload_n 1, 1) := by decide +kernel
theorem d_M_canAsk_49 : decode (cd m_M_canAsk) 49 = .ok (.iaload, 1) := by decide +kernel
theorem d_M_canAsk_50 : decode (cd m_M_canAsk) 50 = .ok (.bipush 61, 2) := by decide +kernel
theorem d_M_canAsk_52 : decode (cd m_M_canAsk) 52 = .ok (.if_icmp .ne 29, 3) := by decide +kernel
theorem d_M_canAsk_55 : decode (cd m_M_canAsk) 55 = .ok (.aload_n 0, 1) := by decide +kernel
theorem d_M_canAsk_56 : decode (cd m_M_canAsk) 56 = .ok (.iload_n 1, 1) := by decide +kernel
theorem d_M_canAsk_57 : decode (cd m_M_canAsk) 57 = .ok (.iconst 0, 1) := by decide +kernel
theorem d_M_canAsk_58 : decode (cd m_M_canAsk) 58 = .ok (.invokevirtual 323, 3) := by decide +kernel
theorem d_M_canAsk_61 : decode (cd m_M_canAsk) 61 = .ok (.ifCond .ne 12, 3) := by decide +kernel
theorem d_M_canAsk_64 : decode (cd m_M_canAsk) 64 = .ok (.aload_n 0, 1) := by decide +kernel
theorem d_M_canAsk_65 : decode (cd m_M_canAsk) 65 = .ok (.iload_n 1, 1) := by decide +kernel
theorem d_M_canAsk_66 : decode (cd m_M_canAsk) 66 = .ok (.iconst 1, 1) := by decide +kernel
theorem d_M_canAsk_67 : decode (cd m_M_canAsk) 67 = .ok (.invokevirtual 323, 3) := by decide +kernel
theorem d_M_canAsk_70 : decode (cd m_M_canAsk) 70 = .ok (.ifCond .eq 7, 3) := by decide +kernel
theorem d_M_canAsk_73 : decode (cd m_M_canAsk) 73 = .ok (.iconst 1, 1) := by decide +kernel
theorem d_M_canAsk_74 : decode (cd m_M_canAsk) 74 = .ok (.goto 30, 3) := by decide +kernel
theorem d_M_canAsk_77 : decode (cd m_M_canAsk) 77 = .ok (.iconst 0, 1) := by decide +kernel
theorem d_M_canAsk_78 : decode (cd m_M_canAsk) 78 = .ok (.goto 26, 3) := by decide +kernel
theorem d_M_canAsk_81 : decode (cd m_M_canAsk) 81 = .ok (.aload_n 0, 1) := by decide +kernel
theorem d_M_canAsk_82 : decode (cd m_M_canAsk) 82 = .ok (.iload_n 1, 1) := by decide +kernel
theorem d_M_canAsk_83 : decode (cd m_M_canAsk) 83 = .ok (.iconst 0, 1) := by decide +kernel
theorem d_M_canAsk_84 : decode (cd m_M_canAsk) 84 = .ok (.invokevirtual 323, 3) := by decide +kernel
theorem d_M_canAsk_87 : decode (cd m_M_canAsk) 87 = .ok (.ifCond .eq 16, 3) := by decide +kernel
theorem d_M_canAsk_90 : decode (cd m_M_canAsk) 90 = .ok (.aload_n 0, 1) := by decide +kernel
theorem d_M_canAsk_91 : decode (cd m_M_canAsk) 91 = .ok (.iload_n 1, 1) := by decide +kernel
theorem d_M_canAsk_92 : decode (cd m_M_canAsk) 92 = .ok (.iconst 1, 1) := by decide +kernel
theorem d_M_canAsk_93 : decode (cd m_M_canAsk) 93 = .ok (.invokevirtual 323, 3) := by decide +kernel
theorem d_M_canAsk_96 : decode (cd m_M_canAsk) 96 = .ok (.ifCond .eq 7, 3) := by decide +kernel
theorem d_M_canAsk_99 : decode (cd m_M_canAsk) 99 = .ok (.iconst 1, 1) := by decide +kernel
theorem d_M_canAsk_100 : decode (cd m_M_canAsk) 100 = .ok (.goto 4, 3) := by decide +kernel
theorem d_M_canAsk_103 : decode (cd m_M_canAsk) 103 = .ok (.iconst 0, 1) := by decide +kernel
theorem d_M_canAsk_104 : decode (cd m_M_canAsk) 104 = .ok (.ireturn, 1) := by decide +kernel
theorem d_M_canAsk_105 : decode (cd m_M_canAsk) 105 = .ok (.iconst 0, 1) := by decide +kernel
theorem d_M_canAsk_106 : decode (cd m_M_canAsk) 106 = .ok (.istore_n 2, 1) := by decide +kernel
theorem d_M_canAsk_107 : decode (cd m_M_canAsk) 107 = .ok (.iload_n 2, 1) := by decide +kernel
theorem d_M_canAsk_108 : decode (cd m_M_canAsk) 108 = .ok (.aload_n 0, 1) := by decide +kernel
theorem d_M_canAsk_109 : decode (cd m_M_canAsk) 109 = .ok (.getfield 102, 3) := by decide +kernel
theorem d_M_canAsk_112 : decode (cd m_M_canAsk) 112 = .ok (.iload_n 1, 1) := by decide +kernel
theorem d_M_canAsk_113 : decode (cd m_M_canAsk) 113 = .ok (.iaload, 1) := by decide +kernel
theorem d_M_canAsk_114 : decode (cd m_M_canAsk) 114 = .ok (.if_icmp .ge 34, 3) := by decide +kernel
theorem d_M_canAsk_117 : decode (cd m_M_canAsk) 117 = .ok (.aload_n 0, 1) := by decide +kernel
theorem d_M_canAsk_118 : decode (cd m_M_canAsk) 118 = .ok (.getfield 68, 3) := by decide +kernel
end
section
/-! decode rows (by program) -/
theorem d_M_canAsk_121 : decode (cd m_M_canAsk) 121 = .ok (.iconst 4, 1) := by decide +kernel
theorem d_M_canAsk_122 : decode (cd m_M_canAsk) 122 = .ok (.iload_n 1, 1) := by decide +kernel
theorem d_M_canAsk_123 : decode (cd m_M_canAsk) 123 = .ok (.imul, 1) := by decide +kernel
theorem d_M_canAsk_124 : decode (cd m_M_canAsk) 124 = .ok (.iload_n 2, 1) := by decide +kernel
theorem d_M_canAsk_125 : decode (cd m_M_canAsk) 125 = .ok (.iadd, 1) := by decide +kernel
theorem d_M_canAsk_126 : decode (cd m_M_canAsk) 126 = .ok (.iaload, 1) := by decide +kernel
theorem d_M_canAsk_127 : decode (cd m_M_canAsk) 127 = .ok (.iconst 2, 1) := by decide +kernel
theorem d_M_canAsk_128 : decode (cd m_M_canAsk) 128 = .ok (.if_icmp .eq 14, 3) := by decide +kernel
theorem d_M_canAsk_131 : decode (cd m_M_canAsk) 131 = .ok (.aload_n 0, 1) := by decide +kernel
theorem d_M_canAsk_132 : decode (cd m_M_canAsk) 132 = .ok (.iload_n 1, 1) := by decide +kernel
theorem d_M_canAsk_133 : decode (cd m_M_canAsk) 133 = .ok (.iload_n 2, 1) := by decide +kernel
theorem d_M_canAsk_134 : decode (cd m_M_canAsk) 134 = .ok (.invokevirtual 323, 3) := by decide +kernel
theorem d_M_canAsk_137 : decode (cd m_M_canAsk) 137 = .ok (.ifCond .ne 5, 3) := by decide +kernel
theorem d_M_canAsk_140 : decode (cd m_M_canAsk) 140 = .ok (.iconst 0, 1) := by decide +kernel
theorem d_M_canAsk_141 : decode (cd m_M_canAsk) 141 = .ok (.ireturn, 1) := by decide +kernel
theorem d_M_canAsk_142 : decode (cd m_M_canAsk) 142 = .ok (.iinc 2 1, 3) := by decide +kernel
theorem d_M_canAsk_145 : decode (cd m_M_canAsk) 145 = .ok (.goto (-38), 3) := by decide +kernel
theorem d_M_canAsk_148 : decode (cd m_M_canAsk) 148 = .ok (.iconst 1, 1) := by decide +kernel
theorem d_M_canAsk_149 : decode (cd m_M_canAsk) 149 = .ok (.ireturn, 1) := by decide +kernel
theorem d_M_nextLiteral_0 : decode (cd m_M_nextLiteral) 0 = .ok (.iconst (-1), 1) := by decide +kernel
theorem d_M_nextLiteral_1 : decode (cd m_M_nextLiteral) 1 = .ok (.istore_n 2, 1) := by decide +kernel
theorem d_M_nextLiteral_2 : decode (cd m_M_nextLiteral) 2 = .ok (.iconst 0, 1) := by decide +kernel
theorem d_M_nextLiteral_3 : decode (cd m_M_nextLiteral) 3 = .ok (.istore_n 3, 1) := by decide +kernel
theorem d_M_nextLiteral_4 : decode (cd m_M_nextLiteral) 4 = .ok (.iload_n 3, 1) := by decide +kernel
theorem d_M_nextLiteral_5 : decode (cd m_M_nextLiteral) 5 = .ok (.aload_n 0, 1) := by decide +kernel
theorem d_M_nextLiteral_6 : decode (cd m_M_nextLiteral) 6 = .ok (.getfield 56, 3) := by decide +kernel
theorem d_M_nextLiteral_9 : decode (cd m_M_nextLiteral) 9 = .ok (.iload_n 1, 1) := by decide +kernel
theorem d_M_nextLiteral_10 : decode (cd m_M_nextLiteral) 10 = .ok (.iaload, 1) := by decide +kernel
theorem d_M_nextLiteral_11 : decode (cd m_M_nextLiteral) 11 = .ok (.if_icmp .ge 47, 3) := by decide +kernel
theorem d_M_nextLiteral_14 : decode (cd m_M_nextLiteral) 14 = .ok (.aload_n 0, 1) := by decide +kernel
theorem d_M_nextLiteral_15 : decode (cd m_M_nextLiteral) 15 = .ok (.getfield 123, 3) := by decide +kernel
theorem d_M_nextLiteral_18 : decode (cd m_M_nextLiteral) 18 = .ok (.iload_n 3, 1) := by decide +kernel
theorem d_M_nextLiteral_19 : decode (cd m_M_nextLiteral) 19 = .ok (.baload, 1) := by decide +kernel
theorem d_M_nextLiteral_20 : decode (cd m_M_nextLiteral) 20 = .ok (.ifCond .ne 32, 3) := by decide +kernel
theorem d_M_nextLiteral_23 : decode (cd m_M_nextLiteral) 23 = .ok (.aload_n 0, 1) := by decide +kernel
theorem d_M_nextLiteral_24 : decode (cd m_M_nextLiteral) 24 = .ok (.getfield 62, 3) := by decide +kernel
theorem d_M_nextLiteral_27 : decode (cd m_M_nextLiteral) 27 = .ok (.bipush 6, 2) := by decide +kernel
theorem d_M_nextLiteral_29 : decode (cd m_M_nextLiteral) 29 = .ok (.iload_n 1, 1) := by decide +kernel
theorem d_M_nextLiteral_30 : decode (cd m_M_nextLiteral) 30 = .ok (.imul, 1) := by decide +kernel
theorem d_M_nextLiteral_31 : decode (cd m_M_nextLiteral) 31 = .ok (.iload_n 3, 1) := by decide +kernel
theorem d_M_nextLiteral_32 : decode (cd m_M_nextLiteral) 32 = .ok (.iadd, 1) := by decide +kernel
theorem d_M_nextLiteral_33 : decode (cd m_M_nextLiteral) 33 = .ok (.iaload, 1) := by decide +kernel
theorem d_M_nextLiteral_34 : decode (cd m_M_nextLiteral) 34 = .ok (.ifCond .eq 18, 3) := by decide +kernel
theorem d_M_nextLiteral_37 : decode (cd m_M_nextLiteral) 37 = .ok (.aload_n 0, 1) := by decide +kernel
theorem d_M_nextLiteral_38 : decode (cd m_M_nextLiteral) 38 = .ok (.bipush 6, 2) := by decide +kernel
theorem d_M_nextLiteral_40 : decode (cd m_M_nextLiteral) 40 = .ok (.iload_n 1, 1) := by decide +kernel
theorem d_M_nextLiteral_41 : decode (cd m_M_nextLiteral) 41 = .ok (.imul, 1) := by decide +kernel
theorem d_M_nextLiteral_42 : decode (cd m_M_nextLiteral) 42 = .ok (.iload_n 3, 1) := by decide +kernel
theorem d_M_nextLiteral_43 : decode (cd m_M_nextLiteral) 43 = .ok (.iadd, 1) := by decide +kernel
theorem d_M_nextLiteral_44 : decode (cd m_M_nextLiteral) 44 = .ok (.invokevirtual 326, 3) := by decide +kernel
theorem d_M_nextLiteral_47 : decode (cd m_M_nextLiteral) 47 = .ok (.ifCond .eq 5, 3) := by decide +kernel
theorem d_M_nextLiteral_50 : decode (cd m_M_nextLiteral) 50 = .ok (.iload_n 3, 1) := by decide +kernel
theorem d_M_nextLiteral_51 : decode (cd m_M_nextLiteral) 51 = .ok (.ireturn, 1) := by decide +kernel
theorem d_M_nextLiteral_52 : decode (cd m_M_nextLiteral) 52 = .ok (.iinc 3 1, 3) := by decide +kernel
theorem d_M_nextLiteral_55 : decode (cd m_M_nextLiteral) 55 = .ok (.goto (-51), 3) := by decide +kernel
theorem d_M_nextLiteral_58 : decode (cd m_M_nextLiteral) 58 = .ok (.iconst 0, 1) := by decide +kernel
theorem d_M_nextLiteral_59 : decode (cd m_M_nextLiteral) 59 = .ok (.istore_n 3, 1) := by decide +kernel
theorem d_M_nextLiteral_60 : decode (cd m_M_nextLiteral) 60 = .ok (.iload_n 3, 1) := by decide +kernel
theorem d_M_nextLiteral_61 : decode (cd m_M_nextLiteral) 61 = .ok (.aload_n 0, 1) := by decide +kernel
theorem d_M_nextLiteral_62 : decode (cd m_M_nextLiteral) 62 = .ok (.getfield 56, 3) := by decide +kernel
theorem d_M_nextLiteral_65 : decode (cd m_M_nextLiteral) 65 = .ok (.iload_n 1, 1) := by decide +kernel
theorem d_M_nextLiteral_66 : decode (cd m_M_nextLiteral) 66 = .ok (.iaload, 1) := by decide +kernel
theorem d_M_nextLiteral_67 : decode (cd m_M_nextLiteral) 67 = .ok (.if_icmp .ge 71, 3) := by decide +kernel
theorem d_M_nextLiteral_70 : decode (cd m_M_nextLiteral) 70 = .ok (.aload_n 0, 1) := by decide +kernel
theorem d_M_nextLiteral_71 : decode (cd m_M_nextLiteral) 71 = .ok (.getfield 123, 3) := by decide +kernel
theorem d_M_nextLiteral_74 : decode (cd m_M_nextLiteral) 74 = .ok (.iload_n 3, 1) := by decide +kernel
theorem d_M_nextLiteral_75 : decode (cd m_M_nextLiteral) 75 = .ok (.baload, 1) := by decide +kernel
theorem d_M_nextLiteral_76 : decode (cd m_M_nextLiteral) 76 = .ok (.ifCond .ne 56, 3) := by decide +kernel
theorem d_M_nextLiteral_79 : decode (cd m_M_nextLiteral) 79 = .ok (.aload_n 0, 1) := by decide +kernel
theorem d_M_nextLiteral_80 : decode (cd m_M_nextLiteral) 80 = .ok (.getfield 62, 3) := by decide +kernel
theorem d_M_nextLiteral_83 : decode (cd m_M_nextLiteral) 83 = .ok (.bipush 6, 2) := by decide +kernel
theorem d_M_nextLiteral_85 : decode (cd m_M_nextLiteral) 85 = .ok (.iload_n 1, 1) := by decide +kernel
theorem d_M_nextLiteral_86 : decode (cd m_M_nextLiteral) 86 = .ok (.imul, 1) := by decide +kernel
theorem d_M_nextLiteral_87 : decode (cd m_M_nextLiteral) 87 = .ok (.iload_n 3, 1) := by decide +kernel
theorem d_M_nextLiteral_88 : decode (cd m_M_nextLiteral) 88 = .ok (.iadd, 1) := by decide +kernel
theorem d_M_nextLiteral_89 : decode (cd m_M_nextLiteral) 89 = .ok (.iaload, 1) := by decide +kernel
theorem d_M_nextLiteral_90 : decode (cd m_M_nextLiteral) 90 = .ok (.ifCond .eq 6, 3) := by decide +kernel
theorem d_M_nextLiteral_93 : decode (cd m_M_nextLiteral) 93 = .ok (.goto 39, 3) := by decide +kernel
theorem d_M_nextLiteral_96 : decode (cd m_M_nextLiteral) 96 = .ok (.iload_n 2, 1) := by decide +kernel
theorem d_M_nextLiteral_97 : decode (cd m_M_nextLiteral) 97 = .ok (.iconst (-1), 1) := by decide +kernel
theorem d_M_nextLiteral_98 : decode (cd m_M_nextLiteral) 98 = .ok (.if_icmp .eq 32, 3) := by decide +kernel
theorem d_M_nextLiteral_101 : decode (cd m_M_nextLiteral) 101 = .ok (.aload_n 0, 1) := by decide +kernel
theorem d_M_nextLiteral_102 : decode (cd m_M_nextLiteral) 102 = .ok (.bipush 6, 2) := by decide +kernel
theorem d_M_nextLiteral_104 : decode (cd m_M_nextLiteral) 104 = .ok (.iload_n 1, 1) := by decide +kernel
theorem d_M_nextLiteral_105 : decode (cd m_M_nextLiteral) 105 = .ok (.imul, 1) := by decide +kernel
theorem d_M_nextLiteral_106 : decode (cd m_M_nextLiteral) 106 = .ok (.iload_n 3, 1) := by decide +kernel
theorem d_M_nextLiteral_107 : decode (cd m_M_nextLiteral) 107 = .ok (.iadd, 1) := by decide +kernel
theorem d_M_nextLiteral_108 : decode (cd m_M_nextLiteral) 108 = .ok (.invokevirtual 329, 3) := by decide +kernel
theorem d_M_nextLiteral_111 : decode (cd m_M_nextLiteral) 111 = .ok (.invokestatic 332, 3) := by decide +kernel
theorem d_M_nextLiteral_114 : decode (cd m_M_nextLiteral) 114 = .ok (.aload_n 0, 1) := by decide +kernel
theorem d_M_nextLiteral_115 : decode (cd m_M_nextLiteral) 115 = .ok (.bipush 6, 2) := by decide +kernel
theorem d_M_nextLiteral_117 : decode (cd m_M_nextLiteral) 117 = .ok (.iload_n 1, 1) := by decide +kernel
theorem d_M_nextLiteral_118 : decode (cd m_M_nextLiteral) 118 = .ok (.imul, 1) := by decide +kernel
theorem d_M_nextLiteral_119 : decode (cd m_M_nextLiteral) 119 = .ok (.iload_n 2, 1) := by decide +kernel
theorem d_M_nextLiteral_120 : decode (cd m_M_nextLiteral) 120 = .ok (.iadd, 1) := by decide +kernel
theorem d_M_nextLiteral_121 : decode (cd m_M_nextLiteral) 121 = .ok (.invokevirtual 329, 3) := by decide +kernel
theorem d_M_nextLiteral_124 : decode (cd m_M_nextLiteral) 124 = .ok (.invokestatic 332, 3) := by decide +kernel
theorem d_M_nextLiteral_127 : decode (cd m_M_nextLiteral) 127 = .ok (.if_icmp .le 5, 3) := by decide +kernel
theorem d_M_nextLiteral_130 : decode (cd m_M_nextLiteral) 130 = .ok (.iload_n 3, 1) := by decide +kernel
theorem d_M_nextLiteral_131 : decode (cd m_M_nextLiteral) 131 = .ok (.istore_n 2, 1) := by decide +kernel
theorem d_M_nextLiteral_132 : decode (cd m_M_nextLiteral) 132 = .ok (.iinc 3 1, 3) := by decide +kernel
theorem d_M_nextLiteral_135 : decode (cd m_M_nextLiteral) 135 = .ok (.goto (-75), 3) := by decide +kernel
theorem d_M_nextLiteral_138 : decode (cd m_M_nextLiteral) 138 = .ok (.iload_n 2, 1) := by decide +kernel
theorem d_M_nextLiteral_139 : decode (cd m_M_nextLiteral) 139 = .ok (.ireturn, 1) := by decide +kernel
theorem d_M_plan_0 : decode (cd m_M_plan) 0 = .ok (.iconst 0, 1) := by decide +kernel
theorem d_M_plan_1 : decode (cd m_M_plan) 1 = .ok (.istore_n 2, 1) := by decide +kernel
theorem d_M_plan_2 : decode (cd m_M_plan) 2 = .ok (.iload_n 2, 1) := by decide +kernel
theorem d_M_plan_3 : decode (cd m_M_plan) 3 = .ok (.bipush 9, 2) := by decide +kernel
theorem d_M_plan_5 : decode (cd m_M_plan) 5 = .ok (.if_icmp .ge 16, 3) := by decide +kernel
theorem d_M_plan_8 : decode (cd m_M_plan) 8 = .ok (.aload_n 0, 1) := by decide +kernel
theorem d_M_plan_9 : decode (cd m_M_plan) 9 = .ok (.getfield 120, 3) := by decide +kernel
theorem d_M_plan_12 : decode (cd m_M_plan) 12 = .ok (.iload_n 2, 1) := by decide +kernel
theorem d_M_plan_13 : decode (cd m_M_plan) 13 = .ok (.iconst 0, 1) := by decide +kernel
theorem d_M_plan_14 : decode (cd m_M_plan) 14 = .ok (.bastore, 1) := by decide +kernel
theorem d_M_plan_15 : decode (cd m_M_plan) 15 = .ok (.iinc 2 1, 3) := by decide +kernel
theorem d_M_plan_18 : decode (cd m_M_plan) 18 = .ok (.goto (-16), 3) := by decide +kernel
theorem d_M_plan_21 : decode (cd m_M_plan) 21 = .ok (.iconst 0, 1) := by decide +kernel
theorem d_M_plan_22 : decode (cd m_M_plan) 22 = .ok (.istore_n 2, 1) := by decide +kernel
theorem d_M_plan_23 : decode (cd m_M_plan) 23 = .ok (.iload_n 2, 1) := by decide +kernel
theorem d_M_plan_24 : decode (cd m_M_plan) 24 = .ok (.bipush 6, 2) := by decide +kernel
theorem d_M_plan_26 : decode (cd m_M_plan) 26 = .ok (.if_icmp .ge 16, 3) := by decide +kernel
theorem d_M_plan_29 : decode (cd m_M_plan) 29 = .ok (.aload_n 0, 1) := by decide +kernel
theorem d_M_plan_30 : decode (cd m_M_plan) 30 = .ok (.getfield 123, 3) := by decide +kernel
theorem d_M_plan_33 : decode (cd m_M_plan) 33 = .ok (.iload_n 2, 1) := by decide +kernel
theorem d_M_plan_34 : decode (cd m_M_plan) 34 = .ok (.iconst 0, 1) := by decide +kernel
theorem d_M_plan_35 : decode (cd m_M_plan) 35 = .ok (.bastore, 1) := by decide +kernel
theorem d_M_plan_36 : decode (cd m_M_plan) 36 = .ok (.iinc 2 1, 3) := by decide +kernel
theorem d_M_plan_39 : decode (cd m_M_plan) 39 = .ok (.goto (-16), 3) := by decide +kernel
theorem d_M_plan_42 : decode (cd m_M_plan) 42 = .ok (.iconst 0, 1) := by decide +kernel
theorem d_M_plan_43 : decode (cd m_M_plan) 43 = .ok (.istore_n 2, 1) := by decide +kernel
theorem d_M_plan_44 : decode (cd m_M_plan) 44 = .ok (.iconst 0, 1) := by decide +kernel
theorem d_M_plan_45 : decode (cd m_M_plan) 45 = .ok (.istore_n 3, 1) := by decide +kernel
theorem d_M_plan_46 : decode (cd m_M_plan) 46 = .ok (.iload_n 3, 1) := by decide +kernel
theorem d_M_plan_47 : decode (cd m_M_plan) 47 = .ok (.aload_n 0, 1) := by decide +kernel
theorem d_M_plan_48 : decode (cd m_M_plan) 48 = .ok (.getfield 56, 3) := by decide +kernel
theorem d_M_plan_51 : decode (cd m_M_plan) 51 = .ok (.iload_n 1, 1) := by decide +kernel
theorem d_M_plan_52 : decode (cd m_M_plan) 52 = .ok (.iaload, 1) := by decide +kernel
theorem d_M_plan_53 : decode (cd m_M_plan) 53 = .ok (.if_icmp .ge 188, 3) := by decide +kernel
theorem d_M_plan_56 : decode (cd m_M_plan) 56 = .ok (.aload_n 0, 1) := by decide +kernel
theorem d_M_plan_57 : decode (cd m_M_plan) 57 = .ok (.iload_n 1, 1) := by decide +kernel
theorem d_M_plan_58 : decode (cd m_M_plan) 58 = .ok (.invokevirtual 335, 3) := by decide +kernel
theorem d_M_plan_61 : decode (cd m_M_plan) 61 = .ok (.istore 4, 2) := by decide +kernel
theorem d_M_plan_63 : decode (cd m_M_plan) 63 = .ok (.bipush 6, 2) := by decide +kernel
theorem d_M_plan_65 : decode (cd m_M_plan) 65 = .ok (.iload_n 1, 1) := by decide +kernel
theorem d_M_plan_66 : decode (cd m_M_plan) 66 = .ok (.imul, 1) := by decide +kernel
theorem d_M_plan_67 : decode (cd m_M_plan) 67 = .ok (.iload 4, 2) := by decide +kernel
theorem d_M_plan_69 : decode (cd m_M_plan) 69 = .ok (.iadd, 1) := by decide +kernel
theorem d_M_plan_70 : decode (cd m_M_plan) 70 = .ok (.istore 5, 2) := by decide +kernel
theorem d_M_plan_72 : decode (cd m_M_plan) 72 = .ok (.aload_n 0, 1) := by decide +kernel
theorem d_M_plan_73 : decode (cd m_M_plan) 73 = .ok (.getfield 123, 3) := by decide +kernel
theorem d_M_plan_76 : decode (cd m_M_plan) 76 = .ok (.iload 4, 2) := by decide +kernel
theorem d_M_plan_78 : decode (cd m_M_plan) 78 = .ok (.iconst 1, 1) := by decide +kernel
theorem d_M_plan_79 : decode (cd m_M_plan) 79 = .ok (.bastore, 1) := by decide +kernel
theorem d_M_plan_80 : decode (cd m_M_plan) 80 = .ok (.aload_n 0, 1) := by decide +kernel
theorem d_M_plan_81 : decode (cd m_M_plan) 81 = .ok (.getfield 111, 3) := by decide +kernel
theorem d_M_plan_84 : decode (cd m_M_plan) 84 = .ok (.iload_n 3, 1) := by decide +kernel
theorem d_M_plan_85 : decode (cd m_M_plan) 85 = .ok (.iload 4, 2) := by decide +kernel
theorem d_M_plan_87 : decode (cd m_M_plan) 87 = .ok (.iastore, 1) := by decide +kernel
theorem d_M_plan_88 : decode (cd m_M_plan) 88 = .ok (.aload_n 0, 1) := by decide +kernel
theorem d_M_plan_89 : decode (cd m_M_plan) 89 = .ok (.getfield 114, 3) := by decide +kernel
theorem d_M_plan_92 : decode (cd m_M_plan) 92 = .ok (.iload_n 3, 1) := by decide +kernel
theorem d_M_plan_93 : decode (cd m_M_plan) 93 = .ok (.aload_n 0, 1) := by decide +kernel
theorem d_M_plan_94 : decode (cd m_M_plan) 94 = .ok (.iload 5, 2) := by decide +kernel
theorem d_M_plan_96 : decode (cd m_M_plan) 96 = .ok (.invokevirtual 296, 3) := by decide +kernel
theorem d_M_plan_99 : decode (cd m_M_plan) 99 = .ok (.ifCond .eq 12, 3) := by decide +kernel
theorem d_M_plan_102 : decode (cd m_M_plan) 102 = .ok (.aload_n 0, 1) := by decide +kernel
theorem d_M_plan_103 : decode (cd m_M_plan) 103 = .ok (.iload 5, 2) := by decide +kernel
theorem d_M_plan_105 : decode (cd m_M_plan) 105 = .ok (.invokevirtual 329, 3) := by decide +kernel
theorem d_M_plan_108 : decode (cd m_M_plan) 108 = .ok (.goto 4, 3) := by decide +kernel
theorem d_M_plan_111 : decode (cd m_M_plan) 111 = .ok (.iconst 0, 1) := by decide +kernel
theorem d_M_plan_112 : decode (cd m_M_plan) 112 = .ok (.iastore, 1) := by decide +kernel
theorem d_M_plan_113 : decode (cd m_M_plan) 113 = .ok (.aload_n 0, 1) := by decide +kernel
theorem d_M_plan_114 : decode (cd m_M_plan) 114 = .ok (.iload 5, 2) := by decide +kernel
theorem d_M_plan_116 : decode (cd m_M_plan) 116 = .ok (.invokevirtual 296, 3) := by decide +kernel
theorem d_M_plan_119 : decode (cd m_M_plan) 119 = .ok (.ifCond .eq 13, 3) := by decide +kernel
theorem d_M_plan_122 : decode (cd m_M_plan) 122 = .ok (.aload_n 0, 1) := by decide +kernel
theorem d_M_plan_123 : decode (cd m_M_plan) 123 = .ok (.getfield 102, 3) := by decide +kernel
theorem d_M_plan_126 : decode (cd m_M_plan) 126 = .ok (.iload 5, 2) := by decide +kernel
theorem d_M_plan_128 : decode (cd m_M_plan) 128 = .ok (.iaload, 1) := by decide +kernel
theorem d_M_plan_129 : decode (cd m_M_plan) 129 = .ok (.goto 19, 3) := by decide +kernel
theorem d_M_plan_132 : decode (cd m_M_plan) 132 = .ok (.aload_n 0, 1) := by decide +kernel
theorem d_M_plan_133 : decode (cd m_M_plan) 133 = .ok (.getfield 62, 3) := by decide +kernel
theorem d_M_plan_136 : decode (cd m_M_plan) 136 = .ok (.iload 5, 2) := by decide +kernel
theorem d_M_plan_138 : decode (cd m_M_plan) 138 = .ok (.iaload, 1) := by decide +kernel
theorem d_M_plan_139 : decode (cd m_M_plan) 139 = .ok (.iconst 3, 1) := by decide +kernel
theorem d_M_plan_140 : decode (cd m_M_plan) 140 = .ok (.if_icmp .ne 7, 3) := by decide +kernel
theorem d_M_plan_143 : decode (cd m_M_plan) 143 = .ok (.iconst 3, 1) := by decide +kernel
theorem d_M_plan_144 : decode (cd m_M_plan) 144 = .ok (.goto 4, 3) := by decide +kernel
theorem d_M_plan_147 : decode (cd m_M_plan) 147 = .ok (.iconst 2, 1) := by decide +kernel
theorem d_M_plan_148 : decode (cd m_M_plan) 148 = .ok (.istore 6, 2) := by decide +kernel
theorem d_M_plan_150 : decode (cd m_M_plan) 150 = .ok (.iconst 0, 1) := by decide +kernel
theorem d_M_plan_151 : decode (cd m_M_plan) 151 = .ok (.istore 7, 2) := by decide +kernel
theorem d_M_plan_153 : decode (cd m_M_plan) 153 = .ok (.iload 7, 2) := by decide +kernel
theorem d_M_plan_155 : decode (cd m_M_plan) 155 = .ok (.iload 6, 2) := by decide +kernel
theorem d_M_plan_157 : decode (cd m_M_plan) 157 = .ok (.if_icmp .ge 71, 3) := by decide +kernel
theorem d_M_plan_160 : decode (cd m_M_plan) 160 = .ok (.aload_n 0, 1) := by decide +kernel
theorem d_M_plan_161 : decode (cd m_M_plan) 161 = .ok (.getfield 68, 3) := by decide +kernel
theorem d_M_plan_164 : decode (cd m_M_plan) 164 = .ok (.iconst 4, 1) := by decide +kernel
theorem d_M_plan_165 : decode (cd m_M_plan) 165 = .ok (.iload 5, 2) := by decide +kernel
theorem d_M_plan_167 : decode (cd m_M_plan) 167 = .ok (.imul, 1) := by decide +kernel
theorem d_M_plan_168 : decode (cd m_M_plan) 168 = .ok (.iload 7, 2) := by decide +kernel
theorem d_M_plan_170 : decode (cd m_M_plan) 170 = .ok (.iadd, 1) := by decide +kernel
theorem d_M_plan_171 : decode (cd m_M_plan) 171 = .ok (.iaload, 1) := by decide +kernel
theorem d_M_plan_172 : decode (cd m_M_plan) 172 = .ok (.iconst 1, 1) := by decide +kernel
theorem d_M_plan_173 : decode (cd m_M_plan) 173 = .ok (.if_icmp .ne 49, 3) := by decide +kernel
theorem d_M_plan_176 : decode (cd m_M_plan) 176 = .ok (.aload_n 0, 1) := by decide +kernel
theorem d_M_plan_177 : decode (cd m_M_plan) 177 = .ok (.getfield 120, 3) := by decide +kernel
theorem d_M_plan_180 : decode (cd m_M_plan) 180 = .ok (.aload_n 0, 1) := by decide +kernel
theorem d_M_plan_181 : decode (cd m_M_plan) 181 = .ok (.getfield 71, 3) := by decide +kernel
theorem d_M_plan_184 : decode (cd m_M_plan) 184 = .ok (.iconst 4, 1) := by decide +kernel
theorem d_M_plan_185 : decode (cd m_M_plan) 185 = .ok (.iload 5, 2) := by decide +kernel
theorem d_M_plan_187 : decode (cd m_M_plan) 187 = .ok (.imul, 1) := by decide +kernel
theorem d_M_plan_188 : decode (cd m_M_plan) 188 = .ok (.iload 7, 2) := by decide +kernel
theorem d_M_plan_190 : decode (cd m_M_plan) 190 = .ok (.iadd, 1) := by decide +kernel
theorem d_M_plan_191 : decode (cd m_M_plan) 191 = .ok (.laload, 1) := by decide +kernel
theorem d_M_plan_192 : decode (cd m_M_plan) 192 = .ok (.l2i, 1) := by decide +kernel
theorem d_M_plan_193 : decode (cd m_M_plan) 193 = .ok (.baload, 1) := by decide +kernel
theorem d_M_plan_194 : decode (cd m_M_plan) 194 = .ok (.ifCond .eq 6, 3) := by decide +kernel
theorem d_M_plan_197 : decode (cd m_M_plan) 197 = .ok (.goto 25, 3) := by decide +kernel
theorem d_M_plan_200 : decode (cd m_M_plan) 200 = .ok (.aload_n 0, 1) := by decide +kernel
theorem d_M_plan_201 : decode (cd m_M_plan) 201 = .ok (.getfield 120, 3) := by decide +kernel
theorem d_M_plan_204 : decode (cd m_M_plan) 204 = .ok (.aload_n 0, 1) := by decide +kernel
theorem d_M_plan_205 : decode (cd m_M_plan) 205 = .ok (.getfield 71, 3) := by decide +kernel
theorem d_M_plan_208 : decode (cd m_M_plan) 208 = .ok (.iconst 4, 1) := by decide +kernel
theorem d_M_plan_209 : decode (cd m_M_plan) 209 = .ok (.iload 5, 2) := by decide +kernel
theorem d_M_plan_211 : decode (cd m_M_plan) 211 = .ok (.imul, 1) := by decide +kernel
theorem d_M_plan_212 : decode (cd m_M_plan) 212 = .ok (.iload 7, 2) := by decide +kernel
theorem d_M_plan_214 : decode (cd m_M_plan) 214 = .ok (.iadd, 1) := by decide +kernel
theorem d_M_plan_215 : decode (cd m_M_plan) 215 = .ok (.laload, 1) := by decide +kernel
theorem d_M_plan_216 : decode (cd m_M_plan) 216 = .ok (.l2i, 1) := by decide +kernel
theorem d_M_plan_217 : decode (cd m_M_plan) 217 = .ok (.iconst 1, 1) := by decide +kernel
theorem d_M_plan_218 : decode (cd m_M_plan) 218 = .ok (.bastore, 1) := by decide +kernel
theorem d_M_plan_219 : decode (cd m_M_plan) 219 = .ok (.iinc 2 1, 3) := by decide +kernel
theorem d_M_plan_222 : decode (cd m_M_plan) 222 = .ok (.iinc 7 1, 3) := by decide +kernel
theorem d_M_plan_225 : decode (cd m_M_plan) 225 = .ok (.goto (-72), 3) := by decide +kernel
theorem d_M_plan_228 : decode (cd m_M_plan) 228 = .ok (.aload_n 0, 1) := by decide +kernel
theorem d_M_plan_229 : decode (cd m_M_plan) 229 = .ok (.getfield 117, 3) := by decide +kernel
theorem d_M_plan_232 : decode (cd m_M_plan) 232 = .ok (.iload_n 3, 1) := by decide +kernel
theorem d_M_plan_233 : decode (cd m_M_plan) 233 = .ok (.iload_n 2, 1) := by decide +kernel
theorem d_M_plan_234 : decode (cd m_M_plan) 234 = .ok (.iastore, 1) := by decide +kernel
theorem d_M_plan_235 : decode (cd m_M_plan) 235 = .ok (.iinc 3 1, 3) := by decide +kernel
theorem d_M_plan_238 : decode (cd m_M_plan) 238 = .ok (.goto (-192), 3) := by decide +kernel
theorem d_M_plan_241 : decode (cd m_M_plan) 241 = .ok (.return_, 1) := by decide +kernel
theorem d_M_predicates_0 : decode (cd m_M_predicates) 0 = .ok (.aload_n 0, 1) := by decide +kernel
theorem d_M_predicates_1 : decode (cd m_M_predicates) 1 = .ok (.iconst 0, 1) := by decide +kernel
theorem d_M_predicates_2 : decode (cd m_M_predicates) 2 = .ok (.putfield 126, 3) := by decide +kernel
theorem d_M_predicates_5 : decode (cd m_M_predicates) 5 = .ok (.aload_n 0, 1) := by decide +kernel
theorem d_M_predicates_6 : decode (cd m_M_predicates) 6 = .ok (.getfield 26, 3) := by decide +kernel
theorem d_M_predicates_9 : decode (cd m_M_predicates) 9 = .ok (.aload_n 0, 1) := by decide +kernel
theorem d_M_predicates_10 : decode (cd m_M_predicates) 10 = .ok (.getfield 308, 3) := by decide +kernel
theorem d_M_predicates_13 : decode (cd m_M_predicates) 13 = .ok (.iaload, 1) := by decide +kernel
theorem d_M_predicates_14 : decode (cd m_M_predicates) 14 = .ok (.ireturn, 1) := by decide +kernel
theorem d_M_letters_0 : decode (cd m_M_letters) 0 = .ok (.iconst 0, 1) := by decide +kernel
theorem d_M_letters_1 : decode (cd m_M_letters) 1 = .ok (.istore_n 2, 1) := by decide +kernel
theorem d_M_letters_2 : decode (cd m_M_letters) 2 = .ok (.lload_n 0, 1) := by decide +kernel
theorem d_M_letters_3 : decode (cd m_M_letters) 3 = .ok (.lstore_n 3, 1) := by decide +kernel
theorem d_M_letters_4 : decode (cd m_M_letters) 4 = .ok (.lload_n 3, 1) := by decide +kernel
theorem d_M_letters_5 : decode (cd m_M_letters) 5 = .ok (.lconst 0, 1) := by decide +kernel
theorem d_M_letters_6 : decode (cd m_M_letters) 6 = .ok (.lcmp, 1) := by decide +kernel
theorem d_M_letters_7 : decode (cd m_M_letters) 7 = .ok (.ifCond .le 14, 3) := by decide +kernel
theorem d_M_letters_10 : decode (cd m_M_letters) 10 = .ok (.iinc 2 1, 3) := by decide +kernel
theorem d_M_letters_13 : decode (cd m_M_letters) 13 = .ok (.lload_n 3, 1) := by decide +kernel
theorem d_M_letters_14 : decode (cd m_M_letters) 14 = .ok (.bipush 8, 2) := by decide +kernel
theorem d_M_letters_16 : decode (cd m_M_letters) 16 = .ok (.lshr, 1) := by decide +kernel
theorem d_M_letters_17 : decode (cd m_M_letters) 17 = .ok (.lstore_n 3, 1) := by decide +kernel
theorem d_M_letters_18 : decode (cd m_M_letters) 18 = .ok (.goto (-14), 3) := by decide +kernel
theorem d_M_letters_21 : decode (cd m_M_letters) 21 = .ok (.iload_n 2, 1) := by decide +kernel
theorem d_M_letters_22 : decode (cd m_M_letters) 22 = .ok (.ireturn, 1) := by decide +kernel
theorem d_M_predicate_0 : decode (cd m_M_predicate) 0 = .ok (.aload_n 0, 1) := by decide +kernel
theorem d_M_predicate_1 : decode (cd m_M_predicate) 1 = .ok (.iconst 0, 1) := by decide +kernel
theorem d_M_predicate_2 : decode (cd m_M_predicate) 2 = .ok (.putfield 126, 3) := by decide +kernel
theorem d_M_predicate_5 : decode (cd m_M_predicate) 5 = .ok (.iload_n 1, 1) := by decide +kernel
theorem d_M_predicate_6 : decode (cd m_M_predicate) 6 = .ok (.ifCond .lt 16, 3) := by decide +kernel
theorem d_M_predicate_9 : decode (cd m_M_predicate) 9 = .ok (.iload_n 1, 1) := by decide +kernel
theorem d_M_predicate_10 : decode (cd m_M_predicate) 10 = .ok (.aload_n 0, 1) := by decide +kernel
theorem d_M_predicate_11 : decode (cd m_M_predicate) 11 = .ok (.getfield 26, 3) := by decide +kernel
theorem d_M_predicate_14 : decode (cd m_M_predicate) 14 = .ok (.aload_n 0, 1) := by decide +kernel
theorem d_M_predicate_15 : decode (cd m_M_predicate) 15 = .ok (.getfield 308, 3) := by decide +kernel
theorem d_M_predicate_18 : decode (cd m_M_predicate) 18 = .ok (.iaload, 1) := by decide +kernel
theorem d_M_predicate_19 : decode (cd m_M_predicate) 19 = .ok (.if_icmp .lt 5, 3) := by decide +kernel
theorem d_M_predicate_22 : decode (cd m_M_predicate) 22 = .ok (.iconst (-1), 1) := by decide +kernel
theorem d_M_predicate_23 : decode (cd m_M_predicate) 23 = .ok (.ireturn, 1) := by decide +kernel
theorem d_M_predicate_24 : decode (cd m_M_predicate) 24 = .ok (.iconst 0, 1) := by decide +kernel
theorem d_M_predicate_25 : decode (cd m_M_predicate) 25 = .ok (.istore_n 3, 1) := by decide +kernel
theorem d_M_predicate_26 : decode (cd m_M_predicate) 26 = .ok (.aload_n 0, 1) := by decide +kernel
theorem d_M_predicate_27 : decode (cd m_M_predicate) 27 = .ok (.getfield 29, 3) := by decide +kernel
theorem d_M_predicate_30 : decode (cd m_M_predicate) 30 = .ok (.bipush 16, 2) := by decide +kernel
theorem d_M_predicate_32 : decode (cd m_M_predicate) 32 = .ok (.aload_n 0, 1) := by decide +kernel
theorem d_M_predicate_33 : decode (cd m_M_predicate) 33 = .ok (.getfield 308, 3) := by decide +kernel
theorem d_M_predicate_36 : decode (cd m_M_predicate) 36 = .ok (.imul, 1) := by decide +kernel
theorem d_M_predicate_37 : decode (cd m_M_predicate) 37 = .ok (.iload_n 1, 1) := by decide +kernel
theorem d_M_predicate_38 : decode (cd m_M_predicate) 38 = .ok (.iadd, 1) := by decide +kernel
theorem d_M_predicate_39 : decode (cd m_M_predicate) 39 = .ok (.laload, 1) := by decide +kernel
theorem d_M_predicate_40 : decode (cd m_M_predicate) 40 = .ok (.lstore 4, 2) := by decide +kernel
theorem d_M_predicate_42 : decode (cd m_M_predicate) 42 = .ok (.lload 4, 2) := by decide +kernel
theorem d_M_predicate_44 : decode (cd m_M_predicate) 44 = .ok (.invokestatic 338, 3) := by decide +kernel
theorem d_M_predicate_47 : decode (cd m_M_predicate) 47 = .ok (.istore 6, 2) := by decide +kernel
theorem d_M_predicate_49 : decode (cd m_M_predicate) 49 = .ok (.iload_n 2, 1) := by decide +kernel
theorem d_M_predicate_50 : decode (cd m_M_predicate) 50 = .ok (.bipush 100, 2) := by decide +kernel
theorem d_M_predicate_52 : decode (cd m_M_predicate) 52 = .ok (.if_icmp .lt 33, 3) := by decide +kernel
theorem d_M_predicate_55 : decode (cd m_M_predicate) 55 = .ok (.iload_n 2, 1) := by decide +kernel
theorem d_M_predicate_56 : decode (cd m_M_predicate) 56 = .ok (.bipush 100, 2) := by decide +kernel
theorem d_M_predicate_58 : decode (cd m_M_predicate) 58 = .ok (.iload 6, 2) := by decide +kernel
theorem d_M_predicate_60 : decode (cd m_M_predicate) 60 = .ok (.iadd, 1) := by decide +kernel
theorem d_M_predicate_61 : decode (cd m_M_predicate) 61 = .ok (.if_icmp .ge 24, 3) := by decide +kernel
theorem d_M_predicate_64 : decode (cd m_M_predicate) 64 = .ok (.lload 4, 2) := by decide +kernel
theorem d_M_predicate_66 : decode (cd m_M_predicate) 66 = .ok (.bipush 8, 2) := by decide +kernel
theorem d_M_predicate_68 : decode (cd m_M_predicate) 68 = .ok (.iload 6, 2) := by decide +kernel
theorem d_M_predicate_70 : decode (cd m_M_predicate) 70 = .ok (.iconst 1, 1) := by decide +kernel
theorem d_M_predicate_71 : decode (cd m_M_predicate) 71 = .ok (.isub, 1) := by decide +kernel
theorem d_M_predicate_72 : decode (cd m_M_predicate) 72 = .ok (.iload_n 2, 1) := by decide +kernel
theorem d_M_predicate_73 : decode (cd m_M_predicate) 73 = .ok (.isub, 1) := by decide +kernel
theorem d_M_predicate_74 : decode (cd m_M_predicate) 74 = .ok (.bipush 100, 2) := by decide +kernel
theorem d_M_predicate_76 : decode (cd m_M_predicate) 76 = .ok (.iadd, 1) := by decide +kernel
theorem d_M_predicate_77 : decode (cd m_M_predicate) 77 = .ok (.imul, 1) := by decide +kernel
theorem d_M_predicate_78 : decode (cd m_M_predicate) 78 = .ok (.lshr, 1) := by decide +kernel
theorem d_M_predicate_79 : decode (cd m_M_predicate) 79 = .ok (.ldc2_w 133, 3) := by decide +kernel
theorem d_M_predicate_82 : decode (cd m_M_predicate) 82 = .ok (.land, 1) := by decide +kernel
theorem d_M_predicate_83 : decode (cd m_M_predicate) 83 = .ok (.l2i, 1) := by decide +kernel
theorem d_M_predicate_84 : decode (cd m_M_predicate) 84 = .ok (.ireturn, 1) := by decide +kernel
theorem d_M_predicate_85 : decode (cd m_M_predicate) 85 = .ok (.iload_n 2, 1) := by decide +kernel
theorem d_M_predicate_86 : decode (cd m_M_predicate) 86 = .ok (.tableswitch 185 0 4 #[34, 49, 64, 122, 182], 34) := by decide +kernel
theorem d_M_predicate_120 : decode (cd m_M_predicate) 120 = .ok (.aload_n 0, 1) := by decide +kernel
theorem d_M_predicate_121 : decode (cd m_M_predicate) 121 = .ok (.getfield 32, 3) := by decide +kernel
theorem d_M_predicate_124 : decode (cd m_M_predicate) 124 = .ok (.bipush 16, 2) := by decide +kernel
theorem d_M_predicate_126 : decode (cd m_M_predicate) 126 = .ok (.aload_n 0, 1) := by decide +kernel
theorem d_M_predicate_127 : decode (cd m_M_predicate) 127 = .ok (.getfield 308, 3) := by decide +kernel
theorem d_M_predicate_130 : decode (cd m_M_predicate) 130 = .ok (.imul, 1) := by decide +kernel
theorem d_M_predicate_131 : decode (cd m_M_predicate) 131 = .ok (.iload_n 1, 1) := by decide +kernel
theorem d_M_predicate_132 : decode (cd m_M_predicate) 132 = .ok (.iadd, 1) := by decide +kernel
theorem d_M_predicate_133 : decode (cd m_M_predicate) 133 = .ok (.iaload, 1) := by decide +kernel
theorem d_M_predicate_134 : decode (cd m_M_predicate) 134 = .ok (.ireturn, 1) := by decide +kernel
theorem d_M_predicate_135 : decode (cd m_M_predicate) 135 = .ok (.aload_n 0, 1) := by decide +kernel
theorem d_M_predicate_136 : decode (cd m_M_predicate) 136 = .ok (.getfield 35, 3) := by decide +kernel
theorem d_M_predicate_139 : decode (cd m_M_predicate) 139 = .ok (.bipush 16, 2) := by decide +kernel
theorem d_M_predicate_141 : decode (cd m_M_predicate) 141 = .ok (.aload_n 0, 1) := by decide +kernel
theorem d_M_predicate_142 : decode (cd m_M_predicate) 142 = .ok (.getfield 308, 3) := by decide +kernel
theorem d_M_predicate_145 : decode (cd m_M_predicate) 145 = .ok (.imul, 1) := by decide +kernel
theorem d_M_predicate_146 : decode (cd m_M_predicate) 146 = .ok (.iload_n 1, 1) := by decide +kernel
theorem d_M_predicate_147 : decode (cd m_M_predicate) 147 = .ok (.iadd, 1) := by decide +kernel
theorem d_M_predicate_148 : decode (cd m_M_predicate) 148 = .ok (.iaload, 1) := by decide +kernel
theorem d_M_predicate_149 : decode (cd m_M_predicate) 149 = .ok (.ireturn, 1) := by decide +kernel
theorem d_M_predicate_150 : decode (cd m_M_predicate) 150 = .ok (.bipush 30, 2) := by decide +kernel
theorem d_M_predicate_152 : decode (cd m_M_predicate) 152 = .ok (.aload_n 0, 1) := by decide +kernel
theorem d_M_predicate_153 : decode (cd m_M_predicate) 153 = .ok (.getfield 308, 3) := by decide +kernel
theorem d_M_predicate_156 : decode (cd m_M_predicate) 156 = .ok (.imul, 1) := by decide +kernel
theorem d_M_predicate_157 : decode (cd m_M_predicate) 157 = .ok (.istore 7, 2) := by decide +kernel
theorem d_M_predicate_159 : decode (cd m_M_predicate) 159 = .ok (.iload 7, 2) := by decide +kernel
theorem d_M_predicate_161 : decode (cd m_M_predicate) 161 = .ok (.bipush 30, 2) := by decide +kernel
theorem d_M_predicate_163 : decode (cd m_M_predicate) 163 = .ok (.aload_n 0, 1) := by decide +kernel
theorem d_M_predicate_164 : decode (cd m_M_predicate) 164 = .ok (.getfield 308, 3) := by decide +kernel
theorem d_M_predicate_167 : decode (cd m_M_predicate) 167 = .ok (.imul, 1) := by decide +kernel
theorem d_M_predicate_168 : decode (cd m_M_predicate) 168 = .ok (.aload_n 0, 1) := by decide +kernel
theorem d_M_predicate_169 : decode (cd m_M_predicate) 169 = .ok (.getfield 38, 3) := by decide +kernel
theorem d_M_predicate_172 : decode (cd m_M_predicate) 172 = .ok (.aload_n 0, 1) := by decide +kernel
theorem d_M_predicate_173 : decode (cd m_M_predicate) 173 = .ok (.getfield 308, 3) := by decide +kernel
theorem d_M_predicate_176 : decode (cd m_M_predicate) 176 = .ok (.iaload, 1) := by decide +kernel
theorem d_M_predicate_177 : decode (cd m_M_predicate) 177 = .ok (.iadd, 1) := by decide +kernel
theorem d_M_predicate_178 : decode (cd m_M_predicate) 178 = .ok (.if_icmp .ge 28, 3) := by decide +kernel
theorem d_M_predicate_181 : decode (cd m_M_predicate) 181 = .ok (.iload_n 3, 1) := by decide +kernel
theorem d_M_predicate_182 : decode (cd m_M_predicate) 182 = .ok (.aload_n 0, 1) := by decide +kernel
theorem d_M_predicate_183 : decode (cd m_M_predicate) 183 = .ok (.getfield 41, 3) := by decide +kernel
theorem d_M_predicate_186 : decode (cd m_M_predicate) 186 = .ok (.iload 7, 2) := by decide +kernel
theorem d_M_predicate_188 : decode (cd m_M_predicate) 188 = .ok (.iaload, 1) := by decide +kernel
theorem d_M_predicate_189 : decode (cd m_M_predicate) 189 = .ok (.iload_n 1, 1) := by decide +kernel
theorem d_M_predicate_190 : decode (cd m_M_predicate) 190 = .ok (.if_icmp .ne 7, 3) := by decide +kernel
theorem d_M_predicate_193 : decode (cd m_M_predicate) 193 = .ok (.iconst 1, 1) := by decide +kernel
theorem d_M_predicate_194 : decode (cd m_M_predicate) 194 = .ok (.goto 4, 3) := by decide +kernel
theorem d_M_predicate_197 : decode (cd m_M_predicate) 197 = .ok (.iconst 0, 1) := by decide +kernel
theorem d_M_predicate_198 : decode (cd m_M_predicate) 198 = .ok (.iadd, 1) := by decide +kernel
theorem d_M_predicate_199 : decode (cd m_M_predicate) 199 = .ok (.istore_n 3, 1) := by decide +kernel
theorem d_M_predicate_200 : decode (cd m_M_predicate) 200 = .ok (.iinc 7 1, 3) := by decide +kernel
theorem d_M_predicate_203 : decode (cd m_M_predicate) 203 = .ok (.goto (-44), 3) := by decide +kernel
theorem d_M_predicate_206 : decode (cd m_M_predicate) 206 = .ok (.iload_n 3, 1) := by decide +kernel
theorem d_M_predicate_207 : decode (cd m_M_predicate) 207 = .ok (.ireturn, 1) := by decide +kernel
theorem d_M_predicate_208 : decode (cd m_M_predicate) 208 = .ok (.sipush 200, 3) := by decide +kernel
theorem d_M_predicate_211 : decode (cd m_M_predicate) 211 = .ok (.aload_n 0, 1) := by decide +kernel
theorem d_M_predicate_212 : decode (cd m_M_predicate) 212 = .ok (.getfield 308, 3) := by decide +kernel
theorem d_M_predicate_215 : decode (cd m_M_predicate) 215 = .ok (.imul, 1) := by decide +kernel
theorem d_M_predicate_216 : decode (cd m_M_predicate) 216 = .ok (.istore 7, 2) := by decide +kernel
theorem d_M_predicate_218 : decode (cd m_M_predicate) 218 = .ok (.iload 7, 2) := by decide +kernel
theorem d_M_predicate_220 : decode (cd m_M_predicate) 220 = .ok (.sipush 200, 3) := by decide +kernel
theorem d_M_predicate_223 : decode (cd m_M_predicate) 223 = .ok (.aload_n 0, 1) := by decide +kernel
theorem d_M_predicate_224 : decode (cd m_M_predicate) 224 = .ok (.getfield 308, 3) := by decide +kernel
theorem d_M_predicate_227 : decode (cd m_M_predicate) 227 = .ok (.imul, 1) := by decide +kernel
theorem d_M_predicate_228 : decode (cd m_M_predicate) 228 = .ok (.aload_n 0, 1) := by decide +kernel
theorem d_M_predicate_229 : decode (cd m_M_predicate) 229 = .ok (.getfield 74, 3) := by decide +kernel
theorem d_M_predicate_232 : decode (cd m_M_predicate) 232 = .ok (.aload_n 0, 1) := by decide +kernel
theorem d_M_predicate_233 : decode (cd m_M_predicate) 233 = .ok (.getfield 308, 3) := by decide +kernel
theorem d_M_predicate_236 : decode (cd m_M_predicate) 236 = .ok (.iaload, 1) := by decide +kernel
theorem d_M_predicate_237 : decode (cd m_M_predicate) 237 = .ok (.iadd, 1) := by decide +kernel
theorem d_M_predicate_238 : decode (cd m_M_predicate) 238 = .ok (.if_icmp .ge 28, 3) := by decide +kernel
theorem d_M_predicate_241 : decode (cd m_M_predicate) 241 = .ok (.iload_n 3, 1) := by decide +kernel
theorem d_M_predicate_242 : decode (cd m_M_predicate) 242 = .ok (.aload_n 0, 1) := by decide +kernel
theorem d_M_predicate_243 : decode (cd m_M_predicate) 243 = .ok (.getfield 77, 3) := by decide +kernel
theorem d_M_predicate_246 : decode (cd m_M_predicate) 246 = .ok (.iload 7, 2) := by decide +kernel
theorem d_M_predicate_248 : decode (cd m_M_predicate) 248 = .ok (.iaload, 1) := by decide +kernel
theorem d_M_predicate_249 : decode (cd m_M_predicate) 249 = .ok (.iload_n 1, 1) := by decide +kernel
theorem d_M_predicate_250 : decode (cd m_M_predicate) 250 = .ok (.if_icmp .ne 7, 3) := by decide +kernel
theorem d_M_predicate_253 : decode (cd m_M_predicate) 253 = .ok (.iconst 1, 1) := by decide +kernel
theorem d_M_predicate_254 : decode (cd m_M_predicate) 254 = .ok (.goto 4, 3) := by decide +kernel
theorem d_M_predicate_257 : decode (cd m_M_predicate) 257 = .ok (.iconst 0, 1) := by decide +kernel
theorem d_M_predicate_258 : decode (cd m_M_predicate) 258 = .ok (.iadd, 1) := by decide +kernel
theorem d_M_predicate_259 : decode (cd m_M_predicate) 259 = .ok (.istore_n 3, 1) := by decide +kernel
theorem d_M_predicate_260 : decode (cd m_M_predicate) 260 = .ok (.iinc 7 1, 3) := by decide +kernel
theorem d_M_predicate_263 : decode (cd m_M_predicate) 263 = .ok (.goto (-45), 3) := by decide +kernel
theorem d_M_predicate_266 : decode (cd m_M_predicate) 266 = .ok (.iload_n 3, 1) := by decide +kernel
theorem d_M_predicate_267 : decode (cd m_M_predicate) 267 = .ok (.ireturn, 1) := by decide +kernel
theorem d_M_predicate_268 : decode (cd m_M_predicate) 268 = .ok (.iload 6, 2) := by decide +kernel
theorem d_M_predicate_270 : decode (cd m_M_predicate) 270 = .ok (.ireturn, 1) := by decide +kernel
theorem d_M_predicate_271 : decode (cd m_M_predicate) 271 = .ok (.iconst (-1), 1) := by decide +kernel
theorem d_M_predicate_272 : decode (cd m_M_predicate) 272 = .ok (.ireturn, 1) := by decide +kernel
theorem d_M_hangs_0 : decode (cd m_M_hangs) 0 = .ok (.aload_n 0, 1) := by decide +kernel
theorem d_M_hangs_1 : decode (cd m_M_hangs) 1 = .ok (.iconst 0, 1) := by decide +kernel
theorem d_M_hangs_2 : decode (cd m_M_hangs) 2 = .ok (.putfield 126, 3) := by decide +kernel
theorem d_M_hangs_5 : decode (cd m_M_hangs) 5 = .ok (.iload_n 1, 1) := by decide +kernel
theorem d_M_hangs_6 : decode (cd m_M_hangs) 6 = .ok (.ifCond .lt 51, 3) := by decide +kernel
theorem d_M_hangs_9 : decode (cd m_M_hangs) 9 = .ok (.iload_n 1, 1) := by decide +kernel
theorem d_M_hangs_10 : decode (cd m_M_hangs) 10 = .ok (.aload_n 0, 1) := by decide +kernel
theorem d_M_hangs_11 : decode (cd m_M_hangs) 11 = .ok (.getfield 26, 3) := by decide +kernel
theorem d_M_hangs_14 : decode (cd m_M_hangs) 14 = .ok (.aload_n 0, 1) := by decide +kernel
theorem d_M_hangs_15 : decode (cd m_M_hangs) 15 = .ok (.getfield 308, 3) := by decide +kernel
theorem d_M_hangs_18 : decode (cd m_M_hangs) 18 = .ok (.iaload, 1) := by decide +kernel
theorem d_M_hangs_19 : decode (cd m_M_hangs) 19 = .ok (.if_icmp .ge 38, 3) := by decide +kernel
theorem d_M_hangs_22 : decode (cd m_M_hangs) 22 = .ok (.iload_n 2, 1) := by decide +kernel
theorem d_M_hangs_23 : decode (cd m_M_hangs) 23 = .ok (.ifCond .lt 34, 3) := by decide +kernel
theorem d_M_hangs_26 : decode (cd m_M_hangs) 26 = .ok (.iload_n 2, 1) := by decide +kernel
theorem d_M_hangs_27 : decode (cd m_M_hangs) 27 = .ok (.aload_n 0, 1) := by decide +kernel
theorem d_M_hangs_28 : decode (cd m_M_hangs) 28 = .ok (.getfield 26, 3) := by decide +kernel
theorem d_M_hangs_31 : decode (cd m_M_hangs) 31 = .ok (.aload_n 0, 1) := by decide +kernel
theorem d_M_hangs_32 : decode (cd m_M_hangs) 32 = .ok (.getfield 308, 3) := by decide +kernel
theorem d_M_hangs_35 : decode (cd m_M_hangs) 35 = .ok (.iaload, 1) := by decide +kernel
theorem d_M_hangs_36 : decode (cd m_M_hangs) 36 = .ok (.if_icmp .ge 21, 3) := by decide +kernel
theorem d_M_hangs_39 : decode (cd m_M_hangs) 39 = .ok (.aload_n 0, 1) := by decide +kernel
theorem d_M_hangs_40 : decode (cd m_M_hangs) 40 = .ok (.getfield 108, 3) := by decide +kernel
theorem d_M_hangs_43 : decode (cd m_M_hangs) 43 = .ok (.bipush 16, 2) := by decide +kernel
theorem d_M_hangs_45 : decode (cd m_M_hangs) 45 = .ok (.iload_n 1, 1) := by decide +kernel
theorem d_M_hangs_46 : decode (cd m_M_hangs) 46 = .ok (.imul, 1) := by decide +kernel
theorem d_M_hangs_47 : decode (cd m_M_hangs) 47 = .ok (.iload_n 2, 1) := by decide +kernel
theorem d_M_hangs_48 : decode (cd m_M_hangs) 48 = .ok (.iadd, 1) := by decide +kernel
theorem d_M_hangs_49 : decode (cd m_M_hangs) 49 = .ok (.baload, 1) := by decide +kernel
theorem d_M_hangs_50 : decode (cd m_M_hangs) 50 = .ok (.ifCond .eq 7, 3) := by decide +kernel
theorem d_M_hangs_53 : decode (cd m_M_hangs) 53 = .ok (.iconst 1, 1) := by decide +kernel
theorem d_M_hangs_54 : decode (cd m_M_hangs) 54 = .ok (.goto 4, 3) := by decide +kernel
theorem d_M_hangs_57 : decode (cd m_M_hangs) 57 = .ok (.iconst 0, 1) := by decide +kernel
theorem d_M_hangs_58 : decode (cd m_M_hangs) 58 = .ok (.ireturn, 1) := by decide +kernel
theorem d_M_rule_0 : decode (cd m_M_rule) 0 = .ok (.iload_n 1, 1) := by decide +kernel
theorem d_M_rule_1 : decode (cd m_M_rule) 1 = .ok (.ifCond .lt 25, 3) := by decide +kernel
theorem d_M_rule_4 : decode (cd m_M_rule) 4 = .ok (.iload_n 1, 1) := by decide +kernel
theorem d_M_rule_5 : decode (cd m_M_rule) 5 = .ok (.aload_n 0, 1) := by decide +kernel
theorem d_M_rule_6 : decode (cd m_M_rule) 6 = .ok (.getfield 38, 3) := by decide +kernel
theorem d_M_rule_9 : decode (cd m_M_rule) 9 = .ok (.aload_n 0, 1) := by decide +kernel
theorem d_M_rule_10 : decode (cd m_M_rule) 10 = .ok (.getfield 308, 3) := by decide +kernel
theorem d_M_rule_13 : decode (cd m_M_rule) 13 = .ok (.iaload, 1) := by decide +kernel
theorem d_M_rule_14 : decode (cd m_M_rule) 14 = .ok (.if_icmp .ge 12, 3) := by decide +kernel
theorem d_M_rule_17 : decode (cd m_M_rule) 17 = .ok (.iload_n 2, 1) := by decide +kernel
theorem d_M_rule_18 : decode (cd m_M_rule) 18 = .ok (.ifCond .lt 8, 3) := by decide +kernel
theorem d_M_rule_21 : decode (cd m_M_rule) 21 = .ok (.iload_n 2, 1) := by decide +kernel
theorem d_M_rule_22 : decode (cd m_M_rule) 22 = .ok (.iconst 4, 1) := by decide +kernel
theorem d_M_rule_23 : decode (cd m_M_rule) 23 = .ok (.if_icmp .le 9, 3) := by decide +kernel
theorem d_M_rule_26 : decode (cd m_M_rule) 26 = .ok (.aload_n 0, 1) := by decide +kernel
theorem d_M_rule_27 : decode (cd m_M_rule) 27 = .ok (.iconst 1, 1) := by decide +kernel
theorem d_M_rule_28 : decode (cd m_M_rule) 28 = .ok (.invokevirtual 317, 3) := by decide +kernel
theorem d_M_rule_31 : decode (cd m_M_rule) 31 = .ok (.ireturn, 1) := by decide +kernel
theorem d_M_rule_32 : decode (cd m_M_rule) 32 = .ok (.aload_n 0, 1) := by decide +kernel
theorem d_M_rule_33 : decode (cd m_M_rule) 33 = .ok (.iconst 0, 1) := by decide +kernel
theorem d_M_rule_34 : decode (cd m_M_rule) 34 = .ok (.putfield 126, 3) := by decide +kernel
theorem d_M_rule_37 : decode (cd m_M_rule) 37 = .ok (.bipush 30, 2) := by decide +kernel
theorem d_M_rule_39 : decode (cd m_M_rule) 39 = .ok (.aload_n 0, 1) := by decide +kernel
theorem d_M_rule_40 : decode (cd m_M_rule) 40 = .ok (.getfield 308, 3) := by decide +kernel
theorem d_M_rule_43 : decode (cd m_M_rule) 43 = .ok (.imul, 1) := by decide +kernel
theorem d_M_rule_44 : decode (cd m_M_rule) 44 = .ok (.iload_n 1, 1) := by decide +kernel
theorem d_M_rule_45 : decode (cd m_M_rule) 45 = .ok (.iadd, 1) := by decide +kernel
theorem d_M_rule_46 : decode (cd m_M_rule) 46 = .ok (.istore_n 3, 1) := by decide +kernel
theorem d_M_rule_47 : decode (cd m_M_rule) 47 = .ok (.iconst 0, 1) := by decide +kernel
theorem d_M_rule_48 : decode (cd m_M_rule) 48 = .ok (.istore 4, 2) := by decide +kernel
theorem d_M_rule_50 : decode (cd m_M_rule) 50 = .ok (.bipush 6, 2) := by decide +kernel
theorem d_M_rule_52 : decode (cd m_M_rule) 52 = .ok (.iload_n 3, 1) := by decide +kernel
theorem d_M_rule_53 : decode (cd m_M_rule) 53 = .ok (.imul, 1) := by decide +kernel
theorem d_M_rule_54 : decode (cd m_M_rule) 54 = .ok (.istore 5, 2) := by decide +kernel
theorem d_M_rule_56 : decode (cd m_M_rule) 56 = .ok (.iload 5, 2) := by decide +kernel
theorem d_M_rule_58 : decode (cd m_M_rule) 58 = .ok (.bipush 6, 2) := by decide +kernel
theorem d_M_rule_60 : decode (cd m_M_rule) 60 = .ok (.iload_n 3, 1) := by decide +kernel
theorem d_M_rule_61 : decode (cd m_M_rule) 61 = .ok (.imul, 1) := by decide +kernel
theorem d_M_rule_62 : decode (cd m_M_rule) 62 = .ok (.aload_n 0, 1) := by decide +kernel
theorem d_M_rule_63 : decode (cd m_M_rule) 63 = .ok (.getfield 56, 3) := by decide +kernel
theorem d_M_rule_66 : decode (cd m_M_rule) 66 = .ok (.iload_n 3, 1) := by decide +kernel
theorem d_M_rule_67 : decode (cd m_M_rule) 67 = .ok (.iaload, 1) := by decide +kernel
theorem d_M_rule_68 : decode (cd m_M_rule) 68 = .ok (.iadd, 1) := by decide +kernel
theorem d_M_rule_69 : decode (cd m_M_rule) 69 = .ok (.if_icmp .ge 49, 3) := by decide +kernel
theorem d_M_rule_72 : decode (cd m_M_rule) 72 = .ok (.iload 4, 2) := by decide +kernel
theorem d_M_rule_74 : decode (cd m_M_rule) 74 = .ok (.aload_n 0, 1) := by decide +kernel
theorem d_M_rule_75 : decode (cd m_M_rule) 75 = .ok (.getfield 62, 3) := by decide +kernel
theorem d_M_rule_78 : decode (cd m_M_rule) 78 = .ok (.iload 5, 2) := by decide +kernel
theorem d_M_rule_80 : decode (cd m_M_rule) 80 = .ok (.iaload, 1) := by decide +kernel
theorem d_M_rule_81 : decode (cd m_M_rule) 81 = .ok (.ifCond .ne 27, 3) := by decide +kernel
theorem d_M_rule_84 : decode (cd m_M_rule) 84 = .ok (.aload_n 0, 1) := by decide +kernel
theorem d_M_rule_85 : decode (cd m_M_rule) 85 = .ok (.aload_n 0, 1) := by decide +kernel
theorem d_M_rule_86 : decode (cd m_M_rule) 86 = .ok (.getfield 41, 3) := by decide +kernel
theorem d_M_rule_89 : decode (cd m_M_rule) 89 = .ok (.iload_n 3, 1) := by decide +kernel
theorem d_M_rule_90 : decode (cd m_M_rule) 90 = .ok (.iaload, 1) := by decide +kernel
theorem d_M_rule_91 : decode (cd m_M_rule) 91 = .ok (.aload_n 0, 1) := by decide +kernel
theorem d_M_rule_92 : decode (cd m_M_rule) 92 = .ok (.getfield 65, 3) := by decide +kernel
theorem d_M_rule_95 : decode (cd m_M_rule) 95 = .ok (.iload 5, 2) := by decide +kernel
theorem d_M_rule_97 : decode (cd m_M_rule) 97 = .ok (.iaload, 1) := by decide +kernel
theorem d_M_rule_98 : decode (cd m_M_rule) 98 = .ok (.invokevirtual 302, 3) := by decide +kernel
theorem d_M_rule_101 : decode (cd m_M_rule) 101 = .ok (.ifCond .eq 7, 3) := by decide +kernel
theorem d_M_rule_104 : decode (cd m_M_rule) 104 = .ok (.iconst 1, 1) := by decide +kernel
theorem d_M_rule_105 : decode (cd m_M_rule) 105 = .ok (.goto 4, 3) := by decide +kernel
theorem d_M_rule_108 : decode (cd m_M_rule) 108 = .ok (.iconst 0, 1) := by decide +kernel
theorem d_M_rule_109 : decode (cd m_M_rule) 109 = .ok (.iadd, 1) := by decide +kernel
theorem d_M_rule_110 : decode (cd m_M_rule) 110 = .ok (.istore 4, 2) := by decide +kernel
theorem d_M_rule_112 : decode (cd m_M_rule) 112 = .ok (.iinc 5 1, 3) := by decide +kernel
theorem d_M_rule_115 : decode (cd m_M_rule) 115 = .ok (.goto (-59), 3) := by decide +kernel
theorem d_M_rule_118 : decode (cd m_M_rule) 118 = .ok (.iload_n 2, 1) := by decide +kernel
theorem d_M_rule_119 : decode (cd m_M_rule) 119 = .ok (.tableswitch 72 0 3 #[29, 36, 43, 50], 29) := by decide +kernel
theorem d_M_rule_148 : decode (cd m_M_rule) 148 = .ok (.aload_n 0, 1) := by decide +kernel
theorem d_M_rule_149 : decode (cd m_M_rule) 149 = .ok (.getfield 41, 3) := by decide +kernel
theorem d_M_rule_152 : decode (cd m_M_rule) 152 = .ok (.iload_n 3, 1) := by decide +kernel
theorem d_M_rule_153 : decode (cd m_M_rule) 153 = .ok (.iaload, 1) := by decide +kernel
theorem d_M_rule_154 : decode (cd m_M_rule) 154 = .ok (.ireturn, 1) := by decide +kernel
theorem d_M_rule_155 : decode (cd m_M_rule) 155 = .ok (.aload_n 0, 1) := by decide +kernel
theorem d_M_rule_156 : decode (cd m_M_rule) 156 = .ok (.getfield 56, 3) := by decide +kernel
theorem d_M_rule_159 : decode (cd m_M_rule) 159 = .ok (.iload_n 3, 1) := by decide +kernel
theorem d_M_rule_160 : decode (cd m_M_rule) 160 = .ok (.iaload, 1) := by decide +kernel
theorem d_M_rule_161 : decode (cd m_M_rule) 161 = .ok (.ireturn, 1) := by decide +kernel
theorem d_M_rule_162 : decode (cd m_M_rule) 162 = .ok (.aload_n 0, 1) := by decide +kernel
theorem d_M_rule_163 : decode (cd m_M_rule) 163 = .ok (.getfield 59, 3) := by decide +kernel
theorem d_M_rule_166 : decode (cd m_M_rule) 166 = .ok (.iload_n 3, 1) := by decide +kernel
theorem d_M_rule_167 : decode (cd m_M_rule) 167 = .ok (.iaload, 1) := by decide +kernel
theorem d_M_rule_168 : decode (cd m_M_rule) 168 = .ok (.ireturn, 1) := by decide +kernel
theorem d_M_rule_169 : decode (cd m_M_rule) 169 = .ok (.aload_n 0, 1) := by decide +kernel
theorem d_M_rule_170 : decode (cd m_M_rule) 170 = .ok (.getfield 50, 3) := by decide +kernel
theorem d_M_rule_173 : decode (cd m_M_rule) 173 = .ok (.iload_n 3, 1) := by decide +kernel
theorem d_M_rule_174 : decode (cd m_M_rule) 174 = .ok (.iaload, 1) := by decide +kernel
theorem d_M_rule_175 : decode (cd m_M_rule) 175 = .ok (.ifCond .le 14, 3) := by decide +kernel
theorem d_M_rule_178 : decode (cd m_M_rule) 178 = .ok (.aload_n 0, 1) := by decide +kernel
theorem d_M_rule_179 : decode (cd m_M_rule) 179 = .ok (.getfield 50, 3) := by decide +kernel
theorem d_M_rule_182 : decode (cd m_M_rule) 182 = .ok (.iload_n 3, 1) := by decide +kernel
theorem d_M_rule_183 : decode (cd m_M_rule) 183 = .ok (.iaload, 1) := by decide +kernel
theorem d_M_rule_184 : decode (cd m_M_rule) 184 = .ok (.iconst 1, 1) := by decide +kernel
theorem d_M_rule_185 : decode (cd m_M_rule) 185 = .ok (.isub, 1) := by decide +kernel
theorem d_M_rule_186 : decode (cd m_M_rule) 186 = .ok (.goto 4, 3) := by decide +kernel
theorem d_M_rule_189 : decode (cd m_M_rule) 189 = .ok (.iconst 0, 1) := by decide +kernel
theorem d_M_rule_190 : decode (cd m_M_rule) 190 = .ok (.ireturn, 1) := by decide +kernel
theorem d_M_rule_191 : decode (cd m_M_rule) 191 = .ok (.iload 4, 2) := by decide +kernel
theorem d_M_rule_193 : decode (cd m_M_rule) 193 = .ok (.ireturn, 1) := by decide +kernel
theorem d_M_literal_0 : decode (cd m_M_literal) 0 = .ok (.iload_n 1, 1) := by decide +kernel
theorem d_M_literal_1 : decode (cd m_M_literal) 1 = .ok (.ifCond .lt 47, 3) := by decide +kernel
theorem d_M_literal_4 : decode (cd m_M_literal) 4 = .ok (.iload_n 1, 1) := by decide +kernel
theorem d_M_literal_5 : decode (cd m_M_literal) 5 = .ok (.aload_n 0, 1) := by decide +kernel
theorem d_M_literal_6 : decode (cd m_M_literal) 6 = .ok (.getfield 38, 3) := by decide +kernel
theorem d_M_literal_9 : decode (cd m_M_literal) 9 = .ok (.aload_n 0, 1) := by decide +kernel
theorem d_M_literal_10 : decode (cd m_M_literal) 10 = .ok (.getfield 308, 3) := by decide +kernel
theorem d_M_literal_13 : decode (cd m_M_literal) 13 = .ok (.iaload, 1) := by decide +kernel
theorem d_M_literal_14 : decode (cd m_M_literal) 14 = .ok (.if_icmp .ge 34, 3) := by decide +kernel
theorem d_M_literal_17 : decode (cd m_M_literal) 17 = .ok (.iload_n 2, 1) := by decide +kernel
theorem d_M_literal_18 : decode (cd m_M_literal) 18 = .ok (.ifCond .lt 30, 3) := by decide +kernel
theorem d_M_literal_21 : decode (cd m_M_literal) 21 = .ok (.iload_n 2, 1) := by decide +kernel
theorem d_M_literal_22 : decode (cd m_M_literal) 22 = .ok (.aload_n 0, 1) := by decide +kernel
theorem d_M_literal_23 : decode (cd m_M_literal) 23 = .ok (.getfield 56, 3) := by decide +kernel
theorem d_M_literal_26 : decode (cd m_M_literal) 26 = .ok (.bipush 30, 2) := by decide +kernel
theorem d_M_literal_28 : decode (cd m_M_literal) 28 = .ok (.aload_n 0, 1) := by decide +kernel
theorem d_M_literal_29 : decode (cd m_M_literal) 29 = .ok (.getfield 308, 3) := by decide +kernel
theorem d_M_literal_32 : decode (cd m_M_literal) 32 = .ok (.imul, 1) := by decide +kernel
theorem d_M_literal_33 : decode (cd m_M_literal) 33 = .ok (.iload_n 1, 1) := by decide +kernel
theorem d_M_literal_34 : decode (cd m_M_literal) 34 = .ok (.iadd, 1) := by decide +kernel
theorem d_M_literal_35 : decode (cd m_M_literal) 35 = .ok (.iaload, 1) := by decide +kernel
theorem d_M_literal_36 : decode (cd m_M_literal) 36 = .ok (.if_icmp .ge 12, 3) := by decide +kernel
theorem d_M_literal_39 : decode (cd m_M_literal) 39 = .ok (.iload_n 3, 1) := by decide +kernel
theorem d_M_literal_40 : decode (cd m_M_literal) 40 = .ok (.ifCond .lt 8, 3) := by decide +kernel
theorem d_M_literal_43 : decode (cd m_M_literal) 43 = .ok (.iload_n 3, 1) := by decide +kernel
theorem d_M_literal_44 : decode (cd m_M_literal) 44 = .ok (.iconst 4, 1) := by decide +kernel
theorem d_M_literal_45 : decode (cd m_M_literal) 45 = .ok (.if_icmp .le 9, 3) := by decide +kernel
theorem d_M_literal_48 : decode (cd m_M_literal) 48 = .ok (.aload_n 0, 1) := by decide +kernel
theorem d_M_literal_49 : decode (cd m_M_literal) 49 = .ok (.iconst 1, 1) := by decide +kernel
theorem d_M_literal_50 : decode (cd m_M_literal) 50 = .ok (.invokevirtual 317, 3) := by decide +kernel
theorem d_M_literal_53 : decode (cd m_M_literal) 53 = .ok (.ireturn, 1) := by decide +kernel
theorem d_M_literal_54 : decode (cd m_M_literal) 54 = .ok (.aload_n 0, 1) := by decide +kernel
theorem d_M_literal_55 : decode (cd m_M_literal) 55 = .ok (.iconst 0, 1) := by decide +kernel
theorem d_M_literal_56 : decode (cd m_M_literal) 56 = .ok (.putfield 126, 3) := by decide +kernel
theorem d_M_literal_59 : decode (cd m_M_literal) 59 = .ok (.aload_n 0, 1) := by decide +kernel
theorem d_M_literal_60 : decode (cd m_M_literal) 60 = .ok (.bipush 30, 2) := by decide +kernel
theorem d_M_literal_62 : decode (cd m_M_literal) 62 = .ok (.aload_n 0, 1) := by decide +kernel
theorem d_M_literal_63 : decode (cd m_M_literal) 63 = .ok (.getfield 308, 3) := by decide +kernel
theorem d_M_literal_66 : decode (cd m_M_literal) 66 = .ok (.imul, 1) := by decide +kernel
theorem d_M_literal_67 : decode (cd m_M_literal) 67 = .ok (.iload_n 1, 1) := by decide +kernel
theorem d_M_literal_68 : decode (cd m_M_literal) 68 = .ok (.iadd, 1) := by decide +kernel
theorem d_M_literal_69 : decode (cd m_M_literal) 69 = .ok (.invokevirtual 341, 3) := by decide +kernel
theorem d_M_literal_72 : decode (cd m_M_literal) 72 = .ok (.bipush 6, 2) := by decide +kernel
theorem d_M_literal_74 : decode (cd m_M_literal) 74 = .ok (.bipush 30, 2) := by decide +kernel
theorem d_M_literal_76 : decode (cd m_M_literal) 76 = .ok (.aload_n 0, 1) := by decide +kernel
theorem d_M_literal_77 : decode (cd m_M_literal) 77 = .ok (.getfield 308, 3) := by decide +kernel
theorem d_M_literal_80 : decode (cd m_M_literal) 80 = .ok (.imul, 1) := by decide +kernel
theorem d_M_literal_81 : decode (cd m_M_literal) 81 = .ok (.iload_n 1, 1) := by decide +kernel
theorem d_M_literal_82 : decode (cd m_M_literal) 82 = .ok (.iadd, 1) := by decide +kernel
theorem d_M_literal_83 : decode (cd m_M_literal) 83 = .ok (.imul, 1) := by decide +kernel
theorem d_M_literal_84 : decode (cd m_M_literal) 84 = .ok (.aload_n 0, 1) := by decide +kernel
theorem d_M_literal_85 : decode (cd m_M_literal) 85 = .ok (.getfield 111, 3) := by decide +kernel
theorem d_M_literal_88 : decode (cd m_M_literal) 88 = .ok (.iload_n 2, 1) := by decide +kernel
theorem d_M_literal_89 : decode (cd m_M_literal) 89 = .ok (.iaload, 1) := by decide +kernel
theorem d_M_literal_90 : decode (cd m_M_literal) 90 = .ok (.iadd, 1) := by decide +kernel
theorem d_M_literal_91 : decode (cd m_M_literal) 91 = .ok (.istore 4, 2) := by decide +kernel
theorem d_M_literal_93 : decode (cd m_M_literal) 93 = .ok (.iload_n 3, 1) := by decide +kernel
theorem d_M_literal_94 : decode (cd m_M_literal) 94 = .ok (.tableswitch 73 0 3 #[30, 37, 45, 66], 30) := by decide +kernel
theorem d_M_literal_124 : decode (cd m_M_literal) 124 = .ok (.aload_n 0, 1) := by decide +kernel
theorem d_M_literal_125 : decode (cd m_M_literal) 125 = .ok (.getfield 111, 3) := by decide +kernel
theorem d_M_literal_128 : decode (cd m_M_literal) 128 = .ok (.iload_n 2, 1) := by decide +kernel
theorem d_M_literal_129 : decode (cd m_M_literal) 129 = .ok (.iaload, 1) := by decide +kernel
theorem d_M_literal_130 : decode (cd m_M_literal) 130 = .ok (.ireturn, 1) := by decide +kernel
theorem d_M_literal_131 : decode (cd m_M_literal) 131 = .ok (.aload_n 0, 1) := by decide +kernel
theorem d_M_literal_132 : decode (cd m_M_literal) 132 = .ok (.getfield 62, 3) := by decide +kernel
theorem d_M_literal_135 : decode (cd m_M_literal) 135 = .ok (.iload 4, 2) := by decide +kernel
theorem d_M_literal_137 : decode (cd m_M_literal) 137 = .ok (.iaload, 1) := by decide +kernel
theorem d_M_literal_138 : decode (cd m_M_literal) 138 = .ok (.ireturn, 1) := by decide +kernel
theorem d_M_literal_139 : decode (cd m_M_literal) 139 = .ok (.aload_n 0, 1) := by decide +kernel
theorem d_M_literal_140 : decode (cd m_M_literal) 140 = .ok (.iload 4, 2) := by decide +kernel
theorem d_M_literal_142 : decode (cd m_M_literal) 142 = .ok (.invokevirtual 296, 3) := by decide +kernel
theorem d_M_literal_145 : decode (cd m_M_literal) 145 = .ok (.ifCond .eq 13, 3) := by decide +kernel
theorem d_M_literal_148 : decode (cd m_M_literal) 148 = .ok (.aload_n 0, 1) := by decide +kernel
theorem d_M_literal_149 : decode (cd m_M_literal) 149 = .ok (.getfield 65, 3) := by decide +kernel
theorem d_M_literal_152 : decode (cd m_M_literal) 152 = .ok (.iload 4, 2) := by decide +kernel
theorem d_M_literal_154 : decode (cd m_M_literal) 154 = .ok (.iaload, 1) := by decide +kernel
theorem d_M_literal_155 : decode (cd m_M_literal) 155 = .ok (.goto 4, 3) := by decide +kernel
theorem d_M_literal_158 : decode (cd m_M_literal) 158 = .ok (.iconst (-1), 1) := by decide +kernel
theorem d_M_literal_159 : decode (cd m_M_literal) 159 = .ok (.ireturn, 1) := by decide +kernel
theorem d_M_literal_160 : decode (cd m_M_literal) 160 = .ok (.aload_n 0, 1) := by decide +kernel
theorem d_M_literal_161 : decode (cd m_M_literal) 161 = .ok (.getfield 114, 3) := by decide +kernel
theorem d_M_literal_164 : decode (cd m_M_literal) 164 = .ok (.iload_n 2, 1) := by decide +kernel
theorem d_M_literal_165 : decode (cd m_M_literal) 165 = .ok (.iaload, 1) := by decide +kernel
theorem d_M_literal_166 : decode (cd m_M_literal) 166 = .ok (.ireturn, 1) := by decide +kernel
theorem d_M_literal_167 : decode (cd m_M_literal) 167 = .ok (.aload_n 0, 1) := by decide +kernel
theorem d_M_literal_168 : decode (cd m_M_literal) 168 = .ok (.getfield 117, 3) := by decide +kernel
theorem d_M_literal_171 : decode (cd m_M_literal) 171 = .ok (.iload_n 2, 1) := by decide +kernel
theorem d_M_literal_172 : decode (cd m_M_literal) 172 = .ok (.iaload, 1) := by decide +kernel
theorem d_M_literal_173 : decode (cd m_M_literal) 173 = .ok (.ireturn, 1) := by decide +kernel
end
section
/-! decode rows (by program) -/
theorem d_L_program_0 : decode (cd m_L_program) 0 = .ok (.aload_n 1, 1) := by decide +kernel
theorem d_L_program_1 : decode (cd m_L_program) 1 = .ok (.iconst 0, 1) := by decide +kernel
theorem d_L_program_2 : decode (cd m_L_program) 2 = .ok (.aload_n 0, 1) := by decide +kernel
theorem d_L_program_3 : decode (cd m_L_program) 3 = .ok (.invokevirtual 7, 3) := by decide +kernel
theorem d_L_program_6 : decode (cd m_L_program) 6 = .ok (.i2l, 1) := by decide +kernel
theorem d_L_program_7 : decode (cd m_L_program) 7 = .ok (.lastore, 1) := by decide +kernel
theorem d_L_program_8 : decode (cd m_L_program) 8 = .ok (.goto 6, 3) := by decide +kernel
theorem d_L_program_11 : decode (cd m_L_program) 11 = .ok (.astore_n 2, 1) := by decide +kernel
theorem d_L_program_12 : decode (cd m_L_program) 12 = .ok (.iconst 1, 1) := by decide +kernel
theorem d_L_program_13 : decode (cd m_L_program) 13 = .ok (.ireturn, 1) := by decide +kernel
theorem d_L_program_14 : decode (cd m_L_program) 14 = .ok (.iconst 0, 1) := by decide +kernel
theorem d_L_program_15 : decode (cd m_L_program) 15 = .ok (.ireturn, 1) := by decide +kernel
theorem d_L_rule_0 : decode (cd m_L_rule) 0 = .ok (.aload_n 3, 1) := by decide +kernel
theorem d_L_rule_1 : decode (cd m_L_rule) 1 = .ok (.iconst 0, 1) := by decide +kernel
theorem d_L_rule_2 : decode (cd m_L_rule) 2 = .ok (.aload_n 0, 1) := by decide +kernel
theorem d_L_rule_3 : decode (cd m_L_rule) 3 = .ok (.iload_n 1, 1) := by decide +kernel
theorem d_L_rule_4 : decode (cd m_L_rule) 4 = .ok (.iload_n 2, 1) := by decide +kernel
theorem d_L_rule_5 : decode (cd m_L_rule) 5 = .ok (.invokevirtual 15, 3) := by decide +kernel
theorem d_L_rule_8 : decode (cd m_L_rule) 8 = .ok (.i2l, 1) := by decide +kernel
theorem d_L_rule_9 : decode (cd m_L_rule) 9 = .ok (.lastore, 1) := by decide +kernel
theorem d_L_rule_10 : decode (cd m_L_rule) 10 = .ok (.goto 7, 3) := by decide +kernel
theorem d_L_rule_13 : decode (cd m_L_rule) 13 = .ok (.astore 4, 2) := by decide +kernel
theorem d_L_rule_15 : decode (cd m_L_rule) 15 = .ok (.iconst 1, 1) := by decide +kernel
theorem d_L_rule_16 : decode (cd m_L_rule) 16 = .ok (.ireturn, 1) := by decide +kernel
theorem d_L_rule_17 : decode (cd m_L_rule) 17 = .ok (.iconst 0, 1) := by decide +kernel
theorem d_L_rule_18 : decode (cd m_L_rule) 18 = .ok (.ireturn, 1) := by decide +kernel
theorem d_L_literal_0 : decode (cd m_L_literal) 0 = .ok (.aload 4, 2) := by decide +kernel
theorem d_L_literal_2 : decode (cd m_L_literal) 2 = .ok (.iconst 0, 1) := by decide +kernel
theorem d_L_literal_3 : decode (cd m_L_literal) 3 = .ok (.aload_n 0, 1) := by decide +kernel
theorem d_L_literal_4 : decode (cd m_L_literal) 4 = .ok (.iload_n 1, 1) := by decide +kernel
theorem d_L_literal_5 : decode (cd m_L_literal) 5 = .ok (.iload_n 2, 1) := by decide +kernel
theorem d_L_literal_6 : decode (cd m_L_literal) 6 = .ok (.iload_n 3, 1) := by decide +kernel
theorem d_L_literal_7 : decode (cd m_L_literal) 7 = .ok (.invokevirtual 21, 3) := by decide +kernel
theorem d_L_literal_10 : decode (cd m_L_literal) 10 = .ok (.i2l, 1) := by decide +kernel
theorem d_L_literal_11 : decode (cd m_L_literal) 11 = .ok (.lastore, 1) := by decide +kernel
theorem d_L_literal_12 : decode (cd m_L_literal) 12 = .ok (.goto 7, 3) := by decide +kernel
theorem d_L_literal_15 : decode (cd m_L_literal) 15 = .ok (.astore 5, 2) := by decide +kernel
theorem d_L_literal_17 : decode (cd m_L_literal) 17 = .ok (.iconst 1, 1) := by decide +kernel
theorem d_L_literal_18 : decode (cd m_L_literal) 18 = .ok (.ireturn, 1) := by decide +kernel
theorem d_L_literal_19 : decode (cd m_L_literal) 19 = .ok (.iconst 0, 1) := by decide +kernel
theorem d_L_literal_20 : decode (cd m_L_literal) 20 = .ok (.ireturn, 1) := by decide +kernel
theorem d_L_law_0 : decode (cd m_L_law) 0 = .ok (.new 8, 3) := by decide +kernel
theorem d_L_law_3 : decode (cd m_L_law) 3 = .ok (.dup, 1) := by decide +kernel
theorem d_L_law_4 : decode (cd m_L_law) 4 = .ok (.invokespecial 25, 3) := by decide +kernel
theorem d_L_law_7 : decode (cd m_L_law) 7 = .ok (.astore_n 1, 1) := by decide +kernel
theorem d_L_law_8 : decode (cd m_L_law) 8 = .ok (.new 26, 3) := by decide +kernel
theorem d_L_law_11 : decode (cd m_L_law) 11 = .ok (.dup, 1) := by decide +kernel
theorem d_L_law_12 : decode (cd m_L_law) 12 = .ok (.invokespecial 28, 3) := by decide +kernel
theorem d_L_law_15 : decode (cd m_L_law) 15 = .ok (.astore_n 2, 1) := by decide +kernel
theorem d_L_law_16 : decode (cd m_L_law) 16 = .ok (.iconst 1, 1) := by decide +kernel
theorem d_L_law_17 : decode (cd m_L_law) 17 = .ok (.newarray .long, 2) := by decide +kernel
theorem d_L_law_19 : decode (cd m_L_law) 19 = .ok (.astore_n 3, 1) := by decide +kernel
theorem d_L_law_20 : decode (cd m_L_law) 20 = .ok (.iconst 0, 1) := by decide +kernel
theorem d_L_law_21 : decode (cd m_L_law) 21 = .ok (.istore 4, 2) := by decide +kernel
theorem d_L_law_23 : decode (cd m_L_law) 23 = .ok (.iload 4, 2) := by decide +kernel
theorem d_L_law_25 : decode (cd m_L_law) 25 = .ok (.aload_n 0, 1) := by decide +kernel
theorem d_L_law_26 : decode (cd m_L_law) 26 = .ok (.arraylength, 1) := by decide +kernel
theorem d_L_law_27 : decode (cd m_L_law) 27 = .ok (.iconst 4, 1) := by decide +kernel
theorem d_L_law_28 : decode (cd m_L_law) 28 = .ok (.isub, 1) := by decide +kernel
theorem d_L_law_29 : decode (cd m_L_law) 29 = .ok (.if_icmp .gt 434, 3) := by decide +kernel
theorem d_L_law_32 : decode (cd m_L_law) 32 = .ok (.aload_n 0, 1) := by decide +kernel
theorem d_L_law_33 : decode (cd m_L_law) 33 = .ok (.iload 4, 2) := by decide +kernel
theorem d_L_law_35 : decode (cd m_L_law) 35 = .ok (.iaload, 1) := by decide +kernel
theorem d_L_law_36 : decode (cd m_L_law) 36 = .ok (.bipush 7, 2) := by decide +kernel
theorem d_L_law_38 : decode (cd m_L_law) 38 = .ok (.iand, 1) := by decide +kernel
theorem d_L_law_39 : decode (cd m_L_law) 39 = .ok (.tableswitch 418 0 7 #[45, 114, 158, 183, 196, 233, 270, 338], 45) := by decide +kernel
theorem d_L_law_84 : decode (cd m_L_law) 84 = .ok (.aload_n 1, 1) := by decide +kernel
theorem d_L_law_85 : decode (cd m_L_law) 85 = .ok (.aload_n 0, 1) := by decide +kernel
theorem d_L_law_86 : decode (cd m_L_law) 86 = .ok (.iload 4, 2) := by decide +kernel
theorem d_L_law_88 : decode (cd m_L_law) 88 = .ok (.iconst 1, 1) := by decide +kernel
theorem d_L_law_89 : decode (cd m_L_law) 89 = .ok (.iadd, 1) := by decide +kernel
theorem d_L_law_90 : decode (cd m_L_law) 90 = .ok (.iaload, 1) := by decide +kernel
theorem d_L_law_91 : decode (cd m_L_law) 91 = .ok (.i2l, 1) := by decide +kernel
theorem d_L_law_92 : decode (cd m_L_law) 92 = .ok (.bipush 32, 2) := by decide +kernel
theorem d_L_law_94 : decode (cd m_L_law) 94 = .ok (.lshl, 1) := by decide +kernel
theorem d_L_law_95 : decode (cd m_L_law) 95 = .ok (.aload_n 0, 1) := by decide +kernel
theorem d_L_law_96 : decode (cd m_L_law) 96 = .ok (.iload 4, 2) := by decide +kernel
theorem d_L_law_98 : decode (cd m_L_law) 98 = .ok (.iconst 2, 1) := by decide +kernel
theorem d_L_law_99 : decode (cd m_L_law) 99 = .ok (.iadd, 1) := by decide +kernel
theorem d_L_law_100 : decode (cd m_L_law) 100 = .ok (.iaload, 1) := by decide +kernel
theorem d_L_law_101 : decode (cd m_L_law) 101 = .ok (.i2l, 1) := by decide +kernel
theorem d_L_law_102 : decode (cd m_L_law) 102 = .ok (.ldc2_w 29, 3) := by decide +kernel
theorem d_L_law_105 : decode (cd m_L_law) 105 = .ok (.land, 1) := by decide +kernel
theorem d_L_law_106 : decode (cd m_L_law) 106 = .ok (.lor, 1) := by decide +kernel
theorem d_L_law_107 : decode (cd m_L_law) 107 = .ok (.aload_n 0, 1) := by decide +kernel
theorem d_L_law_108 : decode (cd m_L_law) 108 = .ok (.iload 4, 2) := by decide +kernel
theorem d_L_law_110 : decode (cd m_L_law) 110 = .ok (.iconst 3, 1) := by decide +kernel
theorem d_L_law_111 : decode (cd m_L_law) 111 = .ok (.iadd, 1) := by decide +kernel
theorem d_L_law_112 : decode (cd m_L_law) 112 = .ok (.iaload, 1) := by decide +kernel
theorem d_L_law_113 : decode (cd m_L_law) 113 = .ok (.invokevirtual 31, 3) := by decide +kernel
theorem d_L_law_116 : decode (cd m_L_law) 116 = .ok (.aload_n 2, 1) := by decide +kernel
theorem d_L_law_117 : decode (cd m_L_law) 117 = .ok (.aload_n 0, 1) := by decide +kernel
theorem d_L_law_118 : decode (cd m_L_law) 118 = .ok (.iload 4, 2) := by decide +kernel
theorem d_L_law_120 : decode (cd m_L_law) 120 = .ok (.iconst 1, 1) := by decide +kernel
theorem d_L_law_121 : decode (cd m_L_law) 121 = .ok (.iadd, 1) := by decide +kernel
theorem d_L_law_122 : decode (cd m_L_law) 122 = .ok (.iaload, 1) := by decide +kernel
theorem d_L_law_123 : decode (cd m_L_law) 123 = .ok (.i2l, 1) := by decide +kernel
theorem d_L_law_124 : decode (cd m_L_law) 124 = .ok (.bipush 32, 2) := by decide +kernel
theorem d_L_law_126 : decode (cd m_L_law) 126 = .ok (.lshl, 1) := by decide +kernel
theorem d_L_law_127 : decode (cd m_L_law) 127 = .ok (.aload_n 0, 1) := by decide +kernel
theorem d_L_law_128 : decode (cd m_L_law) 128 = .ok (.iload 4, 2) := by decide +kernel
theorem d_L_law_130 : decode (cd m_L_law) 130 = .ok (.iconst 2, 1) := by decide +kernel
theorem d_L_law_131 : decode (cd m_L_law) 131 = .ok (.iadd, 1) := by decide +kernel
theorem d_L_law_132 : decode (cd m_L_law) 132 = .ok (.iaload, 1) := by decide +kernel
theorem d_L_law_133 : decode (cd m_L_law) 133 = .ok (.i2l, 1) := by decide +kernel
theorem d_L_law_134 : decode (cd m_L_law) 134 = .ok (.ldc2_w 29, 3) := by decide +kernel
theorem d_L_law_137 : decode (cd m_L_law) 137 = .ok (.land, 1) := by decide +kernel
theorem d_L_law_138 : decode (cd m_L_law) 138 = .ok (.lor, 1) := by decide +kernel
theorem d_L_law_139 : decode (cd m_L_law) 139 = .ok (.aload_n 0, 1) := by decide +kernel
theorem d_L_law_140 : decode (cd m_L_law) 140 = .ok (.iload 4, 2) := by decide +kernel
theorem d_L_law_142 : decode (cd m_L_law) 142 = .ok (.iconst 3, 1) := by decide +kernel
theorem d_L_law_143 : decode (cd m_L_law) 143 = .ok (.iadd, 1) := by decide +kernel
theorem d_L_law_144 : decode (cd m_L_law) 144 = .ok (.iaload, 1) := by decide +kernel
theorem d_L_law_145 : decode (cd m_L_law) 145 = .ok (.invokevirtual 35, 3) := by decide +kernel
theorem d_L_law_148 : decode (cd m_L_law) 148 = .ok (.if_icmp .eq 309, 3) := by decide +kernel
theorem d_L_law_151 : decode (cd m_L_law) 151 = .ok (.iconst 0, 1) := by decide +kernel
theorem d_L_law_152 : decode (cd m_L_law) 152 = .ok (.ireturn, 1) := by decide +kernel
theorem d_L_law_153 : decode (cd m_L_law) 153 = .ok (.aload_n 1, 1) := by decide +kernel
theorem d_L_law_154 : decode (cd m_L_law) 154 = .ok (.aload_n 3, 1) := by decide +kernel
theorem d_L_law_155 : decode (cd m_L_law) 155 = .ok (.invokestatic 36, 3) := by decide +kernel
theorem d_L_law_158 : decode (cd m_L_law) 158 = .ok (.istore 5, 2) := by decide +kernel
theorem d_L_law_160 : decode (cd m_L_law) 160 = .ok (.aload_n 2, 1) := by decide +kernel
theorem d_L_law_161 : decode (cd m_L_law) 161 = .ok (.invokevirtual 41, 3) := by decide +kernel
theorem d_L_law_164 : decode (cd m_L_law) 164 = .ok (.istore 6, 2) := by decide +kernel
theorem d_L_law_166 : decode (cd m_L_law) 166 = .ok (.aload_n 2, 1) := by decide +kernel
theorem d_L_law_167 : decode (cd m_L_law) 167 = .ok (.invokevirtual 42, 3) := by decide +kernel
theorem d_L_law_170 : decode (cd m_L_law) 170 = .ok (.iload 5, 2) := by decide +kernel
theorem d_L_law_172 : decode (cd m_L_law) 172 = .ok (.if_icmp .eq 5, 3) := by decide +kernel
theorem d_L_law_175 : decode (cd m_L_law) 175 = .ok (.iconst 0, 1) := by decide +kernel
theorem d_L_law_176 : decode (cd m_L_law) 176 = .ok (.ireturn, 1) := by decide +kernel
theorem d_L_law_177 : decode (cd m_L_law) 177 = .ok (.iload 5, 2) := by decide +kernel
theorem d_L_law_179 : decode (cd m_L_law) 179 = .ok (.ifCond .ne 15, 3) := by decide +kernel
theorem d_L_law_182 : decode (cd m_L_law) 182 = .ok (.aload_n 3, 1) := by decide +kernel
theorem d_L_law_183 : decode (cd m_L_law) 183 = .ok (.iconst 0, 1) := by decide +kernel
theorem d_L_law_184 : decode (cd m_L_law) 184 = .ok (.laload, 1) := by decide +kernel
theorem d_L_law_185 : decode (cd m_L_law) 185 = .ok (.iload 6, 2) := by decide +kernel
theorem d_L_law_187 : decode (cd m_L_law) 187 = .ok (.i2l, 1) := by decide +kernel
theorem d_L_law_188 : decode (cd m_L_law) 188 = .ok (.lcmp, 1) := by decide +kernel
theorem d_L_law_189 : decode (cd m_L_law) 189 = .ok (.ifCond .eq 5, 3) := by decide +kernel
theorem d_L_law_192 : decode (cd m_L_law) 192 = .ok (.iconst 0, 1) := by decide +kernel
theorem d_L_law_193 : decode (cd m_L_law) 193 = .ok (.ireturn, 1) := by decide +kernel
theorem d_L_law_194 : decode (cd m_L_law) 194 = .ok (.goto 263, 3) := by decide +kernel
theorem d_L_law_197 : decode (cd m_L_law) 197 = .ok (.aload_n 1, 1) := by decide +kernel
theorem d_L_law_198 : decode (cd m_L_law) 198 = .ok (.aload_n 0, 1) := by decide +kernel
theorem d_L_law_199 : decode (cd m_L_law) 199 = .ok (.iload 4, 2) := by decide +kernel
theorem d_L_law_201 : decode (cd m_L_law) 201 = .ok (.iconst 1, 1) := by decide +kernel
theorem d_L_law_202 : decode (cd m_L_law) 202 = .ok (.iadd, 1) := by decide +kernel
theorem d_L_law_203 : decode (cd m_L_law) 203 = .ok (.iaload, 1) := by decide +kernel
theorem d_L_law_204 : decode (cd m_L_law) 204 = .ok (.invokevirtual 45, 3) := by decide +kernel
theorem d_L_law_207 : decode (cd m_L_law) 207 = .ok (.aload_n 2, 1) := by decide +kernel
theorem d_L_law_208 : decode (cd m_L_law) 208 = .ok (.aload_n 0, 1) := by decide +kernel
theorem d_L_law_209 : decode (cd m_L_law) 209 = .ok (.iload 4, 2) := by decide +kernel
theorem d_L_law_211 : decode (cd m_L_law) 211 = .ok (.iconst 1, 1) := by decide +kernel
theorem d_L_law_212 : decode (cd m_L_law) 212 = .ok (.iadd, 1) := by decide +kernel
theorem d_L_law_213 : decode (cd m_L_law) 213 = .ok (.iaload, 1) := by decide +kernel
theorem d_L_law_214 : decode (cd m_L_law) 214 = .ok (.invokevirtual 49, 3) := by decide +kernel
theorem d_L_law_217 : decode (cd m_L_law) 217 = .ok (.if_icmp .eq 240, 3) := by decide +kernel
theorem d_L_law_220 : decode (cd m_L_law) 220 = .ok (.iconst 0, 1) := by decide +kernel
theorem d_L_law_221 : decode (cd m_L_law) 221 = .ok (.ireturn, 1) := by decide +kernel
theorem d_L_law_222 : decode (cd m_L_law) 222 = .ok (.aload_n 1, 1) := by decide +kernel
theorem d_L_law_223 : decode (cd m_L_law) 223 = .ok (.invokevirtual 50, 3) := by decide +kernel
theorem d_L_law_226 : decode (cd m_L_law) 226 = .ok (.aload_n 2, 1) := by decide +kernel
theorem d_L_law_227 : decode (cd m_L_law) 227 = .ok (.invokevirtual 53, 3) := by decide +kernel
theorem d_L_law_230 : decode (cd m_L_law) 230 = .ok (.if_icmp .eq 227, 3) := by decide +kernel
theorem d_L_law_233 : decode (cd m_L_law) 233 = .ok (.iconst 0, 1) := by decide +kernel
theorem d_L_law_234 : decode (cd m_L_law) 234 = .ok (.ireturn, 1) := by decide +kernel
theorem d_L_law_235 : decode (cd m_L_law) 235 = .ok (.aload_n 1, 1) := by decide +kernel
theorem d_L_law_236 : decode (cd m_L_law) 236 = .ok (.aload_n 0, 1) := by decide +kernel
theorem d_L_law_237 : decode (cd m_L_law) 237 = .ok (.iload 4, 2) := by decide +kernel
theorem d_L_law_239 : decode (cd m_L_law) 239 = .ok (.iconst 1, 1) := by decide +kernel
theorem d_L_law_240 : decode (cd m_L_law) 240 = .ok (.iadd, 1) := by decide +kernel
theorem d_L_law_241 : decode (cd m_L_law) 241 = .ok (.iaload, 1) := by decide +kernel
theorem d_L_law_242 : decode (cd m_L_law) 242 = .ok (.aload_n 0, 1) := by decide +kernel
theorem d_L_law_243 : decode (cd m_L_law) 243 = .ok (.iload 4, 2) := by decide +kernel
theorem d_L_law_245 : decode (cd m_L_law) 245 = .ok (.iconst 2, 1) := by decide +kernel
theorem d_L_law_246 : decode (cd m_L_law) 246 = .ok (.iadd, 1) := by decide +kernel
theorem d_L_law_247 : decode (cd m_L_law) 247 = .ok (.iaload, 1) := by decide +kernel
theorem d_L_law_248 : decode (cd m_L_law) 248 = .ok (.invokevirtual 54, 3) := by decide +kernel
theorem d_L_law_251 : decode (cd m_L_law) 251 = .ok (.aload_n 2, 1) := by decide +kernel
theorem d_L_law_252 : decode (cd m_L_law) 252 = .ok (.aload_n 0, 1) := by decide +kernel
theorem d_L_law_253 : decode (cd m_L_law) 253 = .ok (.iload 4, 2) := by decide +kernel
theorem d_L_law_255 : decode (cd m_L_law) 255 = .ok (.iconst 1, 1) := by decide +kernel
theorem d_L_law_256 : decode (cd m_L_law) 256 = .ok (.iadd, 1) := by decide +kernel
theorem d_L_law_257 : decode (cd m_L_law) 257 = .ok (.iaload, 1) := by decide +kernel
theorem d_L_law_258 : decode (cd m_L_law) 258 = .ok (.aload_n 0, 1) := by decide +kernel
theorem d_L_law_259 : decode (cd m_L_law) 259 = .ok (.iload 4, 2) := by decide +kernel
theorem d_L_law_261 : decode (cd m_L_law) 261 = .ok (.iconst 2, 1) := by decide +kernel
theorem d_L_law_262 : decode (cd m_L_law) 262 = .ok (.iadd, 1) := by decide +kernel
theorem d_L_law_263 : decode (cd m_L_law) 263 = .ok (.iaload, 1) := by decide +kernel
theorem d_L_law_264 : decode (cd m_L_law) 264 = .ok (.invokevirtual 57, 3) := by decide +kernel
theorem d_L_law_267 : decode (cd m_L_law) 267 = .ok (.if_icmp .eq 190, 3) := by decide +kernel
theorem d_L_law_270 : decode (cd m_L_law) 270 = .ok (.iconst 0, 1) := by decide +kernel
theorem d_L_law_271 : decode (cd m_L_law) 271 = .ok (.ireturn, 1) := by decide +kernel
theorem d_L_law_272 : decode (cd m_L_law) 272 = .ok (.aload_n 1, 1) := by decide +kernel
theorem d_L_law_273 : decode (cd m_L_law) 273 = .ok (.aload_n 0, 1) := by decide +kernel
theorem d_L_law_274 : decode (cd m_L_law) 274 = .ok (.iload 4, 2) := by decide +kernel
theorem d_L_law_276 : decode (cd m_L_law) 276 = .ok (.iconst 1, 1) := by decide +kernel
theorem d_L_law_277 : decode (cd m_L_law) 277 = .ok (.iadd, 1) := by decide +kernel
theorem d_L_law_278 : decode (cd m_L_law) 278 = .ok (.iaload, 1) := by decide +kernel
theorem d_L_law_279 : decode (cd m_L_law) 279 = .ok (.aload_n 0, 1) := by decide +kernel
theorem d_L_law_280 : decode (cd m_L_law) 280 = .ok (.iload 4, 2) := by decide +kernel
theorem d_L_law_282 : decode (cd m_L_law) 282 = .ok (.iconst 2, 1) := by decide +kernel
theorem d_L_law_283 : decode (cd m_L_law) 283 = .ok (.iadd, 1) := by decide +kernel
theorem d_L_law_284 : decode (cd m_L_law) 284 = .ok (.iaload, 1) := by decide +kernel
theorem d_L_law_285 : decode (cd m_L_law) 285 = .ok (.invokevirtual 58, 3) := by decide +kernel
theorem d_L_law_288 : decode (cd m_L_law) 288 = .ok (.aload_n 2, 1) := by decide +kernel
theorem d_L_law_289 : decode (cd m_L_law) 289 = .ok (.aload_n 0, 1) := by decide +kernel
theorem d_L_law_290 : decode (cd m_L_law) 290 = .ok (.iload 4, 2) := by decide +kernel
theorem d_L_law_292 : decode (cd m_L_law) 292 = .ok (.iconst 1, 1) := by decide +kernel
theorem d_L_law_293 : decode (cd m_L_law) 293 = .ok (.iadd, 1) := by decide +kernel
theorem d_L_law_294 : decode (cd m_L_law) 294 = .ok (.iaload, 1) := by decide +kernel
theorem d_L_law_295 : decode (cd m_L_law) 295 = .ok (.aload_n 0, 1) := by decide +kernel
theorem d_L_law_296 : decode (cd m_L_law) 296 = .ok (.iload 4, 2) := by decide +kernel
theorem d_L_law_298 : decode (cd m_L_law) 298 = .ok (.iconst 2, 1) := by decide +kernel
theorem d_L_law_299 : decode (cd m_L_law) 299 = .ok (.iadd, 1) := by decide +kernel
theorem d_L_law_300 : decode (cd m_L_law) 300 = .ok (.iaload, 1) := by decide +kernel
theorem d_L_law_301 : decode (cd m_L_law) 301 = .ok (.invokevirtual 62, 3) := by decide +kernel
theorem d_L_law_304 : decode (cd m_L_law) 304 = .ok (.if_icmp .eq 153, 3) := by decide +kernel
theorem d_L_law_307 : decode (cd m_L_law) 307 = .ok (.iconst 0, 1) := by decide +kernel
theorem d_L_law_308 : decode (cd m_L_law) 308 = .ok (.ireturn, 1) := by decide +kernel
theorem d_L_law_309 : decode (cd m_L_law) 309 = .ok (.aload_n 1, 1) := by decide +kernel
theorem d_L_law_310 : decode (cd m_L_law) 310 = .ok (.aload_n 0, 1) := by decide +kernel
theorem d_L_law_311 : decode (cd m_L_law) 311 = .ok (.iload 4, 2) := by decide +kernel
theorem d_L_law_313 : decode (cd m_L_law) 313 = .ok (.iconst 1, 1) := by decide +kernel
theorem d_L_law_314 : decode (cd m_L_law) 314 = .ok (.iadd, 1) := by decide +kernel
theorem d_L_law_315 : decode (cd m_L_law) 315 = .ok (.iaload, 1) := by decide +kernel
theorem d_L_law_316 : decode (cd m_L_law) 316 = .ok (.aload_n 0, 1) := by decide +kernel
theorem d_L_law_317 : decode (cd m_L_law) 317 = .ok (.iload 4, 2) := by decide +kernel
theorem d_L_law_319 : decode (cd m_L_law) 319 = .ok (.iconst 2, 1) := by decide +kernel
theorem d_L_law_320 : decode (cd m_L_law) 320 = .ok (.iadd, 1) := by decide +kernel
theorem d_L_law_321 : decode (cd m_L_law) 321 = .ok (.iaload, 1) := by decide +kernel
theorem d_L_law_322 : decode (cd m_L_law) 322 = .ok (.aload_n 3, 1) := by decide +kernel
theorem d_L_law_323 : decode (cd m_L_law) 323 = .ok (.invokestatic 63, 3) := by decide +kernel
theorem d_L_law_326 : decode (cd m_L_law) 326 = .ok (.istore 5, 2) := by decide +kernel
theorem d_L_law_328 : decode (cd m_L_law) 328 = .ok (.aload_n 2, 1) := by decide +kernel
theorem d_L_law_329 : decode (cd m_L_law) 329 = .ok (.aload_n 0, 1) := by decide +kernel
theorem d_L_law_330 : decode (cd m_L_law) 330 = .ok (.iload 4, 2) := by decide +kernel
theorem d_L_law_332 : decode (cd m_L_law) 332 = .ok (.iconst 1, 1) := by decide +kernel
theorem d_L_law_333 : decode (cd m_L_law) 333 = .ok (.iadd, 1) := by decide +kernel
theorem d_L_law_334 : decode (cd m_L_law) 334 = .ok (.iaload, 1) := by decide +kernel
theorem d_L_law_335 : decode (cd m_L_law) 335 = .ok (.aload_n 0, 1) := by decide +kernel
theorem d_L_law_336 : decode (cd m_L_law) 336 = .ok (.iload 4, 2) := by decide +kernel
theorem d_L_law_338 : decode (cd m_L_law) 338 = .ok (.iconst 2, 1) := by decide +kernel
theorem d_L_law_339 : decode (cd m_L_law) 339 = .ok (.iadd, 1) := by decide +kernel
theorem d_L_law_340 : decode (cd m_L_law) 340 = .ok (.iaload, 1) := by decide +kernel
theorem d_L_law_341 : decode (cd m_L_law) 341 = .ok (.invokevirtual 66, 3) := by decide +kernel
theorem d_L_law_344 : decode (cd m_L_law) 344 = .ok (.istore 6, 2) := by decide +kernel
theorem d_L_law_346 : decode (cd m_L_law) 346 = .ok (.aload_n 2, 1) := by decide +kernel
theorem d_L_law_347 : decode (cd m_L_law) 347 = .ok (.invokevirtual 42, 3) := by decide +kernel
theorem d_L_law_350 : decode (cd m_L_law) 350 = .ok (.iload 5, 2) := by decide +kernel
theorem d_L_law_352 : decode (cd m_L_law) 352 = .ok (.if_icmp .eq 5, 3) := by decide +kernel
theorem d_L_law_355 : decode (cd m_L_law) 355 = .ok (.iconst 0, 1) := by decide +kernel
theorem d_L_law_356 : decode (cd m_L_law) 356 = .ok (.ireturn, 1) := by decide +kernel
theorem d_L_law_357 : decode (cd m_L_law) 357 = .ok (.iload 5, 2) := by decide +kernel
theorem d_L_law_359 : decode (cd m_L_law) 359 = .ok (.ifCond .ne 15, 3) := by decide +kernel
theorem d_L_law_362 : decode (cd m_L_law) 362 = .ok (.aload_n 3, 1) := by decide +kernel
theorem d_L_law_363 : decode (cd m_L_law) 363 = .ok (.iconst 0, 1) := by decide +kernel
theorem d_L_law_364 : decode (cd m_L_law) 364 = .ok (.laload, 1) := by decide +kernel
theorem d_L_law_365 : decode (cd m_L_law) 365 = .ok (.iload 6, 2) := by decide +kernel
theorem d_L_law_367 : decode (cd m_L_law) 367 = .ok (.i2l, 1) := by decide +kernel
theorem d_L_law_368 : decode (cd m_L_law) 368 = .ok (.lcmp, 1) := by decide +kernel
theorem d_L_law_369 : decode (cd m_L_law) 369 = .ok (.ifCond .eq 5, 3) := by decide +kernel
theorem d_L_law_372 : decode (cd m_L_law) 372 = .ok (.iconst 0, 1) := by decide +kernel
theorem d_L_law_373 : decode (cd m_L_law) 373 = .ok (.ireturn, 1) := by decide +kernel
theorem d_L_law_374 : decode (cd m_L_law) 374 = .ok (.goto 83, 3) := by decide +kernel
theorem d_L_law_377 : decode (cd m_L_law) 377 = .ok (.aload_n 1, 1) := by decide +kernel
theorem d_L_law_378 : decode (cd m_L_law) 378 = .ok (.aload_n 0, 1) := by decide +kernel
theorem d_L_law_379 : decode (cd m_L_law) 379 = .ok (.iload 4, 2) := by decide +kernel
theorem d_L_law_381 : decode (cd m_L_law) 381 = .ok (.iconst 1, 1) := by decide +kernel
theorem d_L_law_382 : decode (cd m_L_law) 382 = .ok (.iadd, 1) := by decide +kernel
theorem d_L_law_383 : decode (cd m_L_law) 383 = .ok (.iaload, 1) := by decide +kernel
theorem d_L_law_384 : decode (cd m_L_law) 384 = .ok (.aload_n 0, 1) := by decide +kernel
theorem d_L_law_385 : decode (cd m_L_law) 385 = .ok (.iload 4, 2) := by decide +kernel
theorem d_L_law_387 : decode (cd m_L_law) 387 = .ok (.iconst 2, 1) := by decide +kernel
theorem d_L_law_388 : decode (cd m_L_law) 388 = .ok (.iadd, 1) := by decide +kernel
theorem d_L_law_389 : decode (cd m_L_law) 389 = .ok (.iaload, 1) := by decide +kernel
theorem d_L_law_390 : decode (cd m_L_law) 390 = .ok (.aload_n 0, 1) := by decide +kernel
theorem d_L_law_391 : decode (cd m_L_law) 391 = .ok (.iload 4, 2) := by decide +kernel
theorem d_L_law_393 : decode (cd m_L_law) 393 = .ok (.iconst 3, 1) := by decide +kernel
theorem d_L_law_394 : decode (cd m_L_law) 394 = .ok (.iadd, 1) := by decide +kernel
theorem d_L_law_395 : decode (cd m_L_law) 395 = .ok (.iaload, 1) := by decide +kernel
theorem d_L_law_396 : decode (cd m_L_law) 396 = .ok (.aload_n 3, 1) := by decide +kernel
theorem d_L_law_397 : decode (cd m_L_law) 397 = .ok (.invokestatic 67, 3) := by decide +kernel
theorem d_L_law_400 : decode (cd m_L_law) 400 = .ok (.istore 5, 2) := by decide +kernel
theorem d_L_law_402 : decode (cd m_L_law) 402 = .ok (.aload_n 2, 1) := by decide +kernel
theorem d_L_law_403 : decode (cd m_L_law) 403 = .ok (.aload_n 0, 1) := by decide +kernel
theorem d_L_law_404 : decode (cd m_L_law) 404 = .ok (.iload 4, 2) := by decide +kernel
theorem d_L_law_406 : decode (cd m_L_law) 406 = .ok (.iconst 1, 1) := by decide +kernel
theorem d_L_law_407 : decode (cd m_L_law) 407 = .ok (.iadd, 1) := by decide +kernel
theorem d_L_law_408 : decode (cd m_L_law) 408 = .ok (.iaload, 1) := by decide +kernel
theorem d_L_law_409 : decode (cd m_L_law) 409 = .ok (.aload_n 0, 1) := by decide +kernel
theorem d_L_law_410 : decode (cd m_L_law) 410 = .ok (.iload 4, 2) := by decide +kernel
theorem d_L_law_412 : decode (cd m_L_law) 412 = .ok (.iconst 2, 1) := by decide +kernel
theorem d_L_law_413 : decode (cd m_L_law) 413 = .ok (.iadd, 1) := by decide +kernel
theorem d_L_law_414 : decode (cd m_L_law) 414 = .ok (.iaload, 1) := by decide +kernel
theorem d_L_law_415 : decode (cd m_L_law) 415 = .ok (.aload_n 0, 1) := by decide +kernel
theorem d_L_law_416 : decode (cd m_L_law) 416 = .ok (.iload 4, 2) := by decide +kernel
theorem d_L_law_418 : decode (cd m_L_law) 418 = .ok (.iconst 3, 1) := by decide +kernel
theorem d_L_law_419 : decode (cd m_L_law) 419 = .ok (.iadd, 1) := by decide +kernel
theorem d_L_law_420 : decode (cd m_L_law) 420 = .ok (.iaload, 1) := by decide +kernel
theorem d_L_law_421 : decode (cd m_L_law) 421 = .ok (.invokevirtual 70, 3) := by decide +kernel
theorem d_L_law_424 : decode (cd m_L_law) 424 = .ok (.istore 6, 2) := by decide +kernel
theorem d_L_law_426 : decode (cd m_L_law) 426 = .ok (.aload_n 2, 1) := by decide +kernel
theorem d_L_law_427 : decode (cd m_L_law) 427 = .ok (.invokevirtual 42, 3) := by decide +kernel
theorem d_L_law_430 : decode (cd m_L_law) 430 = .ok (.iload 5, 2) := by decide +kernel
theorem d_L_law_432 : decode (cd m_L_law) 432 = .ok (.if_icmp .eq 5, 3) := by decide +kernel
theorem d_L_law_435 : decode (cd m_L_law) 435 = .ok (.iconst 0, 1) := by decide +kernel
theorem d_L_law_436 : decode (cd m_L_law) 436 = .ok (.ireturn, 1) := by decide +kernel
theorem d_L_law_437 : decode (cd m_L_law) 437 = .ok (.iload 5, 2) := by decide +kernel
theorem d_L_law_439 : decode (cd m_L_law) 439 = .ok (.ifCond .ne 15, 3) := by decide +kernel
theorem d_L_law_442 : decode (cd m_L_law) 442 = .ok (.aload_n 3, 1) := by decide +kernel
theorem d_L_law_443 : decode (cd m_L_law) 443 = .ok (.iconst 0, 1) := by decide +kernel
theorem d_L_law_444 : decode (cd m_L_law) 444 = .ok (.laload, 1) := by decide +kernel
theorem d_L_law_445 : decode (cd m_L_law) 445 = .ok (.iload 6, 2) := by decide +kernel
theorem d_L_law_447 : decode (cd m_L_law) 447 = .ok (.i2l, 1) := by decide +kernel
theorem d_L_law_448 : decode (cd m_L_law) 448 = .ok (.lcmp, 1) := by decide +kernel
theorem d_L_law_449 : decode (cd m_L_law) 449 = .ok (.ifCond .eq 5, 3) := by decide +kernel
theorem d_L_law_452 : decode (cd m_L_law) 452 = .ok (.iconst 0, 1) := by decide +kernel
theorem d_L_law_453 : decode (cd m_L_law) 453 = .ok (.ireturn, 1) := by decide +kernel
theorem d_L_law_454 : decode (cd m_L_law) 454 = .ok (.goto 3, 3) := by decide +kernel
theorem d_L_law_457 : decode (cd m_L_law) 457 = .ok (.iinc 4 4, 3) := by decide +kernel
theorem d_L_law_460 : decode (cd m_L_law) 460 = .ok (.goto (-437), 3) := by decide +kernel
theorem d_L_law_463 : decode (cd m_L_law) 463 = .ok (.iconst 1, 1) := by decide +kernel
theorem d_L_law_464 : decode (cd m_L_law) 464 = .ok (.ireturn, 1) := by decide +kernel
end
section
/-! what the tables say of pool entries (by program) -/
theorem fl_Bk_12 : FLP "PlanDesk$Book" 12 0 0 true := ⟨RC0, TC0, rfl, by decide, (aw2 (i := 59) rfl rfl), rfl, rfl⟩
theorem fl_Bk_18 : FLP "PlanDesk$Book" 18 0 2 true := ⟨RC0, TC0, rfl, by decide, (aw2 (i := 64) rfl rfl), rfl, rfl⟩
theorem fl_Bk_22 : FLP "PlanDesk$Book" 22 0 3 true := ⟨RC0, TC0, rfl, by decide, (aw2 (i := 66) rfl rfl), rfl, rfl⟩
theorem fl_Bk_26 : FLP "PlanDesk$Book" 26 0 4 true := ⟨RC0, TC0, rfl, by decide, (aw2 (i := 68) rfl rfl), rfl, rfl⟩
theorem fl_Bk_29 : FLP "PlanDesk$Book" 29 0 5 true := ⟨RC0, TC0, rfl, by decide, (aw2 (i := 70) rfl rfl), rfl, rfl⟩
theorem fl_Bk_32 : FLP "PlanDesk$Book" 32 0 6 true := ⟨RC0, TC0, rfl, by decide, (aw2 (i := 72) rfl rfl), rfl, rfl⟩
theorem fl_Bk_35 : FLP "PlanDesk$Book" 35 0 7 true := ⟨RC0, TC0, rfl, by decide, (aw2 (i := 74) rfl rfl), rfl, rfl⟩
theorem fl_Bk_38 : FLP "PlanDesk$Book" 38 0 1 false := ⟨RC0, TC0, rfl, by decide, (aw2 (i := 62) rfl rfl), rfl, rfl⟩
theorem fl_Bk_42 : FLP "PlanDesk$Book" 42 5 0 false := ⟨RC5, TC5, rfl, by decide, (aw2 (i := 4) rfl rfl), rfl, rfl⟩
theorem fl_Bk_43 : FLP "PlanDesk$Book" 43 1 0 true := ⟨RC1, TC1, rfl, by decide, (aw1 (i := 129) rfl rfl), rfl, rfl⟩
theorem fl_Bk_49 : FLP "PlanDesk$Book" 49 3 2 false := ⟨RC3, TC3, rfl, by decide, (aw1 (i := 100) rfl rfl), rfl, rfl⟩
theorem fl_Bk_58 : FLP "PlanDesk$Book" 58 1 2 false := ⟨RC1, TC1, rfl, by decide, (aw1 (i := 137) rfl rfl), rfl, rfl⟩
theorem fl_Bk_61 : FLP "PlanDesk$Book" 61 1 1 true := ⟨RC1, TC1, rfl, by decide, (aw1 (i := 132) rfl rfl), rfl, rfl⟩
theorem fl_Bk_73 : FLP "PlanDesk$Book" 73 5 7 true := ⟨RC5, TC5, rfl, by decide, (aw2 (i := 24) rfl rfl), rfl, rfl⟩
theorem fl_Bk_75 : FLP "PlanDesk$Book" 75 5 1 true := ⟨RC5, TC5, rfl, by decide, (aw2 (i := 9) rfl rfl), rfl, rfl⟩
theorem fl_Bk_78 : FLP "PlanDesk$Book" 78 5 2 true := ⟨RC5, TC5, rfl, by decide, (aw2 (i := 12) rfl rfl), rfl, rfl⟩
theorem fl_Bk_79 : FLP "PlanDesk$Book" 79 5 6 true := ⟨RC5, TC5, rfl, by decide, (aw2 (i := 22) rfl rfl), rfl, rfl⟩
theorem fl_Bk_88 : FLP "PlanDesk$Book" 88 5 4 true := ⟨RC5, TC5, rfl, by decide, (aw2 (i := 17) rfl rfl), rfl, rfl⟩
theorem fl_Bk_91 : FLP "PlanDesk$Book" 91 5 5 true := ⟨RC5, TC5, rfl, by decide, (aw2 (i := 19) rfl rfl), rfl, rfl⟩
theorem fl_Bk_94 : FLP "PlanDesk$Book" 94 5 8 true := ⟨RC5, TC5, rfl, by decide, (aw2 (i := 27) rfl rfl), rfl, rfl⟩
theorem fl_Cl_12 : FLP "PlanDesk$Clause" 12 1 0 true := ⟨RC1, TC1, rfl, by decide, (aw1 (i := 126) rfl rfl), rfl, rfl⟩
theorem fl_Cl_18 : FLP "PlanDesk$Clause" 18 1 1 true := ⟨RC1, TC1, rfl, by decide, (aw1 (i := 130) rfl rfl), rfl, rfl⟩
theorem fl_Cl_22 : FLP "PlanDesk$Clause" 22 1 7 true := ⟨RC1, TC1, rfl, by decide, (aw1 (i := 148) rfl rfl), rfl, rfl⟩
theorem fl_Cl_26 : FLP "PlanDesk$Clause" 26 1 8 true := ⟨RC1, TC1, rfl, by decide, (aw1 (i := 149) rfl rfl), rfl, rfl⟩
theorem fl_Cl_30 : FLP "PlanDesk$Clause" 30 1 9 true := ⟨RC1, TC1, rfl, by decide, (aw1 (i := 150) rfl rfl), rfl, rfl⟩
theorem fl_Cl_33 : FLP "PlanDesk$Clause" 33 1 10 true := ⟨RC1, TC1, rfl, by decide, (aw1 (i := 152) rfl rfl), rfl, rfl⟩
theorem fl_Cl_36 : FLP "PlanDesk$Clause" 36 1 11 true := ⟨RC1, TC1, rfl, by decide, (aw1 (i := 154) rfl rfl), rfl, rfl⟩
theorem fl_Cl_43 : FLP "PlanDesk$Clause" 43 1 2 false := ⟨RC1, TC1, rfl, by decide, (aw1 (i := 134) rfl rfl), rfl, rfl⟩
theorem fl_Cl_47 : FLP "PlanDesk$Clause" 47 1 3 false := ⟨RC1, TC1, rfl, by decide, (aw1 (i := 138) rfl rfl), rfl, rfl⟩
theorem fl_Cl_50 : FLP "PlanDesk$Clause" 50 1 4 false := ⟨RC1, TC1, rfl, by decide, (aw1 (i := 140) rfl rfl), rfl, rfl⟩
theorem fl_Cl_53 : FLP "PlanDesk$Clause" 53 1 5 false := ⟨RC1, TC1, rfl, by decide, (aw1 (i := 143) rfl rfl), rfl, rfl⟩
theorem fl_Cl_56 : FLP "PlanDesk$Clause" 56 1 6 false := ⟨RC1, TC1, rfl, by decide, (aw1 (i := 146) rfl rfl), rfl, rfl⟩
theorem fl_Cl_87 : FLP "PlanDesk$Clause" 87 3 0 false := ⟨RC3, TC3, rfl, by decide, (aw1 (i := 92) rfl rfl), rfl, rfl⟩
theorem fl_D_10 : FLP "PlanDesk" 10 8 0 true := ⟨RC8, TC8, rfl, by decide, (aw2 (i := 92) rfl rfl), rfl, rfl⟩
theorem fl_D_19 : FLP "PlanDesk" 19 8 1 true := ⟨RC8, TC8, rfl, by decide, (aw2 (i := 93) rfl rfl), rfl, rfl⟩
theorem fl_D_26 : FLP "PlanDesk" 26 8 2 false := ⟨RC8, TC8, rfl, by decide, (aw2 (i := 94) rfl rfl), rfl, rfl⟩
theorem fl_D_33 : FLP "PlanDesk" 33 6 1 false := ⟨RC6, TC6, rfl, by decide, (aw1 (i := 40) rfl rfl), rfl, rfl⟩
theorem fl_D_65 : FLP "PlanDesk" 65 4 4 false := ⟨RC4, TC4, rfl, by decide, (aw1 (i := 203) rfl rfl), rfl, rfl⟩
theorem fl_D_68 : FLP "PlanDesk" 68 4 5 false := ⟨RC4, TC4, rfl, by decide, (aw1 (i := 205) rfl rfl), rfl, rfl⟩
theorem fl_D_71 : FLP "PlanDesk" 71 0 1 false := ⟨RC0, TC0, rfl, by decide, (aw2 (i := 63) rfl rfl), rfl, rfl⟩
theorem fl_D_72 : FLP "PlanDesk" 72 0 3 true := ⟨RC0, TC0, rfl, by decide, (aw2 (i := 67) rfl rfl), rfl, rfl⟩
theorem fl_D_76 : FLP "PlanDesk" 76 0 6 true := ⟨RC0, TC0, rfl, by decide, (aw2 (i := 73) rfl rfl), rfl, rfl⟩
theorem fl_D_79 : FLP "PlanDesk" 79 0 4 true := ⟨RC0, TC0, rfl, by decide, (aw2 (i := 69) rfl rfl), rfl, rfl⟩
theorem fl_D_82 : FLP "PlanDesk" 82 0 5 true := ⟨RC0, TC0, rfl, by decide, (aw2 (i := 71) rfl rfl), rfl, rfl⟩
theorem fl_D_85 : FLP "PlanDesk" 85 0 2 true := ⟨RC0, TC0, rfl, by decide, (aw2 (i := 65) rfl rfl), rfl, rfl⟩
theorem fl_Fc_15 : FLP "PlanDesk$Facts" 15 2 1 true := ⟨RC2, TC2, rfl, by decide, (aw1 (i := 188) rfl rfl), rfl, rfl⟩
theorem fl_Fc_19 : FLP "PlanDesk$Facts" 19 2 2 false := ⟨RC2, TC2, rfl, by decide, (aw1 (i := 189) rfl rfl), rfl, rfl⟩
theorem fl_Fc_23 : FLP "PlanDesk$Facts" 23 3 2 false := ⟨RC3, TC3, rfl, by decide, (aw1 (i := 98) rfl rfl), rfl, rfl⟩
theorem fl_Fc_32 : FLP "PlanDesk$Facts" 32 3 5 true := ⟨RC3, TC3, rfl, by decide, (aw1 (i := 108) rfl rfl), rfl, rfl⟩
theorem fl_Fc_33 : FLP "PlanDesk$Facts" 33 3 4 false := ⟨RC3, TC3, rfl, by decide, (aw1 (i := 105) rfl rfl), rfl, rfl⟩
theorem fl_Fc_9 : FLP "PlanDesk$Facts" 9 2 0 true := ⟨RC2, TC2, rfl, by decide, (aw1 (i := 187) rfl rfl), rfl, rfl⟩
theorem fl_Lt_15 : FLP "PlanDesk$Literal" 15 3 6 true := ⟨RC3, TC3, rfl, by decide, (aw1 (i := 109) rfl rfl), rfl, rfl⟩
theorem fl_Lt_19 : FLP "PlanDesk$Literal" 19 3 0 false := ⟨RC3, TC3, rfl, by decide, (aw1 (i := 90) rfl rfl), rfl, rfl⟩
theorem fl_Lt_23 : FLP "PlanDesk$Literal" 23 3 1 false := ⟨RC3, TC3, rfl, by decide, (aw1 (i := 94) rfl rfl), rfl, rfl⟩
theorem fl_Lt_26 : FLP "PlanDesk$Literal" 26 3 2 false := ⟨RC3, TC3, rfl, by decide, (aw1 (i := 97) rfl rfl), rfl, rfl⟩
theorem fl_Lt_29 : FLP "PlanDesk$Literal" 29 3 3 false := ⟨RC3, TC3, rfl, by decide, (aw1 (i := 102) rfl rfl), rfl, rfl⟩
theorem fl_Lt_33 : FLP "PlanDesk$Literal" 33 3 4 false := ⟨RC3, TC3, rfl, by decide, (aw1 (i := 104) rfl rfl), rfl, rfl⟩
theorem fl_Lt_9 : FLP "PlanDesk$Literal" 9 3 5 true := ⟨RC3, TC3, rfl, by decide, (aw1 (i := 107) rfl rfl), rfl, rfl⟩
theorem fl_M_102 : FLP "PlanDeskModel" 102 9 48 true := ⟨RC9, TC9, rfl, by decide, (aw4 (i := 138) rfl rfl), rfl, rfl⟩
theorem fl_M_105 : FLP "PlanDeskModel" 105 9 49 true := ⟨RC9, TC9, rfl, by decide, (aw4 (i := 139) rfl rfl), rfl, rfl⟩
theorem fl_M_108 : FLP "PlanDeskModel" 108 9 50 true := ⟨RC9, TC9, rfl, by decide, (aw4 (i := 140) rfl rfl), rfl, rfl⟩
theorem fl_M_111 : FLP "PlanDeskModel" 111 9 51 true := ⟨RC9, TC9, rfl, by decide, (aw4 (i := 141) rfl rfl), rfl, rfl⟩
theorem fl_M_114 : FLP "PlanDeskModel" 114 9 52 true := ⟨RC9, TC9, rfl, by decide, (aw4 (i := 142) rfl rfl), rfl, rfl⟩
theorem fl_M_117 : FLP "PlanDeskModel" 117 9 53 true := ⟨RC9, TC9, rfl, by decide, (aw4 (i := 143) rfl rfl), rfl, rfl⟩
theorem fl_M_120 : FLP "PlanDeskModel" 120 9 54 true := ⟨RC9, TC9, rfl, by decide, (aw4 (i := 144) rfl rfl), rfl, rfl⟩
theorem fl_M_123 : FLP "PlanDeskModel" 123 9 55 true := ⟨RC9, TC9, rfl, by decide, (aw4 (i := 145) rfl rfl), rfl, rfl⟩
theorem fl_M_126 : FLP "PlanDeskModel" 126 9 0 false := ⟨RC9, TC9, rfl, by decide, (aw4 (i := 90) rfl rfl), rfl, rfl⟩
theorem fl_M_13 : FLP "PlanDeskModel" 13 9 6 true := ⟨RC9, TC9, rfl, by decide, (aw4 (i := 96) rfl rfl), rfl, rfl⟩
theorem fl_M_130 : FLP "PlanDeskModel" 130 9 2 false := ⟨RC9, TC9, rfl, by decide, (aw4 (i := 92) rfl rfl), rfl, rfl⟩
theorem fl_M_145 : FLP "PlanDeskModel" 145 9 5 false := ⟨RC9, TC9, rfl, by decide, (aw4 (i := 95) rfl rfl), rfl, rfl⟩
theorem fl_M_16 : FLP "PlanDeskModel" 16 9 7 true := ⟨RC9, TC9, rfl, by decide, (aw4 (i := 97) rfl rfl), rfl, rfl⟩
theorem fl_M_174 : FLP "PlanDeskModel" 174 9 3 false := ⟨RC9, TC9, rfl, by decide, (aw4 (i := 93) rfl rfl), rfl, rfl⟩
theorem fl_M_177 : FLP "PlanDeskModel" 177 9 4 false := ⟨RC9, TC9, rfl, by decide, (aw4 (i := 94) rfl rfl), rfl, rfl⟩
theorem fl_M_180 : FLP "PlanDeskModel" 180 9 10 false := ⟨RC9, TC9, rfl, by decide, (aw4 (i := 100) rfl rfl), rfl, rfl⟩
theorem fl_M_19 : FLP "PlanDeskModel" 19 9 8 true := ⟨RC9, TC9, rfl, by decide, (aw4 (i := 98) rfl rfl), rfl, rfl⟩
theorem fl_M_196 : FLP "PlanDeskModel" 196 9 31 false := ⟨RC9, TC9, rfl, by decide, (aw4 (i := 121) rfl rfl), rfl, rfl⟩
theorem fl_M_199 : FLP "PlanDeskModel" 199 9 35 false := ⟨RC9, TC9, rfl, by decide, (aw4 (i := 125) rfl rfl), rfl, rfl⟩
theorem fl_M_202 : FLP "PlanDeskModel" 202 9 36 false := ⟨RC9, TC9, rfl, by decide, (aw4 (i := 126) rfl rfl), rfl, rfl⟩
theorem fl_M_211 : FLP "PlanDeskModel" 211 9 37 false := ⟨RC9, TC9, rfl, by decide, (aw4 (i := 127) rfl rfl), rfl, rfl⟩
theorem fl_M_22 : FLP "PlanDeskModel" 22 9 9 true := ⟨RC9, TC9, rfl, by decide, (aw4 (i := 99) rfl rfl), rfl, rfl⟩
theorem fl_M_222 : FLP "PlanDeskModel" 222 9 38 false := ⟨RC9, TC9, rfl, by decide, (aw4 (i := 128) rfl rfl), rfl, rfl⟩
theorem fl_M_228 : FLP "PlanDeskModel" 228 9 42 false := ⟨RC9, TC9, rfl, by decide, (aw4 (i := 132) rfl rfl), rfl, rfl⟩
theorem fl_M_231 : FLP "PlanDeskModel" 231 9 43 false := ⟨RC9, TC9, rfl, by decide, (aw4 (i := 133) rfl rfl), rfl, rfl⟩
theorem fl_M_234 : FLP "PlanDeskModel" 234 9 44 false := ⟨RC9, TC9, rfl, by decide, (aw4 (i := 134) rfl rfl), rfl, rfl⟩
theorem fl_M_237 : FLP "PlanDeskModel" 237 9 41 false := ⟨RC9, TC9, rfl, by decide, (aw4 (i := 131) rfl rfl), rfl, rfl⟩
theorem fl_M_247 : FLP "PlanDeskModel" 247 9 45 false := ⟨RC9, TC9, rfl, by decide, (aw4 (i := 135) rfl rfl), rfl, rfl⟩
theorem fl_M_250 : FLP "PlanDeskModel" 250 9 46 false := ⟨RC9, TC9, rfl, by decide, (aw4 (i := 136) rfl rfl), rfl, rfl⟩
theorem fl_M_26 : FLP "PlanDeskModel" 26 9 12 true := ⟨RC9, TC9, rfl, by decide, (aw4 (i := 102) rfl rfl), rfl, rfl⟩
theorem fl_M_29 : FLP "PlanDeskModel" 29 9 13 true := ⟨RC9, TC9, rfl, by decide, (aw4 (i := 103) rfl rfl), rfl, rfl⟩
theorem fl_M_308 : FLP "PlanDeskModel" 308 9 11 false := ⟨RC9, TC9, rfl, by decide, (aw4 (i := 101) rfl rfl), rfl, rfl⟩
theorem fl_M_32 : FLP "PlanDeskModel" 32 9 14 true := ⟨RC9, TC9, rfl, by decide, (aw4 (i := 104) rfl rfl), rfl, rfl⟩
theorem fl_M_35 : FLP "PlanDeskModel" 35 9 15 true := ⟨RC9, TC9, rfl, by decide, (aw4 (i := 105) rfl rfl), rfl, rfl⟩
theorem fl_M_38 : FLP "PlanDeskModel" 38 9 16 true := ⟨RC9, TC9, rfl, by decide, (aw4 (i := 106) rfl rfl), rfl, rfl⟩
theorem fl_M_41 : FLP "PlanDeskModel" 41 9 17 true := ⟨RC9, TC9, rfl, by decide, (aw4 (i := 107) rfl rfl), rfl, rfl⟩
theorem fl_M_44 : FLP "PlanDeskModel" 44 9 18 true := ⟨RC9, TC9, rfl, by decide, (aw4 (i := 108) rfl rfl), rfl, rfl⟩
theorem fl_M_47 : FLP "PlanDeskModel" 47 9 19 true := ⟨RC9, TC9, rfl, by decide, (aw4 (i := 109) rfl rfl), rfl, rfl⟩
theorem fl_M_50 : FLP "PlanDeskModel" 50 9 20 true := ⟨RC9, TC9, rfl, by decide, (aw4 (i := 110) rfl rfl), rfl, rfl⟩
theorem fl_M_53 : FLP "PlanDeskModel" 53 9 21 true := ⟨RC9, TC9, rfl, by decide, (aw4 (i := 111) rfl rfl), rfl, rfl⟩
theorem fl_M_56 : FLP "PlanDeskModel" 56 9 22 true := ⟨RC9, TC9, rfl, by decide, (aw4 (i := 112) rfl rfl), rfl, rfl⟩
theorem fl_M_59 : FLP "PlanDeskModel" 59 9 23 true := ⟨RC9, TC9, rfl, by decide, (aw4 (i := 113) rfl rfl), rfl, rfl⟩
theorem fl_M_62 : FLP "PlanDeskModel" 62 9 24 true := ⟨RC9, TC9, rfl, by decide, (aw4 (i := 114) rfl rfl), rfl, rfl⟩
theorem fl_M_65 : FLP "PlanDeskModel" 65 9 25 true := ⟨RC9, TC9, rfl, by decide, (aw4 (i := 115) rfl rfl), rfl, rfl⟩
theorem fl_M_68 : FLP "PlanDeskModel" 68 9 26 true := ⟨RC9, TC9, rfl, by decide, (aw4 (i := 116) rfl rfl), rfl, rfl⟩
theorem fl_M_7 : FLP "PlanDeskModel" 7 9 1 true := ⟨RC9, TC9, rfl, by decide, (aw4 (i := 91) rfl rfl), rfl, rfl⟩
theorem fl_M_71 : FLP "PlanDeskModel" 71 9 27 true := ⟨RC9, TC9, rfl, by decide, (aw4 (i := 117) rfl rfl), rfl, rfl⟩
theorem fl_M_74 : FLP "PlanDeskModel" 74 9 28 true := ⟨RC9, TC9, rfl, by decide, (aw4 (i := 118) rfl rfl), rfl, rfl⟩
theorem fl_M_77 : FLP "PlanDeskModel" 77 9 29 true := ⟨RC9, TC9, rfl, by decide, (aw4 (i := 119) rfl rfl), rfl, rfl⟩
theorem fl_M_80 : FLP "PlanDeskModel" 80 9 30 true := ⟨RC9, TC9, rfl, by decide, (aw4 (i := 120) rfl rfl), rfl, rfl⟩
theorem fl_M_83 : FLP "PlanDeskModel" 83 9 32 true := ⟨RC9, TC9, rfl, by decide, (aw4 (i := 122) rfl rfl), rfl, rfl⟩
theorem fl_M_86 : FLP "PlanDeskModel" 86 9 33 true := ⟨RC9, TC9, rfl, by decide, (aw4 (i := 123) rfl rfl), rfl, rfl⟩
theorem fl_M_89 : FLP "PlanDeskModel" 89 9 34 true := ⟨RC9, TC9, rfl, by decide, (aw4 (i := 124) rfl rfl), rfl, rfl⟩
theorem fl_M_93 : FLP "PlanDeskModel" 93 9 39 true := ⟨RC9, TC9, rfl, by decide, (aw4 (i := 129) rfl rfl), rfl, rfl⟩
theorem fl_M_96 : FLP "PlanDeskModel" 96 9 40 true := ⟨RC9, TC9, rfl, by decide, (aw4 (i := 130) rfl rfl), rfl, rfl⟩
theorem fl_M_99 : FLP "PlanDeskModel" 99 9 47 true := ⟨RC9, TC9, rfl, by decide, (aw4 (i := 137) rfl rfl), rfl, rfl⟩
theorem fl_Rd_107 : FLP "PlanDesk$Reader" 107 4 6 false := ⟨RC4, TC4, rfl, by decide, (aw1 (i := 206) rfl rfl), rfl, rfl⟩
theorem fl_Rd_110 : FLP "PlanDesk$Reader" 110 7 0 true := ⟨RC7, TC7, rfl, by decide, (aw1 (i := 60) rfl rfl), rfl, rfl⟩
theorem fl_Rd_114 : FLP "PlanDesk$Reader" 114 7 1 true := ⟨RC7, TC7, rfl, by decide, (aw1 (i := 62) rfl rfl), rfl, rfl⟩
theorem fl_Rd_117 : FLP "PlanDesk$Reader" 117 7 2 true := ⟨RC7, TC7, rfl, by decide, (aw1 (i := 64) rfl rfl), rfl, rfl⟩
theorem fl_Rd_12 : FLP "PlanDesk$Reader" 12 4 0 true := ⟨RC4, TC4, rfl, by decide, (aw1 (i := 198) rfl rfl), rfl, rfl⟩
theorem fl_Rd_121 : FLP "PlanDesk$Reader" 121 4 9 false := ⟨RC4, TC4, rfl, by decide, (aw1 (i := 209) rfl rfl), rfl, rfl⟩
theorem fl_Rd_129 : FLP "PlanDesk$Reader" 129 0 0 true := ⟨RC0, TC0, rfl, by decide, (aw2 (i := 61) rfl rfl), rfl, rfl⟩
theorem fl_Rd_133 : FLP "PlanDesk$Reader" 133 5 0 false := ⟨RC5, TC5, rfl, by decide, (aw2 (i := 6) rfl rfl), rfl, rfl⟩
theorem fl_Rd_136 : FLP "PlanDesk$Reader" 136 3 1 false := ⟨RC3, TC3, rfl, by decide, (aw1 (i := 96) rfl rfl), rfl, rfl⟩
theorem fl_Rd_142 : FLP "PlanDesk$Reader" 142 1 1 true := ⟨RC1, TC1, rfl, by decide, (aw1 (i := 133) rfl rfl), rfl, rfl⟩
theorem fl_Rd_162 : FLP "PlanDesk$Reader" 162 3 2 false := ⟨RC3, TC3, rfl, by decide, (aw1 (i := 101) rfl rfl), rfl, rfl⟩
theorem fl_Rd_173 : FLP "PlanDesk$Reader" 173 1 3 false := ⟨RC1, TC1, rfl, by decide, (aw1 (i := 139) rfl rfl), rfl, rfl⟩
theorem fl_Rd_182 : FLP "PlanDesk$Reader" 182 3 0 false := ⟨RC3, TC3, rfl, by decide, (aw1 (i := 93) rfl rfl), rfl, rfl⟩
theorem fl_Rd_186 : FLP "PlanDesk$Reader" 186 3 3 false := ⟨RC3, TC3, rfl, by decide, (aw1 (i := 103) rfl rfl), rfl, rfl⟩
theorem fl_Rd_200 : FLP "PlanDesk$Reader" 200 3 4 false := ⟨RC3, TC3, rfl, by decide, (aw1 (i := 106) rfl rfl), rfl, rfl⟩
theorem fl_Rd_205 : FLP "PlanDesk$Reader" 205 1 4 false := ⟨RC1, TC1, rfl, by decide, (aw1 (i := 142) rfl rfl), rfl, rfl⟩
theorem fl_Rd_208 : FLP "PlanDesk$Reader" 208 1 5 false := ⟨RC1, TC1, rfl, by decide, (aw1 (i := 145) rfl rfl), rfl, rfl⟩
theorem fl_Rd_21 : FLP "PlanDesk$Reader" 21 4 1 true := ⟨RC4, TC4, rfl, by decide, (aw1 (i := 199) rfl rfl), rfl, rfl⟩
theorem fl_Rd_28 : FLP "PlanDesk$Reader" 28 4 2 true := ⟨RC4, TC4, rfl, by decide, (aw1 (i := 200) rfl rfl), rfl, rfl⟩
theorem fl_Rd_36 : FLP "PlanDesk$Reader" 36 4 3 false := ⟨RC4, TC4, rfl, by decide, (aw1 (i := 201) rfl rfl), rfl, rfl⟩
theorem fl_Rd_45 : FLP "PlanDesk$Reader" 45 2 2 false := ⟨RC2, TC2, rfl, by decide, (aw1 (i := 190) rfl rfl), rfl, rfl⟩
theorem fl_Rd_49 : FLP "PlanDesk$Reader" 49 4 4 false := ⟨RC4, TC4, rfl, by decide, (aw1 (i := 202) rfl rfl), rfl, rfl⟩
theorem fl_Rd_52 : FLP "PlanDesk$Reader" 52 4 5 false := ⟨RC4, TC4, rfl, by decide, (aw1 (i := 204) rfl rfl), rfl, rfl⟩
theorem fl_Rd_59 : FLP "PlanDesk$Reader" 59 7 3 false := ⟨RC7, TC7, rfl, by decide, (aw1 (i := 66) rfl rfl), rfl, rfl⟩
theorem fl_Rd_60 : FLP "PlanDesk$Reader" 60 4 7 false := ⟨RC4, TC4, rfl, by decide, (aw1 (i := 207) rfl rfl), rfl, rfl⟩
theorem fl_Rd_63 : FLP "PlanDesk$Reader" 63 4 8 false := ⟨RC4, TC4, rfl, by decide, (aw1 (i := 208) rfl rfl), rfl, rfl⟩
theorem fl_Rd_69 : FLP "PlanDesk$Reader" 69 1 0 true := ⟨RC1, TC1, rfl, by decide, (aw1 (i := 128) rfl rfl), rfl, rfl⟩
theorem fl_Rd_81 : FLP "PlanDesk$Reader" 81 1 2 false := ⟨RC1, TC1, rfl, by decide, (aw1 (i := 136) rfl rfl), rfl, rfl⟩
theorem fl_Rl_15 : FLP "PlanDesk$Rules" 15 5 2 true := ⟨RC5, TC5, rfl, by decide, (aw2 (i := 10) rfl rfl), rfl, rfl⟩
theorem fl_Rl_18 : FLP "PlanDesk$Rules" 18 5 3 true := ⟨RC5, TC5, rfl, by decide, (aw2 (i := 13) rfl rfl), rfl, rfl⟩
theorem fl_Rl_21 : FLP "PlanDesk$Rules" 21 5 4 true := ⟨RC5, TC5, rfl, by decide, (aw2 (i := 15) rfl rfl), rfl, rfl⟩
theorem fl_Rl_24 : FLP "PlanDesk$Rules" 24 5 5 true := ⟨RC5, TC5, rfl, by decide, (aw2 (i := 18) rfl rfl), rfl, rfl⟩
theorem fl_Rl_27 : FLP "PlanDesk$Rules" 27 5 6 true := ⟨RC5, TC5, rfl, by decide, (aw2 (i := 20) rfl rfl), rfl, rfl⟩
theorem fl_Rl_30 : FLP "PlanDesk$Rules" 30 5 7 true := ⟨RC5, TC5, rfl, by decide, (aw2 (i := 23) rfl rfl), rfl, rfl⟩
theorem fl_Rl_33 : FLP "PlanDesk$Rules" 33 5 8 true := ⟨RC5, TC5, rfl, by decide, (aw2 (i := 26) rfl rfl), rfl, rfl⟩
theorem fl_Rl_36 : FLP "PlanDesk$Rules" 36 5 9 true := ⟨RC5, TC5, rfl, by decide, (aw2 (i := 28) rfl rfl), rfl, rfl⟩
theorem fl_Rl_39 : FLP "PlanDesk$Rules" 39 5 10 true := ⟨RC5, TC5, rfl, by decide, (aw2 (i := 30) rfl rfl), rfl, rfl⟩
theorem fl_Rl_42 : FLP "PlanDesk$Rules" 42 5 11 true := ⟨RC5, TC5, rfl, by decide, (aw2 (i := 32) rfl rfl), rfl, rfl⟩
theorem fl_Rl_45 : FLP "PlanDesk$Rules" 45 5 0 false := ⟨RC5, TC5, rfl, by decide, (aw2 (i := 3) rfl rfl), rfl, rfl⟩
theorem fl_Rl_49 : FLP "PlanDesk$Rules" 49 1 0 true := ⟨RC1, TC1, rfl, by decide, (aw1 (i := 127) rfl rfl), rfl, rfl⟩
theorem fl_Rl_55 : FLP "PlanDesk$Rules" 55 3 2 false := ⟨RC3, TC3, rfl, by decide, (aw1 (i := 99) rfl rfl), rfl, rfl⟩
theorem fl_Rl_59 : FLP "PlanDesk$Rules" 59 1 2 false := ⟨RC1, TC1, rfl, by decide, (aw1 (i := 135) rfl rfl), rfl, rfl⟩
theorem fl_Rl_62 : FLP "PlanDesk$Rules" 62 1 6 false := ⟨RC1, TC1, rfl, by decide, (aw1 (i := 147) rfl rfl), rfl, rfl⟩
theorem fl_Rl_64 : FLP "PlanDesk$Rules" 64 1 4 false := ⟨RC1, TC1, rfl, by decide, (aw1 (i := 141) rfl rfl), rfl, rfl⟩
theorem fl_Rl_67 : FLP "PlanDesk$Rules" 67 1 5 false := ⟨RC1, TC1, rfl, by decide, (aw1 (i := 144) rfl rfl), rfl, rfl⟩
theorem fl_Rl_70 : FLP "PlanDesk$Rules" 70 1 1 true := ⟨RC1, TC1, rfl, by decide, (aw1 (i := 131) rfl rfl), rfl, rfl⟩
theorem fl_Rl_74 : FLP "PlanDesk$Rules" 74 3 0 false := ⟨RC3, TC3, rfl, by decide, (aw1 (i := 91) rfl rfl), rfl, rfl⟩
theorem fl_Rl_77 : FLP "PlanDesk$Rules" 77 3 1 false := ⟨RC3, TC3, rfl, by decide, (aw1 (i := 95) rfl rfl), rfl, rfl⟩
theorem fl_Rl_80 : FLP "PlanDesk$Rules" 80 1 9 true := ⟨RC1, TC1, rfl, by decide, (aw1 (i := 151) rfl rfl), rfl, rfl⟩
theorem fl_Rl_81 : FLP "PlanDesk$Rules" 81 1 10 true := ⟨RC1, TC1, rfl, by decide, (aw1 (i := 153) rfl rfl), rfl, rfl⟩
theorem fl_Rl_82 : FLP "PlanDesk$Rules" 82 1 11 true := ⟨RC1, TC1, rfl, by decide, (aw1 (i := 155) rfl rfl), rfl, rfl⟩
theorem fl_Rl_9 : FLP "PlanDesk$Rules" 9 5 1 true := ⟨RC5, TC5, rfl, by decide, (aw2 (i := 7) rfl rfl), rfl, rfl⟩
theorem fl_Tk_15 : FLP "PlanDesk$Tokens" 15 7 1 true := ⟨RC7, TC7, rfl, by decide, (aw1 (i := 61) rfl rfl), rfl, rfl⟩
theorem fl_Tk_18 : FLP "PlanDesk$Tokens" 18 7 2 true := ⟨RC7, TC7, rfl, by decide, (aw1 (i := 63) rfl rfl), rfl, rfl⟩
theorem fl_Tk_22 : FLP "PlanDesk$Tokens" 22 7 3 false := ⟨RC7, TC7, rfl, by decide, (aw1 (i := 65) rfl rfl), rfl, rfl⟩
theorem fl_Tk_26 : FLP "PlanDesk$Tokens" 26 6 1 false := ⟨RC6, TC6, rfl, by decide, (aw1 (i := 39) rfl rfl), rfl, rfl⟩
theorem fl_Tk_9 : FLP "PlanDesk$Tokens" 9 7 0 true := ⟨RC7, TC7, rfl, by decide, (aw1 (i := 59) rfl rfl), rfl, rfl⟩
theorem fl_Tp_15 : FLP "PlanDesk$Tape" 15 6 1 false := ⟨RC6, TC6, rfl, by decide, (aw1 (i := 38) rfl rfl), rfl, rfl⟩
theorem fl_Tp_9 : FLP "PlanDesk$Tape" 9 6 0 true := ⟨RC6, TC6, rfl, by decide, (aw1 (i := 37) rfl rfl), rfl, rfl⟩
theorem lc_Lt_36 : Jvm.Cond.constantLong "PlanDesk$Literal" 36 (Int64.ofInt 281474976710656) ∈ AW := (aw3 (i := 72) rfl rfl)
theorem lc_Lt_38 : Jvm.Cond.constantLong "PlanDesk$Literal" 38 (Int64.ofInt 4503599627370496) ∈ AW := (aw3 (i := 73) rfl rfl)
theorem lc_M_133 : Jvm.Cond.constantLong "PlanDeskModel" 133 (Int64.ofInt 255) ∈ AW := (aw5 (i := 28) rfl rfl)
theorem lc_M_163 : Jvm.Cond.constantLong "PlanDeskModel" 163 (Int64.ofInt 10) ∈ AW := (aw5 (i := 48) rfl rfl)
theorem lc_M_165 : Jvm.Cond.constantLong "PlanDeskModel" 165 (Int64.ofInt 48) ∈ AW := (aw5 (i := 49) rfl rfl)
theorem lc_M_209 : Jvm.Cond.constantLong "PlanDeskModel" 209 (Int64.ofInt 72057594037927936) ∈ AW := (aw5 (i := 113) rfl rfl)
theorem lc_Rd_211 : Jvm.Cond.constantLong "PlanDesk$Reader" 211 (Int64.ofInt 4503599627370496) ∈ AW := (aw3 (i := 84) rfl rfl)
theorem lc_Rd_216 : Jvm.Cond.constantLong "PlanDesk$Reader" 216 (Int64.ofInt 17592186044416) ∈ AW := (aw3 (i := 74) rfl rfl)
theorem lc_Rd_222 : Jvm.Cond.constantLong "PlanDesk$Reader" 222 (Int64.ofInt 281474976710656) ∈ AW := (aw3 (i := 79) rfl rfl)
theorem lc_Tp_35 : Jvm.Cond.constantLong "PlanDesk$Tape" 35 (Int64.ofInt 10) ∈ AW := (aw3 (i := 16) rfl rfl)
theorem lc_Tp_37 : Jvm.Cond.constantLong "PlanDesk$Tape" 37 (Int64.ofInt 48) ∈ AW := (aw3 (i := 17) rfl rfl)
theorem cs_Bk_liftHead_101 : SLP m_Bk_liftHead m_JM_max 101 2 := ⟨⟨(aw3 (i := 219) rfl rfl), (aw1 (i := 16) rfl rfl), ⟨by decide, by decide⟩, by decide +kernel, by decide, by decide⟩, (aw3 (i := 217) rfl rfl), (aw3 (i := 218) rfl rfl)⟩
theorem cs_Cl_nextAsked_79 : SLP m_Cl_nextAsked m_JI_bitCount 79 1 := ⟨⟨(aw3 (i := 140) rfl rfl), (aw1 (i := 15) rfl rfl), ⟨by decide, by decide⟩, by decide +kernel, by decide, by decide⟩, (aw3 (i := 138) rfl rfl), (aw3 (i := 139) rfl rfl)⟩
theorem cs_Cl_openPlace_59 : SLP m_Cl_openPlace m_JM_min 59 2 := ⟨⟨(aw3 (i := 172) rfl rfl), (aw1 (i := 16) rfl rfl), ⟨by decide, by decide⟩, by decide +kernel, by decide, by decide⟩, (aw3 (i := 170) rfl rfl), (aw3 (i := 171) rfl rfl)⟩
theorem cs_Cl_plan_79 : SLP m_Cl_plan m_JI_bitCount 79 1 := ⟨⟨(aw3 (i := 140) rfl rfl), (aw1 (i := 15) rfl rfl), ⟨by decide, by decide⟩, by decide +kernel, by decide, by decide⟩, (aw3 (i := 138) rfl rfl), (aw3 (i := 139) rfl rfl)⟩
theorem cs_D_letter_89 : SLP m_D_letter m_D_letters 89 1 := ⟨⟨(aw2 (i := 130) rfl rfl), (aw1 (i := 1) rfl rfl), ⟨by decide, by decide⟩, by decide +kernel, by decide, by decide⟩, (aw2 (i := 128) rfl rfl), (aw2 (i := 129) rfl rfl)⟩
theorem cs_D_predicate_89 : SLP m_D_predicate m_D_letters 89 1 := ⟨⟨(aw2 (i := 130) rfl rfl), (aw1 (i := 1) rfl rfl), ⟨by decide, by decide⟩, by decide +kernel, by decide, by decide⟩, (aw2 (i := 128) rfl rfl), (aw2 (i := 129) rfl rfl)⟩
theorem cs_D_predicate_93 : SLP m_D_predicate m_D_letter 93 2 := ⟨⟨(aw2 (i := 133) rfl rfl), (aw1 (i := 1) rfl rfl), ⟨by decide, by decide⟩, by decide +kernel, by decide, by decide⟩, (aw2 (i := 131) rfl rfl), (aw2 (i := 132) rfl rfl)⟩
theorem cs_D_type_37 : SLP m_D_type m_D_byteOf 37 2 := ⟨⟨(aw2 (i := 111) rfl rfl), (aw1 (i := 1) rfl rfl), ⟨by decide, by decide⟩, by decide +kernel, by decide, by decide⟩, (aw2 (i := 109) rfl rfl), (aw2 (i := 110) rfl rfl)⟩
theorem cs_M_isPart_135 : SLP m_M_isPart m_M_isSmall 135 1 := ⟨⟨(aw5 (i := 56) rfl rfl), (aw1 (i := 10) rfl rfl), ⟨by decide, by decide⟩, by decide +kernel, by decide, by decide⟩, (aw5 (i := 54) rfl rfl), (aw5 (i := 55) rfl rfl)⟩
theorem cs_M_isPart_139 : SLP m_M_isPart m_M_isGreat 139 1 := ⟨⟨(aw5 (i := 65) rfl rfl), (aw1 (i := 10) rfl rfl), ⟨by decide, by decide⟩, by decide +kernel, by decide, by decide⟩, (aw5 (i := 63) rfl rfl), (aw5 (i := 64) rfl rfl)⟩
theorem cs_M_isPart_142 : SLP m_M_isPart m_M_isDigit 142 1 := ⟨⟨(aw5 (i := 43) rfl rfl), (aw1 (i := 10) rfl rfl), ⟨by decide, by decide⟩, by decide +kernel, by decide, by decide⟩, (aw5 (i := 41) rfl rfl), (aw5 (i := 42) rfl rfl)⟩
theorem cs_M_nextLiteral_332 : SLP m_M_nextLiteral m_M_many 332 1 := ⟨⟨(aw5 (i := 239) rfl rfl), (aw1 (i := 10) rfl rfl), ⟨by decide, by decide⟩, by decide +kernel, by decide, by decide⟩, (aw5 (i := 237) rfl rfl), (aw5 (i := 238) rfl rfl)⟩
theorem cs_M_oneToken_135 : SLP m_M_oneToken m_M_isSmall 135 1 := ⟨⟨(aw5 (i := 56) rfl rfl), (aw1 (i := 10) rfl rfl), ⟨by decide, by decide⟩, by decide +kernel, by decide, by decide⟩, (aw5 (i := 54) rfl rfl), (aw5 (i := 55) rfl rfl)⟩
theorem cs_M_oneToken_139 : SLP m_M_oneToken m_M_isGreat 139 1 := ⟨⟨(aw5 (i := 65) rfl rfl), (aw1 (i := 10) rfl rfl), ⟨by decide, by decide⟩, by decide +kernel, by decide, by decide⟩, (aw5 (i := 63) rfl rfl), (aw5 (i := 64) rfl rfl)⟩
theorem cs_M_oneToken_142 : SLP m_M_oneToken m_M_isDigit 142 1 := ⟨⟨(aw5 (i := 43) rfl rfl), (aw1 (i := 10) rfl rfl), ⟨by decide, by decide⟩, by decide +kernel, by decide, by decide⟩, (aw5 (i := 41) rfl rfl), (aw5 (i := 42) rfl rfl)⟩
theorem cs_M_oneToken_167 : SLP m_M_oneToken m_M_wordOf 167 1 := ⟨⟨(aw5 (i := 59) rfl rfl), (aw1 (i := 10) rfl rfl), ⟨by decide, by decide⟩, by decide +kernel, by decide, by decide⟩, (aw5 (i := 57) rfl rfl), (aw5 (i := 58) rfl rfl)⟩
theorem cs_M_oneToken_171 : SLP m_M_oneToken m_M_isPart 171 1 := ⟨⟨(aw5 (i := 68) rfl rfl), (aw1 (i := 10) rfl rfl), ⟨by decide, by decide⟩, by decide +kernel, by decide, by decide⟩, (aw5 (i := 66) rfl rfl), (aw5 (i := 67) rfl rfl)⟩
theorem cs_M_predicate_338 : SLP m_M_predicate m_M_letters 338 1 := ⟨⟨(aw5 (i := 204) rfl rfl), (aw1 (i := 10) rfl rfl), ⟨by decide, by decide⟩, by decide +kernel, by decide, by decide⟩, (aw5 (i := 202) rfl rfl), (aw5 (i := 203) rfl rfl)⟩
theorem cs_M_wordOf_148 : SLP m_M_wordOf m_M_packed 148 5 := ⟨⟨(aw5 (i := 62) rfl rfl), (aw1 (i := 10) rfl rfl), ⟨by decide, by decide⟩, by decide +kernel, by decide, by decide⟩, (aw5 (i := 60) rfl rfl), (aw5 (i := 61) rfl rfl)⟩
theorem cs_Tk_cutName_59 : SLP m_Tk_cutName m_Tk_totalAt 59 3 := ⟨⟨(aw2 (i := 178) rfl rfl), (aw1 (i := 4) rfl rfl), ⟨by decide, by decide⟩, by decide +kernel, by decide, by decide⟩, (aw2 (i := 176) rfl rfl), (aw2 (i := 177) rfl rfl)⟩
theorem cs_Tk_cutSign_83 : SLP m_Tk_cutSign m_Tk_pairKind 83 2 := ⟨⟨(aw3 (i := 24) rfl rfl), (aw1 (i := 4) rfl rfl), ⟨by decide, by decide⟩, by decide +kernel, by decide, by decide⟩, (aw3 (i := 22) rfl rfl), (aw3 (i := 23) rfl rfl)⟩
theorem cs_Tk_cutSign_86 : SLP m_Tk_cutSign m_Tk_signKind 86 1 := ⟨⟨(aw3 (i := 27) rfl rfl), (aw1 (i := 4) rfl rfl), ⟨by decide, by decide⟩, by decide +kernel, by decide, by decide⟩, (aw3 (i := 25) rfl rfl), (aw3 (i := 26) rfl rfl)⟩
theorem cv_Bk_addRule_54 : VLP m_Bk_addRule m_Rl_add 54 1 5 := ⟨⟨(aw3 (i := 160) rfl rfl), (aw1 (i := 9) rfl rfl), ⟨by decide, by decide⟩, by decide +kernel, by decide, by decide⟩, (aw3 (i := 157) rfl rfl), (aw3 (i := 158) rfl rfl), (aw3 (i := 159) rfl rfl), TC5, rfl⟩
theorem cv_Bk_addRule_65 : VLP m_Bk_addRule m_Lt_isAtom 65 0 3 := ⟨⟨(aw3 (i := 147) rfl rfl), (aw1 (i := 6) rfl rfl), ⟨by decide, by decide⟩, by decide +kernel, by decide, by decide⟩, (aw3 (i := 161) rfl rfl), (aw3 (i := 145) rfl rfl), (aw3 (i := 146) rfl rfl), TC3, rfl⟩
theorem cv_Bk_circles_82 : VLP m_Bk_circles m_Bk_leadsBack 82 2 0 := ⟨⟨(aw3 (i := 208) rfl rfl), (aw1 (i := 8) rfl rfl), ⟨by decide, by decide⟩, by decide +kernel, by decide, by decide⟩, (aw3 (i := 205) rfl rfl), (aw3 (i := 207) rfl rfl), (awp2 (i := 8) rfl), TC0, rfl⟩
theorem cv_Bk_knotPlace_82 : VLP m_Bk_knotPlace m_Bk_leadsBack 82 2 0 := ⟨⟨(aw3 (i := 208) rfl rfl), (aw1 (i := 8) rfl rfl), ⟨by decide, by decide⟩, by decide +kernel, by decide, by decide⟩, (aw3 (i := 205) rfl rfl), (aw3 (i := 207) rfl rfl), (awp2 (i := 8) rfl), TC0, rfl⟩
theorem cv_Bk_knotPlace_85 : VLP m_Bk_knotPlace m_Rl_waits 85 2 5 := ⟨⟨(aw3 (i := 204) rfl rfl), (aw1 (i := 9) rfl rfl), ⟨by decide, by decide⟩, by decide +kernel, by decide, by decide⟩, (aw3 (i := 201) rfl rfl), (aw3 (i := 202) rfl rfl), (aw3 (i := 203) rfl rfl), TC5, rfl⟩
theorem cv_Bk_layStrata_97 : VLP m_Bk_layStrata m_Bk_liftHead 97 1 0 := ⟨⟨(aw3 (i := 216) rfl rfl), (aw1 (i := 8) rfl rfl), ⟨by decide, by decide⟩, by decide +kernel, by decide, by decide⟩, (aw3 (i := 213) rfl rfl), (aw3 (i := 215) rfl rfl), (awp2 (i := 9) rfl), TC0, rfl⟩
theorem cv_Bk_leadsBack_69 : VLP m_Bk_leadsBack m_Bk_reaches 69 2 0 := ⟨⟨(aw2 (i := 141) rfl rfl), (aw1 (i := 8) rfl rfl), ⟨by decide, by decide⟩, by decide +kernel, by decide, by decide⟩, (aw3 (i := 196) rfl rfl), (aw2 (i := 139) rfl rfl), (aw2 (i := 140) rfl rfl), TC0, rfl⟩
theorem cv_Bk_liftHead_85 : VLP m_Bk_liftHead m_Rl_waits 85 2 5 := ⟨⟨(aw3 (i := 204) rfl rfl), (aw1 (i := 9) rfl rfl), ⟨by decide, by decide⟩, by decide +kernel, by decide, by decide⟩, (aw3 (i := 201) rfl rfl), (aw3 (i := 202) rfl rfl), (aw3 (i := 203) rfl rfl), TC5, rfl⟩
theorem cv_Bk_spreadHanging_69 : VLP m_Bk_spreadHanging m_Bk_reaches 69 2 0 := ⟨⟨(aw2 (i := 141) rfl rfl), (aw1 (i := 8) rfl rfl), ⟨by decide, by decide⟩, by decide +kernel, by decide, by decide⟩, (aw3 (i := 196) rfl rfl), (aw2 (i := 139) rfl rfl), (aw2 (i := 140) rfl rfl), TC0, rfl⟩
theorem cv_Cl_begin_39 : VLP m_Cl_begin m_Lt_begin 39 2 3 := ⟨⟨(aw3 (i := 43) rfl rfl), (aw1 (i := 6) rfl rfl), ⟨by decide, by decide⟩, by decide +kernel, by decide, by decide⟩, (aw3 (i := 40) rfl rfl), (aw3 (i := 41) rfl rfl), (aw3 (i := 42) rfl rfl), TC3, rfl⟩
theorem cv_Cl_nextAsked_72 : VLP m_Cl_nextAsked m_Lt_knownArguments 72 1 3 := ⟨⟨(aw3 (i := 137) rfl rfl), (aw1 (i := 6) rfl rfl), ⟨by decide, by decide⟩, by decide +kernel, by decide, by decide⟩, (aw3 (i := 134) rfl rfl), (aw3 (i := 135) rfl rfl), (aw3 (i := 136) rfl rfl), TC3, rfl⟩
theorem cv_Cl_nextAsked_90 : VLP m_Cl_nextAsked m_Lt_canBeAsked 90 1 3 := ⟨⟨(aw3 (i := 129) rfl rfl), (aw1 (i := 6) rfl rfl), ⟨by decide, by decide⟩, by decide +kernel, by decide, by decide⟩, (aw3 (i := 126) rfl rfl), (aw3 (i := 127) rfl rfl), (aw3 (i := 128) rfl rfl), TC3, rfl⟩
theorem cv_Cl_plan_65 : VLP m_Cl_plan m_Cl_nextAsked 65 2 1 := ⟨⟨(aw3 (i := 125) rfl rfl), (aw1 (i := 5) rfl rfl), ⟨by decide, by decide⟩, by decide +kernel, by decide, by decide⟩, (aw3 (i := 122) rfl rfl), (aw3 (i := 124) rfl rfl), (awp2 (i := 3) rfl), TC1, rfl⟩
theorem cv_Cl_plan_68 : VLP m_Cl_plan m_Lt_isAtom 68 0 3 := ⟨⟨(aw3 (i := 147) rfl rfl), (aw1 (i := 6) rfl rfl), ⟨by decide, by decide⟩, by decide +kernel, by decide, by decide⟩, (aw3 (i := 144) rfl rfl), (aw3 (i := 145) rfl rfl), (aw3 (i := 146) rfl rfl), TC3, rfl⟩
theorem cv_Cl_plan_72 : VLP m_Cl_plan m_Lt_knownArguments 72 1 3 := ⟨⟨(aw3 (i := 137) rfl rfl), (aw1 (i := 6) rfl rfl), ⟨by decide, by decide⟩, by decide +kernel, by decide, by decide⟩, (aw3 (i := 134) rfl rfl), (aw3 (i := 135) rfl rfl), (aw3 (i := 136) rfl rfl), TC3, rfl⟩
theorem cv_Cl_plan_76 : VLP m_Cl_plan m_Lt_variablesFrom 76 1 3 := ⟨⟨(aw3 (i := 133) rfl rfl), (aw1 (i := 6) rfl rfl), ⟨by decide, by decide⟩, by decide +kernel, by decide, by decide⟩, (aw3 (i := 148) rfl rfl), (aw3 (i := 131) rfl rfl), (aw3 (i := 132) rfl rfl), TC3, rfl⟩
theorem cv_Cl_plan_84 : VLP m_Cl_plan m_Cl_firstWithout 84 1 1 := ⟨⟨(aw3 (i := 152) rfl rfl), (aw1 (i := 5) rfl rfl), ⟨by decide, by decide⟩, by decide +kernel, by decide, by decide⟩, (aw3 (i := 149) rfl rfl), (aw3 (i := 151) rfl rfl), (awp2 (i := 4) rfl), TC1, rfl⟩
theorem cv_D_hangs_96 : VLP m_D_hangs m_Bk_reaches 96 2 0 := ⟨⟨(aw2 (i := 141) rfl rfl), (aw1 (i := 8) rfl rfl), ⟨by decide, by decide⟩, by decide +kernel, by decide, by decide⟩, (aw2 (i := 138) rfl rfl), (aw2 (i := 139) rfl rfl), (aw2 (i := 140) rfl rfl), TC0, rfl⟩
theorem cv_D_type_41 : VLP m_D_type m_Tp_add 41 1 6 := ⟨⟨(aw2 (i := 115) rfl rfl), (aw1 (i := 2) rfl rfl), ⟨by decide, by decide⟩, by decide +kernel, by decide, by decide⟩, (aw2 (i := 112) rfl rfl), (aw2 (i := 113) rfl rfl), (aw2 (i := 114) rfl rfl), TC6, rfl⟩
theorem cv_Lt_canBeAsked_40 : VLP m_Lt_canBeAsked m_Lt_variablesFrom 40 1 3 := ⟨⟨(aw3 (i := 133) rfl rfl), (aw1 (i := 6) rfl rfl), ⟨by decide, by decide⟩, by decide +kernel, by decide, by decide⟩, (aw3 (i := 130) rfl rfl), (aw3 (i := 131) rfl rfl), (aw3 (i := 132) rfl rfl), TC3, rfl⟩
theorem cv_M_canAsk_323 : VLP m_M_canAsk m_M_isKnownTerm 323 2 9 := ⟨⟨(aw5 (i := 232) rfl rfl), (aw1 (i := 10) rfl rfl), ⟨by decide, by decide⟩, by decide +kernel, by decide, by decide⟩, (aw5 (i := 229) rfl rfl), (aw5 (i := 231) rfl rfl), (awp5 (i := 0) rfl), TC9, rfl⟩
theorem cv_M_knownIn_323 : VLP m_M_knownIn m_M_isKnownTerm 323 2 9 := ⟨⟨(aw5 (i := 232) rfl rfl), (aw1 (i := 10) rfl rfl), ⟨by decide, by decide⟩, by decide +kernel, by decide, by decide⟩, (aw5 (i := 229) rfl rfl), (aw5 (i := 231) rfl rfl), (awp5 (i := 0) rfl), TC9, rfl⟩
theorem cv_M_literal_296 : VLP m_M_literal m_M_isAtom 296 1 9 := ⟨⟨(aw5 (i := 177) rfl rfl), (aw1 (i := 10) rfl rfl), ⟨by decide, by decide⟩, by decide +kernel, by decide, by decide⟩, (aw5 (i := 174) rfl rfl), (aw5 (i := 176) rfl rfl), (awp4 (i := 9) rfl), TC9, rfl⟩
theorem cv_M_literal_317 : VLP m_M_literal m_M_raise 317 1 9 := ⟨⟨(aw5 (i := 185) rfl rfl), (aw1 (i := 10) rfl rfl), ⟨by decide, by decide⟩, by decide +kernel, by decide, by decide⟩, (aw5 (i := 182) rfl rfl), (aw5 (i := 184) rfl rfl), (awp4 (i := 11) rfl), TC9, rfl⟩
theorem cv_M_literal_341 : VLP m_M_literal m_M_plan 341 1 9 := ⟨⟨(aw5 (i := 220) rfl rfl), (aw1 (i := 10) rfl rfl), ⟨by decide, by decide⟩, by decide +kernel, by decide, by decide⟩, (aw5 (i := 217) rfl rfl), (aw5 (i := 219) rfl rfl), (awp4 (i := 13) rfl), TC9, rfl⟩
theorem cv_M_lookAbsence_214 : VLP m_M_lookAbsence m_M_note 214 2 9 := ⟨⟨(aw5 (i := 121) rfl rfl), (aw1 (i := 10) rfl rfl), ⟨by decide, by decide⟩, by decide +kernel, by decide, by decide⟩, (aw5 (i := 118) rfl rfl), (aw5 (i := 120) rfl rfl), (awp3 (i := 11) rfl), TC9, rfl⟩
theorem cv_M_lookAbsence_296 : VLP m_M_lookAbsence m_M_isAtom 296 1 9 := ⟨⟨(aw5 (i := 177) rfl rfl), (aw1 (i := 10) rfl rfl), ⟨by decide, by decide⟩, by decide +kernel, by decide, by decide⟩, (aw5 (i := 174) rfl rfl), (aw5 (i := 176) rfl rfl), (awp4 (i := 9) rfl), TC9, rfl⟩
theorem cv_M_lookAbsence_299 : VLP m_M_lookAbsence m_M_lookHangs 299 0 9 := ⟨⟨(aw5 (i := 173) rfl rfl), (aw1 (i := 10) rfl rfl), ⟨by decide, by decide⟩, by decide +kernel, by decide, by decide⟩, (aw5 (i := 170) rfl rfl), (aw5 (i := 172) rfl rfl), (awp4 (i := 8) rfl), TC9, rfl⟩
theorem cv_M_lookAbsence_302 : VLP m_M_lookAbsence m_M_isBack 302 2 9 := ⟨⟨(aw5 (i := 181) rfl rfl), (aw1 (i := 10) rfl rfl), ⟨by decide, by decide⟩, by decide +kernel, by decide, by decide⟩, (aw5 (i := 178) rfl rfl), (aw5 (i := 180) rfl rfl), (awp4 (i := 10) rfl), TC9, rfl⟩
theorem cv_M_lookBound_214 : VLP m_M_lookBound m_M_note 214 2 9 := ⟨⟨(aw5 (i := 121) rfl rfl), (aw1 (i := 10) rfl rfl), ⟨by decide, by decide⟩, by decide +kernel, by decide, by decide⟩, (aw5 (i := 118) rfl rfl), (aw5 (i := 120) rfl rfl), (awp3 (i := 11) rfl), TC9, rfl⟩
theorem cv_M_lookBound_267 : VLP m_M_lookBound m_M_predicateSizeOf 267 1 9 := ⟨⟨(aw5 (i := 157) rfl rfl), (aw1 (i := 10) rfl rfl), ⟨by decide, by decide⟩, by decide +kernel, by decide, by decide⟩, (aw5 (i := 154) rfl rfl), (aw5 (i := 156) rfl rfl), (awp4 (i := 4) rfl), TC9, rfl⟩
theorem cv_M_lookBound_270 : VLP m_M_lookBound m_M_bind 270 2 9 := ⟨⟨(aw5 (i := 161) rfl rfl), (aw1 (i := 10) rfl rfl), ⟨by decide, by decide⟩, by decide +kernel, by decide, by decide⟩, (aw5 (i := 158) rfl rfl), (aw5 (i := 160) rfl rfl), (awp4 (i := 5) rfl), TC9, rfl⟩
theorem cv_M_lookBound_273 : VLP m_M_lookBound m_M_isBound 273 2 9 := ⟨⟨(aw5 (i := 165) rfl rfl), (aw1 (i := 10) rfl rfl), ⟨by decide, by decide⟩, by decide +kernel, by decide, by decide⟩, (aw5 (i := 162) rfl rfl), (aw5 (i := 164) rfl rfl), (awp4 (i := 6) rfl), TC9, rfl⟩
theorem cv_M_lookHangs_296 : VLP m_M_lookHangs m_M_isAtom 296 1 9 := ⟨⟨(aw5 (i := 177) rfl rfl), (aw1 (i := 10) rfl rfl), ⟨by decide, by decide⟩, by decide +kernel, by decide, by decide⟩, (aw5 (i := 174) rfl rfl), (aw5 (i := 176) rfl rfl), (awp4 (i := 9) rfl), TC9, rfl⟩
theorem cv_M_lookStrata_296 : VLP m_M_lookStrata m_M_isAtom 296 1 9 := ⟨⟨(aw5 (i := 177) rfl rfl), (aw1 (i := 10) rfl rfl), ⟨by decide, by decide⟩, by decide +kernel, by decide, by decide⟩, (aw5 (i := 174) rfl rfl), (aw5 (i := 176) rfl rfl), (awp4 (i := 9) rfl), TC9, rfl⟩
theorem cv_M_nextLiteral_326 : VLP m_M_nextLiteral m_M_canAsk 326 1 9 := ⟨⟨(aw5 (i := 228) rfl rfl), (aw1 (i := 10) rfl rfl), ⟨by decide, by decide⟩, by decide +kernel, by decide, by decide⟩, (aw5 (i := 225) rfl rfl), (aw5 (i := 227) rfl rfl), (awp4 (i := 15) rfl), TC9, rfl⟩
theorem cv_M_nextLiteral_329 : VLP m_M_nextLiteral m_M_knownIn 329 1 9 := ⟨⟨(aw5 (i := 236) rfl rfl), (aw1 (i := 10) rfl rfl), ⟨by decide, by decide⟩, by decide +kernel, by decide, by decide⟩, (aw5 (i := 233) rfl rfl), (aw5 (i := 235) rfl rfl), (awp5 (i := 1) rfl), TC9, rfl⟩
theorem cv_M_oneToken_156 : VLP m_M_oneToken m_M_token 156 4 9 := ⟨⟨(aw5 (i := 53) rfl rfl), (aw1 (i := 10) rfl rfl), ⟨by decide, by decide⟩, by decide +kernel, by decide, by decide⟩, (aw5 (i := 50) rfl rfl), (aw5 (i := 52) rfl rfl), (awp2 (i := 14) rfl), TC9, rfl⟩
theorem cv_M_oneToken_160 : VLP m_M_oneToken m_M_see 160 1 9 := ⟨⟨(aw5 (i := 47) rfl rfl), (aw1 (i := 10) rfl rfl), ⟨by decide, by decide⟩, by decide +kernel, by decide, by decide⟩, (aw5 (i := 44) rfl rfl), (aw5 (i := 46) rfl rfl), (awp2 (i := 13) rfl), TC9, rfl⟩
theorem cv_M_plan_296 : VLP m_M_plan m_M_isAtom 296 1 9 := ⟨⟨(aw5 (i := 177) rfl rfl), (aw1 (i := 10) rfl rfl), ⟨by decide, by decide⟩, by decide +kernel, by decide, by decide⟩, (aw5 (i := 174) rfl rfl), (aw5 (i := 176) rfl rfl), (awp4 (i := 9) rfl), TC9, rfl⟩
theorem cv_M_plan_329 : VLP m_M_plan m_M_knownIn 329 1 9 := ⟨⟨(aw5 (i := 236) rfl rfl), (aw1 (i := 10) rfl rfl), ⟨by decide, by decide⟩, by decide +kernel, by decide, by decide⟩, (aw5 (i := 233) rfl rfl), (aw5 (i := 235) rfl rfl), (awp5 (i := 1) rfl), TC9, rfl⟩
theorem cv_M_plan_335 : VLP m_M_plan m_M_nextLiteral 335 1 9 := ⟨⟨(aw5 (i := 224) rfl rfl), (aw1 (i := 10) rfl rfl), ⟨by decide, by decide⟩, by decide +kernel, by decide, by decide⟩, (aw5 (i := 221) rfl rfl), (aw5 (i := 223) rfl rfl), (awp4 (i := 14) rfl), TC9, rfl⟩
theorem cv_M_predicateOf_214 : VLP m_M_predicateOf m_M_note 214 2 9 := ⟨⟨(aw5 (i := 121) rfl rfl), (aw1 (i := 10) rfl rfl), ⟨by decide, by decide⟩, by decide +kernel, by decide, by decide⟩, (aw5 (i := 118) rfl rfl), (aw5 (i := 120) rfl rfl), (awp3 (i := 11) rfl), TC9, rfl⟩
theorem cv_M_program_299 : VLP m_M_program m_M_lookHangs 299 0 9 := ⟨⟨(aw5 (i := 173) rfl rfl), (aw1 (i := 10) rfl rfl), ⟨by decide, by decide⟩, by decide +kernel, by decide, by decide⟩, (aw5 (i := 170) rfl rfl), (aw5 (i := 172) rfl rfl), (awp4 (i := 8) rfl), TC9, rfl⟩
theorem cv_M_program_305 : VLP m_M_program m_M_tokenize 305 0 9 := ⟨⟨(aw5 (i := 36) rfl rfl), (aw1 (i := 10) rfl rfl), ⟨by decide, by decide⟩, by decide +kernel, by decide, by decide⟩, (aw5 (i := 33) rfl rfl), (aw5 (i := 35) rfl rfl), (awp2 (i := 11) rfl), TC9, rfl⟩
theorem cv_M_program_311 : VLP m_M_program m_M_readClause 311 0 9 := ⟨⟨(aw5 (i := 72) rfl rfl), (aw1 (i := 10) rfl rfl), ⟨by decide, by decide⟩, by decide +kernel, by decide, by decide⟩, (aw5 (i := 69) rfl rfl), (aw5 (i := 71) rfl rfl), (awp2 (i := 15) rfl), TC9, rfl⟩
theorem cv_M_program_314 : VLP m_M_program m_M_lookAbsence 314 0 9 := ⟨⟨(aw5 (i := 169) rfl rfl), (aw1 (i := 10) rfl rfl), ⟨by decide, by decide⟩, by decide +kernel, by decide, by decide⟩, (aw5 (i := 166) rfl rfl), (aw5 (i := 168) rfl rfl), (awp4 (i := 7) rfl), TC9, rfl⟩
theorem cv_M_program_317 : VLP m_M_program m_M_raise 317 1 9 := ⟨⟨(aw5 (i := 185) rfl rfl), (aw1 (i := 10) rfl rfl), ⟨by decide, by decide⟩, by decide +kernel, by decide, by decide⟩, (aw5 (i := 182) rfl rfl), (aw5 (i := 184) rfl rfl), (awp4 (i := 11) rfl), TC9, rfl⟩
theorem cv_M_program_320 : VLP m_M_program m_M_lookStrata 320 0 9 := ⟨⟨(aw5 (i := 189) rfl rfl), (aw1 (i := 10) rfl rfl), ⟨by decide, by decide⟩, by decide +kernel, by decide, by decide⟩, (aw5 (i := 186) rfl rfl), (aw5 (i := 188) rfl rfl), (awp4 (i := 12) rfl), TC9, rfl⟩
theorem cv_M_readArguments_186 : VLP m_M_readArguments m_M_isSign 186 1 9 := ⟨⟨(aw5 (i := 104) rfl rfl), (aw1 (i := 10) rfl rfl), ⟨by decide, by decide⟩, by decide +kernel, by decide, by decide⟩, (aw5 (i := 101) rfl rfl), (aw5 (i := 103) rfl rfl), (awp3 (i := 7) rfl), TC9, rfl⟩
theorem cv_M_readArguments_189 : VLP m_M_readArguments m_M_takes 189 1 9 := ⟨⟨(aw5 (i := 100) rfl rfl), (aw1 (i := 10) rfl rfl), ⟨by decide, by decide⟩, by decide +kernel, by decide, by decide⟩, (aw5 (i := 97) rfl rfl), (aw5 (i := 99) rfl rfl), (awp3 (i := 6) rfl), TC9, rfl⟩
theorem cv_M_readArguments_192 : VLP m_M_readArguments m_M_refuse 192 0 9 := ⟨⟨(aw5 (i := 88) rfl rfl), (aw1 (i := 10) rfl rfl), ⟨by decide, by decide⟩, by decide +kernel, by decide, by decide⟩, (aw5 (i := 85) rfl rfl), (aw5 (i := 87) rfl rfl), (awp3 (i := 3) rfl), TC9, rfl⟩
theorem cv_M_readArguments_206 : VLP m_M_readArguments m_M_readVariable 206 0 9 := ⟨⟨(aw5 (i := 108) rfl rfl), (aw1 (i := 10) rfl rfl), ⟨by decide, by decide⟩, by decide +kernel, by decide, by decide⟩, (aw5 (i := 105) rfl rfl), (aw5 (i := 107) rfl rfl), (awp3 (i := 8) rfl), TC9, rfl⟩
theorem cv_M_readArguments_218 : VLP m_M_readArguments m_M_isKnown 218 1 9 := ⟨⟨(aw5 (i := 84) rfl rfl), (aw1 (i := 10) rfl rfl), ⟨by decide, by decide⟩, by decide +kernel, by decide, by decide⟩, (aw5 (i := 81) rfl rfl), (aw5 (i := 83) rfl rfl), (awp3 (i := 2) rfl), TC9, rfl⟩
theorem cv_M_readArguments_225 : VLP m_M_readArguments m_M_want 225 1 9 := ⟨⟨(aw5 (i := 96) rfl rfl), (aw1 (i := 10) rfl rfl), ⟨by decide, by decide⟩, by decide +kernel, by decide, by decide⟩, (aw5 (i := 93) rfl rfl), (aw5 (i := 95) rfl rfl), (awp3 (i := 5) rfl), TC9, rfl⟩
theorem cv_M_readArguments_240 : VLP m_M_readArguments m_M_readTerm 240 0 9 := ⟨⟨(aw5 (i := 112) rfl rfl), (aw1 (i := 10) rfl rfl), ⟨by decide, by decide⟩, by decide +kernel, by decide, by decide⟩, (aw5 (i := 109) rfl rfl), (aw5 (i := 111) rfl rfl), (awp3 (i := 9) rfl), TC9, rfl⟩
theorem cv_M_readArguments_243 : VLP m_M_readArguments m_M_predicateOf 243 3 9 := ⟨⟨(aw5 (i := 117) rfl rfl), (aw1 (i := 10) rfl rfl), ⟨by decide, by decide⟩, by decide +kernel, by decide, by decide⟩, (aw5 (i := 114) rfl rfl), (aw5 (i := 116) rfl rfl), (awp3 (i := 10) rfl), TC9, rfl⟩
theorem cv_M_readBody_189 : VLP m_M_readBody m_M_takes 189 1 9 := ⟨⟨(aw5 (i := 100) rfl rfl), (aw1 (i := 10) rfl rfl), ⟨by decide, by decide⟩, by decide +kernel, by decide, by decide⟩, (aw5 (i := 97) rfl rfl), (aw5 (i := 99) rfl rfl), (awp3 (i := 6) rfl), TC9, rfl⟩
theorem cv_M_readBody_264 : VLP m_M_readBody m_M_readLiteral 264 0 9 := ⟨⟨(aw5 (i := 141) rfl rfl), (aw1 (i := 10) rfl rfl), ⟨by decide, by decide⟩, by decide +kernel, by decide, by decide⟩, (aw5 (i := 138) rfl rfl), (aw5 (i := 140) rfl rfl), (awp4 (i := 0) rfl), TC9, rfl⟩
theorem cv_M_readClause_183 : VLP m_M_readClause m_M_wrong 183 1 9 := ⟨⟨(aw5 (i := 92) rfl rfl), (aw1 (i := 10) rfl rfl), ⟨by decide, by decide⟩, by decide +kernel, by decide, by decide⟩, (aw5 (i := 89) rfl rfl), (aw5 (i := 91) rfl rfl), (awp3 (i := 4) rfl), TC9, rfl⟩
theorem cv_M_readClause_186 : VLP m_M_readClause m_M_isSign 186 1 9 := ⟨⟨(aw5 (i := 104) rfl rfl), (aw1 (i := 10) rfl rfl), ⟨by decide, by decide⟩, by decide +kernel, by decide, by decide⟩, (aw5 (i := 101) rfl rfl), (aw5 (i := 103) rfl rfl), (awp3 (i := 7) rfl), TC9, rfl⟩
theorem cv_M_readClause_189 : VLP m_M_readClause m_M_takes 189 1 9 := ⟨⟨(aw5 (i := 100) rfl rfl), (aw1 (i := 10) rfl rfl), ⟨by decide, by decide⟩, by decide +kernel, by decide, by decide⟩, (aw5 (i := 97) rfl rfl), (aw5 (i := 99) rfl rfl), (awp3 (i := 6) rfl), TC9, rfl⟩
theorem cv_M_readClause_192 : VLP m_M_readClause m_M_refuse 192 0 9 := ⟨⟨(aw5 (i := 88) rfl rfl), (aw1 (i := 10) rfl rfl), ⟨by decide, by decide⟩, by decide +kernel, by decide, by decide⟩, (aw5 (i := 85) rfl rfl), (aw5 (i := 87) rfl rfl), (awp3 (i := 3) rfl), TC9, rfl⟩
theorem cv_M_readClause_225 : VLP m_M_readClause m_M_want 225 1 9 := ⟨⟨(aw5 (i := 96) rfl rfl), (aw1 (i := 10) rfl rfl), ⟨by decide, by decide⟩, by decide +kernel, by decide, by decide⟩, (aw5 (i := 93) rfl rfl), (aw5 (i := 95) rfl rfl), (awp3 (i := 5) rfl), TC9, rfl⟩
theorem cv_M_readClause_253 : VLP m_M_readClause m_M_readArguments 253 2 9 := ⟨⟨(aw5 (i := 80) rfl rfl), (aw1 (i := 10) rfl rfl), ⟨by decide, by decide⟩, by decide +kernel, by decide, by decide⟩, (aw5 (i := 77) rfl rfl), (aw5 (i := 79) rfl rfl), (awp3 (i := 1) rfl), TC9, rfl⟩
theorem cv_M_readClause_277 : VLP m_M_readClause m_M_beginClause 277 1 9 := ⟨⟨(aw5 (i := 76) rfl rfl), (aw1 (i := 10) rfl rfl), ⟨by decide, by decide⟩, by decide +kernel, by decide, by decide⟩, (aw5 (i := 73) rfl rfl), (aw5 (i := 75) rfl rfl), (awp3 (i := 0) rfl), TC9, rfl⟩
theorem cv_M_readClause_281 : VLP m_M_readClause m_M_layHead 281 0 9 := ⟨⟨(aw5 (i := 125) rfl rfl), (aw1 (i := 10) rfl rfl), ⟨by decide, by decide⟩, by decide +kernel, by decide, by decide⟩, (aw5 (i := 122) rfl rfl), (aw5 (i := 124) rfl rfl), (awp3 (i := 12) rfl), TC9, rfl⟩
theorem cv_M_readClause_284 : VLP m_M_readClause m_M_findFact 284 0 9 := ⟨⟨(aw5 (i := 129) rfl rfl), (aw1 (i := 10) rfl rfl), ⟨by decide, by decide⟩, by decide +kernel, by decide, by decide⟩, (aw5 (i := 126) rfl rfl), (aw5 (i := 128) rfl rfl), (awp3 (i := 13) rfl), TC9, rfl⟩
theorem cv_M_readClause_287 : VLP m_M_readClause m_M_addFact 287 0 9 := ⟨⟨(aw5 (i := 133) rfl rfl), (aw1 (i := 10) rfl rfl), ⟨by decide, by decide⟩, by decide +kernel, by decide, by decide⟩, (aw5 (i := 130) rfl rfl), (aw5 (i := 132) rfl rfl), (awp3 (i := 14) rfl), TC9, rfl⟩
theorem cv_M_readClause_290 : VLP m_M_readClause m_M_readBody 290 0 9 := ⟨⟨(aw5 (i := 137) rfl rfl), (aw1 (i := 10) rfl rfl), ⟨by decide, by decide⟩, by decide +kernel, by decide, by decide⟩, (aw5 (i := 134) rfl rfl), (aw5 (i := 136) rfl rfl), (awp3 (i := 15) rfl), TC9, rfl⟩
theorem cv_M_readClause_293 : VLP m_M_readClause m_M_lookBound 293 0 9 := ⟨⟨(aw5 (i := 153) rfl rfl), (aw1 (i := 10) rfl rfl), ⟨by decide, by decide⟩, by decide +kernel, by decide, by decide⟩, (aw5 (i := 150) rfl rfl), (aw5 (i := 152) rfl rfl), (awp4 (i := 3) rfl), TC9, rfl⟩
theorem cv_M_readLiteral_186 : VLP m_M_readLiteral m_M_isSign 186 1 9 := ⟨⟨(aw5 (i := 104) rfl rfl), (aw1 (i := 10) rfl rfl), ⟨by decide, by decide⟩, by decide +kernel, by decide, by decide⟩, (aw5 (i := 101) rfl rfl), (aw5 (i := 103) rfl rfl), (awp3 (i := 7) rfl), TC9, rfl⟩
theorem cv_M_readLiteral_192 : VLP m_M_readLiteral m_M_refuse 192 0 9 := ⟨⟨(aw5 (i := 88) rfl rfl), (aw1 (i := 10) rfl rfl), ⟨by decide, by decide⟩, by decide +kernel, by decide, by decide⟩, (aw5 (i := 85) rfl rfl), (aw5 (i := 87) rfl rfl), (awp3 (i := 3) rfl), TC9, rfl⟩
theorem cv_M_readLiteral_240 : VLP m_M_readLiteral m_M_readTerm 240 0 9 := ⟨⟨(aw5 (i := 112) rfl rfl), (aw1 (i := 10) rfl rfl), ⟨by decide, by decide⟩, by decide +kernel, by decide, by decide⟩, (aw5 (i := 109) rfl rfl), (aw5 (i := 111) rfl rfl), (awp3 (i := 9) rfl), TC9, rfl⟩
theorem cv_M_readLiteral_253 : VLP m_M_readLiteral m_M_readArguments 253 2 9 := ⟨⟨(aw5 (i := 80) rfl rfl), (aw1 (i := 10) rfl rfl), ⟨by decide, by decide⟩, by decide +kernel, by decide, by decide⟩, (aw5 (i := 77) rfl rfl), (aw5 (i := 79) rfl rfl), (awp3 (i := 1) rfl), TC9, rfl⟩
theorem cv_M_readLiteral_257 : VLP m_M_readLiteral m_M_lay 257 2 9 := ⟨⟨(aw5 (i := 145) rfl rfl), (aw1 (i := 10) rfl rfl), ⟨by decide, by decide⟩, by decide +kernel, by decide, by decide⟩, (aw5 (i := 142) rfl rfl), (aw5 (i := 144) rfl rfl), (awp4 (i := 1) rfl), TC9, rfl⟩
theorem cv_M_readLiteral_260 : VLP m_M_readLiteral m_M_relation 260 0 9 := ⟨⟨(aw5 (i := 149) rfl rfl), (aw1 (i := 10) rfl rfl), ⟨by decide, by decide⟩, by decide +kernel, by decide, by decide⟩, (aw5 (i := 146) rfl rfl), (aw5 (i := 148) rfl rfl), (awp4 (i := 2) rfl), TC9, rfl⟩
theorem cv_M_readTerm_189 : VLP m_M_readTerm m_M_takes 189 1 9 := ⟨⟨(aw5 (i := 100) rfl rfl), (aw1 (i := 10) rfl rfl), ⟨by decide, by decide⟩, by decide +kernel, by decide, by decide⟩, (aw5 (i := 97) rfl rfl), (aw5 (i := 99) rfl rfl), (awp3 (i := 6) rfl), TC9, rfl⟩
theorem cv_M_readTerm_192 : VLP m_M_readTerm m_M_refuse 192 0 9 := ⟨⟨(aw5 (i := 88) rfl rfl), (aw1 (i := 10) rfl rfl), ⟨by decide, by decide⟩, by decide +kernel, by decide, by decide⟩, (aw5 (i := 85) rfl rfl), (aw5 (i := 87) rfl rfl), (awp3 (i := 3) rfl), TC9, rfl⟩
theorem cv_M_readTerm_206 : VLP m_M_readTerm m_M_readVariable 206 0 9 := ⟨⟨(aw5 (i := 108) rfl rfl), (aw1 (i := 10) rfl rfl), ⟨by decide, by decide⟩, by decide +kernel, by decide, by decide⟩, (aw5 (i := 105) rfl rfl), (aw5 (i := 107) rfl rfl), (awp3 (i := 8) rfl), TC9, rfl⟩
theorem cv_M_readVariable_192 : VLP m_M_readVariable m_M_refuse 192 0 9 := ⟨⟨(aw5 (i := 88) rfl rfl), (aw1 (i := 10) rfl rfl), ⟨by decide, by decide⟩, by decide +kernel, by decide, by decide⟩, (aw5 (i := 85) rfl rfl), (aw5 (i := 87) rfl rfl), (awp3 (i := 3) rfl), TC9, rfl⟩
theorem cv_M_refuse_183 : VLP m_M_refuse m_M_wrong 183 1 9 := ⟨⟨(aw5 (i := 92) rfl rfl), (aw1 (i := 10) rfl rfl), ⟨by decide, by decide⟩, by decide +kernel, by decide, by decide⟩, (aw5 (i := 89) rfl rfl), (aw5 (i := 91) rfl rfl), (awp3 (i := 4) rfl), TC9, rfl⟩
theorem cv_M_rule_302 : VLP m_M_rule m_M_isBack 302 2 9 := ⟨⟨(aw5 (i := 181) rfl rfl), (aw1 (i := 10) rfl rfl), ⟨by decide, by decide⟩, by decide +kernel, by decide, by decide⟩, (aw5 (i := 178) rfl rfl), (aw5 (i := 180) rfl rfl), (awp4 (i := 10) rfl), TC9, rfl⟩
theorem cv_M_rule_317 : VLP m_M_rule m_M_raise 317 1 9 := ⟨⟨(aw5 (i := 185) rfl rfl), (aw1 (i := 10) rfl rfl), ⟨by decide, by decide⟩, by decide +kernel, by decide, by decide⟩, (aw5 (i := 182) rfl rfl), (aw5 (i := 184) rfl rfl), (awp4 (i := 11) rfl), TC9, rfl⟩
theorem cv_M_takes_186 : VLP m_M_takes m_M_isSign 186 1 9 := ⟨⟨(aw5 (i := 104) rfl rfl), (aw1 (i := 10) rfl rfl), ⟨by decide, by decide⟩, by decide +kernel, by decide, by decide⟩, (aw5 (i := 101) rfl rfl), (aw5 (i := 103) rfl rfl), (awp3 (i := 7) rfl), TC9, rfl⟩
theorem cv_M_tokenize_152 : VLP m_M_tokenize m_M_oneToken 152 1 9 := ⟨⟨(aw5 (i := 40) rfl rfl), (aw1 (i := 10) rfl rfl), ⟨by decide, by decide⟩, by decide +kernel, by decide, by decide⟩, (aw5 (i := 37) rfl rfl), (aw5 (i := 39) rfl rfl), (awp2 (i := 12) rfl), TC9, rfl⟩
theorem cv_M_tokenize_156 : VLP m_M_tokenize m_M_token 156 4 9 := ⟨⟨(aw5 (i := 53) rfl rfl), (aw1 (i := 10) rfl rfl), ⟨by decide, by decide⟩, by decide +kernel, by decide, by decide⟩, (aw5 (i := 50) rfl rfl), (aw5 (i := 52) rfl rfl), (awp2 (i := 14) rfl), TC9, rfl⟩
theorem cv_M_want_189 : VLP m_M_want m_M_takes 189 1 9 := ⟨⟨(aw5 (i := 100) rfl rfl), (aw1 (i := 10) rfl rfl), ⟨by decide, by decide⟩, by decide +kernel, by decide, by decide⟩, (aw5 (i := 97) rfl rfl), (aw5 (i := 99) rfl rfl), (awp3 (i := 6) rfl), TC9, rfl⟩
theorem cv_M_want_192 : VLP m_M_want m_M_refuse 192 0 9 := ⟨⟨(aw5 (i := 88) rfl rfl), (aw1 (i := 10) rfl rfl), ⟨by decide, by decide⟩, by decide +kernel, by decide, by decide⟩, (aw5 (i := 85) rfl rfl), (aw5 (i := 87) rfl rfl), (awp3 (i := 3) rfl), TC9, rfl⟩
theorem cv_Rd_endFact_125 : VLP m_Rd_endFact m_Rd_refuse 125 1 4 := ⟨⟨(aw3 (i := 51) rfl rfl), (aw1 (i := 3) rfl rfl), ⟨by decide, by decide⟩, by decide +kernel, by decide, by decide⟩, (aw3 (i := 48) rfl rfl), (aw3 (i := 50) rfl rfl), (awp1 (i := 7) rfl), TC4, rfl⟩
theorem cv_Rd_endFact_139 : VLP m_Rd_endFact m_Rd_take 139 1 4 := ⟨⟨(aw3 (i := 59) rfl rfl), (aw1 (i := 3) rfl rfl), ⟨by decide, by decide⟩, by decide +kernel, by decide, by decide⟩, (aw3 (i := 56) rfl rfl), (aw3 (i := 58) rfl rfl), (awp1 (i := 8) rfl), TC4, rfl⟩
theorem cv_Rd_endFact_156 : VLP m_Rd_endFact m_Cl_openPlace 156 0 1 := ⟨⟨(aw3 (i := 169) rfl rfl), (aw1 (i := 5) rfl rfl), ⟨by decide, by decide⟩, by decide +kernel, by decide, by decide⟩, (aw3 (i := 166) rfl rfl), (aw3 (i := 167) rfl rfl), (aw3 (i := 168) rfl rfl), TC1, rfl⟩
theorem cv_Rd_endFact_159 : VLP m_Rd_endFact m_Fc_add 159 1 2 := ⟨⟨(aw3 (i := 176) rfl rfl), (aw1 (i := 7) rfl rfl), ⟨by decide, by decide⟩, by decide +kernel, by decide, by decide⟩, (aw3 (i := 173) rfl rfl), (aw3 (i := 174) rfl rfl), (aw3 (i := 175) rfl rfl), TC2, rfl⟩
theorem cv_Rd_endFact_165 : VLP m_Rd_endFact m_Bk_addFact 165 1 0 := ⟨⟨(aw3 (i := 187) rfl rfl), (aw1 (i := 8) rfl rfl), ⟨by decide, by decide⟩, by decide +kernel, by decide, by decide⟩, (aw3 (i := 184) rfl rfl), (aw3 (i := 185) rfl rfl), (aw3 (i := 186) rfl rfl), TC0, rfl⟩
theorem cv_Rd_endRule_100 : VLP m_Rd_endRule m_Rd_note 100 2 4 := ⟨⟨(aw3 (i := 92) rfl rfl), (aw1 (i := 3) rfl rfl), ⟨by decide, by decide⟩, by decide +kernel, by decide, by decide⟩, (aw3 (i := 89) rfl rfl), (aw3 (i := 91) rfl rfl), (awp1 (i := 12) rfl), TC4, rfl⟩
theorem cv_Rd_endRule_139 : VLP m_Rd_endRule m_Rd_take 139 1 4 := ⟨⟨(aw3 (i := 59) rfl rfl), (aw1 (i := 3) rfl rfl), ⟨by decide, by decide⟩, by decide +kernel, by decide, by decide⟩, (aw3 (i := 56) rfl rfl), (aw3 (i := 58) rfl rfl), (awp1 (i := 8) rfl), TC4, rfl⟩
theorem cv_Rd_endRule_149 : VLP m_Rd_endRule m_Cl_plan 149 0 1 := ⟨⟨(aw3 (i := 121) rfl rfl), (aw1 (i := 5) rfl rfl), ⟨by decide, by decide⟩, by decide +kernel, by decide, by decide⟩, (aw3 (i := 118) rfl rfl), (aw3 (i := 119) rfl rfl), (aw3 (i := 120) rfl rfl), TC1, rfl⟩
theorem cv_Rd_endRule_152 : VLP m_Rd_endRule m_Bk_addRule 152 1 0 := ⟨⟨(aw3 (i := 156) rfl rfl), (aw1 (i := 8) rfl rfl), ⟨by decide, by decide⟩, by decide +kernel, by decide, by decide⟩, (aw3 (i := 153) rfl rfl), (aw3 (i := 154) rfl rfl), (aw3 (i := 155) rfl rfl), TC0, rfl⟩
theorem cv_Rd_finish_100 : VLP m_Rd_finish m_Rd_note 100 2 4 := ⟨⟨(aw3 (i := 92) rfl rfl), (aw1 (i := 3) rfl rfl), ⟨by decide, by decide⟩, by decide +kernel, by decide, by decide⟩, (aw3 (i := 89) rfl rfl), (aw3 (i := 91) rfl rfl), (awp1 (i := 12) rfl), TC4, rfl⟩
theorem cv_Rd_finish_104 : VLP m_Rd_finish m_Bk_layStrata 104 0 0 := ⟨⟨(aw3 (i := 212) rfl rfl), (aw1 (i := 8) rfl rfl), ⟨by decide, by decide⟩, by decide +kernel, by decide, by decide⟩, (aw3 (i := 209) rfl rfl), (aw3 (i := 210) rfl rfl), (aw3 (i := 211) rfl rfl), TC0, rfl⟩
theorem cv_Rd_finish_93 : VLP m_Rd_finish m_Bk_spreadHanging 93 0 0 := ⟨⟨(aw3 (i := 195) rfl rfl), (aw1 (i := 8) rfl rfl), ⟨by decide, by decide⟩, by decide +kernel, by decide, by decide⟩, (aw3 (i := 192) rfl rfl), (aw3 (i := 193) rfl rfl), (aw3 (i := 194) rfl rfl), TC0, rfl⟩
theorem cv_Rd_finish_96 : VLP m_Rd_finish m_Bk_knotPlace 96 0 0 := ⟨⟨(aw3 (i := 200) rfl rfl), (aw1 (i := 8) rfl rfl), ⟨by decide, by decide⟩, by decide +kernel, by decide, by decide⟩, (aw3 (i := 197) rfl rfl), (aw3 (i := 198) rfl rfl), (aw3 (i := 199) rfl rfl), TC0, rfl⟩
theorem cv_Rd_readAnything_125 : VLP m_Rd_readAnything m_Rd_refuse 125 1 4 := ⟨⟨(aw3 (i := 51) rfl rfl), (aw1 (i := 3) rfl rfl), ⟨by decide, by decide⟩, by decide +kernel, by decide, by decide⟩, (aw3 (i := 48) rfl rfl), (aw3 (i := 50) rfl rfl), (awp1 (i := 7) rfl), TC4, rfl⟩
theorem cv_Rd_readAnything_213 : VLP m_Rd_readAnything m_Lt_add 213 1 3 := ⟨⟨(aw3 (i := 71) rfl rfl), (aw1 (i := 6) rfl rfl), ⟨by decide, by decide⟩, by decide +kernel, by decide, by decide⟩, (aw3 (i := 68) rfl rfl), (aw3 (i := 69) rfl rfl), (aw3 (i := 70) rfl rfl), TC3, rfl⟩
theorem cv_Rd_readAnything_55 : VLP m_Rd_readAnything m_Rd_moveTo 55 1 4 := ⟨⟨(aw3 (i := 35) rfl rfl), (aw1 (i := 3) rfl rfl), ⟨by decide, by decide⟩, by decide +kernel, by decide, by decide⟩, (aw3 (i := 32) rfl rfl), (aw3 (i := 34) rfl rfl), (awp1 (i := 5) rfl), TC4, rfl⟩
theorem cv_Rd_readAtom_100 : VLP m_Rd_readAtom m_Rd_note 100 2 4 := ⟨⟨(aw3 (i := 92) rfl rfl), (aw1 (i := 3) rfl rfl), ⟨by decide, by decide⟩, by decide +kernel, by decide, by decide⟩, (aw3 (i := 89) rfl rfl), (aw3 (i := 91) rfl rfl), (awp1 (i := 12) rfl), TC4, rfl⟩
theorem cv_Rd_readAtom_125 : VLP m_Rd_readAtom m_Rd_refuse 125 1 4 := ⟨⟨(aw3 (i := 51) rfl rfl), (aw1 (i := 3) rfl rfl), ⟨by decide, by decide⟩, by decide +kernel, by decide, by decide⟩, (aw3 (i := 48) rfl rfl), (aw3 (i := 50) rfl rfl), (awp1 (i := 7) rfl), TC4, rfl⟩
theorem cv_Rd_readAtom_139 : VLP m_Rd_readAtom m_Rd_take 139 1 4 := ⟨⟨(aw3 (i := 59) rfl rfl), (aw1 (i := 3) rfl rfl), ⟨by decide, by decide⟩, by decide +kernel, by decide, by decide⟩, (aw3 (i := 56) rfl rfl), (aw3 (i := 58) rfl rfl), (awp1 (i := 8) rfl), TC4, rfl⟩
theorem cv_Rd_readAtom_179 : VLP m_Rd_readAtom m_Rd_readTerm 179 1 4 := ⟨⟨(aw3 (i := 67) rfl rfl), (aw1 (i := 3) rfl rfl), ⟨by decide, by decide⟩, by decide +kernel, by decide, by decide⟩, (aw3 (i := 64) rfl rfl), (aw3 (i := 66) rfl rfl), (awp1 (i := 10) rfl), TC4, rfl⟩
theorem cv_Rd_readAtom_190 : VLP m_Rd_readAtom m_Bk_numberOf 190 1 0 := ⟨⟨(aw3 (i := 55) rfl rfl), (aw1 (i := 8) rfl rfl), ⟨by decide, by decide⟩, by decide +kernel, by decide, by decide⟩, (aw3 (i := 52) rfl rfl), (aw3 (i := 53) rfl rfl), (aw3 (i := 54) rfl rfl), TC0, rfl⟩
theorem cv_Rd_readAtom_194 : VLP m_Rd_readAtom m_Rd_readTotal 194 1 4 := ⟨⟨(aw3 (i := 63) rfl rfl), (aw1 (i := 3) rfl rfl), ⟨by decide, by decide⟩, by decide +kernel, by decide, by decide⟩, (aw3 (i := 60) rfl rfl), (aw3 (i := 62) rfl rfl), (awp1 (i := 9) rfl), TC4, rfl⟩
theorem cv_Rd_readAtom_197 : VLP m_Rd_readAtom m_Rd_readAnything 197 1 4 := ⟨⟨(aw3 (i := 83) rfl rfl), (aw1 (i := 3) rfl rfl), ⟨by decide, by decide⟩, by decide +kernel, by decide, by decide⟩, (aw3 (i := 80) rfl rfl), (aw3 (i := 82) rfl rfl), (awp1 (i := 11) rfl), TC4, rfl⟩
theorem cv_Rd_readAtom_201 : VLP m_Rd_readAtom m_Bk_agrees 201 2 0 := ⟨⟨(aw3 (i := 88) rfl rfl), (aw1 (i := 8) rfl rfl), ⟨by decide, by decide⟩, by decide +kernel, by decide, by decide⟩, (aw3 (i := 85) rfl rfl), (aw3 (i := 86) rfl rfl), (aw3 (i := 87) rfl rfl), TC0, rfl⟩
theorem cv_Rd_readAtom_55 : VLP m_Rd_readAtom m_Rd_moveTo 55 1 4 := ⟨⟨(aw3 (i := 35) rfl rfl), (aw1 (i := 3) rfl rfl), ⟨by decide, by decide⟩, by decide +kernel, by decide, by decide⟩, (aw3 (i := 32) rfl rfl), (aw3 (i := 34) rfl rfl), (awp1 (i := 5) rfl), TC4, rfl⟩
theorem cv_Rd_readBody_125 : VLP m_Rd_readBody m_Rd_refuse 125 1 4 := ⟨⟨(aw3 (i := 51) rfl rfl), (aw1 (i := 3) rfl rfl), ⟨by decide, by decide⟩, by decide +kernel, by decide, by decide⟩, (aw3 (i := 48) rfl rfl), (aw3 (i := 50) rfl rfl), (awp1 (i := 7) rfl), TC4, rfl⟩
theorem cv_Rd_readBody_139 : VLP m_Rd_readBody m_Rd_take 139 1 4 := ⟨⟨(aw3 (i := 59) rfl rfl), (aw1 (i := 3) rfl rfl), ⟨by decide, by decide⟩, by decide +kernel, by decide, by decide⟩, (aw3 (i := 56) rfl rfl), (aw3 (i := 58) rfl rfl), (awp1 (i := 8) rfl), TC4, rfl⟩
theorem cv_Rd_readBody_146 : VLP m_Rd_readBody m_Rd_readLiteral 146 1 4 := ⟨⟨(aw3 (i := 100) rfl rfl), (aw1 (i := 3) rfl rfl), ⟨by decide, by decide⟩, by decide +kernel, by decide, by decide⟩, (aw3 (i := 97) rfl rfl), (aw3 (i := 99) rfl rfl), (awp1 (i := 14) rfl), TC4, rfl⟩
theorem cv_Rd_readLiteral_125 : VLP m_Rd_readLiteral m_Rd_refuse 125 1 4 := ⟨⟨(aw3 (i := 51) rfl rfl), (aw1 (i := 3) rfl rfl), ⟨by decide, by decide⟩, by decide +kernel, by decide, by decide⟩, (aw3 (i := 48) rfl rfl), (aw3 (i := 50) rfl rfl), (awp1 (i := 7) rfl), TC4, rfl⟩
theorem cv_Rd_readLiteral_168 : VLP m_Rd_readLiteral m_Lt_begin 168 2 3 := ⟨⟨(aw3 (i := 43) rfl rfl), (aw1 (i := 6) rfl rfl), ⟨by decide, by decide⟩, by decide +kernel, by decide, by decide⟩, (aw3 (i := 101) rfl rfl), (aw3 (i := 41) rfl rfl), (aw3 (i := 42) rfl rfl), TC3, rfl⟩
theorem cv_Rd_readLiteral_170 : VLP m_Rd_readLiteral m_Rd_isOpenNext 170 0 4 := ⟨⟨(aw3 (i := 105) rfl rfl), (aw1 (i := 3) rfl rfl), ⟨by decide, by decide⟩, by decide +kernel, by decide, by decide⟩, (aw3 (i := 102) rfl rfl), (aw3 (i := 104) rfl rfl), (awp1 (i := 15) rfl), TC4, rfl⟩
theorem cv_Rd_readLiteral_176 : VLP m_Rd_readLiteral m_Rd_readTest 176 1 4 := ⟨⟨(aw3 (i := 109) rfl rfl), (aw1 (i := 3) rfl rfl), ⟨by decide, by decide⟩, by decide +kernel, by decide, by decide⟩, (aw3 (i := 106) rfl rfl), (aw3 (i := 108) rfl rfl), (awp2 (i := 0) rfl), TC4, rfl⟩
theorem cv_Rd_readLiteral_55 : VLP m_Rd_readLiteral m_Rd_moveTo 55 1 4 := ⟨⟨(aw3 (i := 35) rfl rfl), (aw1 (i := 3) rfl rfl), ⟨by decide, by decide⟩, by decide +kernel, by decide, by decide⟩, (aw3 (i := 32) rfl rfl), (aw3 (i := 34) rfl rfl), (awp1 (i := 5) rfl), TC4, rfl⟩
theorem cv_Rd_readLiteral_73 : VLP m_Rd_readLiteral m_Rd_readAtom 73 1 4 := ⟨⟨(aw3 (i := 47) rfl rfl), (aw1 (i := 3) rfl rfl), ⟨by decide, by decide⟩, by decide +kernel, by decide, by decide⟩, (aw3 (i := 44) rfl rfl), (aw3 (i := 46) rfl rfl), (awp1 (i := 6) rfl), TC4, rfl⟩
theorem cv_Rd_readOperation_139 : VLP m_Rd_readOperation m_Rd_take 139 1 4 := ⟨⟨(aw3 (i := 59) rfl rfl), (aw1 (i := 3) rfl rfl), ⟨by decide, by decide⟩, by decide +kernel, by decide, by decide⟩, (aw3 (i := 56) rfl rfl), (aw3 (i := 58) rfl rfl), (awp1 (i := 8) rfl), TC4, rfl⟩
theorem cv_Rd_readTerm_125 : VLP m_Rd_readTerm m_Rd_refuse 125 1 4 := ⟨⟨(aw3 (i := 51) rfl rfl), (aw1 (i := 3) rfl rfl), ⟨by decide, by decide⟩, by decide +kernel, by decide, by decide⟩, (aw3 (i := 48) rfl rfl), (aw3 (i := 50) rfl rfl), (awp1 (i := 7) rfl), TC4, rfl⟩
theorem cv_Rd_readTerm_213 : VLP m_Rd_readTerm m_Lt_add 213 1 3 := ⟨⟨(aw3 (i := 71) rfl rfl), (aw1 (i := 6) rfl rfl), ⟨by decide, by decide⟩, by decide +kernel, by decide, by decide⟩, (aw3 (i := 68) rfl rfl), (aw3 (i := 69) rfl rfl), (aw3 (i := 70) rfl rfl), TC3, rfl⟩
theorem cv_Rd_readTerm_218 : VLP m_Rd_readTerm m_Cl_variableOf 218 2 1 := ⟨⟨(aw3 (i := 78) rfl rfl), (aw1 (i := 5) rfl rfl), ⟨by decide, by decide⟩, by decide +kernel, by decide, by decide⟩, (aw3 (i := 75) rfl rfl), (aw3 (i := 76) rfl rfl), (aw3 (i := 77) rfl rfl), TC1, rfl⟩
theorem cv_Rd_readTerm_55 : VLP m_Rd_readTerm m_Rd_moveTo 55 1 4 := ⟨⟨(aw3 (i := 35) rfl rfl), (aw1 (i := 3) rfl rfl), ⟨by decide, by decide⟩, by decide +kernel, by decide, by decide⟩, (aw3 (i := 32) rfl rfl), (aw3 (i := 34) rfl rfl), (awp1 (i := 5) rfl), TC4, rfl⟩
theorem cv_Rd_readTest_125 : VLP m_Rd_readTest m_Rd_refuse 125 1 4 := ⟨⟨(aw3 (i := 51) rfl rfl), (aw1 (i := 3) rfl rfl), ⟨by decide, by decide⟩, by decide +kernel, by decide, by decide⟩, (aw3 (i := 48) rfl rfl), (aw3 (i := 50) rfl rfl), (awp1 (i := 7) rfl), TC4, rfl⟩
theorem cv_Rd_readTest_168 : VLP m_Rd_readTest m_Lt_begin 168 2 3 := ⟨⟨(aw3 (i := 43) rfl rfl), (aw1 (i := 6) rfl rfl), ⟨by decide, by decide⟩, by decide +kernel, by decide, by decide⟩, (aw3 (i := 101) rfl rfl), (aw3 (i := 41) rfl rfl), (aw3 (i := 42) rfl rfl), TC3, rfl⟩
theorem cv_Rd_readTest_179 : VLP m_Rd_readTest m_Rd_readTerm 179 1 4 := ⟨⟨(aw3 (i := 67) rfl rfl), (aw1 (i := 3) rfl rfl), ⟨by decide, by decide⟩, by decide +kernel, by decide, by decide⟩, (aw3 (i := 64) rfl rfl), (aw3 (i := 66) rfl rfl), (awp1 (i := 10) rfl), TC4, rfl⟩
theorem cv_Rd_readTest_183 : VLP m_Rd_readTest m_Rd_readOperation 183 0 4 := ⟨⟨(aw3 (i := 113) rfl rfl), (aw1 (i := 3) rfl rfl), ⟨by decide, by decide⟩, by decide +kernel, by decide, by decide⟩, (aw3 (i := 110) rfl rfl), (aw3 (i := 112) rfl rfl), (awp2 (i := 1) rfl), TC4, rfl⟩
theorem cv_Rd_readTest_55 : VLP m_Rd_readTest m_Rd_moveTo 55 1 4 := ⟨⟨(aw3 (i := 35) rfl rfl), (aw1 (i := 3) rfl rfl), ⟨by decide, by decide⟩, by decide +kernel, by decide, by decide⟩, (aw3 (i := 32) rfl rfl), (aw3 (i := 34) rfl rfl), (awp1 (i := 5) rfl), TC4, rfl⟩
theorem cv_Rd_readTotal_125 : VLP m_Rd_readTotal m_Rd_refuse 125 1 4 := ⟨⟨(aw3 (i := 51) rfl rfl), (aw1 (i := 3) rfl rfl), ⟨by decide, by decide⟩, by decide +kernel, by decide, by decide⟩, (aw3 (i := 48) rfl rfl), (aw3 (i := 50) rfl rfl), (awp1 (i := 7) rfl), TC4, rfl⟩
theorem cv_Rd_readTotal_139 : VLP m_Rd_readTotal m_Rd_take 139 1 4 := ⟨⟨(aw3 (i := 59) rfl rfl), (aw1 (i := 3) rfl rfl), ⟨by decide, by decide⟩, by decide +kernel, by decide, by decide⟩, (aw3 (i := 56) rfl rfl), (aw3 (i := 58) rfl rfl), (awp1 (i := 8) rfl), TC4, rfl⟩
theorem cv_Rd_readTotal_179 : VLP m_Rd_readTotal m_Rd_readTerm 179 1 4 := ⟨⟨(aw3 (i := 67) rfl rfl), (aw1 (i := 3) rfl rfl), ⟨by decide, by decide⟩, by decide +kernel, by decide, by decide⟩, (aw3 (i := 64) rfl rfl), (aw3 (i := 66) rfl rfl), (awp1 (i := 10) rfl), TC4, rfl⟩
theorem cv_Rd_readTotal_55 : VLP m_Rd_readTotal m_Rd_moveTo 55 1 4 := ⟨⟨(aw3 (i := 35) rfl rfl), (aw1 (i := 3) rfl rfl), ⟨by decide, by decide⟩, by decide +kernel, by decide, by decide⟩, (aw3 (i := 32) rfl rfl), (aw3 (i := 34) rfl rfl), (awp1 (i := 5) rfl), TC4, rfl⟩
theorem cv_Rd_read_32 : VLP m_Rd_read m_Tk_cut 32 1 7 := ⟨⟨(aw2 (i := 157) rfl rfl), (aw1 (i := 4) rfl rfl), ⟨by decide, by decide⟩, by decide +kernel, by decide, by decide⟩, (aw2 (i := 154) rfl rfl), (aw2 (i := 155) rfl rfl), (aw2 (i := 156) rfl rfl), TC7, rfl⟩
theorem cv_Rd_read_40 : VLP m_Rd_read m_Bk_clear 40 0 0 := ⟨⟨(aw3 (i := 31) rfl rfl), (aw1 (i := 8) rfl rfl), ⟨by decide, by decide⟩, by decide +kernel, by decide, by decide⟩, (aw3 (i := 28) rfl rfl), (aw3 (i := 29) rfl rfl), (aw3 (i := 30) rfl rfl), TC0, rfl⟩
theorem cv_Rd_read_55 : VLP m_Rd_read m_Rd_moveTo 55 1 4 := ⟨⟨(aw3 (i := 35) rfl rfl), (aw1 (i := 3) rfl rfl), ⟨by decide, by decide⟩, by decide +kernel, by decide, by decide⟩, (aw3 (i := 32) rfl rfl), (aw3 (i := 34) rfl rfl), (awp1 (i := 5) rfl), TC4, rfl⟩
theorem cv_Rd_read_66 : VLP m_Rd_read m_Cl_begin 66 1 1 := ⟨⟨(aw3 (i := 39) rfl rfl), (aw1 (i := 5) rfl rfl), ⟨by decide, by decide⟩, by decide +kernel, by decide, by decide⟩, (aw3 (i := 36) rfl rfl), (aw3 (i := 37) rfl rfl), (aw3 (i := 38) rfl rfl), TC1, rfl⟩
theorem cv_Rd_read_73 : VLP m_Rd_read m_Rd_readAtom 73 1 4 := ⟨⟨(aw3 (i := 47) rfl rfl), (aw1 (i := 3) rfl rfl), ⟨by decide, by decide⟩, by decide +kernel, by decide, by decide⟩, (aw3 (i := 44) rfl rfl), (aw3 (i := 46) rfl rfl), (awp1 (i := 6) rfl), TC4, rfl⟩
theorem cv_Rd_read_77 : VLP m_Rd_read m_Rd_readBody 77 0 4 := ⟨⟨(aw3 (i := 96) rfl rfl), (aw1 (i := 3) rfl rfl), ⟨by decide, by decide⟩, by decide +kernel, by decide, by decide⟩, (aw3 (i := 93) rfl rfl), (aw3 (i := 95) rfl rfl), (awp1 (i := 13) rfl), TC4, rfl⟩
theorem cv_Rd_read_84 : VLP m_Rd_read m_Rd_endRule 84 0 4 := ⟨⟨(aw3 (i := 117) rfl rfl), (aw1 (i := 3) rfl rfl), ⟨by decide, by decide⟩, by decide +kernel, by decide, by decide⟩, (aw3 (i := 114) rfl rfl), (aw3 (i := 116) rfl rfl), (awp2 (i := 2) rfl), TC4, rfl⟩
theorem cv_Rd_read_87 : VLP m_Rd_read m_Rd_endFact 87 0 4 := ⟨⟨(aw3 (i := 165) rfl rfl), (aw1 (i := 3) rfl rfl), ⟨by decide, by decide⟩, by decide +kernel, by decide, by decide⟩, (aw3 (i := 162) rfl rfl), (aw3 (i := 164) rfl rfl), (awp2 (i := 5) rfl), TC4, rfl⟩
theorem cv_Rd_read_90 : VLP m_Rd_read m_Rd_finish 90 0 4 := ⟨⟨(aw3 (i := 191) rfl rfl), (aw1 (i := 3) rfl rfl), ⟨by decide, by decide⟩, by decide +kernel, by decide, by decide⟩, (aw3 (i := 188) rfl rfl), (aw3 (i := 190) rfl rfl), (awp2 (i := 7) rfl), TC4, rfl⟩
theorem cv_Rd_take_125 : VLP m_Rd_take m_Rd_refuse 125 1 4 := ⟨⟨(aw3 (i := 51) rfl rfl), (aw1 (i := 3) rfl rfl), ⟨by decide, by decide⟩, by decide +kernel, by decide, by decide⟩, (aw3 (i := 48) rfl rfl), (aw3 (i := 50) rfl rfl), (awp1 (i := 7) rfl), TC4, rfl⟩
theorem cv_Rd_take_55 : VLP m_Rd_take m_Rd_moveTo 55 1 4 := ⟨⟨(aw3 (i := 35) rfl rfl), (aw1 (i := 3) rfl rfl), ⟨by decide, by decide⟩, by decide +kernel, by decide, by decide⟩, (aw3 (i := 32) rfl rfl), (aw3 (i := 34) rfl rfl), (awp1 (i := 5) rfl), TC4, rfl⟩
theorem cv_Tk_cutName_55 : VLP m_Tk_cutName m_Tp_endOfRun 55 2 6 := ⟨⟨(aw2 (i := 174) rfl rfl), (aw1 (i := 2) rfl rfl), ⟨by decide, by decide⟩, by decide +kernel, by decide, by decide⟩, (aw2 (i := 171) rfl rfl), (aw2 (i := 172) rfl rfl), (aw2 (i := 173) rfl rfl), TC6, rfl⟩
theorem cv_Tk_cutNumber_51 : VLP m_Tk_cutNumber m_Tk_add 51 3 7 := ⟨⟨(aw2 (i := 238) rfl rfl), (aw1 (i := 4) rfl rfl), ⟨by decide, by decide⟩, by decide +kernel, by decide, by decide⟩, (aw2 (i := 235) rfl rfl), (aw2 (i := 237) rfl rfl), (awp1 (i := 1) rfl), TC7, rfl⟩
theorem cv_Tk_cutNumber_55 : VLP m_Tk_cutNumber m_Tp_endOfRun 55 2 6 := ⟨⟨(aw2 (i := 174) rfl rfl), (aw1 (i := 2) rfl rfl), ⟨by decide, by decide⟩, by decide +kernel, by decide, by decide⟩, (aw2 (i := 171) rfl rfl), (aw2 (i := 172) rfl rfl), (aw2 (i := 173) rfl rfl), TC6, rfl⟩
theorem cv_Tk_cutNumber_80 : VLP m_Tk_cutNumber m_Tp_number 80 2 6 := ⟨⟨(aw3 (i := 15) rfl rfl), (aw1 (i := 2) rfl rfl), ⟨by decide, by decide⟩, by decide +kernel, by decide, by decide⟩, (aw3 (i := 12) rfl rfl), (aw3 (i := 13) rfl rfl), (aw3 (i := 14) rfl rfl), TC6, rfl⟩
theorem cv_Tk_cutSign_31 : VLP m_Tk_cutSign m_Tp_at 31 1 6 := ⟨⟨(aw2 (i := 161) rfl rfl), (aw1 (i := 2) rfl rfl), ⟨by decide, by decide⟩, by decide +kernel, by decide, by decide⟩, (aw2 (i := 158) rfl rfl), (aw2 (i := 159) rfl rfl), (aw2 (i := 160) rfl rfl), TC6, rfl⟩
theorem cv_Tk_cutSign_51 : VLP m_Tk_cutSign m_Tk_add 51 3 7 := ⟨⟨(aw2 (i := 238) rfl rfl), (aw1 (i := 4) rfl rfl), ⟨by decide, by decide⟩, by decide +kernel, by decide, by decide⟩, (aw2 (i := 235) rfl rfl), (aw2 (i := 237) rfl rfl), (awp1 (i := 1) rfl), TC7, rfl⟩
theorem cv_Tk_cutVariable_51 : VLP m_Tk_cutVariable m_Tk_add 51 3 7 := ⟨⟨(aw2 (i := 238) rfl rfl), (aw1 (i := 4) rfl rfl), ⟨by decide, by decide⟩, by decide +kernel, by decide, by decide⟩, (aw2 (i := 235) rfl rfl), (aw2 (i := 237) rfl rfl), (awp1 (i := 1) rfl), TC7, rfl⟩
theorem cv_Tk_cutVariable_55 : VLP m_Tk_cutVariable m_Tp_endOfRun 55 2 6 := ⟨⟨(aw2 (i := 174) rfl rfl), (aw1 (i := 2) rfl rfl), ⟨by decide, by decide⟩, by decide +kernel, by decide, by decide⟩, (aw2 (i := 171) rfl rfl), (aw2 (i := 172) rfl rfl), (aw2 (i := 173) rfl rfl), TC6, rfl⟩
theorem cv_Tk_cutVariable_69 : VLP m_Tk_cutVariable m_Tp_packed 69 2 6 := ⟨⟨(aw3 (i := 3) rfl rfl), (aw1 (i := 2) rfl rfl), ⟨by decide, by decide⟩, by decide +kernel, by decide, by decide⟩, (aw3 (i := 0) rfl rfl), (aw3 (i := 1) rfl rfl), (aw3 (i := 2) rfl rfl), TC6, rfl⟩
theorem cv_Tk_cut_31 : VLP m_Tk_cut m_Tp_at 31 1 6 := ⟨⟨(aw2 (i := 161) rfl rfl), (aw1 (i := 2) rfl rfl), ⟨by decide, by decide⟩, by decide +kernel, by decide, by decide⟩, (aw2 (i := 158) rfl rfl), (aw2 (i := 159) rfl rfl), (aw2 (i := 160) rfl rfl), TC6, rfl⟩
theorem cv_Tk_cut_35 : VLP m_Tk_cut m_Tp_sortAt 35 1 6 := ⟨⟨(aw2 (i := 165) rfl rfl), (aw1 (i := 2) rfl rfl), ⟨by decide, by decide⟩, by decide +kernel, by decide, by decide⟩, (aw2 (i := 162) rfl rfl), (aw2 (i := 163) rfl rfl), (aw2 (i := 164) rfl rfl), TC6, rfl⟩
theorem cv_Tk_cut_38 : VLP m_Tk_cut m_Tk_cutName 38 2 7 := ⟨⟨(aw2 (i := 170) rfl rfl), (aw1 (i := 4) rfl rfl), ⟨by decide, by decide⟩, by decide +kernel, by decide, by decide⟩, (aw2 (i := 167) rfl rfl), (aw2 (i := 169) rfl rfl), (awp1 (i := 0) rfl), TC7, rfl⟩
theorem cv_Tk_cut_42 : VLP m_Tk_cut m_Tk_cutVariable 42 2 7 := ⟨⟨(aw3 (i := 7) rfl rfl), (aw1 (i := 4) rfl rfl), ⟨by decide, by decide⟩, by decide +kernel, by decide, by decide⟩, (aw3 (i := 4) rfl rfl), (aw3 (i := 6) rfl rfl), (awp1 (i := 2) rfl), TC7, rfl⟩
theorem cv_Tk_cut_45 : VLP m_Tk_cut m_Tk_cutNumber 45 2 7 := ⟨⟨(aw3 (i := 11) rfl rfl), (aw1 (i := 4) rfl rfl), ⟨by decide, by decide⟩, by decide +kernel, by decide, by decide⟩, (aw3 (i := 8) rfl rfl), (aw3 (i := 10) rfl rfl), (awp1 (i := 3) rfl), TC7, rfl⟩
theorem cv_Tk_cut_48 : VLP m_Tk_cut m_Tk_cutSign 48 2 7 := ⟨⟨(aw3 (i := 21) rfl rfl), (aw1 (i := 4) rfl rfl), ⟨by decide, by decide⟩, by decide +kernel, by decide, by decide⟩, (aw3 (i := 18) rfl rfl), (aw3 (i := 20) rfl rfl), (awp1 (i := 4) rfl), TC7, rfl⟩
theorem cv_Tk_cut_51 : VLP m_Tk_cut m_Tk_add 51 3 7 := ⟨⟨(aw2 (i := 238) rfl rfl), (aw1 (i := 4) rfl rfl), ⟨by decide, by decide⟩, by decide +kernel, by decide, by decide⟩, (aw2 (i := 235) rfl rfl), (aw2 (i := 237) rfl rfl), (awp1 (i := 1) rfl), TC7, rfl⟩
theorem cv_Tp_endOfRun_23 : VLP m_Tp_endOfRun m_Tp_sortAt 23 1 6 := ⟨⟨(aw2 (i := 165) rfl rfl), (aw1 (i := 2) rfl rfl), ⟨by decide, by decide⟩, by decide +kernel, by decide, by decide⟩, (aw2 (i := 175) rfl rfl), (aw2 (i := 163) rfl rfl), (aw2 (i := 164) rfl rfl), TC6, rfl⟩
theorem cv_Tp_number_19 : VLP m_Tp_number m_Tp_at 19 1 6 := ⟨⟨(aw2 (i := 161) rfl rfl), (aw1 (i := 2) rfl rfl), ⟨by decide, by decide⟩, by decide +kernel, by decide, by decide⟩, (aw2 (i := 166) rfl rfl), (aw2 (i := 159) rfl rfl), (aw2 (i := 160) rfl rfl), TC6, rfl⟩
theorem cv_Tp_packed_19 : VLP m_Tp_packed m_Tp_at 19 1 6 := ⟨⟨(aw2 (i := 161) rfl rfl), (aw1 (i := 2) rfl rfl), ⟨by decide, by decide⟩, by decide +kernel, by decide, by decide⟩, (aw2 (i := 166) rfl rfl), (aw2 (i := 159) rfl rfl), (aw2 (i := 160) rfl rfl), TC6, rfl⟩
theorem cv_Tp_sortAt_19 : VLP m_Tp_sortAt m_Tp_at 19 1 6 := ⟨⟨(aw2 (i := 161) rfl rfl), (aw1 (i := 2) rfl rfl), ⟨by decide, by decide⟩, by decide +kernel, by decide, by decide⟩, (aw2 (i := 166) rfl rfl), (aw2 (i := 159) rfl rfl), (aw2 (i := 160) rfl rfl), TC6, rfl⟩
end
