section
-- ===== PART A: goes FIRST, ahead of the names: the tables' words, and 'selects' of the private methods out of them =====
/-- a private method of a class that the tables say can be made, by its rows of tables_1 -/
def lw_okq (q : MethodName × Nat) : Prop := (q.1.cls ≠ "java/lang/invoke/MethodHandle" ∧ q.1.cls ≠ "java/lang/invoke/VarHandle") ∧ Cond.instantiable q.1.cls q.2 ∈ tables_1 ∧ Cond.privateMethod q.1 ∈ tables_1 ∧ Cond.instanceMethod q.1 ∈ tables_1
theorem lw_p0 : lw_okq (⟨"PlanDesk$Tokens", "cutName", "(LPlanDesk$Tape;I)I"⟩, 4) := ⟨⟨by decide +kernel, by decide +kernel⟩, List.mem_of_getElem? (i := 54) (by decide +kernel), List.mem_of_getElem? (i := 408) (by decide +kernel), List.mem_of_getElem? (i := 409) (by decide +kernel)⟩
theorem lw_p1 : lw_okq (⟨"PlanDesk$Tokens", "add", "(IIJ)V"⟩, 4) := ⟨⟨by decide +kernel, by decide +kernel⟩, List.mem_of_getElem? (i := 54) (by decide +kernel), List.mem_of_getElem? (i := 476) (by decide +kernel), List.mem_of_getElem? (i := 477) (by decide +kernel)⟩
theorem lw_p2 : lw_okq (⟨"PlanDesk$Tokens", "cutVariable", "(LPlanDesk$Tape;I)I"⟩, 4) := ⟨⟨by decide +kernel, by decide +kernel⟩, List.mem_of_getElem? (i := 54) (by decide +kernel), List.mem_of_getElem? (i := 485) (by decide +kernel), List.mem_of_getElem? (i := 486) (by decide +kernel)⟩
theorem lw_p3 : lw_okq (⟨"PlanDesk$Tokens", "cutNumber", "(LPlanDesk$Tape;I)I"⟩, 4) := ⟨⟨by decide +kernel, by decide +kernel⟩, List.mem_of_getElem? (i := 54) (by decide +kernel), List.mem_of_getElem? (i := 489) (by decide +kernel), List.mem_of_getElem? (i := 490) (by decide +kernel)⟩
theorem lw_p4 : lw_okq (⟨"PlanDesk$Tokens", "cutSign", "(LPlanDesk$Tape;I)I"⟩, 4) := ⟨⟨by decide +kernel, by decide +kernel⟩, List.mem_of_getElem? (i := 54) (by decide +kernel), List.mem_of_getElem? (i := 499) (by decide +kernel), List.mem_of_getElem? (i := 500) (by decide +kernel)⟩
theorem lw_p5 : lw_okq (⟨"PlanDesk$Reader", "moveTo", "(I)V"⟩, 10) := ⟨⟨by decide +kernel, by decide +kernel⟩, List.mem_of_getElem? (i := 48) (by decide +kernel), List.mem_of_getElem? (i := 513) (by decide +kernel), List.mem_of_getElem? (i := 514) (by decide +kernel)⟩
theorem lw_p6 : lw_okq (⟨"PlanDesk$Reader", "readAtom", "(LPlanDesk$Literal;)Z"⟩, 10) := ⟨⟨by decide +kernel, by decide +kernel⟩, List.mem_of_getElem? (i := 48) (by decide +kernel), List.mem_of_getElem? (i := 525) (by decide +kernel), List.mem_of_getElem? (i := 526) (by decide +kernel)⟩
theorem lw_p7 : lw_okq (⟨"PlanDesk$Reader", "refuse", "(I)Z"⟩, 10) := ⟨⟨by decide +kernel, by decide +kernel⟩, List.mem_of_getElem? (i := 48) (by decide +kernel), List.mem_of_getElem? (i := 529) (by decide +kernel), List.mem_of_getElem? (i := 530) (by decide +kernel)⟩
theorem lw_p8 : lw_okq (⟨"PlanDesk$Reader", "take", "(I)Z"⟩, 10) := ⟨⟨by decide +kernel, by decide +kernel⟩, List.mem_of_getElem? (i := 48) (by decide +kernel), List.mem_of_getElem? (i := 537) (by decide +kernel), List.mem_of_getElem? (i := 538) (by decide +kernel)⟩
theorem lw_p9 : lw_okq (⟨"PlanDesk$Reader", "readTotal", "(LPlanDesk$Literal;)Z"⟩, 10) := ⟨⟨by decide +kernel, by decide +kernel⟩, List.mem_of_getElem? (i := 48) (by decide +kernel), List.mem_of_getElem? (i := 541) (by decide +kernel), List.mem_of_getElem? (i := 542) (by decide +kernel)⟩
theorem lw_p10 : lw_okq (⟨"PlanDesk$Reader", "readTerm", "(LPlanDesk$Literal;)Z"⟩, 10) := ⟨⟨by decide +kernel, by decide +kernel⟩, List.mem_of_getElem? (i := 48) (by decide +kernel), List.mem_of_getElem? (i := 545) (by decide +kernel), List.mem_of_getElem? (i := 546) (by decide +kernel)⟩
theorem lw_p11 : lw_okq (⟨"PlanDesk$Reader", "readAnything", "(LPlanDesk$Literal;)Z"⟩, 10) := ⟨⟨by decide +kernel, by decide +kernel⟩, List.mem_of_getElem? (i := 48) (by decide +kernel), List.mem_of_getElem? (i := 561) (by decide +kernel), List.mem_of_getElem? (i := 562) (by decide +kernel)⟩
theorem lw_p12 : lw_okq (⟨"PlanDesk$Reader", "note", "(II)V"⟩, 10) := ⟨⟨by decide +kernel, by decide +kernel⟩, List.mem_of_getElem? (i := 48) (by decide +kernel), List.mem_of_getElem? (i := 570) (by decide +kernel), List.mem_of_getElem? (i := 571) (by decide +kernel)⟩
theorem lw_p13 : lw_okq (⟨"PlanDesk$Reader", "readBody", "()Z"⟩, 10) := ⟨⟨by decide +kernel, by decide +kernel⟩, List.mem_of_getElem? (i := 48) (by decide +kernel), List.mem_of_getElem? (i := 574) (by decide +kernel), List.mem_of_getElem? (i := 575) (by decide +kernel)⟩
theorem lw_p14 : lw_okq (⟨"PlanDesk$Reader", "readLiteral", "(LPlanDesk$Literal;)Z"⟩, 10) := ⟨⟨by decide +kernel, by decide +kernel⟩, List.mem_of_getElem? (i := 48) (by decide +kernel), List.mem_of_getElem? (i := 578) (by decide +kernel), List.mem_of_getElem? (i := 579) (by decide +kernel)⟩
theorem lw_p15 : lw_okq (⟨"PlanDesk$Reader", "isOpenNext", "()Z"⟩, 10) := ⟨⟨by decide +kernel, by decide +kernel⟩, List.mem_of_getElem? (i := 48) (by decide +kernel), List.mem_of_getElem? (i := 583) (by decide +kernel), List.mem_of_getElem? (i := 584) (by decide +kernel)⟩
def lw_privs_1 : List (MethodName × Nat) := [(⟨"PlanDesk$Tokens", "cutName", "(LPlanDesk$Tape;I)I"⟩, 4), (⟨"PlanDesk$Tokens", "add", "(IIJ)V"⟩, 4), (⟨"PlanDesk$Tokens", "cutVariable", "(LPlanDesk$Tape;I)I"⟩, 4), (⟨"PlanDesk$Tokens", "cutNumber", "(LPlanDesk$Tape;I)I"⟩, 4), (⟨"PlanDesk$Tokens", "cutSign", "(LPlanDesk$Tape;I)I"⟩, 4), (⟨"PlanDesk$Reader", "moveTo", "(I)V"⟩, 10), (⟨"PlanDesk$Reader", "readAtom", "(LPlanDesk$Literal;)Z"⟩, 10), (⟨"PlanDesk$Reader", "refuse", "(I)Z"⟩, 10), (⟨"PlanDesk$Reader", "take", "(I)Z"⟩, 10), (⟨"PlanDesk$Reader", "readTotal", "(LPlanDesk$Literal;)Z"⟩, 10), (⟨"PlanDesk$Reader", "readTerm", "(LPlanDesk$Literal;)Z"⟩, 10), (⟨"PlanDesk$Reader", "readAnything", "(LPlanDesk$Literal;)Z"⟩, 10), (⟨"PlanDesk$Reader", "note", "(II)V"⟩, 10), (⟨"PlanDesk$Reader", "readBody", "()Z"⟩, 10), (⟨"PlanDesk$Reader", "readLiteral", "(LPlanDesk$Literal;)Z"⟩, 10), (⟨"PlanDesk$Reader", "isOpenNext", "()Z"⟩, 10)]
theorem lw_r1 : ∀ q ∈ lw_privs_1, lw_okq q := List.forall_mem_cons.mpr ⟨lw_p0, List.forall_mem_cons.mpr ⟨lw_p1, List.forall_mem_cons.mpr ⟨lw_p2, List.forall_mem_cons.mpr ⟨lw_p3, List.forall_mem_cons.mpr ⟨lw_p4, List.forall_mem_cons.mpr ⟨lw_p5, List.forall_mem_cons.mpr ⟨lw_p6, List.forall_mem_cons.mpr ⟨lw_p7, List.forall_mem_cons.mpr ⟨lw_p8, List.forall_mem_cons.mpr ⟨lw_p9, List.forall_mem_cons.mpr ⟨lw_p10, List.forall_mem_cons.mpr ⟨lw_p11, List.forall_mem_cons.mpr ⟨lw_p12, List.forall_mem_cons.mpr ⟨lw_p13, List.forall_mem_cons.mpr ⟨lw_p14, List.forall_mem_cons.mpr ⟨lw_p15, fun _ h => absurd h List.not_mem_nil⟩⟩⟩⟩⟩⟩⟩⟩⟩⟩⟩⟩⟩⟩⟩⟩
theorem lw_p16 : lw_okq (⟨"PlanDesk$Reader", "readTest", "(LPlanDesk$Literal;)Z"⟩, 10) := ⟨⟨by decide +kernel, by decide +kernel⟩, List.mem_of_getElem? (i := 48) (by decide +kernel), List.mem_of_getElem? (i := 587) (by decide +kernel), List.mem_of_getElem? (i := 588) (by decide +kernel)⟩
theorem lw_p17 : lw_okq (⟨"PlanDesk$Reader", "readOperation", "()Z"⟩, 10) := ⟨⟨by decide +kernel, by decide +kernel⟩, List.mem_of_getElem? (i := 48) (by decide +kernel), List.mem_of_getElem? (i := 591) (by decide +kernel), List.mem_of_getElem? (i := 592) (by decide +kernel)⟩
theorem lw_p18 : lw_okq (⟨"PlanDesk$Reader", "endRule", "()Z"⟩, 10) := ⟨⟨by decide +kernel, by decide +kernel⟩, List.mem_of_getElem? (i := 48) (by decide +kernel), List.mem_of_getElem? (i := 595) (by decide +kernel), List.mem_of_getElem? (i := 596) (by decide +kernel)⟩
theorem lw_p19 : lw_okq (⟨"PlanDesk$Clause", "nextAsked", "(II)I"⟩, 12) := ⟨⟨by decide +kernel, by decide +kernel⟩, List.mem_of_getElem? (i := 79) (by decide +kernel), List.mem_of_getElem? (i := 603) (by decide +kernel), List.mem_of_getElem? (i := 604) (by decide +kernel)⟩
theorem lw_p20 : lw_okq (⟨"PlanDesk$Clause", "firstWithout", "(I)I"⟩, 12) := ⟨⟨by decide +kernel, by decide +kernel⟩, List.mem_of_getElem? (i := 79) (by decide +kernel), List.mem_of_getElem? (i := 630) (by decide +kernel), List.mem_of_getElem? (i := 631) (by decide +kernel)⟩
theorem lw_p21 : lw_okq (⟨"PlanDesk$Reader", "endFact", "()Z"⟩, 10) := ⟨⟨by decide +kernel, by decide +kernel⟩, List.mem_of_getElem? (i := 48) (by decide +kernel), List.mem_of_getElem? (i := 643) (by decide +kernel), List.mem_of_getElem? (i := 644) (by decide +kernel)⟩
theorem lw_p22 : lw_okq (⟨"PlanDesk$Facts", "isSame", "(ILPlanDesk$Literal;)Z"⟩, 3) := ⟨⟨by decide +kernel, by decide +kernel⟩, List.mem_of_getElem? (i := 182) (by decide +kernel), List.mem_of_getElem? (i := 658) (by decide +kernel), List.mem_of_getElem? (i := 659) (by decide +kernel)⟩
theorem lw_p23 : lw_okq (⟨"PlanDesk$Reader", "finish", "()V"⟩, 10) := ⟨⟨by decide +kernel, by decide +kernel⟩, List.mem_of_getElem? (i := 48) (by decide +kernel), List.mem_of_getElem? (i := 669) (by decide +kernel), List.mem_of_getElem? (i := 670) (by decide +kernel)⟩
theorem lw_p24 : lw_okq (⟨"PlanDesk$Book", "leadsBack", "(II)Z"⟩, 8) := ⟨⟨by decide +kernel, by decide +kernel⟩, List.mem_of_getElem? (i := 232) (by decide +kernel), List.mem_of_getElem? (i := 686) (by decide +kernel), List.mem_of_getElem? (i := 687) (by decide +kernel)⟩
theorem lw_p25 : lw_okq (⟨"PlanDesk$Book", "liftHead", "(I)V"⟩, 8) := ⟨⟨by decide +kernel, by decide +kernel⟩, List.mem_of_getElem? (i := 232) (by decide +kernel), List.mem_of_getElem? (i := 694) (by decide +kernel), List.mem_of_getElem? (i := 695) (by decide +kernel)⟩
theorem lw_p26 : lw_okq (⟨"java/lang/Throwable", "fillInStackTrace", "(I)Ljava/lang/Throwable;"⟩, 6) := ⟨⟨by decide +kernel, by decide +kernel⟩, List.mem_of_getElem? (i := 738) (by decide +kernel), List.mem_of_getElem? (i := 736) (by decide +kernel), List.mem_of_getElem? (i := 737) (by decide +kernel)⟩
theorem lw_p27 : lw_okq (⟨"PlanDeskModel", "tokenize", "()V"⟩, 56) := ⟨⟨by decide +kernel, by decide +kernel⟩, List.mem_of_getElem? (i := 805) (by decide +kernel), List.mem_of_getElem? (i := 994) (by decide +kernel), List.mem_of_getElem? (i := 995) (by decide +kernel)⟩
theorem lw_p28 : lw_okq (⟨"PlanDeskModel", "oneToken", "(I)I"⟩, 56) := ⟨⟨by decide +kernel, by decide +kernel⟩, List.mem_of_getElem? (i := 805) (by decide +kernel), List.mem_of_getElem? (i := 998) (by decide +kernel), List.mem_of_getElem? (i := 999) (by decide +kernel)⟩
theorem lw_p29 : lw_okq (⟨"PlanDeskModel", "see", "(I)I"⟩, 56) := ⟨⟨by decide +kernel, by decide +kernel⟩, List.mem_of_getElem? (i := 805) (by decide +kernel), List.mem_of_getElem? (i := 1005) (by decide +kernel), List.mem_of_getElem? (i := 1006) (by decide +kernel)⟩
theorem lw_p30 : lw_okq (⟨"PlanDeskModel", "token", "(IIIJ)V"⟩, 56) := ⟨⟨by decide +kernel, by decide +kernel⟩, List.mem_of_getElem? (i := 805) (by decide +kernel), List.mem_of_getElem? (i := 1011) (by decide +kernel), List.mem_of_getElem? (i := 1012) (by decide +kernel)⟩
theorem lw_p31 : lw_okq (⟨"PlanDeskModel", "readClause", "()Z"⟩, 56) := ⟨⟨by decide +kernel, by decide +kernel⟩, List.mem_of_getElem? (i := 805) (by decide +kernel), List.mem_of_getElem? (i := 1030) (by decide +kernel), List.mem_of_getElem? (i := 1031) (by decide +kernel)⟩
def lw_privs_2 : List (MethodName × Nat) := [(⟨"PlanDesk$Reader", "readTest", "(LPlanDesk$Literal;)Z"⟩, 10), (⟨"PlanDesk$Reader", "readOperation", "()Z"⟩, 10), (⟨"PlanDesk$Reader", "endRule", "()Z"⟩, 10), (⟨"PlanDesk$Clause", "nextAsked", "(II)I"⟩, 12), (⟨"PlanDesk$Clause", "firstWithout", "(I)I"⟩, 12), (⟨"PlanDesk$Reader", "endFact", "()Z"⟩, 10), (⟨"PlanDesk$Facts", "isSame", "(ILPlanDesk$Literal;)Z"⟩, 3), (⟨"PlanDesk$Reader", "finish", "()V"⟩, 10), (⟨"PlanDesk$Book", "leadsBack", "(II)Z"⟩, 8), (⟨"PlanDesk$Book", "liftHead", "(I)V"⟩, 8), (⟨"java/lang/Throwable", "fillInStackTrace", "(I)Ljava/lang/Throwable;"⟩, 6), (⟨"PlanDeskModel", "tokenize", "()V"⟩, 56), (⟨"PlanDeskModel", "oneToken", "(I)I"⟩, 56), (⟨"PlanDeskModel", "see", "(I)I"⟩, 56), (⟨"PlanDeskModel", "token", "(IIIJ)V"⟩, 56), (⟨"PlanDeskModel", "readClause", "()Z"⟩, 56)]
theorem lw_r2 : ∀ q ∈ lw_privs_2, lw_okq q := List.forall_mem_cons.mpr ⟨lw_p16, List.forall_mem_cons.mpr ⟨lw_p17, List.forall_mem_cons.mpr ⟨lw_p18, List.forall_mem_cons.mpr ⟨lw_p19, List.forall_mem_cons.mpr ⟨lw_p20, List.forall_mem_cons.mpr ⟨lw_p21, List.forall_mem_cons.mpr ⟨lw_p22, List.forall_mem_cons.mpr ⟨lw_p23, List.forall_mem_cons.mpr ⟨lw_p24, List.forall_mem_cons.mpr ⟨lw_p25, List.forall_mem_cons.mpr ⟨lw_p26, List.forall_mem_cons.mpr ⟨lw_p27, List.forall_mem_cons.mpr ⟨lw_p28, List.forall_mem_cons.mpr ⟨lw_p29, List.forall_mem_cons.mpr ⟨lw_p30, List.forall_mem_cons.mpr ⟨lw_p31, fun _ h => absurd h List.not_mem_nil⟩⟩⟩⟩⟩⟩⟩⟩⟩⟩⟩⟩⟩⟩⟩⟩
theorem lw_p32 : lw_okq (⟨"PlanDeskModel", "beginClause", "(I)V"⟩, 56) := ⟨⟨by decide +kernel, by decide +kernel⟩, List.mem_of_getElem? (i := 805) (by decide +kernel), List.mem_of_getElem? (i := 1034) (by decide +kernel), List.mem_of_getElem? (i := 1035) (by decide +kernel)⟩
theorem lw_p33 : lw_okq (⟨"PlanDeskModel", "readArguments", "(ZZ)Z"⟩, 56) := ⟨⟨by decide +kernel, by decide +kernel⟩, List.mem_of_getElem? (i := 805) (by decide +kernel), List.mem_of_getElem? (i := 1038) (by decide +kernel), List.mem_of_getElem? (i := 1039) (by decide +kernel)⟩
theorem lw_p34 : lw_okq (⟨"PlanDeskModel", "isKnown", "(J)Z"⟩, 56) := ⟨⟨by decide +kernel, by decide +kernel⟩, List.mem_of_getElem? (i := 805) (by decide +kernel), List.mem_of_getElem? (i := 1042) (by decide +kernel), List.mem_of_getElem? (i := 1043) (by decide +kernel)⟩
theorem lw_p35 : lw_okq (⟨"PlanDeskModel", "refuse", "()Z"⟩, 56) := ⟨⟨by decide +kernel, by decide +kernel⟩, List.mem_of_getElem? (i := 805) (by decide +kernel), List.mem_of_getElem? (i := 1046) (by decide +kernel), List.mem_of_getElem? (i := 1047) (by decide +kernel)⟩
theorem lw_p36 : lw_okq (⟨"PlanDeskModel", "wrong", "(I)Z"⟩, 56) := ⟨⟨by decide +kernel, by decide +kernel⟩, List.mem_of_getElem? (i := 805) (by decide +kernel), List.mem_of_getElem? (i := 1050) (by decide +kernel), List.mem_of_getElem? (i := 1051) (by decide +kernel)⟩
theorem lw_p37 : lw_okq (⟨"PlanDeskModel", "want", "(I)Z"⟩, 56) := ⟨⟨by decide +kernel, by decide +kernel⟩, List.mem_of_getElem? (i := 805) (by decide +kernel), List.mem_of_getElem? (i := 1054) (by decide +kernel), List.mem_of_getElem? (i := 1055) (by decide +kernel)⟩
theorem lw_p38 : lw_okq (⟨"PlanDeskModel", "takes", "(I)Z"⟩, 56) := ⟨⟨by decide +kernel, by decide +kernel⟩, List.mem_of_getElem? (i := 805) (by decide +kernel), List.mem_of_getElem? (i := 1058) (by decide +kernel), List.mem_of_getElem? (i := 1059) (by decide +kernel)⟩
theorem lw_p39 : lw_okq (⟨"PlanDeskModel", "isSign", "(I)Z"⟩, 56) := ⟨⟨by decide +kernel, by decide +kernel⟩, List.mem_of_getElem? (i := 805) (by decide +kernel), List.mem_of_getElem? (i := 1062) (by decide +kernel), List.mem_of_getElem? (i := 1063) (by decide +kernel)⟩
theorem lw_p40 : lw_okq (⟨"PlanDeskModel", "readVariable", "()Z"⟩, 56) := ⟨⟨by decide +kernel, by decide +kernel⟩, List.mem_of_getElem? (i := 805) (by decide +kernel), List.mem_of_getElem? (i := 1066) (by decide +kernel), List.mem_of_getElem? (i := 1067) (by decide +kernel)⟩
theorem lw_p41 : lw_okq (⟨"PlanDeskModel", "readTerm", "()Z"⟩, 56) := ⟨⟨by decide +kernel, by decide +kernel⟩, List.mem_of_getElem? (i := 805) (by decide +kernel), List.mem_of_getElem? (i := 1070) (by decide +kernel), List.mem_of_getElem? (i := 1071) (by decide +kernel)⟩
theorem lw_p42 : lw_okq (⟨"PlanDeskModel", "predicateOf", "(JII)I"⟩, 56) := ⟨⟨by decide +kernel, by decide +kernel⟩, List.mem_of_getElem? (i := 805) (by decide +kernel), List.mem_of_getElem? (i := 1075) (by decide +kernel), List.mem_of_getElem? (i := 1076) (by decide +kernel)⟩
theorem lw_p43 : lw_okq (⟨"PlanDeskModel", "note", "(II)V"⟩, 56) := ⟨⟨by decide +kernel, by decide +kernel⟩, List.mem_of_getElem? (i := 805) (by decide +kernel), List.mem_of_getElem? (i := 1079) (by decide +kernel), List.mem_of_getElem? (i := 1080) (by decide +kernel)⟩
theorem lw_p44 : lw_okq (⟨"PlanDeskModel", "layHead", "()V"⟩, 56) := ⟨⟨by decide +kernel, by decide +kernel⟩, List.mem_of_getElem? (i := 805) (by decide +kernel), List.mem_of_getElem? (i := 1083) (by decide +kernel), List.mem_of_getElem? (i := 1084) (by decide +kernel)⟩
theorem lw_p45 : lw_okq (⟨"PlanDeskModel", "findFact", "()I"⟩, 56) := ⟨⟨by decide +kernel, by decide +kernel⟩, List.mem_of_getElem? (i := 805) (by decide +kernel), List.mem_of_getElem? (i := 1087) (by decide +kernel), List.mem_of_getElem? (i := 1088) (by decide +kernel)⟩
theorem lw_p46 : lw_okq (⟨"PlanDeskModel", "addFact", "()V"⟩, 56) := ⟨⟨by decide +kernel, by decide +kernel⟩, List.mem_of_getElem? (i := 805) (by decide +kernel), List.mem_of_getElem? (i := 1091) (by decide +kernel), List.mem_of_getElem? (i := 1092) (by decide +kernel)⟩
theorem lw_p47 : lw_okq (⟨"PlanDeskModel", "readBody", "()Z"⟩, 56) := ⟨⟨by decide +kernel, by decide +kernel⟩, List.mem_of_getElem? (i := 805) (by decide +kernel), List.mem_of_getElem? (i := 1095) (by decide +kernel), List.mem_of_getElem? (i := 1096) (by decide +kernel)⟩
def lw_privs_3 : List (MethodName × Nat) := [(⟨"PlanDeskModel", "beginClause", "(I)V"⟩, 56), (⟨"PlanDeskModel", "readArguments", "(ZZ)Z"⟩, 56), (⟨"PlanDeskModel", "isKnown", "(J)Z"⟩, 56), (⟨"PlanDeskModel", "refuse", "()Z"⟩, 56), (⟨"PlanDeskModel", "wrong", "(I)Z"⟩, 56), (⟨"PlanDeskModel", "want", "(I)Z"⟩, 56), (⟨"PlanDeskModel", "takes", "(I)Z"⟩, 56), (⟨"PlanDeskModel", "isSign", "(I)Z"⟩, 56), (⟨"PlanDeskModel", "readVariable", "()Z"⟩, 56), (⟨"PlanDeskModel", "readTerm", "()Z"⟩, 56), (⟨"PlanDeskModel", "predicateOf", "(JII)I"⟩, 56), (⟨"PlanDeskModel", "note", "(II)V"⟩, 56), (⟨"PlanDeskModel", "layHead", "()V"⟩, 56), (⟨"PlanDeskModel", "findFact", "()I"⟩, 56), (⟨"PlanDeskModel", "addFact", "()V"⟩, 56), (⟨"PlanDeskModel", "readBody", "()Z"⟩, 56)]
theorem lw_r3 : ∀ q ∈ lw_privs_3, lw_okq q := List.forall_mem_cons.mpr ⟨lw_p32, List.forall_mem_cons.mpr ⟨lw_p33, List.forall_mem_cons.mpr ⟨lw_p34, List.forall_mem_cons.mpr ⟨lw_p35, List.forall_mem_cons.mpr ⟨lw_p36, List.forall_mem_cons.mpr ⟨lw_p37, List.forall_mem_cons.mpr ⟨lw_p38, List.forall_mem_cons.mpr ⟨lw_p39, List.forall_mem_cons.mpr ⟨lw_p40, List.forall_mem_cons.mpr ⟨lw_p41, List.forall_mem_cons.mpr ⟨lw_p42, List.forall_mem_cons.mpr ⟨lw_p43, List.forall_mem_cons.mpr ⟨lw_p44, List.forall_mem_cons.mpr ⟨lw_p45, List.forall_mem_cons.mpr ⟨lw_p46, List.forall_mem_cons.mpr ⟨lw_p47, fun _ h => absurd h List.not_mem_nil⟩⟩⟩⟩⟩⟩⟩⟩⟩⟩⟩⟩⟩⟩⟩⟩
theorem lw_p48 : lw_okq (⟨"PlanDeskModel", "readLiteral", "()Z"⟩, 56) := ⟨⟨by decide +kernel, by decide +kernel⟩, List.mem_of_getElem? (i := 805) (by decide +kernel), List.mem_of_getElem? (i := 1099) (by decide +kernel), List.mem_of_getElem? (i := 1100) (by decide +kernel)⟩
theorem lw_p49 : lw_okq (⟨"PlanDeskModel", "lay", "(II)V"⟩, 56) := ⟨⟨by decide +kernel, by decide +kernel⟩, List.mem_of_getElem? (i := 805) (by decide +kernel), List.mem_of_getElem? (i := 1103) (by decide +kernel), List.mem_of_getElem? (i := 1104) (by decide +kernel)⟩
theorem lw_p50 : lw_okq (⟨"PlanDeskModel", "relation", "()I"⟩, 56) := ⟨⟨by decide +kernel, by decide +kernel⟩, List.mem_of_getElem? (i := 805) (by decide +kernel), List.mem_of_getElem? (i := 1107) (by decide +kernel), List.mem_of_getElem? (i := 1108) (by decide +kernel)⟩
theorem lw_p51 : lw_okq (⟨"PlanDeskModel", "lookBound", "()V"⟩, 56) := ⟨⟨by decide +kernel, by decide +kernel⟩, List.mem_of_getElem? (i := 805) (by decide +kernel), List.mem_of_getElem? (i := 1111) (by decide +kernel), List.mem_of_getElem? (i := 1112) (by decide +kernel)⟩
theorem lw_p52 : lw_okq (⟨"PlanDeskModel", "predicateSizeOf", "(I)I"⟩, 56) := ⟨⟨by decide +kernel, by decide +kernel⟩, List.mem_of_getElem? (i := 805) (by decide +kernel), List.mem_of_getElem? (i := 1115) (by decide +kernel), List.mem_of_getElem? (i := 1116) (by decide +kernel)⟩
theorem lw_p53 : lw_okq (⟨"PlanDeskModel", "bind", "(II)V"⟩, 56) := ⟨⟨by decide +kernel, by decide +kernel⟩, List.mem_of_getElem? (i := 805) (by decide +kernel), List.mem_of_getElem? (i := 1119) (by decide +kernel), List.mem_of_getElem? (i := 1120) (by decide +kernel)⟩
theorem lw_p54 : lw_okq (⟨"PlanDeskModel", "isBound", "(II)Z"⟩, 56) := ⟨⟨by decide +kernel, by decide +kernel⟩, List.mem_of_getElem? (i := 805) (by decide +kernel), List.mem_of_getElem? (i := 1123) (by decide +kernel), List.mem_of_getElem? (i := 1124) (by decide +kernel)⟩
theorem lw_p55 : lw_okq (⟨"PlanDeskModel", "lookAbsence", "()V"⟩, 56) := ⟨⟨by decide +kernel, by decide +kernel⟩, List.mem_of_getElem? (i := 805) (by decide +kernel), List.mem_of_getElem? (i := 1127) (by decide +kernel), List.mem_of_getElem? (i := 1128) (by decide +kernel)⟩
theorem lw_p56 : lw_okq (⟨"PlanDeskModel", "lookHangs", "()V"⟩, 56) := ⟨⟨by decide +kernel, by decide +kernel⟩, List.mem_of_getElem? (i := 805) (by decide +kernel), List.mem_of_getElem? (i := 1131) (by decide +kernel), List.mem_of_getElem? (i := 1132) (by decide +kernel)⟩
theorem lw_p57 : lw_okq (⟨"PlanDeskModel", "isAtom", "(I)Z"⟩, 56) := ⟨⟨by decide +kernel, by decide +kernel⟩, List.mem_of_getElem? (i := 805) (by decide +kernel), List.mem_of_getElem? (i := 1135) (by decide +kernel), List.mem_of_getElem? (i := 1136) (by decide +kernel)⟩
theorem lw_p58 : lw_okq (⟨"PlanDeskModel", "isBack", "(II)Z"⟩, 56) := ⟨⟨by decide +kernel, by decide +kernel⟩, List.mem_of_getElem? (i := 805) (by decide +kernel), List.mem_of_getElem? (i := 1139) (by decide +kernel), List.mem_of_getElem? (i := 1140) (by decide +kernel)⟩
theorem lw_p59 : lw_okq (⟨"PlanDeskModel", "raise", "(I)I"⟩, 56) := ⟨⟨by decide +kernel, by decide +kernel⟩, List.mem_of_getElem? (i := 805) (by decide +kernel), List.mem_of_getElem? (i := 1143) (by decide +kernel), List.mem_of_getElem? (i := 1144) (by decide +kernel)⟩
theorem lw_p60 : lw_okq (⟨"PlanDeskModel", "lookStrata", "()V"⟩, 56) := ⟨⟨by decide +kernel, by decide +kernel⟩, List.mem_of_getElem? (i := 805) (by decide +kernel), List.mem_of_getElem? (i := 1147) (by decide +kernel), List.mem_of_getElem? (i := 1148) (by decide +kernel)⟩
theorem lw_p61 : lw_okq (⟨"PlanDeskModel", "plan", "(I)V"⟩, 56) := ⟨⟨by decide +kernel, by decide +kernel⟩, List.mem_of_getElem? (i := 805) (by decide +kernel), List.mem_of_getElem? (i := 1178) (by decide +kernel), List.mem_of_getElem? (i := 1179) (by decide +kernel)⟩
theorem lw_p62 : lw_okq (⟨"PlanDeskModel", "nextLiteral", "(I)I"⟩, 56) := ⟨⟨by decide +kernel, by decide +kernel⟩, List.mem_of_getElem? (i := 805) (by decide +kernel), List.mem_of_getElem? (i := 1182) (by decide +kernel), List.mem_of_getElem? (i := 1183) (by decide +kernel)⟩
theorem lw_p63 : lw_okq (⟨"PlanDeskModel", "canAsk", "(I)Z"⟩, 56) := ⟨⟨by decide +kernel, by decide +kernel⟩, List.mem_of_getElem? (i := 805) (by decide +kernel), List.mem_of_getElem? (i := 1186) (by decide +kernel), List.mem_of_getElem? (i := 1187) (by decide +kernel)⟩
def lw_privs_4 : List (MethodName × Nat) := [(⟨"PlanDeskModel", "readLiteral", "()Z"⟩, 56), (⟨"PlanDeskModel", "lay", "(II)V"⟩, 56), (⟨"PlanDeskModel", "relation", "()I"⟩, 56), (⟨"PlanDeskModel", "lookBound", "()V"⟩, 56), (⟨"PlanDeskModel", "predicateSizeOf", "(I)I"⟩, 56), (⟨"PlanDeskModel", "bind", "(II)V"⟩, 56), (⟨"PlanDeskModel", "isBound", "(II)Z"⟩, 56), (⟨"PlanDeskModel", "lookAbsence", "()V"⟩, 56), (⟨"PlanDeskModel", "lookHangs", "()V"⟩, 56), (⟨"PlanDeskModel", "isAtom", "(I)Z"⟩, 56), (⟨"PlanDeskModel", "isBack", "(II)Z"⟩, 56), (⟨"PlanDeskModel", "raise", "(I)I"⟩, 56), (⟨"PlanDeskModel", "lookStrata", "()V"⟩, 56), (⟨"PlanDeskModel", "plan", "(I)V"⟩, 56), (⟨"PlanDeskModel", "nextLiteral", "(I)I"⟩, 56), (⟨"PlanDeskModel", "canAsk", "(I)Z"⟩, 56)]
theorem lw_r4 : ∀ q ∈ lw_privs_4, lw_okq q := List.forall_mem_cons.mpr ⟨lw_p48, List.forall_mem_cons.mpr ⟨lw_p49, List.forall_mem_cons.mpr ⟨lw_p50, List.forall_mem_cons.mpr ⟨lw_p51, List.forall_mem_cons.mpr ⟨lw_p52, List.forall_mem_cons.mpr ⟨lw_p53, List.forall_mem_cons.mpr ⟨lw_p54, List.forall_mem_cons.mpr ⟨lw_p55, List.forall_mem_cons.mpr ⟨lw_p56, List.forall_mem_cons.mpr ⟨lw_p57, List.forall_mem_cons.mpr ⟨lw_p58, List.forall_mem_cons.mpr ⟨lw_p59, List.forall_mem_cons.mpr ⟨lw_p60, List.forall_mem_cons.mpr ⟨lw_p61, List.forall_mem_cons.mpr ⟨lw_p62, List.forall_mem_cons.mpr ⟨lw_p63, fun _ h => absurd h List.not_mem_nil⟩⟩⟩⟩⟩⟩⟩⟩⟩⟩⟩⟩⟩⟩⟩⟩
theorem lw_p64 : lw_okq (⟨"PlanDeskModel", "isKnownTerm", "(II)Z"⟩, 56) := ⟨⟨by decide +kernel, by decide +kernel⟩, List.mem_of_getElem? (i := 805) (by decide +kernel), List.mem_of_getElem? (i := 1190) (by decide +kernel), List.mem_of_getElem? (i := 1191) (by decide +kernel)⟩
theorem lw_p65 : lw_okq (⟨"PlanDeskModel", "knownIn", "(I)I"⟩, 56) := ⟨⟨by decide +kernel, by decide +kernel⟩, List.mem_of_getElem? (i := 805) (by decide +kernel), List.mem_of_getElem? (i := 1194) (by decide +kernel), List.mem_of_getElem? (i := 1195) (by decide +kernel)⟩
def lw_privs_5 : List (MethodName × Nat) := [(⟨"PlanDeskModel", "isKnownTerm", "(II)Z"⟩, 56), (⟨"PlanDeskModel", "knownIn", "(I)I"⟩, 56)]
theorem lw_r5 : ∀ q ∈ lw_privs_5, lw_okq q := List.forall_mem_cons.mpr ⟨lw_p64, List.forall_mem_cons.mpr ⟨lw_p65, fun _ h => absurd h List.not_mem_nil⟩⟩
def lw_privs : List (MethodName × Nat) := lw_privs_1 ++ (lw_privs_2 ++ (lw_privs_3 ++ (lw_privs_4 ++ (lw_privs_5))))
def lw_tbl : List Cond := k2_sels lw_privs ++ tables_1
theorem lw_privs_ok : ∀ q ∈ lw_privs, lw_okq q := by
  show ∀ q ∈ lw_privs_1 ++ (lw_privs_2 ++ (lw_privs_3 ++ (lw_privs_4 ++ (lw_privs_5)))), lw_okq q
  exact List.forall_mem_append.mpr ⟨lw_r1, List.forall_mem_append.mpr ⟨lw_r2, List.forall_mem_append.mpr ⟨lw_r3, List.forall_mem_append.mpr ⟨lw_r4, lw_r5⟩⟩⟩⟩
end
section
/-! NAMES (by program): classes, methods, the words that hold -/
abbrev MR : Type := MethodName × ByteArray × Nat × Option FieldType × Room
abbrev yy (m : MR) : MethodName := m.1
abbrev cd (m : MR) : ByteArray := m.2.1
abbrev nLo (m : MR) : Nat := m.2.2.1
abbrev rtt (m : MR) : Option FieldType := m.2.2.2.1
abbrev rmm (m : MR) : Room := m.2.2.2.2
def RC0 : String := "PlanDesk$Book"
def TC0 : u_T := fun k => [("PlanDesk$Book", "rules", "LPlanDesk$Rules;", true), ("PlanDesk$Book", "count", "I", false), ("PlanDesk$Book", "names", "[J", true), ("PlanDesk$Book", "sizes", "[I", true), ("PlanDesk$Book", "ruleCounts", "[I", true), ("PlanDesk$Book", "factCounts", "[I", true), ("PlanDesk$Book", "strata", "[I", true), ("PlanDesk$Book", "hangsOn", "[I", true)].getD k ("", "", "", false)
def RC1 : String := "PlanDesk$Clause"
def TC1 : u_T := fun k => [("PlanDesk$Clause", "head", "LPlanDesk$Literal;", true), ("PlanDesk$Clause", "body", "[LPlanDesk$Literal;", true), ("PlanDesk$Clause", "size", "I", false), ("PlanDesk$Clause", "atoms", "I", false), ("PlanDesk$Clause", "total", "I", false), ("PlanDesk$Clause", "totalPlace", "I", false), ("PlanDesk$Clause", "variables", "I", false), ("PlanDesk$Clause", "names", "[J", true), ("PlanDesk$Clause", "firstPlaces", "[I", true), ("PlanDesk$Clause", "order", "[I", true), ("PlanDesk$Clause", "known", "[I", true), ("PlanDesk$Clause", "valued", "[I", true)].getD k ("", "", "", false)
def RC2 : String := "PlanDesk$Facts"
def TC2 : u_T := fun k => [("PlanDesk$Facts", "owners", "[I", true), ("PlanDesk$Facts", "terms", "[J", true), ("PlanDesk$Facts", "count", "I", false)].getD k ("", "", "", false)
def RC3 : String := "PlanDesk$Literal"
def TC3 : u_T := fun k => [("PlanDesk$Literal", "kind", "I", false), ("PlanDesk$Literal", "place", "I", false), ("PlanDesk$Literal", "asked", "I", false), ("PlanDesk$Literal", "equation", "Z", false), ("PlanDesk$Literal", "size", "I", false), ("PlanDesk$Literal", "terms", "[J", true), ("PlanDesk$Literal", "variables", "[I", true)].getD k ("", "", "", false)
def RC4 : String := "PlanDesk$Reader"
def TC4 : u_T := fun k => [("PlanDesk$Reader", "tokens", "LPlanDesk$Tokens;", true), ("PlanDesk$Reader", "clause", "LPlanDesk$Clause;", true), ("PlanDesk$Reader", "facts", "LPlanDesk$Facts;", true), ("PlanDesk$Reader", "target", "LPlanDesk$Book;", false), ("PlanDesk$Reader", "faultKind", "I", false), ("PlanDesk$Reader", "faultPlace", "I", false), ("PlanDesk$Reader", "at", "I", false), ("PlanDesk$Reader", "kind", "I", false), ("PlanDesk$Reader", "place", "I", false), ("PlanDesk$Reader", "value", "J", false)].getD k ("", "", "", false)
def RC5 : String := "PlanDesk$Rules"
def TC5 : u_T := fun k => [("PlanDesk$Rules", "count", "I", false), ("PlanDesk$Rules", "heads", "[I", true), ("PlanDesk$Rules", "sizes", "[I", true), ("PlanDesk$Rules", "variables", "[I", true), ("PlanDesk$Rules", "totals", "[I", true), ("PlanDesk$Rules", "totalPlaces", "[I", true), ("PlanDesk$Rules", "kinds", "[I", true), ("PlanDesk$Rules", "asked", "[I", true), ("PlanDesk$Rules", "places", "[I", true), ("PlanDesk$Rules", "order", "[I", true), ("PlanDesk$Rules", "known", "[I", true), ("PlanDesk$Rules", "valued", "[I", true)].getD k ("", "", "", false)
def RC6 : String := "PlanDesk$Tape"
def TC6 : u_T := fun k => [("PlanDesk$Tape", "characters", "[B", true), ("PlanDesk$Tape", "length", "I", false)].getD k ("", "", "", false)
def RC7 : String := "PlanDesk$Tokens"
def TC7 : u_T := fun k => [("PlanDesk$Tokens", "kinds", "[I", true), ("PlanDesk$Tokens", "places", "[I", true), ("PlanDesk$Tokens", "values", "[J", true), ("PlanDesk$Tokens", "count", "I", false)].getD k ("", "", "", false)
def RC8 : String := "PlanDesk"
def TC8 : u_T := fun k => [("PlanDesk", "tape", "LPlanDesk$Tape;", true), ("PlanDesk", "reader", "LPlanDesk$Reader;", true), ("PlanDesk", "book", "LPlanDesk$Book;", false), ("PlanDesk", "draft", "LPlanDesk$Book;", false)].getD k ("", "", "", false)
def RC9 : String := "PlanDeskModel"
def TC9 : u_T := fun k => [("PlanDeskModel", "thrown", "I", false), ("PlanDeskModel", "tape", "[I", true), ("PlanDeskModel", "taped", "I", false), ("PlanDeskModel", "fault", "I", false), ("PlanDeskModel", "faultPlace", "I", false), ("PlanDeskModel", "tokens", "I", false), ("PlanDeskModel", "tokenKind", "[I", true), ("PlanDeskModel", "tokenPlace", "[I", true), ("PlanDeskModel", "tokenCode", "[I", true), ("PlanDeskModel", "tokenValue", "[J", true), ("PlanDeskModel", "at", "I", false), ("PlanDeskModel", "side", "I", false), ("PlanDeskModel", "predicates", "[I", true), ("PlanDeskModel", "predicateName", "[J", true), ("PlanDeskModel", "predicateSize", "[I", true), ("PlanDeskModel", "stratum", "[I", true), ("PlanDeskModel", "rules", "[I", true), ("PlanDeskModel", "head", "[I", true), ("PlanDeskModel", "headKind", "[I", true), ("PlanDeskModel", "headValue", "[J", true), ("PlanDeskModel", "totalWord", "[I", true), ("PlanDeskModel", "totalAt", "[I", true), ("PlanDeskModel", "literals", "[I", true), ("PlanDeskModel", "variables", "[I", true), ("PlanDeskModel", "literal", "[I", true), ("PlanDeskModel", "sign", "[I", true), ("PlanDeskModel", "termKind", "[I", true), ("PlanDeskModel", "termValue", "[J", true), ("PlanDeskModel", "facts", "[I", true), ("PlanDeskModel", "factOf", "[I", true), ("PlanDeskModel", "factValue", "[J", true), ("PlanDeskModel", "clause", "I", false), ("PlanDeskModel", "variableName", "[J", true), ("PlanDeskModel", "variablePlace", "[I", true), ("PlanDeskModel", "bound", "[Z", true), ("PlanDeskModel", "readKind", "I", false), ("PlanDeskModel", "readValue", "J", false), ("PlanDeskModel", "readSide", "I", false), ("PlanDeskModel", "arguments", "I", false), ("PlanDeskModel", "argumentKind", "[I", true), ("PlanDeskModel", "argumentValue", "[J", true), ("PlanDeskModel", "firstFree", "I", false), ("PlanDeskModel", "word", "I", false), ("PlanDeskModel", "wordAt", "I", false), ("PlanDeskModel", "wordPlace", "I", false), ("PlanDeskModel", "readPredicate", "I", false), ("PlanDeskModel", "atoms", "I", false), ("PlanDeskModel", "negated", "[I", true), ("PlanDeskModel", "written", "[I", true), ("PlanDeskModel", "totalPlace", "[I", true), ("PlanDeskModel", "back", "[Z", true), ("PlanDeskModel", "order", "[I", true), ("PlanDeskModel", "ahead", "[I", true), ("PlanDeskModel", "behind", "[I", true), ("PlanDeskModel", "has", "[Z", true), ("PlanDeskModel", "taken", "[Z", true)].getD k ("", "", "", false)
def clT : List vw_C := [(RC0, TC0, 8), (RC1, TC1, 12), (RC2, TC2, 3), (RC3, TC3, 7), (RC4, TC4, 10), (RC5, TC5, 12), (RC6, TC6, 2), (RC7, TC7, 4), (RC8, TC8, 4), (RC9, TC9, 56)]
def RLit : String := "PlanDesk$Literal"
def nf (c : Nat) : Nat := [8, 12, 3, 7, 10, 12, 2, 4, 4, 56].getD c 0
def fty (c k : Nat) : Nat := ([[5, 1, 5, 5, 5, 5, 5, 5], [5, 5, 1, 1, 1, 1, 1, 5, 5, 5, 5, 5], [5, 5, 1], [1, 1, 1, 1, 1, 5, 5], [5, 5, 5, 5, 1, 1, 1, 1, 1, 2], [1, 5, 5, 5, 5, 5, 5, 5, 5, 5, 5, 5], [5, 1], [5, 5, 5, 1], [5, 5, 5, 5], [1, 5, 1, 1, 1, 1, 5, 5, 5, 5, 1, 1, 5, 5, 5, 5, 5, 5, 5, 5, 5, 5, 5, 5, 5, 5, 5, 5, 5, 5, 5, 1, 5, 5, 5, 1, 2, 1, 1, 5, 5, 1, 1, 1, 1, 1, 1, 5, 5, 5, 5, 5, 5, 5, 5, 5]].getD c []).getD k 1
def tyF (c k : Nat) : FieldType := (([[.object "PlanDesk$Rules", .int, .array (.long), .array (.int), .array (.int), .array (.int), .array (.int), .array (.int)], [.object "PlanDesk$Literal", .array (.object "PlanDesk$Literal"), .int, .int, .int, .int, .int, .array (.long), .array (.int), .array (.int), .array (.int), .array (.int)], [.array (.int), .array (.long), .int], [.int, .int, .int, .boolean, .int, .array (.long), .array (.int)], [.object "PlanDesk$Tokens", .object "PlanDesk$Clause", .object "PlanDesk$Facts", .object "PlanDesk$Book", .int, .int, .int, .int, .int, .long], [.int, .array (.int), .array (.int), .array (.int), .array (.int), .array (.int), .array (.int), .array (.int), .array (.int), .array (.int), .array (.int), .array (.int)], [.array (.byte), .int], [.array (.int), .array (.int), .array (.long), .int], [.object "PlanDesk$Tape", .object "PlanDesk$Reader", .object "PlanDesk$Book", .object "PlanDesk$Book"], [.int, .array (.int), .int, .int, .int, .int, .array (.int), .array (.int), .array (.int), .array (.long), .int, .int, .array (.int), .array (.long), .array (.int), .array (.int), .array (.int), .array (.int), .array (.int), .array (.long), .array (.int), .array (.int), .array (.int), .array (.int), .array (.int), .array (.int), .array (.int), .array (.long), .array (.int), .array (.int), .array (.long), .int, .array (.long), .array (.int), .array (.boolean), .int, .long, .int, .int, .array (.int), .array (.long), .int, .int, .int, .int, .int, .int, .array (.int), .array (.int), .array (.int), .array (.boolean), .array (.int), .array (.int), .array (.int), .array (.boolean), .array (.boolean)]] : List (List FieldType)).getD c []).getD k .int
def m_Bk_init : MR := (⟨"PlanDesk$Book", "<init>", "()V"⟩, prog_2_method_1_code, 1, none, { frames := 2, cells := 0, slots := 0, locals := 40 })
def m_Bk_clear : MR := (⟨"PlanDesk$Book", "clear", "()V"⟩, prog_2_method_2_code, 1, none, { frames := 0, cells := 0, slots := 0, locals := 0 })
def m_Bk_numberOf : MR := (⟨"PlanDesk$Book", "numberOf", "(J)I"⟩, prog_2_method_3_code, 4, some .int, { frames := 0, cells := 0, slots := 0, locals := 0 })
def m_Bk_agrees : MR := (⟨"PlanDesk$Book", "agrees", "(II)Z"⟩, prog_2_method_4_code, 3, some .boolean, { frames := 0, cells := 0, slots := 0, locals := 0 })
def m_Bk_addRule : MR := (⟨"PlanDesk$Book", "addRule", "(LPlanDesk$Clause;)V"⟩, prog_2_method_5_code, 4, none, { frames := 1, cells := 0, slots := 0, locals := 23 })
def m_Bk_addFact : MR := (⟨"PlanDesk$Book", "addFact", "(I)V"⟩, prog_2_method_6_code, 2, none, { frames := 0, cells := 0, slots := 0, locals := 0 })
def m_Bk_reaches : MR := (⟨"PlanDesk$Book", "reaches", "(II)Z"⟩, prog_2_method_7_code, 3, some .boolean, { frames := 0, cells := 0, slots := 0, locals := 0 })
def m_Bk_spreadHanging : MR := (⟨"PlanDesk$Book", "spreadHanging", "()V"⟩, prog_2_method_8_code, 3, none, { frames := 1, cells := 0, slots := 0, locals := 22 })
def m_Bk_leadsBack : MR := (⟨"PlanDesk$Book", "leadsBack", "(II)Z"⟩, prog_2_method_9_code, 5, some .boolean, { frames := 1, cells := 0, slots := 0, locals := 22 })
def m_Bk_circles : MR := (⟨"PlanDesk$Book", "circles", "(I)I"⟩, prog_2_method_10_code, 5, some .int, { frames := 2, cells := 0, slots := 0, locals := 46 })
def m_Bk_knotPlace : MR := (⟨"PlanDesk$Book", "knotPlace", "()I"⟩, prog_2_method_11_code, 4, some .int, { frames := 2, cells := 0, slots := 0, locals := 46 })
def m_Bk_layStrata : MR := (⟨"PlanDesk$Book", "layStrata", "()V"⟩, prog_2_method_12_code, 3, none, { frames := 2, cells := 0, slots := 0, locals := 48 })
def m_Bk_liftHead : MR := (⟨"PlanDesk$Book", "liftHead", "(I)V"⟩, prog_2_method_13_code, 7, none, { frames := 1, cells := 0, slots := 0, locals := 22 })
def m_Cl_init : MR := (⟨"PlanDesk$Clause", "<init>", "()V"⟩, prog_3_method_1_code, 2, none, { frames := 2, cells := 0, slots := 0, locals := 40 })
def m_Cl_begin : MR := (⟨"PlanDesk$Clause", "begin", "(I)V"⟩, prog_3_method_2_code, 2, none, { frames := 1, cells := 0, slots := 0, locals := 22 })
def m_Cl_variableOf : MR := (⟨"PlanDesk$Clause", "variableOf", "(JI)I"⟩, prog_3_method_3_code, 5, some .int, { frames := 0, cells := 0, slots := 0, locals := 0 })
def m_Cl_openPlace : MR := (⟨"PlanDesk$Clause", "openPlace", "()I"⟩, prog_3_method_4_code, 1, some .int, { frames := 1, cells := 0, slots := 0, locals := 21 })
def m_Cl_plan : MR := (⟨"PlanDesk$Clause", "plan", "()I"⟩, prog_3_method_5_code, 6, some .int, { frames := 3, cells := 0, slots := 0, locals := 73 })
def m_Cl_nextAsked : MR := (⟨"PlanDesk$Clause", "nextAsked", "(II)I"⟩, prog_3_method_6_code, 9, some .int, { frames := 2, cells := 0, slots := 0, locals := 45 })
def m_Cl_firstWithout : MR := (⟨"PlanDesk$Clause", "firstWithout", "(I)I"⟩, prog_3_method_7_code, 3, some .int, { frames := 0, cells := 0, slots := 0, locals := 0 })
def m_Fc_init : MR := (⟨"PlanDesk$Facts", "<init>", "()V"⟩, prog_4_method_1_code, 1, none, { frames := 1, cells := 0, slots := 0, locals := 20 })
def m_Fc_add : MR := (⟨"PlanDesk$Facts", "add", "(LPlanDesk$Literal;)Z"⟩, prog_4_method_2_code, 3, some .boolean, { frames := 1, cells := 0, slots := 0, locals := 65 })
def m_Fc_isSame : MR := (⟨"PlanDesk$Facts", "isSame", "(ILPlanDesk$Literal;)Z"⟩, prog_4_method_3_code, 4, some .boolean, { frames := 0, cells := 0, slots := 0, locals := 0 })
def m_Lt_init : MR := (⟨"PlanDesk$Literal", "<init>", "()V"⟩, prog_5_method_1_code, 1, none, { frames := 1, cells := 0, slots := 0, locals := 20 })
def m_Lt_begin : MR := (⟨"PlanDesk$Literal", "begin", "(II)V"⟩, prog_5_method_2_code, 3, none, { frames := 0, cells := 0, slots := 0, locals := 0 })
def m_Lt_add : MR := (⟨"PlanDesk$Literal", "add", "(J)V"⟩, prog_5_method_3_code, 4, none, { frames := 0, cells := 0, slots := 0, locals := 0 })
def m_Lt_isAtom : MR := (⟨"PlanDesk$Literal", "isAtom", "()Z"⟩, prog_5_method_4_code, 1, some .boolean, { frames := 0, cells := 0, slots := 0, locals := 0 })
def m_Lt_variablesFrom : MR := (⟨"PlanDesk$Literal", "variablesFrom", "(I)I"⟩, prog_5_method_5_code, 4, some .int, { frames := 0, cells := 0, slots := 0, locals := 0 })
def m_Lt_canBeAsked : MR := (⟨"PlanDesk$Literal", "canBeAsked", "(I)Z"⟩, prog_5_method_6_code, 3, some .boolean, { frames := 1, cells := 0, slots := 0, locals := 23 })
def m_Lt_knownArguments : MR := (⟨"PlanDesk$Literal", "knownArguments", "(I)I"⟩, prog_5_method_7_code, 4, some .int, { frames := 0, cells := 0, slots := 0, locals := 0 })
def m_Rd_init : MR := (⟨"PlanDesk$Reader", "<init>", "()V"⟩, prog_6_method_1_code, 1, none, { frames := 3, cells := 0, slots := 0, locals := 61 })
def m_Rd_read : MR := (⟨"PlanDesk$Reader", "read", "(LPlanDesk$Tape;LPlanDesk$Book;)Z"⟩, prog_6_method_2_code, 4, some .boolean, { frames := 8, cells := 0, slots := 0, locals := 234 })
def m_Rd_finish : MR := (⟨"PlanDesk$Reader", "finish", "()V"⟩, prog_6_method_3_code, 2, none, { frames := 3, cells := 0, slots := 0, locals := 70 })
def m_Rd_moveTo : MR := (⟨"PlanDesk$Reader", "moveTo", "(I)V"⟩, prog_6_method_4_code, 2, none, { frames := 0, cells := 0, slots := 0, locals := 0 })
def m_Rd_refuse : MR := (⟨"PlanDesk$Reader", "refuse", "(I)Z"⟩, prog_6_method_5_code, 2, some .boolean, { frames := 0, cells := 0, slots := 0, locals := 0 })
def m_Rd_note : MR := (⟨"PlanDesk$Reader", "note", "(II)V"⟩, prog_6_method_6_code, 3, none, { frames := 0, cells := 0, slots := 0, locals := 0 })
def m_Rd_take : MR := (⟨"PlanDesk$Reader", "take", "(I)Z"⟩, prog_6_method_7_code, 2, some .boolean, { frames := 1, cells := 0, slots := 0, locals := 21 })
def m_Rd_readBody : MR := (⟨"PlanDesk$Reader", "readBody", "()Z"⟩, prog_6_method_8_code, 2, some .boolean, { frames := 5, cells := 0, slots := 0, locals := 113 })
def m_Rd_endRule : MR := (⟨"PlanDesk$Reader", "endRule", "()Z"⟩, prog_6_method_9_code, 2, some .boolean, { frames := 4, cells := 0, slots := 0, locals := 98 })
def m_Rd_endFact : MR := (⟨"PlanDesk$Reader", "endFact", "()Z"⟩, prog_6_method_10_code, 2, some .boolean, { frames := 2, cells := 0, slots := 0, locals := 87 })
def m_Rd_readLiteral : MR := (⟨"PlanDesk$Reader", "readLiteral", "(LPlanDesk$Literal;)Z"⟩, prog_6_method_11_code, 2, some .boolean, { frames := 4, cells := 0, slots := 0, locals := 92 })
def m_Rd_isOpenNext : MR := (⟨"PlanDesk$Reader", "isOpenNext", "()Z"⟩, prog_6_method_12_code, 1, some .boolean, { frames := 0, cells := 0, slots := 0, locals := 0 })
def m_Rd_readTest : MR := (⟨"PlanDesk$Reader", "readTest", "(LPlanDesk$Literal;)Z"⟩, prog_6_method_13_code, 3, some .boolean, { frames := 3, cells := 0, slots := 0, locals := 62 })
def m_Rd_readOperation : MR := (⟨"PlanDesk$Reader", "readOperation", "()Z"⟩, prog_6_method_14_code, 1, some .boolean, { frames := 2, cells := 0, slots := 0, locals := 42 })
def m_Rd_readAtom : MR := (⟨"PlanDesk$Reader", "readAtom", "(LPlanDesk$Literal;)Z"⟩, prog_6_method_15_code, 5, some .boolean, { frames := 3, cells := 0, slots := 0, locals := 68 })
def m_Rd_readTotal : MR := (⟨"PlanDesk$Reader", "readTotal", "(LPlanDesk$Literal;)Z"⟩, prog_6_method_16_code, 2, some .boolean, { frames := 2, cells := 0, slots := 0, locals := 47 })
def m_Rd_readAnything : MR := (⟨"PlanDesk$Reader", "readAnything", "(LPlanDesk$Literal;)Z"⟩, prog_6_method_17_code, 3, some .boolean, { frames := 1, cells := 0, slots := 0, locals := 23 })
def m_Rd_readTerm : MR := (⟨"PlanDesk$Reader", "readTerm", "(LPlanDesk$Literal;)Z"⟩, prog_6_method_18_code, 4, some .boolean, { frames := 1, cells := 0, slots := 0, locals := 24 })
def m_Rl_init : MR := (⟨"PlanDesk$Rules", "<init>", "()V"⟩, prog_7_method_1_code, 1, none, { frames := 1, cells := 0, slots := 0, locals := 20 })
def m_Rl_add : MR := (⟨"PlanDesk$Rules", "add", "(LPlanDesk$Clause;)V"⟩, prog_7_method_2_code, 4, none, { frames := 0, cells := 0, slots := 0, locals := 0 })
def m_Rl_waits : MR := (⟨"PlanDesk$Rules", "waits", "(II)Z"⟩, prog_7_method_3_code, 3, some .boolean, { frames := 0, cells := 0, slots := 0, locals := 0 })
def m_Tp_init : MR := (⟨"PlanDesk$Tape", "<init>", "()V"⟩, prog_8_method_1_code, 1, none, { frames := 1, cells := 0, slots := 0, locals := 20 })
def m_Tp_add : MR := (⟨"PlanDesk$Tape", "add", "(I)V"⟩, prog_8_method_2_code, 2, none, { frames := 0, cells := 0, slots := 0, locals := 0 })
def m_Tp_at : MR := (⟨"PlanDesk$Tape", "at", "(I)I"⟩, prog_8_method_3_code, 2, some .int, { frames := 0, cells := 0, slots := 0, locals := 0 })
def m_Tp_sortAt : MR := (⟨"PlanDesk$Tape", "sortAt", "(I)I"⟩, prog_8_method_4_code, 3, some .int, { frames := 1, cells := 0, slots := 0, locals := 21 })
def m_Tp_endOfRun : MR := (⟨"PlanDesk$Tape", "endOfRun", "(II)I"⟩, prog_8_method_5_code, 4, some .int, { frames := 2, cells := 0, slots := 0, locals := 43 })
def m_Tp_spells : MR := (⟨"PlanDesk$Tape", "spells", "(IILjava/lang/String;)Z"⟩, prog_8_method_6_code, 5, some .boolean, { frames := 4, cells := 0, slots := 0, locals := 141 })
def m_Tp_packed : MR := (⟨"PlanDesk$Tape", "packed", "(II)J"⟩, prog_8_method_7_code, 6, some .long, { frames := 1, cells := 0, slots := 0, locals := 21 })
def m_Tp_number : MR := (⟨"PlanDesk$Tape", "number", "(II)J"⟩, prog_8_method_8_code, 6, some .long, { frames := 1, cells := 0, slots := 0, locals := 21 })
def m_Tk_init : MR := (⟨"PlanDesk$Tokens", "<init>", "()V"⟩, prog_9_method_1_code, 1, none, { frames := 1, cells := 0, slots := 0, locals := 20 })
def m_Tk_cut : MR := (⟨"PlanDesk$Tokens", "cut", "(LPlanDesk$Tape;)V"⟩, prog_9_method_2_code, 4, none, { frames := 7, cells := 0, slots := 0, locals := 211 })
def m_Tk_add : MR := (⟨"PlanDesk$Tokens", "add", "(IIJ)V"⟩, prog_9_method_3_code, 5, none, { frames := 0, cells := 0, slots := 0, locals := 0 })
def m_Tk_cutName : MR := (⟨"PlanDesk$Tokens", "cutName", "(LPlanDesk$Tape;I)I"⟩, prog_9_method_4_code, 5, some .int, { frames := 6, cells := 0, slots := 0, locals := 187 })
def m_Tk_totalAt : MR := (⟨"PlanDesk$Tokens", "totalAt", "(LPlanDesk$Tape;II)I"⟩, prog_9_method_5_code, 3, some .int, { frames := 5, cells := 0, slots := 0, locals := 165 })
def m_Tk_cutVariable : MR := (⟨"PlanDesk$Tokens", "cutVariable", "(LPlanDesk$Tape;I)I"⟩, prog_9_method_6_code, 4, some .int, { frames := 3, cells := 0, slots := 0, locals := 66 })
def m_Tk_cutNumber : MR := (⟨"PlanDesk$Tokens", "cutNumber", "(LPlanDesk$Tape;I)I"⟩, prog_9_method_7_code, 4, some .int, { frames := 3, cells := 0, slots := 0, locals := 66 })
def m_Tk_cutSign : MR := (⟨"PlanDesk$Tokens", "cutSign", "(LPlanDesk$Tape;I)I"⟩, prog_9_method_8_code, 4, some .int, { frames := 1, cells := 0, slots := 0, locals := 24 })
def m_Tk_pairKind : MR := (⟨"PlanDesk$Tokens", "pairKind", "(II)I"⟩, prog_9_method_9_code, 3, some .int, { frames := 0, cells := 0, slots := 0, locals := 0 })
def m_Tk_signKind : MR := (⟨"PlanDesk$Tokens", "signKind", "(I)I"⟩, prog_9_method_10_code, 1, some .int, { frames := 0, cells := 0, slots := 0, locals := 0 })
def m_D_init : MR := (⟨"PlanDesk", "<init>", "()V"⟩, prog_1_method_1_code, 1, none, { frames := 4, cells := 0, slots := 0, locals := 81 })
def m_D_type : MR := (⟨"PlanDesk", "type", "(JI)Z"⟩, prog_1_method_2_code, 6, some .boolean, { frames := 1, cells := 0, slots := 0, locals := 22 })
def m_D_program : MR := (⟨"PlanDesk", "program", "()I"⟩, prog_1_method_3_code, 3, some .int, { frames := 9, cells := 0, slots := 0, locals := 321 })
def m_D_fault : MR := (⟨"PlanDesk", "fault", "(I)I"⟩, prog_1_method_4_code, 2, some .int, { frames := 0, cells := 0, slots := 0, locals := 0 })
def m_D_predicates : MR := (⟨"PlanDesk", "predicates", "()I"⟩, prog_1_method_5_code, 1, some .int, { frames := 0, cells := 0, slots := 0, locals := 0 })
def m_D_predicate : MR := (⟨"PlanDesk", "predicate", "(II)I"⟩, prog_1_method_6_code, 3, some .int, { frames := 2, cells := 0, slots := 0, locals := 45 })
def m_D_hangs : MR := (⟨"PlanDesk", "hangs", "(II)Z"⟩, prog_1_method_7_code, 3, some .boolean, { frames := 1, cells := 0, slots := 0, locals := 22 })
def m_D_rule : MR := (⟨"PlanDesk", "rule", "(II)I"⟩, prog_1_method_8_code, 4, some .int, { frames := 9, cells := 0, slots := 0, locals := 321 })
def m_D_literal : MR := (⟨"PlanDesk", "literal", "(III)I"⟩, prog_1_method_9_code, 7, some .int, { frames := 9, cells := 0, slots := 0, locals := 321 })
def m_D_byteOf : MR := (⟨"PlanDesk", "byteOf", "(JI)I"⟩, prog_1_method_10_code, 3, some .int, { frames := 0, cells := 0, slots := 0, locals := 0 })
def m_D_letters : MR := (⟨"PlanDesk", "letters", "(J)I"⟩, prog_1_method_11_code, 3, some .int, { frames := 0, cells := 0, slots := 0, locals := 0 })
def m_D_letter : MR := (⟨"PlanDesk", "letter", "(JI)I"⟩, prog_1_method_12_code, 4, some .int, { frames := 1, cells := 0, slots := 0, locals := 22 })
def m_M_init : MR := (⟨"PlanDeskModel", "<init>", "()V"⟩, prog_11_method_1_code, 1, none, { frames := 1, cells := 0, slots := 0, locals := 20 })
def m_M_thrown : MR := (⟨"PlanDeskModel", "thrown", "()I"⟩, prog_11_method_2_code, 1, some .int, { frames := 0, cells := 0, slots := 0, locals := 0 })
def m_M_raise : MR := (⟨"PlanDeskModel", "raise", "(I)I"⟩, prog_11_method_3_code, 2, some .int, { frames := 0, cells := 0, slots := 0, locals := 0 })
def m_M_type : MR := (⟨"PlanDeskModel", "type", "(JI)Z"⟩, prog_11_method_4_code, 6, some .boolean, { frames := 0, cells := 0, slots := 0, locals := 0 })
def m_M_see : MR := (⟨"PlanDeskModel", "see", "(I)I"⟩, prog_11_method_5_code, 2, some .int, { frames := 0, cells := 0, slots := 0, locals := 0 })
def m_M_isDigit : MR := (⟨"PlanDeskModel", "isDigit", "(I)Z"⟩, prog_11_method_6_code, 1, some .boolean, { frames := 0, cells := 0, slots := 0, locals := 0 })
def m_M_isSmall : MR := (⟨"PlanDeskModel", "isSmall", "(I)Z"⟩, prog_11_method_7_code, 1, some .boolean, { frames := 0, cells := 0, slots := 0, locals := 0 })
def m_M_isGreat : MR := (⟨"PlanDeskModel", "isGreat", "(I)Z"⟩, prog_11_method_8_code, 1, some .boolean, { frames := 0, cells := 0, slots := 0, locals := 0 })
def m_M_isPart : MR := (⟨"PlanDeskModel", "isPart", "(I)Z"⟩, prog_11_method_9_code, 1, some .boolean, { frames := 1, cells := 0, slots := 0, locals := 20 })
def m_M_token : MR := (⟨"PlanDeskModel", "token", "(IIIJ)V"⟩, prog_11_method_10_code, 6, none, { frames := 0, cells := 0, slots := 0, locals := 0 })
def m_M_packed : MR := (⟨"PlanDeskModel", "packed", "(IIIII)J"⟩, prog_11_method_11_code, 5, some .long, { frames := 0, cells := 0, slots := 0, locals := 0 })
def m_M_wordOf : MR := (⟨"PlanDeskModel", "wordOf", "(J)I"⟩, prog_11_method_12_code, 2, some .int, { frames := 1, cells := 0, slots := 0, locals := 24 })
def m_M_tokenize : MR := (⟨"PlanDeskModel", "tokenize", "()V"⟩, prog_11_method_13_code, 3, none, { frames := 3, cells := 0, slots := 0, locals := 73 })
def m_M_oneToken : MR := (⟨"PlanDeskModel", "oneToken", "(I)I"⟩, prog_11_method_14_code, 9, some .int, { frames := 2, cells := 0, slots := 0, locals := 45 })
def m_M_wrong : MR := (⟨"PlanDeskModel", "wrong", "(I)Z"⟩, prog_11_method_15_code, 2, some .boolean, { frames := 0, cells := 0, slots := 0, locals := 0 })
def m_M_refuse : MR := (⟨"PlanDeskModel", "refuse", "()Z"⟩, prog_11_method_16_code, 1, some .boolean, { frames := 1, cells := 0, slots := 0, locals := 21 })
def m_M_isSign : MR := (⟨"PlanDeskModel", "isSign", "(I)Z"⟩, prog_11_method_17_code, 2, some .boolean, { frames := 0, cells := 0, slots := 0, locals := 0 })
def m_M_takes : MR := (⟨"PlanDeskModel", "takes", "(I)Z"⟩, prog_11_method_18_code, 2, some .boolean, { frames := 1, cells := 0, slots := 0, locals := 21 })
def m_M_want : MR := (⟨"PlanDeskModel", "want", "(I)Z"⟩, prog_11_method_19_code, 2, some .boolean, { frames := 2, cells := 0, slots := 0, locals := 42 })
def m_M_note : MR := (⟨"PlanDeskModel", "note", "(II)V"⟩, prog_11_method_20_code, 3, none, { frames := 0, cells := 0, slots := 0, locals := 0 })
def m_M_readVariable : MR := (⟨"PlanDeskModel", "readVariable", "()Z"⟩, prog_11_method_21_code, 2, some .boolean, { frames := 2, cells := 0, slots := 0, locals := 41 })
def m_M_readTerm : MR := (⟨"PlanDeskModel", "readTerm", "()Z"⟩, prog_11_method_22_code, 2, some .boolean, { frames := 3, cells := 0, slots := 0, locals := 62 })
def m_M_predicateOf : MR := (⟨"PlanDeskModel", "predicateOf", "(JII)I"⟩, prog_11_method_23_code, 7, some .int, { frames := 1, cells := 0, slots := 0, locals := 22 })
def m_M_isKnown : MR := (⟨"PlanDeskModel", "isKnown", "(J)Z"⟩, prog_11_method_24_code, 4, some .boolean, { frames := 0, cells := 0, slots := 0, locals := 0 })
def m_M_readArguments : MR := (⟨"PlanDeskModel", "readArguments", "(ZZ)Z"⟩, prog_11_method_25_code, 5, some .boolean, { frames := 4, cells := 0, slots := 0, locals := 83 })
def m_M_relation : MR := (⟨"PlanDeskModel", "relation", "()I"⟩, prog_11_method_26_code, 2, some .int, { frames := 0, cells := 0, slots := 0, locals := 0 })
def m_M_lay : MR := (⟨"PlanDeskModel", "lay", "(II)V"⟩, prog_11_method_27_code, 3, none, { frames := 0, cells := 0, slots := 0, locals := 0 })
def m_M_readLiteral : MR := (⟨"PlanDeskModel", "readLiteral", "()Z"⟩, prog_11_method_28_code, 6, some .boolean, { frames := 5, cells := 0, slots := 0, locals := 107 })
def m_M_readBody : MR := (⟨"PlanDeskModel", "readBody", "()Z"⟩, prog_11_method_29_code, 1, some .boolean, { frames := 6, cells := 0, slots := 0, locals := 132 })
def m_M_isBound : MR := (⟨"PlanDeskModel", "isBound", "(II)Z"⟩, prog_11_method_30_code, 3, some .boolean, { frames := 0, cells := 0, slots := 0, locals := 0 })
def m_M_bind : MR := (⟨"PlanDeskModel", "bind", "(II)V"⟩, prog_11_method_31_code, 3, none, { frames := 0, cells := 0, slots := 0, locals := 0 })
def m_M_lookBound : MR := (⟨"PlanDeskModel", "lookBound", "()V"⟩, prog_11_method_32_code, 5, none, { frames := 1, cells := 0, slots := 0, locals := 22 })
def m_M_predicateSizeOf : MR := (⟨"PlanDeskModel", "predicateSizeOf", "(I)I"⟩, prog_11_method_33_code, 2, some .int, { frames := 0, cells := 0, slots := 0, locals := 0 })
def m_M_beginClause : MR := (⟨"PlanDeskModel", "beginClause", "(I)V"⟩, prog_11_method_34_code, 2, none, { frames := 0, cells := 0, slots := 0, locals := 0 })
def m_M_layHead : MR := (⟨"PlanDeskModel", "layHead", "()V"⟩, prog_11_method_35_code, 2, none, { frames := 0, cells := 0, slots := 0, locals := 0 })
def m_M_findFact : MR := (⟨"PlanDeskModel", "findFact", "()I"⟩, prog_11_method_36_code, 4, some .int, { frames := 0, cells := 0, slots := 0, locals := 0 })
def m_M_addFact : MR := (⟨"PlanDeskModel", "addFact", "()V"⟩, prog_11_method_37_code, 3, none, { frames := 0, cells := 0, slots := 0, locals := 0 })
def m_M_readClause : MR := (⟨"PlanDeskModel", "readClause", "()Z"⟩, prog_11_method_38_code, 2, some .boolean, { frames := 7, cells := 0, slots := 0, locals := 152 })
def m_M_isAtom : MR := (⟨"PlanDeskModel", "isAtom", "(I)Z"⟩, prog_11_method_39_code, 2, some .boolean, { frames := 0, cells := 0, slots := 0, locals := 0 })
def m_M_lookHangs : MR := (⟨"PlanDeskModel", "lookHangs", "()V"⟩, prog_11_method_40_code, 4, none, { frames := 1, cells := 0, slots := 0, locals := 21 })
def m_M_isBack : MR := (⟨"PlanDeskModel", "isBack", "(II)Z"⟩, prog_11_method_41_code, 3, some .boolean, { frames := 0, cells := 0, slots := 0, locals := 0 })
def m_M_lookAbsence : MR := (⟨"PlanDeskModel", "lookAbsence", "()V"⟩, prog_11_method_42_code, 3, none, { frames := 2, cells := 0, slots := 0, locals := 44 })
def m_M_lookStrata : MR := (⟨"PlanDeskModel", "lookStrata", "()V"⟩, prog_11_method_43_code, 6, none, { frames := 1, cells := 0, slots := 0, locals := 21 })
def m_M_program : MR := (⟨"PlanDeskModel", "program", "()I"⟩, prog_11_method_44_code, 2, some .int, { frames := 8, cells := 0, slots := 0, locals := 173 })
def m_M_fault : MR := (⟨"PlanDeskModel", "fault", "(I)I"⟩, prog_11_method_45_code, 2, some .int, { frames := 0, cells := 0, slots := 0, locals := 0 })
def m_M_isKnownTerm : MR := (⟨"PlanDeskModel", "isKnownTerm", "(II)Z"⟩, prog_11_method_46_code, 3, some .boolean, { frames := 0, cells := 0, slots := 0, locals := 0 })
def m_M_knownIn : MR := (⟨"PlanDeskModel", "knownIn", "(I)I"⟩, prog_11_method_47_code, 4, some .int, { frames := 1, cells := 0, slots := 0, locals := 22 })
def m_M_many : MR := (⟨"PlanDeskModel", "many", "(I)I"⟩, prog_11_method_48_code, 3, some .int, { frames := 0, cells := 0, slots := 0, locals := 0 })
def m_M_canAsk : MR := (⟨"PlanDeskModel", "canAsk", "(I)Z"⟩, prog_11_method_49_code, 3, some .boolean, { frames := 1, cells := 0, slots := 0, locals := 22 })
def m_M_nextLiteral : MR := (⟨"PlanDeskModel", "nextLiteral", "(I)I"⟩, prog_11_method_50_code, 4, some .int, { frames := 2, cells := 0, slots := 0, locals := 45 })
def m_M_plan : MR := (⟨"PlanDeskModel", "plan", "(I)V"⟩, prog_11_method_51_code, 8, none, { frames := 3, cells := 0, slots := 0, locals := 68 })
def m_M_predicates : MR := (⟨"PlanDeskModel", "predicates", "()I"⟩, prog_11_method_52_code, 1, some .int, { frames := 0, cells := 0, slots := 0, locals := 0 })
def m_M_letters : MR := (⟨"PlanDeskModel", "letters", "(J)I"⟩, prog_11_method_53_code, 5, some .int, { frames := 0, cells := 0, slots := 0, locals := 0 })
def m_M_predicate : MR := (⟨"PlanDeskModel", "predicate", "(II)I"⟩, prog_11_method_54_code, 8, some .int, { frames := 1, cells := 0, slots := 0, locals := 24 })
def m_M_hangs : MR := (⟨"PlanDeskModel", "hangs", "(II)Z"⟩, prog_11_method_55_code, 3, some .boolean, { frames := 0, cells := 0, slots := 0, locals := 0 })
def m_M_rule : MR := (⟨"PlanDeskModel", "rule", "(II)I"⟩, prog_11_method_56_code, 6, some .int, { frames := 1, cells := 0, slots := 0, locals := 22 })
def m_M_literal : MR := (⟨"PlanDeskModel", "literal", "(III)I"⟩, prog_11_method_57_code, 5, some .int, { frames := 4, cells := 0, slots := 0, locals := 95 })
def m_L_program : MR := (⟨"PlanDeskLaw", "program", "(LPlanDesk;[J)I"⟩, method_3_code, 3, some .int, { frames := 10, cells := 0, slots := 0, locals := 343 })
def m_L_rule : MR := (⟨"PlanDeskLaw", "rule", "(LPlanDesk;II[J)I"⟩, method_4_code, 5, some .int, { frames := 10, cells := 0, slots := 0, locals := 344 })
def m_L_literal : MR := (⟨"PlanDeskLaw", "literal", "(LPlanDesk;III[J)I"⟩, method_5_code, 6, some .int, { frames := 10, cells := 0, slots := 0, locals := 347 })
def m_L_law : MR := (⟨"PlanDeskLaw", "law", "([I)Z"⟩, code, 7, some .boolean, room_1)
def m_JI_bitCount : MR := (⟨"java/lang/Integer", "bitCount", "(I)I"⟩, prog_14_method_49_code, 1, some .int, { frames := 0, cells := 0, slots := 0, locals := 0 })
def m_JM_max : MR := (⟨"java/lang/Math", "max", "(II)I"⟩, prog_15_method_65_code, 2, some .int, { frames := 0, cells := 0, slots := 0, locals := 0 })
def m_JM_min : MR := (⟨"java/lang/Math", "min", "(II)I"⟩, prog_15_method_69_code, 2, some .int, { frames := 0, cells := 0, slots := 0, locals := 0 })
def AW : List Cond := lw_tbl.filter goodWord
theorem AW_good (w : Cond) (h : w ∈ AW) : (w.onTables && w.keeps) = true ∨ ∃ ty, w = .arrayClass ty := good_of_word (List.mem_filter.mp h).2
theorem AW_tbl {w : Cond} (h : w ∈ AW) : w ∈ lw_tbl := (List.mem_filter.mp h).1
theorem aw1 {w : Cond} {i : Nat} (h : tables_1_1[i]? = some w) (hg : goodWord w = true) : w ∈ AW := List.mem_filter.mpr ⟨List.mem_append_right _ (List.mem_append_left _ (List.mem_of_getElem? h)), hg⟩
theorem aw2 {w : Cond} {i : Nat} (h : tables_1_2[i]? = some w) (hg : goodWord w = true) : w ∈ AW := List.mem_filter.mpr ⟨List.mem_append_right _ (List.mem_append_right _ (List.mem_append_left _ (List.mem_of_getElem? h))), hg⟩
theorem aw3 {w : Cond} {i : Nat} (h : tables_1_3[i]? = some w) (hg : goodWord w = true) : w ∈ AW := List.mem_filter.mpr ⟨List.mem_append_right _ (List.mem_append_right _ (List.mem_append_right _ (List.mem_append_left _ (List.mem_of_getElem? h)))), hg⟩
theorem aw4 {w : Cond} {i : Nat} (h : tables_1_4[i]? = some w) (hg : goodWord w = true) : w ∈ AW := List.mem_filter.mpr ⟨List.mem_append_right _ (List.mem_append_right _ (List.mem_append_right _ (List.mem_append_right _ (List.mem_append_left _ (List.mem_of_getElem? h))))), hg⟩
theorem aw5 {w : Cond} {i : Nat} (h : tables_1_5[i]? = some w) (hg : goodWord w = true) : w ∈ AW := List.mem_filter.mpr ⟨List.mem_append_right _ (List.mem_append_right _ (List.mem_append_right _ (List.mem_append_right _ (List.mem_append_right _ (List.mem_append_left _ (List.mem_of_getElem? h)))))), hg⟩
theorem aw6 {w : Cond} {i : Nat} (h : tables_1_6[i]? = some w) (hg : goodWord w = true) : w ∈ AW := List.mem_filter.mpr ⟨List.mem_append_right _ (List.mem_append_right _ (List.mem_append_right _ (List.mem_append_right _ (List.mem_append_right _ (List.mem_append_right _ (List.mem_of_getElem? h)))))), hg⟩
theorem awp1 {y : MethodName} {n i : Nat} (h : lw_privs_1[i]? = some (y, n)) : Cond.selects y.cls y y ∈ AW := List.mem_filter.mpr ⟨List.mem_append_left _ (List.mem_map_of_mem (f := fun q : MethodName × Nat => Cond.selects q.1.cls q.1 q.1) (List.mem_append_left _ (List.mem_of_getElem? h))), rfl⟩
theorem awp2 {y : MethodName} {n i : Nat} (h : lw_privs_2[i]? = some (y, n)) : Cond.selects y.cls y y ∈ AW := List.mem_filter.mpr ⟨List.mem_append_left _ (List.mem_map_of_mem (f := fun q : MethodName × Nat => Cond.selects q.1.cls q.1 q.1) (List.mem_append_right _ (List.mem_append_left _ (List.mem_of_getElem? h)))), rfl⟩
theorem awp3 {y : MethodName} {n i : Nat} (h : lw_privs_3[i]? = some (y, n)) : Cond.selects y.cls y y ∈ AW := List.mem_filter.mpr ⟨List.mem_append_left _ (List.mem_map_of_mem (f := fun q : MethodName × Nat => Cond.selects q.1.cls q.1 q.1) (List.mem_append_right _ (List.mem_append_right _ (List.mem_append_left _ (List.mem_of_getElem? h))))), rfl⟩
theorem awp4 {y : MethodName} {n i : Nat} (h : lw_privs_4[i]? = some (y, n)) : Cond.selects y.cls y y ∈ AW := List.mem_filter.mpr ⟨List.mem_append_left _ (List.mem_map_of_mem (f := fun q : MethodName × Nat => Cond.selects q.1.cls q.1 q.1) (List.mem_append_right _ (List.mem_append_right _ (List.mem_append_right _ (List.mem_append_left _ (List.mem_of_getElem? h)))))), rfl⟩
theorem awp5 {y : MethodName} {n i : Nat} (h : lw_privs_5[i]? = some (y, n)) : Cond.selects y.cls y y ∈ AW := List.mem_filter.mpr ⟨List.mem_append_left _ (List.mem_map_of_mem (f := fun q : MethodName × Nat => Cond.selects q.1.cls q.1 q.1) (List.mem_append_right _ (List.mem_append_right _ (List.mem_append_right _ (List.mem_append_right _ (List.mem_of_getElem? h)))))), rfl⟩
end
section
/-! THE ABSTRACT WORLD: ints and longs are mathematical integers in the machine's range, objects and arrays are numbered from 1 on (address: base + number). -/
abbrev AV : Type := Int ⊕ (Int ⊕ Nat)
abbrev vi (x : Int) : AV := .inl x
abbrev vl (x : Int) : AV := .inr (.inl x)
abbrev vr (q : Nat) : AV := .inr (.inr q)
/-- ghosts: class ids and slot numbers; ids of the array classes; base; addresses of what isn't numbered -/
abbrev Gh : Type := va_G × (Nat → ClassId) × Nat × (Nat → Nat)
abbrev gD (G : Gh) : va_G := G.1
abbrev gC (G : Gh) : Nat → ClassId := G.2.1
abbrev gB (G : Gh) : Nat := G.2.2.1
abbrev gA (G : Gh) : Nat → Nat := G.2.2.2
/-- a world: how many cells, their shapes ((0, class) or (kind of array, length)), ints, longs, references -/
abbrev Wo : Type := Nat × (Nat → Nat × Nat) × (Nat → Nat → Int) × (Nat → Nat → Int) × (Nat → Nat → Nat)
def wn (w : Wo) : Nat := w.1
def wsh (w : Wo) (q : Nat) : Nat × Nat := w.2.1 q
def gI (w : Wo) (o k : Nat) : Int := w.2.2.1 o k
def gJ (w : Wo) (o k : Nat) : Int := w.2.2.2.1 o k
def gP (w : Wo) (o k : Nat) : Nat := w.2.2.2.2 o k
def up2 {α : Type} (f : Nat → Nat → α) (o k : Nat) (v : α) : Nat → Nat → α := fun b j => if b = o ∧ j = k then v else f b j
def uI (w : Wo) (o k : Nat) (v : Int) : Wo := (w.1, w.2.1, up2 w.2.2.1 o k v, w.2.2.2.1, w.2.2.2.2)
def uJ (w : Wo) (o k : Nat) (v : Int) : Wo := (w.1, w.2.1, w.2.2.1, up2 w.2.2.2.1 o k v, w.2.2.2.2)
def uP (w : Wo) (o k : Nat) (v : Nat) : Wo := (w.1, w.2.1, w.2.2.1, w.2.2.2.1, up2 w.2.2.2.2 o k v)
def zr2 {α : Type} (f : Nat → Nat → α) (z : α) (o : Nat) : Nat → Nat → α := fun b j => if b = o then z else f b j
/-- one new cell of this shape, its contents 0 -/
def nw (w : Wo) (sh : Nat × Nat) : Wo := (w.1 + 1, (fun q => if q = w.1 + 1 then sh else w.2.1 q), zr2 w.2.2.1 0 (w.1 + 1), zr2 w.2.2.2.1 0 (w.1 + 1), zr2 w.2.2.2.2 0 (w.1 + 1))
theorem gI_uI (w : Wo) (o k b j : Nat) (v : Int) : gI (uI w o k v) b j = if b = o ∧ j = k then v else gI w b j := rfl
theorem gI_uJ (w : Wo) (o k b j : Nat) (v : Int) : gI (uJ w o k v) b j = gI w b j := rfl
theorem gI_uP (w : Wo) (o k b j : Nat) (v : Nat) : gI (uP w o k v) b j = gI w b j := rfl
theorem gJ_uI (w : Wo) (o k b j : Nat) (v : Int) : gJ (uI w o k v) b j = gJ w b j := rfl
theorem gJ_uJ (w : Wo) (o k b j : Nat) (v : Int) : gJ (uJ w o k v) b j = if b = o ∧ j = k then v else gJ w b j := rfl
theorem gJ_uP (w : Wo) (o k b j : Nat) (v : Nat) : gJ (uP w o k v) b j = gJ w b j := rfl
theorem gP_uI (w : Wo) (o k b j : Nat) (v : Int) : gP (uI w o k v) b j = gP w b j := rfl
theorem gP_uJ (w : Wo) (o k b j : Nat) (v : Int) : gP (uJ w o k v) b j = gP w b j := rfl
theorem gP_uP (w : Wo) (o k b j : Nat) (v : Nat) : gP (uP w o k v) b j = if b = o ∧ j = k then v else gP w b j := rfl
abbrev inr32 (x : Int) : Prop := -2147483648 ≤ x ∧ x < 2147483648
abbrev inr64 (x : Int) : Prop := -9223372036854775808 ≤ x ∧ x < 9223372036854775808
def InS (w : Wo) : Prop := (∀ o k, inr32 (gI w o k)) ∧ ∀ o k, inr64 (gJ w o k)
theorem InS.uI {w : Wo} (h : InS w) {o k : Nat} {v : Int} (hv : inr32 v) : InS (uI w o k v) := by
  refine ⟨fun b j => ?_, h.2⟩
  rw [gI_uI]
  split
  · exact hv
  · exact h.1 b j
theorem InS.uJ {w : Wo} (h : InS w) {o k : Nat} {v : Int} (hv : inr64 v) : InS (uJ w o k v) := by
  refine ⟨h.1, fun b j => ?_⟩
  rw [gJ_uJ]
  split
  · exact hv
  · exact h.2 b j
theorem InS.nw {w : Wo} (h : InS w) (sh : Nat × Nat) : InS (nw w sh) := by
  refine ⟨fun b j => ?_, fun b j => ?_⟩
  · show inr32 (zr2 w.2.2.1 0 (w.1 + 1) b j)
    unfold zr2
    split
    · decide
    · exact h.1 b j
  · show inr64 (zr2 w.2.2.2.1 0 (w.1 + 1) b j)
    unfold zr2
    split
    · decide
    · exact h.2 b j
/-- cell q has this shape -/
def oq (w : Wo) (q : Nat) (sh : Nat × Nat) : Prop := 0 < q ∧ q ≤ wn w ∧ wsh w q = sh
/-- cell a is an array of kind t, i is one of its places -/
def inA (w : Wo) (a t : Nat) (i : Int) : Prop := 0 < a ∧ a ≤ wn w ∧ (wsh w a).1 = t ∧ 0 ≤ i ∧ i < (wsh w a).2 ∧ (wsh w a).2 < 2147483648
def okv : AV → Prop
  | .inl x => inr32 x
  | .inr (.inl x) => inr64 x
  | .inr (.inr _) => True
def cr (G : Gh) (q : Nat) : Option Nat := if q = 0 then none else if q ≤ 1000 then some (gB G + q) else some (gA G q)
def cv (G : Gh) : AV → Value
  | .inl x => .int (Int32.ofInt x)
  | .inr (.inl x) => .long (Int64.ofInt x)
  | .inr (.inr q) => va_rf (cr G q)
theorem cr_pos {G : Gh} {q : Nat} (h : 0 < q) (h2 : q ≤ 1000) : cr G q = some (gB G + q) := by
  unfold cr
  rw [if_neg (by omega), if_pos h2]
theorem cv_ref {G : Gh} {q : Nat} (h : 0 < q) (h2 : q ≤ 1000) : cv G (vr q) = .ref (gB G + q) := by
  show va_rf (cr G q) = _
  rw [cr_pos h h2]
  rfl
/-- a field's value as the cell holds it -/
def fv (G : Gh) (w : Wo) (q k : Nat) : Nat → Value
  | 2 => .long (Int64.ofInt (gJ w q k))
  | 5 => va_rf (cr G (gP w q k))
  | _ => .int (Int32.ofInt (gI w q k))
def fsL (G : Gh) (w : Wo) (q : Nat) (ty : Nat → Nat) (n : Nat) : List Value := (List.range n).map (fun k => fv G w q k (ty k))
theorem fsL_get {G : Gh} {w : Wo} {q : Nat} {ty : Nat → Nat} {n k : Nat} (h : k < n) : (fsL G w q ty n)[k]? = some (fv G w q k (ty k)) := by
  simp [fsL, h]
theorem fsL_len {G : Gh} {w : Wo} {q : Nat} {ty : Nat → Nat} {n : Nat} : (fsL G w q ty n).length = n := by simp [fsL]
def cE (G : Gh) (w : Wo) (q : Nat) : va_E := match (wsh w q).1 with
  | 0 => .inr ((wsh w q).2, fsL G w q (fty (wsh w q).2) (nf (wsh w q).2))
  | 2 => .inl (gC G 2, (wsh w q).2, .inr (.inl (fun j => Int64.ofInt (gJ w q j))))
  | 5 => .inl (gC G 5, (wsh w q).2, .inr (.inr (.inr (.inr (fun j => cr G (gP w q j))))))
  | t => .inl (gC G t, (wsh w q).2, .inl (fun j => Int32.ofInt (gI w q j)))
def wL (G : Gh) (w : Wo) : va_W := (List.range (wn w)).map (fun i => (gB G + (i + 1), cE G w (i + 1)))
theorem wL_get {G : Gh} {w : Wo} {q : Nat} (h : 0 < q) (h2 : q ≤ wn w) : (wL G w)[q - 1]? = some (gB G + q, cE G w q) := by
  have h3 : q - 1 < wn w := by omega
  have h4 : q - 1 + 1 = q := by omega
  simp [wL, h3, h4]
theorem wL_at {G : Gh} {w : Wo} {k : Nat} {x : Nat × va_E} (h : (wL G w)[k]? = some x) : k < wn w ∧ x = (gB G + (k + 1), cE G w (k + 1)) := by
  have hk : k < wn w := by
    have := (List.getElem?_eq_some_iff.mp h).1
    simpa [wL] using this
  refine ⟨hk, ?_⟩
  simp [wL, hk] at h
  exact h.symm
theorem wL_len (G : Gh) (w : Wo) : (wL G w).length = wn w := by simp [wL]
/-- what a method may change -/
def fr (B n sz : Nat) : Nat → Prop := fun q => (B < q ∧ q ≤ B + n) ∨ sz ≤ q
theorem wL_D {G : Gh} {w : Wo} {n0 sz : Nat} (h : wn w ≤ n0 ∨ sz ≤ gB G + n0 + 1) : va_D (fr (gB G) n0 sz) (wL G w) := by
  refine ⟨fun i j x y hx hy e => ?_, fun k x hx => ?_⟩
  · obtain ⟨-, rfl⟩ := wL_at hx
    obtain ⟨-, rfl⟩ := wL_at hy
    have e : gB G + (i + 1) = gB G + (j + 1) := e
    omega
  · obtain ⟨hk, rfl⟩ := wL_at hx
    show (_ ∧ _) ∨ _
    show (gB G < gB G + (k + 1) ∧ gB G + (k + 1) ≤ gB G + n0) ∨ sz ≤ gB G + (k + 1)
    omega
theorem cE_congr {G : Gh} {w w' : Wo} {q : Nat} (hs : wsh w' q = wsh w q) (hI : ∀ j, gI w' q j = gI w q j) (hJ : ∀ j, gJ w' q j = gJ w q j) (hP : ∀ j, gP w' q j = gP w q j) : cE G w' q = cE G w q := by
  have hf : ∀ (ty : Nat → Nat) (n : Nat), fsL G w' q ty n = fsL G w q ty n := by
    intro ty n
    unfold fsL
    refine List.map_congr_left (fun k _ => ?_)
    unfold fv
    split
    · rw [hJ]
    · rw [hP]
    · rw [hI]
  unfold cE
  rw [hs]
  split
  · rw [hf]
  · simp only [hJ]
  · simp only [hP]
  · simp only [hI]
/-- a list that is the world's but at one cell is the changed world's -/
theorem wL_set {G : Gh} {w w' : Wo} {q : Nat} {e : va_E} (h : 0 < q) (hn : wn w' = wn w) (he : cE G w' q = e) (ho : ∀ b, b ≠ q → cE G w' b = cE G w b) : (wL G w).set (q - 1) (gB G + q, e) = wL G w' := by
  apply List.ext_getElem?
  intro i
  rw [List.getElem?_set]
  by_cases hi : q - 1 = i
  · subst hi
    rw [if_pos rfl]
    by_cases hl : q ≤ wn w
    · rw [if_pos (by rw [wL_len]; omega), wL_get h (by rw [hn]; exact hl), he]
    · rw [if_neg (by rw [wL_len]; omega)]
      symm
      rw [List.getElem?_eq_none_iff, wL_len]
      omega
  · rw [if_neg hi]
    by_cases hl : i < wn w
    · have h1 := wL_get (G := G) (w := w) (q := i + 1) (by omega) (by omega)
      have h2 := wL_get (G := G) (w := w') (q := i + 1) (by omega) (by omega)
      rw [Nat.add_sub_cancel] at h1 h2
      rw [h1, h2, ho (i + 1) (by omega)]
    · rw [List.getElem?_eq_none (by rw [wL_len]; omega), List.getElem?_eq_none (by rw [wL_len, hn]; omega)]
theorem fsL_set {G : Gh} {w w' : Wo} {q : Nat} {ty : Nat → Nat} {n k : Nat} {v : Value} (hk : k < n) (hv : fv G w' q k (ty k) = v) (ho : ∀ j, j ≠ k → fv G w' q j (ty j) = fv G w q j (ty j)) : (fsL G w q ty n).set k v = fsL G w' q ty n := by
  apply List.ext_getElem?
  intro i
  rw [List.getElem?_set]
  by_cases hi : k = i
  · subst hi
    rw [if_pos rfl, if_pos (by rw [fsL_len]; exact hk), fsL_get hk, hv]
  · rw [if_neg hi]
    by_cases hl : i < n
    · rw [fsL_get hl, fsL_get hl, ho i (fun e => hi e.symm)]
    · rw [List.getElem?_eq_none (by rw [fsL_len]; omega), List.getElem?_eq_none (by rw [fsL_len]; omega)]
end
section
/-! THE LAYOUT (by program): what the constructors lay down -/
def NN : Nat := 117
def SHL : List (Nat × Nat) := [(9, 0), (0, 8), (0, 6), (3, 600), (0, 4), (0, 7), (1, 601), (1, 601), (2, 601), (0, 1), (0, 3), (2, 4), (1, 4), (5, 6), (2, 8), (1, 8), (1, 6), (1, 6), (1, 6), (0, 3), (2, 4), (1, 4), (0, 3), (2, 4), (1, 4), (0, 3), (2, 4), (1, 4), (0, 3), (2, 4), (1, 4), (0, 3), (2, 4), (1, 4), (0, 3), (2, 4), (1, 4), (0, 2), (1, 120), (2, 480), (0, 0), (0, 5), (1, 30), (1, 30), (1, 30), (1, 30), (1, 30), (1, 180), (1, 180), (1, 180), (1, 180), (1, 180), (1, 180), (2, 16), (1, 16), (1, 16), (1, 16), (1, 16), (1, 16), (0, 0), (0, 5), (1, 30), (1, 30), (1, 30), (1, 30), (1, 30), (1, 180), (1, 180), (1, 180), (1, 180), (1, 180), (1, 180), (2, 16), (1, 16), (1, 16), (1, 16), (1, 16), (1, 16), (0, 9), (1, 600), (1, 602), (1, 602), (1, 602), (2, 602), (1, 2), (2, 32), (1, 32), (1, 32), (1, 2), (1, 61), (1, 244), (2, 244), (1, 61), (1, 61), (1, 61), (1, 61), (1, 366), (1, 366), (1, 1464), (2, 1464), (1, 2), (1, 400), (2, 1600), (2, 9), (1, 9), (4, 9), (1, 4), (2, 4), (1, 366), (1, 366), (1, 61), (4, 256), (1, 6), (1, 6), (1, 6), (4, 9), (4, 6), (2, 1)]
def SHf (q : Nat) : Nat × Nat := SHL.getD q (9, 0)
def LYT : List (Nat × Nat × Nat) := [(1, 0, 2), (1, 1, 4), (2, 0, 3), (4, 0, 5), (4, 1, 9), (4, 2, 37), (5, 0, 6), (5, 1, 7), (5, 2, 8), (9, 0, 10), (9, 1, 13), (9, 7, 14), (9, 8, 15), (9, 9, 16), (9, 10, 17), (9, 11, 18), (10, 5, 11), (10, 6, 12), (13, 0, 19), (13, 1, 22), (13, 2, 25), (13, 3, 28), (13, 4, 31), (13, 5, 34), (19, 5, 20), (19, 6, 21), (22, 5, 23), (22, 6, 24), (25, 5, 26), (25, 6, 27), (28, 5, 29), (28, 6, 30), (31, 5, 32), (31, 6, 33), (34, 5, 35), (34, 6, 36), (37, 0, 38), (37, 1, 39), (40, 0, 41), (40, 2, 53), (40, 3, 54), (40, 4, 55), (40, 5, 56), (40, 6, 57), (40, 7, 58), (41, 1, 42), (41, 2, 43), (41, 3, 44), (41, 4, 45), (41, 5, 46), (41, 6, 47), (41, 7, 48), (41, 8, 49), (41, 9, 50), (41, 10, 51), (41, 11, 52), (59, 0, 60), (59, 2, 72), (59, 3, 73), (59, 4, 74), (59, 5, 75), (59, 6, 76), (59, 7, 77), (60, 1, 61), (60, 2, 62), (60, 3, 63), (60, 4, 64), (60, 5, 65), (60, 6, 66), (60, 7, 67), (60, 8, 68), (60, 9, 69), (60, 10, 70), (60, 11, 71), (78, 1, 79), (78, 6, 80), (78, 7, 81), (78, 8, 82), (78, 9, 83), (78, 12, 84), (78, 13, 85), (78, 14, 86), (78, 15, 87), (78, 16, 88), (78, 17, 89), (78, 18, 90), (78, 19, 91), (78, 20, 92), (78, 21, 93), (78, 22, 94), (78, 23, 95), (78, 24, 96), (78, 25, 97), (78, 26, 98), (78, 27, 99), (78, 28, 100), (78, 29, 101), (78, 30, 102), (78, 32, 103), (78, 33, 104), (78, 34, 105), (78, 39, 106), (78, 40, 107), (78, 47, 108), (78, 48, 109), (78, 49, 110), (78, 50, 111), (78, 51, 112), (78, 52, 113), (78, 53, 114), (78, 54, 115), (78, 55, 116)]
def isLt (r : Nat) : Prop := r = 10 ∨ r = 19 ∨ r = 22 ∨ r = 25 ∨ r = 28 ∨ r = 31 ∨ r = 34
def isBk (r : Nat) : Prop := r = 40 ∨ r = 59
def isRl (r : Nat) : Prop := r = 41 ∨ r = 60
def LY (w : Wo) : Prop := wn w = NN ∧ (∀ q, wsh w q = SHf q) ∧ (∀ e ∈ LYT, gP w e.1 e.2.1 = e.2.2) ∧ isBk (gP w 1 2) ∧ isBk (gP w 1 3)
theorem SHf_lt (q : Nat) : (SHf q).2 < 2147483648 := by
  have h : ∀ x ∈ SHL, x.2 < 2147483648 := by decide +kernel
  unfold SHf
  rw [List.getD_eq_getElem?_getD]
  cases hq : SHL[q]? with
  | none => decide
  | some x => exact h x (List.mem_of_getElem? hq)
theorem ly_o {w : Wo} (h : LY w) {q : Nat} {sh : Nat × Nat} (hb : 0 < q ∧ q ≤ NN ∧ SHf q = sh) : oq w q sh := ⟨hb.1, by rw [h.1]; exact hb.2.1, (h.2.1 q).trans hb.2.2⟩
theorem ly_a {w : Wo} (h : LY w) {a t n : Nat} (hb : 0 < a ∧ a ≤ NN ∧ SHf a = (t, n)) {i N : Int} (hi : 0 ≤ i ∧ i < N) (hN : N ≤ (n : Int) := by decide) : inA w a t i := by
  have e := h.2.1 a
  have hl := SHf_lt a
  rw [← e] at hl
  refine ⟨hb.1, by rw [h.1]; exact hb.2.1, by rw [e, hb.2.2], hi.1, ?_, hl⟩
  rw [e, hb.2.2]
  exact Int.lt_of_lt_of_le hi.2 hN
theorem ly_r {w : Wo} (h : LY w) {q j v : Nat} (hm : (q, j, v) ∈ LYT) : gP w q j = v := h.2.2.1 _ hm
theorem ly_book {w : Wo} (h : LY w) : isBk (gP w 1 2) := h.2.2.2.1
theorem ly_draft {w : Wo} (h : LY w) : isBk (gP w 1 3) := h.2.2.2.2
theorem gP_uPn {w : Wo} {o k b j : Nat} {v : Nat} (h : ¬ (b = o ∧ j = k)) : gP (uP w o k v) b j = gP w b j := if_neg h
theorem ly_pbook {w : Wo} {v : Nat} (h : LY w) (hv : isBk v) : LY (uP w 1 2 v) := by
  have hn : ∀ e ∈ LYT, ¬ (e.1 = 1 ∧ e.2.1 = 2) := by decide +kernel
  refine ⟨h.1, h.2.1, fun e he => by rw [gP_uPn (hn e he)]; exact h.2.2.1 e he, ?_, ?_⟩
  · show isBk (up2 w.2.2.2.2 1 2 v 1 2)
    rw [show up2 w.2.2.2.2 1 2 v 1 2 = v from if_pos ⟨rfl, rfl⟩]
    exact hv
  · rw [gP_uPn (by decide)]
    exact ly_draft h
theorem ly_pdraft {w : Wo} {v : Nat} (h : LY w) (hv : isBk v) : LY (uP w 1 3 v) := by
  have hn : ∀ e ∈ LYT, ¬ (e.1 = 1 ∧ e.2.1 = 3) := by decide +kernel
  refine ⟨h.1, h.2.1, fun e he => by rw [gP_uPn (hn e he)]; exact h.2.2.1 e he, ?_, ?_⟩
  · rw [gP_uPn (by decide)]
    exact ly_book h
  · show isBk (up2 w.2.2.2.2 1 3 v 1 3)
    rw [show up2 w.2.2.2.2 1 3 v 1 3 = v from if_pos ⟨rfl, rfl⟩]
    exact hv
theorem ly_ptarget {w : Wo} {v : Nat} {p : Prop} (h : LY w) (_ : p) : LY (uP w 4 3 v) := by
  have hn : ∀ e ∈ LYT, ¬ (e.1 = 4 ∧ e.2.1 = 3) := by decide +kernel
  exact ⟨h.1, h.2.1, fun e he => by rw [gP_uPn (hn e he)]; exact h.2.2.1 e he, by rw [gP_uPn (by decide)]; exact ly_book h, by rw [gP_uPn (by decide)]; exact ly_draft h⟩
theorem lt_o {r : Nat} (h : isLt r) : 0 < r ∧ r ≤ NN ∧ SHf r = (0, 3) := by
  rcases h with rfl | rfl | rfl | rfl | rfl | rfl | rfl <;> decide
theorem lt_r5 {w : Wo} {r : Nat} (hl : LY w) (h : isLt r) : gP w r 5 = r + 1 := by
  rcases h with rfl | rfl | rfl | rfl | rfl | rfl | rfl <;> exact ly_r hl (by decide +kernel)
theorem lt_a5 {r : Nat} (h : isLt r) : 0 < r + 1 ∧ r + 1 ≤ NN ∧ SHf (r + 1) = (2, 4) := by
  rcases h with rfl | rfl | rfl | rfl | rfl | rfl | rfl <;> decide
theorem lt_r6 {w : Wo} {r : Nat} (hl : LY w) (h : isLt r) : gP w r 6 = r + 2 := by
  rcases h with rfl | rfl | rfl | rfl | rfl | rfl | rfl <;> exact ly_r hl (by decide +kernel)
theorem lt_a6 {r : Nat} (h : isLt r) : 0 < r + 2 ∧ r + 2 ≤ NN ∧ SHf (r + 2) = (1, 4) := by
  rcases h with rfl | rfl | rfl | rfl | rfl | rfl | rfl <;> decide
theorem bk_o {r : Nat} (h : isBk r) : 0 < r ∧ r ≤ NN ∧ SHf r = (0, 0) := by
  rcases h with rfl | rfl <;> decide
theorem bk_r0 {w : Wo} {r : Nat} (hl : LY w) (h : isBk r) : gP w r 0 = r + 1 := by
  rcases h with rfl | rfl <;> exact ly_r hl (by decide +kernel)
theorem bk_m0 {r : Nat} (h : isBk r) : isRl (r + 1) := by
  rcases h with rfl | rfl <;> (unfold isRl; decide)
theorem bk_r2 {w : Wo} {r : Nat} (hl : LY w) (h : isBk r) : gP w r 2 = r + 13 := by
  rcases h with rfl | rfl <;> exact ly_r hl (by decide +kernel)
theorem bk_a2 {r : Nat} (h : isBk r) : 0 < r + 13 ∧ r + 13 ≤ NN ∧ SHf (r + 13) = (2, 16) := by
  rcases h with rfl | rfl <;> decide
theorem bk_r3 {w : Wo} {r : Nat} (hl : LY w) (h : isBk r) : gP w r 3 = r + 14 := by
  rcases h with rfl | rfl <;> exact ly_r hl (by decide +kernel)
theorem bk_a3 {r : Nat} (h : isBk r) : 0 < r + 14 ∧ r + 14 ≤ NN ∧ SHf (r + 14) = (1, 16) := by
  rcases h with rfl | rfl <;> decide
theorem bk_r4 {w : Wo} {r : Nat} (hl : LY w) (h : isBk r) : gP w r 4 = r + 15 := by
  rcases h with rfl | rfl <;> exact ly_r hl (by decide +kernel)
theorem bk_a4 {r : Nat} (h : isBk r) : 0 < r + 15 ∧ r + 15 ≤ NN ∧ SHf (r + 15) = (1, 16) := by
  rcases h with rfl | rfl <;> decide
theorem bk_r5 {w : Wo} {r : Nat} (hl : LY w) (h : isBk r) : gP w r 5 = r + 16 := by
  rcases h with rfl | rfl <;> exact ly_r hl (by decide +kernel)
theorem bk_a5 {r : Nat} (h : isBk r) : 0 < r + 16 ∧ r + 16 ≤ NN ∧ SHf (r + 16) = (1, 16) := by
  rcases h with rfl | rfl <;> decide
theorem bk_r6 {w : Wo} {r : Nat} (hl : LY w) (h : isBk r) : gP w r 6 = r + 17 := by
  rcases h with rfl | rfl <;> exact ly_r hl (by decide +kernel)
theorem bk_a6 {r : Nat} (h : isBk r) : 0 < r + 17 ∧ r + 17 ≤ NN ∧ SHf (r + 17) = (1, 16) := by
  rcases h with rfl | rfl <;> decide
theorem bk_r7 {w : Wo} {r : Nat} (hl : LY w) (h : isBk r) : gP w r 7 = r + 18 := by
  rcases h with rfl | rfl <;> exact ly_r hl (by decide +kernel)
theorem bk_a7 {r : Nat} (h : isBk r) : 0 < r + 18 ∧ r + 18 ≤ NN ∧ SHf (r + 18) = (1, 16) := by
  rcases h with rfl | rfl <;> decide
theorem rl_o {r : Nat} (h : isRl r) : 0 < r ∧ r ≤ NN ∧ SHf r = (0, 5) := by
  rcases h with rfl | rfl <;> decide
theorem rl_r1 {w : Wo} {r : Nat} (hl : LY w) (h : isRl r) : gP w r 1 = r + 1 := by
  rcases h with rfl | rfl <;> exact ly_r hl (by decide +kernel)
theorem rl_a1 {r : Nat} (h : isRl r) : 0 < r + 1 ∧ r + 1 ≤ NN ∧ SHf (r + 1) = (1, 30) := by
  rcases h with rfl | rfl <;> decide
theorem rl_r2 {w : Wo} {r : Nat} (hl : LY w) (h : isRl r) : gP w r 2 = r + 2 := by
  rcases h with rfl | rfl <;> exact ly_r hl (by decide +kernel)
theorem rl_a2 {r : Nat} (h : isRl r) : 0 < r + 2 ∧ r + 2 ≤ NN ∧ SHf (r + 2) = (1, 30) := by
  rcases h with rfl | rfl <;> decide
theorem rl_r3 {w : Wo} {r : Nat} (hl : LY w) (h : isRl r) : gP w r 3 = r + 3 := by
  rcases h with rfl | rfl <;> exact ly_r hl (by decide +kernel)
theorem rl_a3 {r : Nat} (h : isRl r) : 0 < r + 3 ∧ r + 3 ≤ NN ∧ SHf (r + 3) = (1, 30) := by
  rcases h with rfl | rfl <;> decide
theorem rl_r4 {w : Wo} {r : Nat} (hl : LY w) (h : isRl r) : gP w r 4 = r + 4 := by
  rcases h with rfl | rfl <;> exact ly_r hl (by decide +kernel)
theorem rl_a4 {r : Nat} (h : isRl r) : 0 < r + 4 ∧ r + 4 ≤ NN ∧ SHf (r + 4) = (1, 30) := by
  rcases h with rfl | rfl <;> decide
theorem rl_r5 {w : Wo} {r : Nat} (hl : LY w) (h : isRl r) : gP w r 5 = r + 5 := by
  rcases h with rfl | rfl <;> exact ly_r hl (by decide +kernel)
theorem rl_a5 {r : Nat} (h : isRl r) : 0 < r + 5 ∧ r + 5 ≤ NN ∧ SHf (r + 5) = (1, 30) := by
  rcases h with rfl | rfl <;> decide
theorem rl_r6 {w : Wo} {r : Nat} (hl : LY w) (h : isRl r) : gP w r 6 = r + 6 := by
  rcases h with rfl | rfl <;> exact ly_r hl (by decide +kernel)
theorem rl_a6 {r : Nat} (h : isRl r) : 0 < r + 6 ∧ r + 6 ≤ NN ∧ SHf (r + 6) = (1, 180) := by
  rcases h with rfl | rfl <;> decide
theorem rl_r7 {w : Wo} {r : Nat} (hl : LY w) (h : isRl r) : gP w r 7 = r + 7 := by
  rcases h with rfl | rfl <;> exact ly_r hl (by decide +kernel)
theorem rl_a7 {r : Nat} (h : isRl r) : 0 < r + 7 ∧ r + 7 ≤ NN ∧ SHf (r + 7) = (1, 180) := by
  rcases h with rfl | rfl <;> decide
theorem rl_r8 {w : Wo} {r : Nat} (hl : LY w) (h : isRl r) : gP w r 8 = r + 8 := by
  rcases h with rfl | rfl <;> exact ly_r hl (by decide +kernel)
theorem rl_a8 {r : Nat} (h : isRl r) : 0 < r + 8 ∧ r + 8 ≤ NN ∧ SHf (r + 8) = (1, 180) := by
  rcases h with rfl | rfl <;> decide
theorem rl_r9 {w : Wo} {r : Nat} (hl : LY w) (h : isRl r) : gP w r 9 = r + 9 := by
  rcases h with rfl | rfl <;> exact ly_r hl (by decide +kernel)
theorem rl_a9 {r : Nat} (h : isRl r) : 0 < r + 9 ∧ r + 9 ≤ NN ∧ SHf (r + 9) = (1, 180) := by
  rcases h with rfl | rfl <;> decide
theorem rl_r10 {w : Wo} {r : Nat} (hl : LY w) (h : isRl r) : gP w r 10 = r + 10 := by
  rcases h with rfl | rfl <;> exact ly_r hl (by decide +kernel)
theorem rl_a10 {r : Nat} (h : isRl r) : 0 < r + 10 ∧ r + 10 ≤ NN ∧ SHf (r + 10) = (1, 180) := by
  rcases h with rfl | rfl <;> decide
theorem rl_r11 {w : Wo} {r : Nat} (hl : LY w) (h : isRl r) : gP w r 11 = r + 11 := by
  rcases h with rfl | rfl <;> exact ly_r hl (by decide +kernel)
theorem rl_a11 {r : Nat} (h : isRl r) : 0 < r + 11 ∧ r + 11 ≤ NN ∧ SHf (r + 11) = (1, 180) := by
  rcases h with rfl | rfl <;> decide
theorem body_n {i : Int} (hi : 0 ≤ i ∧ i < 6) : i.toNat = 0 ∨ i.toNat = 1 ∨ i.toNat = 2 ∨ i.toNat = 3 ∨ i.toNat = 4 ∨ i.toNat = 5 := by omega
theorem body_r {w : Wo} {i : Int} (hi : 0 ≤ i ∧ i < 6) (hl : LY w) : gP w 13 i.toNat = 19 + 3 * i.toNat := by
  rcases body_n hi with h | h | h | h | h | h <;> (rw [h]; exact ly_r hl (by decide +kernel))
theorem body_m {i : Int} (hi : 0 ≤ i ∧ i < 6) : isLt (19 + 3 * i.toNat) := by
  rcases body_n hi with h | h | h | h | h | h <;> (rw [h]; unfold isLt; decide)
end
