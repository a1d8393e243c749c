section
-- ===== PART A: goes FIRST, ahead of the names: the tables' words, and 'selects' of the private methods out of them =====
/-- a private method of a class that the tables say can be made, by its rows of tables_1 -/
def lw_okq (q : MethodName × Nat) : Prop := (q.1.cls ≠ "java/lang/invoke/MethodHandle" ∧ q.1.cls ≠ "java/lang/invoke/VarHandle") ∧ Cond.instantiable q.1.cls q.2 ∈ tables_1 ∧ Cond.privateMethod q.1 ∈ tables_1 ∧ Cond.instanceMethod q.1 ∈ tables_1
theorem lw_p0 : lw_okq (⟨"PlanDesk$Tokens", "cutName", "(LPlanDesk$Tape;I)I"⟩, 4) := ⟨⟨by decide +kernel, by decide +kernel⟩, List.mem_of_getElem? (i := 54) (by decide +kernel), List.mem_of_getElem? (i := 408) (by decide +kernel), List.mem_of_getElem? (i := 409) (by decide +kernel)⟩
theorem lw_p1 : lw_okq (⟨"PlanDesk$Tokens", "add", "(IIJ)V"⟩, 4) := ⟨⟨by decide +kernel, by decide +kernel⟩, List.mem_of_getElem? (i := 54) (by decide +kernel), List.mem_of_getElem? (i := 476) (by decide +kernel), List.mem_of_getElem? (i := 477) (by decide +kernel)⟩
theorem lw_p2 : lw_okq (⟨"PlanDesk$Tokens", "cutVariable", "(LPlanDesk$Tape;I)I"⟩, 4) := ⟨⟨by decide +kernel, by decide +kernel⟩, List.mem_of_getElem? (i := 54) (by decide +kernel), List.mem_of_getElem? (i := 485) (by decide +kernel), List.mem_of_getElem? (i := 486) (by decide +kernel)⟩
theorem lw_p3 : lw_okq (⟨"PlanDesk$Tokens", "cutNumber", "(LPlanDesk$Tape;I)I"⟩, 4) := ⟨⟨by decide +kernel, by decide +kernel⟩, List.mem_of_getElem? (i := 54) (by decide +kernel), List.mem_of_getElem? (i := 489) (by decide +kernel), List.mem_of_getElem? (i := 490) (by decide +kernel)⟩
theorem lw_p4 : lw_okq (⟨"PlanDesk$Tokens", "cutSign", "(LPlanDesk$Tape;I)I"⟩, 4) := ⟨⟨by decide +kernel, by decide +kernel⟩, List.mem_of_getElem? (i := 54) (by decide +kernel), List.mem_of_getElem? (i := 499) (by decide +kernel), List.mem_of_getElem? (i := 500) (by decide +kernel)⟩
theorem lw_p5 : lw_okq (⟨"PlanDesk$Reader", "moveTo", "(I)V"⟩, 10) := ⟨⟨by decide +kernel, by decide +kernel⟩, List.mem_of_getElem? (i := 48) (by decide +kernel), List.mem_of_getElem? (i := 513) (by decide +kernel), List.mem_of_getElem? (i := 514) (by decide +kernel)⟩
theorem lw_p6 : lw_okq (⟨"PlanDesk$Reader", "readAtom", "(LPlanDesk$Literal;)Z"⟩, 10) := ⟨⟨by decide +kernel, by decide +kernel⟩, List.mem_of_getElem? (i := 48) (by decide +kernel), List.mem_of_getElem? (i := 525) (by decide +kernel), List.mem_of_getElem? (i := 526) (by decide +kernel)⟩
theorem lw_p7 : lw_okq (⟨"PlanDesk$Reader", "refuse", "(I)Z"⟩, 10) := ⟨⟨by decide +kernel, by decide +kernel⟩, List.mem_of_getElem? (i := 48) (by decide +kernel), List.mem_of_getElem? (i := 529) (by decide +kernel), List.mem_of_getElem? (i := 530) (by decide +kernel)⟩
theorem lw_p8 : lw_okq (⟨"PlanDesk$Reader", "take", "(I)Z"⟩, 10) := ⟨⟨by decide +kernel, by decide +kernel⟩, List.mem_of_getElem? (i := 48) (by decide +kernel), List.mem_of_getElem? (i := 537) (by decide +kernel), List.mem_of_getElem? (i := 538) (by decide +kernel)⟩
theorem lw_p9 : lw_okq (⟨"PlanDesk$Reader", "readTotal", "(LPlanDesk$Literal;)Z"⟩, 10) := ⟨⟨by decide +kernel, by decide +kernel⟩, List.mem_of_getElem? (i := 48) (by decide +kernel), List.mem_of_getElem? (i := 541) (by decide +kernel), List.mem_of_getElem? (i := 542) (by decide +kernel)⟩
theorem lw_p10 : lw_okq (⟨"PlanDesk$Reader", "readTerm", "(LPlanDesk$Literal;)Z"⟩, 10) := ⟨⟨by decide +kernel, by decide +kernel⟩, List.mem_of_getElem? (i := 48) (by decide +kernel), List.mem_of_getElem? (i := 545) (by decide +kernel), List.mem_of_getElem? (i := 546) (by decide +kernel)⟩
theorem lw_p11 : lw_okq (⟨"PlanDesk$Reader", "readAnything", "(LPlanDesk$Literal;)Z"⟩, 10) := ⟨⟨by decide +kernel, by decide +kernel⟩, List.mem_of_getElem? (i := 48) (by decide +kernel), List.mem_of_getElem? (i := 561) (by decide +kernel), List.mem_of_getElem? (i := 562) (by decide +kernel)⟩
theorem lw_p12 : lw_okq (⟨"PlanDesk$Reader", "note", "(II)V"⟩, 10) := ⟨⟨by decide +kernel, by decide +kernel⟩, List.mem_of_getElem? (i := 48) (by decide +kernel), List.mem_of_getElem? (i := 570) (by decide +kernel), List.mem_of_getElem? (i := 571) (by decide +kernel)⟩
theorem lw_p13 : lw_okq (⟨"PlanDesk$Reader", "readBody", "()Z"⟩, 10) := ⟨⟨by decide +kernel, by decide +kernel⟩, List.mem_of_getElem? (i := 48) (by decide +kernel), List.mem_of_getElem? (i := 574) (by decide +kernel), List.mem_of_getElem? (i := 575) (by decide +kernel)⟩
theorem lw_p14 : lw_okq (⟨"PlanDesk$Reader", "readLiteral", "(LPlanDesk$Literal;)Z"⟩, 10) := ⟨⟨by decide +kernel, by decide +kernel⟩, List.mem_of_getElem? (i := 48) (by decide +kernel), List.mem_of_getElem? (i := 578) (by decide +kernel), List.mem_of_getElem? (i := 579) (by decide +kernel)⟩
theorem lw_p15 : lw_okq (⟨"PlanDesk$Reader", "isOpenNext", "()Z"⟩, 10) := ⟨⟨by decide +kernel, by decide +kernel⟩, List.mem_of_getElem? (i := 48) (by decide +kernel), List.mem_of_getElem? (i := 583) (by decide +kernel), List.mem_of_getElem? (i := 584) (by decide +kernel)⟩
def lw_privs_1 : List (MethodName × Nat) := [(⟨"PlanDesk$Tokens", "cutName", "(LPlanDesk$Tape;I)I"⟩, 4), (⟨"PlanDesk$Tokens", "add", "(IIJ)V"⟩, 4), (⟨"PlanDesk$Tokens", "cutVariable", "(LPlanDesk$Tape;I)I"⟩, 4), (⟨"PlanDesk$Tokens", "cutNumber", "(LPlanDesk$Tape;I)I"⟩, 4), (⟨"PlanDesk$Tokens", "cutSign", "(LPlanDesk$Tape;I)I"⟩, 4), (⟨"PlanDesk$Reader", "moveTo", "(I)V"⟩, 10), (⟨"PlanDesk$Reader", "readAtom", "(LPlanDesk$Literal;)Z"⟩, 10), (⟨"PlanDesk$Reader", "refuse", "(I)Z"⟩, 10), (⟨"PlanDesk$Reader", "take", "(I)Z"⟩, 10), (⟨"PlanDesk$Reader", "readTotal", "(LPlanDesk$Literal;)Z"⟩, 10), (⟨"PlanDesk$Reader", "readTerm", "(LPlanDesk$Literal;)Z"⟩, 10), (⟨"PlanDesk$Reader", "readAnything", "(LPlanDesk$Literal;)Z"⟩, 10), (⟨"PlanDesk$Reader", "note", "(II)V"⟩, 10), (⟨"PlanDesk$Reader", "readBody", "()Z"⟩, 10), (⟨"PlanDesk$Reader", "readLiteral", "(LPlanDesk$Literal;)Z"⟩, 10), (⟨"PlanDesk$Reader", "isOpenNext", "()Z"⟩, 10)]
theorem lw_r1 : ∀ q ∈ lw_privs_1, lw_okq q := List.forall_mem_cons.mpr ⟨lw_p0, List.forall_mem_cons.mpr ⟨lw_p1, List.forall_mem_cons.mpr ⟨lw_p2, List.forall_mem_cons.mpr ⟨lw_p3, List.forall_mem_cons.mpr ⟨lw_p4, List.forall_mem_cons.mpr ⟨lw_p5, List.forall_mem_cons.mpr ⟨lw_p6, List.forall_mem_cons.mpr ⟨lw_p7, List.forall_mem_cons.mpr ⟨lw_p8, List.forall_mem_cons.mpr ⟨lw_p9, List.forall_mem_cons.mpr ⟨lw_p10, List.forall_mem_cons.mpr ⟨lw_p11, List.forall_mem_cons.mpr ⟨lw_p12, List.forall_mem_cons.mpr ⟨lw_p13, List.forall_mem_cons.mpr ⟨lw_p14, List.forall_mem_cons.mpr ⟨lw_p15, fun _ h => absurd h List.not_mem_nil⟩⟩⟩⟩⟩⟩⟩⟩⟩⟩⟩⟩⟩⟩⟩⟩
theorem lw_p16 : lw_okq (⟨"PlanDesk$Reader", "readTest", "(LPlanDesk$Literal;)Z"⟩, 10) := ⟨⟨by decide +kernel, by decide +kernel⟩, List.mem_of_getElem? (i := 48) (by decide +kernel), List.mem_of_getElem? (i := 587) (by decide +kernel), List.mem_of_getElem? (i := 588) (by decide +kernel)⟩
theorem lw_p17 : lw_okq (⟨"PlanDesk$Reader", "readOperation", "()Z"⟩, 10) := ⟨⟨by decide +kernel, by decide +kernel⟩, List.mem_of_getElem? (i := 48) (by decide +kernel), List.mem_of_getElem? (i := 591) (by decide +kernel), List.mem_of_getElem? (i := 592) (by decide +kernel)⟩
theorem lw_p18 : lw_okq (⟨"PlanDesk$Reader", "endRule", "()Z"⟩, 10) := ⟨⟨by decide +kernel, by decide +kernel⟩, List.mem_of_getElem? (i := 48) (by decide +kernel), List.mem_of_getElem? (i := 595) (by decide +kernel), List.mem_of_getElem? (i := 596) (by decide +kernel)⟩
theorem lw_p19 : lw_okq (⟨"PlanDesk$Clause", "nextAsked", "(II)I"⟩, 12) := ⟨⟨by decide +kernel, by decide +kernel⟩, List.mem_of_getElem? (i := 79) (by decide +kernel), List.mem_of_getElem? (i := 603) (by decide +kernel), List.mem_of_getElem? (i := 604) (by decide +kernel)⟩
theorem lw_p20 : lw_okq (⟨"PlanDesk$Clause", "firstWithout", "(I)I"⟩, 12) := ⟨⟨by decide +kernel, by decide +kernel⟩, List.mem_of_getElem? (i := 79) (by decide +kernel), List.mem_of_getElem? (i := 630) (by decide +kernel), List.mem_of_getElem? (i := 631) (by decide +kernel)⟩
theorem lw_p21 : lw_okq (⟨"PlanDesk$Reader", "endFact", "()Z"⟩, 10) := ⟨⟨by decide +kernel, by decide +kernel⟩, List.mem_of_getElem? (i := 48) (by decide +kernel), List.mem_of_getElem? (i := 643) (by decide +kernel), List.mem_of_getElem? (i := 644) (by decide +kernel)⟩
theorem lw_p22 : lw_okq (⟨"PlanDesk$Facts", "isSame", "(ILPlanDesk$Literal;)Z"⟩, 3) := ⟨⟨by decide +kernel, by decide +kernel⟩, List.mem_of_getElem? (i := 182) (by decide +kernel), List.mem_of_getElem? (i := 658) (by decide +kernel), List.mem_of_getElem? (i := 659) (by decide +kernel)⟩
theorem lw_p23 : lw_okq (⟨"PlanDesk$Reader", "finish", "()V"⟩, 10) := ⟨⟨by decide +kernel, by decide +kernel⟩, List.mem_of_getElem? (i := 48) (by decide +kernel), List.mem_of_getElem? (i := 669) (by decide +kernel), List.mem_of_getElem? (i := 670) (by decide +kernel)⟩
theorem lw_p24 : lw_okq (⟨"PlanDesk$Book", "leadsBack", "(II)Z"⟩, 8) := ⟨⟨by decide +kernel, by decide +kernel⟩, List.mem_of_getElem? (i := 232) (by decide +kernel), List.mem_of_getElem? (i := 686) (by decide +kernel), List.mem_of_getElem? (i := 687) (by decide +kernel)⟩
theorem lw_p25 : lw_okq (⟨"PlanDesk$Book", "liftHead", "(I)V"⟩, 8) := ⟨⟨by decide +kernel, by decide +kernel⟩, List.mem_of_getElem? (i := 232) (by decide +kernel), List.mem_of_getElem? (i := 694) (by decide +kernel), List.mem_of_getElem? (i := 695) (by decide +kernel)⟩
theorem lw_p26 : lw_okq (⟨"java/lang/Throwable", "fillInStackTrace", "(I)Ljava/lang/Throwable;"⟩, 6) := ⟨⟨by decide +kernel, by decide +kernel⟩, List.mem_of_getElem? (i := 738) (by decide +kernel), List.mem_of_getElem? (i := 736) (by decide +kernel), List.mem_of_getElem? (i := 737) (by decide +kernel)⟩
theorem lw_p27 : lw_okq (⟨"PlanDeskModel", "tokenize", "()V"⟩, 56) := ⟨⟨by decide +kernel, by decide +kernel⟩, List.mem_of_getElem? (i := 805) (by decide +kernel), List.mem_of_getElem? (i := 994) (by decide +kernel), List.mem_of_getElem? (i := 995) (by decide +kernel)⟩
theorem lw_p28 : lw_okq (⟨"PlanDeskModel", "oneToken", "(I)I"⟩, 56) := ⟨⟨by decide +kernel, by decide +kernel⟩, List.mem_of_getElem? (i := 805) (by decide +kernel), List.mem_of_getElem? (i := 998) (by decide +kernel), List.mem_of_getElem? (i := 999) (by decide +kernel)⟩
theorem lw_p29 : lw_okq (⟨"PlanDeskModel", "see", "(I)I"⟩, 56) := ⟨⟨by decide +kernel, by decide +kernel⟩, List.mem_of_getElem? (i := 805) (by decide +kernel), List.mem_of_getElem? (i := 1005) (by decide +kernel), List.mem_of_getElem? (i := 1006) (by decide +kernel)⟩
theorem lw_p30 : lw_okq (⟨"PlanDeskModel", "token", "(IIIJ)V"⟩, 56) := ⟨⟨by decide +kernel, by decide +kernel⟩, List.mem_of_getElem? (i := 805) (by decide +kernel), List.mem_of_getElem? (i := 1011) (by decide +kernel), List.mem_of_getElem? (i := 1012) (by decide +kernel)⟩
theorem lw_p31 : lw_okq (⟨"PlanDeskModel", "readClause", "()Z"⟩, 56) := ⟨⟨by decide +kernel, by decide +kernel⟩, List.mem_of_getElem? (i := 805) (by decide +kernel), List.mem_of_getElem? (i := 1030) (by decide +kernel), List.mem_of_getElem? (i := 1031) (by decide +kernel)⟩
def lw_privs_2 : List (MethodName × Nat) := [(⟨"PlanDesk$Reader", "readTest", "(LPlanDesk$Literal;)Z"⟩, 10), (⟨"PlanDesk$Reader", "readOperation", "()Z"⟩, 10), (⟨"PlanDesk$Reader", "endRule", "()Z"⟩, 10), (⟨"PlanDesk$Clause", "nextAsked", "(II)I"⟩, 12), (⟨"PlanDesk$Clause", "firstWithout", "(I)I"⟩, 12), (⟨"PlanDesk$Reader", "endFact", "()Z"⟩, 10), (⟨"PlanDesk$Facts", "isSame", "(ILPlanDesk$Literal;)Z"⟩, 3), (⟨"PlanDesk$Reader", "finish", "()V"⟩, 10), (⟨"PlanDesk$Book", "leadsBack", "(II)Z"⟩, 8), (⟨"PlanDesk$Book", "liftHead", "(I)V"⟩, 8), (⟨"java/lang/Throwable", "fillInStackTrace", "(I)Ljava/lang/Throwable;"⟩, 6), (⟨"PlanDeskModel", "tokenize", "()V"⟩, 56), (⟨"PlanDeskModel", "oneToken", "(I)I"⟩, 56), (⟨"PlanDeskModel", "see", "(I)I"⟩, 56), (⟨"PlanDeskModel", "token", "(IIIJ)V"⟩, 56), (⟨"PlanDeskModel", "readClause", "()Z"⟩, 56)]
theorem lw_r2 : ∀ q ∈ lw_privs_2, lw_okq q := List.forall_mem_cons.mpr ⟨lw_p16, List.forall_mem_cons.mpr ⟨lw_p17, List.forall_mem_cons.mpr ⟨lw_p18, List.forall_mem_cons.mpr ⟨lw_p19, List.forall_mem_cons.mpr ⟨lw_p20, List.forall_mem_cons.mpr ⟨lw_p21, List.forall_mem_cons.mpr ⟨lw_p22, List.forall_mem_cons.mpr ⟨lw_p23, List.forall_mem_cons.mpr ⟨lw_p24, List.forall_mem_cons.mpr ⟨lw_p25, List.forall_mem_cons.mpr ⟨lw_p26, List.forall_mem_cons.mpr ⟨lw_p27, List.forall_mem_cons.mpr ⟨lw_p28, List.forall_mem_cons.mpr ⟨lw_p29, List.forall_mem_cons.mpr ⟨lw_p30, List.forall_mem_cons.mpr ⟨lw_p31, fun _ h => absurd h List.not_mem_nil⟩⟩⟩⟩⟩⟩⟩⟩⟩⟩⟩⟩⟩⟩⟩⟩
theorem lw_p32 : lw_okq (⟨"PlanDeskModel", "beginClause", "(I)V"⟩, 56) := ⟨⟨by decide +kernel, by decide +kernel⟩, List.mem_of_getElem? (i := 805) (by decide +kernel), List.mem_of_getElem? (i := 1034) (by decide +kernel), List.mem_of_getElem? (i := 1035) (by decide +kernel)⟩
theorem lw_p33 : lw_okq (⟨"PlanDeskModel", "readArguments", "(ZZ)Z"⟩, 56) := ⟨⟨by decide +kernel, by decide +kernel⟩, List.mem_of_getElem? (i := 805) (by decide +kernel), List.mem_of_getElem? (i := 1038) (by decide +kernel), List.mem_of_getElem? (i := 1039) (by decide +kernel)⟩
theorem lw_p34 : lw_okq (⟨"PlanDeskModel", "isKnown", "(J)Z"⟩, 56) := ⟨⟨by decide +kernel, by decide +kernel⟩, List.mem_of_getElem? (i := 805) (by decide +kernel), List.mem_of_getElem? (i := 1042) (by decide +kernel), List.mem_of_getElem? (i := 1043) (by decide +kernel)⟩
theorem lw_p35 : lw_okq (⟨"PlanDeskModel", "refuse", "()Z"⟩, 56) := ⟨⟨by decide +kernel, by decide +kernel⟩, List.mem_of_getElem? (i := 805) (by decide +kernel), List.mem_of_getElem? (i := 1046) (by decide +kernel), List.mem_of_getElem? (i := 1047) (by decide +kernel)⟩
theorem lw_p36 : lw_okq (⟨"PlanDeskModel", "wrong", "(I)Z"⟩, 56) := ⟨⟨by decide +kernel, by decide +kernel⟩, List.mem_of_getElem? (i := 805) (by decide +kernel), List.mem_of_getElem? (i := 1050) (by decide +kernel), List.mem_of_getElem? (i := 1051) (by decide +kernel)⟩
theorem lw_p37 : lw_okq (⟨"PlanDeskModel", "want", "(I)Z"⟩, 56) := ⟨⟨by decide +kernel, by decide +kernel⟩, List.mem_of_getElem? (i := 805) (by decide +kernel), List.mem_of_getElem? (i := 1054) (by decide +kernel), List.mem_of_getElem? (i := 1055) (by decide +kernel)⟩
theorem lw_p38 : lw_okq (⟨"PlanDeskModel", "takes", "(I)Z"⟩, 56) := ⟨⟨by decide +kernel, by decide +kernel⟩, List.mem_of_getElem? (i := 805) (by decide +kernel), List.mem_of_getElem? (i := 1058) (by decide +kernel), List.mem_of_getElem? (i := 1059) (by decide +kernel)⟩
theorem lw_p39 : lw_okq (⟨"PlanDeskModel", "isSign", "(I)Z"⟩, 56) := ⟨⟨by decide +kernel, by decide +kernel⟩, List.mem_of_getElem? (i := 805) (by decide +kernel), List.mem_of_getElem? (i := 1062) (by decide +kernel), List.mem_of_getElem? (i := 1063) (by decide +kernel)⟩
theorem lw_p40 : lw_okq (⟨"PlanDeskModel", "readVariable", "()Z"⟩, 56) := ⟨⟨by decide +kernel, by decide +kernel⟩, List.mem_of_getElem? (i := 805) (by decide +kernel), List.mem_of_getElem? (i := 1066) (by decide +kernel), List.mem_of_getElem? (i := 1067) (by decide +kernel)⟩
theorem lw_p41 : lw_okq (⟨"PlanDeskModel", "readTerm", "()Z"⟩, 56) := ⟨⟨by decide +kernel, by decide +kernel⟩, List.mem_of_getElem? (i := 805) (by decide +kernel), List.mem_of_getElem? (i := 1070) (by decide +kernel), List.mem_of_getElem? (i := 1071) (by decide +kernel)⟩
theorem lw_p42 : lw_okq (⟨"PlanDeskModel", "predicateOf", "(JII)I"⟩, 56) := ⟨⟨by decide +kernel, by decide +kernel⟩, List.mem_of_getElem? (i := 805) (by decide +kernel), List.mem_of_getElem? (i := 1075) (by decide +kernel), List.mem_of_getElem? (i := 1076) (by decide +kernel)⟩
theorem lw_p43 : lw_okq (⟨"PlanDeskModel", "note", "(II)V"⟩, 56) := ⟨⟨by decide +kernel, by decide +kernel⟩, List.mem_of_getElem? (i := 805) (by decide +kernel), List.mem_of_getElem? (i := 1079) (by decide +kernel), List.mem_of_getElem? (i := 1080) (by decide +kernel)⟩
theorem lw_p44 : lw_okq (⟨"PlanDeskModel", "layHead", "()V"⟩, 56) := ⟨⟨by decide +kernel, by decide +kernel⟩, List.mem_of_getElem? (i := 805) (by decide +kernel), List.mem_of_getElem? (i := 1083) (by decide +kernel), List.mem_of_getElem? (i := 1084) (by decide +kernel)⟩
theorem lw_p45 : lw_okq (⟨"PlanDeskModel", "findFact", "()I"⟩, 56) := ⟨⟨by decide +kernel, by decide +kernel⟩, List.mem_of_getElem? (i := 805) (by decide +kernel), List.mem_of_getElem? (i := 1087) (by decide +kernel), List.mem_of_getElem? (i := 1088) (by decide +kernel)⟩
theorem lw_p46 : lw_okq (⟨"PlanDeskModel", "addFact", "()V"⟩, 56) := ⟨⟨by decide +kernel, by decide +kernel⟩, List.mem_of_getElem? (i := 805) (by decide +kernel), List.mem_of_getElem? (i := 1091) (by decide +kernel), List.mem_of_getElem? (i := 1092) (by decide +kernel)⟩
theorem lw_p47 : lw_okq (⟨"PlanDeskModel", "readBody", "()Z"⟩, 56) := ⟨⟨by decide +kernel, by decide +kernel⟩, List.mem_of_getElem? (i := 805) (by decide +kernel), List.mem_of_getElem? (i := 1095) (by decide +kernel), List.mem_of_getElem? (i := 1096) (by decide +kernel)⟩
def lw_privs_3 : List (MethodName × Nat) := [(⟨"PlanDeskModel", "beginClause", "(I)V"⟩, 56), (⟨"PlanDeskModel", "readArguments", "(ZZ)Z"⟩, 56), (⟨"PlanDeskModel", "isKnown", "(J)Z"⟩, 56), (⟨"PlanDeskModel", "refuse", "()Z"⟩, 56), (⟨"PlanDeskModel", "wrong", "(I)Z"⟩, 56), (⟨"PlanDeskModel", "want", "(I)Z"⟩, 56), (⟨"PlanDeskModel", "takes", "(I)Z"⟩, 56), (⟨"PlanDeskModel", "isSign", "(I)Z"⟩, 56), (⟨"PlanDeskModel", "readVariable", "()Z"⟩, 56), (⟨"PlanDeskModel", "readTerm", "()Z"⟩, 56), (⟨"PlanDeskModel", "predicateOf", "(JII)I"⟩, 56), (⟨"PlanDeskModel", "note", "(II)V"⟩, 56), (⟨"PlanDeskModel", "layHead", "()V"⟩, 56), (⟨"PlanDeskModel", "findFact", "()I"⟩, 56), (⟨"PlanDeskModel", "addFact", "()V"⟩, 56), (⟨"PlanDeskModel", "readBody", "()Z"⟩, 56)]
theorem lw_r3 : ∀ q ∈ lw_privs_3, lw_okq q := List.forall_mem_cons.mpr ⟨lw_p32, List.forall_mem_cons.mpr ⟨lw_p33, List.forall_mem_cons.mpr ⟨lw_p34, List.forall_mem_cons.mpr ⟨lw_p35, List.forall_mem_cons.mpr ⟨lw_p36, List.forall_mem_cons.mpr ⟨lw_p37, List.forall_mem_cons.mpr ⟨lw_p38, List.forall_mem_cons.mpr ⟨lw_p39, List.forall_mem_cons.mpr ⟨lw_p40, List.forall_mem_cons.mpr ⟨lw_p41, List.forall_mem_cons.mpr ⟨lw_p42, List.forall_mem_cons.mpr ⟨lw_p43, List.forall_mem_cons.mpr ⟨lw_p44, List.forall_mem_cons.mpr ⟨lw_p45, List.forall_mem_cons.mpr ⟨lw_p46, List.forall_mem_cons.mpr ⟨lw_p47, fun _ h => absurd h List.not_mem_nil⟩⟩⟩⟩⟩⟩⟩⟩⟩⟩⟩⟩⟩⟩⟩⟩
theorem lw_p48 : lw_okq (⟨"PlanDeskModel", "readLiteral", "()Z"⟩, 56) := ⟨⟨by decide +kernel, by decide +kernel⟩, List.mem_of_getElem? (i := 805) (by decide +kernel), List.mem_of_getElem? (i := 1099) (by decide +kernel), List.mem_of_getElem? (i := 1100) (by decide +kernel)⟩
theorem lw_p49 : lw_okq (⟨"PlanDeskModel", "lay", "(II)V"⟩, 56) := ⟨⟨by decide +kernel, by decide +kernel⟩, List.mem_of_getElem? (i := 805) (by decide +kernel), List.mem_of_getElem? (i := 1103) (by decide +kernel), List.mem_of_getElem? (i := 1104) (by decide +kernel)⟩
theorem lw_p50 : lw_okq (⟨"PlanDeskModel", "relation", "()I"⟩, 56) := ⟨⟨by decide +kernel, by decide +kernel⟩, List.mem_of_getElem? (i := 805) (by decide +kernel), List.mem_of_getElem? (i := 1107) (by decide +kernel), List.mem_of_getElem? (i := 1108) (by decide +kernel)⟩
theorem lw_p51 : lw_okq (⟨"PlanDeskModel", "lookBound", "()V"⟩, 56) := ⟨⟨by decide +kernel, by decide +kernel⟩, List.mem_of_getElem? (i := 805) (by decide +kernel), List.mem_of_getElem? (i := 1111) (by decide +kernel), List.mem_of_getElem? (i := 1112) (by decide +kernel)⟩
theorem lw_p52 : lw_okq (⟨"PlanDeskModel", "predicateSizeOf", "(I)I"⟩, 56) := ⟨⟨by decide +kernel, by decide +kernel⟩, List.mem_of_getElem? (i := 805) (by decide +kernel), List.mem_of_getElem? (i := 1115) (by decide +kernel), List.mem_of_getElem? (i := 1116) (by decide +kernel)⟩
theorem lw_p53 : lw_okq (⟨"PlanDeskModel", "bind", "(II)V"⟩, 56) := ⟨⟨by decide +kernel, by decide +kernel⟩, List.mem_of_getElem? (i := 805) (by decide +kernel), List.mem_of_getElem? (i := 1119) (by decide +kernel), List.mem_of_getElem? (i := 1120) (by decide +kernel)⟩
theorem lw_p54 : lw_okq (⟨"PlanDeskModel", "isBound", "(II)Z"⟩, 56) := ⟨⟨by decide +kernel, by decide +kernel⟩, List.mem_of_getElem? (i := 805) (by decide +kernel), List.mem_of_getElem? (i := 1123) (by decide +kernel), List.mem_of_getElem? (i := 1124) (by decide +kernel)⟩
theorem lw_p55 : lw_okq (⟨"PlanDeskModel", "lookAbsence", "()V"⟩, 56) := ⟨⟨by decide +kernel, by decide +kernel⟩, List.mem_of_getElem? (i := 805) (by decide +kernel), List.mem_of_getElem? (i := 1127) (by decide +kernel), List.mem_of_getElem? (i := 1128) (by decide +kernel)⟩
theorem lw_p56 : lw_okq (⟨"PlanDeskModel", "lookHangs", "()V"⟩, 56) := ⟨⟨by decide +kernel, by decide +kernel⟩, List.mem_of_getElem? (i := 805) (by decide +kernel), List.mem_of_getElem? (i := 1131) (by decide +kernel), List.mem_of_getElem? (i := 1132) (by decide +kernel)⟩
theorem lw_p57 : lw_okq (⟨"PlanDeskModel", "isAtom", "(I)Z"⟩, 56) := ⟨⟨by decide +kernel, by decide +kernel⟩, List.mem_of_getElem? (i := 805) (by decide +kernel), List.mem_of_getElem? (i := 1135) (by decide +kernel), List.mem_of_getElem? (i := 1136) (by decide +kernel)⟩
theorem lw_p58 : lw_okq (⟨"PlanDeskModel", "isBack", "(II)Z"⟩, 56) := ⟨⟨by decide +kernel, by decide +kernel⟩, List.mem_of_getElem? (i := 805) (by decide +kernel), List.mem_of_getElem? (i := 1139) (by decide +kernel), List.mem_of_getElem? (i := 1140) (by decide +kernel)⟩
theorem lw_p59 : lw_okq (⟨"PlanDeskModel", "raise", "(I)I"⟩, 56) := ⟨⟨by decide +kernel, by decide +kernel⟩, List.mem_of_getElem? (i := 805) (by decide +kernel), List.mem_of_getElem? (i := 1143) (by decide +kernel), List.mem_of_getElem? (i := 1144) (by decide +kernel)⟩
theorem lw_p60 : lw_okq (⟨"PlanDeskModel", "lookStrata", "()V"⟩, 56) := ⟨⟨by decide +kernel, by decide +kernel⟩, List.mem_of_getElem? (i := 805) (by decide +kernel), List.mem_of_getElem? (i := 1147) (by decide +kernel), List.mem_of_getElem? (i := 1148) (by decide +kernel)⟩
theorem lw_p61 : lw_okq (⟨"PlanDeskModel", "plan", "(I)V"⟩, 56) := ⟨⟨by decide +kernel, by decide +kernel⟩, List.mem_of_getElem? (i := 805) (by decide +kernel), List.mem_of_getElem? (i := 1178) (by decide +kernel), List.mem_of_getElem? (i := 1179) (by decide +kernel)⟩
theorem lw_p62 : lw_okq (⟨"PlanDeskModel", "nextLiteral", "(I)I"⟩, 56) := ⟨⟨by decide +kernel, by decide +kernel⟩, List.mem_of_getElem? (i := 805) (by decide +kernel), List.mem_of_getElem? (i := 1182) (by decide +kernel), List.mem_of_getElem? (i := 1183) (by decide +kernel)⟩
theorem lw_p63 : lw_okq (⟨"PlanDeskModel", "canAsk", "(I)Z"⟩, 56) := ⟨⟨by decide +kernel, by decide +kernel⟩, List.mem_of_getElem? (i := 805) (by decide +kernel), List.mem_of_getElem? (i := 1186) (by decide +kernel), List.mem_of_getElem? (i := 1187) (by decide +kernel)⟩
def lw_privs_4 : List (MethodName × Nat) := [(⟨"PlanDeskModel", "readLiteral", "()Z"⟩, 56), (⟨"PlanDeskModel", "lay", "(II)V"⟩, 56), (⟨"PlanDeskModel", "relation", "()I"⟩, 56), (⟨"PlanDeskModel", "lookBound", "()V"⟩, 56), (⟨"PlanDeskModel", "predicateSizeOf", "(I)I"⟩, 56), (⟨"PlanDeskModel", "bind", "(II)V"⟩, 56), (⟨"PlanDeskModel", "isBound", "(II)Z"⟩, 56), (⟨"PlanDeskModel", "lookAbsence", "()V"⟩, 56), (⟨"PlanDeskModel", "lookHangs", "()V"⟩, 56), (⟨"PlanDeskModel", "isAtom", "(I)Z"⟩, 56), (⟨"PlanDeskModel", "isBack", "(II)Z"⟩, 56), (⟨"PlanDeskModel", "raise", "(I)I"⟩, 56), (⟨"PlanDeskModel", "lookStrata", "()V"⟩, 56), (⟨"PlanDeskModel", "plan", "(I)V"⟩, 56), (⟨"PlanDeskModel", "nextLiteral", "(I)I"⟩, 56), (⟨"PlanDeskModel", "canAsk", "(I)Z"⟩, 56)]
theorem lw_r4 : ∀ q ∈ lw_privs_4, lw_okq q := List.forall_mem_cons.mpr ⟨lw_p48, List.forall_mem_cons.mpr ⟨lw_p49, List.forall_mem_cons.mpr ⟨lw_p50, List.forall_mem_cons.mpr ⟨lw_p51, List.forall_mem_cons.mpr ⟨lw_p52, List.forall_mem_cons.mpr ⟨lw_p53, List.forall_mem_cons.mpr ⟨lw_p54, List.forall_mem_cons.mpr ⟨lw_p55, List.forall_mem_cons.mpr ⟨lw_p56, List.forall_mem_cons.mpr ⟨lw_p57, List.forall_mem_cons.mpr ⟨lw_p58, List.forall_mem_cons.mpr ⟨lw_p59, List.forall_mem_cons.mpr ⟨lw_p60, List.forall_mem_cons.mpr ⟨lw_p61, List.forall_mem_cons.mpr ⟨lw_p62, List.forall_mem_cons.mpr ⟨lw_p63, fun _ h => absurd h List.not_mem_nil⟩⟩⟩⟩⟩⟩⟩⟩⟩⟩⟩⟩⟩⟩⟩⟩
theorem lw_p64 : lw_okq (⟨"PlanDeskModel", "isKnownTerm", "(II)Z"⟩, 56) := ⟨⟨by decide +kernel, by decide +kernel⟩, List.mem_of_getElem? (i := 805) (by decide +kernel), List.mem_of_getElem? (i := 1190) (by decide +kernel), List.mem_of_getElem? (i := 1191) (by decide +kernel)⟩
theorem lw_p65 : lw_okq (⟨"PlanDeskModel", "knownIn", "(I)I"⟩, 56) := ⟨⟨by decide +kernel, by decide +kernel⟩, List.mem_of_getElem? (i := 805) (by decide +kernel), List.mem_of_getElem? (i := 1194) (by decide +kernel), List.mem_of_getElem? (i := 1195) (by decide +kernel)⟩
def lw_privs_5 : List (MethodName × Nat) := [(⟨"PlanDeskModel", "isKnownTerm", "(II)Z"⟩, 56), (⟨"PlanDeskModel", "knownIn", "(I)I"⟩, 56)]
theorem lw_r5 : ∀ q ∈ lw_privs_5, lw_okq q := List.forall_mem_cons.mpr ⟨lw_p64, List.forall_mem_cons.mpr ⟨lw_p65, fun _ h => absurd h List.not_mem_nil⟩⟩
def lw_privs : List (MethodName × Nat) := lw_privs_1 ++ (lw_privs_2 ++ (lw_privs_3 ++ (lw_privs_4 ++ (lw_privs_5))))
def lw_tbl : List Cond := k2_sels lw_privs ++ tables_1
theorem lw_privs_ok : ∀ q ∈ lw_privs, lw_okq q := by
  show ∀ q ∈ lw_privs_1 ++ (lw_privs_2 ++ (lw_privs_3 ++ (lw_privs_4 ++ (lw_privs_5)))), lw_okq q
  exact List.forall_mem_append.mpr ⟨lw_r1, List.forall_mem_append.mpr ⟨lw_r2, List.forall_mem_append.mpr ⟨lw_r3, List.forall_mem_append.mpr ⟨lw_r4, lw_r5⟩⟩⟩⟩
end
section
/-! NAMES (by program): classes, methods, the words that hold -/
abbrev MR : Type := MethodName × ByteArray × Nat × Option FieldType × Room × Bool
abbrev yy (m : MR) : MethodName := m.1
abbrev cd (m : MR) : ByteArray := m.2.1
abbrev nLo (m : MR) : Nat := m.2.2.1
abbrev rtt (m : MR) : Option FieldType := m.2.2.2.1
abbrev rmm (m : MR) : Room := m.2.2.2.2.1
abbrev thr (m : MR) : Bool := m.2.2.2.2.2
def RC0 : String := "PlanDesk$Book"
def TC0 : u_T := fun k => [("PlanDesk$Book", "rules", "LPlanDesk$Rules;", true), ("PlanDesk$Book", "count", "I", false), ("PlanDesk$Book", "names", "[J", true), ("PlanDesk$Book", "sizes", "[I", true), ("PlanDesk$Book", "ruleCounts", "[I", true), ("PlanDesk$Book", "factCounts", "[I", true), ("PlanDesk$Book", "strata", "[I", true), ("PlanDesk$Book", "hangsOn", "[I", true)].getD k ("", "", "", false)
def RC1 : String := "PlanDesk$Clause"
def TC1 : u_T := fun k => [("PlanDesk$Clause", "head", "LPlanDesk$Literal;", true), ("PlanDesk$Clause", "body", "[LPlanDesk$Literal;", true), ("PlanDesk$Clause", "size", "I", false), ("PlanDesk$Clause", "atoms", "I", false), ("PlanDesk$Clause", "total", "I", false), ("PlanDesk$Clause", "totalPlace", "I", false), ("PlanDesk$Clause", "variables", "I", false), ("PlanDesk$Clause", "names", "[J", true), ("PlanDesk$Clause", "firstPlaces", "[I", true), ("PlanDesk$Clause", "order", "[I", true), ("PlanDesk$Clause", "known", "[I", true), ("PlanDesk$Clause", "valued", "[I", true)].getD k ("", "", "", false)
def RC2 : String := "PlanDesk$Facts"
def TC2 : u_T := fun k => [("PlanDesk$Facts", "owners", "[I", true), ("PlanDesk$Facts", "terms", "[J", true), ("PlanDesk$Facts", "count", "I", false)].getD k ("", "", "", false)
def RC3 : String := "PlanDesk$Literal"
def TC3 : u_T := fun k => [("PlanDesk$Literal", "kind", "I", false), ("PlanDesk$Literal", "place", "I", false), ("PlanDesk$Literal", "asked", "I", false), ("PlanDesk$Literal", "equation", "Z", false), ("PlanDesk$Literal", "size", "I", false), ("PlanDesk$Literal", "terms", "[J", true), ("PlanDesk$Literal", "variables", "[I", true)].getD k ("", "", "", false)
def RC4 : String := "PlanDesk$Reader"
def TC4 : u_T := fun k => [("PlanDesk$Reader", "tokens", "LPlanDesk$Tokens;", true), ("PlanDesk$Reader", "clause", "LPlanDesk$Clause;", true), ("PlanDesk$Reader", "facts", "LPlanDesk$Facts;", true), ("PlanDesk$Reader", "target", "LPlanDesk$Book;", false), ("PlanDesk$Reader", "faultKind", "I", false), ("PlanDesk$Reader", "faultPlace", "I", false), ("PlanDesk$Reader", "at", "I", false), ("PlanDesk$Reader", "kind", "I", false), ("PlanDesk$Reader", "place", "I", false), ("PlanDesk$Reader", "value", "J", false)].getD k ("", "", "", false)
def RC5 : String := "PlanDesk$Rules"
def TC5 : u_T := fun k => [("PlanDesk$Rules", "count", "I", false), ("PlanDesk$Rules", "heads", "[I", true), ("PlanDesk$Rules", "sizes", "[I", true), ("PlanDesk$Rules", "variables", "[I", true), ("PlanDesk$Rules", "totals", "[I", true), ("PlanDesk$Rules", "totalPlaces", "[I", true), ("PlanDesk$Rules", "kinds", "[I", true), ("PlanDesk$Rules", "asked", "[I", true), ("PlanDesk$Rules", "places", "[I", true), ("PlanDesk$Rules", "order", "[I", true), ("PlanDesk$Rules", "known", "[I", true), ("PlanDesk$Rules", "valued", "[I", true)].getD k ("", "", "", false)
def RC6 : String := "PlanDesk$Tape"
def TC6 : u_T := fun k => [("PlanDesk$Tape", "characters", "[B", true), ("PlanDesk$Tape", "length", "I", false)].getD k ("", "", "", false)
def RC7 : String := "PlanDesk$Tokens"
def TC7 : u_T := fun k => [("PlanDesk$Tokens", "kinds", "[I", true), ("PlanDesk$Tokens", "places", "[I", true), ("PlanDesk$Tokens", "values", "[J", true), ("PlanDesk$Tokens", "count", "I", false)].getD k ("", "", "", false)
def RC8 : String := "PlanDesk"
def TC8 : u_T := fun k => [("PlanDesk", "tape", "LPlanDesk$Tape;", true), ("PlanDesk", "reader", "LPlanDesk$Reader;", true), ("PlanDesk", "book", "LPlanDesk$Book;", false), ("PlanDesk", "draft", "LPlanDesk$Book;", false)].getD k ("", "", "", false)
def RC9 : String := "PlanDeskModel"
def TC9 : u_T := fun k => [("PlanDeskModel", "thrown", "I", false), ("PlanDeskModel", "tape", "[I", true), ("PlanDeskModel", "taped", "I", false), ("PlanDeskModel", "fault", "I", false), ("PlanDeskModel", "faultPlace", "I", false), ("PlanDeskModel", "tokens", "I", false), ("PlanDeskModel", "tokenKind", "[I", true), ("PlanDeskModel", "tokenPlace", "[I", true), ("PlanDeskModel", "tokenCode", "[I", true), ("PlanDeskModel", "tokenValue", "[J", true), ("PlanDeskModel", "at", "I", false), ("PlanDeskModel", "side", "I", false), ("PlanDeskModel", "predicates", "[I", true), ("PlanDeskModel", "predicateName", "[J", true), ("PlanDeskModel", "predicateSize", "[I", true), ("PlanDeskModel", "stratum", "[I", true), ("PlanDeskModel", "rules", "[I", true), ("PlanDeskModel", "head", "[I", true), ("PlanDeskModel", "headKind", "[I", true), ("PlanDeskModel", "headValue", "[J", true), ("PlanDeskModel", "totalWord", "[I", true), ("PlanDeskModel", "totalAt", "[I", true), ("PlanDeskModel", "literals", "[I", true), ("PlanDeskModel", "variables", "[I", true), ("PlanDeskModel", "literal", "[I", true), ("PlanDeskModel", "sign", "[I", true), ("PlanDeskModel", "termKind", "[I", true), ("PlanDeskModel", "termValue", "[J", true), ("PlanDeskModel", "facts", "[I", true), ("PlanDeskModel", "factOf", "[I", true), ("PlanDeskModel", "factValue", "[J", true), ("PlanDeskModel", "clause", "I", false), ("PlanDeskModel", "variableName", "[J", true), ("PlanDeskModel", "variablePlace", "[I", true), ("PlanDeskModel", "bound", "[Z", true), ("PlanDeskModel", "readKind", "I", false), ("PlanDeskModel", "readValue", "J", false), ("PlanDeskModel", "readSide", "I", false), ("PlanDeskModel", "arguments", "I", false), ("PlanDeskModel", "argumentKind", "[I", true), ("PlanDeskModel", "argumentValue", "[J", true), ("PlanDeskModel", "firstFree", "I", false), ("PlanDeskModel", "word", "I", false), ("PlanDeskModel", "wordAt", "I", false), ("PlanDeskModel", "wordPlace", "I", false), ("PlanDeskModel", "readPredicate", "I", false), ("PlanDeskModel", "atoms", "I", false), ("PlanDeskModel", "negated", "[I", true), ("PlanDeskModel", "written", "[I", true), ("PlanDeskModel", "totalPlace", "[I", true), ("PlanDeskModel", "back", "[Z", true), ("PlanDeskModel", "order", "[I", true), ("PlanDeskModel", "ahead", "[I", true), ("PlanDeskModel", "behind", "[I", true), ("PlanDeskModel", "has", "[Z", true), ("PlanDeskModel", "taken", "[Z", true)].getD k ("", "", "", false)
def clT : List vw_C := [(RC0, TC0, 8), (RC1, TC1, 12), (RC2, TC2, 3), (RC3, TC3, 7), (RC4, TC4, 10), (RC5, TC5, 12), (RC6, TC6, 2), (RC7, TC7, 4), (RC8, TC8, 4), (RC9, TC9, 56)]
def RLit : String := "PlanDesk$Literal"
def nf (c : Nat) : Nat := [8, 12, 3, 7, 10, 12, 2, 4, 4, 56].getD c 0
def fty (c k : Nat) : Nat := ([[5, 1, 5, 5, 5, 5, 5, 5], [5, 5, 1, 1, 1, 1, 1, 5, 5, 5, 5, 5], [5, 5, 1], [1, 1, 1, 1, 1, 5, 5], [5, 5, 5, 5, 1, 1, 1, 1, 1, 2], [1, 5, 5, 5, 5, 5, 5, 5, 5, 5, 5, 5], [5, 1], [5, 5, 5, 1], [5, 5, 5, 5], [1, 5, 1, 1, 1, 1, 5, 5, 5, 5, 1, 1, 5, 5, 5, 5, 5, 5, 5, 5, 5, 5, 5, 5, 5, 5, 5, 5, 5, 5, 5, 1, 5, 5, 5, 1, 2, 1, 1, 5, 5, 1, 1, 1, 1, 1, 1, 5, 5, 5, 5, 5, 5, 5, 5, 5]].getD c []).getD k 1
def tyF (c k : Nat) : FieldType := (([[.object "PlanDesk$Rules", .int, .array (.long), .array (.int), .array (.int), .array (.int), .array (.int), .array (.int)], [.object "PlanDesk$Literal", .array (.object "PlanDesk$Literal"), .int, .int, .int, .int, .int, .array (.long), .array (.int), .array (.int), .array (.int), .array (.int)], [.array (.int), .array (.long), .int], [.int, .int, .int, .boolean, .int, .array (.long), .array (.int)], [.object "PlanDesk$Tokens", .object "PlanDesk$Clause", .object "PlanDesk$Facts", .object "PlanDesk$Book", .int, .int, .int, .int, .int, .long], [.int, .array (.int), .array (.int), .array (.int), .array (.int), .array (.int), .array (.int), .array (.int), .array (.int), .array (.int), .array (.int), .array (.int)], [.array (.byte), .int], [.array (.int), .array (.int), .array (.long), .int], [.object "PlanDesk$Tape", .object "PlanDesk$Reader", .object "PlanDesk$Book", .object "PlanDesk$Book"], [.int, .array (.int), .int, .int, .int, .int, .array (.int), .array (.int), .array (.int), .array (.long), .int, .int, .array (.int), .array (.long), .array (.int), .array (.int), .array (.int), .array (.int), .array (.int), .array (.long), .array (.int), .array (.int), .array (.int), .array (.int), .array (.int), .array (.int), .array (.int), .array (.long), .array (.int), .array (.int), .array (.long), .int, .array (.long), .array (.int), .array (.boolean), .int, .long, .int, .int, .array (.int), .array (.long), .int, .int, .int, .int, .int, .int, .array (.int), .array (.int), .array (.int), .array (.boolean), .array (.int), .array (.int), .array (.int), .array (.boolean), .array (.boolean)]] : List (List FieldType)).getD c []).getD k .int
def m_Bk_init : MR := (⟨"PlanDesk$Book", "<init>", "()V"⟩, prog_2_method_1_code, 1, none, { frames := 2, cells := 18, slots := 1338, locals := 40 }, false)
def m_Bk_clear : MR := (⟨"PlanDesk$Book", "clear", "()V"⟩, prog_2_method_2_code, 1, none, { frames := 0, cells := 0, slots := 0, locals := 0 }, false)
def m_Bk_numberOf : MR := (⟨"PlanDesk$Book", "numberOf", "(J)I"⟩, prog_2_method_3_code, 4, some .int, { frames := 0, cells := 0, slots := 0, locals := 0 }, false)
def m_Bk_agrees : MR := (⟨"PlanDesk$Book", "agrees", "(II)Z"⟩, prog_2_method_4_code, 3, some .boolean, { frames := 0, cells := 0, slots := 0, locals := 0 }, false)
def m_Bk_addRule : MR := (⟨"PlanDesk$Book", "addRule", "(LPlanDesk$Clause;)V"⟩, prog_2_method_5_code, 4, none, { frames := 1, cells := 0, slots := 0, locals := 23 }, false)
def m_Bk_addFact : MR := (⟨"PlanDesk$Book", "addFact", "(I)V"⟩, prog_2_method_6_code, 2, none, { frames := 0, cells := 0, slots := 0, locals := 0 }, false)
def m_Bk_reaches : MR := (⟨"PlanDesk$Book", "reaches", "(II)Z"⟩, prog_2_method_7_code, 3, some .boolean, { frames := 0, cells := 0, slots := 0, locals := 0 }, false)
def m_Bk_spreadHanging : MR := (⟨"PlanDesk$Book", "spreadHanging", "()V"⟩, prog_2_method_8_code, 3, none, { frames := 1, cells := 0, slots := 0, locals := 22 }, false)
def m_Bk_leadsBack : MR := (⟨"PlanDesk$Book", "leadsBack", "(II)Z"⟩, prog_2_method_9_code, 5, some .boolean, { frames := 1, cells := 0, slots := 0, locals := 22 }, false)
def m_Bk_circles : MR := (⟨"PlanDesk$Book", "circles", "(I)I"⟩, prog_2_method_10_code, 5, some .int, { frames := 2, cells := 0, slots := 0, locals := 46 }, false)
def m_Bk_knotPlace : MR := (⟨"PlanDesk$Book", "knotPlace", "()I"⟩, prog_2_method_11_code, 4, some .int, { frames := 2, cells := 0, slots := 0, locals := 46 }, false)
def m_Bk_layStrata : MR := (⟨"PlanDesk$Book", "layStrata", "()V"⟩, prog_2_method_12_code, 3, none, { frames := 2, cells := 0, slots := 0, locals := 48 }, false)
def m_Bk_liftHead : MR := (⟨"PlanDesk$Book", "liftHead", "(I)V"⟩, prog_2_method_13_code, 7, none, { frames := 1, cells := 0, slots := 0, locals := 22 }, false)
def m_Cl_init : MR := (⟨"PlanDesk$Clause", "<init>", "()V"⟩, prog_3_method_1_code, 2, none, { frames := 2, cells := 27, slots := 145, locals := 40 }, false)
def m_Cl_begin : MR := (⟨"PlanDesk$Clause", "begin", "(I)V"⟩, prog_3_method_2_code, 2, none, { frames := 1, cells := 0, slots := 0, locals := 22 }, false)
def m_Cl_variableOf : MR := (⟨"PlanDesk$Clause", "variableOf", "(JI)I"⟩, prog_3_method_3_code, 5, some .int, { frames := 0, cells := 0, slots := 0, locals := 0 }, false)
def m_Cl_openPlace : MR := (⟨"PlanDesk$Clause", "openPlace", "()I"⟩, prog_3_method_4_code, 1, some .int, { frames := 1, cells := 0, slots := 0, locals := 21 }, false)
def m_Cl_plan : MR := (⟨"PlanDesk$Clause", "plan", "()I"⟩, prog_3_method_5_code, 6, some .int, { frames := 3, cells := 0, slots := 0, locals := 73 }, false)
def m_Cl_nextAsked : MR := (⟨"PlanDesk$Clause", "nextAsked", "(II)I"⟩, prog_3_method_6_code, 9, some .int, { frames := 2, cells := 0, slots := 0, locals := 45 }, false)
def m_Cl_firstWithout : MR := (⟨"PlanDesk$Clause", "firstWithout", "(I)I"⟩, prog_3_method_7_code, 3, some .int, { frames := 0, cells := 0, slots := 0, locals := 0 }, false)
def m_Fc_init : MR := (⟨"PlanDesk$Facts", "<init>", "()V"⟩, prog_4_method_1_code, 1, none, { frames := 1, cells := 2, slots := 600, locals := 20 }, false)
def m_Fc_add : MR := (⟨"PlanDesk$Facts", "add", "(LPlanDesk$Literal;)Z"⟩, prog_4_method_2_code, 3, some .boolean, { frames := 1, cells := 0, slots := 0, locals := 65 }, false)
def m_Fc_isSame : MR := (⟨"PlanDesk$Facts", "isSame", "(ILPlanDesk$Literal;)Z"⟩, prog_4_method_3_code, 4, some .boolean, { frames := 0, cells := 0, slots := 0, locals := 0 }, false)
def m_Lt_init : MR := (⟨"PlanDesk$Literal", "<init>", "()V"⟩, prog_5_method_1_code, 1, none, { frames := 1, cells := 2, slots := 8, locals := 20 }, false)
def m_Lt_begin : MR := (⟨"PlanDesk$Literal", "begin", "(II)V"⟩, prog_5_method_2_code, 3, none, { frames := 0, cells := 0, slots := 0, locals := 0 }, false)
def m_Lt_add : MR := (⟨"PlanDesk$Literal", "add", "(J)V"⟩, prog_5_method_3_code, 4, none, { frames := 0, cells := 0, slots := 0, locals := 0 }, false)
def m_Lt_isAtom : MR := (⟨"PlanDesk$Literal", "isAtom", "()Z"⟩, prog_5_method_4_code, 1, some .boolean, { frames := 0, cells := 0, slots := 0, locals := 0 }, false)
def m_Lt_variablesFrom : MR := (⟨"PlanDesk$Literal", "variablesFrom", "(I)I"⟩, prog_5_method_5_code, 4, some .int, { frames := 0, cells := 0, slots := 0, locals := 0 }, false)
def m_Lt_canBeAsked : MR := (⟨"PlanDesk$Literal", "canBeAsked", "(I)Z"⟩, prog_5_method_6_code, 3, some .boolean, { frames := 1, cells := 0, slots := 0, locals := 23 }, false)
def m_Lt_knownArguments : MR := (⟨"PlanDesk$Literal", "knownArguments", "(I)I"⟩, prog_5_method_7_code, 4, some .int, { frames := 0, cells := 0, slots := 0, locals := 0 }, false)
def m_Rd_init : MR := (⟨"PlanDesk$Reader", "<init>", "()V"⟩, prog_6_method_1_code, 1, none, { frames := 3, cells := 35, slots := 2567, locals := 61 }, false)
def m_Rd_read : MR := (⟨"PlanDesk$Reader", "read", "(LPlanDesk$Tape;LPlanDesk$Book;)Z"⟩, prog_6_method_2_code, 4, some .boolean, { frames := 8, cells := 0, slots := 0, locals := 234 }, false)
def m_Rd_finish : MR := (⟨"PlanDesk$Reader", "finish", "()V"⟩, prog_6_method_3_code, 2, none, { frames := 3, cells := 0, slots := 0, locals := 70 }, false)
def m_Rd_moveTo : MR := (⟨"PlanDesk$Reader", "moveTo", "(I)V"⟩, prog_6_method_4_code, 2, none, { frames := 0, cells := 0, slots := 0, locals := 0 }, false)
def m_Rd_refuse : MR := (⟨"PlanDesk$Reader", "refuse", "(I)Z"⟩, prog_6_method_5_code, 2, some .boolean, { frames := 0, cells := 0, slots := 0, locals := 0 }, false)
def m_Rd_note : MR := (⟨"PlanDesk$Reader", "note", "(II)V"⟩, prog_6_method_6_code, 3, none, { frames := 0, cells := 0, slots := 0, locals := 0 }, false)
def m_Rd_take : MR := (⟨"PlanDesk$Reader", "take", "(I)Z"⟩, prog_6_method_7_code, 2, some .boolean, { frames := 1, cells := 0, slots := 0, locals := 21 }, false)
def m_Rd_readBody : MR := (⟨"PlanDesk$Reader", "readBody", "()Z"⟩, prog_6_method_8_code, 2, some .boolean, { frames := 5, cells := 0, slots := 0, locals := 113 }, false)
def m_Rd_endRule : MR := (⟨"PlanDesk$Reader", "endRule", "()Z"⟩, prog_6_method_9_code, 2, some .boolean, { frames := 4, cells := 0, slots := 0, locals := 98 }, false)
def m_Rd_endFact : MR := (⟨"PlanDesk$Reader", "endFact", "()Z"⟩, prog_6_method_10_code, 2, some .boolean, { frames := 2, cells := 0, slots := 0, locals := 87 }, false)
def m_Rd_readLiteral : MR := (⟨"PlanDesk$Reader", "readLiteral", "(LPlanDesk$Literal;)Z"⟩, prog_6_method_11_code, 2, some .boolean, { frames := 4, cells := 0, slots := 0, locals := 92 }, false)
def m_Rd_isOpenNext : MR := (⟨"PlanDesk$Reader", "isOpenNext", "()Z"⟩, prog_6_method_12_code, 1, some .boolean, { frames := 0, cells := 0, slots := 0, locals := 0 }, false)
def m_Rd_readTest : MR := (⟨"PlanDesk$Reader", "readTest", "(LPlanDesk$Literal;)Z"⟩, prog_6_method_13_code, 3, some .boolean, { frames := 3, cells := 0, slots := 0, locals := 62 }, false)
def m_Rd_readOperation : MR := (⟨"PlanDesk$Reader", "readOperation", "()Z"⟩, prog_6_method_14_code, 1, some .boolean, { frames := 2, cells := 0, slots := 0, locals := 42 }, false)
def m_Rd_readAtom : MR := (⟨"PlanDesk$Reader", "readAtom", "(LPlanDesk$Literal;)Z"⟩, prog_6_method_15_code, 5, some .boolean, { frames := 3, cells := 0, slots := 0, locals := 68 }, false)
def m_Rd_readTotal : MR := (⟨"PlanDesk$Reader", "readTotal", "(LPlanDesk$Literal;)Z"⟩, prog_6_method_16_code, 2, some .boolean, { frames := 2, cells := 0, slots := 0, locals := 47 }, false)
def m_Rd_readAnything : MR := (⟨"PlanDesk$Reader", "readAnything", "(LPlanDesk$Literal;)Z"⟩, prog_6_method_17_code, 3, some .boolean, { frames := 1, cells := 0, slots := 0, locals := 23 }, false)
def m_Rd_readTerm : MR := (⟨"PlanDesk$Reader", "readTerm", "(LPlanDesk$Literal;)Z"⟩, prog_6_method_18_code, 4, some .boolean, { frames := 1, cells := 0, slots := 0, locals := 24 }, false)
def m_Rl_init : MR := (⟨"PlanDesk$Rules", "<init>", "()V"⟩, prog_7_method_1_code, 1, none, { frames := 1, cells := 11, slots := 1230, locals := 20 }, false)
def m_Rl_add : MR := (⟨"PlanDesk$Rules", "add", "(LPlanDesk$Clause;)V"⟩, prog_7_method_2_code, 4, none, { frames := 0, cells := 0, slots := 0, locals := 0 }, false)
def m_Rl_waits : MR := (⟨"PlanDesk$Rules", "waits", "(II)Z"⟩, prog_7_method_3_code, 3, some .boolean, { frames := 0, cells := 0, slots := 0, locals := 0 }, false)
def m_Tp_init : MR := (⟨"PlanDesk$Tape", "<init>", "()V"⟩, prog_8_method_1_code, 1, none, { frames := 1, cells := 1, slots := 600, locals := 20 }, false)
def m_Tp_add : MR := (⟨"PlanDesk$Tape", "add", "(I)V"⟩, prog_8_method_2_code, 2, none, { frames := 0, cells := 0, slots := 0, locals := 0 }, false)
def m_Tp_at : MR := (⟨"PlanDesk$Tape", "at", "(I)I"⟩, prog_8_method_3_code, 2, some .int, { frames := 0, cells := 0, slots := 0, locals := 0 }, false)
def m_Tp_sortAt : MR := (⟨"PlanDesk$Tape", "sortAt", "(I)I"⟩, prog_8_method_4_code, 3, some .int, { frames := 1, cells := 0, slots := 0, locals := 21 }, false)
def m_Tp_endOfRun : MR := (⟨"PlanDesk$Tape", "endOfRun", "(II)I"⟩, prog_8_method_5_code, 4, some .int, { frames := 2, cells := 0, slots := 0, locals := 43 }, false)
def m_Tp_spells : MR := (⟨"PlanDesk$Tape", "spells", "(IILjava/lang/String;)Z"⟩, prog_8_method_6_code, 5, some .boolean, { frames := 4, cells := 0, slots := 0, locals := 141 }, false)
def m_Tp_packed : MR := (⟨"PlanDesk$Tape", "packed", "(II)J"⟩, prog_8_method_7_code, 6, some .long, { frames := 1, cells := 0, slots := 0, locals := 21 }, false)
def m_Tp_number : MR := (⟨"PlanDesk$Tape", "number", "(II)J"⟩, prog_8_method_8_code, 6, some .long, { frames := 1, cells := 0, slots := 0, locals := 21 }, false)
def m_Tk_init : MR := (⟨"PlanDesk$Tokens", "<init>", "()V"⟩, prog_9_method_1_code, 1, none, { frames := 1, cells := 3, slots := 1803, locals := 20 }, false)
def m_Tk_cut : MR := (⟨"PlanDesk$Tokens", "cut", "(LPlanDesk$Tape;)V"⟩, prog_9_method_2_code, 4, none, { frames := 7, cells := 0, slots := 0, locals := 211 }, false)
def m_Tk_add : MR := (⟨"PlanDesk$Tokens", "add", "(IIJ)V"⟩, prog_9_method_3_code, 5, none, { frames := 0, cells := 0, slots := 0, locals := 0 }, false)
def m_Tk_cutName : MR := (⟨"PlanDesk$Tokens", "cutName", "(LPlanDesk$Tape;I)I"⟩, prog_9_method_4_code, 5, some .int, { frames := 6, cells := 0, slots := 0, locals := 187 }, false)
def m_Tk_totalAt : MR := (⟨"PlanDesk$Tokens", "totalAt", "(LPlanDesk$Tape;II)I"⟩, prog_9_method_5_code, 3, some .int, { frames := 5, cells := 0, slots := 0, locals := 165 }, false)
def m_Tk_cutVariable : MR := (⟨"PlanDesk$Tokens", "cutVariable", "(LPlanDesk$Tape;I)I"⟩, prog_9_method_6_code, 4, some .int, { frames := 3, cells := 0, slots := 0, locals := 66 }, false)
def m_Tk_cutNumber : MR := (⟨"PlanDesk$Tokens", "cutNumber", "(LPlanDesk$Tape;I)I"⟩, prog_9_method_7_code, 4, some .int, { frames := 3, cells := 0, slots := 0, locals := 66 }, false)
def m_Tk_cutSign : MR := (⟨"PlanDesk$Tokens", "cutSign", "(LPlanDesk$Tape;I)I"⟩, prog_9_method_8_code, 4, some .int, { frames := 1, cells := 0, slots := 0, locals := 24 }, false)
def m_Tk_pairKind : MR := (⟨"PlanDesk$Tokens", "pairKind", "(II)I"⟩, prog_9_method_9_code, 3, some .int, { frames := 0, cells := 0, slots := 0, locals := 0 }, false)
def m_Tk_signKind : MR := (⟨"PlanDesk$Tokens", "signKind", "(I)I"⟩, prog_9_method_10_code, 1, some .int, { frames := 0, cells := 0, slots := 0, locals := 0 }, false)
def m_D_init : MR := (⟨"PlanDesk", "<init>", "()V"⟩, prog_1_method_1_code, 1, none, { frames := 4, cells := 76, slots := 5871, locals := 81 }, false)
def m_D_type : MR := (⟨"PlanDesk", "type", "(JI)Z"⟩, prog_1_method_2_code, 6, some .boolean, { frames := 1, cells := 0, slots := 0, locals := 22 }, false)
def m_D_program : MR := (⟨"PlanDesk", "program", "()I"⟩, prog_1_method_3_code, 3, some .int, { frames := 9, cells := 1, slots := 6, locals := 321 }, true)
def m_D_fault : MR := (⟨"PlanDesk", "fault", "(I)I"⟩, prog_1_method_4_code, 2, some .int, { frames := 0, cells := 0, slots := 0, locals := 0 }, false)
def m_D_predicates : MR := (⟨"PlanDesk", "predicates", "()I"⟩, prog_1_method_5_code, 1, some .int, { frames := 0, cells := 0, slots := 0, locals := 0 }, false)
def m_D_predicate : MR := (⟨"PlanDesk", "predicate", "(II)I"⟩, prog_1_method_6_code, 3, some .int, { frames := 2, cells := 0, slots := 0, locals := 45 }, false)
def m_D_hangs : MR := (⟨"PlanDesk", "hangs", "(II)Z"⟩, prog_1_method_7_code, 3, some .boolean, { frames := 1, cells := 0, slots := 0, locals := 22 }, false)
def m_D_rule : MR := (⟨"PlanDesk", "rule", "(II)I"⟩, prog_1_method_8_code, 4, some .int, { frames := 9, cells := 1, slots := 6, locals := 321 }, true)
def m_D_literal : MR := (⟨"PlanDesk", "literal", "(III)I"⟩, prog_1_method_9_code, 7, some .int, { frames := 9, cells := 1, slots := 6, locals := 321 }, true)
def m_D_byteOf : MR := (⟨"PlanDesk", "byteOf", "(JI)I"⟩, prog_1_method_10_code, 3, some .int, { frames := 0, cells := 0, slots := 0, locals := 0 }, false)
def m_D_letters : MR := (⟨"PlanDesk", "letters", "(J)I"⟩, prog_1_method_11_code, 3, some .int, { frames := 0, cells := 0, slots := 0, locals := 0 }, false)
def m_D_letter : MR := (⟨"PlanDesk", "letter", "(JI)I"⟩, prog_1_method_12_code, 4, some .int, { frames := 1, cells := 0, slots := 0, locals := 22 }, false)
def m_M_init : MR := (⟨"PlanDeskModel", "<init>", "()V"⟩, prog_11_method_1_code, 1, none, { frames := 1, cells := 38, slots := 10680, locals := 20 }, false)
def m_M_thrown : MR := (⟨"PlanDeskModel", "thrown", "()I"⟩, prog_11_method_2_code, 1, some .int, { frames := 0, cells := 0, slots := 0, locals := 0 }, false)
def m_M_raise : MR := (⟨"PlanDeskModel", "raise", "(I)I"⟩, prog_11_method_3_code, 2, some .int, { frames := 0, cells := 0, slots := 0, locals := 0 }, false)
def m_M_type : MR := (⟨"PlanDeskModel", "type", "(JI)Z"⟩, prog_11_method_4_code, 6, some .boolean, { frames := 0, cells := 0, slots := 0, locals := 0 }, false)
def m_M_see : MR := (⟨"PlanDeskModel", "see", "(I)I"⟩, prog_11_method_5_code, 2, some .int, { frames := 0, cells := 0, slots := 0, locals := 0 }, false)
def m_M_isDigit : MR := (⟨"PlanDeskModel", "isDigit", "(I)Z"⟩, prog_11_method_6_code, 1, some .boolean, { frames := 0, cells := 0, slots := 0, locals := 0 }, false)
def m_M_isSmall : MR := (⟨"PlanDeskModel", "isSmall", "(I)Z"⟩, prog_11_method_7_code, 1, some .boolean, { frames := 0, cells := 0, slots := 0, locals := 0 }, false)
def m_M_isGreat : MR := (⟨"PlanDeskModel", "isGreat", "(I)Z"⟩, prog_11_method_8_code, 1, some .boolean, { frames := 0, cells := 0, slots := 0, locals := 0 }, false)
def m_M_isPart : MR := (⟨"PlanDeskModel", "isPart", "(I)Z"⟩, prog_11_method_9_code, 1, some .boolean, { frames := 1, cells := 0, slots := 0, locals := 20 }, false)
def m_M_token : MR := (⟨"PlanDeskModel", "token", "(IIIJ)V"⟩, prog_11_method_10_code, 6, none, { frames := 0, cells := 0, slots := 0, locals := 0 }, false)
def m_M_packed : MR := (⟨"PlanDeskModel", "packed", "(IIIII)J"⟩, prog_11_method_11_code, 5, some .long, { frames := 0, cells := 0, slots := 0, locals := 0 }, false)
def m_M_wordOf : MR := (⟨"PlanDeskModel", "wordOf", "(J)I"⟩, prog_11_method_12_code, 2, some .int, { frames := 1, cells := 0, slots := 0, locals := 24 }, false)
def m_M_tokenize : MR := (⟨"PlanDeskModel", "tokenize", "()V"⟩, prog_11_method_13_code, 3, none, { frames := 3, cells := 0, slots := 0, locals := 73 }, false)
def m_M_oneToken : MR := (⟨"PlanDeskModel", "oneToken", "(I)I"⟩, prog_11_method_14_code, 9, some .int, { frames := 2, cells := 0, slots := 0, locals := 45 }, false)
def m_M_wrong : MR := (⟨"PlanDeskModel", "wrong", "(I)Z"⟩, prog_11_method_15_code, 2, some .boolean, { frames := 0, cells := 0, slots := 0, locals := 0 }, false)
def m_M_refuse : MR := (⟨"PlanDeskModel", "refuse", "()Z"⟩, prog_11_method_16_code, 1, some .boolean, { frames := 1, cells := 0, slots := 0, locals := 21 }, false)
def m_M_isSign : MR := (⟨"PlanDeskModel", "isSign", "(I)Z"⟩, prog_11_method_17_code, 2, some .boolean, { frames := 0, cells := 0, slots := 0, locals := 0 }, false)
def m_M_takes : MR := (⟨"PlanDeskModel", "takes", "(I)Z"⟩, prog_11_method_18_code, 2, some .boolean, { frames := 1, cells := 0, slots := 0, locals := 21 }, false)
def m_M_want : MR := (⟨"PlanDeskModel", "want", "(I)Z"⟩, prog_11_method_19_code, 2, some .boolean, { frames := 2, cells := 0, slots := 0, locals := 42 }, false)
def m_M_note : MR := (⟨"PlanDeskModel", "note", "(II)V"⟩, prog_11_method_20_code, 3, none, { frames := 0, cells := 0, slots := 0, locals := 0 }, false)
def m_M_readVariable : MR := (⟨"PlanDeskModel", "readVariable", "()Z"⟩, prog_11_method_21_code, 2, some .boolean, { frames := 2, cells := 0, slots := 0, locals := 41 }, false)
def m_M_readTerm : MR := (⟨"PlanDeskModel", "readTerm", "()Z"⟩, prog_11_method_22_code, 2, some .boolean, { frames := 3, cells := 0, slots := 0, locals := 62 }, false)
def m_M_predicateOf : MR := (⟨"PlanDeskModel", "predicateOf", "(JII)I"⟩, prog_11_method_23_code, 7, some .int, { frames := 1, cells := 0, slots := 0, locals := 22 }, false)
def m_M_isKnown : MR := (⟨"PlanDeskModel", "isKnown", "(J)Z"⟩, prog_11_method_24_code, 4, some .boolean, { frames := 0, cells := 0, slots := 0, locals := 0 }, false)
def m_M_readArguments : MR := (⟨"PlanDeskModel", "readArguments", "(ZZ)Z"⟩, prog_11_method_25_code, 5, some .boolean, { frames := 4, cells := 0, slots := 0, locals := 83 }, false)
def m_M_relation : MR := (⟨"PlanDeskModel", "relation", "()I"⟩, prog_11_method_26_code, 2, some .int, { frames := 0, cells := 0, slots := 0, locals := 0 }, false)
def m_M_lay : MR := (⟨"PlanDeskModel", "lay", "(II)V"⟩, prog_11_method_27_code, 3, none, { frames := 0, cells := 0, slots := 0, locals := 0 }, false)
def m_M_readLiteral : MR := (⟨"PlanDeskModel", "readLiteral", "()Z"⟩, prog_11_method_28_code, 6, some .boolean, { frames := 5, cells := 0, slots := 0, locals := 107 }, false)
def m_M_readBody : MR := (⟨"PlanDeskModel", "readBody", "()Z"⟩, prog_11_method_29_code, 1, some .boolean, { frames := 6, cells := 0, slots := 0, locals := 132 }, false)
def m_M_isBound : MR := (⟨"PlanDeskModel", "isBound", "(II)Z"⟩, prog_11_method_30_code, 3, some .boolean, { frames := 0, cells := 0, slots := 0, locals := 0 }, false)
def m_M_bind : MR := (⟨"PlanDeskModel", "bind", "(II)V"⟩, prog_11_method_31_code, 3, none, { frames := 0, cells := 0, slots := 0, locals := 0 }, false)
def m_M_lookBound : MR := (⟨"PlanDeskModel", "lookBound", "()V"⟩, prog_11_method_32_code, 5, none, { frames := 1, cells := 0, slots := 0, locals := 22 }, false)
def m_M_predicateSizeOf : MR := (⟨"PlanDeskModel", "predicateSizeOf", "(I)I"⟩, prog_11_method_33_code, 2, some .int, { frames := 0, cells := 0, slots := 0, locals := 0 }, false)
def m_M_beginClause : MR := (⟨"PlanDeskModel", "beginClause", "(I)V"⟩, prog_11_method_34_code, 2, none, { frames := 0, cells := 0, slots := 0, locals := 0 }, false)
def m_M_layHead : MR := (⟨"PlanDeskModel", "layHead", "()V"⟩, prog_11_method_35_code, 2, none, { frames := 0, cells := 0, slots := 0, locals := 0 }, false)
def m_M_findFact : MR := (⟨"PlanDeskModel", "findFact", "()I"⟩, prog_11_method_36_code, 4, some .int, { frames := 0, cells := 0, slots := 0, locals := 0 }, false)
def m_M_addFact : MR := (⟨"PlanDeskModel", "addFact", "()V"⟩, prog_11_method_37_code, 3, none, { frames := 0, cells := 0, slots := 0, locals := 0 }, false)
def m_M_readClause : MR := (⟨"PlanDeskModel", "readClause", "()Z"⟩, prog_11_method_38_code, 2, some .boolean, { frames := 7, cells := 0, slots := 0, locals := 152 }, false)
def m_M_isAtom : MR := (⟨"PlanDeskModel", "isAtom", "(I)Z"⟩, prog_11_method_39_code, 2, some .boolean, { frames := 0, cells := 0, slots := 0, locals := 0 }, false)
def m_M_lookHangs : MR := (⟨"PlanDeskModel", "lookHangs", "()V"⟩, prog_11_method_40_code, 4, none, { frames := 1, cells := 0, slots := 0, locals := 21 }, false)
def m_M_isBack : MR := (⟨"PlanDeskModel", "isBack", "(II)Z"⟩, prog_11_method_41_code, 3, some .boolean, { frames := 0, cells := 0, slots := 0, locals := 0 }, false)
def m_M_lookAbsence : MR := (⟨"PlanDeskModel", "lookAbsence", "()V"⟩, prog_11_method_42_code, 3, none, { frames := 2, cells := 0, slots := 0, locals := 44 }, false)
def m_M_lookStrata : MR := (⟨"PlanDeskModel", "lookStrata", "()V"⟩, prog_11_method_43_code, 6, none, { frames := 1, cells := 0, slots := 0, locals := 21 }, false)
def m_M_program : MR := (⟨"PlanDeskModel", "program", "()I"⟩, prog_11_method_44_code, 2, some .int, { frames := 8, cells := 0, slots := 0, locals := 173 }, false)
def m_M_fault : MR := (⟨"PlanDeskModel", "fault", "(I)I"⟩, prog_11_method_45_code, 2, some .int, { frames := 0, cells := 0, slots := 0, locals := 0 }, false)
def m_M_isKnownTerm : MR := (⟨"PlanDeskModel", "isKnownTerm", "(II)Z"⟩, prog_11_method_46_code, 3, some .boolean, { frames := 0, cells := 0, slots := 0, locals := 0 }, false)
def m_M_knownIn : MR := (⟨"PlanDeskModel", "knownIn", "(I)I"⟩, prog_11_method_47_code, 4, some .int, { frames := 1, cells := 0, slots := 0, locals := 22 }, false)
def m_M_many : MR := (⟨"PlanDeskModel", "many", "(I)I"⟩, prog_11_method_48_code, 3, some .int, { frames := 0, cells := 0, slots := 0, locals := 0 }, false)
def m_M_canAsk : MR := (⟨"PlanDeskModel", "canAsk", "(I)Z"⟩, prog_11_method_49_code, 3, some .boolean, { frames := 1, cells := 0, slots := 0, locals := 22 }, false)
def m_M_nextLiteral : MR := (⟨"PlanDeskModel", "nextLiteral", "(I)I"⟩, prog_11_method_50_code, 4, some .int, { frames := 2, cells := 0, slots := 0, locals := 45 }, false)
def m_M_plan : MR := (⟨"PlanDeskModel", "plan", "(I)V"⟩, prog_11_method_51_code, 8, none, { frames := 3, cells := 0, slots := 0, locals := 68 }, false)
def m_M_predicates : MR := (⟨"PlanDeskModel", "predicates", "()I"⟩, prog_11_method_52_code, 1, some .int, { frames := 0, cells := 0, slots := 0, locals := 0 }, false)
def m_M_letters : MR := (⟨"PlanDeskModel", "letters", "(J)I"⟩, prog_11_method_53_code, 5, some .int, { frames := 0, cells := 0, slots := 0, locals := 0 }, false)
def m_M_predicate : MR := (⟨"PlanDeskModel", "predicate", "(II)I"⟩, prog_11_method_54_code, 8, some .int, { frames := 1, cells := 0, slots := 0, locals := 24 }, false)
def m_M_hangs : MR := (⟨"PlanDeskModel", "hangs", "(II)Z"⟩, prog_11_method_55_code, 3, some .boolean, { frames := 0, cells := 0, slots := 0, locals := 0 }, false)
def m_M_rule : MR := (⟨"PlanDeskModel", "rule", "(II)I"⟩, prog_11_method_56_code, 6, some .int, { frames := 1, cells := 0, slots := 0, locals := 22 }, false)
def m_M_literal : MR := (⟨"PlanDeskModel", "literal", "(III)I"⟩, prog_11_method_57_code, 5, some .int, { frames := 4, cells := 0, slots := 0, locals := 95 }, false)
def m_L_program : MR := (⟨"PlanDeskLaw", "program", "(LPlanDesk;[J)I"⟩, method_3_code, 3, some .int, { frames := 10, cells := 1, slots := 6, locals := 343 }, false)
def m_L_rule : MR := (⟨"PlanDeskLaw", "rule", "(LPlanDesk;II[J)I"⟩, method_4_code, 5, some .int, { frames := 10, cells := 1, slots := 6, locals := 344 }, false)
def m_L_literal : MR := (⟨"PlanDeskLaw", "literal", "(LPlanDesk;III[J)I"⟩, method_5_code, 6, some .int, { frames := 10, cells := 1, slots := 6, locals := 347 }, false)
def m_L_law : MR := (⟨"PlanDeskLaw", "law", "([I)Z"⟩, code, 7, some .boolean, room_1, false)
def m_JI_bitCount : MR := (⟨"java/lang/Integer", "bitCount", "(I)I"⟩, prog_14_method_49_code, 1, some .int, { frames := 0, cells := 0, slots := 0, locals := 0 }, false)
def m_JM_max : MR := (⟨"java/lang/Math", "max", "(II)I"⟩, prog_15_method_65_code, 2, some .int, { frames := 0, cells := 0, slots := 0, locals := 0 }, false)
def m_JM_min : MR := (⟨"java/lang/Math", "min", "(II)I"⟩, prog_15_method_69_code, 2, some .int, { frames := 0, cells := 0, slots := 0, locals := 0 }, false)
def m_JP_ck : MR := (⟨"jdk/internal/util/Preconditions", "checkIndex", "(IILjava/util/function/BiFunction;)I"⟩, prog_23_method_11_code, 3, some .int, { frames := 0, cells := 0, slots := 0, locals := 0 }, false)
def m_JS_ck : MR := (⟨"java/lang/String", "checkIndex", "(II)V"⟩, prog_17_method_155_code, 2, none, { frames := 1, cells := 0, slots := 0, locals := 22 }, false)
def m_JL_charAt : MR := (⟨"java/lang/StringLatin1", "charAt", "([BI)C"⟩, prog_18_method_2_code, 2, some .char, { frames := 2, cells := 0, slots := 0, locals := 43 }, false)
def m_JS_coder : MR := (⟨"java/lang/String", "coder", "()B"⟩, prog_17_method_152_code, 1, some .byte, { frames := 0, cells := 0, slots := 0, locals := 0 }, false)
def m_JS_isLatin1 : MR := (⟨"java/lang/String", "isLatin1", "()Z"⟩, prog_17_method_154_code, 1, some .boolean, { frames := 0, cells := 0, slots := 0, locals := 0 }, false)
def m_JS_length : MR := (⟨"java/lang/String", "length", "()I"⟩, prog_17_method_54_code, 1, some .int, { frames := 1, cells := 0, slots := 0, locals := 20 }, false)
def m_JS_charAt : MR := (⟨"java/lang/String", "charAt", "(I)C"⟩, prog_17_method_56_code, 2, some .char, { frames := 3, cells := 0, slots := 0, locals := 64 }, false)
def AW : List Cond := lw_tbl.filter goodWord
theorem AW_good (w : Cond) (h : w ∈ AW) : (w.onTables && w.keeps) = true ∨ ∃ ty, w = .arrayClass ty := good_of_word (List.mem_filter.mp h).2
theorem AW_tbl {w : Cond} (h : w ∈ AW) : w ∈ lw_tbl := (List.mem_filter.mp h).1
theorem aw1 {w : Cond} {i : Nat} (h : tables_1_1[i]? = some w) (hg : goodWord w = true) : w ∈ AW := List.mem_filter.mpr ⟨List.mem_append_right _ (List.mem_append_left _ (List.mem_of_getElem? h)), hg⟩
theorem aw2 {w : Cond} {i : Nat} (h : tables_1_2[i]? = some w) (hg : goodWord w = true) : w ∈ AW := List.mem_filter.mpr ⟨List.mem_append_right _ (List.mem_append_right _ (List.mem_append_left _ (List.mem_of_getElem? h))), hg⟩
theorem aw3 {w : Cond} {i : Nat} (h : tables_1_3[i]? = some w) (hg : goodWord w = true) : w ∈ AW := List.mem_filter.mpr ⟨List.mem_append_right _ (List.mem_append_right _ (List.mem_append_right _ (List.mem_append_left _ (List.mem_of_getElem? h)))), hg⟩
theorem aw4 {w : Cond} {i : Nat} (h : tables_1_4[i]? = some w) (hg : goodWord w = true) : w ∈ AW := List.mem_filter.mpr ⟨List.mem_append_right _ (List.mem_append_right _ (List.mem_append_right _ (List.mem_append_right _ (List.mem_append_left _ (List.mem_of_getElem? h))))), hg⟩
theorem aw5 {w : Cond} {i : Nat} (h : tables_1_5[i]? = some w) (hg : goodWord w = true) : w ∈ AW := List.mem_filter.mpr ⟨List.mem_append_right _ (List.mem_append_right _ (List.mem_append_right _ (List.mem_append_right _ (List.mem_append_right _ (List.mem_append_left _ (List.mem_of_getElem? h)))))), hg⟩
theorem aw6 {w : Cond} {i : Nat} (h : tables_1_6[i]? = some w) (hg : goodWord w = true) : w ∈ AW := List.mem_filter.mpr ⟨List.mem_append_right _ (List.mem_append_right _ (List.mem_append_right _ (List.mem_append_right _ (List.mem_append_right _ (List.mem_append_right _ (List.mem_of_getElem? h)))))), hg⟩
theorem awp1 {y : MethodName} {n i : Nat} (h : lw_privs_1[i]? = some (y, n)) : Cond.selects y.cls y y ∈ AW := List.mem_filter.mpr ⟨List.mem_append_left _ (List.mem_map_of_mem (f := fun q : MethodName × Nat => Cond.selects q.1.cls q.1 q.1) (List.mem_append_left _ (List.mem_of_getElem? h))), rfl⟩
theorem awp2 {y : MethodName} {n i : Nat} (h : lw_privs_2[i]? = some (y, n)) : Cond.selects y.cls y y ∈ AW := List.mem_filter.mpr ⟨List.mem_append_left _ (List.mem_map_of_mem (f := fun q : MethodName × Nat => Cond.selects q.1.cls q.1 q.1) (List.mem_append_right _ (List.mem_append_left _ (List.mem_of_getElem? h)))), rfl⟩
theorem awp3 {y : MethodName} {n i : Nat} (h : lw_privs_3[i]? = some (y, n)) : Cond.selects y.cls y y ∈ AW := List.mem_filter.mpr ⟨List.mem_append_left _ (List.mem_map_of_mem (f := fun q : MethodName × Nat => Cond.selects q.1.cls q.1 q.1) (List.mem_append_right _ (List.mem_append_right _ (List.mem_append_left _ (List.mem_of_getElem? h))))), rfl⟩
theorem awp4 {y : MethodName} {n i : Nat} (h : lw_privs_4[i]? = some (y, n)) : Cond.selects y.cls y y ∈ AW := List.mem_filter.mpr ⟨List.mem_append_left _ (List.mem_map_of_mem (f := fun q : MethodName × Nat => Cond.selects q.1.cls q.1 q.1) (List.mem_append_right _ (List.mem_append_right _ (List.mem_append_right _ (List.mem_append_left _ (List.mem_of_getElem? h)))))), rfl⟩
theorem awp5 {y : MethodName} {n i : Nat} (h : lw_privs_5[i]? = some (y, n)) : Cond.selects y.cls y y ∈ AW := List.mem_filter.mpr ⟨List.mem_append_left _ (List.mem_map_of_mem (f := fun q : MethodName × Nat => Cond.selects q.1.cls q.1 q.1) (List.mem_append_right _ (List.mem_append_right _ (List.mem_append_right _ (List.mem_append_right _ (List.mem_of_getElem? h)))))), rfl⟩
end
section
/-! THE ABSTRACT WORLD: ints and longs are mathematical integers in the machine's range, objects and arrays are numbered from 1 on (address: base + number). -/
abbrev AV : Type := Int ⊕ (Int ⊕ Nat)
abbrev vi (x : Int) : AV := .inl x
abbrev vl (x : Int) : AV := .inr (.inl x)
abbrev vr (q : Nat) : AV := .inr (.inr q)
/-- ghosts: class ids and slot numbers; ids of the array classes; base; addresses of what isn't numbered -/
abbrev Gh : Type := va_G × (Nat → ClassId) × Nat × (Nat → Nat)
abbrev gD (G : Gh) : va_G := G.1
abbrev gC (G : Gh) : Nat → ClassId := G.2.1
abbrev gB (G : Gh) : Nat := G.2.2.1
abbrev gA (G : Gh) : Nat → Nat := G.2.2.2
/-- a world: how many cells, their shapes ((0, class) or (kind of array, length)), ints, longs, references -/
abbrev Wo : Type := Nat × (Nat → Nat × Nat) × (Nat → Nat → Int) × (Nat → Nat → Int) × (Nat → Nat → Nat)
def wn (w : Wo) : Nat := w.1
def wsh (w : Wo) (q : Nat) : Nat × Nat := w.2.1 q
def gI (w : Wo) (o k : Nat) : Int := w.2.2.1 o k
def gJ (w : Wo) (o k : Nat) : Int := w.2.2.2.1 o k
def gP (w : Wo) (o k : Nat) : Nat := w.2.2.2.2 o k
def up2 {α : Type} (f : Nat → Nat → α) (o k : Nat) (v : α) : Nat → Nat → α := fun b j => if b = o ∧ j = k then v else f b j
def uI (w : Wo) (o k : Nat) (v : Int) : Wo := (w.1, w.2.1, up2 w.2.2.1 o k v, w.2.2.2.1, w.2.2.2.2)
def uJ (w : Wo) (o k : Nat) (v : Int) : Wo := (w.1, w.2.1, w.2.2.1, up2 w.2.2.2.1 o k v, w.2.2.2.2)
def uP (w : Wo) (o k : Nat) (v : Nat) : Wo := (w.1, w.2.1, w.2.2.1, w.2.2.2.1, up2 w.2.2.2.2 o k v)
def zr2 {α : Type} (f : Nat → Nat → α) (z : α) (o : Nat) : Nat → Nat → α := fun b j => if b = o then z else f b j
/-- one new cell of this shape, its contents 0 -/
def nw (w : Wo) (sh : Nat × Nat) : Wo := (w.1 + 1, (fun q => if q = w.1 + 1 then sh else w.2.1 q), zr2 w.2.2.1 0 (w.1 + 1), zr2 w.2.2.2.1 0 (w.1 + 1), zr2 w.2.2.2.2 0 (w.1 + 1))
theorem gI_uI (w : Wo) (o k b j : Nat) (v : Int) : gI (uI w o k v) b j = if b = o ∧ j = k then v else gI w b j := rfl
theorem gI_uJ (w : Wo) (o k b j : Nat) (v : Int) : gI (uJ w o k v) b j = gI w b j := rfl
theorem gI_uP (w : Wo) (o k b j : Nat) (v : Nat) : gI (uP w o k v) b j = gI w b j := rfl
theorem gJ_uI (w : Wo) (o k b j : Nat) (v : Int) : gJ (uI w o k v) b j = gJ w b j := rfl
theorem gJ_uJ (w : Wo) (o k b j : Nat) (v : Int) : gJ (uJ w o k v) b j = if b = o ∧ j = k then v else gJ w b j := rfl
theorem gJ_uP (w : Wo) (o k b j : Nat) (v : Nat) : gJ (uP w o k v) b j = gJ w b j := rfl
theorem gP_uI (w : Wo) (o k b j : Nat) (v : Int) : gP (uI w o k v) b j = gP w b j := rfl
theorem gP_uJ (w : Wo) (o k b j : Nat) (v : Int) : gP (uJ w o k v) b j = gP w b j := rfl
theorem gP_uP (w : Wo) (o k b j : Nat) (v : Nat) : gP (uP w o k v) b j = if b = o ∧ j = k then v else gP w b j := rfl
abbrev inr32 (x : Int) : Prop := -2147483648 ≤ x ∧ x < 2147483648
abbrev inr64 (x : Int) : Prop := -9223372036854775808 ≤ x ∧ x < 9223372036854775808
def InS (w : Wo) : Prop := (∀ o k, inr32 (gI w o k)) ∧ ∀ o k, inr64 (gJ w o k)
theorem InS.uI {w : Wo} (h : InS w) {o k : Nat} {v : Int} (hv : inr32 v) : InS (uI w o k v) := by
  refine ⟨fun b j => ?_, h.2⟩
  rw [gI_uI]
  split
  · exact hv
  · exact h.1 b j
theorem InS.uJ {w : Wo} (h : InS w) {o k : Nat} {v : Int} (hv : inr64 v) : InS (uJ w o k v) := by
  refine ⟨h.1, fun b j => ?_⟩
  rw [gJ_uJ]
  split
  · exact hv
  · exact h.2 b j
theorem InS.nw {w : Wo} (h : InS w) (sh : Nat × Nat) : InS (nw w sh) := by
  refine ⟨fun b j => ?_, fun b j => ?_⟩
  · show inr32 (zr2 w.2.2.1 0 (w.1 + 1) b j)
    unfold zr2
    split
    · decide
    · exact h.1 b j
  · show inr64 (zr2 w.2.2.2.1 0 (w.1 + 1) b j)
    unfold zr2
    split
    · decide
    · exact h.2 b j
/-- cell q has this shape -/
def oq (w : Wo) (q : Nat) (sh : Nat × Nat) : Prop := 0 < q ∧ q ≤ wn w ∧ wsh w q = sh
/-- cell a is an array of kind t, i is one of its places -/
def inA (w : Wo) (a t : Nat) (i : Int) : Prop := 0 < a ∧ a ≤ wn w ∧ (wsh w a).1 = t ∧ 0 ≤ i ∧ i < (wsh w a).2 ∧ (wsh w a).2 < 2147483648
def okv : AV → Prop
  | .inl x => inr32 x
  | .inr (.inl x) => inr64 x
  | .inr (.inr _) => True
def cr (G : Gh) (q : Nat) : Option Nat := if q = 0 then none else if q ≤ 1000 then some (gB G + q) else some (gA G q)
def cv (G : Gh) : AV → Value
  | .inl x => .int (Int32.ofInt x)
  | .inr (.inl x) => .long (Int64.ofInt x)
  | .inr (.inr q) => va_rf (cr G q)
theorem cr_pos {G : Gh} {q : Nat} (h : 0 < q) (h2 : q ≤ 1000) : cr G q = some (gB G + q) := by
  unfold cr
  rw [if_neg (by omega), if_pos h2]
theorem cv_ref {G : Gh} {q : Nat} (h : 0 < q) (h2 : q ≤ 1000) : cv G (vr q) = .ref (gB G + q) := by
  show va_rf (cr G q) = _
  rw [cr_pos h h2]
  rfl
/-- a field's value as the cell holds it -/
def fv (G : Gh) (w : Wo) (q k : Nat) : Nat → Value
  | 2 => .long (Int64.ofInt (gJ w q k))
  | 5 => va_rf (cr G (gP w q k))
  | _ => .int (Int32.ofInt (gI w q k))
def fsL (G : Gh) (w : Wo) (q : Nat) (ty : Nat → Nat) (n : Nat) : List Value := (List.range n).map (fun k => fv G w q k (ty k))
theorem fsL_get {G : Gh} {w : Wo} {q : Nat} {ty : Nat → Nat} {n k : Nat} (h : k < n) : (fsL G w q ty n)[k]? = some (fv G w q k (ty k)) := by
  simp [fsL, h]
theorem fsL_len {G : Gh} {w : Wo} {q : Nat} {ty : Nat → Nat} {n : Nat} : (fsL G w q ty n).length = n := by simp [fsL]
def cE (G : Gh) (w : Wo) (q : Nat) : va_E := match (wsh w q).1 with
  | 0 => .inr ((wsh w q).2, fsL G w q (fty (wsh w q).2) (nf (wsh w q).2))
  | 2 => .inl (gC G 2, (wsh w q).2, .inr (.inl (fun j => Int64.ofInt (gJ w q j))))
  | 5 => .inl (gC G 5, (wsh w q).2, .inr (.inr (.inr (.inr (fun j => cr G (gP w q j))))))
  | t => .inl (gC G t, (wsh w q).2, .inl (fun j => Int32.ofInt (gI w q j)))
def wL (G : Gh) (w : Wo) : va_W := (List.range (wn w)).map (fun i => (gB G + (i + 1), cE G w (i + 1)))
theorem wL_get {G : Gh} {w : Wo} {q : Nat} (h : 0 < q) (h2 : q ≤ wn w) : (wL G w)[q - 1]? = some (gB G + q, cE G w q) := by
  have h3 : q - 1 < wn w := by omega
  have h4 : q - 1 + 1 = q := by omega
  simp [wL, h3, h4]
theorem wL_at {G : Gh} {w : Wo} {k : Nat} {x : Nat × va_E} (h : (wL G w)[k]? = some x) : k < wn w ∧ x = (gB G + (k + 1), cE G w (k + 1)) := by
  have hk : k < wn w := by
    have := (List.getElem?_eq_some_iff.mp h).1
    simpa [wL] using this
  refine ⟨hk, ?_⟩
  simp [wL, hk] at h
  exact h.symm
theorem wL_len (G : Gh) (w : Wo) : (wL G w).length = wn w := by simp [wL]
/-- what a method may change -/
def fr (B n sz : Nat) : Nat → Prop := fun q => (B < q ∧ q ≤ B + n) ∨ sz ≤ q
theorem wL_D {G : Gh} {w : Wo} {n0 sz : Nat} (h : wn w ≤ n0 ∨ sz ≤ gB G + n0 + 1) : va_D (fr (gB G) n0 sz) (wL G w) := by
  refine ⟨fun i j x y hx hy e => ?_, fun k x hx => ?_⟩
  · obtain ⟨-, rfl⟩ := wL_at hx
    obtain ⟨-, rfl⟩ := wL_at hy
    have e : gB G + (i + 1) = gB G + (j + 1) := e
    omega
  · obtain ⟨hk, rfl⟩ := wL_at hx
    show (_ ∧ _) ∨ _
    show (gB G < gB G + (k + 1) ∧ gB G + (k + 1) ≤ gB G + n0) ∨ sz ≤ gB G + (k + 1)
    omega
theorem cE_congr {G : Gh} {w w' : Wo} {q : Nat} (hs : wsh w' q = wsh w q) (hI : ∀ j, gI w' q j = gI w q j) (hJ : ∀ j, gJ w' q j = gJ w q j) (hP : ∀ j, gP w' q j = gP w q j) : cE G w' q = cE G w q := by
  have hf : ∀ (ty : Nat → Nat) (n : Nat), fsL G w' q ty n = fsL G w q ty n := by
    intro ty n
    unfold fsL
    refine List.map_congr_left (fun k _ => ?_)
    unfold fv
    split
    · rw [hJ]
    · rw [hP]
    · rw [hI]
  unfold cE
  rw [hs]
  split
  · rw [hf]
  · simp only [hJ]
  · simp only [hP]
  · simp only [hI]
/-- a list that is the world's but at one cell is the changed world's -/
theorem wL_set {G : Gh} {w w' : Wo} {q : Nat} {e : va_E} (h : 0 < q) (hn : wn w' = wn w) (he : cE G w' q = e) (ho : ∀ b, b ≠ q → cE G w' b = cE G w b) : (wL G w).set (q - 1) (gB G + q, e) = wL G w' := by
  apply List.ext_getElem?
  intro i
  rw [List.getElem?_set]
  by_cases hi : q - 1 = i
  · subst hi
    rw [if_pos rfl]
    by_cases hl : q ≤ wn w
    · rw [if_pos (by rw [wL_len]; omega), wL_get h (by rw [hn]; exact hl), he]
    · rw [if_neg (by rw [wL_len]; omega)]
      symm
      rw [List.getElem?_eq_none_iff, wL_len]
      omega
  · rw [if_neg hi]
    by_cases hl : i < wn w
    · have h1 := wL_get (G := G) (w := w) (q := i + 1) (by omega) (by omega)
      have h2 := wL_get (G := G) (w := w') (q := i + 1) (by omega) (by omega)
      rw [Nat.add_sub_cancel] at h1 h2
      rw [h1, h2, ho (i + 1) (by omega)]
    · rw [List.getElem?_eq_none (by rw [wL_len]; omega), List.getElem?_eq_none (by rw [wL_len, hn]; omega)]
theorem fsL_set {G : Gh} {w w' : Wo} {q : Nat} {ty : Nat → Nat} {n k : Nat} {v : Value} (hk : k < n) (hv : fv G w' q k (ty k) = v) (ho : ∀ j, j ≠ k → fv G w' q j (ty j) = fv G w q j (ty j)) : (fsL G w q ty n).set k v = fsL G w' q ty n := by
  apply List.ext_getElem?
  intro i
  rw [List.getElem?_set]
  by_cases hi : k = i
  · subst hi
    rw [if_pos rfl, if_pos (by rw [fsL_len]; exact hk), fsL_get hk, hv]
  · rw [if_neg hi]
    by_cases hl : i < n
    · rw [fsL_get hl, fsL_get hl, ho i (fun e => hi e.symm)]
    · rw [List.getElem?_eq_none (by rw [fsL_len]; omega), List.getElem?_eq_none (by rw [fsL_len]; omega)]
end
section
/-! THE LAYOUT (by program): what the constructors lay down -/
def NN : Nat := 117
def SHL : List (Nat × Nat) := [(9, 0), (0, 8), (0, 6), (3, 600), (0, 4), (0, 7), (1, 601), (1, 601), (2, 601), (0, 1), (0, 3), (2, 4), (1, 4), (5, 6), (2, 8), (1, 8), (1, 6), (1, 6), (1, 6), (0, 3), (2, 4), (1, 4), (0, 3), (2, 4), (1, 4), (0, 3), (2, 4), (1, 4), (0, 3), (2, 4), (1, 4), (0, 3), (2, 4), (1, 4), (0, 3), (2, 4), (1, 4), (0, 2), (1, 120), (2, 480), (0, 0), (0, 5), (1, 30), (1, 30), (1, 30), (1, 30), (1, 30), (1, 180), (1, 180), (1, 180), (1, 180), (1, 180), (1, 180), (2, 16), (1, 16), (1, 16), (1, 16), (1, 16), (1, 16), (0, 0), (0, 5), (1, 30), (1, 30), (1, 30), (1, 30), (1, 30), (1, 180), (1, 180), (1, 180), (1, 180), (1, 180), (1, 180), (2, 16), (1, 16), (1, 16), (1, 16), (1, 16), (1, 16), (0, 9), (1, 600), (1, 602), (1, 602), (1, 602), (2, 602), (1, 2), (2, 32), (1, 32), (1, 32), (1, 2), (1, 61), (1, 244), (2, 244), (1, 61), (1, 61), (1, 61), (1, 61), (1, 366), (1, 366), (1, 1464), (2, 1464), (1, 2), (1, 400), (2, 1600), (2, 9), (1, 9), (4, 9), (1, 4), (2, 4), (1, 366), (1, 366), (1, 61), (4, 256), (1, 6), (1, 6), (1, 6), (4, 9), (4, 6), (2, 1)]
def SHf (q : Nat) : Nat × Nat := SHL.getD q (9, 0)
def LYT : List (Nat × Nat × Nat) := [(1, 0, 2), (1, 1, 4), (2, 0, 3), (4, 0, 5), (4, 1, 9), (4, 2, 37), (5, 0, 6), (5, 1, 7), (5, 2, 8), (9, 0, 10), (9, 1, 13), (9, 7, 14), (9, 8, 15), (9, 9, 16), (9, 10, 17), (9, 11, 18), (10, 5, 11), (10, 6, 12), (13, 0, 19), (13, 1, 22), (13, 2, 25), (13, 3, 28), (13, 4, 31), (13, 5, 34), (19, 5, 20), (19, 6, 21), (22, 5, 23), (22, 6, 24), (25, 5, 26), (25, 6, 27), (28, 5, 29), (28, 6, 30), (31, 5, 32), (31, 6, 33), (34, 5, 35), (34, 6, 36), (37, 0, 38), (37, 1, 39), (40, 0, 41), (40, 2, 53), (40, 3, 54), (40, 4, 55), (40, 5, 56), (40, 6, 57), (40, 7, 58), (41, 1, 42), (41, 2, 43), (41, 3, 44), (41, 4, 45), (41, 5, 46), (41, 6, 47), (41, 7, 48), (41, 8, 49), (41, 9, 50), (41, 10, 51), (41, 11, 52), (59, 0, 60), (59, 2, 72), (59, 3, 73), (59, 4, 74), (59, 5, 75), (59, 6, 76), (59, 7, 77), (60, 1, 61), (60, 2, 62), (60, 3, 63), (60, 4, 64), (60, 5, 65), (60, 6, 66), (60, 7, 67), (60, 8, 68), (60, 9, 69), (60, 10, 70), (60, 11, 71), (78, 1, 79), (78, 6, 80), (78, 7, 81), (78, 8, 82), (78, 9, 83), (78, 12, 84), (78, 13, 85), (78, 14, 86), (78, 15, 87), (78, 16, 88), (78, 17, 89), (78, 18, 90), (78, 19, 91), (78, 20, 92), (78, 21, 93), (78, 22, 94), (78, 23, 95), (78, 24, 96), (78, 25, 97), (78, 26, 98), (78, 27, 99), (78, 28, 100), (78, 29, 101), (78, 30, 102), (78, 32, 103), (78, 33, 104), (78, 34, 105), (78, 39, 106), (78, 40, 107), (78, 47, 108), (78, 48, 109), (78, 49, 110), (78, 50, 111), (78, 51, 112), (78, 52, 113), (78, 53, 114), (78, 54, 115), (78, 55, 116)]
def isLt (r : Nat) : Prop := r = 10 ∨ r = 19 ∨ r = 22 ∨ r = 25 ∨ r = 28 ∨ r = 31 ∨ r = 34
def isBk (r : Nat) : Prop := r = 40 ∨ r = 59
def isRl (r : Nat) : Prop := r = 41 ∨ r = 60
def LY (w : Wo) : Prop := wn w = NN ∧ (∀ q, wsh w q = SHf q) ∧ (∀ e ∈ LYT, gP w e.1 e.2.1 = e.2.2) ∧ isBk (gP w 1 2) ∧ isBk (gP w 1 3)
theorem SHf_lt (q : Nat) : (SHf q).2 < 2147483648 := by
  have h : ∀ x ∈ SHL, x.2 < 2147483648 := by decide +kernel
  unfold SHf
  rw [List.getD_eq_getElem?_getD]
  cases hq : SHL[q]? with
  | none => decide
  | some x => exact h x (List.mem_of_getElem? hq)
theorem ly_o {w : Wo} (h : LY w) {q : Nat} {sh : Nat × Nat} (hb : 0 < q ∧ q ≤ NN ∧ SHf q = sh) : oq w q sh := ⟨hb.1, by rw [h.1]; exact hb.2.1, (h.2.1 q).trans hb.2.2⟩
theorem ly_a {w : Wo} (h : LY w) {a t n : Nat} (hb : 0 < a ∧ a ≤ NN ∧ SHf a = (t, n)) {i N : Int} (hi : 0 ≤ i ∧ i < N) (hN : N ≤ (n : Int) := by decide) : inA w a t i := by
  have e := h.2.1 a
  have hl := SHf_lt a
  rw [← e] at hl
  refine ⟨hb.1, by rw [h.1]; exact hb.2.1, by rw [e, hb.2.2], hi.1, ?_, hl⟩
  rw [e, hb.2.2]
  exact Int.lt_of_lt_of_le hi.2 hN
theorem ly_r {w : Wo} (h : LY w) {q j v : Nat} (hm : (q, j, v) ∈ LYT) : gP w q j = v := h.2.2.1 _ hm
theorem ly_book {w : Wo} (h : LY w) : isBk (gP w 1 2) := h.2.2.2.1
theorem ly_draft {w : Wo} (h : LY w) : isBk (gP w 1 3) := h.2.2.2.2
theorem gP_uPn {w : Wo} {o k b j : Nat} {v : Nat} (h : ¬ (b = o ∧ j = k)) : gP (uP w o k v) b j = gP w b j := if_neg h
theorem ly_pbook {w : Wo} {v : Nat} (h : LY w) (hv : isBk v) : LY (uP w 1 2 v) := by
  have hn : ∀ e ∈ LYT, ¬ (e.1 = 1 ∧ e.2.1 = 2) := by decide +kernel
  refine ⟨h.1, h.2.1, fun e he => by rw [gP_uPn (hn e he)]; exact h.2.2.1 e he, ?_, ?_⟩
  · show isBk (up2 w.2.2.2.2 1 2 v 1 2)
    rw [show up2 w.2.2.2.2 1 2 v 1 2 = v from if_pos ⟨rfl, rfl⟩]
    exact hv
  · rw [gP_uPn (by decide)]
    exact ly_draft h
theorem ly_pdraft {w : Wo} {v : Nat} (h : LY w) (hv : isBk v) : LY (uP w 1 3 v) := by
  have hn : ∀ e ∈ LYT, ¬ (e.1 = 1 ∧ e.2.1 = 3) := by decide +kernel
  refine ⟨h.1, h.2.1, fun e he => by rw [gP_uPn (hn e he)]; exact h.2.2.1 e he, ?_, ?_⟩
  · rw [gP_uPn (by decide)]
    exact ly_book h
  · show isBk (up2 w.2.2.2.2 1 3 v 1 3)
    rw [show up2 w.2.2.2.2 1 3 v 1 3 = v from if_pos ⟨rfl, rfl⟩]
    exact hv
theorem ly_ptarget {w : Wo} {v : Nat} {p : Prop} (h : LY w) (_ : p) : LY (uP w 4 3 v) := by
  have hn : ∀ e ∈ LYT, ¬ (e.1 = 4 ∧ e.2.1 = 3) := by decide +kernel
  exact ⟨h.1, h.2.1, fun e he => by rw [gP_uPn (hn e he)]; exact h.2.2.1 e he, by rw [gP_uPn (by decide)]; exact ly_book h, by rw [gP_uPn (by decide)]; exact ly_draft h⟩
theorem lt_o {r : Nat} (h : isLt r) : 0 < r ∧ r ≤ NN ∧ SHf r = (0, 3) := by
  rcases h with rfl | rfl | rfl | rfl | rfl | rfl | rfl <;> decide
theorem lt_r5 {w : Wo} {r : Nat} (hl : LY w) (h : isLt r) : gP w r 5 = r + 1 := by
  rcases h with rfl | rfl | rfl | rfl | rfl | rfl | rfl <;> exact ly_r hl (by decide +kernel)
theorem lt_a5 {r : Nat} (h : isLt r) : 0 < r + 1 ∧ r + 1 ≤ NN ∧ SHf (r + 1) = (2, 4) := by
  rcases h with rfl | rfl | rfl | rfl | rfl | rfl | rfl <;> decide
theorem lt_r6 {w : Wo} {r : Nat} (hl : LY w) (h : isLt r) : gP w r 6 = r + 2 := by
  rcases h with rfl | rfl | rfl | rfl | rfl | rfl | rfl <;> exact ly_r hl (by decide +kernel)
theorem lt_a6 {r : Nat} (h : isLt r) : 0 < r + 2 ∧ r + 2 ≤ NN ∧ SHf (r + 2) = (1, 4) := by
  rcases h with rfl | rfl | rfl | rfl | rfl | rfl | rfl <;> decide
theorem bk_o {r : Nat} (h : isBk r) : 0 < r ∧ r ≤ NN ∧ SHf r = (0, 0) := by
  rcases h with rfl | rfl <;> decide
theorem bk_r0 {w : Wo} {r : Nat} (hl : LY w) (h : isBk r) : gP w r 0 = r + 1 := by
  rcases h with rfl | rfl <;> exact ly_r hl (by decide +kernel)
theorem bk_m0 {r : Nat} (h : isBk r) : isRl (r + 1) := by
  rcases h with rfl | rfl <;> (unfold isRl; decide)
theorem bk_r2 {w : Wo} {r : Nat} (hl : LY w) (h : isBk r) : gP w r 2 = r + 13 := by
  rcases h with rfl | rfl <;> exact ly_r hl (by decide +kernel)
theorem bk_a2 {r : Nat} (h : isBk r) : 0 < r + 13 ∧ r + 13 ≤ NN ∧ SHf (r + 13) = (2, 16) := by
  rcases h with rfl | rfl <;> decide
theorem bk_r3 {w : Wo} {r : Nat} (hl : LY w) (h : isBk r) : gP w r 3 = r + 14 := by
  rcases h with rfl | rfl <;> exact ly_r hl (by decide +kernel)
theorem bk_a3 {r : Nat} (h : isBk r) : 0 < r + 14 ∧ r + 14 ≤ NN ∧ SHf (r + 14) = (1, 16) := by
  rcases h with rfl | rfl <;> decide
theorem bk_r4 {w : Wo} {r : Nat} (hl : LY w) (h : isBk r) : gP w r 4 = r + 15 := by
  rcases h with rfl | rfl <;> exact ly_r hl (by decide +kernel)
theorem bk_a4 {r : Nat} (h : isBk r) : 0 < r + 15 ∧ r + 15 ≤ NN ∧ SHf (r + 15) = (1, 16) := by
  rcases h with rfl | rfl <;> decide
theorem bk_r5 {w : Wo} {r : Nat} (hl : LY w) (h : isBk r) : gP w r 5 = r + 16 := by
  rcases h with rfl | rfl <;> exact ly_r hl (by decide +kernel)
theorem bk_a5 {r : Nat} (h : isBk r) : 0 < r + 16 ∧ r + 16 ≤ NN ∧ SHf (r + 16) = (1, 16) := by
  rcases h with rfl | rfl <;> decide
theorem bk_r6 {w : Wo} {r : Nat} (hl : LY w) (h : isBk r) : gP w r 6 = r + 17 := by
  rcases h with rfl | rfl <;> exact ly_r hl (by decide +kernel)
theorem bk_a6 {r : Nat} (h : isBk r) : 0 < r + 17 ∧ r + 17 ≤ NN ∧ SHf (r + 17) = (1, 16) := by
  rcases h with rfl | rfl <;> decide
theorem bk_r7 {w : Wo} {r : Nat} (hl : LY w) (h : isBk r) : gP w r 7 = r + 18 := by
  rcases h with rfl | rfl <;> exact ly_r hl (by decide +kernel)
theorem bk_a7 {r : Nat} (h : isBk r) : 0 < r + 18 ∧ r + 18 ≤ NN ∧ SHf (r + 18) = (1, 16) := by
  rcases h with rfl | rfl <;> decide
theorem rl_o {r : Nat} (h : isRl r) : 0 < r ∧ r ≤ NN ∧ SHf r = (0, 5) := by
  rcases h with rfl | rfl <;> decide
theorem rl_r1 {w : Wo} {r : Nat} (hl : LY w) (h : isRl r) : gP w r 1 = r + 1 := by
  rcases h with rfl | rfl <;> exact ly_r hl (by decide +kernel)
theorem rl_a1 {r : Nat} (h : isRl r) : 0 < r + 1 ∧ r + 1 ≤ NN ∧ SHf (r + 1) = (1, 30) := by
  rcases h with rfl | rfl <;> decide
theorem rl_r2 {w : Wo} {r : Nat} (hl : LY w) (h : isRl r) : gP w r 2 = r + 2 := by
  rcases h with rfl | rfl <;> exact ly_r hl (by decide +kernel)
theorem rl_a2 {r : Nat} (h : isRl r) : 0 < r + 2 ∧ r + 2 ≤ NN ∧ SHf (r + 2) = (1, 30) := by
  rcases h with rfl | rfl <;> decide
theorem rl_r3 {w : Wo} {r : Nat} (hl : LY w) (h : isRl r) : gP w r 3 = r + 3 := by
  rcases h with rfl | rfl <;> exact ly_r hl (by decide +kernel)
theorem rl_a3 {r : Nat} (h : isRl r) : 0 < r + 3 ∧ r + 3 ≤ NN ∧ SHf (r + 3) = (1, 30) := by
  rcases h with rfl | rfl <;> decide
theorem rl_r4 {w : Wo} {r : Nat} (hl : LY w) (h : isRl r) : gP w r 4 = r + 4 := by
  rcases h with rfl | rfl <;> exact ly_r hl (by decide +kernel)
theorem rl_a4 {r : Nat} (h : isRl r) : 0 < r + 4 ∧ r + 4 ≤ NN ∧ SHf (r + 4) = (1, 30) := by
  rcases h with rfl | rfl <;> decide
theorem rl_r5 {w : Wo} {r : Nat} (hl : LY w) (h : isRl r) : gP w r 5 = r + 5 := by
  rcases h with rfl | rfl <;> exact ly_r hl (by decide +kernel)
theorem rl_a5 {r : Nat} (h : isRl r) : 0 < r + 5 ∧ r + 5 ≤ NN ∧ SHf (r + 5) = (1, 30) := by
  rcases h with rfl | rfl <;> decide
theorem rl_r6 {w : Wo} {r : Nat} (hl : LY w) (h : isRl r) : gP w r 6 = r + 6 := by
  rcases h with rfl | rfl <;> exact ly_r hl (by decide +kernel)
theorem rl_a6 {r : Nat} (h : isRl r) : 0 < r + 6 ∧ r + 6 ≤ NN ∧ SHf (r + 6) = (1, 180) := by
  rcases h with rfl | rfl <;> decide
theorem rl_r7 {w : Wo} {r : Nat} (hl : LY w) (h : isRl r) : gP w r 7 = r + 7 := by
  rcases h with rfl | rfl <;> exact ly_r hl (by decide +kernel)
theorem rl_a7 {r : Nat} (h : isRl r) : 0 < r + 7 ∧ r + 7 ≤ NN ∧ SHf (r + 7) = (1, 180) := by
  rcases h with rfl | rfl <;> decide
theorem rl_r8 {w : Wo} {r : Nat} (hl : LY w) (h : isRl r) : gP w r 8 = r + 8 := by
  rcases h with rfl | rfl <;> exact ly_r hl (by decide +kernel)
theorem rl_a8 {r : Nat} (h : isRl r) : 0 < r + 8 ∧ r + 8 ≤ NN ∧ SHf (r + 8) = (1, 180) := by
  rcases h with rfl | rfl <;> decide
theorem rl_r9 {w : Wo} {r : Nat} (hl : LY w) (h : isRl r) : gP w r 9 = r + 9 := by
  rcases h with rfl | rfl <;> exact ly_r hl (by decide +kernel)
theorem rl_a9 {r : Nat} (h : isRl r) : 0 < r + 9 ∧ r + 9 ≤ NN ∧ SHf (r + 9) = (1, 180) := by
  rcases h with rfl | rfl <;> decide
theorem rl_r10 {w : Wo} {r : Nat} (hl : LY w) (h : isRl r) : gP w r 10 = r + 10 := by
  rcases h with rfl | rfl <;> exact ly_r hl (by decide +kernel)
theorem rl_a10 {r : Nat} (h : isRl r) : 0 < r + 10 ∧ r + 10 ≤ NN ∧ SHf (r + 10) = (1, 180) := by
  rcases h with rfl | rfl <;> decide
theorem rl_r11 {w : Wo} {r : Nat} (hl : LY w) (h : isRl r) : gP w r 11 = r + 11 := by
  rcases h with rfl | rfl <;> exact ly_r hl (by decide +kernel)
theorem rl_a11 {r : Nat} (h : isRl r) : 0 < r + 11 ∧ r + 11 ≤ NN ∧ SHf (r + 11) = (1, 180) := by
  rcases h with rfl | rfl <;> decide
theorem body_n {i : Int} (hi : 0 ≤ i ∧ i < 6) : i.toNat = 0 ∨ i.toNat = 1 ∨ i.toNat = 2 ∨ i.toNat = 3 ∨ i.toNat = 4 ∨ i.toNat = 5 := by omega
theorem body_r {w : Wo} {i : Int} (hi : 0 ≤ i ∧ i < 6) (hl : LY w) : gP w 13 i.toNat = 19 + 3 * i.toNat := by
  rcases body_n hi with h | h | h | h | h | h <;> (rw [h]; exact ly_r hl (by decide +kernel))
theorem body_m {i : Int} (hi : 0 ≤ i ∧ i < 6) : isLt (19 + 3 * i.toNat) := by
  rcases body_n hi with h | h | h | h | h | h <;> (rw [h]; unfold isLt; decide)
end
section
/-- the strings that the class reads: where they stand, what they hold -/
def stT : List (String × Nat × String) := [("PlanDesk$Tokens", 73, "count"), ("PlanDesk$Tokens", 74, "sum"), ("PlanDesk$Tokens", 76, "least"), ("PlanDesk$Tokens", 78, "most"), ("PlanDesk$Tokens", 63, "is"), ("PlanDesk", 51, "the tape has a FAULT"), ("PlanDesk", 102, "no such RULE"), ("PlanDesk", 119, "a RULE has no such number"), ("PlanDesk", 121, "no such LITERAL"), ("PlanDesk", 138, "a LITERAL has no such number")]
def stB : List (List Int32) := [[99, 111, 117, 110, 116], [115, 117, 109], [108, 101, 97, 115, 116], [109, 111, 115, 116], [105, 115]]
def stN : List Nat := [5, 3, 5, 4, 2]
def thZ : List (String × String × String) := [("java/lang/Throwable", "UNASSIGNED_STACK", "[Ljava/lang/StackTraceElement;"), ("java/lang/Throwable", "SUPPRESSED_SENTINEL", "Ljava/util/List;")]
/-- links of private constructors -/
def NWL : List (String × Nat × MethodName × String) := [("PlanDesk", 9, ⟨"PlanDesk$Tape", "<init>", "()V"⟩, "PlanDesk"), ("PlanDesk", 18, ⟨"PlanDesk$Reader", "<init>", "()V"⟩, "PlanDesk"), ("PlanDesk$Reader", 11, ⟨"PlanDesk$Tokens", "<init>", "()V"⟩, "PlanDesk"), ("PlanDesk$Clause", 11, ⟨"PlanDesk$Literal", "<init>", "()V"⟩, "PlanDesk"), ("PlanDesk$Reader", 27, ⟨"PlanDesk$Facts", "<init>", "()V"⟩, "PlanDesk"), ("PlanDesk", 25, ⟨"PlanDesk$Book", "<init>", "()V"⟩, "PlanDesk"), ("PlanDesk$Book", 11, ⟨"PlanDesk$Rules", "<init>", "()V"⟩, "PlanDesk")]
def SK (G : Gh) (s : State) : Prop := vk_S 5 stN stB (fun i => gA G (1001 + i)) (fun i => gA G (2001 + i)) (fun q => gB G < q) s s.heap ∧ (∀ (i : Nat) (t : String × Nat × String), stT[i]? = some t → vk_R t.1 t.2.1 t.2.2 (gA G (1001 + i)) s) ∧ va_Z "java/lang/String" "COMPACT_STRINGS" "Z" (.int 1) (fun q => gB G < q) s s.heap ∧ (∃ q, (q = 0 ∨ q = 3000) ∧ va_Z "jdk/internal/util/Preconditions" "SIOOBE_FORMATTER" "Ljava/util/function/BiFunction;" (va_rf (cr G q)) (fun q => gB G < q) s s.heap) ∧ (∀ t ∈ thZ, ∃ r : Option Nat, va_Z t.1 t.2.1 t.2.2 (va_rf r) (fun q => gB G < q) s s.heap) ∧ ∀ t ∈ NWL, va_Nw (.methodLinkNest t.1 t.2.1 t.2.2.1 t.2.2.2) s
theorem SK.moved {G : Gh} {s U : State} (hW : s.WarmedH U.vm) (hk : ∀ a : Nat, a < s.heap.size → ¬ gB G < a → U.heap[a]? = s.heap[a]?) (h : SK G s) : SK G U := by
  obtain ⟨h1, h2, h3, ⟨q, h4, h5⟩, h6, h7⟩ := h
  refine ⟨(vk_S.moved hW.alike h1).kept hk, fun i t hi => (h2 i t hi).warm hW, (va_Z.moved hW.alike h3).kept hk, ⟨q, h4, (va_Z.moved hW.alike h5).kept hk⟩, fun t ht => ?_, fun t ht => (h7 t ht).warmM hW⟩
  obtain ⟨r, hr⟩ := h6 t ht
  exact ⟨r, (va_Z.moved hW.alike hr).kept hk⟩
theorem SK.calling {G : Gh} {U : State} {g : JFrame} {mk : MethodId} {a : Array Value} (h : SK G U) : SK G (U.calling g mk a) := by
  obtain ⟨h1, h2, h3, ⟨q, h4, h5⟩, h6, h7⟩ := h
  refine ⟨(vk_S.moved (u := U) (U := U.calling g mk a) (Vm.Alike.refl U.vm) h1).kept (fun _ _ _ => rfl), fun i t hi => (h2 i t hi).same rfl, (va_Z.moved (u := U) (U := U.calling g mk a) (Vm.Alike.refl U.vm) h3).kept (fun _ _ _ => rfl), ⟨q, h4, (va_Z.moved (u := U) (U := U.calling g mk a) (Vm.Alike.refl U.vm) h5).kept (fun _ _ _ => rfl)⟩, fun t ht => ?_, fun t ht => (h7 t ht).same rfl rfl⟩
  obtain ⟨r, hr⟩ := h6 t ht
  exact ⟨r, (va_Z.moved (u := U) (U := U.calling g mk a) (Vm.Alike.refl U.vm) hr).kept (fun _ _ _ => rfl)⟩
/-! THE JUDGEMENT Wp: from this place of method m, with these locals, this stack and this world, the method comes to its end with Q. -/
def tysG (G : Gh) : List (ClassId × FieldType) := [(gC G 1, .int), (gC G 2, .long), (gC G 3, .byte), (gC G 4, .boolean), (gC G 5, .object RLit)]
def KK (G : Gh) (s : State) : Prop := va_K (gD G) clT (tysG G) s ∧ SK G s ∧ gB G < s.heap.size
def Inv (b : Bool) (G : Gh) (w : Wo) (H : Heap) : Prop := match b with
  | true => LY w
  | false => H.size = gB G + wn w + 1
def lvh (G : Gh) (ls : Array Slot) (n : Nat) (L : List (Nat × AV)) : Prop := lv_has ls n (L.map (fun q => (q.1, cv G q.2)))
def Wy (b : Bool) (G : Gh) (n0 : Nat) (s : State) (n : Nat) (L : List (Nat × AV)) (S : List AV) (w : Wo) (H : Heap) (locs : List Loc) (ls : Array Slot) : Prop :=
  lvh G ls n L ∧ (∀ q ∈ L, okv q.2) ∧ (∀ v ∈ S, okv v) ∧ va_P (gD G) clT (wL G w) H ∧ InS w ∧ Inv b G w H ∧ va_S (fr (gB G) n0 s.heap.size) s.heap H locs ∧ n0 ≤ wn w ∧ (wn w ≤ n0 ∨ s.heap.size ≤ gB G + n0 + 1) ∧ wn w ≤ 1000
/-- what is left on the stack for an end: the answer, or nothing (also where something is thrown) -/
def rav : Option AV → List AV
  | none => []
  | some (.inr (.inr _)) => []
  | some v => [v]
def RetAt (m : MR) (pc : Nat) : Option AV → Prop
  | none => decode (cd m) pc = .ok (.return_, 1) ∧ rtt m = none
  | some (.inl x) => decode (cd m) pc = .ok (.ireturn, 1) ∧ ∃ ty, rtt m = some ty ∧ narrow ty (.int (Int32.ofInt x)) = .int (Int32.ofInt x)
  | some (.inr (.inl _)) => decode (cd m) pc = .ok (.lreturn, 1) ∧ rtt m = some .long
  | some (.inr (.inr q)) => thr m = true ∧ q = pc
def Wx (m : MR) (Q : Option AV → Wo → Prop) (p : Program) (l : Launch) (e : Env) (s : State) (mm : MethodId) (args : Array Value) (below : List Frame) (meth : Method) (c : Code) (bF : Bool) (G : Gh) (n0 : Nat) (Z : State → Prop) : Prop :=
  p.tables.exec = Jvm.exec ∧ c.code = cd m ∧ c.maxLocals = nLo m ∧ s.vm.findClass (yy m).cls = some mm.cls ∧ (∀ w ∈ AW, w.before args s = true) ∧ KK G s ∧ meth.name = (yy m).name ∧
  ∀ (H : Heap) (locs : List Loc) (ls : Array Slot) (pc : Nat) (k : Nat × Nat) (r : Option AV) (w : Wo), Q r w → Wy bF G n0 s (nLo m) [] (rav r) w H locs ls → k.1 ≤ (rmm m).cells → k.2 ≤ (rmm m).slots → RetAt m pc r →
    W p l e (rmm m) s mm args below meth c H locs k.1 k.2 Z (F0 mm pc ls ((rav r).map (cv G)))
def WpG (b bF : Bool) (m : MR) (pc : Nat) (L : List (Nat × AV)) (S : List AV) (k : Nat × Nat) (w : Wo) (Q : Option AV → Wo → Prop) : Prop :=
  ∀ (p : Program) (l : Launch) (e : Env) (s : State) (mm : MethodId) (args : Array Value) (below : List Frame) (meth : Method) (c : Code) (G : Gh) (n0 : Nat) (Z : State → Prop) (H : Heap) (locs : List Loc) (ls : Array Slot),
    Wx m Q p l e s mm args below meth c bF G n0 Z → Wy b G n0 s (nLo m) L S w H locs ls → W p l e (rmm m) s mm args below meth c H locs k.1 k.2 Z (F0 mm pc ls (S.map (cv G)))
abbrev Wp := WpG true true
abbrev Wc := WpG false false
theorem Inv.uI {b : Bool} {G : Gh} {w : Wo} {H H1 : Heap} (h : Inv b G w H) (hz : H1.size = H.size) (o k : Nat) (v : Int) : Inv b G (uI w o k v) H1 := by
  cases b
  · exact Eq.trans hz h
  · exact h
theorem Inv.uJ {b : Bool} {G : Gh} {w : Wo} {H H1 : Heap} (h : Inv b G w H) (hz : H1.size = H.size) (o k : Nat) (v : Int) : Inv b G (uJ w o k v) H1 := by
  cases b
  · exact Eq.trans hz h
  · exact h
section Rows
variable {b bF : Bool} {m : MR} {pc : Nat} {L L' : List (Nat × AV)} {S : List AV} {k : Nat × Nat} {w : Wo} {Q : Option AV → Wo → Prop}
theorem Wy.stk {G : Gh} {n0 : Nat} {s : State} {n : Nat} {H : Heap} {locs : List Loc} {ls : Array Slot} {S' : List AV} (Y : Wy b G n0 s n L S w H locs ls) (h : ∀ v ∈ S', okv v) : Wy b G n0 s n L S' w H locs ls := ⟨Y.1, Y.2.1, h, Y.2.2.2⟩
theorem okv_cons {v : AV} {S : List AV} (h : okv v) (hs : ∀ x ∈ S, okv x) : ∀ x ∈ v :: S, okv x := fun x hx => by
  rcases List.mem_cons.mp hx with rfl | h2
  · exact h
  · exact hs x h2
theorem okv_tl {v : AV} {S : List AV} (h : ∀ x ∈ v :: S, okv x) : ∀ x ∈ S, okv x := fun x hx => h x (List.mem_cons_of_mem _ hx)
theorem okv_hd {v : AV} {S : List AV} (h : ∀ x ∈ v :: S, okv x) : okv v := h v List.mem_cons_self
/-- what is on the stack is in its range -/
theorem wp_rng {x : Int} (h : inr32 x → WpG b bF m pc L (vi x :: S) k w Q) : WpG b bF m pc L (vi x :: S) k w Q := fun p l e s mm args below meth c G n0 Z H locs ls X Y => h (okv_hd Y.2.2.1) p l e s mm args below meth c G n0 Z H locs ls X Y
theorem wp_rngL {x : Int} (i : Nat) {j : Nat} (hj : L[i]? = some (j, vi x)) (h : inr32 x → WpG b bF m pc L S k w Q) : WpG b bF m pc L S k w Q := fun p l e s mm args below meth c G n0 Z H locs ls X Y => h (Y.2.1 _ (List.mem_of_getElem? hj)) p l e s mm args below meth c G n0 Z H locs ls X Y
theorem wp_rngJ {x : Int} (i : Nat) {j : Nat} (hj : L[i]? = some (j, vl x)) (h : inr64 x → WpG b bF m pc L S k w Q) : WpG b bF m pc L S k w Q := fun p l e s mm args below meth c G n0 Z H locs ls X Y => h (Y.2.1 _ (List.mem_of_getElem? hj)) p l e s mm args below meth c G n0 Z H locs ls X Y
theorem wp_ins (h : InS w → WpG b bF m pc L S k w Q) : WpG b bF m pc L S k w Q := fun p l e s mm args below meth c G n0 Z H locs ls X Y => h Y.2.2.2.2.1 p l e s mm args below meth c G n0 Z H locs ls X Y
theorem wp_ly (h : LY w → WpG true bF m pc L S k w Q) : WpG true bF m pc L S k w Q := fun p l e s mm args below meth c G n0 Z H locs ls X Y => h Y.2.2.2.2.2.1 p l e s mm args below meth c G n0 Z H locs ls X Y
theorem wp_seal (hl : LY w) (h : WpG true bF m pc L S k w Q) : WpG false bF m pc L S k w Q := fun p l e s mm args below meth c G n0 Z H locs ls X Y => h p l e s mm args below meth c G n0 Z H locs ls X ⟨Y.1, Y.2.1, Y.2.2.1, Y.2.2.2.1, Y.2.2.2.2.1, hl, Y.2.2.2.2.2.2⟩
def pkA (L : List (Nat × AV)) (ks : List Nat) : List (Nat × AV) := ks.filterMap (fun k => L[k]?)
theorem wp_pick (ks : List Nat) (hl : pkA L ks = L') (h : WpG b bF m pc L' S k w Q) : WpG b bF m pc L S k w Q := by
  intro p l e s mm args below meth c G n0 Z H locs ls X Y
  refine h p l e s mm args below meth c G n0 Z H locs ls X ⟨lv_sub Y.1 ks ?_, fun q hq => ?_, Y.2.2⟩
  · rw [← hl]
    unfold lv_pick pkA
    rw [List.map_filterMap]
    congr 1
    funext i
    rw [List.getElem?_map]
  · rw [← hl] at hq
    obtain ⟨i, -, hi⟩ := List.mem_filterMap.mp hq
    exact Y.2.1 q (List.mem_of_getElem? hi)
theorem wp_iconst {n : Int} (hd : decode (cd m) pc = .ok (.iconst n, 1)) (hr : inr32 n) (h : WpG b bF m (pc + 1) L (vi n :: S) k w Q) : WpG b bF m pc L S k w Q := fun p l e s mm args below meth c G n0 Z H locs ls X Y =>
  lv_iconst X.1 X.2.1 hd rfl (h p l e s mm args below meth c G n0 Z H locs ls X (Y.stk (okv_cons hr Y.2.2.1)))
theorem wp_bipush {n : Int} (hd : decode (cd m) pc = .ok (.bipush n, 2)) (hv : (Int8.ofInt n).toInt32 = Int32.ofInt n) (hr : inr32 n) (h : WpG b bF m (pc + 2) L (vi n :: S) k w Q) : WpG b bF m pc L S k w Q := fun p l e s mm args below meth c G n0 Z H locs ls X Y =>
  lv_bipush X.1 X.2.1 hd hv (h p l e s mm args below meth c G n0 Z H locs ls X (Y.stk (okv_cons hr Y.2.2.1)))
theorem wp_sipush {n : Int} (hd : decode (cd m) pc = .ok (.sipush n, 3)) (hv : (Int16.ofInt n).toInt32 = Int32.ofInt n) (hr : inr32 n) (h : WpG b bF m (pc + 3) L (vi n :: S) k w Q) : WpG b bF m pc L S k w Q := fun p l e s mm args below meth c G n0 Z H locs ls X Y =>
  lv_sipush X.1 X.2.1 hd hv (h p l e s mm args below meth c G n0 Z H locs ls X (Y.stk (okv_cons hr Y.2.2.1)))
theorem wp_lconst {n : Fin 2} (hd : decode (cd m) pc = .ok (.lconst n, 1)) {x : Int} (hv : Int64.ofNat (n : Nat) = Int64.ofInt x) (hr : inr64 x) (h : WpG b bF m (pc + 1) L (vl x :: S) k w Q) : WpG b bF m pc L S k w Q := fun p l e s mm args below meth c G n0 Z H locs ls X Y =>
  lv_lconst X.1 X.2.1 hd hv (h p l e s mm args below meth c G n0 Z H locs ls X (Y.stk (okv_cons hr Y.2.2.1)))
theorem wp_ldc {idx : Nat} (hd : decode (cd m) pc = .ok (.ldc idx, 2)) {x : Int} (hc : Jvm.Cond.constant (yy m).cls idx (Int32.ofInt x) ∈ AW) (hr : inr32 x) (h : WpG b bF m (pc + 2) L (vi x :: S) k w Q) : WpG b bF m pc L S k w Q := fun p l e s mm args below meth c G n0 Z H locs ls X Y =>
  lv_ldc X.1 X.2.1 X.2.2.2.1 (X.2.2.2.2.1 _ hc) hd (h p l e s mm args below meth c G n0 Z H locs ls X (Y.stk (okv_cons hr Y.2.2.1)))
theorem wp_ldc2 {idx : Nat} (hd : decode (cd m) pc = .ok (.ldc2_w idx, 3)) {x : Int} (hc : Jvm.Cond.constantLong (yy m).cls idx (Int64.ofInt x) ∈ AW) (hr : inr64 x) (h : WpG b bF m (pc + 3) L (vl x :: S) k w Q) : WpG b bF m pc L S k w Q := fun p l e s mm args below meth c G n0 Z H locs ls X Y =>
  lv_ldc2 X.1 X.2.1 X.2.2.2.1 (X.2.2.2.2.1 _ hc) hd (h p l e s mm args below meth c G n0 Z H locs ls X (Y.stk (okv_cons hr Y.2.2.1)))
theorem lvh_at {G : Gh} {ls : Array Slot} {n i : Nat} {v : AV} (h : lvh G ls n L) (j : Nat) (hj : L[j]? = some (i, v)) : ls[i]? = some (.val (cv G v)) := lv_at h j (by rw [List.getElem?_map, hj]; rfl)
theorem wp_iload_n {kk : Fin 4} (hd : decode (cd m) pc = .ok (.iload_n kk, 1)) {i : Nat} (hi : (kk : Nat) = i) (j : Nat) {x : Int} (hj : L[j]? = some (i, vi x)) (h : WpG b bF m (pc + 1) L (vi x :: S) k w Q) : WpG b bF m pc L S k w Q := fun p l e s mm args below meth c G n0 Z H locs ls X Y =>
  lv_iload_n X.1 X.2.1 hd hi (lvh_at Y.1 j hj) (h p l e s mm args below meth c G n0 Z H locs ls X (Y.stk (okv_cons (Y.2.1 _ (List.mem_of_getElem? hj)) Y.2.2.1)))
theorem wp_iload {i : Nat} (hd : decode (cd m) pc = .ok (.iload i, 2)) (j : Nat) {x : Int} (hj : L[j]? = some (i, vi x)) (h : WpG b bF m (pc + 2) L (vi x :: S) k w Q) : WpG b bF m pc L S k w Q := fun p l e s mm args below meth c G n0 Z H locs ls X Y =>
  lv_iload X.1 X.2.1 hd (lvh_at Y.1 j hj) (h p l e s mm args below meth c G n0 Z H locs ls X (Y.stk (okv_cons (Y.2.1 _ (List.mem_of_getElem? hj)) Y.2.2.1)))
theorem wp_lload_n {kk : Fin 4} (hd : decode (cd m) pc = .ok (.lload_n kk, 1)) {i : Nat} (hi : (kk : Nat) = i) (j : Nat) {x : Int} (hj : L[j]? = some (i, vl x)) (h : WpG b bF m (pc + 1) L (vl x :: S) k w Q) : WpG b bF m pc L S k w Q := fun p l e s mm args below meth c G n0 Z H locs ls X Y =>
  lv_lload_n X.1 X.2.1 hd hi (lvh_at Y.1 j hj) (h p l e s mm args below meth c G n0 Z H locs ls X (Y.stk (okv_cons (Y.2.1 _ (List.mem_of_getElem? hj)) Y.2.2.1)))
theorem wp_lload {i : Nat} (hd : decode (cd m) pc = .ok (.lload i, 2)) (j : Nat) {x : Int} (hj : L[j]? = some (i, vl x)) (h : WpG b bF m (pc + 2) L (vl x :: S) k w Q) : WpG b bF m pc L S k w Q := fun p l e s mm args below meth c G n0 Z H locs ls X Y =>
  lv_lload X.1 X.2.1 hd (lvh_at Y.1 j hj) (h p l e s mm args below meth c G n0 Z H locs ls X (Y.stk (okv_cons (Y.2.1 _ (List.mem_of_getElem? hj)) Y.2.2.1)))
theorem wp_aload_n {kk : Fin 4} (hd : decode (cd m) pc = .ok (.aload_n kk, 1)) {i : Nat} (hi : (kk : Nat) = i) (j : Nat) {q : Nat} (hj : L[j]? = some (i, vr q)) (h : WpG b bF m (pc + 1) L (vr q :: S) k w Q) : WpG b bF m pc L S k w Q := fun p l e s mm args below meth c G n0 Z H locs ls X Y => by
  have h1 := lvh_at Y.1 j hj
  have h2 := h p l e s mm args below meth c G n0 Z H locs ls X (Y.stk (okv_cons trivial Y.2.2.1))
  have e1 : (vr q :: S).map (cv G) = va_rf (cr G q) :: S.map (cv G) := rfl
  rw [e1] at h2
  have h1 : ls[i]? = some (.val (va_rf (cr G q))) := h1
  cases hc : cr G q with
  | none => rw [hc] at h1 h2; exact lv_aload_nN X.1 X.2.1 hd hi h1 h2
  | some a => rw [hc] at h1 h2; exact lv_aload_n X.1 X.2.1 hd hi h1 h2
theorem wp_aload {i : Nat} (hd : decode (cd m) pc = .ok (.aload i, 2)) (j : Nat) {q : Nat} (hj : L[j]? = some (i, vr q)) (h : WpG b bF m (pc + 2) L (vr q :: S) k w Q) : WpG b bF m pc L S k w Q := fun p l e s mm args below meth c G n0 Z H locs ls X Y => by
  have h1 := lvh_at Y.1 j hj
  have h2 := h p l e s mm args below meth c G n0 Z H locs ls X (Y.stk (okv_cons trivial Y.2.2.1))
  have e1 : (vr q :: S).map (cv G) = va_rf (cr G q) :: S.map (cv G) := rfl
  rw [e1] at h2
  have h1 : ls[i]? = some (.val (va_rf (cr G q))) := h1
  cases hc : cr G q with
  | none => rw [hc] at h1 h2; exact lv_aloadN X.1 X.2.1 hd h1 h2
  | some a => rw [hc] at h1 h2; exact lv_aload X.1 X.2.1 hd h1 h2
def isl : AV → Bool
  | .inr (.inl _) => true
  | _ => false
theorem cat_cv (G : Gh) (v : AV) : ((cv G v).category == 2) = isl v := by
  rcases v with x | x | q
  · rfl
  · rfl
  · show ((va_rf (cr G q)).category == 2) = false
    cases cr G q <;> rfl
def st1 (L : List (Nat × AV)) (i : Nat) (v : AV) : List (Nat × AV) := (i, v) :: L.filter (fun q => !(q.1 == i) && !(q.1 + 1 == i && isl q.2))
def st2 (L : List (Nat × AV)) (i : Nat) (v : AV) : List (Nat × AV) := (i, v) :: L.filter (fun q => !(q.1 == i) && (!(q.1 == i + 1) && !(q.1 + 1 == i && isl q.2)))
theorem st1_map (G : Gh) (L : List (Nat × AV)) (i : Nat) (v : AV) : (i, cv G v) :: (L.map (fun q => (q.1, cv G q.2))).filter (fun q => !(q.1 == i) && !(q.1 + 1 == i && q.2.category == 2)) = (st1 L i v).map (fun q => (q.1, cv G q.2)) := by
  unfold st1
  rw [List.map_cons, List.filter_map]
  congr 2
  refine List.filter_congr (fun q _ => ?_)
  show (!(q.1 == i) && !(q.1 + 1 == i && (cv G q.2).category == 2)) = _
  rw [cat_cv]
theorem st2_map (G : Gh) (L : List (Nat × AV)) (i : Nat) (v : AV) : (i, cv G v) :: (L.map (fun q => (q.1, cv G q.2))).filter (fun q => !(q.1 == i) && (!(q.1 == i + 1) && !(q.1 + 1 == i && q.2.category == 2))) = (st2 L i v).map (fun q => (q.1, cv G q.2)) := by
  unfold st2
  rw [List.map_cons, List.filter_map]
  congr 2
  refine List.filter_congr (fun q _ => ?_)
  show (!(q.1 == i) && (!(q.1 == i + 1) && !(q.1 + 1 == i && (cv G q.2).category == 2))) = _
  rw [cat_cv]
theorem Wy.sto {G : Gh} {n0 : Nat} {s : State} {n : Nat} {H : Heap} {locs : List Loc} {ls ls' : Array Slot} {v : AV} {i : Nat} (Y : Wy b G n0 s n L (v :: S) w H locs ls) (hs : ∀ q ∈ L', q = (i, v) ∨ q ∈ L) (hl : lvh G ls' n L') : Wy b G n0 s n L' S w H locs ls' :=
  ⟨hl, fun q hq => by rcases hs q hq with rfl | h
                      · exact okv_hd Y.2.2.1
                      · exact Y.2.1 q h, okv_tl Y.2.2.1, Y.2.2.2⟩
theorem st1_in {L : List (Nat × AV)} {i : Nat} {v : AV} : ∀ q ∈ st1 L i v, q = (i, v) ∨ q ∈ L := fun q hq => by
  rcases List.mem_cons.mp hq with h | h
  · exact Or.inl h
  · exact Or.inr (List.mem_filter.mp h).1
theorem st2_in {L : List (Nat × AV)} {i : Nat} {v : AV} : ∀ q ∈ st2 L i v, q = (i, v) ∨ q ∈ L := fun q hq => by
  rcases List.mem_cons.mp hq with h | h
  · exact Or.inl h
  · exact Or.inr (List.mem_filter.mp h).1
theorem wp_istore_n {kk : Fin 4} (hd : decode (cd m) pc = .ok (.istore_n kk, 1)) {i : Nat} (hi : (kk : Nat) = i) {x : Int} (hl : st1 L i (vi x) = L') (hn : i < nLo m) (h : WpG b bF m (pc + 1) L' S k w Q) : WpG b bF m pc L (vi x :: S) k w Q := fun p l e s mm args below meth c G n0 Z H locs ls X Y =>
  lv_istore_n X.1 X.2.1 hd hi Y.1 hn (st1_map G L i (vi x)) (fun ls' h' => h p l e s mm args below meth c G n0 Z H locs ls' X (hl ▸ Y.sto st1_in h'))
theorem wp_istore {i : Nat} (hd : decode (cd m) pc = .ok (.istore i, 2)) {x : Int} (hl : st1 L i (vi x) = L') (hn : i < nLo m) (h : WpG b bF m (pc + 2) L' S k w Q) : WpG b bF m pc L (vi x :: S) k w Q := fun p l e s mm args below meth c G n0 Z H locs ls X Y =>
  lv_istore X.1 X.2.1 hd Y.1 hn (st1_map G L i (vi x)) (fun ls' h' => h p l e s mm args below meth c G n0 Z H locs ls' X (hl ▸ Y.sto st1_in h'))
theorem wp_lstore_n {kk : Fin 4} (hd : decode (cd m) pc = .ok (.lstore_n kk, 1)) {i : Nat} (hi : (kk : Nat) = i) {x : Int} (hl : st2 L i (vl x) = L') (hn : i + 1 < nLo m) (h : WpG b bF m (pc + 1) L' S k w Q) : WpG b bF m pc L (vl x :: S) k w Q := fun p l e s mm args below meth c G n0 Z H locs ls X Y =>
  lv_lstore_n X.1 X.2.1 hd hi Y.1 hn (st2_map G L i (vl x)) (fun ls' h' => h p l e s mm args below meth c G n0 Z H locs ls' X (hl ▸ Y.sto st2_in h'))
theorem wp_lstore {i : Nat} (hd : decode (cd m) pc = .ok (.lstore i, 2)) {x : Int} (hl : st2 L i (vl x) = L') (hn : i + 1 < nLo m) (h : WpG b bF m (pc + 2) L' S k w Q) : WpG b bF m pc L (vl x :: S) k w Q := fun p l e s mm args below meth c G n0 Z H locs ls X Y =>
  lv_lstore X.1 X.2.1 hd Y.1 hn (st2_map G L i (vl x)) (fun ls' h' => h p l e s mm args below meth c G n0 Z H locs ls' X (hl ▸ Y.sto st2_in h'))
theorem wp_astore_n {kk : Fin 4} (hd : decode (cd m) pc = .ok (.astore_n kk, 1)) {i : Nat} (hi : (kk : Nat) = i) {q : Nat} (hl : st1 L i (vr q) = L') (hn : i < nLo m) (h : WpG b bF m (pc + 1) L' S k w Q) : WpG b bF m pc L (vr q :: S) k w Q := fun p l e s mm args below meth c G n0 Z H locs ls X Y => by
  have hm := st1_map G L i (vr q)
  show W p l e (rmm m) s mm args below meth c H locs k.1 k.2 Z (F0 mm pc ls (va_rf (cr G q) :: S.map (cv G)))
  have hm : (i, va_rf (cr G q)) :: (L.map (fun q => (q.1, cv G q.2))).filter (fun q => !(q.1 == i) && !(q.1 + 1 == i && q.2.category == 2)) = (st1 L i (vr q)).map (fun q => (q.1, cv G q.2)) := hm
  have kk2 : ∀ ls' : Array Slot, lv_has ls' (nLo m) ((st1 L i (vr q)).map (fun q => (q.1, cv G q.2))) → W p l e (rmm m) s mm args below meth c H locs k.1 k.2 Z (F0 mm (pc + 1) ls' (S.map (cv G))) := fun ls' h' => h p l e s mm args below meth c G n0 Z H locs ls' X (hl ▸ Y.sto st1_in h')
  cases hc : cr G q with
  | none => rw [hc] at hm; exact lv_astore_nN X.1 X.2.1 hd hi Y.1 hn hm kk2
  | some a => rw [hc] at hm; exact lv_astore_n X.1 X.2.1 hd hi Y.1 hn hm kk2
theorem wp_astore {i : Nat} (hd : decode (cd m) pc = .ok (.astore i, 2)) {q : Nat} (hl : st1 L i (vr q) = L') (hn : i < nLo m) (h : WpG b bF m (pc + 2) L' S k w Q) : WpG b bF m pc L (vr q :: S) k w Q := fun p l e s mm args below meth c G n0 Z H locs ls X Y => by
  have hm := st1_map G L i (vr q)
  show W p l e (rmm m) s mm args below meth c H locs k.1 k.2 Z (F0 mm pc ls (va_rf (cr G q) :: S.map (cv G)))
  have hm : (i, va_rf (cr G q)) :: (L.map (fun q => (q.1, cv G q.2))).filter (fun q => !(q.1 == i) && !(q.1 + 1 == i && q.2.category == 2)) = (st1 L i (vr q)).map (fun q => (q.1, cv G q.2)) := hm
  have kk2 : ∀ ls' : Array Slot, lv_has ls' (nLo m) ((st1 L i (vr q)).map (fun q => (q.1, cv G q.2))) → W p l e (rmm m) s mm args below meth c H locs k.1 k.2 Z (F0 mm (pc + 2) ls' (S.map (cv G))) := fun ls' h' => h p l e s mm args below meth c G n0 Z H locs ls' X (hl ▸ Y.sto st1_in h')
  cases hc : cr G q with
  | none => rw [hc] at hm; exact lv_astoreN X.1 X.2.1 hd Y.1 hn hm kk2
  | some a => rw [hc] at hm; exact lv_astore X.1 X.2.1 hd Y.1 hn hm kk2
theorem wp_iinc {i : Nat} {n : Int} (hd : decode (cd m) pc = .ok (.iinc i n, 3)) (j : Nat) {x : Int} (hj : L[j]? = some (i, vi x)) (hl : st1 L i (vi (x + n)) = L') (hn : i < nLo m) (ho : inr32 (x + n)) (h : WpG b bF m (pc + 3) L' S k w Q) : WpG b bF m pc L S k w Q := fun p l e s mm args below meth c G n0 Z H locs ls X Y =>
  lv_iinc X.1 X.2.1 hd Y.1 (by rw [List.getElem?_map, hj]; rfl) (by rw [Int32.ofInt_add]) hn (st1_map G L i (vi (x + n))) (fun ls' h' => h p l e s mm args below meth c G n0 Z H locs ls' X (hl ▸ (Y.stk (S' := vi (x + n) :: S) (okv_cons ho Y.2.2.1)).sto st1_in h'))
end Rows
end
section
section Rows
variable {b bF : Bool} {m : MR} {pc : Nat} {L L' : List (Nat × AV)} {S : List AV} {k : Nat × Nat} {w : Wo} {Q : Option AV → Wo → Prop}
def b_iand (x y : Int) : Int := (Int32.ofInt x &&& Int32.ofInt y).toInt
def b_ior (x y : Int) : Int := (Int32.ofInt x ||| Int32.ofInt y).toInt
def b_ixor (x y : Int) : Int := (Int32.ofInt x ^^^ Int32.ofInt y).toInt
def b_ishl (x y : Int) : Int := (Int32.ofInt x <<< (Int32.ofInt y &&& 31)).toInt
def b_ishr (x y : Int) : Int := (Int32.ofInt x >>> (Int32.ofInt y &&& 31)).toInt
def b_iushr (x y : Int) : Int := ((Int32.ofInt x).toUInt32 >>> ((Int32.ofInt y).toUInt32 &&& Int32.toUInt32 31)).toInt32.toInt
def b_land (x y : Int) : Int := (Int64.ofInt x &&& Int64.ofInt y).toInt
def b_lor (x y : Int) : Int := (Int64.ofInt x ||| Int64.ofInt y).toInt
def b_lshl (x y : Int) : Int := (Int64.ofInt x <<< ((Int32.ofInt y).toInt64 &&& 63)).toInt
def b_lshr (x y : Int) : Int := (Int64.ofInt x >>> ((Int32.ofInt y).toInt64 &&& 63)).toInt
def b_lushr (x y : Int) : Int := ((Int64.ofInt x).toUInt64 >>> ((Int32.ofInt y).toInt64.toUInt64 &&& Int64.toUInt64 63)).toInt64.toInt
def b_l2i (x : Int) : Int := (Int64.ofInt x).toInt32.toInt
def b_lcmp (x y : Int) : Int := if y < x then 1 else if x = y then 0 else -1
theorem r32 (x : Int32) : inr32 x.toInt := ⟨x.le_toInt, x.toInt_lt⟩
theorem r64 (x : Int64) : inr64 x.toInt := ⟨x.le_toInt, x.toInt_lt⟩
theorem i32_lt {x y : Int} (hx : inr32 x) (hy : inr32 y) : Int32.ofInt x < Int32.ofInt y ↔ x < y := by
  rw [Int32.lt_iff_toInt_lt, Int32.toInt_ofInt_of_le hx.1 hx.2, Int32.toInt_ofInt_of_le hy.1 hy.2]
theorem i32_le {x y : Int} (hx : inr32 x) (hy : inr32 y) : Int32.ofInt x ≤ Int32.ofInt y ↔ x ≤ y := by
  rw [Int32.le_iff_toInt_le, Int32.toInt_ofInt_of_le hx.1 hx.2, Int32.toInt_ofInt_of_le hy.1 hy.2]
theorem i32_eq {x y : Int} (hx : inr32 x) (hy : inr32 y) : Int32.ofInt x = Int32.ofInt y ↔ x = y := by
  rw [← Int32.toInt_inj, Int32.toInt_ofInt_of_le hx.1 hx.2, Int32.toInt_ofInt_of_le hy.1 hy.2]
theorem i64_lt {x y : Int} (hx : inr64 x) (hy : inr64 y) : Int64.ofInt x < Int64.ofInt y ↔ x < y := by
  rw [Int64.lt_iff_toInt_lt, Int64.toInt_ofInt_of_le hx.1 hx.2, Int64.toInt_ofInt_of_le hy.1 hy.2]
theorem i64_eq {x y : Int} (hx : inr64 x) (hy : inr64 y) : Int64.ofInt x = Int64.ofInt y ↔ x = y := by
  rw [← Int64.toInt_inj, Int64.toInt_ofInt_of_le hx.1 hx.2, Int64.toInt_ofInt_of_le hy.1 hy.2]
theorem i32_cl {x : Int} (h0 : 0 ≤ x) (h1 : x < 2147483648) : (Int32.ofInt x).toNatClampNeg = x.toNat := Int32.toNatClampNeg_ofInt_of_le (by omega) h1
theorem i32_in {x : Int} {n : Nat} (h0 : 0 ≤ x) (h1 : x < n) (hn : n < 2147483648) : vp_in (Int32.ofInt x) n := by
  rw [vp_in_iff, Int32.toInt_ofInt_of_le (by omega) (by omega)]
  exact ⟨h0, h1⟩
theorem wp_iadd {x y : Int} (hd : decode (cd m) pc = .ok (.iadd, 1)) (ho : inr32 (x + y)) (h : WpG b bF m (pc + 1) L (vi (x + y) :: S) k w Q) : WpG b bF m pc L (vi y :: vi x :: S) k w Q := fun p l e s mm args below meth c G n0 Z H locs ls X Y => by
  have h2 := h p l e s mm args below meth c G n0 Z H locs ls X (Y.stk (okv_cons ho (okv_tl (okv_tl Y.2.2.1))))
  refine lv_iadd X.1 X.2.1 hd ?_
  rw [← Int32.ofInt_add]
  exact h2
theorem wp_isub {x y : Int} (hd : decode (cd m) pc = .ok (.isub, 1)) (ho : inr32 (x - y)) (h : WpG b bF m (pc + 1) L (vi (x - y) :: S) k w Q) : WpG b bF m pc L (vi y :: vi x :: S) k w Q := fun p l e s mm args below meth c G n0 Z H locs ls X Y => by
  have h2 := h p l e s mm args below meth c G n0 Z H locs ls X (Y.stk (okv_cons ho (okv_tl (okv_tl Y.2.2.1))))
  refine lv_isub X.1 X.2.1 hd ?_
  rw [← Int32.ofInt_sub]
  exact h2
theorem wp_imul {x y : Int} (hd : decode (cd m) pc = .ok (.imul, 1)) (ho : inr32 (x * y)) (h : WpG b bF m (pc + 1) L (vi (x * y) :: S) k w Q) : WpG b bF m pc L (vi y :: vi x :: S) k w Q := fun p l e s mm args below meth c G n0 Z H locs ls X Y => by
  have h2 := h p l e s mm args below meth c G n0 Z H locs ls X (Y.stk (okv_cons ho (okv_tl (okv_tl Y.2.2.1))))
  refine lv_imul X.1 X.2.1 hd ?_
  rw [← Int32.ofInt_mul]
  exact h2
theorem wp_ladd {x y : Int} (hd : decode (cd m) pc = .ok (.ladd, 1)) (ho : inr64 (x + y)) (h : WpG b bF m (pc + 1) L (vl (x + y) :: S) k w Q) : WpG b bF m pc L (vl y :: vl x :: S) k w Q := fun p l e s mm args below meth c G n0 Z H locs ls X Y => by
  have h2 := h p l e s mm args below meth c G n0 Z H locs ls X (Y.stk (okv_cons ho (okv_tl (okv_tl Y.2.2.1))))
  refine lv_ladd X.1 X.2.1 hd ?_
  rw [← Int64.ofInt_add]
  exact h2
theorem wp_lsub {x y : Int} (hd : decode (cd m) pc = .ok (.lsub, 1)) (ho : inr64 (x - y)) (h : WpG b bF m (pc + 1) L (vl (x - y) :: S) k w Q) : WpG b bF m pc L (vl y :: vl x :: S) k w Q := fun p l e s mm args below meth c G n0 Z H locs ls X Y => by
  have h2 := h p l e s mm args below meth c G n0 Z H locs ls X (Y.stk (okv_cons ho (okv_tl (okv_tl Y.2.2.1))))
  refine lv_lsub X.1 X.2.1 hd ?_
  rw [← Int64.ofInt_sub]
  exact h2
theorem wp_lmul {x y : Int} (hd : decode (cd m) pc = .ok (.lmul, 1)) (ho : inr64 (x * y)) (h : WpG b bF m (pc + 1) L (vl (x * y) :: S) k w Q) : WpG b bF m pc L (vl y :: vl x :: S) k w Q := fun p l e s mm args below meth c G n0 Z H locs ls X Y => by
  have h2 := h p l e s mm args below meth c G n0 Z H locs ls X (Y.stk (okv_cons ho (okv_tl (okv_tl Y.2.2.1))))
  refine lv_lmul X.1 X.2.1 hd ?_
  rw [← Int64.ofInt_mul]
  exact h2
theorem wp_lneg {x : Int} (hd : decode (cd m) pc = .ok (.lneg, 1)) (ho : inr64 (-x)) (h : WpG b bF m (pc + 1) L (vl (-x) :: S) k w Q) : WpG b bF m pc L (vl x :: S) k w Q := fun p l e s mm args below meth c G n0 Z H locs ls X Y => by
  have h2 := h p l e s mm args below meth c G n0 Z H locs ls X (Y.stk (okv_cons ho (okv_tl Y.2.2.1)))
  refine lv_lneg X.1 X.2.1 hd ?_
  rw [← Int64.ofInt_neg]
  exact h2
theorem wp_iand {x y : Int} (hd : decode (cd m) pc = .ok (.iand, 1)) (h : WpG b bF m (pc + 1) L (vi (b_iand x y) :: S) k w Q) : WpG b bF m pc L (vi y :: vi x :: S) k w Q := fun p l e s mm args below meth c G n0 Z H locs ls X Y => by
  have h2 := h p l e s mm args below meth c G n0 Z H locs ls X (Y.stk (okv_cons (r32 _) (okv_tl (okv_tl Y.2.2.1))))
  refine lv_iand X.1 X.2.1 hd ?_
  have e1 : (vi (b_iand x y) :: S).map (cv G) = .int (Int32.ofInt (b_iand x y)) :: S.map (cv G) := rfl
  rw [e1, b_iand, Int32.ofInt_toInt] at h2
  exact h2
theorem wp_ior {x y : Int} (hd : decode (cd m) pc = .ok (.ior, 1)) (h : WpG b bF m (pc + 1) L (vi (b_ior x y) :: S) k w Q) : WpG b bF m pc L (vi y :: vi x :: S) k w Q := fun p l e s mm args below meth c G n0 Z H locs ls X Y => by
  have h2 := h p l e s mm args below meth c G n0 Z H locs ls X (Y.stk (okv_cons (r32 _) (okv_tl (okv_tl Y.2.2.1))))
  refine lv_ior X.1 X.2.1 hd ?_
  have e1 : (vi (b_ior x y) :: S).map (cv G) = .int (Int32.ofInt (b_ior x y)) :: S.map (cv G) := rfl
  rw [e1, b_ior, Int32.ofInt_toInt] at h2
  exact h2
theorem wp_ixor {x y : Int} (hd : decode (cd m) pc = .ok (.ixor, 1)) (h : WpG b bF m (pc + 1) L (vi (b_ixor x y) :: S) k w Q) : WpG b bF m pc L (vi y :: vi x :: S) k w Q := fun p l e s mm args below meth c G n0 Z H locs ls X Y => by
  have h2 := h p l e s mm args below meth c G n0 Z H locs ls X (Y.stk (okv_cons (r32 _) (okv_tl (okv_tl Y.2.2.1))))
  refine lv_ixor X.1 X.2.1 hd ?_
  have e1 : (vi (b_ixor x y) :: S).map (cv G) = .int (Int32.ofInt (b_ixor x y)) :: S.map (cv G) := rfl
  rw [e1, b_ixor, Int32.ofInt_toInt] at h2
  exact h2
theorem wp_ishl {x y : Int} (hd : decode (cd m) pc = .ok (.ishl, 1)) (h : WpG b bF m (pc + 1) L (vi (b_ishl x y) :: S) k w Q) : WpG b bF m pc L (vi y :: vi x :: S) k w Q := fun p l e s mm args below meth c G n0 Z H locs ls X Y => by
  have h2 := h p l e s mm args below meth c G n0 Z H locs ls X (Y.stk (okv_cons (r32 _) (okv_tl (okv_tl Y.2.2.1))))
  refine lv_ishl X.1 X.2.1 hd ?_
  have e1 : (vi (b_ishl x y) :: S).map (cv G) = .int (Int32.ofInt (b_ishl x y)) :: S.map (cv G) := rfl
  rw [e1, b_ishl, Int32.ofInt_toInt] at h2
  exact h2
theorem wp_ishr {x y : Int} (hd : decode (cd m) pc = .ok (.ishr, 1)) (h : WpG b bF m (pc + 1) L (vi (b_ishr x y) :: S) k w Q) : WpG b bF m pc L (vi y :: vi x :: S) k w Q := fun p l e s mm args below meth c G n0 Z H locs ls X Y => by
  have h2 := h p l e s mm args below meth c G n0 Z H locs ls X (Y.stk (okv_cons (r32 _) (okv_tl (okv_tl Y.2.2.1))))
  refine lv_ishr X.1 X.2.1 hd ?_
  have e1 : (vi (b_ishr x y) :: S).map (cv G) = .int (Int32.ofInt (b_ishr x y)) :: S.map (cv G) := rfl
  rw [e1, b_ishr, Int32.ofInt_toInt] at h2
  exact h2
theorem wp_iushr {x y : Int} (hd : decode (cd m) pc = .ok (.iushr, 1)) (h : WpG b bF m (pc + 1) L (vi (b_iushr x y) :: S) k w Q) : WpG b bF m pc L (vi y :: vi x :: S) k w Q := fun p l e s mm args below meth c G n0 Z H locs ls X Y => by
  have h2 := h p l e s mm args below meth c G n0 Z H locs ls X (Y.stk (okv_cons (r32 _) (okv_tl (okv_tl Y.2.2.1))))
  refine lv_iushr X.1 X.2.1 hd rfl ?_
  have e1 : (vi (b_iushr x y) :: S).map (cv G) = .int (Int32.ofInt (b_iushr x y)) :: S.map (cv G) := rfl
  rw [e1, b_iushr, Int32.ofInt_toInt] at h2
  exact h2
theorem wp_land {x y : Int} (hd : decode (cd m) pc = .ok (.land, 1)) (h : WpG b bF m (pc + 1) L (vl (b_land x y) :: S) k w Q) : WpG b bF m pc L (vl y :: vl x :: S) k w Q := fun p l e s mm args below meth c G n0 Z H locs ls X Y => by
  have h2 := h p l e s mm args below meth c G n0 Z H locs ls X (Y.stk (okv_cons (r64 _) (okv_tl (okv_tl Y.2.2.1))))
  refine lv_land X.1 X.2.1 hd ?_
  have e1 : (vl (b_land x y) :: S).map (cv G) = .long (Int64.ofInt (b_land x y)) :: S.map (cv G) := rfl
  rw [e1, b_land, Int64.ofInt_toInt] at h2
  exact h2
theorem wp_lor {x y : Int} (hd : decode (cd m) pc = .ok (.lor, 1)) (h : WpG b bF m (pc + 1) L (vl (b_lor x y) :: S) k w Q) : WpG b bF m pc L (vl y :: vl x :: S) k w Q := fun p l e s mm args below meth c G n0 Z H locs ls X Y => by
  have h2 := h p l e s mm args below meth c G n0 Z H locs ls X (Y.stk (okv_cons (r64 _) (okv_tl (okv_tl Y.2.2.1))))
  refine lv_lor X.1 X.2.1 hd ?_
  have e1 : (vl (b_lor x y) :: S).map (cv G) = .long (Int64.ofInt (b_lor x y)) :: S.map (cv G) := rfl
  rw [e1, b_lor, Int64.ofInt_toInt] at h2
  exact h2
theorem wp_lshl {x y : Int} (hd : decode (cd m) pc = .ok (.lshl, 1)) (h : WpG b bF m (pc + 1) L (vl (b_lshl x y) :: S) k w Q) : WpG b bF m pc L (vi y :: vl x :: S) k w Q := fun p l e s mm args below meth c G n0 Z H locs ls X Y => by
  have h2 := h p l e s mm args below meth c G n0 Z H locs ls X (Y.stk (okv_cons (r64 _) (okv_tl (okv_tl Y.2.2.1))))
  refine lv_lshl X.1 X.2.1 hd rfl ?_
  have e1 : (vl (b_lshl x y) :: S).map (cv G) = .long (Int64.ofInt (b_lshl x y)) :: S.map (cv G) := rfl
  rw [e1, b_lshl, Int64.ofInt_toInt] at h2
  exact h2
theorem wp_lshr {x y : Int} (hd : decode (cd m) pc = .ok (.lshr, 1)) (h : WpG b bF m (pc + 1) L (vl (b_lshr x y) :: S) k w Q) : WpG b bF m pc L (vi y :: vl x :: S) k w Q := fun p l e s mm args below meth c G n0 Z H locs ls X Y => by
  have h2 := h p l e s mm args below meth c G n0 Z H locs ls X (Y.stk (okv_cons (r64 _) (okv_tl (okv_tl Y.2.2.1))))
  refine lv_lshr X.1 X.2.1 hd rfl ?_
  have e1 : (vl (b_lshr x y) :: S).map (cv G) = .long (Int64.ofInt (b_lshr x y)) :: S.map (cv G) := rfl
  rw [e1, b_lshr, Int64.ofInt_toInt] at h2
  exact h2
theorem wp_lushr {x y : Int} (hd : decode (cd m) pc = .ok (.lushr, 1)) (h : WpG b bF m (pc + 1) L (vl (b_lushr x y) :: S) k w Q) : WpG b bF m pc L (vi y :: vl x :: S) k w Q := fun p l e s mm args below meth c G n0 Z H locs ls X Y => by
  have h2 := h p l e s mm args below meth c G n0 Z H locs ls X (Y.stk (okv_cons (r64 _) (okv_tl (okv_tl Y.2.2.1))))
  refine lv_lushr X.1 X.2.1 hd rfl ?_
  have e1 : (vl (b_lushr x y) :: S).map (cv G) = .long (Int64.ofInt (b_lushr x y)) :: S.map (cv G) := rfl
  rw [e1, b_lushr, Int64.ofInt_toInt] at h2
  exact h2
theorem wp_l2i {x : Int} (hd : decode (cd m) pc = .ok (.l2i, 1)) (h : WpG b bF m (pc + 1) L (vi (b_l2i x) :: S) k w Q) : WpG b bF m pc L (vl x :: S) k w Q := fun p l e s mm args below meth c G n0 Z H locs ls X Y => by
  have h2 := h p l e s mm args below meth c G n0 Z H locs ls X (Y.stk (okv_cons (r32 _) (okv_tl Y.2.2.1)))
  refine lv_l2i X.1 X.2.1 hd rfl ?_
  have e1 : (vi (b_l2i x) :: S).map (cv G) = .int (Int32.ofInt (b_l2i x)) :: S.map (cv G) := rfl
  rw [e1, b_l2i, Int32.ofInt_toInt] at h2
  exact h2
theorem wp_i2l {x : Int} (hd : decode (cd m) pc = .ok (.i2l, 1)) (h : WpG b bF m (pc + 1) L (vl x :: S) k w Q) : WpG b bF m pc L (vi x :: S) k w Q := fun p l e s mm args below meth c G n0 Z H locs ls X Y => by
  have hr : inr32 x := okv_hd Y.2.2.1
  have h2 := h p l e s mm args below meth c G n0 Z H locs ls X (Y.stk (okv_cons (show inr64 x from ⟨by omega, by omega⟩) (okv_tl Y.2.2.1)))
  refine lv_i2l X.1 X.2.1 hd ?_ h2
  rw [← Int64.toInt_inj, Int32.toInt_toInt64, Int32.toInt_ofInt_of_le hr.1 hr.2, Int64.toInt_ofInt_of_le (by omega) (by omega)]
theorem wp_i2b {x : Int} (hd : decode (cd m) pc = .ok (.i2b, 1)) (ho : -128 ≤ x ∧ x < 128) (h : WpG b bF m (pc + 1) L (vi x :: S) k w Q) : WpG b bF m pc L (vi x :: S) k w Q := fun p l e s mm args below meth c G n0 Z H locs ls X Y => by
  have h2 := h p l e s mm args below meth c G n0 Z H locs ls X Y
  refine lv_i2b X.1 X.2.1 hd ?_ h2
  rw [← Int32.toInt_inj, Int8.toInt_toInt32, Int32.toInt_toInt8, Int32.toInt_ofInt_of_le (by omega) (by omega)]
  exact Int.bmod_eq_of_le (by omega) (by omega)
theorem wp_lcmp {x y : Int} (hd : decode (cd m) pc = .ok (.lcmp, 1)) (h : WpG b bF m (pc + 1) L (vi (b_lcmp x y) :: S) k w Q) : WpG b bF m pc L (vl y :: vl x :: S) k w Q := fun p l e s mm args below meth c G n0 Z H locs ls X Y => by
  have hy : inr64 y := okv_hd Y.2.2.1
  have hx : inr64 x := okv_hd (okv_tl Y.2.2.1)
  have hr : inr32 (b_lcmp x y) := by
    unfold b_lcmp
    split
    · decide
    · split <;> decide
  have h2 := h p l e s mm args below meth c G n0 Z H locs ls X (Y.stk (okv_cons hr (okv_tl (okv_tl Y.2.2.1))))
  refine W.lcmp X.1 X.2.1 hd ?_
  have e1 : lg_cmp (Int64.ofInt x) (Int64.ofInt y) = Int32.ofInt (b_lcmp x y) := by
    unfold lg_cmp b_lcmp
    by_cases a : y < x
    · rw [if_pos a, if_pos ((i64_lt hy hx).mpr a)]; rfl
    · rw [if_neg a, if_neg (fun z => a ((i64_lt hy hx).mp z))]
      by_cases c : x = y
      · rw [if_pos c, if_pos ((i64_eq hx hy).mpr c)]; rfl
      · rw [if_neg c, if_neg (fun z => c ((i64_eq hx hy).mp z))]; rfl
  rw [e1]
  exact h2
theorem cat1 {v : AV} (G : Gh) (h : isl v = false) : (cv G v).category = 1 := by
  have h1 := cat_cv G v
  rw [h] at h1
  rcases lv_cat (cv G v) with h2 | h2
  · exact h2
  · rw [h2] at h1; cases h1
theorem wp_dup {v : AV} (hd : decode (cd m) pc = .ok (.dup, 1)) (hv : isl v = false := by rfl) (h : WpG b bF m (pc + 1) L (v :: v :: S) k w Q) : WpG b bF m pc L (v :: S) k w Q := fun p l e s mm args below meth c G n0 Z H locs ls X Y =>
  lv_dup X.1 X.2.1 hd (cat1 G hv) (h p l e s mm args below meth c G n0 Z H locs ls X (Y.stk (okv_cons (okv_hd Y.2.2.1) Y.2.2.1)))
theorem wp_pop {v : AV} (hd : decode (cd m) pc = .ok (.pop, 1)) (hv : isl v = false := by rfl) (h : WpG b bF m (pc + 1) L S k w Q) : WpG b bF m pc L (v :: S) k w Q := fun p l e s mm args below meth c G n0 Z H locs ls X Y =>
  lv_pop X.1 X.2.1 hd (cat1 G hv) (h p l e s mm args below meth c G n0 Z H locs ls X (Y.stk (okv_tl Y.2.2.1)))
theorem wp_dup2 {u v : AV} (hd : decode (cd m) pc = .ok (.dup2, 1)) (hu : isl u = false := by rfl) (hv : isl v = false := by rfl) (h : WpG b bF m (pc + 1) L (u :: v :: u :: v :: S) k w Q) : WpG b bF m pc L (u :: v :: S) k w Q := fun p l e s mm args below meth c G n0 Z H locs ls X Y =>
  lv_dup2_11 X.1 X.2.1 hd (cat1 G hu) (cat1 G hv) (h p l e s mm args below meth c G n0 Z H locs ls X (Y.stk (okv_cons (okv_hd Y.2.2.1) (okv_cons (okv_hd (okv_tl Y.2.2.1)) Y.2.2.1))))
theorem wp_goto {off : Int} {tgt : Nat} (hd : decode (cd m) pc = .ok (.goto off, 3)) (ht : (pc : Int) + off = (tgt : Int)) (h : WpG b bF m tgt L S k w Q) : WpG b bF m pc L S k w Q := fun p l e s mm args below meth c G n0 Z H locs ls X Y =>
  lv_goto X.1 X.2.1 hd ht (h p l e s mm args below meth c G n0 Z H locs ls X Y)
theorem wp_if_eq {x : Int} {off : Int} {tgt : Nat} (hd : decode (cd m) pc = .ok (.ifCond .eq off, 3)) (ht : (pc : Int) + off = (tgt : Int)) (kt : x = 0 → WpG b bF m tgt L S k w Q) (kf : ¬ x = 0 → WpG b bF m (pc + 3) L S k w Q) : WpG b bF m pc L (vi x :: S) k w Q := fun p l e s mm args below meth c G n0 Z H locs ls X Y => by
  have hy : inr32 0 := by decide
  have hx : inr32 x := okv_hd Y.2.2.1
  exact lv_if_eq X.1 X.2.1 hd ht (fun z => kt ((i32_eq hx hy).mp z) p l e s mm args below meth c G n0 Z H locs ls X (Y.stk (okv_tl Y.2.2.1))) (fun z => kf (fun q => z ((i32_eq hx hy).mpr q)) p l e s mm args below meth c G n0 Z H locs ls X (Y.stk (okv_tl Y.2.2.1)))
theorem wp_icmp_eq {x y : Int} {off : Int} {tgt : Nat} (hd : decode (cd m) pc = .ok (.if_icmp .eq off, 3)) (ht : (pc : Int) + off = (tgt : Int)) (kt : x = y → WpG b bF m tgt L S k w Q) (kf : ¬ x = y → WpG b bF m (pc + 3) L S k w Q) : WpG b bF m pc L (vi y :: vi x :: S) k w Q := fun p l e s mm args below meth c G n0 Z H locs ls X Y => by
  have hy : inr32 y := okv_hd Y.2.2.1
  have hx : inr32 x := okv_hd (okv_tl Y.2.2.1)
  exact lv_icmp_eq X.1 X.2.1 hd ht (fun z => kt ((i32_eq hx hy).mp z) p l e s mm args below meth c G n0 Z H locs ls X (Y.stk (okv_tl (okv_tl Y.2.2.1)))) (fun z => kf (fun q => z ((i32_eq hx hy).mpr q)) p l e s mm args below meth c G n0 Z H locs ls X (Y.stk (okv_tl (okv_tl Y.2.2.1))))
theorem wp_if_ne {x : Int} {off : Int} {tgt : Nat} (hd : decode (cd m) pc = .ok (.ifCond .ne off, 3)) (ht : (pc : Int) + off = (tgt : Int)) (kt : ¬ x = 0 → WpG b bF m tgt L S k w Q) (kf : x = 0 → WpG b bF m (pc + 3) L S k w Q) : WpG b bF m pc L (vi x :: S) k w Q := fun p l e s mm args below meth c G n0 Z H locs ls X Y => by
  have hy : inr32 0 := by decide
  have hx : inr32 x := okv_hd Y.2.2.1
  exact lv_if_ne X.1 X.2.1 hd ht (fun z => kt (fun q => z ((i32_eq hx hy).mpr q)) p l e s mm args below meth c G n0 Z H locs ls X (Y.stk (okv_tl Y.2.2.1))) (fun z => kf ((i32_eq hx hy).mp z) p l e s mm args below meth c G n0 Z H locs ls X (Y.stk (okv_tl Y.2.2.1)))
theorem wp_icmp_ne {x y : Int} {off : Int} {tgt : Nat} (hd : decode (cd m) pc = .ok (.if_icmp .ne off, 3)) (ht : (pc : Int) + off = (tgt : Int)) (kt : ¬ x = y → WpG b bF m tgt L S k w Q) (kf : x = y → WpG b bF m (pc + 3) L S k w Q) : WpG b bF m pc L (vi y :: vi x :: S) k w Q := fun p l e s mm args below meth c G n0 Z H locs ls X Y => by
  have hy : inr32 y := okv_hd Y.2.2.1
  have hx : inr32 x := okv_hd (okv_tl Y.2.2.1)
  exact lv_icmp_ne X.1 X.2.1 hd ht (fun z => kt (fun q => z ((i32_eq hx hy).mpr q)) p l e s mm args below meth c G n0 Z H locs ls X (Y.stk (okv_tl (okv_tl Y.2.2.1)))) (fun z => kf ((i32_eq hx hy).mp z) p l e s mm args below meth c G n0 Z H locs ls X (Y.stk (okv_tl (okv_tl Y.2.2.1))))
theorem wp_if_lt {x : Int} {off : Int} {tgt : Nat} (hd : decode (cd m) pc = .ok (.ifCond .lt off, 3)) (ht : (pc : Int) + off = (tgt : Int)) (kt : x < 0 → WpG b bF m tgt L S k w Q) (kf : ¬ x < 0 → WpG b bF m (pc + 3) L S k w Q) : WpG b bF m pc L (vi x :: S) k w Q := fun p l e s mm args below meth c G n0 Z H locs ls X Y => by
  have hy : inr32 0 := by decide
  have hx : inr32 x := okv_hd Y.2.2.1
  exact lv_if_lt X.1 X.2.1 hd ht (fun z => kt ((i32_lt hx hy).mp z) p l e s mm args below meth c G n0 Z H locs ls X (Y.stk (okv_tl Y.2.2.1))) (fun z => kf (fun q => z ((i32_lt hx hy).mpr q)) p l e s mm args below meth c G n0 Z H locs ls X (Y.stk (okv_tl Y.2.2.1)))
theorem wp_icmp_lt {x y : Int} {off : Int} {tgt : Nat} (hd : decode (cd m) pc = .ok (.if_icmp .lt off, 3)) (ht : (pc : Int) + off = (tgt : Int)) (kt : x < y → WpG b bF m tgt L S k w Q) (kf : ¬ x < y → WpG b bF m (pc + 3) L S k w Q) : WpG b bF m pc L (vi y :: vi x :: S) k w Q := fun p l e s mm args below meth c G n0 Z H locs ls X Y => by
  have hy : inr32 y := okv_hd Y.2.2.1
  have hx : inr32 x := okv_hd (okv_tl Y.2.2.1)
  exact lv_icmp_lt X.1 X.2.1 hd ht (fun z => kt ((i32_lt hx hy).mp z) p l e s mm args below meth c G n0 Z H locs ls X (Y.stk (okv_tl (okv_tl Y.2.2.1)))) (fun z => kf (fun q => z ((i32_lt hx hy).mpr q)) p l e s mm args below meth c G n0 Z H locs ls X (Y.stk (okv_tl (okv_tl Y.2.2.1))))
theorem wp_if_ge {x : Int} {off : Int} {tgt : Nat} (hd : decode (cd m) pc = .ok (.ifCond .ge off, 3)) (ht : (pc : Int) + off = (tgt : Int)) (kt : 0 ≤ x → WpG b bF m tgt L S k w Q) (kf : ¬ 0 ≤ x → WpG b bF m (pc + 3) L S k w Q) : WpG b bF m pc L (vi x :: S) k w Q := fun p l e s mm args below meth c G n0 Z H locs ls X Y => by
  have hy : inr32 0 := by decide
  have hx : inr32 x := okv_hd Y.2.2.1
  exact lv_if_ge X.1 X.2.1 hd ht (fun z => kt ((i32_le hy hx).mp z) p l e s mm args below meth c G n0 Z H locs ls X (Y.stk (okv_tl Y.2.2.1))) (fun z => kf (fun q => z ((i32_le hy hx).mpr q)) p l e s mm args below meth c G n0 Z H locs ls X (Y.stk (okv_tl Y.2.2.1)))
theorem wp_icmp_ge {x y : Int} {off : Int} {tgt : Nat} (hd : decode (cd m) pc = .ok (.if_icmp .ge off, 3)) (ht : (pc : Int) + off = (tgt : Int)) (kt : y ≤ x → WpG b bF m tgt L S k w Q) (kf : ¬ y ≤ x → WpG b bF m (pc + 3) L S k w Q) : WpG b bF m pc L (vi y :: vi x :: S) k w Q := fun p l e s mm args below meth c G n0 Z H locs ls X Y => by
  have hy : inr32 y := okv_hd Y.2.2.1
  have hx : inr32 x := okv_hd (okv_tl Y.2.2.1)
  exact lv_icmp_ge X.1 X.2.1 hd ht (fun z => kt ((i32_le hy hx).mp z) p l e s mm args below meth c G n0 Z H locs ls X (Y.stk (okv_tl (okv_tl Y.2.2.1)))) (fun z => kf (fun q => z ((i32_le hy hx).mpr q)) p l e s mm args below meth c G n0 Z H locs ls X (Y.stk (okv_tl (okv_tl Y.2.2.1))))
theorem wp_if_gt {x : Int} {off : Int} {tgt : Nat} (hd : decode (cd m) pc = .ok (.ifCond .gt off, 3)) (ht : (pc : Int) + off = (tgt : Int)) (kt : 0 < x → WpG b bF m tgt L S k w Q) (kf : ¬ 0 < x → WpG b bF m (pc + 3) L S k w Q) : WpG b bF m pc L (vi x :: S) k w Q := fun p l e s mm args below meth c G n0 Z H locs ls X Y => by
  have hy : inr32 0 := by decide
  have hx : inr32 x := okv_hd Y.2.2.1
  exact lv_if_gt X.1 X.2.1 hd ht (fun z => kt ((i32_lt hy hx).mp z) p l e s mm args below meth c G n0 Z H locs ls X (Y.stk (okv_tl Y.2.2.1))) (fun z => kf (fun q => z ((i32_lt hy hx).mpr q)) p l e s mm args below meth c G n0 Z H locs ls X (Y.stk (okv_tl Y.2.2.1)))
theorem wp_icmp_gt {x y : Int} {off : Int} {tgt : Nat} (hd : decode (cd m) pc = .ok (.if_icmp .gt off, 3)) (ht : (pc : Int) + off = (tgt : Int)) (kt : y < x → WpG b bF m tgt L S k w Q) (kf : ¬ y < x → WpG b bF m (pc + 3) L S k w Q) : WpG b bF m pc L (vi y :: vi x :: S) k w Q := fun p l e s mm args below meth c G n0 Z H locs ls X Y => by
  have hy : inr32 y := okv_hd Y.2.2.1
  have hx : inr32 x := okv_hd (okv_tl Y.2.2.1)
  exact lv_icmp_gt X.1 X.2.1 hd ht (fun z => kt ((i32_lt hy hx).mp z) p l e s mm args below meth c G n0 Z H locs ls X (Y.stk (okv_tl (okv_tl Y.2.2.1)))) (fun z => kf (fun q => z ((i32_lt hy hx).mpr q)) p l e s mm args below meth c G n0 Z H locs ls X (Y.stk (okv_tl (okv_tl Y.2.2.1))))
theorem wp_if_le {x : Int} {off : Int} {tgt : Nat} (hd : decode (cd m) pc = .ok (.ifCond .le off, 3)) (ht : (pc : Int) + off = (tgt : Int)) (kt : x ≤ 0 → WpG b bF m tgt L S k w Q) (kf : ¬ x ≤ 0 → WpG b bF m (pc + 3) L S k w Q) : WpG b bF m pc L (vi x :: S) k w Q := fun p l e s mm args below meth c G n0 Z H locs ls X Y => by
  have hy : inr32 0 := by decide
  have hx : inr32 x := okv_hd Y.2.2.1
  exact lv_if_le X.1 X.2.1 hd ht (fun z => kt ((i32_le hx hy).mp z) p l e s mm args below meth c G n0 Z H locs ls X (Y.stk (okv_tl Y.2.2.1))) (fun z => kf (fun q => z ((i32_le hx hy).mpr q)) p l e s mm args below meth c G n0 Z H locs ls X (Y.stk (okv_tl Y.2.2.1)))
theorem wp_icmp_le {x y : Int} {off : Int} {tgt : Nat} (hd : decode (cd m) pc = .ok (.if_icmp .le off, 3)) (ht : (pc : Int) + off = (tgt : Int)) (kt : x ≤ y → WpG b bF m tgt L S k w Q) (kf : ¬ x ≤ y → WpG b bF m (pc + 3) L S k w Q) : WpG b bF m pc L (vi y :: vi x :: S) k w Q := fun p l e s mm args below meth c G n0 Z H locs ls X Y => by
  have hy : inr32 y := okv_hd Y.2.2.1
  have hx : inr32 x := okv_hd (okv_tl Y.2.2.1)
  exact lv_icmp_le X.1 X.2.1 hd ht (fun z => kt ((i32_le hx hy).mp z) p l e s mm args below meth c G n0 Z H locs ls X (Y.stk (okv_tl (okv_tl Y.2.2.1)))) (fun z => kf (fun q => z ((i32_le hx hy).mpr q)) p l e s mm args below meth c G n0 Z H locs ls X (Y.stk (okv_tl (okv_tl Y.2.2.1))))
def swT (dflt lo hi : Int) (offs : Array Int) (x : Int) : Int := if x < lo ∨ hi < x then dflt else offs.getD (x - lo).toNat dflt
theorem swT_lo {dflt lo hi x : Int} {offs : Array Int} (h : x < lo) : swT dflt lo hi offs x = dflt := if_pos (Or.inl h)
theorem swT_hi {dflt lo hi x : Int} {offs : Array Int} (h : hi < x) : swT dflt lo hi offs x = dflt := if_pos (Or.inr h)
theorem wp_tsw {dflt lo hi : Int} {offs : Array Int} {len : Nat} (hd : decode (cd m) pc = .ok (.tableswitch dflt lo hi offs, len)) (hsz : (offs.size : Int) = hi - lo + 1) {x : Int} (tgt : Nat) (ho : (pc : Int) + swT dflt lo hi offs x = (tgt : Int)) (h : WpG b bF m tgt L S k w Q) : WpG b bF m pc L (vi x :: S) k w Q := fun p l e s mm args below meth c G n0 Z H locs ls X Y => by
  have hx : inr32 x := okv_hd Y.2.2.1
  have ex : (Int32.ofInt x).toInt = x := Int32.toInt_ofInt_of_le hx.1 hx.2
  have h2 := h p l e s mm args below meth c G n0 Z H locs ls X (Y.stk (okv_tl Y.2.2.1))
  unfold swT at ho
  by_cases a : x < lo ∨ hi < x
  · rw [if_pos a] at ho
    exact lv_tableOut X.1 X.2.1 hd (by rw [ex]; exact a) ho h2
  · rw [if_neg a] at ho
    have hlt : (x - lo).toNat < offs.size := by omega
    have e1 : offs.getD (x - lo).toNat dflt = offs[(x - lo).toNat] := by simp [Array.getD, hlt]
    rw [e1] at ho
    exact lv_tableIn X.1 X.2.1 hd (by rw [ex]; omega) (by rw [ex]; omega) (by rw [ex]; exact Array.getElem?_eq_getElem hlt) ho h2
theorem wp_lsw {dflt : Int} {ps : Array (Int × Int)} {len : Nat} (hd : decode (cd m) pc = .ok (.lookupswitch dflt ps, len)) (hp : (ps.toList.zip (ps.toList.drop 1)).all (fun (a, next) => a.1 < next.1) = true) {x : Int} (tgt : Nat) (ho : (pc : Int) + Op.lookupswitch.offset ps.toList dflt x = (tgt : Int)) (h : WpG b bF m tgt L S k w Q) : WpG b bF m pc L (vi x :: S) k w Q := fun p l e s mm args below meth c G n0 Z H locs ls X Y => by
  have hx : inr32 x := okv_hd Y.2.2.1
  have ex : (Int32.ofInt x).toInt = x := Int32.toInt_ofInt_of_le hx.1 hx.2
  exact lv_lookup X.1 X.2.1 hd hp (by rw [ex]) ho (h p l e s mm args below meth c G n0 Z H locs ls X (Y.stk (okv_tl Y.2.2.1)))
theorem nar_z0 {x : Int} (h : x = 0 ∨ x = 1) : narrow .boolean (.int (Int32.ofInt x)) = .int (Int32.ofInt x) := by
  rcases h with rfl | rfl <;> decide
theorem wp_nret {x : Int} {ty : FieldType} (hd : decode (cd m) pc = .ok (.ireturn, 1)) (hr : rtt m = some ty) (hk : k.1 ≤ (rmm m).cells ∧ k.2 ≤ (rmm m).slots := by decide) (hn : narrow ty (.int (Int32.ofInt x)) = .int (Int32.ofInt x)) (h : Q (some (vi x)) w) : WpG bF bF m pc L [vi x] k w Q := fun p l e s mm args below meth c G n0 Z H locs ls X Y =>
  X.2.2.2.2.2.2.2 H locs ls pc k (some (vi x)) w h ⟨lv_sub Y.1 [] rfl, fun q hq => (by cases hq), Y.2.2⟩ hk.1 hk.2 ⟨hd, ty, hr, hn⟩
theorem wp_throw (ht : thr m = true) (hk : k.1 ≤ (rmm m).cells ∧ k.2 ≤ (rmm m).slots := by decide) (h : Q (some (vr pc)) w) : WpG bF bF m pc L [] k w Q := fun p l e s mm args below meth c G n0 Z H locs ls X Y =>
  X.2.2.2.2.2.2.2 H locs ls pc k (some (vr pc)) w h ⟨lv_sub Y.1 [] rfl, fun q hq => (by cases hq), fun v hv => (by cases hv), Y.2.2.2⟩ hk.1 hk.2 ⟨ht, rfl⟩
theorem wp_ldcw {idx : Nat} (hd : decode (cd m) pc = .ok (.ldc_w idx, 3)) {x : Int} (hc : Jvm.Cond.constant (yy m).cls idx (Int32.ofInt x) ∈ AW) (hr : inr32 x) (h : WpG b bF m (pc + 3) L (vi x :: S) k w Q) : WpG b bF m pc L S k w Q := fun p l e s mm args below meth c G n0 Z H locs ls X Y =>
  lv_ldcw X.1 X.2.1 X.2.2.2.1 (X.2.2.2.2.1 _ hc) hd (h p l e s mm args below meth c G n0 Z H locs ls X (Y.stk (okv_cons hr Y.2.2.1)))
theorem wp_i2c {x : Int} (hd : decode (cd m) pc = .ok (.i2c, 1)) (ho : 0 ≤ x ∧ x < 65536) (h : WpG b bF m (pc + 1) L (vi x :: S) k w Q) : WpG b bF m pc L (vi x :: S) k w Q := fun p l e s mm args below meth c G n0 Z H locs ls X Y => by
  have h2 := h p l e s mm args below meth c G n0 Z H locs ls X Y
  obtain ⟨n, rfl⟩ := Int.eq_ofNat_of_zero_le ho.1
  refine lv_i2c X.1 X.2.1 hd ?_ h2
  have e : Int32.ofInt (n : Int) = nI n := Int32.ofInt_eq_ofNat
  have hn : n < 65536 := by omega
  rw [e, pk_char, pk_tn (by omega), Nat.mod_eq_of_lt hn]
theorem wp_vret (hd : decode (cd m) pc = .ok (.return_, 1)) (hr : rtt m = none) (hk : k.1 ≤ (rmm m).cells ∧ k.2 ≤ (rmm m).slots := by decide) (h : Q none w) : WpG bF bF m pc L [] k w Q := fun p l e s mm args below meth c G n0 Z H locs ls X Y =>
  X.2.2.2.2.2.2.2 H locs ls pc k none w h ⟨lv_sub Y.1 [] rfl, fun q hq => (by cases hq), fun v hv => (by cases hv), Y.2.2.2⟩ hk.1 hk.2 ⟨hd, hr⟩
theorem wp_iret {x : Int} (hd : decode (cd m) pc = .ok (.ireturn, 1)) (hr : rtt m = some .int) (hk : k.1 ≤ (rmm m).cells ∧ k.2 ≤ (rmm m).slots := by decide) (h : Q (some (vi x)) w) : WpG bF bF m pc L [vi x] k w Q := fun p l e s mm args below meth c G n0 Z H locs ls X Y =>
  X.2.2.2.2.2.2.2 H locs ls pc k (some (vi x)) w h ⟨lv_sub Y.1 [] rfl, fun q hq => (by cases hq), Y.2.2⟩ hk.1 hk.2 ⟨hd, .int, hr, rfl⟩
theorem wp_zret {x : Int} (hd : decode (cd m) pc = .ok (.ireturn, 1)) (hr : rtt m = some .boolean) (hk : k.1 ≤ (rmm m).cells ∧ k.2 ≤ (rmm m).slots := by decide) (hx : x = 0 ∨ x = 1) (h : Q (some (vi x)) w) : WpG bF bF m pc L [vi x] k w Q := fun p l e s mm args below meth c G n0 Z H locs ls X Y =>
  X.2.2.2.2.2.2.2 H locs ls pc k (some (vi x)) w h ⟨lv_sub Y.1 [] rfl, fun q hq => (by cases hq), Y.2.2⟩ hk.1 hk.2 ⟨hd, .boolean, hr, nar_z0 hx⟩
theorem wp_lret {x : Int} (hd : decode (cd m) pc = .ok (.lreturn, 1)) (hr : rtt m = some .long) (hk : k.1 ≤ (rmm m).cells ∧ k.2 ≤ (rmm m).slots := by decide) (h : Q (some (vl x)) w) : WpG bF bF m pc L [vl x] k w Q := fun p l e s mm args below meth c G n0 Z H locs ls X Y =>
  X.2.2.2.2.2.2.2 H locs ls pc k (some (vl x)) w h ⟨lv_sub Y.1 [] rfl, fun q hq => (by cases hq), Y.2.2⟩ hk.1 hk.2 ⟨hd, hr⟩
end Rows
end
section
section Rows
variable {b bF : Bool} {m : MR} {pc : Nat} {L L' : List (Nat × AV)} {S : List AV} {k : Nat × Nat} {w : Wo} {Q : Option AV → Wo → Prop}
/-- class ci as the tables have it -/
def ClP (ci : Nat) : Prop := ∃ (C : String) (T : u_T), clT[ci]? = some (C, T, nf ci) ∧ (∀ w ∈ u_ws C T (nf ci), w ∈ AW) ∧ (∀ k, k < nf ci → parseFieldDescriptor (T k).2.2.1 = some (tyF ci k)) ∧ ∀ a, a < nf ci → ∀ b, b < nf ci → a ≠ b → (T a).2.1 ≠ (T b).2.1
/-- the pool entry idx of class own is field j of class ci (final or not) -/
def FLP (own : String) (idx ci j : Nat) (fin : Bool) : Prop := ∃ (C : String) (T : u_T), clT[ci]? = some (C, T, nf ci) ∧ j < nf ci ∧ Cond.fieldLink own idx (T j).1 (T j).2.1 (T j).2.2.1 ∈ AW ∧ (T j).2.2.2 = fin ∧ (T j).1 = C
theorem cE_obj {G : Gh} {w : Wo} {q ci : Nat} (h : oq w q (0, ci)) : (wL G w)[q - 1]? = some (gB G + q, .inr (ci, fsL G w q (fty ci) (nf ci))) := by
  rw [wL_get h.1 h.2.1]
  unfold cE
  rw [h.2.2]
  rfl
theorem cE_int {G : Gh} {w : Wo} {a t : Nat} (h0 : 0 < a) (h1 : a ≤ wn w) (ht : (wsh w a).1 = t) (h2 : t = 1 ∨ t = 3 ∨ t = 4) : (wL G w)[a - 1]? = some (gB G + a, .inl (gC G t, (wsh w a).2, .inl (fun j => Int32.ofInt (gI w a j)))) := by
  rw [wL_get h0 h1]
  unfold cE
  rw [ht]
  rcases h2 with rfl | rfl | rfl <;> rfl
theorem cE_long {G : Gh} {w : Wo} {a : Nat} (h0 : 0 < a) (h1 : a ≤ wn w) (ht : (wsh w a).1 = 2) : (wL G w)[a - 1]? = some (gB G + a, .inl (gC G 2, (wsh w a).2, .inr (.inl (fun j => Int64.ofInt (gJ w a j))))) := by
  rw [wL_get h0 h1]
  unfold cE
  rw [ht]
  rfl
theorem cE_refs {G : Gh} {w : Wo} {a : Nat} (h0 : 0 < a) (h1 : a ≤ wn w) (ht : (wsh w a).1 = 5) : (wL G w)[a - 1]? = some (gB G + a, .inl (gC G 5, (wsh w a).2, .inr (.inr (.inr (.inr (fun j => cr G (gP w a j))))))) := by
  rw [wL_get h0 h1]
  unfold cE
  rw [ht]
  rfl
theorem mp_ref {G : Gh} {q : Nat} {S : List AV} (h : 0 < q) (h2 : q ≤ 1000) : (vr q :: S).map (cv G) = .ref (gB G + q) :: S.map (cv G) := by
  rw [List.map_cons, cv_ref h h2]
theorem wp_getG {idx ci j q : Nat} {fin : Bool} {v : AV} (hd : decode (cd m) pc = .ok (.getfield idx, 3)) (hf : FLP (yy m).cls idx ci j fin) (hc : ClP ci) (hq : oq w q (0, ci)) (hv : ∀ G : Gh, fv G w q j (fty ci j) = cv G v) (ho : InS w → okv v) (h : WpG b bF m (pc + 3) L (v :: S) k w Q) : WpG b bF m pc L (vr q :: S) k w Q := fun p l e s mm args below meth c G n0 Z H locs ls X Y => by
  obtain ⟨C, T, h1, h2, h3, -, -⟩ := hf
  obtain ⟨C', T', g1, g2, -⟩ := hc
  cases Option.some.inj (h1.symm.trans g1)
  rw [mp_ref hq.1 (Nat.le_trans hq.2.1 Y.2.2.2.2.2.2.2.2.2)]
  refine va_get (D := gD G) (cl := clT) (tys := tysG G) (ref := (T j).1) (C := C) (T := T) (N := nf ci) (ci := ci) X.1 X.2.1 X.2.2.2.2.1 g2 X.2.2.2.1 X.2.2.2.2.2.1.1 Y.2.2.2.1 (q - 1) (cE_obj hq) h1 j h2 (X.2.2.2.2.1 _ h3) (fun _ h9 => h9) (v := cv G v) ?_ hd (h p l e s mm args below meth c G n0 Z H locs ls X (Y.stk (okv_cons (ho Y.2.2.2.2.1) (okv_tl Y.2.2.1))))
  rw [fsL_get h2, hv G]
theorem wp_getI {idx ci j q : Nat} {fin : Bool} (hd : decode (cd m) pc = .ok (.getfield idx, 3)) (hf : FLP (yy m).cls idx ci j fin) (hc : ClP ci) (ht : fty ci j = 1) (hq : oq w q (0, ci)) (h : WpG b bF m (pc + 3) L (vi (gI w q j) :: S) k w Q) : WpG b bF m pc L (vr q :: S) k w Q :=
  wp_getG (v := vi (gI w q j)) hd hf hc hq (fun G => by rw [ht]; rfl) (fun hi => hi.1 q j) h
theorem wp_getJ {idx ci j q : Nat} {fin : Bool} (hd : decode (cd m) pc = .ok (.getfield idx, 3)) (hf : FLP (yy m).cls idx ci j fin) (hc : ClP ci) (ht : fty ci j = 2) (hq : oq w q (0, ci)) (h : WpG b bF m (pc + 3) L (vl (gJ w q j) :: S) k w Q) : WpG b bF m pc L (vr q :: S) k w Q :=
  wp_getG (v := vl (gJ w q j)) hd hf hc hq (fun G => by rw [ht]; rfl) (fun hi => hi.2 q j) h
theorem wp_getP {idx ci j q : Nat} {fin : Bool} (hd : decode (cd m) pc = .ok (.getfield idx, 3)) (hf : FLP (yy m).cls idx ci j fin) (hc : ClP ci) (ht : fty ci j = 5) (hq : oq w q (0, ci)) {v : Nat} (hv : gP w q j = v) (h : WpG b bF m (pc + 3) L (vr v :: S) k w Q) : WpG b bF m pc L (vr q :: S) k w Q :=
  wp_getG (v := vr v) hd hf hc hq (fun G => by rw [ht, ← hv]; rfl) (fun _ => trivial) h
/-- the world behind a write into an object -/
theorem Wy.put {G : Gh} {n0 : Nat} {s : State} {n : Nat} {H H1 : Heap} {locs locs1 : List Loc} {ls : Array Slot} {w' : Wo} {S' : List AV} (Y : Wy b G n0 s n L S w H locs ls) (hP : va_P (gD G) clT (wL G w') H1) (hS : va_S (fr (gB G) n0 s.heap.size) s.heap H1 locs1) (hi : InS w') (hv : Inv b G w' H1) (hn : wn w' = wn w) (hs : ∀ v ∈ S', okv v) : Wy b G n0 s n L S' w' H1 locs1 ls := by
  refine ⟨Y.1, Y.2.1, hs, hP, hi, hv, hS, ?_, ?_, ?_⟩
  · rw [hn]; exact Y.2.2.2.2.2.2.2.1
  · rw [hn]; exact Y.2.2.2.2.2.2.2.2.1
  · rw [hn]; exact Y.2.2.2.2.2.2.2.2.2
/-- a field is written: what is known of the heap behind it, its size too -/
theorem ob_put {p : Program} {l : Launch} {e : Env} {R : Room} {s : State} {mm : MethodId} {args : Array Value} {below : List Frame} {meth : Method} {c : Code} {H H0 : Heap} {locs : List Loc} {cells slots : Nat} {Z : State → Prop} {cc : ByteArray} {ls : Array Slot} {rest : List Value} {D : va_G} {cl : List vw_C} {A : Nat → Prop} {a : Nat} {tys : List (ClassId × FieldType)} {ws : va_W}
    (hexec : p.tables.exec = Jvm.exec) (hb : c.code = cc) {own C : String} {T : u_T} {N ci index : Nat} {Ts : List Cond} (hts : ∀ w ∈ Ts, w.before args s = true) (hin : ∀ w ∈ u_ws C T N, w ∈ Ts) (ty0 : Nat → FieldType) (hty : ∀ k, k < N → parseFieldDescriptor (T k).2.2.1 = some (ty0 k)) (hnm : ∀ a, a < N → ∀ b, b < N → a ≠ b → (T a).2.1 ≠ (T b).2.1)
    (hown : s.vm.findClass own = some mm.cls) (hK : va_K D cl tys s) (hP : va_P D cl ws H) (hD : va_D A ws) (hS0 : va_S A H0 H locs) (q0 : Nat) {fs : List Value} (he : ws[q0]? = some (a, .inr (ci, fs))) (hc : cl[ci]? = some (C, T, N)) (k : Nat) (hk : k < N) (hlink : (Cond.fieldLink own index (T k).1 (T k).2.1 (T k).2.2.1).before args s = true)
    (hfin : (T k).2.2.2 = false ∨ ((T k).2.2.2 = true ∧ meth.name = "<init>" ∧ (T k).1 = own)) {v : Value} (hn : narrow (ty0 k) v = v) (hfit : fits (ty0 k) v = true) (hl : k < fs.length) (hdg : decode cc pc = .ok (.putfield index, 3))
    (kk : ∀ (H1 : Heap) (locs1 : List Loc), va_P D cl (ws.set q0 (a, .inr (ci, fs.set k v))) H1 → va_S A H0 H1 locs1 → H1.size = H.size → W p l e R s mm args below meth c H1 locs1 cells slots Z (F0 mm (pc + 3) ls rest)) : W p l e R s mm args below meth c H locs cells slots Z (F0 mm pc ls (v :: .ref a :: rest)) := by
  have hap := va_apart (own := own) hts hin ty0 hty hnm hK hc
  obtain ⟨r, h1, cell, q1, q2, q3, q4⟩ := hP q0 _ he
  have hr : r = (C, T, N) := Option.some.inj (h1.symm.trans hc)
  subst hr
  obtain ⟨hS, hfc, kC, hkC, hkind⟩ := hK.1 ci _ hc
  obtain ⟨cf, kf, fi, f, hi, hsl⟩ := hS k hk
  have hlay := hts _ (hin _ (u_in_lay hk))
  have hst := (u_facts hfc hkC (u_lays hts hin hk) hi).1
  have fin : ∀ (H' : Heap), H'[a]? = some (cell.setSlot f.slot v) → H'.size = H.size → (∀ q, q ≠ a → H'[q]? = H[q]?) → W p l e R s mm args below meth c H' (locs ++ [⟨a, f.slot⟩]) cells slots Z (F0 mm (pc + 3) ls rest) := by
    intro H' e1 e2 e3
    rw [hsl] at e1 ⊢
    exact kk H' _ (hP.set hD he ⟨_, hc, t_OB.to (V := updV (vp_V fs) k v) ⟨_, e1, q2, q3, t_set q4 hap hk v⟩ (fun j _ => vp_updV_set hl v j)⟩ e3) (hS0.put e2 e3 (hD.2 q0 _ he)) e2
  unfold u_lay at hlay
  rcases hfin with hf | ⟨hf, hin2, hdecl⟩
  · rw [if_neg (by rw [hf]; decide)] at hlay
    have h6 := u_store hfc hkC hkind hlay hi (hty k hk) hn hfit
    exact W.putK hexec hb (f := f) ⟨hown, hlink, ⟨_, _, _, hi⟩, hst⟩ (by rw [q2]; exact h6) q1 q3 (by rw [hsl]; exact k2_hasslot (q4 k hk)) rfl rfl hdg fin
  · rw [if_pos hf] at hlay
    have hcf : mm.cls = cf := by
      obtain ⟨_, _, c', _, _, _, -, -, hf', -, -, -, hown2, -⟩ := Cond.laysFinal_spec hlay
      have e1 : c' = cf := by have := hi.symm.trans hf'; simp at this; exact this.1.symm
      rw [hdecl] at hown2
      rw [← e1]; exact Option.some.inj (hown.symm.trans hown2)
    have h6 := u_fits hfc hkC hkind (Or.inr hlay) hi (hty k hk) hn hfit
    exact W.putFinK hexec hb hown hlink hi hst hcf hin2 (by rw [q2]; exact h6) q1 q3 (by rw [hsl]; exact k2_hasslot (q4 k hk)) rfl rfl hdg fin
theorem wp_putG {idx ci j q : Nat} {fin : Bool} {v : AV} {w' : Wo} (hd : decode (cd m) pc = .ok (.putfield idx, 3)) (hf : FLP (yy m).cls idx ci j fin) (hfi : fin = false ∨ (yy m).name = "<init>") (hdc : fin = false ∨ ∃ T, clT[ci]? = some ((yy m).cls, T, nf ci)) (hc : ClP ci) (hq : oq w q (0, ci))
    (hn : ∀ G : Gh, narrow (tyF ci j) (cv G v) = cv G v) (hft : ∀ G : Gh, fits (tyF ci j) (cv G v) = true) (hv : ∀ G : Gh, fv G w' q j (fty ci j) = cv G v) (hw : wn w' = wn w) (hsh : ∀ b, wsh w' b = wsh w b)
    (hsame : ∀ (G : Gh) (o i : Nat), ¬ (o = q ∧ i = j) → gI w' o i = gI w o i ∧ gJ w' o i = gJ w o i ∧ gP w' o i = gP w o i) (hi : InS w → okv v → InS w') (hI : ∀ (G : Gh) (H H1 : Heap), H1.size = H.size → Inv b G w H → Inv b G w' H1)
    (h : WpG b bF m (pc + 3) L S k w' Q) : WpG b bF m pc L (v :: vr q :: S) k w Q := fun p l e s mm args below meth c G n0 Z H locs ls X Y => by
  obtain ⟨C, T, h1, h2, h3, h4, h5⟩ := hf
  obtain ⟨C', T', g1, g2, g3, g4⟩ := hc
  cases Option.some.inj (h1.symm.trans g1)
  have hq1 : q ≤ 1000 := Nat.le_trans hq.2.1 Y.2.2.2.2.2.2.2.2.2
  rw [List.map_cons, mp_ref hq.1 hq1]
  refine ob_put (D := gD G) (cl := clT) (tys := tysG G) (own := (yy m).cls) (C := C) (T := T) (N := nf ci) (ci := ci) (v := cv G v) X.1 X.2.1 X.2.2.2.2.1 g2 (tyF ci) g3 g4 X.2.2.2.1 X.2.2.2.2.2.1.1 Y.2.2.2.1 (wL_D Y.2.2.2.2.2.2.2.2.1) Y.2.2.2.2.2.2.1 (q - 1) (cE_obj hq) h1 j h2 (X.2.2.2.2.1 _ h3) ?_ (hn G) (hft G) (by rw [fsL_len]; exact h2) hd (fun H1 locs1 hP hS hz => ?_)
  · rcases hfi with hfi | hfi
    · exact Or.inl (h4.trans hfi)
    · rcases hdc with hdc | ⟨T2, hdc⟩
      · exact Or.inl (h4.trans hdc)
      · have := Option.some.inj (h1.symm.trans hdc)
        cases hfb : fin
        · exact Or.inl (h4.trans hfb)
        · refine Or.inr ⟨h4.trans hfb, X.2.2.2.2.2.2.1.trans hfi, h5.trans ?_⟩
          exact congrArg Prod.fst this
  · have e1 : (fsL G w q (fty ci) (nf ci)).set j (cv G v) = fsL G w' q (fty ci) (nf ci) := by
      refine fsL_set h2 (hv G) (fun i hi2 => ?_)
      obtain ⟨a1, a2, a3⟩ := hsame G q i (fun z => hi2 z.2)
      unfold fv
      split
      · rw [a2]
      · rw [a3]
      · rw [a1]
    have e2 : (wL G w).set (q - 1) (gB G + q, .inr (ci, (fsL G w q (fty ci) (nf ci)).set j (cv G v))) = wL G w' := by
      refine wL_set hq.1 hw ?_ (fun o ho => ?_)
      · rw [e1]
        unfold cE
        rw [hsh q, hq.2.2]
        rfl
      · exact cE_congr (hsh o) (fun i => (hsame G o i (fun z => ho z.1)).1) (fun i => (hsame G o i (fun z => ho z.1)).2.1) (fun i => (hsame G o i (fun z => ho z.1)).2.2)
    rw [e2] at hP
    exact h p l e s mm args below meth c G n0 Z H1 locs1 ls X (Y.put hP hS (hi Y.2.2.2.2.1 (okv_hd Y.2.2.1)) (hI G H H1 hz Y.2.2.2.2.2.1) hw (okv_tl (okv_tl Y.2.2.1)))
theorem up2_ne {α : Type} {f : Nat → Nat → α} {o k b j : Nat} {v : α} (h : ¬ (b = o ∧ j = k)) : up2 f o k v b j = f b j := if_neg h
theorem up2_eq {α : Type} {f : Nat → Nat → α} {o k : Nat} {v : α} : up2 f o k v o k = v := if_pos ⟨rfl, rfl⟩
theorem gI_self {w : Wo} {o k : Nat} {v : Int} : gI (uI w o k v) o k = v := up2_eq
theorem gJ_self {w : Wo} {o k : Nat} {v : Int} : gJ (uJ w o k v) o k = v := up2_eq
theorem gP_self {w : Wo} {o k : Nat} {v : Nat} : gP (uP w o k v) o k = v := up2_eq
theorem wp_putI {idx ci j q : Nat} {x : Int} (hd : decode (cd m) pc = .ok (.putfield idx, 3)) (hf : FLP (yy m).cls idx ci j false) (hc : ClP ci) (ht : fty ci j = 1 ∧ tyF ci j = .int) (hq : oq w q (0, ci)) (h : ∀ w', w' = uI w q j x → WpG b bF m (pc + 3) L S k w' Q) : WpG b bF m pc L (vi x :: vr q :: S) k w Q :=
  wp_putG (v := vi x) (w' := uI w q j x) hd hf (Or.inl rfl) (Or.inl rfl) hc hq (fun G => by rw [ht.2]; rfl) (fun G => by rw [ht.2]; rfl) (fun G => by rw [ht.1]; show Value.int (Int32.ofInt (gI _ _ _)) = _; rw [gI_self]; rfl) rfl (fun _ => rfl) (fun G o i hz => ⟨up2_ne hz, rfl, rfl⟩) (fun hi ho => hi.uI ho) (fun G H H1 hz hI => hI.uI hz q j x) (h _ rfl)
theorem nar_z {x : Int} (h : x = 0 ∨ x = 1) : narrow .boolean (.int (Int32.ofInt x)) = .int (Int32.ofInt x) ∧ fits .boolean (.int (Int32.ofInt x)) = true := by
  rcases h with rfl | rfl <;> decide
theorem wp_putZ {idx ci j q : Nat} {x : Int} (hd : decode (cd m) pc = .ok (.putfield idx, 3)) (hf : FLP (yy m).cls idx ci j false) (hc : ClP ci) (ht : fty ci j = 1 ∧ tyF ci j = .boolean) (hq : oq w q (0, ci)) (hx : x = 0 ∨ x = 1) (h : ∀ w', w' = uI w q j x → WpG b bF m (pc + 3) L S k w' Q) : WpG b bF m pc L (vi x :: vr q :: S) k w Q :=
  wp_putG (v := vi x) (w' := uI w q j x) hd hf (Or.inl rfl) (Or.inl rfl) hc hq (fun G => by rw [ht.2]; exact (nar_z hx).1) (fun G => by rw [ht.2]; exact (nar_z hx).2) (fun G => by rw [ht.1]; show Value.int (Int32.ofInt (gI _ _ _)) = _; rw [gI_self]; rfl) rfl (fun _ => rfl) (fun G o i hz => ⟨up2_ne hz, rfl, rfl⟩) (fun hi ho => hi.uI ho) (fun G H H1 hz hI => hI.uI hz q j x) (h _ rfl)
theorem wp_putJ {idx ci j q : Nat} {x : Int} (hd : decode (cd m) pc = .ok (.putfield idx, 3)) (hf : FLP (yy m).cls idx ci j false) (hc : ClP ci) (ht : fty ci j = 2 ∧ tyF ci j = .long) (hq : oq w q (0, ci)) (h : ∀ w', w' = uJ w q j x → WpG b bF m (pc + 3) L S k w' Q) : WpG b bF m pc L (vl x :: vr q :: S) k w Q :=
  wp_putG (v := vl x) (w' := uJ w q j x) hd hf (Or.inl rfl) (Or.inl rfl) hc hq (fun G => by rw [ht.2]; rfl) (fun G => by rw [ht.2]; rfl) (fun G => by rw [ht.1]; show Value.long (Int64.ofInt (gJ _ _ _)) = _; rw [gJ_self]; rfl) rfl (fun _ => rfl) (fun G o i hz => ⟨rfl, up2_ne hz, rfl⟩) (fun hi ho => hi.uJ ho) (fun G H H1 hz hI => hI.uJ hz q j x) (h _ rfl)
/-- a reference is written into an object: at construction anything, later as the layout allows -/
theorem fitsR {ty : FieldType} (ht : (∃ n, ty = .object n) ∨ ∃ t, ty = .array t) (r : Option Nat) : narrow ty (va_rf r) = va_rf r ∧ fits ty (va_rf r) = true := by
  rcases ht with ⟨n, rfl⟩ | ⟨t, rfl⟩ <;> cases r <;> exact ⟨rfl, rfl⟩
theorem wp_putP {idx ci j q v : Nat} {fin : Bool} (hd : decode (cd m) pc = .ok (.putfield idx, 3)) (hf : FLP (yy m).cls idx ci j fin) (hfi : fin = false ∨ (yy m).name = "<init>") (hdc : fin = false ∨ ∃ T, clT[ci]? = some ((yy m).cls, T, nf ci)) (hc : ClP ci) (ht : fty ci j = 5 ∧ ((∃ n, tyF ci j = .object n) ∨ ∃ t, tyF ci j = .array t)) (hq : oq w q (0, ci)) (hI : b = true → LY w → LY (uP w q j v)) (h : ∀ w', w' = uP w q j v → WpG b bF m (pc + 3) L S k w' Q) : WpG b bF m pc L (vr v :: vr q :: S) k w Q :=
  wp_putG (v := vr v) (w' := uP w q j v) hd hf hfi hdc hc hq (fun G => (fitsR ht.2 _).1) (fun G => (fitsR ht.2 _).2) (fun G => by rw [ht.1]; show va_rf (cr G (gP _ _ _)) = _; rw [gP_self]; rfl) rfl (fun _ => rfl) (fun G o i hz => ⟨rfl, rfl, up2_ne hz⟩) (fun hi _ => hi) (fun G H H1 hz hh => by
    cases b
    · exact Eq.trans hz hh
    · exact hI rfl hh) (h _ rfl)
theorem inA_a {w : Wo} {a t : Nat} {i : Int} (h : inA w a t i) : i.toNat < (wsh w a).2 ∧ vp_in (Int32.ofInt i) (wsh w a).2 ∧ (Int32.ofInt i).toNatClampNeg = i.toNat := by
  obtain ⟨-, -, -, h1, h2, h3⟩ := h
  exact ⟨by omega, i32_in h1 h2 h3, i32_cl h1 (by omega)⟩
theorem wp_iaload {a : Nat} {i : Int} (hd : decode (cd m) pc = .ok (.iaload, 1)) (ha : inA w a 1 i) (h : WpG b bF m (pc + 1) L (vi (gI w a i.toNat) :: S) k w Q) : WpG b bF m pc L (vi i :: vr a :: S) k w Q := fun p l e s mm args below meth c G n0 Z H locs ls X Y => by
  obtain ⟨h1, h2, h3⟩ := inA_a ha
  have hq1 : a ≤ 1000 := Nat.le_trans ha.2.1 Y.2.2.2.2.2.2.2.2.2
  have hh := h p l e s mm args below meth c G n0 Z H locs ls X (Y.stk (okv_cons (Y.2.2.2.2.1.1 _ _) (okv_tl (okv_tl Y.2.2.1))))
  rw [List.map_cons, mp_ref ha.1 hq1]
  refine va_iald X.1 X.2.1 X.2.2.2.2.2.1.1 Y.2.2.2.1 (a - 1) 0 (cE_int ha.1 ha.2.1 ha.2.2.1 (Or.inl rfl)) rfl h2 hd ?_
  rw [h3]
  exact hh
theorem wp_baload {a : Nat} {i : Int} (hd : decode (cd m) pc = .ok (.baload, 1)) (ha : inA w a 3 i) (h : WpG b bF m (pc + 1) L (vi (gI w a i.toNat) :: S) k w Q) : WpG b bF m pc L (vi i :: vr a :: S) k w Q := fun p l e s mm args below meth c G n0 Z H locs ls X Y => by
  obtain ⟨h1, h2, h3⟩ := inA_a ha
  have hq1 : a ≤ 1000 := Nat.le_trans ha.2.1 Y.2.2.2.2.2.2.2.2.2
  have hh := h p l e s mm args below meth c G n0 Z H locs ls X (Y.stk (okv_cons (Y.2.2.2.2.1.1 _ _) (okv_tl (okv_tl Y.2.2.1))))
  rw [List.map_cons, mp_ref ha.1 hq1]
  refine va_bald X.1 X.2.1 X.2.2.2.2.2.1.1 Y.2.2.2.1 (a - 1) 2 (cE_int ha.1 ha.2.1 ha.2.2.1 (Or.inr (Or.inl rfl))) rfl h2 hd ?_
  rw [h3]
  exact hh
theorem wp_zaload {a : Nat} {i : Int} (hd : decode (cd m) pc = .ok (.baload, 1)) (ha : inA w a 4 i) (h : WpG b bF m (pc + 1) L (vi (gI w a i.toNat) :: S) k w Q) : WpG b bF m pc L (vi i :: vr a :: S) k w Q := fun p l e s mm args below meth c G n0 Z H locs ls X Y => by
  obtain ⟨h1, h2, h3⟩ := inA_a ha
  have hq1 : a ≤ 1000 := Nat.le_trans ha.2.1 Y.2.2.2.2.2.2.2.2.2
  have hh := h p l e s mm args below meth c G n0 Z H locs ls X (Y.stk (okv_cons (Y.2.2.2.2.1.1 _ _) (okv_tl (okv_tl Y.2.2.1))))
  rw [List.map_cons, mp_ref ha.1 hq1]
  refine va_zald X.1 X.2.1 X.2.2.2.2.2.1.1 Y.2.2.2.1 (a - 1) 3 (cE_int ha.1 ha.2.1 ha.2.2.1 (Or.inr (Or.inr rfl))) rfl h2 hd ?_
  rw [h3]
  exact hh
theorem wp_laload {a : Nat} {i : Int} (hd : decode (cd m) pc = .ok (.laload, 1)) (ha : inA w a 2 i) (h : WpG b bF m (pc + 1) L (vl (gJ w a i.toNat) :: S) k w Q) : WpG b bF m pc L (vi i :: vr a :: S) k w Q := fun p l e s mm args below meth c G n0 Z H locs ls X Y => by
  obtain ⟨h1, h2, h3⟩ := inA_a ha
  have hq1 : a ≤ 1000 := Nat.le_trans ha.2.1 Y.2.2.2.2.2.2.2.2.2
  have hh := h p l e s mm args below meth c G n0 Z H locs ls X (Y.stk (okv_cons (Y.2.2.2.2.1.2 _ _) (okv_tl (okv_tl Y.2.2.1))))
  rw [List.map_cons, mp_ref ha.1 hq1]
  refine va_lald X.1 X.2.1 X.2.2.2.2.2.1.1 Y.2.2.2.1 (a - 1) 1 (cE_long ha.1 ha.2.1 ha.2.2.1) rfl h2 hd ?_
  rw [h3]
  exact hh
theorem wp_aaload {a : Nat} {i : Int} {v : Nat} (hd : decode (cd m) pc = .ok (.aaload, 1)) (ha : inA w a 5 i) (hv : gP w a i.toNat = v) (h : WpG b bF m (pc + 1) L (vr v :: S) k w Q) : WpG b bF m pc L (vi i :: vr a :: S) k w Q := fun p l e s mm args below meth c G n0 Z H locs ls X Y => by
  obtain ⟨h1, h2, h3⟩ := inA_a ha
  have hq1 : a ≤ 1000 := Nat.le_trans ha.2.1 Y.2.2.2.2.2.2.2.2.2
  have hh := h p l e s mm args below meth c G n0 Z H locs ls X (Y.stk (okv_cons trivial (okv_tl (okv_tl Y.2.2.1))))
  rw [List.map_cons, mp_ref ha.1 hq1]
  refine va_aldq X.1 X.2.1 X.2.2.2.2.2.1.1 Y.2.2.2.1 (a - 1) 4 (cE_refs ha.1 ha.2.1 ha.2.2.1) rfl h2 hd ?_
  rw [h3, hv]
  exact hh
end Rows
end
section
section Rows
variable {b bF : Bool} {m : MR} {pc : Nat} {L L' : List (Nat × AV)} {S : List AV} {k : Nat × Nat} {w : Wo} {Q : Option AV → Wo → Prop}
/-- the list of cells behind a write into an array of ints -/
theorem wL_upd {G : Gh} {w w' : Wo} {a : Nat} {e : va_E} (h0 : 0 < a) (hn : wn w' = wn w) (he : cE G w' a = e) (hs : ∀ o, wsh w' o = wsh w o) (hsame : ∀ o i, o ≠ a → gI w' o i = gI w o i ∧ gJ w' o i = gJ w o i ∧ gP w' o i = gP w o i) : (wL G w).set (a - 1) (gB G + a, e) = wL G w' :=
  wL_set h0 hn he (fun o ho => cE_congr (hs o) (fun i => (hsame o i ho).1) (fun i => (hsame o i ho).2.1) (fun i => (hsame o i ho).2.2))
theorem upI {w : Wo} {a n : Nat} {x : Int} : (fun j => Int32.ofInt (gI (uI w a n x) a j)) = upd (fun j => Int32.ofInt (gI w a j)) n (Int32.ofInt x) := by
  funext j
  unfold upd
  rw [gI_uI]
  by_cases hj : j = n
  · rw [if_pos ⟨rfl, hj⟩, if_pos hj]
  · rw [if_neg (fun z => hj z.2), if_neg hj]
theorem upJ {w : Wo} {a n : Nat} {x : Int} : (fun j => Int64.ofInt (gJ (uJ w a n x) a j)) = vp_updL (fun j => Int64.ofInt (gJ w a j)) n (Int64.ofInt x) := by
  funext j
  unfold vp_updL
  rw [gJ_uJ]
  by_cases hj : j = n
  · rw [if_pos ⟨rfl, hj⟩, if_pos hj]
  · rw [if_neg (fun z => hj z.2), if_neg hj]
theorem wL_uI {G : Gh} {w : Wo} {a t n : Nat} {x : Int} (h0 : 0 < a) (ht : (wsh w a).1 = t) (h2 : t = 1 ∨ t = 3 ∨ t = 4) : (wL G w).set (a - 1) (gB G + a, .inl (gC G t, (wsh w a).2, .inl (upd (fun j => Int32.ofInt (gI w a j)) n (Int32.ofInt x)))) = wL G (uI w a n x) := by
  refine wL_upd h0 rfl ?_ (fun _ => rfl) (fun o i ho => ⟨up2_ne (fun z => ho z.1), rfl, rfl⟩)
  unfold cE
  have hs : wsh (uI w a n x) a = wsh w a := rfl
  rw [hs, ht]
  rcases h2 with rfl | rfl | rfl <;> (rw [← upI]; rfl)
theorem wL_uJ {G : Gh} {w : Wo} {a n : Nat} {x : Int} (h0 : 0 < a) (ht : (wsh w a).1 = 2) : (wL G w).set (a - 1) (gB G + a, .inl (gC G 2, (wsh w a).2, .inr (.inl (vp_updL (fun j => Int64.ofInt (gJ w a j)) n (Int64.ofInt x))))) = wL G (uJ w a n x) := by
  refine wL_upd h0 rfl ?_ (fun _ => rfl) (fun o i ho => ⟨rfl, up2_ne (fun z => ho z.1), rfl⟩)
  unfold cE
  have hs : wsh (uJ w a n x) a = wsh w a := rfl
  rw [hs, ht, ← upJ]
  rfl
theorem nar_b {x : Int} (h : -128 ≤ x ∧ x < 128) : vp_nar .byte (Int32.ofInt x) = Int32.ofInt x := by
  rw [vp_nar_byte, ← Int32.toInt_inj, Int8.toInt_toInt32, Int32.toInt_toInt8, Int32.toInt_ofInt_of_le (by omega) (by omega)]
  exact Int.bmod_eq_of_le (by omega) (by omega)
theorem nar_zz {x : Int} (h : x = 0 ∨ x = 1) : vp_nar .boolean (Int32.ofInt x) = Int32.ofInt x := by
  rcases h with rfl | rfl <;> decide
theorem wp_iastore {a : Nat} {i x : Int} (hd : decode (cd m) pc = .ok (.iastore, 1)) (ha : inA w a 1 i) (h : ∀ w', w' = uI w a i.toNat x → WpG true bF m (pc + 1) L S k w' Q) : WpG true bF m pc L (vi x :: vi i :: vr a :: S) k w Q := fun p l e s mm args below meth c G n0 Z H locs ls X Y => by
  obtain ⟨h1, h2, h3⟩ := inA_a ha
  have hq1 : a ≤ 1000 := Nat.le_trans ha.2.1 Y.2.2.2.2.2.2.2.2.2
  rw [List.map_cons, List.map_cons, mp_ref ha.1 hq1]
  refine va_iast X.1 X.2.1 X.2.2.2.2.2.1.1 Y.2.2.2.1 (wL_D Y.2.2.2.2.2.2.2.2.1) Y.2.2.2.2.2.2.1 (a - 1) 0 (cE_int ha.1 ha.2.1 ha.2.2.1 (Or.inl rfl)) rfl h2 hd (fun H1 locs1 hP hD hS => ?_)
  rw [h3, wL_uI ha.1 ha.2.2.1 (Or.inl rfl)] at hP
  exact h _ rfl p l e s mm args below meth c G n0 Z H1 locs1 ls X (Y.put hP hS (Y.2.2.2.2.1.uI (okv_hd Y.2.2.1)) Y.2.2.2.2.2.1 rfl (okv_tl (okv_tl (okv_tl Y.2.2.1))))
theorem wp_bastore {a : Nat} {i x : Int} (hd : decode (cd m) pc = .ok (.bastore, 1)) (ha : inA w a 3 i) (hx : -128 ≤ x ∧ x < 128) (h : ∀ w', w' = uI w a i.toNat x → WpG true bF m (pc + 1) L S k w' Q) : WpG true bF m pc L (vi x :: vi i :: vr a :: S) k w Q := fun p l e s mm args below meth c G n0 Z H locs ls X Y => by
  obtain ⟨h1, h2, h3⟩ := inA_a ha
  have hq1 : a ≤ 1000 := Nat.le_trans ha.2.1 Y.2.2.2.2.2.2.2.2.2
  rw [List.map_cons, List.map_cons, mp_ref ha.1 hq1]
  refine va_bast X.1 X.2.1 X.2.2.2.2.2.1.1 Y.2.2.2.1 (wL_D Y.2.2.2.2.2.2.2.2.1) Y.2.2.2.2.2.2.1 (a - 1) 2 (cE_int ha.1 ha.2.1 ha.2.2.1 (Or.inr (Or.inl rfl))) rfl h2 hd (fun H1 locs1 hP hD hS => ?_)
  rw [h3, nar_b hx, wL_uI ha.1 ha.2.2.1 (Or.inr (Or.inl rfl))] at hP
  exact h _ rfl p l e s mm args below meth c G n0 Z H1 locs1 ls X (Y.put hP hS (Y.2.2.2.2.1.uI (okv_hd Y.2.2.1)) Y.2.2.2.2.2.1 rfl (okv_tl (okv_tl (okv_tl Y.2.2.1))))
theorem wp_zastore {a : Nat} {i x : Int} (hd : decode (cd m) pc = .ok (.bastore, 1)) (ha : inA w a 4 i) (hx : x = 0 ∨ x = 1) (h : ∀ w', w' = uI w a i.toNat x → WpG true bF m (pc + 1) L S k w' Q) : WpG true bF m pc L (vi x :: vi i :: vr a :: S) k w Q := fun p l e s mm args below meth c G n0 Z H locs ls X Y => by
  obtain ⟨h1, h2, h3⟩ := inA_a ha
  have hq1 : a ≤ 1000 := Nat.le_trans ha.2.1 Y.2.2.2.2.2.2.2.2.2
  rw [List.map_cons, List.map_cons, mp_ref ha.1 hq1]
  refine va_zast X.1 X.2.1 X.2.2.2.2.2.1.1 Y.2.2.2.1 (wL_D Y.2.2.2.2.2.2.2.2.1) Y.2.2.2.2.2.2.1 (a - 1) 3 (cE_int ha.1 ha.2.1 ha.2.2.1 (Or.inr (Or.inr rfl))) rfl h2 hd (fun H1 locs1 hP hD hS => ?_)
  rw [h3, nar_zz hx, wL_uI ha.1 ha.2.2.1 (Or.inr (Or.inr rfl))] at hP
  exact h _ rfl p l e s mm args below meth c G n0 Z H1 locs1 ls X (Y.put hP hS (Y.2.2.2.2.1.uI (okv_hd Y.2.2.1)) Y.2.2.2.2.2.1 rfl (okv_tl (okv_tl (okv_tl Y.2.2.1))))
theorem wp_lastore {a : Nat} {i x : Int} (hd : decode (cd m) pc = .ok (.lastore, 1)) (ha : inA w a 2 i) (h : ∀ w', w' = uJ w a i.toNat x → WpG true bF m (pc + 1) L S k w' Q) : WpG true bF m pc L (vl x :: vi i :: vr a :: S) k w Q := fun p l e s mm args below meth c G n0 Z H locs ls X Y => by
  obtain ⟨h1, h2, h3⟩ := inA_a ha
  have hq1 : a ≤ 1000 := Nat.le_trans ha.2.1 Y.2.2.2.2.2.2.2.2.2
  rw [List.map_cons, List.map_cons, mp_ref ha.1 hq1]
  refine va_last X.1 X.2.1 X.2.2.2.2.2.1.1 Y.2.2.2.1 (wL_D Y.2.2.2.2.2.2.2.2.1) Y.2.2.2.2.2.2.1 (a - 1) 1 (cE_long ha.1 ha.2.1 ha.2.2.1) rfl h2 hd (fun H1 locs1 hP hD hS => ?_)
  rw [h3, wL_uJ ha.1 ha.2.2.1] at hP
  exact h _ rfl p l e s mm args below meth c G n0 Z H1 locs1 ls X (Y.put hP hS (Y.2.2.2.2.1.uJ (okv_hd Y.2.2.1)) Y.2.2.2.2.2.1 rfl (okv_tl (okv_tl (okv_tl Y.2.2.1))))
theorem wp_alen {a t n : Nat} (hd : decode (cd m) pc = .ok (.arraylength, 1)) (ha : oq w a (t, n)) (ht : t = 1 ∨ t = 2 ∨ t = 3 ∨ t = 4 ∨ t = 5) (hn : n < 2147483648) (h : WpG b bF m (pc + 1) L (vi (n : Int) :: S) k w Q) : WpG b bF m pc L (vr a :: S) k w Q := fun p l e s mm args below meth c G n0 Z H locs ls X Y => by
  have hq1 : a ≤ 1000 := Nat.le_trans ha.2.1 Y.2.2.2.2.2.2.2.2.2
  have hh := h p l e s mm args below meth c G n0 Z H locs ls X (Y.stk (okv_cons (show inr32 (n : Int) from ⟨by omega, by omega⟩) (okv_tl Y.2.2.1)))
  have e1 : (wsh w a).1 = t := by rw [ha.2.2]
  have e2 : (wsh w a).2 = n := by rw [ha.2.2]
  rw [mp_ref ha.1 hq1]
  have e3 : Int32.ofNat n = Int32.ofInt (n : Int) := (Int32.ofInt_eq_ofNat).symm
  rcases ht with rfl | rfl | rfl | rfl | rfl
  · have h9 := cE_int (G := G) ha.1 ha.2.1 e1 (Or.inl rfl)
    rw [e2] at h9
    exact va_alen X.1 X.2.1 X.2.2.2.2.2.1.1 Y.2.2.2.1 (a - 1) 0 h9 rfl e3 hd hh
  · have h9 := cE_long (G := G) ha.1 ha.2.1 e1
    rw [e2] at h9
    exact va_alen X.1 X.2.1 X.2.2.2.2.2.1.1 Y.2.2.2.1 (a - 1) 1 h9 rfl e3 hd hh
  · have h9 := cE_int (G := G) ha.1 ha.2.1 e1 (Or.inr (Or.inl rfl))
    rw [e2] at h9
    exact va_alen X.1 X.2.1 X.2.2.2.2.2.1.1 Y.2.2.2.1 (a - 1) 2 h9 rfl e3 hd hh
  · have h9 := cE_int (G := G) ha.1 ha.2.1 e1 (Or.inr (Or.inr rfl))
    rw [e2] at h9
    exact va_alen X.1 X.2.1 X.2.2.2.2.2.1.1 Y.2.2.2.1 (a - 1) 3 h9 rfl e3 hd hh
  · have h9 := cE_refs (G := G) ha.1 ha.2.1 e1
    rw [e2] at h9
    exact va_alen X.1 X.2.1 X.2.2.2.2.2.1.1 Y.2.2.2.1 (a - 1) 4 h9 rfl e3 hd hh
end Rows
end
section
def wsm (m : MR) : List Cond := Cond.code (yy m) (cd m) (nLo m) (rtt m) :: AW
def Qcc (b : Bool) (G : Gh) (n0 sz : Nat) (Q : Option AV → Wo → Prop) : Array Value → State → Outcome → State → Prop := fun _ st o t =>
  (∃ (r : Option AV) (w' : Wo), Q r w' ∧ o = .returned (r.map (cv G)) ∧ (∀ v ∈ r.toList, okv v) ∧ va_P (gD G) clT (wL G w') t.heap ∧ InS w' ∧ Inv b G w' t.heap ∧ n0 ≤ wn w' ∧ (wn w' ≤ n0 ∨ sz ≤ gB G + n0 + 1) ∧ wn w' ≤ 1000) ∧ va_F (fr (gB G) n0 sz) st t
def PcC (b : Bool) (G : Gh) (sz : Nat) (w : Wo) (U : State) : Prop := U.heap.size = sz ∧ KK G U ∧ va_P (gD G) clT (wL G w) U.heap ∧ InS w ∧ Inv b G w U.heap ∧ wn w ≤ 1000
/-- THE CONTRACT of method m, called with As in world w: it returns, with Q -/
def MetS (b : Bool) (m : MR) (As : List AV) (w : Wo) (Q : Option AV → Wo → Prop) : Prop := ∀ (l : Launch) (G : Gh) (sz : Nat), (∀ v ∈ As, okv v) → Met l (yy m) (wsm m) (rmm m) (va_Pc (As.map (cv G)) (PcC b G sz w)) (Qcc b G (wn w) sz Q) (rmm m).cells (rmm m).slots (fr (gB G) (wn w) sz)
abbrev MetI (m : MR) (As : List AV) (w : Wo) (K : Int → Wo → Prop) : Prop := MetS true m As w (fun r w' => ∃ x, r = some (vi x) ∧ K x w')
abbrev MetJ (m : MR) (As : List AV) (w : Wo) (K : Int → Wo → Prop) : Prop := MetS true m As w (fun r w' => ∃ x, r = some (vl x) ∧ K x w')
abbrev MetV (m : MR) (As : List AV) (w : Wo) (K : Wo → Prop) : Prop := MetS true m As w (fun r w' => r = none ∧ K w')
theorem Met.imp {l : Launch} {y : MethodName} {ws : List Cond} {rm : Room} {Pc : Array Value → State → Prop} {Qc Qc' : Array Value → State → Outcome → State → Prop} {mc ms : Nat} {free : Addr → Prop} (h : Met l y ws rm Pc Qc mc ms free) (hq : ∀ a st o t, Qc a st o t → Qc' a st o t) : Met l y ws rm Pc Qc' mc ms free := by
  intro p e h1 h2 h3 s m args below h4 h5 h6 h7
  obtain ⟨n, o, a1, a2, a3, a4, a5⟩ := h p e h1 h2 h3 s m args below h4 h5 h6 h7
  exact ⟨n, o, a1, a2, a3, hq _ _ _ _ a4, a5⟩
theorem MetS.mono {b : Bool} {m : MR} {As : List AV} {w : Wo} {Q Q' : Option AV → Wo → Prop} (h : MetS b m As w Q) (hq : ∀ r w', Q r w' → Q' r w') : MetS b m As w Q' := fun l G sz ho =>
  Met.imp (h l G sz ho) (fun a st o t hh => by
    obtain ⟨⟨r, w', h1, h2⟩, h3⟩ := hh
    exact ⟨⟨r, w', hq r w' h1, h2⟩, h3⟩)
theorem KK.moved {G : Gh} {s U : State} {H : Heap} {locs : List Loc} {n0 : Nat} (hW : s.WarmedH U.vm) (hU : U.heap = H) (hS : va_S (fr (gB G) n0 s.heap.size) s.heap H locs) (h : KK G s) : KK G U := ⟨va_K.moved hW.alike h.1, SK.moved hW (fun a h1 h2 => by
  rw [hU]
  refine hS.2.1 a h1 (fun z => ?_)
  unfold fr at z
  omega) h.2.1, by rw [hU]; exact Nat.lt_of_lt_of_le h.2.2 hS.1⟩
theorem KK.calling {G : Gh} {U : State} {g : JFrame} {mk : MethodId} {a : Array Value} (h : KK G U) : KK G (U.calling g mk a) := ⟨va_K.moved (u := U) (U := U.calling g mk a) (Vm.Alike.refl U.vm) h.1, SK.calling h.2.1, h.2.2⟩
theorem blindC {b : Bool} {G : Gh} {sz : Nat} {w : Wo} {av : List Value} : FrameBlind (va_Pc av (PcC b G sz w)) := fun a U g mk q => by
  obtain ⟨q0, q1, q2, q3⟩ := q
  exact ⟨q0, q1, q2.calling, q3⟩
def argL : Nat → List AV → List (Nat × AV)
  | _, [] => []
  | i, v :: t => (i, v) :: argL (if isl v then i + 2 else i + 1) t
theorem argL_map (G : Gh) (As : List AV) : ∀ i, lv_args i (As.map (cv G)) = (argL i As).map (fun q => (q.1, cv G q.2)) := by
  induction As with
  | nil => intro i; rfl
  | cons v t ih =>
    intro i
    rw [List.map_cons]
    unfold lv_args argL
    rw [List.map_cons]
    have h1 := cat_cv G v
    cases hv : isl v
    · rw [hv] at h1
      have h2 : ¬ (cv G v).category = 2 := fun z => by rw [z] at h1; cases h1
      rw [if_neg h2, ih]
      rfl
    · rw [hv] at h1
      have h2 : (cv G v).category = 2 := by simpa using h1
      rw [if_pos h2, ih]
      rfl
def slL : List AV → Nat
  | [] => 0
  | v :: t => (if isl v then 2 else 1) + slL t
theorem slL_eq (G : Gh) (As : List AV) : (lg_sl (As.map (cv G))).length = slL As := by
  induction As with
  | nil => rfl
  | cons v t ih =>
    rw [List.map_cons]
    unfold lg_sl slL
    rw [List.flatMap_cons, List.length_append]
    unfold lg_sl at ih
    rw [ih]
    have h1 := cat_cv G v
    cases hv : isl v
    · rw [hv] at h1
      have h2 : ¬ (cv G v).category = 2 := fun z => by rw [z] at h1; cases h1
      rw [if_neg h2]
      rfl
    · rw [hv] at h1
      have h2 : (cv G v).category = 2 := by simpa using h1
      rw [if_pos h2]
      rfl
/-- a walk of the body is the contract -/
theorem met_of {b : Bool} {m : MR} {As : List AV} {w : Wo} {Q : Option AV → Wo → Prop} (hy : plainName (yy m).cls = true) (hth : thr m = false) (hn : slL As ≤ nLo m) (h : WpG b b m 0 (argL 0 As) [] (0, 0) w Q) : MetS b m As w Q := fun l G sz ho => by
  refine Met.ofW (cc := cd m) (maxL := nLo m) (ret := rtt m) hy rfl ?_
  intro p e s mm args below meth c s₁ B hml hv
  obtain ⟨rfl, hsz, hK, hP, hi, hI, h1000⟩ := hv
  subst hsz
  have hts := atoms_spec (ws := wsm m) B.pre
  have hlocks := B.notSynchronized
  have hl := lv_entry (As.map (cv G)) (n := nLo m) (by rw [slL_eq]; exact hn)
  rw [lg_entry_eq]
  generalize (lg_sl (As.map (cv G)) ++ List.replicate (nLo m - (lg_sl (As.map (cv G))).length) Slot.unset).toArray = ls at hl ⊢
  rw [argL_map] at hl
  refine h p l e s mm _ below meth c G (wn w) _ s.heap [] ls ⟨B.exec, B.bytes, hml, findClass_of_methodNamed B.named, fun x hx => hts x (List.mem_cons_of_mem _ hx), hK, (name_of_methodNamed B.named B.method).1, ?_⟩ ⟨hl, ?_, fun v hv => (by cases hv), hP, hi, hI, va_S.rf, Nat.le_refl _, Or.inl (Nat.le_refl _), h1000⟩
  · intro H locs ls' pc k r w' hQ hY hk1 hk2 hR
    refine W.widen (k := (rmm m).cells) (n := (rmm m).slots) hk1 hk2 ?_
    have hS := hY.2.2.2.2.2.2.1
    have hrv : ∀ v ∈ r.toList, okv v := by
      rcases r with _ | x | x | x
      · exact fun v hv => (by cases hv)
      · exact hY.2.2.1
      · exact hY.2.2.1
      · exact absurd (hth.symm.trans hR.1) (by decide)
    have fin : ∀ (v : Option Value), v = r.map (cv G) → ∀ t : State, t.heap = H → Qcc b G (wn w) s.heap.size Q (As.map (cv G)).toArray s (.returned v) t := fun v hv t ht => ⟨⟨r, w', hQ, by rw [hv], hrv, by rw [ht]; exact hY.2.2.2.1, hY.2.2.2.2.1, by rw [ht]; exact hY.2.2.2.2.2.1, hY.2.2.2.2.2.2.2⟩, hS.F ht⟩
    rcases r with _ | x | x | x
    · exact W.vret B.exec B.bytes (B.returns.trans hR.2) (fun t ht _ => fin none rfl t ht) hS.2.2 hR.1
    · obtain ⟨hd, ty, hr, hn⟩ := hR
      exact W.zret B.exec B.bytes (B.returns.trans hr) hn (fun t ht _ => fin _ rfl t ht) hS.2.2 hd
    · exact W.lret B.exec B.bytes (B.returns.trans hR.2) (fun t ht _ => fin _ rfl t ht) hS.2.2 hR.1
    · exact absurd (hth.symm.trans hR.1) (by decide)
  · intro q hq
    have hall : ∀ (As : List AV) (i : Nat), ∀ q ∈ argL i As, q.2 ∈ As := by
      intro As
      induction As with
      | nil => intro i q hq; cases hq
      | cons v t ih =>
        intro i q hq
        unfold argL at hq
        rcases List.mem_cons.mp hq with rfl | h2
        · exact List.mem_cons_self
        · exact List.mem_cons_of_mem _ (ih _ q h2)
    exact ho _ (hall As 0 q hq)
section Calls
variable {b bF : Bool} {m : MR} {pc : Nat} {L : List (Nat × AV)} {S : List AV} {k : Nat × Nat} {w : Wo} {Q : Option AV → Wo → Prop}
theorem run_k {p : Program} {l : Launch} {e : Env} {s : State} {mm : MethodId} {args : Array Value} {below : List Frame} {meth : Method} {c : Code} {G : Gh} {n0 : Nat} {Z : State → Prop} {H : Heap} {locs : List Loc} {ls : Array Slot} {mc ms : Nat} {st : List Value} {S0 : List AV} {a : Array Value} {Qx : Option AV → Wo → Prop}
    (hr : va_Run p l e (rmm m) s mm args below meth c H locs k.1 k.2 mc ms (F0 mm pc ls st) (S.map (cv G)) (Qcc b G (wn w) H.size Qx a) (fr (gB G) (wn w) H.size)) (X : Wx m Q p l e s mm args below meth c bF G n0 Z) (Y : Wy b G n0 s (nLo m) L S0 w H locs ls) (hs : ∀ v ∈ S, okv v)
    (hx : ∀ r w', Qx r w' → WpG b bF m (pc + 3) L (r.toList ++ S) (k.1 + mc, k.2 + ms) w' Q) : W p l e (rmm m) s mm args below meth c H locs k.1 k.2 Z (F0 mm pc ls st) := by
  intro T hT X0
  obtain ⟨v, st₀, t, T', L0, h0, X', hL, e1, e2, ⟨⟨r, w', hq, hv, ho, hP, hi, hI, hn1, hn2, hn3⟩, hz, hk⟩, stp⟩ := hr T hT X0
  cases hv
  rw [h0] at hz hk
  have hS := Y.2.2.2.2.2.2.1
  have hc1 := Y.2.2.2.2.2.2.2.1
  have hc2 := Y.2.2.2.2.2.2.2.2.1
  have hsub : ∀ q, fr (gB G) (wn w) H.size q → fr (gB G) n0 s.heap.size q := by
    intro q hq
    have h9 := hS.1
    unfold fr at hq ⊢
    omega
  have Y' : Wy b G n0 s (nLo m) L (r.toList ++ S) w' T'.heap (locs ++ L0) ls := by
    refine ⟨Y.1, Y.2.1, fun v hv => ?_, by rw [e1]; exact hP, hi, by rw [e1]; exact hI, ⟨Nat.le_trans hS.1 (by rw [e1]; exact hz), fun q h1 h2 => ?_, fun q hq => ?_⟩, by omega, ?_, hn3⟩
    · rcases List.mem_append.mp hv with h | h
      · exact ho v h
      · exact hs v h
    · rw [e1, hk q (Nat.lt_of_lt_of_le h1 hS.1) (fun z => h2 (hsub q z))]
      exact hS.2.1 q h1 h2
    · rcases List.mem_append.mp hq with h | h
      · exact hS.2.2 q h
      · exact hsub _ (hL q h)
    · have h9 := hS.1
      omega
  have hh := hx r w' hq p l e s mm args below meth c G n0 Z T'.heap (locs ++ L0) ls X Y'
  obtain ⟨t2, a1, b1⟩ := hh T' rfl X'
  refine ⟨t2, stp t2 ?_, b1⟩
  have e3 : (r.toList ++ S).map (cv G) = (r.map (cv G)).toList ++ S.map (cv G) := by
    rw [List.map_append]
    cases r <;> rfl
  rw [e3] at a1
  exact a1
def catA (v : AV) : Nat := if isl v then 2 else 1
theorem catA_eq (G : Gh) (v : AV) : (cv G v).category = catA v := by
  have h1 := cat_cv G v
  unfold catA
  cases hv : isl v
  · exact cat1 G hv
  · rw [hv] at h1
    have h2 : (cv G v).category = 2 := by simpa using h1
    rw [h2]; rfl
theorem catS_eq (G : Gh) (S : List AV) : ((S.map (cv G)).map fun v => v.category).sum = (S.map catA).sum := by
  rw [List.map_map]
  congr 1
  refine List.map_congr_left (fun v _ => ?_)
  exact catA_eq G v
/-- what the tables say of a callee c with n arguments, called in m -/
def CaP (m c : MR) (n : Nat) : Prop := Cond.code (yy c) (cd c) (nLo c) (rtt c) ∈ AW ∧ Cond.initialized (yy c).cls ∈ AW ∧ ((yy c).cls ≠ "java/lang/invoke/MethodHandle" ∧ (yy c).cls ≠ "java/lang/invoke/VarHandle") ∧ (parseMethodDescriptor (yy c).desc).map (fun d => d.parameters.length) = some n ∧ ((rmm c).frames + 1 ≤ (rmm m).frames ∧ 8 + (nLo c + 11) + (rmm c).locals ≤ (rmm m).locals)
theorem goodC {c : MR} (h : Cond.code (yy c) (cd c) (nLo c) (rtt c) ∈ AW) : GoodIn AW (wsm c) := fun x hx => by
  have hin : x ∈ AW := by
    rcases List.mem_cons.mp hx with rfl | h2
    · exact h
    · exact h2
  exact ⟨hin, AW_good x hin⟩
theorem callB_c {s : State} {args : Array Value} {c : MR} {n idx : Nat} (h : CaP m c n) (hl : Cond.methodLink (yy m).cls idx (yy c) ∈ AW) (hts : ∀ w ∈ AW, w.before args s = true) : CallB (rmm m) s args (yy m).cls idx (yy c) (cd c) (nLo c) (rtt c) (wsm c) (rmm c) (rmm c).cells (rmm c).slots n :=
  callB_of n hts (goodC h.1) rfl rfl rfl (hts _ h.2.1) (hts _ hl) ⟨h.2.2.1.1, h.2.2.1.2, h.2.2.2.1⟩ h.2.2.2.2
/-- a virtual call: pool entry idx of m's class is method c, with n arguments, of class ci -/
def VLP (m c : MR) (idx n ci : Nat) : Prop := CaP m c n ∧ Cond.methodLink (yy m).cls idx (yy c) ∈ AW ∧ Cond.instanceMethod (yy c) ∈ AW ∧ Cond.selects (yy c).cls (yy c) (yy c) ∈ AW ∧ ∃ T, clT[ci]? = some ((yy c).cls, T, nf ci)
def SLP (m c : MR) (idx n : Nat) : Prop := CaP m c n ∧ Cond.methodLink (yy m).cls idx (yy c) ∈ AW ∧ Cond.static (yy c) ∈ AW
theorem wp_callV {c : MR} {idx q ci : Nat} {A St : List AV} (hd : decode (cd m) pc = .ok (.invokevirtual idx, 3)) (hvl : VLP m c idx A.length ci) (hq : oq w q (0, ci))
    (hst : St = A.reverse ++ vr q :: S) (hW : (S.map catA).sum ≤ 8) (hk : k.1 + (rmm c).cells ≤ (rmm m).cells ∧ k.2 + (rmm c).slots ≤ (rmm m).slots)
    (hM : MetS b c (vr q :: A) w (fun r w' => WpG b bF m (pc + 3) L (r.toList ++ S) (k.1 + (rmm c).cells, k.2 + (rmm c).slots) w' Q)) : WpG b bF m pc L St k w Q := fun p l e s mm args below meth c0 G n0 Z H locs ls X Y => by
  subst hst
  obtain ⟨hc, hl, hin, hse, T, hci⟩ := hvl
  have hoA : ∀ v ∈ A, okv v := fun v hv => Y.2.2.1 v (List.mem_append_left _ (List.mem_reverse.mpr hv))
  have hoS : ∀ v ∈ S, okv v := fun v hv => Y.2.2.1 v (List.mem_append_right _ (List.mem_cons_of_mem _ hv))
  have hq1 : q ≤ 1000 := Nat.le_trans hq.2.1 Y.2.2.2.2.2.2.2.2.2
  have hM2 := hM l G H.size (okv_cons trivial hoA)
  rw [mp_ref hq.1 hq1] at hM2
  refine run_k (va_runV (b := gB G + q) (As := A.map (cv G)) (C := (yy c).cls) (n := A.length) (nL := nLo m) ⟨X.1, X.2.1, X.2.2.1, X.2.2.2.1, X.2.2.2.2.1⟩ hM2 ⟨callB_c hc hl X.2.2.2.2.1, X.2.2.2.2.1 _ hin, X.2.2.2.2.1 _ hse⟩ ⟨blindC, va_recv X.2.2.2.2.2.1.1 Y.2.2.2.1 hci (cE_obj hq), fun U hU hW2 => ⟨rfl, by rw [hU], X.2.2.2.2.2.1.moved hW2 hU Y.2.2.2.2.2.2.1, by rw [hU]; exact Y.2.2.2.1, Y.2.2.2.2.1, by rw [hU]; exact Y.2.2.2.2.2.1, Y.2.2.2.2.2.2.2.2.2⟩⟩ rfl (by rw [List.length_map]) Y.1.1 ?_ ?_ hd hk) X Y hoS (fun r w' h => h)
  · show (A.reverse ++ vr q :: S).map (cv G) = _
    rw [List.map_append, mp_ref hq.1 hq1, List.map_reverse]
  · show 0 + ((S.map (cv G)).map fun v => v.category).sum ≤ 8
    rw [catS_eq, Nat.zero_add]
    exact hW
theorem wp_callS {c : MR} {idx : Nat} {A St : List AV} (hd : decode (cd m) pc = .ok (.invokestatic idx, 3)) (hsl : SLP m c idx A.length)
    (hst : St = A.reverse ++ S) (hW : (S.map catA).sum ≤ 8) (hk : k.1 + (rmm c).cells ≤ (rmm m).cells ∧ k.2 + (rmm c).slots ≤ (rmm m).slots)
    (hM : MetS b c A w (fun r w' => WpG b bF m (pc + 3) L (r.toList ++ S) (k.1 + (rmm c).cells, k.2 + (rmm c).slots) w' Q)) : WpG b bF m pc L St k w Q := fun p l e s mm args below meth c0 G n0 Z H locs ls X Y => by
  subst hst
  obtain ⟨hc, hl, hin⟩ := hsl
  have hoA : ∀ v ∈ A, okv v := fun v hv => Y.2.2.1 v (List.mem_append_left _ (List.mem_reverse.mpr hv))
  have hoS : ∀ v ∈ S, okv v := fun v hv => Y.2.2.1 v (List.mem_append_right _ hv)
  have hM2 := hM l G H.size hoA
  refine run_k (va_runS (As := A.map (cv G)) (n := A.length) (nL := nLo m) ⟨X.1, X.2.1, X.2.2.1, X.2.2.2.1, X.2.2.2.2.1⟩ hM2 ⟨callB_c hc hl X.2.2.2.2.1, X.2.2.2.2.1 _ hin⟩ ⟨blindC, fun U hU hW2 => ⟨rfl, by rw [hU], X.2.2.2.2.2.1.moved hW2 hU Y.2.2.2.2.2.2.1, by rw [hU]; exact Y.2.2.2.1, Y.2.2.2.2.1, by rw [hU]; exact Y.2.2.2.2.2.1, Y.2.2.2.2.2.2.2.2.2⟩⟩ rfl (by rw [List.length_map]) Y.1.1 ?_ ?_ hd hk) X Y hoS (fun r w' h => h)
  · show (A.reverse ++ S).map (cv G) = _
    rw [List.map_append, List.map_reverse]
  · show 0 + ((S.map (cv G)).map fun v => v.category).sum ≤ 8
    rw [catS_eq, Nat.zero_add]
    exact hW
theorem wp_callC {c : MR} {idx q : Nat} {A St : List AV} (hd : decode (cd m) pc = .ok (.invokespecial idx, 3)) (hc : CaP m c A.length) (hrt : rtt c = none) (hl : Cond.methodLink (yy m).cls idx (yy c) ∈ AW) (hin : Cond.instanceMethod (yy c) ∈ AW) (hnm : (yy c).name = "<init>") (hq0 : 0 < q) (hq : q ≤ 1000)
    (hst : St = A.reverse ++ vr q :: S) (hW : (S.map catA).sum ≤ 8) (hk : k.1 + (rmm c).cells ≤ (rmm m).cells ∧ k.2 + (rmm c).slots ≤ (rmm m).slots)
    (hM : MetS b c (vr q :: A) w (fun r w' => WpG b bF m (pc + 3) L (r.toList ++ S) (k.1 + (rmm c).cells, k.2 + (rmm c).slots) w' Q)) : WpG b bF m pc L St k w Q := fun p l e s mm args below meth c0 G n0 Z H locs ls X Y => by
  subst hst
  have hoA : ∀ v ∈ A, okv v := fun v hv => Y.2.2.1 v (List.mem_append_left _ (List.mem_reverse.mpr hv))
  have hoS : ∀ v ∈ S, okv v := fun v hv => Y.2.2.1 v (List.mem_append_right _ (List.mem_cons_of_mem _ hv))
  have hM2 := hM l G H.size (okv_cons trivial hoA)
  rw [mp_ref hq0 hq] at hM2
  have hcb := callB_c (m := m) hc hl X.2.2.2.2.1
  rw [hrt] at hcb
  refine run_k (va_runI (b := gB G + q) (As := A.map (cv G)) (n := A.length) (nL := nLo m) ⟨X.1, X.2.1, X.2.2.1, X.2.2.2.1, X.2.2.2.2.1⟩ hM2 ⟨hcb, hnm, X.2.2.2.2.1 _ hin⟩ ⟨blindC, fun U hU hW2 => ⟨rfl, by rw [hU], X.2.2.2.2.2.1.moved hW2 hU Y.2.2.2.2.2.2.1, by rw [hU]; exact Y.2.2.2.1, Y.2.2.2.2.1, by rw [hU]; exact Y.2.2.2.2.2.1, Y.2.2.2.2.2.2.2.2.2⟩⟩ rfl (by rw [List.length_map]) Y.1.1 ?_ ?_ hd hk) X Y hoS (fun r w' h => h)
  · show (A.reverse ++ vr q :: S).map (cv G) = _
    rw [List.map_append, mp_ref hq0 hq, List.map_reverse]
  · show 0 + ((S.map (cv G)).map fun v => v.category).sum ≤ 8
    rw [catS_eq, Nat.zero_add]
    exact hW
end Calls
end
section
section Rows
variable {b bF : Bool} {m : MR} {pc : Nat} {L L' : List (Nat × AV)} {S : List AV} {k : Nat × Nat} {w : Wo} {Q : Option AV → Wo → Prop}
/-! the strings that the class reads, and copying of longs -/
theorem mp_sp {G : Gh} {q : Nat} {S : List AV} (h : 1000 < q) : (vr q :: S).map (cv G) = .ref (gA G q) :: S.map (cv G) := by
  show va_rf (cr G q) :: _ = _
  unfold cr
  rw [if_neg (by omega), if_neg (by omega)]
  rfl
theorem Wy.S0 {G : Gh} {n0 : Nat} {s : State} {n : Nat} {H : Heap} {locs : List Loc} {ls : Array Slot} (Y : Wy b G n0 s n L S w H locs ls) (hB : gB G < s.heap.size) : va_S (fun q => gB G < q) s.heap H locs := by
  have hS := Y.2.2.2.2.2.2.1
  have hsub : ∀ q, fr (gB G) n0 s.heap.size q → gB G < q := fun q hq => by
    unfold fr at hq
    omega
  exact ⟨hS.1, fun q h1 h2 => hS.2.1 q h1 (fun z => h2 (hsub q z)), fun l hl => hsub _ (hS.2.2 l hl)⟩
theorem wp_ldcS {idx : Nat} (i : Nat) {tx : String} (hd : decode (cd m) pc = .ok (.ldc idx, 2)) (hi : stT[i]? = some ((yy m).cls, idx, tx)) (h : WpG b bF m (pc + 2) L (vr (1001 + i) :: S) k w Q) : WpG b bF m pc L S k w Q := fun p l e s mm args below meth c G n0 Z H locs ls X Y => by
  have hZ := X.2.2.2.2.2.1.2.1.2.1 i _ hi
  have hh := h p l e s mm args below meth c G n0 Z H locs ls X (Y.stk (okv_cons trivial Y.2.2.1))
  rw [mp_sp (by omega)] at hh
  exact va_ldcS X.1 X.2.1 X.2.2.2.1 hZ hd hh
theorem wp_compact {idx : Nat} (hd : decode (cd m) pc = .ok (.getstatic idx, 3)) (hl : Cond.fieldLink (yy m).cls idx "java/lang/String" "COMPACT_STRINGS" "Z" ∈ AW) (h : WpG b bF m (pc + 3) L (vi 1 :: S) k w Q) : WpG b bF m pc L S k w Q := fun p l e s mm args below meth c G n0 Z H locs ls X Y =>
  va_gets X.1 X.2.1 X.2.2.2.2.2.1.2.1.2.2.1 (Y.S0 X.2.2.2.2.2.1.2.2) X.2.2.2.1 (X.2.2.2.2.1 _ hl) (fun _ h9 => h9) hd (h p l e s mm args below meth c G n0 Z H locs ls X (Y.stk (okv_cons (show inr32 1 by decide) Y.2.2.1)))
theorem wp_sioobe {idx : Nat} (hd : decode (cd m) pc = .ok (.getstatic idx, 3)) (hl : Cond.fieldLink (yy m).cls idx "jdk/internal/util/Preconditions" "SIOOBE_FORMATTER" "Ljava/util/function/BiFunction;" ∈ AW) (h : ∀ q, WpG b bF m (pc + 3) L (vr q :: S) k w Q) : WpG b bF m pc L S k w Q := fun p l e s mm args below meth c G n0 Z H locs ls X Y => by
  obtain ⟨q, -, hZ⟩ := X.2.2.2.2.2.1.2.1.2.2.2.1
  exact va_gets X.1 X.2.1 hZ (Y.S0 X.2.2.2.2.2.1.2.2) X.2.2.2.1 (X.2.2.2.2.1 _ hl) (fun _ h9 => h9) hd (h q p l e s mm args below meth c G n0 Z H locs ls X (Y.stk (okv_cons trivial Y.2.2.1)))
theorem wp_coder {idx i : Nat} (hi : i < 5) (hd : decode (cd m) pc = .ok (.getfield idx, 3)) (hl : Cond.fieldLink (yy m).cls idx "java/lang/String" "coder" "B" ∈ AW) (h : WpG b bF m (pc + 3) L (vi 0 :: S) k w Q) : WpG b bF m pc L (vr (1001 + i) :: S) k w Q := fun p l e s mm args below meth c G n0 Z H locs ls X Y => by
  have hE := (X.2.2.2.2.2.1.2.1.1.1 i hi).2.1
  rw [mp_sp (by omega)]
  exact vk_getf X.1 X.2.1 hE (Y.S0 X.2.2.2.2.2.1.2.2) X.2.2.2.1 (X.2.2.2.2.1 _ hl) (fun _ h9 => h9) hd (h p l e s mm args below meth c G n0 Z H locs ls X (Y.stk (okv_cons (show inr32 0 by decide) (okv_tl Y.2.2.1))))
theorem wp_svalue {idx i : Nat} (hi : i < 5) (hd : decode (cd m) pc = .ok (.getfield idx, 3)) (hl : Cond.fieldLink (yy m).cls idx "java/lang/String" "value" "[B" ∈ AW) (h : WpG b bF m (pc + 3) L (vr (2001 + i) :: S) k w Q) : WpG b bF m pc L (vr (1001 + i) :: S) k w Q := fun p l e s mm args below meth c G n0 Z H locs ls X Y => by
  have hE := (X.2.2.2.2.2.1.2.1.1.1 i hi).2.2.1
  have hh := h p l e s mm args below meth c G n0 Z H locs ls X (Y.stk (okv_cons trivial (okv_tl Y.2.2.1)))
  rw [mp_sp (by omega)] at hh
  rw [mp_sp (by omega)]
  exact vk_getf X.1 X.2.1 hE (Y.S0 X.2.2.2.2.2.1.2.2) X.2.2.2.1 (X.2.2.2.2.1 _ hl) (fun _ h9 => h9) hd hh
theorem wp_svlen {i : Nat} (hi : i < 5) (hd : decode (cd m) pc = .ok (.arraylength, 1)) (h : WpG b bF m (pc + 1) L (vi ((stN.getD i 0 : Nat) : Int) :: S) k w Q) : WpG b bF m pc L (vr (2001 + i) :: S) k w Q := fun p l e s mm args below meth c G n0 Z H locs ls X Y => by
  have hT := (X.2.2.2.2.2.1.2.1.1.1 i hi).2.2.2
  have hn : stN.getD i 0 ≤ 5 := by
    have h5 : ∀ j, j < 5 → stN.getD j 0 ≤ 5 := by decide
    exact h5 i hi
  have hh := h p l e s mm args below meth c G n0 Z H locs ls X (Y.stk (okv_cons (show inr32 ((stN.getD i 0 : Nat) : Int) from ⟨by omega, by omega⟩) (okv_tl Y.2.2.1)))
  rw [mp_sp (by omega)]
  exact va_tlen X.1 X.2.1 hT (Y.S0 X.2.2.2.2.2.1.2.2) (Int32.ofInt_eq_ofNat).symm hd hh
theorem stB_rng : ∀ i, i < 5 → ∀ j, j < stN.getD i 0 → inr32 (((stB.getD i []).getD j 0).toInt) := fun i _ j _ => r32 _
theorem wp_svld {i : Nat} {x : Int} (hi : i < 5) (hx : 0 ≤ x ∧ x < ((stN.getD i 0 : Nat) : Int)) (hd : decode (cd m) pc = .ok (.baload, 1)) (h : WpG b bF m (pc + 1) L (vi (((stB.getD i []).getD x.toNat 0).toInt) :: S) k w Q) : WpG b bF m pc L (vi x :: vr (2001 + i) :: S) k w Q := fun p l e s mm args below meth c G n0 Z H locs ls X Y => by
  have hT := (X.2.2.2.2.2.1.2.1.1.1 i hi).2.2.2
  have hn : stN.getD i 0 ≤ 5 := by
    have h5 : ∀ j, j < 5 → stN.getD j 0 ≤ 5 := by decide
    exact h5 i hi
  have hh := h p l e s mm args below meth c G n0 Z H locs ls X (Y.stk (okv_cons (r32 _) (okv_tl (okv_tl Y.2.2.1))))
  rw [List.map_cons, mp_sp (by omega)]
  refine va_tb X.1 X.2.1 hT (Y.S0 X.2.2.2.2.2.1.2.2) (i32_in hx.1 hx.2 (by omega)) rfl hd ?_
  rw [i32_cl hx.1 (by omega)]
  have e1 : (vi (((stB.getD i []).getD x.toNat 0).toInt) :: S).map (cv G) = .int (Int32.ofInt (((stB.getD i []).getD x.toNat 0).toInt)) :: S.map (cv G) := rfl
  rw [e1, Int32.ofInt_toInt] at hh
  exact hh
/-- a call on a string -/
theorem wp_callT {c : MR} {idx i : Nat} {A St : List AV} (hi : i < 5) (hd : decode (cd m) pc = .ok (.invokevirtual idx, 3)) (hc : CaP m c A.length) (hl : Cond.methodLink (yy m).cls idx (yy c) ∈ AW) (hin : Cond.instanceMethod (yy c) ∈ AW) (hse : Cond.selects (yy c).cls (yy c) (yy c) ∈ AW) (hcs : (yy c).cls = "java/lang/String")
    (hst : St = A.reverse ++ vr (1001 + i) :: S) (hW : (S.map catA).sum ≤ 8) (hk : k.1 + (rmm c).cells ≤ (rmm m).cells ∧ k.2 + (rmm c).slots ≤ (rmm m).slots)
    (hM : MetS b c (vr (1001 + i) :: A) w (fun r w' => WpG b bF m (pc + 3) L (r.toList ++ S) (k.1 + (rmm c).cells, k.2 + (rmm c).slots) w' Q)) : WpG b bF m pc L St k w Q := fun p l e s mm args below meth c0 G n0 Z H locs ls X Y => by
  subst hst
  have hoA : ∀ v ∈ A, okv v := fun v hv => Y.2.2.1 v (List.mem_append_left _ (List.mem_reverse.mpr hv))
  have hoS : ∀ v ∈ S, okv v := fun v hv => Y.2.2.1 v (List.mem_append_right _ (List.mem_cons_of_mem _ hv))
  have hM2 := hM l G H.size (okv_cons trivial hoA)
  rw [mp_sp (by omega)] at hM2
  have hrc := vk_recv X.2.2.2.2.2.1.2.1.1 hi (Y.S0 X.2.2.2.2.2.1.2.2)
  refine run_k (va_runV (b := gA G (1001 + i)) (As := A.map (cv G)) (C := (yy c).cls) (n := A.length) (nL := nLo m) ⟨X.1, X.2.1, X.2.2.1, X.2.2.2.1, X.2.2.2.2.1⟩ hM2 ⟨callB_c hc hl X.2.2.2.2.1, X.2.2.2.2.1 _ hin, X.2.2.2.2.1 _ hse⟩ ⟨blindC, by rw [hcs]; exact hrc, fun U hU hW2 => ⟨rfl, by rw [hU], X.2.2.2.2.2.1.moved hW2 hU Y.2.2.2.2.2.2.1, by rw [hU]; exact Y.2.2.2.1, Y.2.2.2.2.1, by rw [hU]; exact Y.2.2.2.2.2.1, Y.2.2.2.2.2.2.2.2.2⟩⟩ rfl (by rw [List.length_map]) Y.1.1 ?_ ?_ hd hk) X Y hoS (fun r w' h => h)
  · show (A.reverse ++ vr (1001 + i) :: S).map (cv G) = _
    rw [List.map_append, mp_sp (by omega), List.map_reverse]
  · show 0 + ((S.map (cv G)).map fun v => v.category).sum ≤ 8
    rw [catS_eq, Nat.zero_add]
    exact hW
/-- copying n longs -/
def cpJ (w : Wo) (a0 sp a dp n : Nat) : Wo := (w.1, w.2.1, w.2.2.1, (fun b j => if b = a ∧ dp ≤ j ∧ j < dp + n then gJ w a0 (sp + (j - dp)) else w.2.2.2.1 b j), w.2.2.2.2)
theorem InS.cpJ {w : Wo} (h : InS w) {a0 sp a dp n : Nat} : InS (cpJ w a0 sp a dp n) := by
  refine ⟨h.1, fun b j => ?_⟩
  show inr64 (if b = a ∧ dp ≤ j ∧ j < dp + n then gJ w a0 (sp + (j - dp)) else gJ w b j)
  split
  · exact h.2 _ _
  · exact h.2 _ _
theorem wL_cpJ {G : Gh} {w : Wo} {a0 sp a dp n : Nat} (h0 : 0 < a) (ht : (wsh w a).1 = 2) : (wL G w).set (a - 1) (gB G + a, .inl (gC G 2, (wsh w a).2, .inr (.inl (va_cpy (fun j => Int64.ofInt (gJ w a0 j)) (fun j => Int64.ofInt (gJ w a j)) sp dp n)))) = wL G (cpJ w a0 sp a dp n) := by
  refine wL_upd h0 rfl ?_ (fun _ => rfl) (fun o i ho => ⟨rfl, if_neg (fun z => ho z.1), rfl⟩)
  unfold cE
  have hs : wsh (cpJ w a0 sp a dp n) a = wsh w a := rfl
  rw [hs, ht]
  have e : (fun j => Int64.ofInt (gJ (cpJ w a0 sp a dp n) a j)) = va_cpy (fun j => Int64.ofInt (gJ w a0 j)) (fun j => Int64.ofInt (gJ w a j)) sp dp n := by
    funext j
    show Int64.ofInt (if a = a ∧ dp ≤ j ∧ j < dp + n then gJ w a0 (sp + (j - dp)) else gJ w a j) = _
    unfold va_cpy
    by_cases hj : dp ≤ j ∧ j < dp + n
    · rw [if_pos ⟨rfl, hj⟩, if_pos hj]
    · rw [if_neg (fun z => hj z.2), if_neg hj]
  rw [← e]
  rfl
theorem wp_acopy {idx a0 a : Nat} {sp dp n : Int} {n0 n1 : Nat} (hd : decode (cd m) pc = .ok (.invokestatic idx, 3)) (hl : Cond.methodLink (yy m).cls idx arraycopyName ∈ AW) (hnat : Cond.native arraycopyName ∈ AW) (hsta : Cond.static arraycopyName ∈ AW) (hini : Cond.initialized "java/lang/System" ∈ AW)
    (h0 : oq w a0 (2, n0)) (h1 : oq w a (2, n1)) (hN0 : n0 < 2147483648) (hN1 : n1 < 2147483648) (hb : 0 ≤ sp ∧ 0 ≤ dp ∧ 0 ≤ n ∧ sp + n ≤ n0 ∧ dp + n ≤ n1) (hf : 1 ≤ (rmm m).frames) (hlo : (S.map catA).sum + (nativeFrameWords "java/lang/System" "arraycopy" 5 + 11) ≤ (rmm m).locals)
    (h : ∀ w', w' = cpJ w a0 sp.toNat a dp.toNat n.toNat → WpG true bF m (pc + 3) L S k w' Q) : WpG true bF m pc L (vi n :: vi dp :: vr a :: vi sp :: vr a0 :: S) k w Q := fun p l e s mm args below meth c G n0x Z H locs ls X Y => by
  have hq0 : a0 ≤ 1000 := Nat.le_trans h0.2.1 Y.2.2.2.2.2.2.2.2.2
  have hq1 : a ≤ 1000 := Nat.le_trans h1.2.1 Y.2.2.2.2.2.2.2.2.2
  have e0 : (wsh w a0).2 = n0 := by rw [h0.2.2]
  have e1 : (wsh w a).2 = n1 := by rw [h1.2.2]
  have t0 : (wsh w a0).1 = 2 := by rw [h0.2.2]
  have t1 : (wsh w a).1 = 2 := by rw [h1.2.2]
  have c0 : (Int32.ofInt sp).toNatClampNeg = sp.toNat := i32_cl hb.1 (by omega)
  have c1 : (Int32.ofInt dp).toNatClampNeg = dp.toNat := i32_cl hb.2.1 (by omega)
  have c2 : (Int32.ofInt n).toNatClampNeg = n.toNat := i32_cl hb.2.2.1 (by omega)
  have nn : ∀ x : Int, 0 ≤ x → x < 2147483648 → ¬ Int32.ofInt x < 0 := fun x hx hx2 z => by
    have := (i32_lt (x := x) (y := 0) ⟨by omega, hx2⟩ (by decide)).mp z
    omega
  rw [List.map_cons, List.map_cons, mp_ref h1.1 hq1, List.map_cons, mp_ref h0.1 hq0]
  refine va_copyl X.1 X.2.1 (by rw [X.2.2.1]; exact Y.1.1.symm) X.2.2.2.1 (X.2.2.2.2.1 _ hl) (X.2.2.2.2.1 _ hnat) (X.2.2.2.2.1 _ hsta) (X.2.2.2.2.1 _ hini) X.2.2.2.2.2.1.1 Y.2.2.2.1 (wL_D Y.2.2.2.2.2.2.2.2.1) Y.2.2.2.2.2.2.1 (a0 - 1) (a - 1) 1 1 (cE_long h0.1 h0.2.1 t0) (cE_long h1.1 h1.2.1 t1) rfl rfl rfl (nn sp hb.1 (by omega)) (nn dp hb.2.1 (by omega)) (nn n hb.2.2.1 (by omega)) ?_ ?_ (fun _ _ => rfl) hf ?_ hd (fun H1 locs1 hP hD hS => ?_)
  · rw [c0, c2, e0]; omega
  · rw [c1, c2, e1]; omega
  · rw [catS_eq]; exact hlo
  · rw [c0, c1, c2, wL_cpJ h1.1 t1] at hP
    exact h _ rfl p l e s mm args below meth c G n0x Z H1 locs1 ls X (Y.put hP hS Y.2.2.2.2.1.cpJ Y.2.2.2.2.2.1 rfl (okv_tl (okv_tl (okv_tl (okv_tl (okv_tl Y.2.2.1))))))
end Rows
end
