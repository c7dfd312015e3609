section
-- ===== PART A: goes FIRST, ahead of the names: the tables' words, and 'selects' of the private methods out of them =====
/-- a private method of a class that the tables say can be made, by its rows of tables_1 -/
def lw_okq (q : MethodName × Nat) : Prop := (q.1.cls ≠ "java/lang/invoke/MethodHandle" ∧ q.1.cls ≠ "java/lang/invoke/VarHandle") ∧ Cond.instantiable q.1.cls q.2 ∈ tables_1 ∧ Cond.privateMethod q.1 ∈ tables_1 ∧ Cond.instanceMethod q.1 ∈ tables_1
theorem lw_p0 : lw_okq (⟨"TraceQuestions$Rows", "putInOrders", "()V"⟩, 4) := ⟨⟨by decide +kernel, by decide +kernel⟩, List.mem_of_getElem? (i := 19) (by decide +kernel), List.mem_of_getElem? (i := 243) (by decide +kernel), List.mem_of_getElem? (i := 244) (by decide +kernel)⟩
theorem lw_p1 : lw_okq (⟨"TraceQuestions$Rows", "behindLast", "(IIZ)I"⟩, 4) := ⟨⟨by decide +kernel, by decide +kernel⟩, List.mem_of_getElem? (i := 19) (by decide +kernel), List.mem_of_getElem? (i := 251) (by decide +kernel), List.mem_of_getElem? (i := 252) (by decide +kernel)⟩
theorem lw_p2 : lw_okq (⟨"TraceQuestions$Rows", "insert", "([II)V"⟩, 4) := ⟨⟨by decide +kernel, by decide +kernel⟩, List.mem_of_getElem? (i := 19) (by decide +kernel), List.mem_of_getElem? (i := 259) (by decide +kernel), List.mem_of_getElem? (i := 260) (by decide +kernel)⟩
theorem lw_p3 : lw_okq (⟨"TraceQuestions", "readText", "(I)I"⟩, 16) := ⟨⟨by decide +kernel, by decide +kernel⟩, List.mem_of_getElem? (i := 11) (by decide +kernel), List.mem_of_getElem? (i := 272) (by decide +kernel), List.mem_of_getElem? (i := 273) (by decide +kernel)⟩
theorem lw_p4 : lw_okq (⟨"TraceQuestions$Reader", "begin", "(I)V"⟩, 11) := ⟨⟨by decide +kernel, by decide +kernel⟩, List.mem_of_getElem? (i := 58) (by decide +kernel), List.mem_of_getElem? (i := 280) (by decide +kernel), List.mem_of_getElem? (i := 281) (by decide +kernel)⟩
theorem lw_p5 : lw_okq (⟨"TraceQuestions$Reader", "takes", "(C)Z"⟩, 11) := ⟨⟨by decide +kernel, by decide +kernel⟩, List.mem_of_getElem? (i := 58) (by decide +kernel), List.mem_of_getElem? (i := 288) (by decide +kernel), List.mem_of_getElem? (i := 289) (by decide +kernel)⟩
theorem lw_p6 : lw_okq (⟨"TraceQuestions$Reader", "takesTail", "(C)Z"⟩, 11) := ⟨⟨by decide +kernel, by decide +kernel⟩, List.mem_of_getElem? (i := 58) (by decide +kernel), List.mem_of_getElem? (i := 292) (by decide +kernel), List.mem_of_getElem? (i := 293) (by decide +kernel)⟩
theorem lw_p7 : lw_okq (⟨"TraceQuestions$Reader", "takesTest", "(C)Z"⟩, 11) := ⟨⟨by decide +kernel, by decide +kernel⟩, List.mem_of_getElem? (i := 58) (by decide +kernel), List.mem_of_getElem? (i := 303) (by decide +kernel), List.mem_of_getElem? (i := 304) (by decide +kernel)⟩
theorem lw_p8 : lw_okq (⟨"TraceQuestions$Reader", "takesTurn", "()Z"⟩, 11) := ⟨⟨by decide +kernel, by decide +kernel⟩, List.mem_of_getElem? (i := 58) (by decide +kernel), List.mem_of_getElem? (i := 307) (by decide +kernel), List.mem_of_getElem? (i := 308) (by decide +kernel)⟩
theorem lw_p9 : lw_okq (⟨"TraceQuestions$Reader", "takesOpen", "()Z"⟩, 11) := ⟨⟨by decide +kernel, by decide +kernel⟩, List.mem_of_getElem? (i := 58) (by decide +kernel), List.mem_of_getElem? (i := 315) (by decide +kernel), List.mem_of_getElem? (i := 316) (by decide +kernel)⟩
theorem lw_p10 : lw_okq (⟨"TraceQuestions$Reader", "takesTestField", "(C)Z"⟩, 11) := ⟨⟨by decide +kernel, by decide +kernel⟩, List.mem_of_getElem? (i := 58) (by decide +kernel), List.mem_of_getElem? (i := 319) (by decide +kernel), List.mem_of_getElem? (i := 320) (by decide +kernel)⟩
theorem lw_p11 : lw_okq (⟨"TraceQuestions$Reader", "isOpenField", "(C)Z"⟩, 11) := ⟨⟨by decide +kernel, by decide +kernel⟩, List.mem_of_getElem? (i := 58) (by decide +kernel), List.mem_of_getElem? (i := 323) (by decide +kernel), List.mem_of_getElem? (i := 324) (by decide +kernel)⟩
theorem lw_p12 : lw_okq (⟨"TraceQuestions$Reader", "takesRelation", "(C)Z"⟩, 11) := ⟨⟨by decide +kernel, by decide +kernel⟩, List.mem_of_getElem? (i := 58) (by decide +kernel), List.mem_of_getElem? (i := 334) (by decide +kernel), List.mem_of_getElem? (i := 335) (by decide +kernel)⟩
theorem lw_p13 : lw_okq (⟨"TraceQuestions$Reader", "takesFigure", "(C)Z"⟩, 11) := ⟨⟨by decide +kernel, by decide +kernel⟩, List.mem_of_getElem? (i := 58) (by decide +kernel), List.mem_of_getElem? (i := 338) (by decide +kernel), List.mem_of_getElem? (i := 339) (by decide +kernel)⟩
theorem lw_p14 : lw_okq (⟨"TraceQuestions$Reader", "endFieldTest", "()V"⟩, 11) := ⟨⟨by decide +kernel, by decide +kernel⟩, List.mem_of_getElem? (i := 58) (by decide +kernel), List.mem_of_getElem? (i := 342) (by decide +kernel), List.mem_of_getElem? (i := 343) (by decide +kernel)⟩
theorem lw_p15 : lw_okq (⟨"TraceQuestions$Reader", "endTest", "()V"⟩, 11) := ⟨⟨by decide +kernel, by decide +kernel⟩, List.mem_of_getElem? (i := 58) (by decide +kernel), List.mem_of_getElem? (i := 351) (by decide +kernel), List.mem_of_getElem? (i := 352) (by decide +kernel)⟩
def lw_privs_1 : List (MethodName × Nat) := [(⟨"TraceQuestions$Rows", "putInOrders", "()V"⟩, 4), (⟨"TraceQuestions$Rows", "behindLast", "(IIZ)I"⟩, 4), (⟨"TraceQuestions$Rows", "insert", "([II)V"⟩, 4), (⟨"TraceQuestions", "readText", "(I)I"⟩, 16), (⟨"TraceQuestions$Reader", "begin", "(I)V"⟩, 11), (⟨"TraceQuestions$Reader", "takes", "(C)Z"⟩, 11), (⟨"TraceQuestions$Reader", "takesTail", "(C)Z"⟩, 11), (⟨"TraceQuestions$Reader", "takesTest", "(C)Z"⟩, 11), (⟨"TraceQuestions$Reader", "takesTurn", "()Z"⟩, 11), (⟨"TraceQuestions$Reader", "takesOpen", "()Z"⟩, 11), (⟨"TraceQuestions$Reader", "takesTestField", "(C)Z"⟩, 11), (⟨"TraceQuestions$Reader", "isOpenField", "(C)Z"⟩, 11), (⟨"TraceQuestions$Reader", "takesRelation", "(C)Z"⟩, 11), (⟨"TraceQuestions$Reader", "takesFigure", "(C)Z"⟩, 11), (⟨"TraceQuestions$Reader", "endFieldTest", "()V"⟩, 11), (⟨"TraceQuestions$Reader", "endTest", "()V"⟩, 11)]
theorem lw_r1 : ∀ q ∈ lw_privs_1, lw_okq q := List.forall_mem_cons.mpr ⟨lw_p0, List.forall_mem_cons.mpr ⟨lw_p1, List.forall_mem_cons.mpr ⟨lw_p2, List.forall_mem_cons.mpr ⟨lw_p3, List.forall_mem_cons.mpr ⟨lw_p4, List.forall_mem_cons.mpr ⟨lw_p5, List.forall_mem_cons.mpr ⟨lw_p6, List.forall_mem_cons.mpr ⟨lw_p7, List.forall_mem_cons.mpr ⟨lw_p8, List.forall_mem_cons.mpr ⟨lw_p9, List.forall_mem_cons.mpr ⟨lw_p10, List.forall_mem_cons.mpr ⟨lw_p11, List.forall_mem_cons.mpr ⟨lw_p12, List.forall_mem_cons.mpr ⟨lw_p13, List.forall_mem_cons.mpr ⟨lw_p14, List.forall_mem_cons.mpr ⟨lw_p15, fun _ h => absurd h List.not_mem_nil⟩⟩⟩⟩⟩⟩⟩⟩⟩⟩⟩⟩⟩⟩⟩⟩
theorem lw_p16 : lw_okq (⟨"TraceQuestions$Reader", "takesBehindTest", "(C)Z"⟩, 11) := ⟨⟨by decide +kernel, by decide +kernel⟩, List.mem_of_getElem? (i := 58) (by decide +kernel), List.mem_of_getElem? (i := 355) (by decide +kernel), List.mem_of_getElem? (i := 356) (by decide +kernel)⟩
theorem lw_p17 : lw_okq (⟨"TraceQuestions$Reader", "takesClose", "()Z"⟩, 11) := ⟨⟨by decide +kernel, by decide +kernel⟩, List.mem_of_getElem? (i := 58) (by decide +kernel), List.mem_of_getElem? (i := 359) (by decide +kernel), List.mem_of_getElem? (i := 360) (by decide +kernel)⟩
theorem lw_p18 : lw_okq (⟨"TraceQuestions$Reader", "takesTailField", "(C)Z"⟩, 11) := ⟨⟨by decide +kernel, by decide +kernel⟩, List.mem_of_getElem? (i := 58) (by decide +kernel), List.mem_of_getElem? (i := 363) (by decide +kernel), List.mem_of_getElem? (i := 364) (by decide +kernel)⟩
theorem lw_p19 : lw_okq (⟨"TraceQuestions$Reader", "takesEnd", "()Z"⟩, 11) := ⟨⟨by decide +kernel, by decide +kernel⟩, List.mem_of_getElem? (i := 58) (by decide +kernel), List.mem_of_getElem? (i := 371) (by decide +kernel), List.mem_of_getElem? (i := 372) (by decide +kernel)⟩
theorem lw_p20 : lw_okq (⟨"TraceQuestions", "costOf", "(LTraceQuestions$Question;)J"⟩, 16) := ⟨⟨by decide +kernel, by decide +kernel⟩, List.mem_of_getElem? (i := 11) (by decide +kernel), List.mem_of_getElem? (i := 383) (by decide +kernel), List.mem_of_getElem? (i := 384) (by decide +kernel)⟩
theorem lw_p21 : lw_okq (⟨"TraceQuestions", "search", "(LTraceQuestions$Question;ILTraceQuestions$Found;)V"⟩, 16) := ⟨⟨by decide +kernel, by decide +kernel⟩, List.mem_of_getElem? (i := 11) (by decide +kernel), List.mem_of_getElem? (i := 389) (by decide +kernel), List.mem_of_getElem? (i := 390) (by decide +kernel)⟩
theorem lw_p22 : lw_okq (⟨"TraceQuestions", "sees", "(II)Z"⟩, 16) := ⟨⟨by decide +kernel, by decide +kernel⟩, List.mem_of_getElem? (i := 11) (by decide +kernel), List.mem_of_getElem? (i := 410) (by decide +kernel), List.mem_of_getElem? (i := 411) (by decide +kernel)⟩
theorem lw_p23 : lw_okq (⟨"TraceQuestions$Rights", "kindsOf", "(II)I"⟩, 3) := ⟨⟨by decide +kernel, by decide +kernel⟩, List.mem_of_getElem? (i := 41) (by decide +kernel), List.mem_of_getElem? (i := 419) (by decide +kernel), List.mem_of_getElem? (i := 420) (by decide +kernel)⟩
theorem lw_p24 : lw_okq (⟨"TraceQuestions$Judge", "beginLevel", "()V"⟩, 4) := ⟨⟨by decide +kernel, by decide +kernel⟩, List.mem_of_getElem? (i := 136) (by decide +kernel), List.mem_of_getElem? (i := 427) (by decide +kernel), List.mem_of_getElem? (i := 428) (by decide +kernel)⟩
theorem lw_p25 : lw_okq (⟨"TraceQuestions$Judge", "endLevel", "()V"⟩, 4) := ⟨⟨by decide +kernel, by decide +kernel⟩, List.mem_of_getElem? (i := 136) (by decide +kernel), List.mem_of_getElem? (i := 439) (by decide +kernel), List.mem_of_getElem? (i := 440) (by decide +kernel)⟩
theorem lw_p26 : lw_okq (⟨"TraceQuestions$Judge", "isLevelTrue", "()Z"⟩, 4) := ⟨⟨by decide +kernel, by decide +kernel⟩, List.mem_of_getElem? (i := 136) (by decide +kernel), List.mem_of_getElem? (i := 443) (by decide +kernel), List.mem_of_getElem? (i := 444) (by decide +kernel)⟩
theorem lw_p27 : lw_okq (⟨"TraceQuestions$Judge", "take", "(Z)V"⟩, 4) := ⟨⟨by decide +kernel, by decide +kernel⟩, List.mem_of_getElem? (i := 136) (by decide +kernel), List.mem_of_getElem? (i := 447) (by decide +kernel), List.mem_of_getElem? (i := 448) (by decide +kernel)⟩
theorem lw_p28 : lw_okq (⟨"TraceQuestions", "isMasked", "(I)Z"⟩, 16) := ⟨⟨by decide +kernel, by decide +kernel⟩, List.mem_of_getElem? (i := 11) (by decide +kernel), List.mem_of_getElem? (i := 486) (by decide +kernel), List.mem_of_getElem? (i := 487) (by decide +kernel)⟩
theorem lw_p29 : lw_okq (⟨"TraceQuestions", "askKept", "(LTraceQuestions$Kept;)I"⟩, 16) := ⟨⟨by decide +kernel, by decide +kernel⟩, List.mem_of_getElem? (i := 11) (by decide +kernel), List.mem_of_getElem? (i := 555) (by decide +kernel), List.mem_of_getElem? (i := 556) (by decide +kernel)⟩
theorem lw_p30 : lw_okq (⟨"TraceQuestions", "countFound", "(LTraceQuestions$Question;)I"⟩, 16) := ⟨⟨by decide +kernel, by decide +kernel⟩, List.mem_of_getElem? (i := 11) (by decide +kernel), List.mem_of_getElem? (i := 567) (by decide +kernel), List.mem_of_getElem? (i := 568) (by decide +kernel)⟩
theorem lw_p31 : lw_okq (⟨"TraceQuestionsModel", "look", "([III)V"⟩, 40) := ⟨⟨by decide +kernel, by decide +kernel⟩, List.mem_of_getElem? (i := 591) (by decide +kernel), List.mem_of_getElem? (i := 749) (by decide +kernel), List.mem_of_getElem? (i := 750) (by decide +kernel)⟩
def lw_privs_2 : List (MethodName × Nat) := [(⟨"TraceQuestions$Reader", "takesBehindTest", "(C)Z"⟩, 11), (⟨"TraceQuestions$Reader", "takesClose", "()Z"⟩, 11), (⟨"TraceQuestions$Reader", "takesTailField", "(C)Z"⟩, 11), (⟨"TraceQuestions$Reader", "takesEnd", "()Z"⟩, 11), (⟨"TraceQuestions", "costOf", "(LTraceQuestions$Question;)J"⟩, 16), (⟨"TraceQuestions", "search", "(LTraceQuestions$Question;ILTraceQuestions$Found;)V"⟩, 16), (⟨"TraceQuestions", "sees", "(II)Z"⟩, 16), (⟨"TraceQuestions$Rights", "kindsOf", "(II)I"⟩, 3), (⟨"TraceQuestions$Judge", "beginLevel", "()V"⟩, 4), (⟨"TraceQuestions$Judge", "endLevel", "()V"⟩, 4), (⟨"TraceQuestions$Judge", "isLevelTrue", "()Z"⟩, 4), (⟨"TraceQuestions$Judge", "take", "(Z)V"⟩, 4), (⟨"TraceQuestions", "isMasked", "(I)Z"⟩, 16), (⟨"TraceQuestions", "askKept", "(LTraceQuestions$Kept;)I"⟩, 16), (⟨"TraceQuestions", "countFound", "(LTraceQuestions$Question;)I"⟩, 16), (⟨"TraceQuestionsModel", "look", "([III)V"⟩, 40)]
theorem lw_r2 : ∀ q ∈ lw_privs_2, lw_okq q := List.forall_mem_cons.mpr ⟨lw_p16, List.forall_mem_cons.mpr ⟨lw_p17, List.forall_mem_cons.mpr ⟨lw_p18, List.forall_mem_cons.mpr ⟨lw_p19, List.forall_mem_cons.mpr ⟨lw_p20, List.forall_mem_cons.mpr ⟨lw_p21, List.forall_mem_cons.mpr ⟨lw_p22, List.forall_mem_cons.mpr ⟨lw_p23, List.forall_mem_cons.mpr ⟨lw_p24, List.forall_mem_cons.mpr ⟨lw_p25, List.forall_mem_cons.mpr ⟨lw_p26, List.forall_mem_cons.mpr ⟨lw_p27, List.forall_mem_cons.mpr ⟨lw_p28, List.forall_mem_cons.mpr ⟨lw_p29, List.forall_mem_cons.mpr ⟨lw_p30, List.forall_mem_cons.mpr ⟨lw_p31, fun _ h => absurd h List.not_mem_nil⟩⟩⟩⟩⟩⟩⟩⟩⟩⟩⟩⟩⟩⟩⟩⟩
theorem lw_p32 : lw_okq (⟨"TraceQuestionsModel", "overs", "()I"⟩, 40) := ⟨⟨by decide +kernel, by decide +kernel⟩, List.mem_of_getElem? (i := 591) (by decide +kernel), List.mem_of_getElem? (i := 764) (by decide +kernel), List.mem_of_getElem? (i := 765) (by decide +kernel)⟩
theorem lw_p33 : lw_okq (⟨"TraceQuestionsModel", "lookAtTail", "([III)V"⟩, 40) := ⟨⟨by decide +kernel, by decide +kernel⟩, List.mem_of_getElem? (i := 591) (by decide +kernel), List.mem_of_getElem? (i := 768) (by decide +kernel), List.mem_of_getElem? (i := 769) (by decide +kernel)⟩
theorem lw_p34 : lw_okq (⟨"TraceQuestionsModel", "costNow", "()J"⟩, 40) := ⟨⟨by decide +kernel, by decide +kernel⟩, List.mem_of_getElem? (i := 591) (by decide +kernel), List.mem_of_getElem? (i := 772) (by decide +kernel), List.mem_of_getElem? (i := 773) (by decide +kernel)⟩
theorem lw_p35 : lw_okq (⟨"TraceQuestionsModel", "find", "([IIIII)V"⟩, 40) := ⟨⟨by decide +kernel, by decide +kernel⟩, List.mem_of_getElem? (i := 591) (by decide +kernel), List.mem_of_getElem? (i := 777) (by decide +kernel), List.mem_of_getElem? (i := 778) (by decide +kernel)⟩
theorem lw_p36 : lw_okq (⟨"TraceQuestionsModel", "sees", "(II)Z"⟩, 40) := ⟨⟨by decide +kernel, by decide +kernel⟩, List.mem_of_getElem? (i := 591) (by decide +kernel), List.mem_of_getElem? (i := 781) (by decide +kernel), List.mem_of_getElem? (i := 782) (by decide +kernel)⟩
theorem lw_p37 : lw_okq (⟨"TraceQuestionsModel", "field", "(II)I"⟩, 40) := ⟨⟨by decide +kernel, by decide +kernel⟩, List.mem_of_getElem? (i := 591) (by decide +kernel), List.mem_of_getElem? (i := 785) (by decide +kernel), List.mem_of_getElem? (i := 786) (by decide +kernel)⟩
theorem lw_p38 : lw_okq (⟨"TraceQuestionsModel", "isTrue", "([III)Z"⟩, 40) := ⟨⟨by decide +kernel, by decide +kernel⟩, List.mem_of_getElem? (i := 591) (by decide +kernel), List.mem_of_getElem? (i := 789) (by decide +kernel), List.mem_of_getElem? (i := 790) (by decide +kernel)⟩
theorem lw_p39 : lw_okq (⟨"TraceQuestionsModel", "test", "(Z)V"⟩, 40) := ⟨⟨by decide +kernel, by decide +kernel⟩, List.mem_of_getElem? (i := 591) (by decide +kernel), List.mem_of_getElem? (i := 793) (by decide +kernel), List.mem_of_getElem? (i := 794) (by decide +kernel)⟩
theorem lw_p40 : lw_okq (⟨"TraceQuestionsModel", "take", "(III)V"⟩, 40) := ⟨⟨by decide +kernel, by decide +kernel⟩, List.mem_of_getElem? (i := 591) (by decide +kernel), List.mem_of_getElem? (i := 797) (by decide +kernel), List.mem_of_getElem? (i := 798) (by decide +kernel)⟩
theorem lw_p41 : lw_okq (⟨"TraceQuestionsModel", "askKept", "(I)V"⟩, 40) := ⟨⟨by decide +kernel, by decide +kernel⟩, List.mem_of_getElem? (i := 591) (by decide +kernel), List.mem_of_getElem? (i := 840) (by decide +kernel), List.mem_of_getElem? (i := 841) (by decide +kernel)⟩
def lw_privs_3 : List (MethodName × Nat) := [(⟨"TraceQuestionsModel", "overs", "()I"⟩, 40), (⟨"TraceQuestionsModel", "lookAtTail", "([III)V"⟩, 40), (⟨"TraceQuestionsModel", "costNow", "()J"⟩, 40), (⟨"TraceQuestionsModel", "find", "([IIIII)V"⟩, 40), (⟨"TraceQuestionsModel", "sees", "(II)Z"⟩, 40), (⟨"TraceQuestionsModel", "field", "(II)I"⟩, 40), (⟨"TraceQuestionsModel", "isTrue", "([III)Z"⟩, 40), (⟨"TraceQuestionsModel", "test", "(Z)V"⟩, 40), (⟨"TraceQuestionsModel", "take", "(III)V"⟩, 40), (⟨"TraceQuestionsModel", "askKept", "(I)V"⟩, 40)]
theorem lw_r3 : ∀ q ∈ lw_privs_3, lw_okq q := List.forall_mem_cons.mpr ⟨lw_p32, List.forall_mem_cons.mpr ⟨lw_p33, List.forall_mem_cons.mpr ⟨lw_p34, List.forall_mem_cons.mpr ⟨lw_p35, List.forall_mem_cons.mpr ⟨lw_p36, List.forall_mem_cons.mpr ⟨lw_p37, List.forall_mem_cons.mpr ⟨lw_p38, List.forall_mem_cons.mpr ⟨lw_p39, List.forall_mem_cons.mpr ⟨lw_p40, List.forall_mem_cons.mpr ⟨lw_p41, fun _ h => absurd h List.not_mem_nil⟩⟩⟩⟩⟩⟩⟩⟩⟩⟩
def lw_privs : List (MethodName × Nat) := lw_privs_1 ++ (lw_privs_2 ++ (lw_privs_3))
def lw_tbl : List Cond := k2_sels lw_privs ++ tables_1
theorem lw_privs_ok : ∀ q ∈ lw_privs, lw_okq q := by
  show ∀ q ∈ lw_privs_1 ++ (lw_privs_2 ++ (lw_privs_3)), lw_okq q
  exact List.forall_mem_append.mpr ⟨lw_r1, List.forall_mem_append.mpr ⟨lw_r2, lw_r3⟩⟩
-- ===== end of PART A; then your names; then what follows =====
end
section
/-! ===== BEGIN words of one list among another's, by their places ===== -/
theorem goodIn_r {big : List Cond} (ws : List Cond) (ps : List Nat) (hp : ws = ps.filterMap (fun i => big[i]?)) (h : ws.all goodWord = true) : GoodIn big ws := by
  intro w hw
  have h1 := List.all_eq_true.mp h w hw
  rw [hp] at hw
  obtain ⟨i, -, hi⟩ := List.mem_filterMap.mp hw
  have hm : w ∈ big := by first | exact List.mem_of_getElem? hi | exact List.getElem?_mem hi
  exact ⟨hm, good_of_word h1⟩
theorem goodIn_app {big a b : List Cond} (ha : GoodIn big a) (hb : GoodIn big b) : GoodIn big (a ++ b) := fun w h => (List.mem_append.mp h).elim (ha w) (hb w)
theorem goodIn_ca {big a b : List Cond} {c : Cond} (ha : GoodIn big (c :: a)) (hb : GoodIn big b) : GoodIn big (c :: (a ++ b)) := fun w h => (List.mem_cons.mp h).elim (fun e => ha w (List.mem_cons.mpr (Or.inl e))) (fun h => (List.mem_append.mp h).elim (fun h => ha w (List.mem_cons.mpr (Or.inr h))) (hb w))
theorem goodIn_sub {big ws : List Cond} (hm : ∀ w ∈ ws, w ∈ big) (h : ws.all goodWord = true) : GoodIn big ws := fun w hw => ⟨hm w hw, good_of_word (List.all_eq_true.mp h w hw)⟩
/-! ===== END ===== -/
def RX0 : String := "TraceQuestions$Found"
def TX0 : u_T := fun k => match k with
  | 0 => ("TraceQuestions$Found", "first", "[I", true)
  | 1 => ("TraceQuestions$Found", "howMany", "[I", true)
  | _ => ("TraceQuestions$Found", "count", "I", false)
def tyX0 : Nat → FieldType := fun k => match k with
  | 0 => .array .int
  | 1 => .array .int
  | _ => .int
abbrev wsX00 : List Cond := u_ws RX0 TX0 3
theorem nmX0 : ∀ a, a < 3 → ∀ b, b < 3 → a ≠ b → (TX0 a).2.1 ≠ (TX0 b).2.1 := by decide +kernel
theorem tyX0_ok : ∀ k, k < 3 → parseFieldDescriptor (TX0 k).2.2.1 = some (tyX0 k) := by decide +kernel
abbrev cX0_init : ByteArray := prog_2_method_1_code
def yX0_init : MethodName := ⟨RX0, "<init>", "()V"⟩
abbrev cX0_count : ByteArray := prog_2_method_2_code
def yX0_count : MethodName := ⟨RX0, "count", "()I"⟩
abbrev cX0_clear : ByteArray := prog_2_method_3_code
def yX0_clear : MethodName := ⟨RX0, "clear", "()V"⟩
abbrev cX0_add : ByteArray := prog_2_method_4_code
def yX0_add : MethodName := ⟨RX0, "add", "(I)V"⟩
abbrev cX0_addToGroup : ByteArray := prog_2_method_5_code
def yX0_addToGroup : MethodName := ⟨RX0, "addToGroup", "(I)V"⟩
abbrev cX0_first : ByteArray := prog_2_method_6_code
def yX0_first : MethodName := ⟨RX0, "first", "(I)I"⟩
abbrev cX0_howMany : ByteArray := prog_2_method_7_code
def yX0_howMany : MethodName := ⟨RX0, "howMany", "(I)I"⟩
def RX1 : String := "TraceQuestions$Judge"
def TX1 : u_T := fun k => match k with
  | 0 => ("TraceQuestions$Judge", "level", "I", false)
  | 1 => ("TraceQuestions$Judge", "partsTrue", "I", false)
  | 2 => ("TraceQuestions$Judge", "testsTrue", "I", false)
  | _ => ("TraceQuestions$Judge", "turned", "I", false)
def tyX1 : Nat → FieldType := fun k => match k with
  | 0 => .int
  | 1 => .int
  | 2 => .int
  | _ => .int
abbrev wsX10 : List Cond := u_ws RX1 TX1 4
theorem nmX1 : ∀ a, a < 4 → ∀ b, b < 4 → a ≠ b → (TX1 a).2.1 ≠ (TX1 b).2.1 := by decide +kernel
theorem tyX1_ok : ∀ k, k < 4 → parseFieldDescriptor (TX1 k).2.2.1 = some (tyX1 k) := by decide +kernel
abbrev cX1_init : ByteArray := prog_3_method_1_code
def yX1_init : MethodName := ⟨RX1, "<init>", "()V"⟩
abbrev cX1_isTrue : ByteArray := prog_3_method_2_code
def yX1_isTrue : MethodName := ⟨RX1, "isTrue", "(LTraceQuestions$Question;LTraceQuestions$Rows;I)Z"⟩
abbrev cX1_beginLevel : ByteArray := prog_3_method_3_code
def yX1_beginLevel : MethodName := ⟨RX1, "beginLevel", "()V"⟩
abbrev cX1_endLevel : ByteArray := prog_3_method_4_code
def yX1_endLevel : MethodName := ⟨RX1, "endLevel", "()V"⟩
abbrev cX1_isLevelTrue : ByteArray := prog_3_method_5_code
def yX1_isLevelTrue : MethodName := ⟨RX1, "isLevelTrue", "()Z"⟩
abbrev cX1_take : ByteArray := prog_3_method_6_code
def yX1_take : MethodName := ⟨RX1, "take", "(Z)V"⟩
def RX2 : String := "TraceQuestions$Kept"
def TX2 : u_T := fun k => match k with
  | 0 => ("TraceQuestions$Kept", "question", "LTraceQuestions$Question;", true)
  | 1 => ("TraceQuestions$Kept", "every", "J", true)
  | 2 => ("TraceQuestions$Kept", "next", "J", false)
  | _ => ("TraceQuestions$Kept", "latestCount", "I", false)
def tyX2 : Nat → FieldType := fun k => match k with
  | 0 => .object "TraceQuestions$Question"
  | 1 => .long
  | 2 => .long
  | _ => .int
abbrev wsX20 : List Cond := u_ws RX2 TX2 4
theorem nmX2 : ∀ a, a < 4 → ∀ b, b < 4 → a ≠ b → (TX2 a).2.1 ≠ (TX2 b).2.1 := by decide +kernel
theorem tyX2_ok : ∀ k, k < 4 → parseFieldDescriptor (TX2 k).2.2.1 = some (tyX2 k) := by decide +kernel
abbrev cX2_init : ByteArray := prog_4_method_1_code
def yX2_init : MethodName := ⟨RX2, "<init>", "(LTraceQuestions$Question;JJ)V"⟩
abbrev cX2_question : ByteArray := prog_4_method_2_code
def yX2_question : MethodName := ⟨RX2, "question", "()LTraceQuestions$Question;"⟩
abbrev cX2_latestCount : ByteArray := prog_4_method_3_code
def yX2_latestCount : MethodName := ⟨RX2, "latestCount", "()I"⟩
abbrev cX2_setLatestCount : ByteArray := prog_4_method_4_code
def yX2_setLatestCount : MethodName := ⟨RX2, "setLatestCount", "(I)V"⟩
abbrev cX2_passTo : ByteArray := prog_4_method_5_code
def yX2_passTo : MethodName := ⟨RX2, "passTo", "(J)I"⟩
def RX3 : String := "TraceQuestions$Question"
def TX3 : u_T := fun k => match k with
  | 0 => ("TraceQuestions$Question", "steps", "[I", true)
  | 1 => ("TraceQuestions$Question", "testFields", "[I", true)
  | 2 => ("TraceQuestions$Question", "testRelations", "[C", true)
  | 3 => ("TraceQuestions$Question", "testNumbers", "[I", true)
  | 4 => ("TraceQuestions$Question", "stepCount", "I", false)
  | 5 => ("TraceQuestions$Question", "testCount", "I", false)
  | 6 => ("TraceQuestions$Question", "fields", "I", false)
  | 7 => ("TraceQuestions$Question", "tail", "I", false)
  | 8 => ("TraceQuestions$Question", "tailField", "I", false)
  | _ => ("TraceQuestions$Question", "asker", "I", false)
def tyX3 : Nat → FieldType := fun k => match k with
  | 0 => .array .int
  | 1 => .array .int
  | 2 => .array .char
  | 3 => .array .int
  | 4 => .int
  | 5 => .int
  | 6 => .int
  | 7 => .int
  | 8 => .int
  | _ => .int
abbrev wsX30 : List Cond := u_ws RX3 TX3 10
theorem nmX3 : ∀ a, a < 10 → ∀ b, b < 10 → a ≠ b → (TX3 a).2.1 ≠ (TX3 b).2.1 := by decide +kernel
theorem tyX3_ok : ∀ k, k < 10 → parseFieldDescriptor (TX3 k).2.2.1 = some (tyX3 k) := by decide +kernel
abbrev cX3_init : ByteArray := prog_5_method_1_code
def yX3_init : MethodName := ⟨RX3, "<init>", "()V"⟩
abbrev cX3_clear : ByteArray := prog_5_method_2_code
def yX3_clear : MethodName := ⟨RX3, "clear", "()V"⟩
abbrev cX3_asker : ByteArray := prog_5_method_3_code
def yX3_asker : MethodName := ⟨RX3, "asker", "()I"⟩
abbrev cX3_setAsker : ByteArray := prog_5_method_4_code
def yX3_setAsker : MethodName := ⟨RX3, "setAsker", "(I)V"⟩
abbrev cX3_fields : ByteArray := prog_5_method_5_code
def yX3_fields : MethodName := ⟨RX3, "fields", "()I"⟩
abbrev cX3_tests : ByteArray := prog_5_method_6_code
def yX3_tests : MethodName := ⟨RX3, "tests", "()I"⟩
abbrev cX3_tail : ByteArray := prog_5_method_7_code
def yX3_tail : MethodName := ⟨RX3, "tail", "()I"⟩
abbrev cX3_tailField : ByteArray := prog_5_method_8_code
def yX3_tailField : MethodName := ⟨RX3, "tailField", "()I"⟩
abbrev cX3_setTail : ByteArray := prog_5_method_9_code
def yX3_setTail : MethodName := ⟨RX3, "setTail", "(I)V"⟩
abbrev cX3_setTailField : ByteArray := prog_5_method_10_code
def yX3_setTailField : MethodName := ⟨RX3, "setTailField", "(I)V"⟩
abbrev cX3_addStep : ByteArray := prog_5_method_11_code
def yX3_addStep : MethodName := ⟨RX3, "addStep", "(I)V"⟩
abbrev cX3_addTest : ByteArray := prog_5_method_12_code
def yX3_addTest : MethodName := ⟨RX3, "addTest", "(ICI)V"⟩
abbrev cX3_stepCount : ByteArray := prog_5_method_13_code
def yX3_stepCount : MethodName := ⟨RX3, "stepCount", "()I"⟩
abbrev cX3_step : ByteArray := prog_5_method_14_code
def yX3_step : MethodName := ⟨RX3, "step", "(I)I"⟩
abbrev cX3_isTestTrue : ByteArray := prog_5_method_15_code
def yX3_isTestTrue : MethodName := ⟨RX3, "isTestTrue", "(ILTraceQuestions$Rows;I)Z"⟩
def RX4 : String := "TraceQuestions$Reader"
def TX4 : u_T := fun k => match k with
  | 0 => ("TraceQuestions$Reader", "draft", "LTraceQuestions$Question;", false)
  | 1 => ("TraceQuestions$Reader", "maskedFields", "I", false)
  | 2 => ("TraceQuestions$Reader", "state", "I", false)
  | 3 => ("TraceQuestions$Reader", "field", "I", false)
  | 4 => ("TraceQuestions$Reader", "relation", "C", false)
  | 5 => ("TraceQuestions$Reader", "number", "I", false)
  | 6 => ("TraceQuestions$Reader", "figures", "I", false)
  | 7 => ("TraceQuestions$Reader", "nested", "I", false)
  | 8 => ("TraceQuestions$Reader", "turns", "I", false)
  | 9 => ("TraceQuestions$Reader", "turnsBefore", "[I", true)
  | _ => ("TraceQuestions$Reader", "open", "I", false)
def tyX4 : Nat → FieldType := fun k => match k with
  | 0 => .object "TraceQuestions$Question"
  | 1 => .int
  | 2 => .int
  | 3 => .int
  | 4 => .char
  | 5 => .int
  | 6 => .int
  | 7 => .int
  | 8 => .int
  | 9 => .array .int
  | _ => .int
abbrev wsX40 : List Cond := u_ws RX4 TX4 11
theorem nmX4 : ∀ a, a < 11 → ∀ b, b < 11 → a ≠ b → (TX4 a).2.1 ≠ (TX4 b).2.1 := by decide +kernel
theorem tyX4_ok : ∀ k, k < 11 → parseFieldDescriptor (TX4 k).2.2.1 = some (tyX4 k) := by decide +kernel
abbrev cX4_init : ByteArray := prog_6_method_1_code
def yX4_init : MethodName := ⟨RX4, "<init>", "()V"⟩
abbrev cX4_draft : ByteArray := prog_6_method_2_code
def yX4_draft : MethodName := ⟨RX4, "draft", "()LTraceQuestions$Question;"⟩
abbrev cX4_writeNextInto : ByteArray := prog_6_method_3_code
def yX4_writeNextInto : MethodName := ⟨RX4, "writeNextInto", "(LTraceQuestions$Question;)V"⟩
abbrev cX4_firstFault : ByteArray := prog_6_method_4_code
def yX4_firstFault : MethodName := ⟨RX4, "firstFault", "([CII)I"⟩
abbrev cX4_begin : ByteArray := prog_6_method_5_code
def yX4_begin : MethodName := ⟨RX4, "begin", "(I)V"⟩
abbrev cX4_takes : ByteArray := prog_6_method_6_code
def yX4_takes : MethodName := ⟨RX4, "takes", "(C)Z"⟩
abbrev cX4_takesEnd : ByteArray := prog_6_method_7_code
def yX4_takesEnd : MethodName := ⟨RX4, "takesEnd", "()Z"⟩
abbrev cX4_takesTest : ByteArray := prog_6_method_8_code
def yX4_takesTest : MethodName := ⟨RX4, "takesTest", "(C)Z"⟩
abbrev cX4_takesTurn : ByteArray := prog_6_method_9_code
def yX4_takesTurn : MethodName := ⟨RX4, "takesTurn", "()Z"⟩
abbrev cX4_takesOpen : ByteArray := prog_6_method_10_code
def yX4_takesOpen : MethodName := ⟨RX4, "takesOpen", "()Z"⟩
abbrev cX4_takesClose : ByteArray := prog_6_method_11_code
def yX4_takesClose : MethodName := ⟨RX4, "takesClose", "()Z"⟩
abbrev cX4_takesTestField : ByteArray := prog_6_method_12_code
def yX4_takesTestField : MethodName := ⟨RX4, "takesTestField", "(C)Z"⟩
abbrev cX4_takesRelation : ByteArray := prog_6_method_13_code
def yX4_takesRelation : MethodName := ⟨RX4, "takesRelation", "(C)Z"⟩
abbrev cX4_takesFigure : ByteArray := prog_6_method_14_code
def yX4_takesFigure : MethodName := ⟨RX4, "takesFigure", "(C)Z"⟩
abbrev cX4_takesBehindTest : ByteArray := prog_6_method_15_code
def yX4_takesBehindTest : MethodName := ⟨RX4, "takesBehindTest", "(C)Z"⟩
abbrev cX4_takesTail : ByteArray := prog_6_method_16_code
def yX4_takesTail : MethodName := ⟨RX4, "takesTail", "(C)Z"⟩
abbrev cX4_takesTailField : ByteArray := prog_6_method_17_code
def yX4_takesTailField : MethodName := ⟨RX4, "takesTailField", "(C)Z"⟩
abbrev cX4_endFieldTest : ByteArray := prog_6_method_18_code
def yX4_endFieldTest : MethodName := ⟨RX4, "endFieldTest", "()V"⟩
abbrev cX4_endTest : ByteArray := prog_6_method_19_code
def yX4_endTest : MethodName := ⟨RX4, "endTest", "()V"⟩
abbrev cX4_isOpenField : ByteArray := prog_6_method_20_code
def yX4_isOpenField : MethodName := ⟨RX4, "isOpenField", "(C)Z"⟩
abbrev cX4_fieldOf : ByteArray := prog_6_method_21_code
def yX4_fieldOf : MethodName := ⟨RX4, "fieldOf", "(C)I"⟩
abbrev cX4_tailOf : ByteArray := prog_6_method_22_code
def yX4_tailOf : MethodName := ⟨RX4, "tailOf", "(C)I"⟩
def RX5 : String := "TraceQuestions$Rights"
def TX5 : u_T := fun k => match k with
  | 0 => ("TraceQuestions$Rights", "kinds", "[[I", true)
  | 1 => ("TraceQuestions$Rights", "counts", "[I", true)
  | _ => ("TraceQuestions$Rights", "count", "I", false)
def tyX5 : Nat → FieldType := fun k => match k with
  | 0 => .array (.array .int)
  | 1 => .array .int
  | _ => .int
abbrev wsX50 : List Cond := u_ws RX5 TX5 3
theorem nmX5 : ∀ a, a < 3 → ∀ b, b < 3 → a ≠ b → (TX5 a).2.1 ≠ (TX5 b).2.1 := by decide +kernel
theorem tyX5_ok : ∀ k, k < 3 → parseFieldDescriptor (TX5 k).2.2.1 = some (tyX5 k) := by decide +kernel
abbrev cX5_init : ByteArray := prog_7_method_1_code
def yX5_init : MethodName := ⟨RX5, "<init>", "()V"⟩
abbrev cX5_count : ByteArray := prog_7_method_2_code
def yX5_count : MethodName := ⟨RX5, "count", "()I"⟩
abbrev cX5_countOf : ByteArray := prog_7_method_3_code
def yX5_countOf : MethodName := ⟨RX5, "countOf", "(I)I"⟩
abbrev cX5_holds : ByteArray := prog_7_method_4_code
def yX5_holds : MethodName := ⟨RX5, "holds", "(III)Z"⟩
abbrev cX5_add : ByteArray := prog_7_method_5_code
def yX5_add : MethodName := ⟨RX5, "add", "(III)V"⟩
abbrev cX5_letSee : ByteArray := prog_7_method_6_code
def yX5_letSee : MethodName := ⟨RX5, "letSee", "(III)Z"⟩
abbrev cX5_kindsOf : ByteArray := prog_7_method_7_code
def yX5_kindsOf : MethodName := ⟨RX5, "kindsOf", "(II)I"⟩
def RX6 : String := "TraceQuestions$Rows"
def TX6 : u_T := fun k => match k with
  | 0 => ("TraceQuestions$Rows", "values", "[[I", true)
  | 1 => ("TraceQuestions$Rows", "upward", "[[I", true)
  | 2 => ("TraceQuestions$Rows", "downward", "[[I", true)
  | _ => ("TraceQuestions$Rows", "count", "I", false)
def tyX6 : Nat → FieldType := fun k => match k with
  | 0 => .array (.array .int)
  | 1 => .array (.array .int)
  | 2 => .array (.array .int)
  | _ => .int
abbrev wsX60 : List Cond := u_ws RX6 TX6 4
theorem nmX6 : ∀ a, a < 4 → ∀ b, b < 4 → a ≠ b → (TX6 a).2.1 ≠ (TX6 b).2.1 := by decide +kernel
theorem tyX6_ok : ∀ k, k < 4 → parseFieldDescriptor (TX6 k).2.2.1 = some (tyX6 k) := by decide +kernel
abbrev cX6_init : ByteArray := prog_8_method_1_code
def yX6_init : MethodName := ⟨RX6, "<init>", "()V"⟩
abbrev cX6_count : ByteArray := prog_8_method_2_code
def yX6_count : MethodName := ⟨RX6, "count", "()I"⟩
abbrev cX6_add : ByteArray := prog_8_method_3_code
def yX6_add : MethodName := ⟨RX6, "add", "(IIIII)I"⟩
abbrev cX6_value : ByteArray := prog_8_method_4_code
def yX6_value : MethodName := ⟨RX6, "value", "(II)I"⟩
abbrev cX6_numberAt : ByteArray := prog_8_method_5_code
def yX6_numberAt : MethodName := ⟨RX6, "numberAt", "(III)I"⟩
abbrev cX6_putInOrders : ByteArray := prog_8_method_6_code
def yX6_putInOrders : MethodName := ⟨RX6, "putInOrders", "()V"⟩
abbrev cX6_behindLast : ByteArray := prog_8_method_7_code
def yX6_behindLast : MethodName := ⟨RX6, "behindLast", "(IIZ)I"⟩
abbrev cX6_insert : ByteArray := prog_8_method_8_code
def yX6_insert : MethodName := ⟨RX6, "insert", "([II)V"⟩
def RX7 : String := "TraceQuestions"
def TX7 : u_T := fun k => match k with
  | 0 => ("TraceQuestions", "rows", "LTraceQuestions$Rows;", true)
  | 1 => ("TraceQuestions", "rights", "LTraceQuestions$Rights;", true)
  | 2 => ("TraceQuestions", "reader", "LTraceQuestions$Reader;", true)
  | 3 => ("TraceQuestions", "judge", "LTraceQuestions$Judge;", true)
  | 4 => ("TraceQuestions", "text", "[C", true)
  | 5 => ("TraceQuestions", "signs", "I", false)
  | 6 => ("TraceQuestions", "maskedFields", "I", false)
  | 7 => ("TraceQuestions", "costBound", "I", false)
  | 8 => ("TraceQuestions", "latestCost", "J", false)
  | 9 => ("TraceQuestions", "answered", "LTraceQuestions$Question;", false)
  | 10 => ("TraceQuestions", "anyAnswered", "Z", false)
  | 11 => ("TraceQuestions", "latestFound", "LTraceQuestions$Found;", true)
  | 12 => ("TraceQuestions", "passingFound", "LTraceQuestions$Found;", true)
  | 13 => ("TraceQuestions", "keptQuestions", "[LTraceQuestions$Kept;", true)
  | 14 => ("TraceQuestions", "keptCount", "I", false)
  | _ => ("TraceQuestions", "time", "J", false)
def tyX7 : Nat → FieldType := fun k => match k with
  | 0 => .object "TraceQuestions$Rows"
  | 1 => .object "TraceQuestions$Rights"
  | 2 => .object "TraceQuestions$Reader"
  | 3 => .object "TraceQuestions$Judge"
  | 4 => .array .char
  | 5 => .int
  | 6 => .int
  | 7 => .int
  | 8 => .long
  | 9 => .object "TraceQuestions$Question"
  | 10 => .boolean
  | 11 => .object "TraceQuestions$Found"
  | 12 => .object "TraceQuestions$Found"
  | 13 => .array (.object "TraceQuestions$Kept")
  | 14 => .int
  | _ => .long
abbrev wsX70 : List Cond := u_ws RX7 TX7 16
theorem nmX7 : ∀ a, a < 16 → ∀ b, b < 16 → a ≠ b → (TX7 a).2.1 ≠ (TX7 b).2.1 := by decide +kernel
theorem tyX7_ok : ∀ k, k < 16 → parseFieldDescriptor (TX7 k).2.2.1 = some (tyX7 k) := by decide +kernel
abbrev cX7_init : ByteArray := prog_1_method_1_code
def yX7_init : MethodName := ⟨RX7, "<init>", "()V"⟩
abbrev cX7_row : ByteArray := prog_1_method_2_code
def yX7_row : MethodName := ⟨RX7, "row", "(IIIJI)I"⟩
abbrev cX7_sign : ByteArray := prog_1_method_3_code
def yX7_sign : MethodName := ⟨RX7, "sign", "(I)V"⟩
abbrev cX7_ask : ByteArray := prog_1_method_4_code
def yX7_ask : MethodName := ⟨RX7, "ask", "(I)I"⟩
abbrev cX7_found : ByteArray := prog_1_method_5_code
def yX7_found : MethodName := ⟨RX7, "found", "(II)J"⟩
abbrev cX7_page : ByteArray := prog_1_method_6_code
def yX7_page : MethodName := ⟨RX7, "page", "(IJI)I"⟩
abbrev cX7_right : ByteArray := prog_1_method_7_code
def yX7_right : MethodName := ⟨RX7, "right", "(III)I"⟩
abbrev cX7_masked : ByteArray := prog_1_method_8_code
def yX7_masked : MethodName := ⟨RX7, "masked", "(IZ)I"⟩
abbrev cX7_cost : ByteArray := prog_1_method_9_code
def yX7_cost : MethodName := ⟨RX7, "cost", "()J"⟩
abbrev cX7_bound : ByteArray := prog_1_method_10_code
def yX7_bound : MethodName := ⟨RX7, "bound", "(J)I"⟩
abbrev cX7_save : ByteArray := prog_1_method_11_code
def yX7_save : MethodName := ⟨RX7, "save", "(IJ)I"⟩
abbrev cX7_tick : ByteArray := prog_1_method_12_code
def yX7_tick : MethodName := ⟨RX7, "tick", "(J)I"⟩
abbrev cX7_saved : ByteArray := prog_1_method_13_code
def yX7_saved : MethodName := ⟨RX7, "saved", "(I)I"⟩
abbrev cX7_scan : ByteArray := prog_1_method_14_code
def yX7_scan : MethodName := ⟨RX7, "scan", "(I)I"⟩
abbrev cX7_isBelow : ByteArray := prog_1_method_15_code
def yX7_isBelow : MethodName := ⟨RX7, "isBelow", "(JI)Z"⟩
abbrev cX7_isMasked : ByteArray := prog_1_method_16_code
def yX7_isMasked : MethodName := ⟨RX7, "isMasked", "(I)Z"⟩
abbrev cX7_sees : ByteArray := prog_1_method_17_code
def yX7_sees : MethodName := ⟨RX7, "sees", "(II)Z"⟩
abbrev cX7_readText : ByteArray := prog_1_method_18_code
def yX7_readText : MethodName := ⟨RX7, "readText", "(I)I"⟩
abbrev cX7_costOf : ByteArray := prog_1_method_19_code
def yX7_costOf : MethodName := ⟨RX7, "costOf", "(LTraceQuestions$Question;)J"⟩
abbrev cX7_search : ByteArray := prog_1_method_20_code
def yX7_search : MethodName := ⟨RX7, "search", "(LTraceQuestions$Question;ILTraceQuestions$Found;)V"⟩
abbrev cX7_askKept : ByteArray := prog_1_method_21_code
def yX7_askKept : MethodName := ⟨RX7, "askKept", "(LTraceQuestions$Kept;)I"⟩
abbrev cX7_countFound : ByteArray := prog_1_method_22_code
def yX7_countFound : MethodName := ⟨RX7, "countFound", "(LTraceQuestions$Question;)I"⟩
def RX8 : String := "TraceQuestionsModel"
def TX8 : u_T := fun k => match k with
  | 0 => ("TraceQuestionsModel", "thrown", "I", false)
  | 1 => ("TraceQuestionsModel", "rows", "I", false)
  | 2 => ("TraceQuestionsModel", "fields", "[I", true)
  | 3 => ("TraceQuestionsModel", "rights", "I", false)
  | 4 => ("TraceQuestionsModel", "rightOf", "[I", true)
  | 5 => ("TraceQuestionsModel", "rightOwner", "[I", true)
  | 6 => ("TraceQuestionsModel", "rightKind", "[I", true)
  | 7 => ("TraceQuestionsModel", "masks", "[Z", true)
  | 8 => ("TraceQuestionsModel", "bound", "J", false)
  | 9 => ("TraceQuestionsModel", "now", "J", false)
  | 10 => ("TraceQuestionsModel", "lastCost", "J", false)
  | 11 => ("TraceQuestionsModel", "size", "I", false)
  | 12 => ("TraceQuestionsModel", "text", "[I", true)
  | 13 => ("TraceQuestionsModel", "answered", "Z", false)
  | 14 => ("TraceQuestionsModel", "askedSize", "I", false)
  | 15 => ("TraceQuestionsModel", "asked", "[I", true)
  | 16 => ("TraceQuestionsModel", "asker", "I", false)
  | 17 => ("TraceQuestionsModel", "kept", "I", false)
  | 18 => ("TraceQuestionsModel", "keptSize", "[I", true)
  | 19 => ("TraceQuestionsModel", "keptText", "[I", true)
  | 20 => ("TraceQuestionsModel", "keptWho", "[I", true)
  | 21 => ("TraceQuestionsModel", "every", "[J", true)
  | 22 => ("TraceQuestionsModel", "due", "[J", true)
  | 23 => ("TraceQuestionsModel", "saved", "[I", true)
  | 24 => ("TraceQuestionsModel", "fault", "I", false)
  | 25 => ("TraceQuestionsModel", "tests", "I", false)
  | 26 => ("TraceQuestionsModel", "tail", "I", false)
  | 27 => ("TraceQuestionsModel", "level", "I", false)
  | 28 => ("TraceQuestionsModel", "nots", "[I", true)
  | 29 => ("TraceQuestionsModel", "ors", "[Z", true)
  | 30 => ("TraceQuestionsModel", "ands", "[Z", true)
  | 31 => ("TraceQuestionsModel", "count", "I", false)
  | 32 => ("TraceQuestionsModel", "groups", "Z", false)
  | 33 => ("TraceQuestionsModel", "first", "[I", true)
  | 34 => ("TraceQuestionsModel", "second", "[I", true)
  | 35 => ("TraceQuestionsModel", "got", "I", false)
  | 36 => ("TraceQuestionsModel", "gotGroups", "Z", false)
  | 37 => ("TraceQuestionsModel", "gotFirst", "[I", true)
  | 38 => ("TraceQuestionsModel", "gotSecond", "[I", true)
  | _ => ("TraceQuestionsModel", "is", "[Z", true)
def tyX8 : Nat → FieldType := fun k => match k with
  | 0 => .int
  | 1 => .int
  | 2 => .array .int
  | 3 => .int
  | 4 => .array .int
  | 5 => .array .int
  | 6 => .array .int
  | 7 => .array .boolean
  | 8 => .long
  | 9 => .long
  | 10 => .long
  | 11 => .int
  | 12 => .array .int
  | 13 => .boolean
  | 14 => .int
  | 15 => .array .int
  | 16 => .int
  | 17 => .int
  | 18 => .array .int
  | 19 => .array .int
  | 20 => .array .int
  | 21 => .array .long
  | 22 => .array .long
  | 23 => .array .int
  | 24 => .int
  | 25 => .int
  | 26 => .int
  | 27 => .int
  | 28 => .array .int
  | 29 => .array .boolean
  | 30 => .array .boolean
  | 31 => .int
  | 32 => .boolean
  | 33 => .array .int
  | 34 => .array .int
  | 35 => .int
  | 36 => .boolean
  | 37 => .array .int
  | 38 => .array .int
  | _ => .array .boolean
abbrev wsX80 : List Cond := u_ws RX8 TX8 40
theorem nmX8 : ∀ a, a < 40 → ∀ b, b < 40 → a ≠ b → (TX8 a).2.1 ≠ (TX8 b).2.1 := by decide +kernel
theorem tyX8_ok : ∀ k, k < 40 → parseFieldDescriptor (TX8 k).2.2.1 = some (tyX8 k) := by decide +kernel
abbrev cX8_init : ByteArray := prog_10_method_1_code
def yX8_init : MethodName := ⟨RX8, "<init>", "()V"⟩
abbrev cX8_within : ByteArray := prog_10_method_3_code
def yX8_within : MethodName := ⟨RX8, "within", "(JJJ)Z"⟩
abbrev cX8_isAsker : ByteArray := prog_10_method_4_code
def yX8_isAsker : MethodName := ⟨RX8, "isAsker", "(I)Z"⟩
abbrev cX8_row : ByteArray := prog_10_method_5_code
def yX8_row : MethodName := ⟨RX8, "row", "(IIIJI)I"⟩
abbrev cX8_sign : ByteArray := prog_10_method_6_code
def yX8_sign : MethodName := ⟨RX8, "sign", "(I)V"⟩
abbrev cX8_fieldOf : ByteArray := prog_10_method_7_code
def yX8_fieldOf : MethodName := ⟨RX8, "fieldOf", "(I)I"⟩
abbrev cX8_isTail : ByteArray := prog_10_method_8_code
def yX8_isTail : MethodName := ⟨RX8, "isTail", "(I)Z"⟩
abbrev cX8_at : ByteArray := prog_10_method_9_code
def yX8_at : MethodName := ⟨RX8, "at", "([IIII)I"⟩
abbrev cX8_overs : ByteArray := prog_10_method_10_code
def yX8_overs : MethodName := ⟨RX8, "overs", "()I"⟩
abbrev cX8_look : ByteArray := prog_10_method_11_code
def yX8_look : MethodName := ⟨RX8, "look", "([III)V"⟩
abbrev cX8_lookAtTail : ByteArray := prog_10_method_12_code
def yX8_lookAtTail : MethodName := ⟨RX8, "lookAtTail", "([III)V"⟩
abbrev cX8_field : ByteArray := prog_10_method_13_code
def yX8_field : MethodName := ⟨RX8, "field", "(II)I"⟩
abbrev cX8_test : ByteArray := prog_10_method_14_code
def yX8_test : MethodName := ⟨RX8, "test", "(Z)V"⟩
abbrev cX8_isTrue : ByteArray := prog_10_method_15_code
def yX8_isTrue : MethodName := ⟨RX8, "isTrue", "([III)Z"⟩
abbrev cX8_sees : ByteArray := prog_10_method_16_code
def yX8_sees : MethodName := ⟨RX8, "sees", "(II)Z"⟩
abbrev cX8_find : ByteArray := prog_10_method_17_code
def yX8_find : MethodName := ⟨RX8, "find", "([IIIII)V"⟩
abbrev cX8_take : ByteArray := prog_10_method_18_code
def yX8_take : MethodName := ⟨RX8, "take", "(III)V"⟩
abbrev cX8_costNow : ByteArray := prog_10_method_19_code
def yX8_costNow : MethodName := ⟨RX8, "costNow", "()J"⟩
abbrev cX8_ask : ByteArray := prog_10_method_20_code
def yX8_ask : MethodName := ⟨RX8, "ask", "(I)I"⟩
abbrev cX8_found : ByteArray := prog_10_method_21_code
def yX8_found : MethodName := ⟨RX8, "found", "(II)J"⟩
abbrev cX8_page : ByteArray := prog_10_method_22_code
def yX8_page : MethodName := ⟨RX8, "page", "(IJI)I"⟩
abbrev cX8_right : ByteArray := prog_10_method_23_code
def yX8_right : MethodName := ⟨RX8, "right", "(III)I"⟩
abbrev cX8_masked : ByteArray := prog_10_method_24_code
def yX8_masked : MethodName := ⟨RX8, "masked", "(IZ)I"⟩
abbrev cX8_cost : ByteArray := prog_10_method_25_code
def yX8_cost : MethodName := ⟨RX8, "cost", "()J"⟩
abbrev cX8_bound : ByteArray := prog_10_method_26_code
def yX8_bound : MethodName := ⟨RX8, "bound", "(J)I"⟩
abbrev cX8_save : ByteArray := prog_10_method_27_code
def yX8_save : MethodName := ⟨RX8, "save", "(IJ)I"⟩
abbrev cX8_askKept : ByteArray := prog_10_method_28_code
def yX8_askKept : MethodName := ⟨RX8, "askKept", "(I)V"⟩
abbrev cX8_tick : ByteArray := prog_10_method_29_code
def yX8_tick : MethodName := ⟨RX8, "tick", "(J)I"⟩
abbrev cX8_saved : ByteArray := prog_10_method_30_code
def yX8_saved : MethodName := ⟨RX8, "saved", "(I)I"⟩
abbrev cX8_scan : ByteArray := prog_10_method_31_code
def yX8_scan : MethodName := ⟨RX8, "scan", "(I)I"⟩
def RL : String := "TraceQuestionsLaw"
abbrev cL_law : ByteArray := code
def yL_law : MethodName := ⟨RL, "law", "([I)Z"⟩
def wsL_law_r1 : List Cond := [Cond.classLink RL 7 RX7, Cond.instantiable RX7 16, Cond.initialized RX7, Cond.classLink RL 10 RX8, Cond.instantiable RX8 40, Cond.initialized RX8, Cond.constantLong RL 13 (4294967295), Cond.methodLink RL 9 yX7_init, Cond.instanceMethod yX7_init, Cond.code yX7_init cX7_init 1 none, Cond.methodLink RX7 1 objectInit, Cond.instanceMethod objectInit, Cond.code objectInit ⟨#[0xb1]⟩ 1 none, Cond.classLink RX7 7 RX6, Cond.instantiable RX6 4, Cond.initialized RX6, Cond.fieldLink RX7 10 "TraceQuestions" "rows" "LTraceQuestions$Rows;", Cond.classLink RX7 16 RX5, Cond.instantiable RX5 3, Cond.initialized RX5, Cond.fieldLink RX7 19 "TraceQuestions" "rights" "LTraceQuestions$Rights;", Cond.classLink RX7 23 RX4, Cond.instantiable RX4 11, Cond.initialized RX4]
def wsL_law_r2 : List Cond := [Cond.fieldLink RX7 26 "TraceQuestions" "reader" "LTraceQuestions$Reader;", Cond.classLink RX7 30 RX1, Cond.instantiable RX1 4, Cond.initialized RX1, Cond.fieldLink RX7 33 "TraceQuestions" "judge" "LTraceQuestions$Judge;", Cond.arrayClass .char, Cond.fieldLink RX7 37 "TraceQuestions" "text" "[C", Cond.fieldLink RX7 41 "TraceQuestions" "signs" "I", Cond.fieldLink RX7 45 "TraceQuestions" "maskedFields" "I", Cond.constant RX7 48 (100000), Cond.fieldLink RX7 49 "TraceQuestions" "costBound" "I", Cond.fieldLink RX7 52 "TraceQuestions" "latestCost" "J", Cond.classLink RX7 56 RX3, Cond.instantiable RX3 10, Cond.initialized RX3, Cond.fieldLink RX7 59 "TraceQuestions" "answered" "LTraceQuestions$Question;", Cond.fieldLink RX7 63 "TraceQuestions" "anyAnswered" "Z", Cond.classLink RX7 67 RX0, Cond.instantiable RX0 3, Cond.initialized RX0, Cond.fieldLink RX7 70 "TraceQuestions" "latestFound" "LTraceQuestions$Found;", Cond.fieldLink RX7 74 "TraceQuestions" "passingFound" "LTraceQuestions$Found;", Cond.classLink RX7 77 RX2, Cond.fieldLink RX7 79 "TraceQuestions" "keptQuestions" "[LTraceQuestions$Kept;"]
def wsL_law_r3 : List Cond := [Cond.fieldLink RX7 83 "TraceQuestions" "keptCount" "I", Cond.fieldLink RX7 86 "TraceQuestions" "time" "J", Cond.instanceMethod yX6_init, Cond.code yX6_init cX6_init 1 none, Cond.methodLink RX6 3 objectInit, Cond.classLink RX6 9 "[[I", Cond.arrayClass .int, Cond.fieldLink RX6 11 "TraceQuestions$Rows" "values" "[[I", Cond.fieldLink RX6 16 "TraceQuestions$Rows" "upward" "[[I", Cond.fieldLink RX6 19 "TraceQuestions$Rows" "downward" "[[I", Cond.fieldLink RX6 22 "TraceQuestions$Rows" "count" "I", Cond.instanceMethod yX5_init, Cond.code yX5_init cX5_init 1 none, Cond.methodLink RX5 3 objectInit, Cond.classLink RX5 9 "[[I", Cond.fieldLink RX5 11 "TraceQuestions$Rights" "kinds" "[[I", Cond.fieldLink RX5 16 "TraceQuestions$Rights" "counts" "[I", Cond.fieldLink RX5 20 "TraceQuestions$Rights" "count" "I", Cond.instanceMethod yX4_init, Cond.code yX4_init cX4_init 1 none, Cond.methodLink RX4 3 objectInit, Cond.classLink RX4 9 RX3, Cond.fieldLink RX4 12 "TraceQuestions$Reader" "draft" "LTraceQuestions$Question;", Cond.fieldLink RX4 18 "TraceQuestions$Reader" "maskedFields" "I"]
def wsL_law_r4 : List Cond := [Cond.fieldLink RX4 22 "TraceQuestions$Reader" "state" "I", Cond.fieldLink RX4 25 "TraceQuestions$Reader" "field" "I", Cond.fieldLink RX4 28 "TraceQuestions$Reader" "relation" "C", Cond.fieldLink RX4 32 "TraceQuestions$Reader" "number" "I", Cond.fieldLink RX4 35 "TraceQuestions$Reader" "figures" "I", Cond.fieldLink RX4 38 "TraceQuestions$Reader" "nested" "I", Cond.fieldLink RX4 41 "TraceQuestions$Reader" "turns" "I", Cond.fieldLink RX4 44 "TraceQuestions$Reader" "turnsBefore" "[I", Cond.fieldLink RX4 48 "TraceQuestions$Reader" "open" "I", Cond.instanceMethod yX3_init, Cond.code yX3_init cX3_init 1 none, Cond.methodLink RX3 3 objectInit, Cond.fieldLink RX3 9 "TraceQuestions$Question" "steps" "[I", Cond.fieldLink RX3 15 "TraceQuestions$Question" "testFields" "[I", Cond.fieldLink RX3 18 "TraceQuestions$Question" "testRelations" "[C", Cond.fieldLink RX3 22 "TraceQuestions$Question" "testNumbers" "[I", Cond.fieldLink RX3 25 "TraceQuestions$Question" "stepCount" "I", Cond.fieldLink RX3 29 "TraceQuestions$Question" "testCount" "I", Cond.fieldLink RX3 32 "TraceQuestions$Question" "fields" "I", Cond.fieldLink RX3 35 "TraceQuestions$Question" "tail" "I", Cond.fieldLink RX3 38 "TraceQuestions$Question" "tailField" "I", Cond.fieldLink RX3 41 "TraceQuestions$Question" "asker" "I", Cond.instanceMethod yX1_init, Cond.code yX1_init cX1_init 1 none]
def wsL_law_r5 : List Cond := [Cond.methodLink RX1 1 objectInit, Cond.fieldLink RX1 7 "TraceQuestions$Judge" "level" "I", Cond.fieldLink RX1 13 "TraceQuestions$Judge" "partsTrue" "I", Cond.fieldLink RX1 16 "TraceQuestions$Judge" "testsTrue" "I", Cond.fieldLink RX1 19 "TraceQuestions$Judge" "turned" "I", Cond.instanceMethod yX0_init, Cond.code yX0_init cX0_init 1 none, Cond.methodLink RX0 3 objectInit, Cond.fieldLink RX0 9 "TraceQuestions$Found" "first" "[I", Cond.fieldLink RX0 15 "TraceQuestions$Found" "howMany" "[I", Cond.fieldLink RX0 18 "TraceQuestions$Found" "count" "I", Cond.methodLink RL 12 yX8_init, Cond.instanceMethod yX8_init, Cond.code yX8_init cX8_init 1 none, Cond.methodLink RX8 1 objectInit, Cond.fieldLink RX8 7 "TraceQuestionsModel" "fields" "[I", Cond.fieldLink RX8 13 "TraceQuestionsModel" "rightOf" "[I", Cond.fieldLink RX8 16 "TraceQuestionsModel" "rightOwner" "[I", Cond.fieldLink RX8 19 "TraceQuestionsModel" "rightKind" "[I", Cond.arrayClass .boolean, Cond.fieldLink RX8 22 "TraceQuestionsModel" "masks" "[Z", Cond.constantLong RX8 26 (100000), Cond.fieldLink RX8 28 "TraceQuestionsModel" "bound" "J", Cond.fieldLink RX8 32 "TraceQuestionsModel" "text" "[I"]
def wsL_law_r6 : List Cond := [Cond.fieldLink RX8 35 "TraceQuestionsModel" "asked" "[I", Cond.fieldLink RX8 38 "TraceQuestionsModel" "keptSize" "[I", Cond.fieldLink RX8 41 "TraceQuestionsModel" "keptText" "[I", Cond.fieldLink RX8 44 "TraceQuestionsModel" "keptWho" "[I", Cond.arrayClass .long, Cond.fieldLink RX8 47 "TraceQuestionsModel" "every" "[J", Cond.fieldLink RX8 51 "TraceQuestionsModel" "due" "[J", Cond.fieldLink RX8 54 "TraceQuestionsModel" "saved" "[I", Cond.fieldLink RX8 57 "TraceQuestionsModel" "nots" "[I", Cond.fieldLink RX8 60 "TraceQuestionsModel" "ors" "[Z", Cond.fieldLink RX8 63 "TraceQuestionsModel" "ands" "[Z", Cond.fieldLink RX8 66 "TraceQuestionsModel" "first" "[I", Cond.fieldLink RX8 69 "TraceQuestionsModel" "second" "[I", Cond.fieldLink RX8 72 "TraceQuestionsModel" "gotFirst" "[I", Cond.fieldLink RX8 75 "TraceQuestionsModel" "gotSecond" "[I", Cond.fieldLink RX8 78 "TraceQuestionsModel" "is" "[Z", Cond.fieldLink RX8 81 "TraceQuestionsModel" "rows" "I", Cond.methodLink RL 15 yX7_row, Cond.instanceMethod yX7_row, Cond.selects RX7 yX7_row yX7_row, Cond.code yX7_row cX7_row 7 (some .int), Cond.constant RX7 93 (-1000002), Cond.constant RX7 98 (-1000004), Cond.methodLink RX7 89 yX7_isBelow]
def wsL_law_r7 : List Cond := [Cond.static yX7_isBelow, Cond.code yX7_isBelow cX7_isBelow 3 (some .boolean), Cond.methodLink RX7 94 yX6_count, Cond.instanceMethod yX6_count, Cond.selects RX6 yX6_count yX6_count, Cond.code yX6_count cX6_count 1 (some .int), Cond.methodLink RX7 99 yX6_add, Cond.instanceMethod yX6_add, Cond.selects RX6 yX6_add yX6_add, Cond.code yX6_add cX6_add 6 (some .int), Cond.constant RX6 26 (-1000004), Cond.methodLink RX6 27 yX6_putInOrders, Cond.instanceMethod yX6_putInOrders, Cond.selects RX6 yX6_putInOrders yX6_putInOrders, Cond.code yX6_putInOrders cX6_putInOrders 3 none, Cond.methodLink RX6 32 yX6_value, Cond.instanceMethod yX6_value, Cond.selects RX6 yX6_value yX6_value, Cond.code yX6_value cX6_value 3 (some .int), Cond.methodLink RX6 36 yX6_behindLast, Cond.instanceMethod yX6_behindLast, Cond.selects RX6 yX6_behindLast yX6_behindLast, Cond.code yX6_behindLast cX6_behindLast 7 (some .int), Cond.methodLink RX6 44 yX6_numberAt]
def wsL_law_r8 : List Cond := [Cond.instanceMethod yX6_numberAt, Cond.selects RX6 yX6_numberAt yX6_numberAt, Cond.code yX6_numberAt cX6_numberAt 4 (some .int), Cond.methodLink RX6 40 yX6_insert, Cond.instanceMethod yX6_insert, Cond.selects RX6 yX6_insert yX6_insert, Cond.code yX6_insert cX6_insert 4 none, Cond.methodLink RL 19 yX8_row, Cond.instanceMethod yX8_row, Cond.selects RX8 yX8_row yX8_row, Cond.code yX8_row cX8_row 7 (some .int), Cond.fieldLink RX8 85 "TraceQuestionsModel" "thrown" "I", Cond.constantLong RX8 94 (999), Cond.constantLong RX8 96 (19), Cond.constantLong RX8 88 (49), Cond.constantLong RX8 98 (20000), Cond.constantLong RX8 100 (99), Cond.constant RX8 102 (-1000002), Cond.constant RX8 103 (-1000004), Cond.methodLink RX8 90 yX8_within, Cond.static yX8_within, Cond.code yX8_within cX8_within 6 (some .boolean), Cond.methodLink RL 20 yX7_sign, Cond.instanceMethod yX7_sign]
def wsL_law_r9 : List Cond := [Cond.selects RX7 yX7_sign yX7_sign, Cond.code yX7_sign cX7_sign 2 none, Cond.methodLink RL 24 yX8_sign, Cond.instanceMethod yX8_sign, Cond.selects RX8 yX8_sign yX8_sign, Cond.code yX8_sign cX8_sign 2 none, Cond.fieldLink RX8 104 "TraceQuestionsModel" "size" "I", Cond.constantLong RX8 107 (32), Cond.constantLong RX8 109 (126), Cond.methodLink RL 25 yX7_ask, Cond.instanceMethod yX7_ask, Cond.selects RX7 yX7_ask yX7_ask, Cond.code yX7_ask cX7_ask 4 (some .int), Cond.constant RX7 103 (-1000001), Cond.constant RX7 116 (-1000003), Cond.methodLink RX7 104 yX7_readText, Cond.instanceMethod yX7_readText, Cond.selects RX7 yX7_readText yX7_readText, Cond.code yX7_readText cX7_readText 3 (some .int), Cond.methodLink RX7 179 yX4_firstFault, Cond.instanceMethod yX4_firstFault, Cond.selects RX4 yX4_firstFault yX4_firstFault, Cond.code yX4_firstFault cX4_firstFault 5 (some .int), Cond.methodLink RX4 51 yX4_begin]
def wsL_law_r10 : List Cond := [Cond.instanceMethod yX4_begin, Cond.selects RX4 yX4_begin yX4_begin, Cond.code yX4_begin cX4_begin 2 none, Cond.methodLink RX4 63 yX3_clear, Cond.instanceMethod yX3_clear, Cond.selects RX3 yX3_clear yX3_clear, Cond.code yX3_clear cX3_clear 1 none, Cond.methodLink RX4 55 yX4_takes, Cond.instanceMethod yX4_takes, Cond.selects RX4 yX4_takes yX4_takes, Cond.code yX4_takes cX4_takes 2 (some .boolean), Cond.methodLink RX4 66 yX4_takesTail, Cond.instanceMethod yX4_takesTail, Cond.selects RX4 yX4_takesTail yX4_takesTail, Cond.code yX4_takesTail cX4_takesTail 3 (some .boolean), Cond.methodLink RX4 116 yX4_tailOf, Cond.static yX4_tailOf, Cond.code yX4_tailOf cX4_tailOf 1 (some .int), Cond.methodLink RX4 119 yX3_setTail, Cond.instanceMethod yX3_setTail, Cond.selects RX3 yX3_setTail yX3_setTail, Cond.code yX3_setTail cX3_setTail 2 none, Cond.methodLink RX4 69 yX4_takesTest, Cond.instanceMethod yX4_takesTest]
def wsL_law_r11 : List Cond := [Cond.selects RX4 yX4_takesTest yX4_takesTest, Cond.code yX4_takesTest cX4_takesTest 2 (some .boolean), Cond.methodLink RX4 87 yX4_takesTurn, Cond.instanceMethod yX4_takesTurn, Cond.selects RX4 yX4_takesTurn yX4_takesTurn, Cond.code yX4_takesTurn cX4_takesTurn 1 (some .boolean), Cond.methodLink RX4 96 yX3_addStep, Cond.instanceMethod yX3_addStep, Cond.selects RX3 yX3_addStep yX3_addStep, Cond.code yX3_addStep cX3_addStep 2 none, Cond.methodLink RX4 90 yX4_takesOpen, Cond.instanceMethod yX4_takesOpen, Cond.selects RX4 yX4_takesOpen yX4_takesOpen, Cond.code yX4_takesOpen cX4_takesOpen 1 (some .boolean), Cond.methodLink RX4 93 yX4_takesTestField, Cond.instanceMethod yX4_takesTestField, Cond.selects RX4 yX4_takesTestField yX4_takesTestField, Cond.code yX4_takesTestField cX4_takesTestField 2 (some .boolean), Cond.methodLink RX4 102 yX4_isOpenField, Cond.instanceMethod yX4_isOpenField, Cond.selects RX4 yX4_isOpenField yX4_isOpenField, Cond.code yX4_isOpenField cX4_isOpenField 3 (some .boolean), Cond.methodLink RX4 109 yX4_fieldOf, Cond.static yX4_fieldOf]
def wsL_law_r12 : List Cond := [Cond.code yX4_fieldOf cX4_fieldOf 1 (some .int), Cond.methodLink RX4 105 yX3_tests, Cond.instanceMethod yX3_tests, Cond.selects RX3 yX3_tests yX3_tests, Cond.code yX3_tests cX3_tests 1 (some .int), Cond.methodLink RX4 72 yX4_takesRelation, Cond.instanceMethod yX4_takesRelation, Cond.selects RX4 yX4_takesRelation yX4_takesRelation, Cond.code yX4_takesRelation cX4_takesRelation 2 (some .boolean), Cond.methodLink RX4 75 yX4_takesFigure, Cond.instanceMethod yX4_takesFigure, Cond.selects RX4 yX4_takesFigure yX4_takesFigure, Cond.code yX4_takesFigure cX4_takesFigure 2 (some .boolean), Cond.methodLink RX4 78 yX4_endFieldTest, Cond.instanceMethod yX4_endFieldTest, Cond.selects RX4 yX4_endFieldTest yX4_endFieldTest, Cond.code yX4_endFieldTest cX4_endFieldTest 1 none, Cond.methodLink RX4 125 yX3_addTest, Cond.instanceMethod yX3_addTest, Cond.selects RX3 yX3_addTest yX3_addTest, Cond.code yX3_addTest cX3_addTest 4 none, Cond.methodLink RX3 44 yX3_addStep, Cond.methodLink RX4 99 yX4_endTest, Cond.instanceMethod yX4_endTest]
def wsL_law_r13 : List Cond := [Cond.selects RX4 yX4_endTest yX4_endTest, Cond.code yX4_endTest cX4_endTest 1 none, Cond.methodLink RX4 81 yX4_takesBehindTest, Cond.instanceMethod yX4_takesBehindTest, Cond.selects RX4 yX4_takesBehindTest yX4_takesBehindTest, Cond.code yX4_takesBehindTest cX4_takesBehindTest 2 (some .boolean), Cond.methodLink RX4 113 yX4_takesClose, Cond.instanceMethod yX4_takesClose, Cond.selects RX4 yX4_takesClose yX4_takesClose, Cond.code yX4_takesClose cX4_takesClose 1 (some .boolean), Cond.methodLink RX4 84 yX4_takesTailField, Cond.instanceMethod yX4_takesTailField, Cond.selects RX4 yX4_takesTailField yX4_takesTailField, Cond.code yX4_takesTailField cX4_takesTailField 2 (some .boolean), Cond.methodLink RX4 122 yX3_setTailField, Cond.instanceMethod yX3_setTailField, Cond.selects RX3 yX3_setTailField yX3_setTailField, Cond.code yX3_setTailField cX3_setTailField 2 none, Cond.methodLink RX4 59 yX4_takesEnd, Cond.instanceMethod yX4_takesEnd, Cond.selects RX4 yX4_takesEnd yX4_takesEnd, Cond.code yX4_takesEnd cX4_takesEnd 1 (some .boolean), Cond.methodLink RX7 108 yX4_draft, Cond.instanceMethod yX4_draft]
def wsL_law_r14 : List Cond := [Cond.selects RX4 yX4_draft yX4_draft, Cond.code yX4_draft cX4_draft 1 (some (.object "TraceQuestions$Question")), Cond.methodLink RX7 183 yX3_setAsker, Cond.instanceMethod yX3_setAsker, Cond.selects RX3 yX3_setAsker yX3_setAsker, Cond.code yX3_setAsker cX3_setAsker 2 none, Cond.methodLink RX7 112 yX7_costOf, Cond.instanceMethod yX7_costOf, Cond.selects RX7 yX7_costOf yX7_costOf, Cond.code yX7_costOf cX7_costOf 2 (some .long), Cond.methodLink RX7 187 yX3_tests, Cond.methodLink RX7 117 yX7_search, Cond.instanceMethod yX7_search, Cond.selects RX7 yX7_search yX7_search, Cond.code yX7_search cX7_search 6 none, Cond.methodLink RX7 190 yX0_clear, Cond.instanceMethod yX0_clear, Cond.selects RX0 yX0_clear yX0_clear, Cond.code yX0_clear cX0_clear 1 none, Cond.methodLink RX7 131 yX3_tail, Cond.instanceMethod yX3_tail, Cond.selects RX3 yX3_tail yX3_tail, Cond.code yX3_tail cX3_tail 1 (some .int), Cond.methodLink RX7 193 yX3_tailField]
def wsL_law_r15 : List Cond := [Cond.instanceMethod yX3_tailField, Cond.selects RX3 yX3_tailField yX3_tailField, Cond.code yX3_tailField cX3_tailField 1 (some .int), Cond.methodLink RX7 196 yX6_numberAt, Cond.methodLink RX7 200 yX3_asker, Cond.instanceMethod yX3_asker, Cond.selects RX3 yX3_asker yX3_asker, Cond.code yX3_asker cX3_asker 1 (some .int), Cond.methodLink RX7 172 yX7_sees, Cond.instanceMethod yX7_sees, Cond.selects RX7 yX7_sees yX7_sees, Cond.code yX7_sees cX7_sees 3 (some .boolean), Cond.methodLink RX7 141 yX6_value, Cond.methodLink RX7 176 yX5_letSee, Cond.instanceMethod yX5_letSee, Cond.selects RX5 yX5_letSee yX5_letSee, Cond.code yX5_letSee cX5_letSee 5 (some .boolean), Cond.methodLink RX5 24 yX5_kindsOf, Cond.instanceMethod yX5_kindsOf, Cond.selects RX5 yX5_kindsOf yX5_kindsOf, Cond.code yX5_kindsOf cX5_kindsOf 3 (some .int), Cond.methodLink RX7 203 yX1_isTrue, Cond.instanceMethod yX1_isTrue, Cond.selects RX1 yX1_isTrue yX1_isTrue]
def wsL_law_r16 : List Cond := [Cond.code yX1_isTrue cX1_isTrue 6 (some .boolean), Cond.methodLink RX1 22 yX1_beginLevel, Cond.instanceMethod yX1_beginLevel, Cond.selects RX1 yX1_beginLevel yX1_beginLevel, Cond.code yX1_beginLevel cX1_beginLevel 1 none, Cond.methodLink RX1 25 yX3_stepCount, Cond.instanceMethod yX3_stepCount, Cond.selects RX3 yX3_stepCount yX3_stepCount, Cond.code yX3_stepCount cX3_stepCount 1 (some .int), Cond.methodLink RX1 31 yX3_step, Cond.instanceMethod yX3_step, Cond.selects RX3 yX3_step yX3_step, Cond.code yX3_step cX3_step 2 (some .int), Cond.methodLink RX1 35 yX1_endLevel, Cond.instanceMethod yX1_endLevel, Cond.selects RX1 yX1_endLevel yX1_endLevel, Cond.code yX1_endLevel cX1_endLevel 2 none, Cond.methodLink RX1 46 yX1_isLevelTrue, Cond.instanceMethod yX1_isLevelTrue, Cond.selects RX1 yX1_isLevelTrue yX1_isLevelTrue, Cond.code yX1_isLevelTrue cX1_isLevelTrue 1 (some .boolean), Cond.methodLink RX1 42 yX1_take, Cond.instanceMethod yX1_take, Cond.selects RX1 yX1_take yX1_take]
def wsL_law_r17 : List Cond := [Cond.code yX1_take cX1_take 3 none, Cond.methodLink RX1 38 yX3_isTestTrue, Cond.instanceMethod yX3_isTestTrue, Cond.selects RX3 yX3_isTestTrue yX3_isTestTrue, Cond.code yX3_isTestTrue cX3_isTestTrue 5 (some .boolean), Cond.methodLink RX3 48 yX6_value, Cond.methodLink RX7 207 yX0_addToGroup, Cond.instanceMethod yX0_addToGroup, Cond.selects RX0 yX0_addToGroup yX0_addToGroup, Cond.code yX0_addToGroup cX0_addToGroup 3 none, Cond.methodLink RX0 22 yX0_add, Cond.instanceMethod yX0_add, Cond.selects RX0 yX0_add yX0_add, Cond.code yX0_add cX0_add 2 none, Cond.methodLink RX7 210 yX0_add, Cond.methodLink RX7 121 yX4_writeNextInto, Cond.instanceMethod yX4_writeNextInto, Cond.selects RX4 yX4_writeNextInto yX4_writeNextInto, Cond.code yX4_writeNextInto cX4_writeNextInto 2 none, Cond.methodLink RX7 125 yX0_count, Cond.instanceMethod yX0_count, Cond.selects RX0 yX0_count yX0_count, Cond.code yX0_count cX0_count 1 (some .int), Cond.methodLink RL 29 yX8_ask]
def wsL_law_r18 : List Cond := [Cond.instanceMethod yX8_ask, Cond.selects RX8 yX8_ask yX8_ask, Cond.code yX8_ask cX8_ask 4 (some .int), Cond.constant RX8 180 (-1000001), Cond.fieldLink RX8 114 "TraceQuestionsModel" "fault" "I", Cond.fieldLink RX8 188 "TraceQuestionsModel" "lastCost" "J", Cond.constant RX8 191 (-1000003), Cond.fieldLink RX8 196 "TraceQuestionsModel" "answered" "Z", Cond.fieldLink RX8 199 "TraceQuestionsModel" "asker" "I", Cond.fieldLink RX8 202 "TraceQuestionsModel" "askedSize" "I", Cond.fieldLink RX8 158 "TraceQuestionsModel" "got" "I", Cond.fieldLink RX8 205 "TraceQuestionsModel" "count" "I", Cond.fieldLink RX8 161 "TraceQuestionsModel" "gotGroups" "Z", Cond.fieldLink RX8 208 "TraceQuestionsModel" "groups" "Z", Cond.methodLink RX8 177 yX8_isAsker, Cond.static yX8_isAsker, Cond.code yX8_isAsker cX8_isAsker 1 (some .boolean), Cond.methodLink RX8 181 yX8_look, Cond.instanceMethod yX8_look, Cond.selects RX8 yX8_look yX8_look, Cond.code yX8_look cX8_look 12 none, Cond.fieldLink RX8 117 "TraceQuestionsModel" "tests" "I", Cond.fieldLink RX8 111 "TraceQuestionsModel" "level" "I", Cond.constantLong RX8 132 (48)]
def wsL_law_r19 : List Cond := [Cond.constantLong RX8 134 (57), Cond.fieldLink RX8 140 "TraceQuestionsModel" "tail" "I", Cond.methodLink RX8 120 yX8_at, Cond.static yX8_at, Cond.code yX8_at cX8_at 4 (some .int), Cond.methodLink RX8 124 yX8_isTail, Cond.static yX8_isTail, Cond.code yX8_isTail cX8_isTail 1 (some .boolean), Cond.methodLink RX8 128 yX8_fieldOf, Cond.static yX8_fieldOf, Cond.code yX8_fieldOf cX8_fieldOf 1 (some .int), Cond.methodLink RX8 136 yX8_overs, Cond.instanceMethod yX8_overs, Cond.selects RX8 yX8_overs yX8_overs, Cond.code yX8_overs cX8_overs 2 (some .int), Cond.methodLink RX8 143 yX8_lookAtTail, Cond.instanceMethod yX8_lookAtTail, Cond.selects RX8 yX8_lookAtTail yX8_lookAtTail, Cond.code yX8_lookAtTail cX8_lookAtTail 5 none, Cond.methodLink RX8 184 yX8_costNow, Cond.instanceMethod yX8_costNow, Cond.selects RX8 yX8_costNow yX8_costNow, Cond.code yX8_costNow cX8_costNow 1 (some .long), Cond.methodLink RX8 192 yX8_find]
def wsL_law_r20 : List Cond := [Cond.instanceMethod yX8_find, Cond.selects RX8 yX8_find yX8_find, Cond.code yX8_find cX8_find 12 none, Cond.methodLink RX8 165 yX8_sees, Cond.instanceMethod yX8_sees, Cond.selects RX8 yX8_sees yX8_sees, Cond.code yX8_sees cX8_sees 5 (some .boolean), Cond.fieldLink RX8 155 "TraceQuestionsModel" "rights" "I", Cond.methodLink RX8 151 yX8_field, Cond.instanceMethod yX8_field, Cond.selects RX8 yX8_field yX8_field, Cond.code yX8_field cX8_field 3 (some .int), Cond.methodLink RX8 169 yX8_isTrue, Cond.instanceMethod yX8_isTrue, Cond.selects RX8 yX8_isTrue yX8_isTrue, Cond.code yX8_isTrue cX8_isTrue 9 (some .boolean), Cond.methodLink RX8 147 yX8_test, Cond.instanceMethod yX8_test, Cond.selects RX8 yX8_test yX8_test, Cond.code yX8_test cX8_test 3 none, Cond.methodLink RX8 173 yX8_take, Cond.instanceMethod yX8_take, Cond.selects RX8 yX8_take yX8_take, Cond.code yX8_take cX8_take 5 none]
def wsL_law_r21 : List Cond := [Cond.methodLink RL 30 yX7_found, Cond.instanceMethod yX7_found, Cond.selects RX7 yX7_found yX7_found, Cond.code yX7_found cX7_found 4 (some .long), Cond.constantLong RX7 126 (-1), Cond.methodLink RX7 128 yX0_first, Cond.instanceMethod yX0_first, Cond.selects RX0 yX0_first yX0_first, Cond.code yX0_first cX0_first 2 (some .int), Cond.methodLink RX7 134 yX0_howMany, Cond.instanceMethod yX0_howMany, Cond.selects RX0 yX0_howMany yX0_howMany, Cond.code yX0_howMany cX0_howMany 2 (some .int), Cond.methodLink RX7 137 yX7_isMasked, Cond.instanceMethod yX7_isMasked, Cond.selects RX7 yX7_isMasked yX7_isMasked, Cond.code yX7_isMasked cX7_isMasked 2 (some .boolean), Cond.methodLink RL 34 yX8_found, Cond.instanceMethod yX8_found, Cond.selects RX8 yX8_found yX8_found, Cond.code yX8_found cX8_found 3 (some .long), Cond.constantLong RX8 211 (5), Cond.constantLong RX8 213 (-1), Cond.methodLink RL 35 yX7_page]
def wsL_law_r22 : List Cond := [Cond.instanceMethod yX7_page, Cond.selects RX7 yX7_page yX7_page, Cond.code yX7_page cX7_page 7 (some .int), Cond.constantLong RX7 145 (10), Cond.methodLink RL 39 yX8_page, Cond.instanceMethod yX8_page, Cond.selects RX8 yX8_page yX8_page, Cond.code yX8_page cX8_page 12 (some .int), Cond.constantLong RX8 215 (9), Cond.constantLong RX8 217 (10), Cond.methodLink RL 40 yX7_right, Cond.instanceMethod yX7_right, Cond.selects RX7 yX7_right yX7_right, Cond.code yX7_right cX7_right 4 (some .int), Cond.methodLink RX7 147 yX5_holds, Cond.instanceMethod yX5_holds, Cond.selects RX5 yX5_holds yX5_holds, Cond.code yX5_holds cX5_holds 4 (some .boolean), Cond.methodLink RX7 151 yX5_count, Cond.instanceMethod yX5_count, Cond.selects RX5 yX5_count yX5_count, Cond.code yX5_count cX5_count 1 (some .int), Cond.methodLink RX7 152 yX5_add, Cond.instanceMethod yX5_add]
def wsL_law_r23 : List Cond := [Cond.selects RX5 yX5_add yX5_add, Cond.code yX5_add cX5_add 4 none, Cond.methodLink RX7 155 yX5_countOf, Cond.instanceMethod yX5_countOf, Cond.selects RX5 yX5_countOf yX5_countOf, Cond.code yX5_countOf cX5_countOf 2 (some .int), Cond.methodLink RL 44 yX8_right, Cond.instanceMethod yX8_right, Cond.selects RX8 yX8_right yX8_right, Cond.code yX8_right cX8_right 7 (some .int), Cond.methodLink RL 45 yX7_masked, Cond.instanceMethod yX7_masked, Cond.selects RX7 yX7_masked yX7_masked, Cond.code yX7_masked cX7_masked 3 (some .int), Cond.methodLink RL 49 yX8_masked, Cond.instanceMethod yX8_masked, Cond.selects RX8 yX8_masked yX8_masked, Cond.code yX8_masked cX8_masked 4 (some .int), Cond.constantLong RX8 219 (4), Cond.methodLink RL 50 yX7_cost, Cond.instanceMethod yX7_cost, Cond.selects RX7 yX7_cost yX7_cost, Cond.code yX7_cost cX7_cost 1 (some .long), Cond.methodLink RL 54 yX8_cost]
def wsL_law_r24 : List Cond := [Cond.instanceMethod yX8_cost, Cond.selects RX8 yX8_cost yX8_cost, Cond.code yX8_cost cX8_cost 1 (some .long), Cond.methodLink RL 55 yX7_bound, Cond.instanceMethod yX7_bound, Cond.selects RX7 yX7_bound yX7_bound, Cond.code yX7_bound cX7_bound 4 (some .int), Cond.constantLong RX7 158 (1000000), Cond.methodLink RL 59 yX8_bound, Cond.instanceMethod yX8_bound, Cond.selects RX8 yX8_bound yX8_bound, Cond.code yX8_bound cX8_bound 5 (some .int), Cond.constantLong RX8 221 (1000000), Cond.methodLink RL 60 yX7_save, Cond.instanceMethod yX7_save, Cond.selects RX7 yX7_save yX7_save, Cond.code yX7_save cX7_save 5 (some .int), Cond.constantLong RX7 160 (1000), Cond.instantiable RX2 4, Cond.initialized RX2, Cond.methodLink RX7 162 yX2_init, Cond.instanceMethod yX2_init, Cond.code yX2_init cX2_init 6 none, Cond.methodLink RX2 3 objectInit]
def wsL_law_r25 : List Cond := [Cond.fieldLink RX2 9 "TraceQuestions$Kept" "latestCount" "I", Cond.fieldLink RX2 15 "TraceQuestions$Kept" "question" "LTraceQuestions$Question;", Cond.fieldLink RX2 19 "TraceQuestions$Kept" "every" "J", Cond.fieldLink RX2 23 "TraceQuestions$Kept" "next" "J", Cond.methodLink RL 64 yX8_save, Cond.instanceMethod yX8_save, Cond.selects RX8 yX8_save yX8_save, Cond.code yX8_save cX8_save 6 (some .int), Cond.constantLong RX8 223 (1000), Cond.fieldLink RX8 225 "TraceQuestionsModel" "kept" "I", Cond.fieldLink RX8 228 "TraceQuestionsModel" "now" "J", Cond.methodLink RL 65 yX7_tick, Cond.instanceMethod yX7_tick, Cond.selects RX7 yX7_tick yX7_tick, Cond.code yX7_tick cX7_tick 5 (some .int), Cond.methodLink RX7 165 yX7_askKept, Cond.instanceMethod yX7_askKept, Cond.selects RX7 yX7_askKept yX7_askKept, Cond.code yX7_askKept cX7_askKept 3 (some .int), Cond.methodLink RX7 212 yX2_passTo, Cond.instanceMethod yX2_passTo, Cond.selects RX2 yX2_passTo yX2_passTo, Cond.code yX2_passTo cX2_passTo 5 (some .int), Cond.methodLink RX7 216 yX2_question]
def wsL_law_r26 : List Cond := [Cond.instanceMethod yX2_question, Cond.selects RX2 yX2_question yX2_question, Cond.code yX2_question cX2_question 1 (some (.object "TraceQuestions$Question")), Cond.methodLink RX7 219 yX7_countFound, Cond.instanceMethod yX7_countFound, Cond.selects RX7 yX7_countFound yX7_countFound, Cond.code yX7_countFound cX7_countFound 2 (some .int), Cond.methodLink RX7 226 yX3_fields, Cond.instanceMethod yX3_fields, Cond.selects RX3 yX3_fields yX3_fields, Cond.code yX3_fields cX3_fields 1 (some .int), Cond.methodLink RX7 223 yX2_setLatestCount, Cond.instanceMethod yX2_setLatestCount, Cond.selects RX2 yX2_setLatestCount yX2_setLatestCount, Cond.code yX2_setLatestCount cX2_setLatestCount 2 none, Cond.methodLink RL 68 yX8_tick, Cond.instanceMethod yX8_tick, Cond.selects RX8 yX8_tick yX8_tick, Cond.code yX8_tick cX8_tick 6 (some .int), Cond.methodLink RX8 231 yX8_askKept, Cond.instanceMethod yX8_askKept, Cond.selects RX8 yX8_askKept yX8_askKept, Cond.code yX8_askKept cX8_askKept 2 none, Cond.methodLink RL 69 yX7_saved]
def wsL_law_r27 : List Cond := [Cond.instanceMethod yX7_saved, Cond.selects RX7 yX7_saved yX7_saved, Cond.code yX7_saved cX7_saved 3 (some .int), Cond.methodLink RX7 169 yX2_latestCount, Cond.instanceMethod yX2_latestCount, Cond.selects RX2 yX2_latestCount yX2_latestCount, Cond.code yX2_latestCount cX2_latestCount 1 (some .int), Cond.methodLink RL 72 yX8_saved, Cond.instanceMethod yX8_saved, Cond.selects RX8 yX8_saved yX8_saved, Cond.code yX8_saved cX8_saved 2 (some .int), Cond.methodLink RL 73 yX7_scan, Cond.instanceMethod yX7_scan, Cond.selects RX7 yX7_scan yX7_scan, Cond.code yX7_scan cX7_scan 4 (some .int), Cond.methodLink RL 76 yX8_scan, Cond.instanceMethod yX8_scan, Cond.selects RX8 yX8_scan yX8_scan, Cond.code yX8_scan cX8_scan 4 (some .int)]
def wsL_law : List Cond := (wsL_law_r1 ++ (wsL_law_r2 ++ (wsL_law_r3 ++ (wsL_law_r4 ++ (wsL_law_r5 ++ (wsL_law_r6 ++ (wsL_law_r7 ++ (wsL_law_r8 ++ (wsL_law_r9 ++ (wsL_law_r10 ++ (wsL_law_r11 ++ (wsL_law_r12 ++ (wsL_law_r13 ++ (wsL_law_r14 ++ (wsL_law_r15 ++ (wsL_law_r16 ++ (wsL_law_r17 ++ (wsL_law_r18 ++ (wsL_law_r19 ++ (wsL_law_r20 ++ (wsL_law_r21 ++ (wsL_law_r22 ++ (wsL_law_r23 ++ (wsL_law_r24 ++ (wsL_law_r25 ++ (wsL_law_r26 ++ wsL_law_r27)))))))))))))))))))))))))) ++ wsX70 ++ wsX80 ++ wsX60 ++ wsX50 ++ wsX40 ++ wsX10 ++ wsX30 ++ wsX00 ++ wsX20 ++ ([] : List Cond)
theorem inlX0 : ∀ w ∈ wsX00, w ∈ wsL_law := fun _ h => List.mem_append_left _ (List.mem_append_left _ (List.mem_append_right _ h))
theorem inlX1 : ∀ w ∈ wsX10, w ∈ wsL_law := fun _ h => List.mem_append_left _ (List.mem_append_left _ (List.mem_append_left _ (List.mem_append_left _ (List.mem_append_right _ h))))
theorem inlX2 : ∀ w ∈ wsX20, w ∈ wsL_law := fun _ h => List.mem_append_left _ (List.mem_append_right _ h)
theorem inlX3 : ∀ w ∈ wsX30, w ∈ wsL_law := fun _ h => List.mem_append_left _ (List.mem_append_left _ (List.mem_append_left _ (List.mem_append_right _ h)))
theorem inlX4 : ∀ w ∈ wsX40, w ∈ wsL_law := fun _ h => List.mem_append_left _ (List.mem_append_left _ (List.mem_append_left _ (List.mem_append_left _ (List.mem_append_left _ (List.mem_append_right _ h)))))
theorem inlX5 : ∀ w ∈ wsX50, w ∈ wsL_law := fun _ h => List.mem_append_left _ (List.mem_append_left _ (List.mem_append_left _ (List.mem_append_left _ (List.mem_append_left _ (List.mem_append_left _ (List.mem_append_right _ h))))))
theorem inlX6 : ∀ w ∈ wsX60, w ∈ wsL_law := fun _ h => List.mem_append_left _ (List.mem_append_left _ (List.mem_append_left _ (List.mem_append_left _ (List.mem_append_left _ (List.mem_append_left _ (List.mem_append_left _ (List.mem_append_right _ h)))))))
theorem inlX7 : ∀ w ∈ wsX70, w ∈ wsL_law := fun _ h => List.mem_append_left _ (List.mem_append_left _ (List.mem_append_left _ (List.mem_append_left _ (List.mem_append_left _ (List.mem_append_left _ (List.mem_append_left _ (List.mem_append_left _ (List.mem_append_left _ (List.mem_append_right _ h)))))))))
theorem inlX8 : ∀ w ∈ wsX80, w ∈ wsL_law := fun _ h => List.mem_append_left _ (List.mem_append_left _ (List.mem_append_left _ (List.mem_append_left _ (List.mem_append_left _ (List.mem_append_left _ (List.mem_append_left _ (List.mem_append_left _ (List.mem_append_right _ h))))))))
abbrev vwCl : List vw_C := [(RX0, TX0, 3), (RX1, TX1, 4), (RX2, TX2, 4), (RX3, TX3, 10), (RX4, TX4, 11), (RX5, TX5, 3), (RX6, TX6, 4), (RX7, TX7, 16), (RX8, TX8, 40)]
end
section
/-! THE BASE: one word list for all methods, one context, one heap word, one form of contract; calls by permuting worlds -/
abbrev wd (y : MethodName) (cc : ByteArray) (n : Nat) (r : Option FieldType) : List Cond := Cond.code y cc n r :: wsL_law
set_option maxRecDepth 100000 in
theorem gG : ∀ w ∈ wsL_law, goodWord w = true := List.all_eq_true.mp (by decide +kernel)
theorem gIn {y : MethodName} {cc : ByteArray} {n : Nat} {r : Option FieldType} (h : Cond.code y cc n r ∈ wsL_law) : GoodIn wsL_law (wd y cc n r) := fun w hw =>
  (List.mem_cons.mp hw).elim (fun e => e ▸ ⟨h, good_of_word (gG _ h)⟩) (fun h => ⟨h, good_of_word (gG _ h)⟩)
abbrev tysG (g : Nat → ClassId) : List (ClassId × FieldType) := [(g 0, .int), (g 1, .char), (g 2, .boolean), (g 3, .long), (g 4, .array .int), (g 5, .object "TraceQuestions$Kept")]
abbrev Cx (p : Program) (m : MethodId) (c : Code) (cc : ByteArray) (nL : Nat) (s : State) (args : Array Value) (own : String) : Prop := CallFix p m c cc nL s args wsL_law own
/-- what the tables say of members of nest mates and of arrays of references: kept by every step -/
def nstW : List (String × Nat × MethodName × String) := [("TraceQuestions", 9, yX6_init, "TraceQuestions"), ("TraceQuestions", 18, yX5_init, "TraceQuestions"), ("TraceQuestions", 25, yX4_init, "TraceQuestions"), ("TraceQuestions", 32, yX1_init, "TraceQuestions"), ("TraceQuestions", 58, yX3_init, "TraceQuestions"), ("TraceQuestions", 69, yX0_init, "TraceQuestions"), ("TraceQuestions$Reader", 11, yX3_init, "TraceQuestions")]
abbrev va_AOA (ty : FieldType) (U : State) : Prop := (Cond.arrayOver (.array ty)).before #[] U = true
theorem va_AOA.use {ty : FieldType} {A : Array Value} {U : State} (h : va_AOA ty U) : (Cond.arrayOver (.array ty)).before A U = true := h
theorem va_AOA.parts {ty : FieldType} {u : State} (h : va_AOA ty u) : ∃ (comp c : ClassId) (k : Class), u.vm.findClass (FieldType.array ty).toString = some comp ∧ (u.vm.classes.findIdx? fun (x : Class) => match x.kind with | .array component _ => component == comp | _ => false) = some c ∧ u.vm.classes[c]? = some k ∧ k.kind = .array comp (.array ty) ∧ u.vm.findClass ("[" ++ (FieldType.array ty).toString) = some c := by
  unfold va_AOA Cond.before at h
  simp only [Cond.holds, Cond.value, beq_iff_eq] at h
  cases hc : u.vm.findClass (FieldType.array ty).toString with
  | none => simp [hc] at h
  | some comp =>
    simp only [hc, Option.bind_some, Option.bind_eq_some_iff, Option.map_eq_some_iff] at h
    obtain ⟨c, hi, k, hk, hb⟩ := h
    obtain ⟨hlt, hp, -⟩ := Array.findIdx?_eq_some_iff_getElem.mp hi
    have hkk : u.vm.classes[c] = k := (Array.getElem?_eq_some_iff.mp hk).2
    rw [hkk] at hp
    cases hkind : k.kind with
    | array component t =>
      rw [hkind] at hb hp
      simp at hb hp
      exact ⟨comp, c, k, rfl, hi, hk, by rw [hkind, hp, hb.1], hb.2⟩
    | _ => rw [hkind] at hb; simp at hb
theorem va_AOA.moved {ty : FieldType} {u U : State} (hvm : u.vm.Alike U.vm) (h : va_AOA ty u) : va_AOA ty U := by
  obtain ⟨comp, c, k, h1, h2, h3, h4, h5⟩ := h.parts
  obtain ⟨k', hk', he⟩ := hvm.2.2 _ _ h3
  have hi : (U.vm.classes.findIdx? fun (x : Class) => match x.kind with | .array component _ => component == comp | _ => false) = some c := by
    refine (va_idx_bare U.vm comp).symm.trans ?_
    first | rw [hvm.bare_eq] | rw [← hvm.bare_eq]
    refine (va_idx_bare u.vm comp).trans ?_
    exact h2
  have hkind : k'.kind = .array comp (.array ty) := by rw [he]; exact h4
  have f1 : U.vm.findClass (FieldType.array ty).toString = some comp := by rw [hvm.findClass]; exact h1
  have f2 : U.vm.findClass ("[" ++ (FieldType.array ty).toString) = some c := by rw [hvm.findClass]; exact h5
  unfold va_AOA Cond.before Cond.holds
  simp only [Cond.value]
  rw [f1, Option.bind_some]
  refine (congrArg (fun o : Option Nat => (o.bind (fun c => (U.vm.classes[c]?).map fun (k : Class) => match k.kind with | .array _ t => decide (t = FieldType.array ty) && decide (U.vm.findClass ("[" ++ (FieldType.array ty).toString) = some c) | _ => false) == some true)) hi).trans ?_
  simp [hk', hkind, f2]
def Nst (U : State) : Prop := (∀ q ∈ nstW, va_Nw (.methodLinkNest q.1 q.2.1 q.2.2.1 q.2.2.2) U) ∧ va_AO "TraceQuestions$Kept" U ∧ va_AOA .int U
theorem Nst.warm {s U : State} (hW : s.WarmedH U.vm) (h : Nst s) : Nst U := ⟨fun q hq => va_Nw.warmM hW (h.1 q hq), h.2.1.moved hW.alike, h.2.2.moved hW.alike⟩
theorem Nst.same {s U : State} (hW : s.vm = U.vm) (h : Nst s) : Nst U := ⟨fun q hq => va_Nw.same rfl hW (h.1 q hq), h.2.1.moved (hW ▸ Vm.Alike.refl s.vm), h.2.2.moved (hW ▸ Vm.Alike.refl s.vm)⟩
def Kx (D : va_G) (g : Nat → ClassId) (U : State) : Prop := va_K D vwCl (tysG g) U ∧ Nst U
def Hx (D : va_G) (g : Nat → ClassId) (s : State) (A : Nat → Prop) (H0 : Heap) (ws : va_W) (H : Heap) (locs : List Loc) : Prop :=
  Kx D g s ∧ va_P D vwCl ws H ∧ va_D A ws ∧ va_S A H0 H locs ∧ ∀ q : Nat, H0.size ≤ q → A q
/-! worlds as sets of cells: membership and permutation -/
theorem vP_iff {D : va_G} {cl : List vw_C} {ws : va_W} {H : Heap} : va_P D cl ws H ↔ ∀ q ∈ ws, va_at D cl q H := by
  constructor
  · intro h q hq
    obtain ⟨k, hk⟩ := List.getElem?_of_mem hq
    exact h k q hk
  · intro h k q hk
    exact h q (List.mem_of_getElem? hk)
theorem vD_iff {A : Nat → Prop} {ws : va_W} : va_D A ws ↔ (ws.map Prod.fst).Nodup ∧ ∀ q ∈ ws, A q.1 := by
  constructor
  · intro h
    refine ⟨List.pairwise_iff_getElem.mpr fun i j hi hj hij e => ?_, fun q hq => ?_⟩
    · rw [List.length_map] at hi hj
      have e2 : (ws[i]).1 = (ws[j]).1 := by simpa using e
      have := h.1 i j _ _ (List.getElem?_eq_getElem hi) (List.getElem?_eq_getElem hj) e2
      omega
    · obtain ⟨k, hk⟩ := List.getElem?_of_mem hq
      exact h.2 k q hk
  · rintro ⟨h1, h2⟩
    refine ⟨fun i j x y hx hy hxy => ?_, fun k q hk => h2 q (List.mem_of_getElem? hk)⟩
    obtain ⟨hi, rfl⟩ := List.getElem?_eq_some_iff.mp hx
    obtain ⟨hj, rfl⟩ := List.getElem?_eq_some_iff.mp hy
    have hp := List.pairwise_iff_getElem.mp h1
    rcases Nat.lt_trichotomy i j with h | h | h
    · exact absurd (by rw [List.getElem_map, List.getElem_map]; exact hxy) (hp i j (by simpa using hi) (by simpa using hj) h)
    · exact h
    · exact absurd (by rw [List.getElem_map, List.getElem_map]; exact hxy.symm) (hp j i (by simpa using hj) (by simpa using hi) h)
theorem vP_perm {D : va_G} {cl : List vw_C} {ws ws' : va_W} {H : Heap} (hp : ws.Perm ws') (h : va_P D cl ws H) : va_P D cl ws' H :=
  vP_iff.mpr fun q hq => vP_iff.mp h q (hp.mem_iff.mpr hq)
theorem vD_perm {A : Nat → Prop} {ws ws' : va_W} (hp : ws.Perm ws') (h : va_D A ws) : va_D A ws' := by
  rw [vD_iff] at h ⊢
  exact ⟨(hp.map Prod.fst).nodup_iff.mp h.1, fun q hq => h.2 q (hp.mem_iff.mpr hq)⟩
theorem Hx.perm {D : va_G} {g : Nat → ClassId} {s : State} {A : Nat → Prop} {H0 H : Heap} {ws ws' : va_W} {locs : List Loc} (h : Hx D g s A H0 ws H locs) (hp : ws.Perm ws') : Hx D g s A H0 ws' H locs :=
  ⟨h.1, vP_perm hp h.2.1, vD_perm hp h.2.2.1, h.2.2.2⟩
theorem Hx.K {D : va_G} {g : Nat → ClassId} {s : State} {A : Nat → Prop} {H0 H : Heap} {ws : va_W} {locs : List Loc} (h : Hx D g s A H0 ws H locs) : va_K D vwCl (tysG g) s := h.1.1
theorem Hx.P {D : va_G} {g : Nat → ClassId} {s : State} {A : Nat → Prop} {H0 H : Heap} {ws : va_W} {locs : List Loc} (h : Hx D g s A H0 ws H locs) : va_P D vwCl ws H := h.2.1
theorem Hx.Dd {D : va_G} {g : Nat → ClassId} {s : State} {A : Nat → Prop} {H0 H : Heap} {ws : va_W} {locs : List Loc} (h : Hx D g s A H0 ws H locs) : va_D A ws := h.2.2.1
theorem Hx.S {D : va_G} {g : Nat → ClassId} {s : State} {A : Nat → Prop} {H0 H : Heap} {ws : va_W} {locs : List Loc} (h : Hx D g s A H0 ws H locs) : va_S A H0 H locs := h.2.2.2.1
theorem Hx.A {D : va_G} {g : Nat → ClassId} {s : State} {A : Nat → Prop} {H0 H : Heap} {ws : va_W} {locs : List Loc} (h : Hx D g s A H0 ws H locs) : ∀ q : Nat, H0.size ≤ q → A q := h.2.2.2.2
/-- equal counts of each cell: a permutation -/
theorem pm_g {α : Type} {l l' : List α} (h : ∀ p : α → Bool, l.countP p = l'.countP p) : l.Perm l' := by
  haveI : DecidableEq α := fun a b => Classical.propDecidable (a = b)
  rw [List.perm_iff_count]
  intro a
  exact h (fun x => x == a)
theorem pm {ws ws' : va_W} (h : ∀ p : Nat × va_E → Bool, ws.countP p = ws'.countP p) : ws.Perm ws' := pm_g h
theorem cp_c {p : Nat × va_E → Bool} (a : Nat × va_E) (l : va_W) : (a :: l).countP p = [a].countP p + l.countP p := by
  rw [show a :: l = [a] ++ l from rfl, List.countP_append]
theorem cp_1 {p : Nat × va_E → Bool} (a : Nat × va_E) (b : Nat × va_E) (l : va_W) : (a :: b :: l).countP p = [a].countP p + (b :: l).countP p := cp_c a (b :: l)
/-! a method's end, its contract -/
def QV {S : Type} (rv : S → Option Value) (post : S → Prop) (B : S → State → Prop) (A : Nat → Prop) : Array Value → State → Outcome → State → Prop := fun _ st oc t => (∃ u : S, oc = .returned (rv u) ∧ post u ∧ B u t) ∧ va_F A st t
def Pw (D : va_G) (g : Nat → ClassId) (args : List Value) (wc : va_W) (sz : Nat) : Array Value → State → Prop := va_Pc args (fun U => U.heap.size = sz ∧ va_P D vwCl wc U.heap ∧ Kx D g U ∧ va_D (fun _ => True) wc)
theorem Pw_blind {D : va_G} {g : Nat → ClassId} {args : List Value} {wc : va_W} {sz : Nat} : FrameBlind (Pw D g args wc sz) := fun a U fr mk q => by
  obtain ⟨q0, q1, qP, qK, qD⟩ := q
  exact ⟨q0, q1, qP, ⟨va_K.moved (u := U) (U := U.calling fr mk a) (Vm.Alike.refl U.vm) qK.1, Nst.same rfl qK.2⟩, qD⟩
def Bw {S : Type} (D : va_G) (g : Nat → ClassId) (A : Nat → Prop) (w1 : S → va_W) : S → State → Prop := fun u t => va_P D vwCl (w1 u) t.heap ∧ va_D A (w1 u)
/-- THE CONTRACT of a method: from the world wc and these arguments it returns rv u, for some u of which post holds, the world being w1 u -/
def Ct {S : Type} (l : Launch) (D : va_G) (g : Nat → ClassId) (y : MethodName) (cc : ByteArray) (n : Nat) (r : Option FieldType) (rm : Room) (args : List Value) (wc : va_W) (rv : S → Option Value) (post : S → Prop) (w1 : S → va_W) : Prop :=
  ∀ sz, Met l y (wd y cc n r) rm (Pw D g args wc sz) (QV rv post (Bw D g (va_A wc sz) w1) (va_A wc sz)) rm.cells rm.slots (va_A wc sz)
set_option maxHeartbeats 4000000 in
theorem Ct.of {S : Type} {l : Launch} {D : va_G} {g : Nat → ClassId} {y : MethodName} {cc : ByteArray} {n : Nat} {r : Option FieldType} {rm : Room} {args : List Value} {wc : va_W} {rv : S → Option Value} {post : S → Prop} {w1 : S → va_W}
    (own : String) (hown : y.cls = own) (hy : plainName y.cls = true) (lv : List (Nat × Value)) (hlv : lv_args 0 args = lv) (hn : (lg_sl args).length ≤ n)
    (body : ∀ (p : Program) (e : Env) (s : State) (m : MethodId) (below : List Frame) (meth : Method) (c : Code) (A : Nat → Prop) (ls : Array Slot),
      Cx p m c cc n s args.toArray own → meth.sig.returnType = r → meth.locks = false → meth.name = y.name → Hx D g s A s.heap wc s.heap [] → lv_has ls n lv →
      W p l e rm s m args.toArray below meth c s.heap [] 0 0 (MQ below (QV rv post (Bw D g A w1) A) args.toArray s rm.cells rm.slots A) (F0 m 0 ls [])) : Ct l D g y cc n r rm args wc rv post w1 := by
  intro sz
  refine Met.ofW (cc := cc) (maxL := n) (ret := r) hy rfl ?_
  intro p e s m a below meth c s₁ B hml hv
  obtain ⟨rfl, hsz, hP, hK, hD0⟩ := hv
  have hts := atoms_spec (ws := wd y cc n r) B.pre
  have hown2 : s.vm.findClass own = some m.cls := hown ▸ findClass_of_methodNamed B.named
  have hl := lv_entry args (n := n) hn
  rw [hlv] at hl
  rw [lg_entry_eq]
  subst hsz
  have hD := hD0.self (sz := s.heap.size)
  exact body p e s m below meth c _ _ ⟨B.exec, B.bytes, hml, hown2, fun w hw => hts w (List.mem_cons_of_mem _ hw)⟩ B.returns B.notSynchronized (name_of_methodNamed B.named B.method).1 ⟨hK, hP, hD, va_S.rf, fun q h => Or.inr h⟩ hl
section BASE
variable {p : Program} {l : Launch} {e : Env} {R : Room} {s : State} {m : MethodId} {args : Array Value} {below : List Frame} {meth : Method} {c : Code} {H H0 : Heap} {locs : List Loc} {cells slots : Nat} {Q : State → Prop}
variable {cc : ByteArray} {pc : Nat} {ls : Array Slot} {rest : List Value} {D : va_G} {g : Nat → ClassId} {A : Nat → Prop} {ws ws' : va_W} {nL : Nat} {own : String}
/-! returns -/
theorem r_done {S : Type} {rv : S → Option Value} {post : S → Prop} {w1 : S → va_W} {mc ms : Nat} (h : Hx D g s A s.heap ws H locs) (u : S) {v : Option Value} (hv : v = rv u) (hp : post u) (hw : ws.Perm (w1 u)) (t : State) (ht : t.heap = H) (hW : s.WarmedH t.vm) : QV rv post (Bw D g A w1) A args s (.returned v) t := by
  subst hv
  exact ⟨⟨u, rfl, hp, by rw [ht]; exact vP_perm hw h.2.1, vD_perm hw h.2.2.1⟩, h.2.2.2.1.F ht⟩
theorem r_iret {S : Type} {rv : S → Option Value} {post : S → Prop} {w1 : S → va_W} {mc ms : Nat} (C : Cx p m c cc nL s args own) (hr : meth.sig.returnType = some .int) (hlk : meth.locks = false) (h : Hx D g s A s.heap ws H locs) (hdg : decode cc pc = .ok (.ireturn, 1)) {v : Int32}
    (u : S) (hv : some (.int v) = rv u) (hw : ws.Perm (w1 u)) (hp : post u) (h1 : cells ≤ mc) (h2 : slots ≤ ms) : W p l e R s m args below meth c H locs cells slots (MQ below (QV rv post (Bw D g A w1) A) args s mc ms A) (F0 m pc ls [.int v]) :=
  W.widen h1 h2 (W.iret C.1 C.2.1 hr (fun t ht hW => r_done (mc := 0) (ms := 0) h u hv hp hw t ht hW) h.S.2.2 hdg hlk)
theorem r_lret {S : Type} {rv : S → Option Value} {post : S → Prop} {w1 : S → va_W} {mc ms : Nat} (C : Cx p m c cc nL s args own) (hr : meth.sig.returnType = some .long) (hlk : meth.locks = false) (h : Hx D g s A s.heap ws H locs) (hdg : decode cc pc = .ok (.lreturn, 1)) {v : Int64}
    (u : S) (hv : some (.long v) = rv u) (hw : ws.Perm (w1 u)) (hp : post u) (h1 : cells ≤ mc) (h2 : slots ≤ ms) : W p l e R s m args below meth c H locs cells slots (MQ below (QV rv post (Bw D g A w1) A) args s mc ms A) (F0 m pc ls [.long v]) :=
  W.widen h1 h2 (W.lret C.1 C.2.1 hr (fun t ht hW => r_done (mc := 0) (ms := 0) h u hv hp hw t ht hW) h.S.2.2 hdg hlk)
theorem r_vret {S : Type} {rv : S → Option Value} {post : S → Prop} {w1 : S → va_W} {mc ms : Nat} (C : Cx p m c cc nL s args own) (hr : meth.sig.returnType = none) (hlk : meth.locks = false) (h : Hx D g s A s.heap ws H locs) (hdg : decode cc pc = .ok (.return_, 1))
    (u : S) (hv : none = rv u) (hw : ws.Perm (w1 u)) (hp : post u) (h1 : cells ≤ mc) (h2 : slots ≤ ms) : W p l e R s m args below meth c H locs cells slots (MQ below (QV rv post (Bw D g A w1) A) args s mc ms A) (F0 m pc ls []) :=
  W.widen h1 h2 (W.vret C.1 C.2.1 hr (fun t ht hW => r_done (mc := 0) (ms := 0) h u hv hp hw t ht hW) h.S.2.2 hdg hlk)
theorem r_aret {S : Type} {rv : S → Option Value} {post : S → Prop} {w1 : S → va_W} {mc ms : Nat} {C0 : String} (C : Cx p m c cc nL s args own) (hr : meth.sig.returnType = some (.object C0)) (hlk : meth.locks = false) (h : Hx D g s A s.heap ws H locs) (hdg : decode cc pc = .ok (.areturn, 1)) {v : Nat}
    (u : S) (hv : some (.ref v) = rv u) (hw : ws.Perm (w1 u)) (hp : post u) (h1 : cells ≤ mc) (h2 : slots ≤ ms) : W p l e R s m args below meth c H locs cells slots (MQ below (QV rv post (Bw D g A w1) A) args s mc ms A) (F0 m pc ls [.ref v]) :=
  W.widen h1 h2 (W.aret C.1 C.2.1 hr (Or.inl ⟨_, rfl⟩) (Or.inr ⟨_, rfl⟩) (fun t ht hW => r_done (mc := 0) (ms := 0) h u hv hp hw t ht hW) h.S.2.2 hdg hlk)
/-- a boolean as the machine has it -/
def bI (b : Bool) : Int32 := if b then 1 else 0
theorem bI_t : bI true = 1 := rfl
theorem bI_f : bI false = 0 := rfl
theorem bI_nar (b : Bool) : narrow .boolean (.int (bI b)) = .int (bI b) := by cases b <;> rfl
theorem bI_0 {b : Bool} : bI b = 0 ↔ b = false := by cases b <;> decide
theorem bI_inj {a b : Bool} : bI a = bI b ↔ a = b := by cases a <;> cases b <;> decide
theorem bI_1 : (1 : Int32) = bI true := rfl
theorem bI_00 : (0 : Int32) = bI false := rfl
theorem r_zret {S : Type} {rv : S → Option Value} {post : S → Prop} {w1 : S → va_W} {mc ms : Nat} (C : Cx p m c cc nL s args own) (hr : meth.sig.returnType = some .boolean) (hlk : meth.locks = false) (h : Hx D g s A s.heap ws H locs) (hdg : decode cc pc = .ok (.ireturn, 1)) {v : Int32} (b : Bool) (hb : v = bI b)
    (u : S) (hv : some (.int v) = rv u) (hw : ws.Perm (w1 u)) (hp : post u) (h1 : cells ≤ mc) (h2 : slots ≤ ms) : W p l e R s m args below meth c H locs cells slots (MQ below (QV rv post (Bw D g A w1) A) args s mc ms A) (F0 m pc ls [.int v]) :=
  W.widen h1 h2 (W.zret C.1 C.2.1 hr (by rw [hb]; exact bI_nar b) (fun t ht hW => r_done (mc := 0) (ms := 0) h u hv hp hw t ht hW) h.S.2.2 hdg hlk)
/-! calls -/
theorem r_call {S : Type} {rv : S → Option Value} {post : S → Prop} {w1 ws2 : S → va_W} {wc wr : va_W} {mc ms : Nat} {a : Array Value} {st0 : List Value} (k n : Nat)
    (hr : va_Run p l e R s m args below meth c H locs cells slots mc ms (F0 m pc ls st0) rest (QV rv post (Bw D g (va_A wc H.size) w1) (va_A wc H.size) a) (va_A wc H.size))
    (h : Hx D g s A H0 ws H locs) (hp : ws.Perm (wc ++ wr)) (hq : ∀ u, (w1 u ++ wr).Perm (ws2 u)) (hk : cells + mc ≤ k) (hn : slots + ms ≤ n)
    (kk : ∀ (u : S) (H1 : Heap) (locs1 : List Loc), post u → H.size ≤ H1.size → Hx D g s A H0 (ws2 u) H1 locs1 → W p l e R s m args below meth c H1 locs1 k n Q (F0 m (pc + 3) ls ((rv u).toList ++ rest))) : W p l e R s m args below meth c H locs cells slots Q (F0 m pc ls st0) := by
  obtain ⟨hK, hP, hD, hS, hA⟩ := h
  have hP2 := vP_perm hp hP
  have hD2 := vD_perm hp hD
  have hDi := vD_iff.mp hD2
  rw [List.map_append, List.nodup_append] at hDi
  have hF : ∀ q, va_A wc H.size q → A q := by
    rintro q (⟨k1, e1, h1⟩ | h1)
    · exact hDi.2 (q, e1) (List.mem_append_left _ (List.mem_of_getElem? h1))
    · exact hA q (Nat.le_trans hS.1 h1)
  have hap : ∀ q ∈ wr, q.1 < H.size ∧ ¬ va_A wc H.size q.1 := by
    intro q hq1
    have hlt : q.1 < H.size := (vP_iff.mp hP2 q (List.mem_append_right _ hq1)).lt
    refine ⟨hlt, ?_⟩
    rintro (⟨k1, e1, h1⟩ | h1)
    · exact hDi.1.2.2 q.1 (List.mem_map.mpr ⟨(q.1, e1), List.mem_of_getElem? h1, rfl⟩) q.1 (List.mem_map.mpr ⟨q, hq1, rfl⟩) rfl
    · omega
  intro T hT X
  obtain ⟨v, st₀, t, T', L, h0, X', hL, e1, e2, ⟨⟨u, hv, hpo, hbP, hbD⟩, hz, hkk⟩, st⟩ := hr T hT X
  cases hv
  rw [h0] at hz hkk
  have hal : s.vm.Alike t.vm := by rw [← e2]; exact X'.warmed.alike
  have hbDi := vD_iff.mp hbD
  have hP3 : va_P D vwCl (w1 u ++ wr) T'.heap := by
    rw [e1]
    refine va_P.app hbP (vP_iff.mpr fun q hq1 => ?_)
    exact (vP_iff.mp hP2 q (List.mem_append_right _ hq1)).kept (hkk q.1 (hap q hq1).1 (hap q hq1).2)
  have hD3 : va_D A (w1 u ++ wr) := by
    refine vD_iff.mpr ⟨?_, fun q hq1 => ?_⟩
    · rw [List.map_append, List.nodup_append]
      refine ⟨hbDi.1, hDi.1.2.1, fun x hx y hy hxy => ?_⟩
      obtain ⟨q1, hq1, rfl⟩ := List.mem_map.mp hx
      obtain ⟨q2, hq2, rfl⟩ := List.mem_map.mp hy
      exact (hap q2 hq2).2 (by rw [← hxy]; exact hbDi.2 q1 hq1)
    · rcases List.mem_append.mp hq1 with h1 | h1
      · exact hF _ (hbDi.2 q h1)
      · exact hDi.2 q (List.mem_append_right _ h1)
  have hS3 : va_S A H0 T'.heap (locs ++ L) := ⟨Nat.le_trans hS.1 (by rw [e1]; exact hz), fun q h1 h2 => by
      rw [e1, hkk q (Nat.lt_of_lt_of_le h1 hS.1) (fun z => h2 (hF q z))]; exact hS.2.1 q h1 h2, fun q hq => by
      rcases List.mem_append.mp hq with h | h
      · exact hS.2.2 q h
      · exact hF _ (hL q h)⟩
  obtain ⟨t2, a1, b1⟩ := W.widen hk hn (kk u T'.heap (locs ++ L) hpo (by rw [e1]; exact hz) ⟨hK, vP_perm (hq u) hP3, vD_perm (hq u) hD3, hS3, hA⟩) T' rfl X'
  exact ⟨t2, st t2 a1, b1⟩
theorem r_pre {av : List Value} {wc wr : va_W} (h : Hx D g s A H0 ws H locs) (hp : ws.Perm (wc ++ wr)) : FrameBlind (Pw D g av wc H.size) ∧ ∀ U : State, U.heap = H → s.WarmedH U.vm → Pw D g av wc H.size av.toArray U := by
  refine ⟨Pw_blind, fun U hU hW => ⟨rfl, by rw [hU], ?_, ⟨va_K.moved hW.alike h.1.1, h.1.2.warm hW⟩, ?_⟩⟩
  · rw [hU]
    exact vP_iff.mpr fun q hq => vP_iff.mp (vP_perm hp h.2.1) q (List.mem_append_left _ hq)
  · have h2 := vD_iff.mp (vD_perm hp h.2.2.1)
    refine vD_iff.mpr ⟨?_, fun _ _ => trivial⟩
    have := h2.1
    rw [List.map_append, List.nodup_append] at this
    exact this.1
/-- what a call site says of the tables: virtual -/
theorem kV {ownr Cn : String} {idx maxL n : Nat} {y : MethodName} {bytes : ByteArray} {ret : Option FieldType} {rm : Room} (C : Cx p m c cc nL s args own) (hc : Cond.code y bytes maxL ret ∈ wsL_law) (hl : Cond.methodLink ownr idx y ∈ wsL_law) (hi : Cond.instanceMethod y ∈ wsL_law) (hs : Cond.selects Cn y y ∈ wsL_law) (hini : Cond.initialized y.cls ∈ wsL_law)
    (hd : y.cls ≠ "java/lang/invoke/MethodHandle" ∧ y.cls ≠ "java/lang/invoke/VarHandle" ∧ (parseMethodDescriptor y.desc).map (fun d => d.parameters.length) = some n) (hR : rm.frames + 1 ≤ R.frames ∧ 8 + (maxL + 11) + rm.locals ≤ R.locals) : CallW R s args ownr Cn idx y bytes maxL ret (wd y bytes maxL ret) rm rm.cells rm.slots n :=
  ⟨callB_of n C.2.2.2.2 (gIn hc) rfl rfl rfl (C.2.2.2.2 _ hini) (C.2.2.2.2 _ hl) hd hR, C.2.2.2.2 _ hi, C.2.2.2.2 _ hs⟩
theorem kS {ownr : String} {idx maxL n : Nat} {y : MethodName} {bytes : ByteArray} {ret : Option FieldType} {rm : Room} (C : Cx p m c cc nL s args own) (hc : Cond.code y bytes maxL ret ∈ wsL_law) (hl : Cond.methodLink ownr idx y ∈ wsL_law) (hi : Cond.static y ∈ wsL_law) (hini : Cond.initialized y.cls ∈ wsL_law)
    (hd : y.cls ≠ "java/lang/invoke/MethodHandle" ∧ y.cls ≠ "java/lang/invoke/VarHandle" ∧ (parseMethodDescriptor y.desc).map (fun d => d.parameters.length) = some n) (hR : rm.frames + 1 ≤ R.frames ∧ 8 + (maxL + 11) + rm.locals ≤ R.locals) : CallB R s args ownr idx y bytes maxL ret (wd y bytes maxL ret) rm rm.cells rm.slots n ∧ (Cond.static y).before args s = true :=
  ⟨callB_of n C.2.2.2.2 (gIn hc) rfl rfl rfl (C.2.2.2.2 _ hini) (C.2.2.2.2 _ hl) hd hR, C.2.2.2.2 _ hi⟩
theorem kI {ownr : String} {idx maxL n : Nat} {y : MethodName} {bytes : ByteArray} {rm : Room} (C : Cx p m c cc nL s args own) (hc : Cond.code y bytes maxL none ∈ wsL_law) (hl : Cond.methodLink ownr idx y ∈ wsL_law) (hi : Cond.instanceMethod y ∈ wsL_law) (hini : Cond.initialized y.cls ∈ wsL_law) (hy1 : y.name = "<init>")
    (hd : y.cls ≠ "java/lang/invoke/MethodHandle" ∧ y.cls ≠ "java/lang/invoke/VarHandle" ∧ (parseMethodDescriptor y.desc).map (fun d => d.parameters.length) = some n) (hR : rm.frames + 1 ≤ R.frames ∧ 8 + (maxL + 11) + rm.locals ≤ R.locals) : CallB R s args ownr idx y bytes maxL none (wd y bytes maxL none) rm rm.cells rm.slots n ∧ y.name = "<init>" ∧ (Cond.instanceMethod y).before args s = true :=
  ⟨callB_of n C.2.2.2.2 (gIn hc) rfl rfl rfl (C.2.2.2.2 _ hini) (C.2.2.2.2 _ hl) hd hR, hy1, C.2.2.2.2 _ hi⟩
theorem kIN {ownr host : String} {idx maxL n : Nat} {y : MethodName} {bytes : ByteArray} {rm : Room} (C : Cx p m c cc nL s args own) (hK : Kx D g s) (hc : Cond.code y bytes maxL none ∈ wsL_law) (hl : (ownr, idx, y, host) ∈ nstW) (hi : Cond.instanceMethod y ∈ wsL_law) (hini : Cond.initialized y.cls ∈ wsL_law) (hy1 : y.name = "<init>")
    (hd : y.cls ≠ "java/lang/invoke/MethodHandle" ∧ y.cls ≠ "java/lang/invoke/VarHandle" ∧ (parseMethodDescriptor y.desc).map (fun d => d.parameters.length) = some n) (hR : rm.frames + 1 ≤ R.frames ∧ 8 + (maxL + 11) + rm.locals ≤ R.locals) : va_CN R s args ownr idx y host bytes maxL none (wd y bytes maxL none) rm rm.cells rm.slots n ∧ y.name = "<init>" ∧ (Cond.instanceMethod y).before args s = true :=
  ⟨va_cnB n C.2.2.2.2 (gIn hc) rfl rfl rfl (hK.2.1 _ hl) (C.2.2.2.2 _ hini) hd hR, hy1, C.2.2.2.2 _ hi⟩
theorem r_invV {S : Type} {rv : S → Option Value} {post : S → Prop} {w1 ws2 : S → va_W} {wc wr : va_W} {y : MethodName} {bytes : ByteArray} {maxL idx n2 ci b : Nat} {ret : Option FieldType} {rm : Room} {Cn : vw_C} {fs As st0 : List Value} (k n : Nat)
    (C : Cx p m c cc nL s args own) (h : Hx D g s A H0 ws H locs) (hl : ls.size = nL) (ct : Ct l D g y bytes maxL ret rm (.ref b :: As) wc rv post w1) (cw : CallW R s args own Cn.1 idx y bytes maxL ret (wd y bytes maxL ret) rm rm.cells rm.slots n2)
    (q0 : Nat) (hb : ws[q0]? = some (b, .inr (ci, fs))) (hci : vwCl[ci]? = some Cn) (hn2 : As.length = n2) (hst : st0 = As.reverse ++ .ref b :: rest) (hro : (rest.map fun v => v.category).sum ≤ 8) (hp : ws.Perm (wc ++ wr)) (hq : ∀ u, (w1 u ++ wr).Perm (ws2 u))
    (hf : cells + rm.cells ≤ R.cells ∧ slots + rm.slots ≤ R.slots) (hk : cells + rm.cells ≤ k) (hn : slots + rm.slots ≤ n) (hdg : decode cc pc = .ok (.invokevirtual idx, 3))
    (kk : ∀ (u : S) (H1 : Heap) (locs1 : List Loc), post u → H.size ≤ H1.size → Hx D g s A H0 (ws2 u) H1 locs1 → W p l e R s m args below meth c H1 locs1 k n Q (F0 m (pc + 3) ls ((rv u).toList ++ rest))) : W p l e R s m args below meth c H locs cells slots Q (F0 m pc ls st0) :=
  r_call k n (va_runV (As := As) (rest := rest) C (ct H.size) cw ⟨(r_pre (av := .ref b :: As) h hp).1, va_recv h.1.1 h.2.1 hci hb, (r_pre (av := .ref b :: As) h hp).2⟩ rfl hn2 hl hst (lv_room hro) hdg hf) h hp hq hk hn kk
theorem r_invS {S : Type} {rv : S → Option Value} {post : S → Prop} {w1 ws2 : S → va_W} {wc wr : va_W} {y : MethodName} {bytes : ByteArray} {maxL idx n2 : Nat} {ret : Option FieldType} {rm : Room} {As st0 : List Value} (k n : Nat)
    (C : Cx p m c cc nL s args own) (h : Hx D g s A H0 ws H locs) (hl : ls.size = nL) (ct : Ct l D g y bytes maxL ret rm As wc rv post w1) (cw : CallB R s args own idx y bytes maxL ret (wd y bytes maxL ret) rm rm.cells rm.slots n2 ∧ (Cond.static y).before args s = true)
    (hn2 : As.length = n2) (hst : st0 = As.reverse ++ rest) (hro : (rest.map fun v => v.category).sum ≤ 8) (hp : ws.Perm (wc ++ wr)) (hq : ∀ u, (w1 u ++ wr).Perm (ws2 u))
    (hf : cells + rm.cells ≤ R.cells ∧ slots + rm.slots ≤ R.slots) (hk : cells + rm.cells ≤ k) (hn : slots + rm.slots ≤ n) (hdg : decode cc pc = .ok (.invokestatic idx, 3))
    (kk : ∀ (u : S) (H1 : Heap) (locs1 : List Loc), post u → H.size ≤ H1.size → Hx D g s A H0 (ws2 u) H1 locs1 → W p l e R s m args below meth c H1 locs1 k n Q (F0 m (pc + 3) ls ((rv u).toList ++ rest))) : W p l e R s m args below meth c H locs cells slots Q (F0 m pc ls st0) :=
  r_call k n (va_runS (As := As) (rest := rest) C (ct H.size) cw (r_pre (av := As) h hp) rfl hn2 hl hst (lv_room hro) hdg hf) h hp hq hk hn kk
theorem r_invI {S : Type} {rv : S → Option Value} {post : S → Prop} {w1 ws2 : S → va_W} {wc wr : va_W} {y : MethodName} {bytes : ByteArray} {maxL idx n2 b : Nat} {rm : Room} {As st0 : List Value} (k n : Nat)
    (C : Cx p m c cc nL s args own) (h : Hx D g s A H0 ws H locs) (hl : ls.size = nL) (ct : Ct l D g y bytes maxL none rm (.ref b :: As) wc rv post w1) (cw : CallB R s args own idx y bytes maxL none (wd y bytes maxL none) rm rm.cells rm.slots n2 ∧ y.name = "<init>" ∧ (Cond.instanceMethod y).before args s = true)
    (hn2 : As.length = n2) (hst : st0 = As.reverse ++ .ref b :: rest) (hro : (rest.map fun v => v.category).sum ≤ 8) (hp : ws.Perm (wc ++ wr)) (hq : ∀ u, (w1 u ++ wr).Perm (ws2 u))
    (hf : cells + rm.cells ≤ R.cells ∧ slots + rm.slots ≤ R.slots) (hk : cells + rm.cells ≤ k) (hn : slots + rm.slots ≤ n) (hdg : decode cc pc = .ok (.invokespecial idx, 3))
    (kk : ∀ (u : S) (H1 : Heap) (locs1 : List Loc), post u → H.size ≤ H1.size → Hx D g s A H0 (ws2 u) H1 locs1 → W p l e R s m args below meth c H1 locs1 k n Q (F0 m (pc + 3) ls ((rv u).toList ++ rest))) : W p l e R s m args below meth c H locs cells slots Q (F0 m pc ls st0) :=
  r_call k n (va_runI (As := As) (rest := rest) C (ct H.size) cw (r_pre (av := .ref b :: As) h hp) rfl hn2 hl hst (lv_room hro) hdg hf) h hp hq hk hn kk
theorem r_invIN {S : Type} {rv : S → Option Value} {post : S → Prop} {w1 ws2 : S → va_W} {wc wr : va_W} {y : MethodName} {bytes : ByteArray} {maxL idx n2 b : Nat} {host : String} {rm : Room} {As st0 : List Value} (k n : Nat)
    (C : Cx p m c cc nL s args own) (h : Hx D g s A H0 ws H locs) (hl : ls.size = nL) (ct : Ct l D g y bytes maxL none rm (.ref b :: As) wc rv post w1) (cw : va_CN R s args own idx y host bytes maxL none (wd y bytes maxL none) rm rm.cells rm.slots n2 ∧ y.name = "<init>" ∧ (Cond.instanceMethod y).before args s = true)
    (hn2 : As.length = n2) (hst : st0 = As.reverse ++ .ref b :: rest) (hro : (rest.map fun v => v.category).sum ≤ 8) (hp : ws.Perm (wc ++ wr)) (hq : ∀ u, (w1 u ++ wr).Perm (ws2 u))
    (hf : cells + rm.cells ≤ R.cells ∧ slots + rm.slots ≤ R.slots) (hk : cells + rm.cells ≤ k) (hn : slots + rm.slots ≤ n) (hdg : decode cc pc = .ok (.invokespecial idx, 3))
    (kk : ∀ (u : S) (H1 : Heap) (locs1 : List Loc), post u → H.size ≤ H1.size → Hx D g s A H0 (ws2 u) H1 locs1 → W p l e R s m args below meth c H1 locs1 k n Q (F0 m (pc + 3) ls ((rv u).toList ++ rest))) : W p l e R s m args below meth c H locs cells slots Q (F0 m pc ls st0) :=
  r_call k n (va_runIN (As := As) (rest := rest) C (ct H.size) cw (r_pre (av := .ref b :: As) h hp) rfl hn2 hl hst (lv_room hro) hdg hf) h hp hq hk hn kk
end BASE
end
section
/-! ROWS over the base: ints as iI z, z an Int; longs as lI z; comparisons by Int; arrays at Nat places -/
def iI (z : Int) : Int32 := Int32.ofInt z
def lI (z : Int) : Int64 := Int64.ofInt z
abbrev R32 (z : Int) : Prop := -2147483648 ≤ z ∧ z < 2147483648
abbrev R64 (z : Int) : Prop := -9223372036854775808 ≤ z ∧ z < 9223372036854775808
theorem iI_toInt {z : Int} (h : R32 z) : (iI z).toInt = z := by
  unfold iI
  rw [Int32.toInt_ofInt]
  have e : ((Int32.size : Nat) : Int) = 4294967296 := rfl
  rw [Int.bmod_eq_of_le] <;> omega
theorem lI_toInt {z : Int} (h : R64 z) : (lI z).toInt = z := by
  unfold lI
  rw [Int64.toInt_ofInt]
  have e : ((Int64.size : Nat) : Int) = 18446744073709551616 := rfl
  rw [Int.bmod_eq_of_le] <;> omega
theorem iI_of (x : Int32) : iI x.toInt = x := Int32.ofInt_toInt x
theorem lI_of (x : Int64) : lI x.toInt = x := Int64.ofInt_toInt x
theorem R32_of (x : Int32) : R32 x.toInt := ⟨x.minValue_le_toInt, by have := x.toInt_lt; omega⟩
theorem iI_ex (x : Int32) : ∃ z : Int, x = iI z ∧ R32 z := ⟨x.toInt, (iI_of x).symm, R32_of x⟩
theorem R64_of (x : Int64) : R64 x.toInt := ⟨x.minValue_le_toInt, by have := x.toInt_lt; omega⟩
theorem lI_ex (x : Int64) : ∃ z : Int, x = lI z ∧ R64 z := ⟨x.toInt, (lI_of x).symm, R64_of x⟩
theorem iI_add (a b : Int) : iI a + iI b = iI (a + b) := (Int32.ofInt_add a b).symm
theorem iI_sub (a b : Int) : iI a - iI b = iI (a - b) := (Int32.ofInt_sub a b).symm
theorem iI_mul (a b : Int) : iI a * iI b = iI (a * b) := (Int32.ofInt_mul a b).symm
theorem lI_add (a b : Int) : lI a + lI b = lI (a + b) := (Int64.ofInt_add a b).symm
theorem lI_sub (a b : Int) : lI a - lI b = lI (a - b) := (Int64.ofInt_sub a b).symm
theorem lI_mul (a b : Int) : lI a * lI b = lI (a * b) := (Int64.ofInt_mul a b).symm
theorem iI_le {a b : Int} (ha : R32 a) (hb : R32 b) : iI a ≤ iI b ↔ a ≤ b := by rw [Int32.le_iff_toInt_le, iI_toInt ha, iI_toInt hb]
theorem iI_lt {a b : Int} (ha : R32 a) (hb : R32 b) : iI a < iI b ↔ a < b := by rw [Int32.lt_iff_toInt_lt, iI_toInt ha, iI_toInt hb]
theorem iI_eq {a b : Int} (ha : R32 a) (hb : R32 b) : iI a = iI b ↔ a = b := ⟨fun h => by rw [← iI_toInt ha, h, iI_toInt hb], fun h => by rw [h]⟩
theorem lI_le {a b : Int} (ha : R64 a) (hb : R64 b) : lI a ≤ lI b ↔ a ≤ b := by rw [Int64.le_iff_toInt_le, lI_toInt ha, lI_toInt hb]
theorem lI_lt {a b : Int} (ha : R64 a) (hb : R64 b) : lI a < lI b ↔ a < b := by rw [Int64.lt_iff_toInt_lt, lI_toInt ha, lI_toInt hb]
theorem lI_eq {a b : Int} (ha : R64 a) (hb : R64 b) : lI a = lI b ↔ a = b := ⟨fun h => by rw [← lI_toInt ha, h, lI_toInt hb], fun h => by rw [h]⟩
theorem iI_l {z : Int} (h : R32 z) : (iI z).toInt64 = lI z := by
  rw [← lI_of (iI z).toInt64, Int32.toInt_toInt64, iI_toInt h]
theorem lI_i (z : Int) : (lI z).toInt32 = iI z := by
  unfold lI iI
  rw [Int64.toInt32_ofInt]
theorem iI_0 : iI 0 = 0 := rfl
theorem iI_1 : iI 1 = 1 := rfl
theorem iI_m1 : iI (-1) = -1 := rfl
theorem iI_b0 : iI 0 = bI false := rfl
theorem iI_b1 : iI 1 = bI true := rfl
theorem lI_0 : lI 0 = 0 := rfl
theorem lI_1 : lI 1 = 1 := rfl
theorem iI_in {z : Int} {k n : Nat} (hz : z = k) (hk : k < n) (hn : n < 2147483648) : vp_in (iI z) n ∧ (iI z).toNatClampNeg = k := by
  have hR : R32 z := by constructor <;> omega
  have h1 : (iI z).toInt = (k : Int) := by rw [iI_toInt hR, hz]
  have h2 : (iI z).toNatClampNeg = k := by
    show (iI z).toInt.toNat = k
    rw [h1]
    rfl
  refine ⟨fun h => ?_, h2⟩
  rcases h with h | h
  · rw [Int32.lt_iff_toInt_lt, h1, Int32.toInt_zero] at h
    omega
  · omega
/-- an array's content, one place changed -/
def up {α : Type} (f : Nat → α) (k : Nat) (x : α) : Nat → α := fun j => if j = k then x else f j
theorem up_s {α : Type} {f : Nat → α} {k : Nat} {x : α} : up f k x k = x := if_pos rfl
theorem up_n {α : Type} {f : Nat → α} {k j : Nat} {x : α} (h : j ≠ k) : up f k x j = f j := if_neg h
/-- the outer array of a grid -/
def gO (n : Nat) (r : Nat → Nat) : Nat → Option Nat := fun i => if i < n then some (r i) else none
/-- the rows of a grid -/
def sG (c : ClassId) (r : Nat → Nat) (n len : Nat) (F : Nat → Nat → Int32) : va_W := (List.range n).map (fun i => (r i, .inl (c, len, .inl (F i))))
/-- all but one -/
def sGx (c : ClassId) (r : Nat → Nat) (n len : Nat) (F : Nat → Nat → Int32) (i : Nat) : va_W := ((List.range n).erase i).map (fun i => (r i, .inl (c, len, .inl (F i))))
theorem sG_split {c : ClassId} {r : Nat → Nat} {n len : Nat} {F : Nat → Nat → Int32} {i : Nat} (h : i < n) : (sG c r n len F).Perm ((r i, .inl (c, len, .inl (F i))) :: sGx c r n len F i) := by
  unfold sG sGx
  exact (List.perm_cons_erase (List.mem_range.mpr h)).map _
theorem sGx_up {c : ClassId} {r : Nat → Nat} {n len : Nat} {F : Nat → Nat → Int32} {i : Nat} {f : Nat → Int32} : sGx c r n len (up F i f) i = sGx c r n len F i := by
  unfold sGx
  apply List.map_congr_left
  intro j hj
  have : j ≠ i := fun e => by
    subst e
    exact (List.Nodup.not_mem_erase List.nodup_range) hj
  rw [up_n this]
theorem sG_put {c : ClassId} {r : Nat → Nat} {n len : Nat} {F : Nat → Nat → Int32} {i : Nat} {f : Nat → Int32} (h : i < n) : (sG c r n len (up F i f)).Perm ((r i, .inl (c, len, .inl f)) :: sGx c r n len F i) := by
  have h1 := sG_split (c := c) (r := r) (len := len) (F := up F i f) h
  rw [up_s, sGx_up] at h1
  exact h1
theorem sG_get {c : ClassId} {r : Nat → Nat} {n len : Nat} {F : Nat → Nat → Int32} {i : Nat} (h : i < n) : (r i, .inl (c, len, .inl (F i))) ∈ sG c r n len F := List.mem_map.mpr ⟨i, List.mem_range.mpr h, rfl⟩
section ROWS
variable {p : Program} {l : Launch} {e : Env} {R : Room} {s : State} {m : MethodId} {args : Array Value} {below : List Frame} {meth : Method} {c : Code} {H H0 : Heap} {locs : List Loc} {cells slots : Nat} {Q : State → Prop}
variable {cc : ByteArray} {pc : Nat} {ls : Array Slot} {rest : List Value} {D : va_G} {g : Nat → ClassId} {A : Nat → Prop} {ws : va_W} {nL : Nat} {own : String}
theorem i_add (C : Cx p m c cc nL s args own) {a b : Int} (hdg : decode cc pc = .ok (.iadd, 1)) (k : W p l e R s m args below meth c H locs cells slots Q (F0 m (pc + 1) ls (.int (iI (a + b)) :: rest))) : W p l e R s m args below meth c H locs cells slots Q (F0 m pc ls (.int (iI b) :: .int (iI a) :: rest)) :=
  lv_iadd C.1 C.2.1 hdg (by rw [iI_add]; exact k)
theorem i_sub (C : Cx p m c cc nL s args own) {a b : Int} (hdg : decode cc pc = .ok (.isub, 1)) (k : W p l e R s m args below meth c H locs cells slots Q (F0 m (pc + 1) ls (.int (iI (a - b)) :: rest))) : W p l e R s m args below meth c H locs cells slots Q (F0 m pc ls (.int (iI b) :: .int (iI a) :: rest)) :=
  lv_isub C.1 C.2.1 hdg (by rw [iI_sub]; exact k)
theorem i_mul (C : Cx p m c cc nL s args own) {a b : Int} (hdg : decode cc pc = .ok (.imul, 1)) (k : W p l e R s m args below meth c H locs cells slots Q (F0 m (pc + 1) ls (.int (iI (a * b)) :: rest))) : W p l e R s m args below meth c H locs cells slots Q (F0 m pc ls (.int (iI b) :: .int (iI a) :: rest)) :=
  lv_imul C.1 C.2.1 hdg (by rw [iI_mul]; exact k)
theorem l_add (C : Cx p m c cc nL s args own) {a b : Int} (hdg : decode cc pc = .ok (.ladd, 1)) (k : W p l e R s m args below meth c H locs cells slots Q (F0 m (pc + 1) ls (.long (lI (a + b)) :: rest))) : W p l e R s m args below meth c H locs cells slots Q (F0 m pc ls (.long (lI b) :: .long (lI a) :: rest)) :=
  lv_ladd C.1 C.2.1 hdg (by rw [lI_add]; exact k)
theorem l_sub (C : Cx p m c cc nL s args own) {a b : Int} (hdg : decode cc pc = .ok (.lsub, 1)) (k : W p l e R s m args below meth c H locs cells slots Q (F0 m (pc + 1) ls (.long (lI (a - b)) :: rest))) : W p l e R s m args below meth c H locs cells slots Q (F0 m pc ls (.long (lI b) :: .long (lI a) :: rest)) :=
  lv_lsub C.1 C.2.1 hdg (by rw [lI_sub]; exact k)
theorem l_mul (C : Cx p m c cc nL s args own) {a b : Int} (hdg : decode cc pc = .ok (.lmul, 1)) (k : W p l e R s m args below meth c H locs cells slots Q (F0 m (pc + 1) ls (.long (lI (a * b)) :: rest))) : W p l e R s m args below meth c H locs cells slots Q (F0 m pc ls (.long (lI b) :: .long (lI a) :: rest)) :=
  lv_lmul C.1 C.2.1 hdg (by rw [lI_mul]; exact k)
theorem i_i2l (C : Cx p m c cc nL s args own) {a : Int} (hdg : decode cc pc = .ok (.i2l, 1)) (h : R32 a) (k : W p l e R s m args below meth c H locs cells slots Q (F0 m (pc + 1) ls (.long (lI a) :: rest))) : W p l e R s m args below meth c H locs cells slots Q (F0 m pc ls (.int (iI a) :: rest)) :=
  lv_i2l C.1 C.2.1 hdg (iI_l h) k
theorem l_l2i (C : Cx p m c cc nL s args own) {a : Int} (hdg : decode cc pc = .ok (.l2i, 1)) (k : W p l e R s m args below meth c H locs cells slots Q (F0 m (pc + 1) ls (.int (iI a) :: rest))) : W p l e R s m args below meth c H locs cells slots Q (F0 m pc ls (.long (lI a) :: rest)) :=
  lv_l2i C.1 C.2.1 hdg (lI_i a) k
theorem i_inc (C : Cx p m c cc nL s args own) {i q : Nat} {n a : Int} {lv lv' : List (Nat × Value)} (hl : lv_has ls nL lv) (hdg : decode cc pc = .ok (.iinc i n, 3)) (hk : lv[q]? = some (i, .int (iI a))) (hn : i < nL) (hl2 : (i, Value.int (iI (a + n))) :: lv.filter (fun q => !(q.1 == i) && !(q.1 + 1 == i && q.2.category == 2)) = lv')
    (kk : ∀ ls' : Array Slot, lv_has ls' nL lv' → W p l e R s m args below meth c H locs cells slots Q (F0 m (pc + 3) ls' rest)) : W p l e R s m args below meth c H locs cells slots Q (F0 m pc ls rest) :=
  lv_iinc (v := iI (a + n)) C.1 C.2.1 hdg hl hk (iI_add a n) hn hl2 kk
/-! comparisons -/
abbrev R2 (a b : Int) : Prop := -2147483648 ≤ a ∧ a < 2147483648 ∧ -2147483648 ≤ b ∧ b < 2147483648
theorem i_ceq (C : Cx p m c cc nL s args own) {a b : Int} {off : Int} {tgt : Nat} (hdg : decode cc pc = .ok (.if_icmp .eq off, 3)) (ht : (pc : Int) + off = (tgt : Int)) (h : R2 a b) (kt : a = b → W p l e R s m args below meth c H locs cells slots Q (F0 m tgt ls rest)) (kf : a ≠ b → W p l e R s m args below meth c H locs cells slots Q (F0 m (pc + 3) ls rest)) : W p l e R s m args below meth c H locs cells slots Q (F0 m pc ls (.int (iI b) :: .int (iI a) :: rest)) :=
  lv_icmp_eq C.1 C.2.1 hdg ht (fun q => kt ((iI_eq ⟨h.1, h.2.1⟩ h.2.2).mp q)) (fun q => kf (fun z => q ((iI_eq ⟨h.1, h.2.1⟩ h.2.2).mpr z)))
theorem i_cne (C : Cx p m c cc nL s args own) {a b : Int} {off : Int} {tgt : Nat} (hdg : decode cc pc = .ok (.if_icmp .ne off, 3)) (ht : (pc : Int) + off = (tgt : Int)) (h : R2 a b) (kt : a ≠ b → W p l e R s m args below meth c H locs cells slots Q (F0 m tgt ls rest)) (kf : a = b → W p l e R s m args below meth c H locs cells slots Q (F0 m (pc + 3) ls rest)) : W p l e R s m args below meth c H locs cells slots Q (F0 m pc ls (.int (iI b) :: .int (iI a) :: rest)) :=
  lv_icmp_ne C.1 C.2.1 hdg ht (fun q => kt (fun z => q ((iI_eq ⟨h.1, h.2.1⟩ h.2.2).mpr z))) (fun q => kf ((iI_eq ⟨h.1, h.2.1⟩ h.2.2).mp q))
theorem i_clt (C : Cx p m c cc nL s args own) {a b : Int} {off : Int} {tgt : Nat} (hdg : decode cc pc = .ok (.if_icmp .lt off, 3)) (ht : (pc : Int) + off = (tgt : Int)) (h : R2 a b) (kt : a < b → W p l e R s m args below meth c H locs cells slots Q (F0 m tgt ls rest)) (kf : b ≤ a → W p l e R s m args below meth c H locs cells slots Q (F0 m (pc + 3) ls rest)) : W p l e R s m args below meth c H locs cells slots Q (F0 m pc ls (.int (iI b) :: .int (iI a) :: rest)) :=
  lv_icmp_lt C.1 C.2.1 hdg ht (fun q => kt ((iI_lt ⟨h.1, h.2.1⟩ h.2.2).mp q)) (fun q => kf (Int.not_lt.mp (fun z => q ((iI_lt ⟨h.1, h.2.1⟩ h.2.2).mpr z))))
theorem i_cge (C : Cx p m c cc nL s args own) {a b : Int} {off : Int} {tgt : Nat} (hdg : decode cc pc = .ok (.if_icmp .ge off, 3)) (ht : (pc : Int) + off = (tgt : Int)) (h : R2 a b) (kt : b ≤ a → W p l e R s m args below meth c H locs cells slots Q (F0 m tgt ls rest)) (kf : a < b → W p l e R s m args below meth c H locs cells slots Q (F0 m (pc + 3) ls rest)) : W p l e R s m args below meth c H locs cells slots Q (F0 m pc ls (.int (iI b) :: .int (iI a) :: rest)) :=
  lv_icmp_ge C.1 C.2.1 hdg ht (fun q => kt ((iI_le h.2.2 ⟨h.1, h.2.1⟩).mp q)) (fun q => kf (Int.not_le.mp (fun z => q ((iI_le h.2.2 ⟨h.1, h.2.1⟩).mpr z))))
theorem i_cgt (C : Cx p m c cc nL s args own) {a b : Int} {off : Int} {tgt : Nat} (hdg : decode cc pc = .ok (.if_icmp .gt off, 3)) (ht : (pc : Int) + off = (tgt : Int)) (h : R2 a b) (kt : b < a → W p l e R s m args below meth c H locs cells slots Q (F0 m tgt ls rest)) (kf : a ≤ b → W p l e R s m args below meth c H locs cells slots Q (F0 m (pc + 3) ls rest)) : W p l e R s m args below meth c H locs cells slots Q (F0 m pc ls (.int (iI b) :: .int (iI a) :: rest)) :=
  lv_icmp_gt C.1 C.2.1 hdg ht (fun q => kt ((iI_lt h.2.2 ⟨h.1, h.2.1⟩).mp q)) (fun q => kf (Int.not_lt.mp (fun z => q ((iI_lt h.2.2 ⟨h.1, h.2.1⟩).mpr z))))
theorem i_cle (C : Cx p m c cc nL s args own) {a b : Int} {off : Int} {tgt : Nat} (hdg : decode cc pc = .ok (.if_icmp .le off, 3)) (ht : (pc : Int) + off = (tgt : Int)) (h : R2 a b) (kt : a ≤ b → W p l e R s m args below meth c H locs cells slots Q (F0 m tgt ls rest)) (kf : b < a → W p l e R s m args below meth c H locs cells slots Q (F0 m (pc + 3) ls rest)) : W p l e R s m args below meth c H locs cells slots Q (F0 m pc ls (.int (iI b) :: .int (iI a) :: rest)) :=
  lv_icmp_le C.1 C.2.1 hdg ht (fun q => kt ((iI_le ⟨h.1, h.2.1⟩ h.2.2).mp q)) (fun q => kf (Int.not_le.mp (fun z => q ((iI_le ⟨h.1, h.2.1⟩ h.2.2).mpr z))))
theorem R2_0 {a : Int} (h : R32 a) : R2 a 0 := ⟨h.1, h.2, by decide, by decide⟩
theorem i_zeq (C : Cx p m c cc nL s args own) {a : Int} {off : Int} {tgt : Nat} (hdg : decode cc pc = .ok (.ifCond .eq off, 3)) (ht : (pc : Int) + off = (tgt : Int)) (h : R32 a) (kt : a = 0 → W p l e R s m args below meth c H locs cells slots Q (F0 m tgt ls rest)) (kf : a ≠ 0 → W p l e R s m args below meth c H locs cells slots Q (F0 m (pc + 3) ls rest)) : W p l e R s m args below meth c H locs cells slots Q (F0 m pc ls (.int (iI a) :: rest)) :=
  lv_if_eq C.1 C.2.1 hdg ht (fun q => kt ((iI_eq h (by decide)).mp q)) (fun q => kf (fun z => q ((iI_eq h (by decide)).mpr z)))
theorem i_zne (C : Cx p m c cc nL s args own) {a : Int} {off : Int} {tgt : Nat} (hdg : decode cc pc = .ok (.ifCond .ne off, 3)) (ht : (pc : Int) + off = (tgt : Int)) (h : R32 a) (kt : a ≠ 0 → W p l e R s m args below meth c H locs cells slots Q (F0 m tgt ls rest)) (kf : a = 0 → W p l e R s m args below meth c H locs cells slots Q (F0 m (pc + 3) ls rest)) : W p l e R s m args below meth c H locs cells slots Q (F0 m pc ls (.int (iI a) :: rest)) :=
  lv_if_ne C.1 C.2.1 hdg ht (fun q => kt (fun z => q ((iI_eq h (by decide)).mpr z))) (fun q => kf ((iI_eq h (by decide)).mp q))
theorem i_zlt (C : Cx p m c cc nL s args own) {a : Int} {off : Int} {tgt : Nat} (hdg : decode cc pc = .ok (.ifCond .lt off, 3)) (ht : (pc : Int) + off = (tgt : Int)) (h : R32 a) (kt : a < 0 → W p l e R s m args below meth c H locs cells slots Q (F0 m tgt ls rest)) (kf : 0 ≤ a → W p l e R s m args below meth c H locs cells slots Q (F0 m (pc + 3) ls rest)) : W p l e R s m args below meth c H locs cells slots Q (F0 m pc ls (.int (iI a) :: rest)) :=
  lv_if_lt C.1 C.2.1 hdg ht (fun q => kt ((iI_lt h (by decide)).mp q)) (fun q => kf (Int.not_lt.mp (fun z => q ((iI_lt h (by decide)).mpr z))))
theorem i_zge (C : Cx p m c cc nL s args own) {a : Int} {off : Int} {tgt : Nat} (hdg : decode cc pc = .ok (.ifCond .ge off, 3)) (ht : (pc : Int) + off = (tgt : Int)) (h : R32 a) (kt : 0 ≤ a → W p l e R s m args below meth c H locs cells slots Q (F0 m tgt ls rest)) (kf : a < 0 → W p l e R s m args below meth c H locs cells slots Q (F0 m (pc + 3) ls rest)) : W p l e R s m args below meth c H locs cells slots Q (F0 m pc ls (.int (iI a) :: rest)) :=
  lv_if_ge C.1 C.2.1 hdg ht (fun q => kt ((iI_le (by decide) h).mp q)) (fun q => kf (Int.not_le.mp (fun z => q ((iI_le (by decide) h).mpr z))))
theorem i_zgt (C : Cx p m c cc nL s args own) {a : Int} {off : Int} {tgt : Nat} (hdg : decode cc pc = .ok (.ifCond .gt off, 3)) (ht : (pc : Int) + off = (tgt : Int)) (h : R32 a) (kt : 0 < a → W p l e R s m args below meth c H locs cells slots Q (F0 m tgt ls rest)) (kf : a ≤ 0 → W p l e R s m args below meth c H locs cells slots Q (F0 m (pc + 3) ls rest)) : W p l e R s m args below meth c H locs cells slots Q (F0 m pc ls (.int (iI a) :: rest)) :=
  lv_if_gt C.1 C.2.1 hdg ht (fun q => kt ((iI_lt (by decide) h).mp q)) (fun q => kf (Int.not_lt.mp (fun z => q ((iI_lt (by decide) h).mpr z))))
theorem i_zle (C : Cx p m c cc nL s args own) {a : Int} {off : Int} {tgt : Nat} (hdg : decode cc pc = .ok (.ifCond .le off, 3)) (ht : (pc : Int) + off = (tgt : Int)) (h : R32 a) (kt : a ≤ 0 → W p l e R s m args below meth c H locs cells slots Q (F0 m tgt ls rest)) (kf : 0 < a → W p l e R s m args below meth c H locs cells slots Q (F0 m (pc + 3) ls rest)) : W p l e R s m args below meth c H locs cells slots Q (F0 m pc ls (.int (iI a) :: rest)) :=
  lv_if_le C.1 C.2.1 hdg ht (fun q => kt ((iI_le h (by decide)).mp q)) (fun q => kf (Int.not_le.mp (fun z => q ((iI_le h (by decide)).mpr z))))
theorem b_zeq (C : Cx p m c cc nL s args own) {b : Bool} {off : Int} {tgt : Nat} (hdg : decode cc pc = .ok (.ifCond .eq off, 3)) (ht : (pc : Int) + off = (tgt : Int)) (kt : b = false → W p l e R s m args below meth c H locs cells slots Q (F0 m tgt ls rest)) (kf : b = true → W p l e R s m args below meth c H locs cells slots Q (F0 m (pc + 3) ls rest)) : W p l e R s m args below meth c H locs cells slots Q (F0 m pc ls (.int (bI b) :: rest)) :=
  lv_if_eq C.1 C.2.1 hdg ht (fun q => kt (bI_0.mp q)) (fun q => kf (by cases b <;> simp_all [bI]))
theorem b_zne (C : Cx p m c cc nL s args own) {b : Bool} {off : Int} {tgt : Nat} (hdg : decode cc pc = .ok (.ifCond .ne off, 3)) (ht : (pc : Int) + off = (tgt : Int)) (kt : b = true → W p l e R s m args below meth c H locs cells slots Q (F0 m tgt ls rest)) (kf : b = false → W p l e R s m args below meth c H locs cells slots Q (F0 m (pc + 3) ls rest)) : W p l e R s m args below meth c H locs cells slots Q (F0 m pc ls (.int (bI b) :: rest)) :=
  lv_if_ne C.1 C.2.1 hdg ht (fun q => kt (by cases b <;> simp_all [bI])) (fun q => kf (bI_0.mp q))
theorem b_ceq (C : Cx p m c cc nL s args own) {a b : Bool} {off : Int} {tgt : Nat} (hdg : decode cc pc = .ok (.if_icmp .eq off, 3)) (ht : (pc : Int) + off = (tgt : Int)) (kt : a = b → W p l e R s m args below meth c H locs cells slots Q (F0 m tgt ls rest)) (kf : a ≠ b → W p l e R s m args below meth c H locs cells slots Q (F0 m (pc + 3) ls rest)) : W p l e R s m args below meth c H locs cells slots Q (F0 m pc ls (.int (bI b) :: .int (bI a) :: rest)) :=
  lv_icmp_eq C.1 C.2.1 hdg ht (fun q => kt (bI_inj.mp q)) (fun q => kf (fun z => q (bI_inj.mpr z)))
theorem b_cne (C : Cx p m c cc nL s args own) {a b : Bool} {off : Int} {tgt : Nat} (hdg : decode cc pc = .ok (.if_icmp .ne off, 3)) (ht : (pc : Int) + off = (tgt : Int)) (kt : a ≠ b → W p l e R s m args below meth c H locs cells slots Q (F0 m tgt ls rest)) (kf : a = b → W p l e R s m args below meth c H locs cells slots Q (F0 m (pc + 3) ls rest)) : W p l e R s m args below meth c H locs cells slots Q (F0 m pc ls (.int (bI b) :: .int (bI a) :: rest)) :=
  lv_icmp_ne C.1 C.2.1 hdg ht (fun q => kt (fun z => q (bI_inj.mpr z))) (fun q => kf (bI_inj.mp q))
/-- long comparisons: the answer of lcmp is -1, 0 or 1 as an Int -/
def lC (a b : Int) : Int := if b < a then 1 else if a = b then 0 else -1
theorem lC_R (a b : Int) : R32 (lC a b) := by unfold lC R32; split <;> (try split) <;> omega
theorem lC_le {a b : Int} : lC a b ≤ 0 ↔ a ≤ b := by unfold lC; split <;> (try split) <;> omega
theorem lC_lt {a b : Int} : lC a b < 0 ↔ a < b := by unfold lC; split <;> (try split) <;> omega
theorem lC_ge {a b : Int} : 0 ≤ lC a b ↔ b ≤ a := by unfold lC; split <;> (try split) <;> omega
theorem lC_gt {a b : Int} : 0 < lC a b ↔ b < a := by unfold lC; split <;> (try split) <;> omega
theorem lC_eq {a b : Int} : lC a b = 0 ↔ a = b := by unfold lC; split <;> (try split) <;> omega
theorem l_cmp (C : Cx p m c cc nL s args own) {a b : Int} (hdg : decode cc pc = .ok (.lcmp, 1)) (ha : R64 a) (hb : R64 b) (k : W p l e R s m args below meth c H locs cells slots Q (F0 m (pc + 1) ls (.int (iI (lC a b)) :: rest))) : W p l e R s m args below meth c H locs cells slots Q (F0 m pc ls (.long (lI b) :: .long (lI a) :: rest)) := by
  refine W.lcmp C.1 C.2.1 hdg ?_
  have e : lg_cmp (lI a) (lI b) = iI (lC a b) := by
    unfold lg_cmp lC
    have h1 : lI a > lI b ↔ b < a := lI_lt hb ha
    have h2 := lI_eq ha hb
    by_cases q1 : b < a
    · rw [if_pos (h1.mpr q1), if_pos q1]; rfl
    · rw [if_neg (fun z => q1 (h1.mp z)), if_neg q1]
      by_cases q2 : a = b
      · rw [if_pos (h2.mpr q2), if_pos q2]; rfl
      · rw [if_neg (fun z => q2 (h2.mp z)), if_neg q2]; rfl
  rw [e]
  exact k
/-! arrays at a Nat place -/
theorem a_ild (C : Cx p m c cc nL s args own) (h : Hx D g s A H0 ws H locs) (q0 : Nat) {a n : Nat} {f : Nat → Int32} (he : ws[q0]? = some (a, .inl (g 0, n, .inl f))) {z : Int} (k : Nat) (hz : z = (k : Int)) (hk : k < n) (hn : n < 2147483648) (hdg : decode cc pc = .ok (.iaload, 1))
    (kk : W p l e R s m args below meth c H locs cells slots Q (F0 m (pc + 1) ls (.int (f k) :: rest))) : W p l e R s m args below meth c H locs cells slots Q (F0 m pc ls (.int (iI z) :: .ref a :: rest)) :=
  va_iald C.1 C.2.1 h.1.1 h.2.1 q0 0 he rfl (iI_in hz hk hn).1 hdg (by rw [(iI_in hz hk hn).2]; exact kk)
theorem a_cld (C : Cx p m c cc nL s args own) (h : Hx D g s A H0 ws H locs) (q0 : Nat) {a n : Nat} {f : Nat → Int32} (he : ws[q0]? = some (a, .inl (g 1, n, .inl f))) {z : Int} (k : Nat) (hz : z = (k : Int)) (hk : k < n) (hn : n < 2147483648) (hdg : decode cc pc = .ok (.caload, 1))
    (kk : W p l e R s m args below meth c H locs cells slots Q (F0 m (pc + 1) ls (.int (f k) :: rest))) : W p l e R s m args below meth c H locs cells slots Q (F0 m pc ls (.int (iI z) :: .ref a :: rest)) :=
  va_cald C.1 C.2.1 h.1.1 h.2.1 q0 1 he rfl (iI_in hz hk hn).1 hdg (by rw [(iI_in hz hk hn).2]; exact kk)
theorem a_zld (C : Cx p m c cc nL s args own) (h : Hx D g s A H0 ws H locs) (q0 : Nat) {a n : Nat} {f : Nat → Int32} (he : ws[q0]? = some (a, .inl (g 2, n, .inl f))) {z : Int} (k : Nat) (hz : z = (k : Int)) (hk : k < n) (hn : n < 2147483648) (hdg : decode cc pc = .ok (.baload, 1))
    (kk : W p l e R s m args below meth c H locs cells slots Q (F0 m (pc + 1) ls (.int (f k) :: rest))) : W p l e R s m args below meth c H locs cells slots Q (F0 m pc ls (.int (iI z) :: .ref a :: rest)) :=
  va_zald C.1 C.2.1 h.1.1 h.2.1 q0 2 he rfl (iI_in hz hk hn).1 hdg (by rw [(iI_in hz hk hn).2]; exact kk)
theorem a_lld (C : Cx p m c cc nL s args own) (h : Hx D g s A H0 ws H locs) (q0 : Nat) {a n : Nat} {f : Nat → Int64} (he : ws[q0]? = some (a, .inl (g 3, n, .inr (.inl f)))) {z : Int} (k : Nat) (hz : z = (k : Int)) (hk : k < n) (hn : n < 2147483648) (hdg : decode cc pc = .ok (.laload, 1))
    (kk : W p l e R s m args below meth c H locs cells slots Q (F0 m (pc + 1) ls (.long (f k) :: rest))) : W p l e R s m args below meth c H locs cells slots Q (F0 m pc ls (.int (iI z) :: .ref a :: rest)) :=
  va_lald C.1 C.2.1 h.1.1 h.2.1 q0 3 he rfl (iI_in hz hk hn).1 hdg (by rw [(iI_in hz hk hn).2]; exact kk)
theorem upd_up (f : Nat → Int32) (k : Nat) (x : Int32) : upd f k x = up f k x := rfl
theorem a_ist (C : Cx p m c cc nL s args own) (h : Hx D g s A H0 ws H locs) (q0 : Nat) {a n : Nat} {f : Nat → Int32} (he : ws[q0]? = some (a, .inl (g 0, n, .inl f))) {z : Int} {x : Int32} (k : Nat) (ws' : va_W) (hw : ws.set q0 (a, .inl (g 0, n, .inl (up f k x))) = ws') (hz : z = (k : Int)) (hk : k < n) (hn : n < 2147483648) (hdg : decode cc pc = .ok (.iastore, 1))
    (kk : ∀ (H1 : Heap) (locs1 : List Loc), Hx D g s A H0 ws' H1 locs1 → W p l e R s m args below meth c H1 locs1 cells slots Q (F0 m (pc + 1) ls rest)) : W p l e R s m args below meth c H locs cells slots Q (F0 m pc ls (.int x :: .int (iI z) :: .ref a :: rest)) :=
  va_iast C.1 C.2.1 h.1.1 h.2.1 h.2.2.1 h.2.2.2.1 q0 0 he rfl (iI_in hz hk hn).1 hdg (fun H1 locs1 hP hD hS => kk H1 locs1 (by rw [(iI_in hz hk hn).2, upd_up, hw] at hP hD; exact ⟨h.1, hP, hD, hS, h.2.2.2.2⟩))
theorem a_zst (C : Cx p m c cc nL s args own) (h : Hx D g s A H0 ws H locs) (q0 : Nat) {a n : Nat} {f : Nat → Int32} (he : ws[q0]? = some (a, .inl (g 2, n, .inl f))) {z : Int} {b : Bool} (k : Nat) (ws' : va_W) (hw : ws.set q0 (a, .inl (g 2, n, .inl (up f k (bI b)))) = ws') (hz : z = (k : Int)) (hk : k < n) (hn : n < 2147483648) (hdg : decode cc pc = .ok (.bastore, 1))
    (kk : ∀ (H1 : Heap) (locs1 : List Loc), Hx D g s A H0 ws' H1 locs1 → W p l e R s m args below meth c H1 locs1 cells slots Q (F0 m (pc + 1) ls rest)) : W p l e R s m args below meth c H locs cells slots Q (F0 m pc ls (.int (bI b) :: .int (iI z) :: .ref a :: rest)) :=
  va_zast C.1 C.2.1 h.1.1 h.2.1 h.2.2.1 h.2.2.2.1 q0 2 he rfl (iI_in hz hk hn).1 hdg (fun H1 locs1 hP hD hS => kk H1 locs1 (by
    have e : vp_nar .boolean (bI b) = bI b := by cases b <;> rfl
    rw [(iI_in hz hk hn).2, e, upd_up, hw] at hP hD
    exact ⟨h.1, hP, hD, hS, h.2.2.2.2⟩))
theorem a_cst (C : Cx p m c cc nL s args own) (h : Hx D g s A H0 ws H locs) (q0 : Nat) {a n : Nat} {f : Nat → Int32} (he : ws[q0]? = some (a, .inl (g 1, n, .inl f))) {z : Int} {x : Int32} (k : Nat) (ws' : va_W) (hw : ws.set q0 (a, .inl (g 1, n, .inl (up f k x))) = ws') (hc : vp_nar .char x = x) (hz : z = (k : Int)) (hk : k < n) (hn : n < 2147483648) (hdg : decode cc pc = .ok (.castore, 1))
    (kk : ∀ (H1 : Heap) (locs1 : List Loc), Hx D g s A H0 ws' H1 locs1 → W p l e R s m args below meth c H1 locs1 cells slots Q (F0 m (pc + 1) ls rest)) : W p l e R s m args below meth c H locs cells slots Q (F0 m pc ls (.int x :: .int (iI z) :: .ref a :: rest)) :=
  va_cast C.1 C.2.1 h.1.1 h.2.1 h.2.2.1 h.2.2.2.1 q0 1 he rfl (iI_in hz hk hn).1 hdg (fun H1 locs1 hP hD hS => kk H1 locs1 (by rw [(iI_in hz hk hn).2, hc, upd_up, hw] at hP hD; exact ⟨h.1, hP, hD, hS, h.2.2.2.2⟩))
theorem updL_up (f : Nat → Int64) (k : Nat) (x : Int64) : vp_updL f k x = up f k x := rfl
theorem a_lst (C : Cx p m c cc nL s args own) (h : Hx D g s A H0 ws H locs) (q0 : Nat) {a n : Nat} {f : Nat → Int64} (he : ws[q0]? = some (a, .inl (g 3, n, .inr (.inl f)))) {z : Int} {x : Int64} (k : Nat) (ws' : va_W) (hw : ws.set q0 (a, .inl (g 3, n, .inr (.inl (up f k x)))) = ws') (hz : z = (k : Int)) (hk : k < n) (hn : n < 2147483648) (hdg : decode cc pc = .ok (.lastore, 1))
    (kk : ∀ (H1 : Heap) (locs1 : List Loc), Hx D g s A H0 ws' H1 locs1 → W p l e R s m args below meth c H1 locs1 cells slots Q (F0 m (pc + 1) ls rest)) : W p l e R s m args below meth c H locs cells slots Q (F0 m pc ls (.long x :: .int (iI z) :: .ref a :: rest)) :=
  va_last C.1 C.2.1 h.1.1 h.2.1 h.2.2.1 h.2.2.2.1 q0 3 he rfl (iI_in hz hk hn).1 hdg (fun H1 locs1 hP hD hS => kk H1 locs1 (by rw [(iI_in hz hk hn).2, updL_up, hw] at hP hD; exact ⟨h.1, hP, hD, hS, h.2.2.2.2⟩))
theorem a_len (C : Cx p m c cc nL s args own) (h : Hx D g s A H0 ws H locs) (q0 t0 : Nat) {a : Nat} {x : vp_A} {ty : FieldType} {cA : ClassId} (ht : (tysG g)[t0]? = some (cA, ty)) (he : ws[q0]? = some (a, .inl (cA, x))) (z : Int) (hz : Int32.ofNat x.1 = iI z) (hdg : decode cc pc = .ok (.arraylength, 1))
    (kk : W p l e R s m args below meth c H locs cells slots Q (F0 m (pc + 1) ls (.int (iI z) :: rest))) : W p l e R s m args below meth c H locs cells slots Q (F0 m pc ls (.ref a :: rest)) :=
  va_alen C.1 C.2.1 h.1.1 h.2.1 q0 t0 he ht hz hdg kk
theorem a_gld (C : Cx p m c cc nL s args own) (h : Hx D g s A H0 ws H locs) (q0 : Nat) {a n : Nat} {r : Nat → Nat} (he : ws[q0]? = some (a, .inl (g 4, n, .inr (.inr (.inr (.inr (gO n r))))))) {z : Int} (k : Nat) (hz : z = (k : Int)) (hk : k < n) (hn : n < 2147483648) (hdg : decode cc pc = .ok (.aaload, 1))
    (kk : W p l e R s m args below meth c H locs cells slots Q (F0 m (pc + 1) ls (.ref (r k) :: rest))) : W p l e R s m args below meth c H locs cells slots Q (F0 m pc ls (.int (iI z) :: .ref a :: rest)) := by
  have hlt := (iI_in hz hk hn).2
  have hin := (iI_in hz hk hn).1
  have e : va_rf (gO n r (iI z).toNatClampNeg) = .ref (r k) := by rw [hlt]; unfold gO; rw [if_pos hk]; rfl
  refine W.aald (v := va_rf (gO n r (iI z).toNatClampNeg)) (ty := .array .int) C.1 C.2.1 (h.2.1 q0 _ he) ((h.1.1.2 4 _ rfl).1 n (fun j => va_rf (gO n r j))) rfl (fun q => by cases q) (by show ¬ (iI z < 0 ∨ (arrV _ _ _).slots.size ≤ _); rw [arrV_size]; exact hin) (by show (arrV _ _ _).slots[_]? = _; rw [arrV_read _ _ (by rw [hlt]; exact hk)]) rfl rfl hdg ?_
  rw [e]
  exact kk
theorem a_qld (C : Cx p m c cc nL s args own) (h : Hx D g s A H0 ws H locs) (q0 : Nat) {a n : Nat} {f : Nat → Option Nat} (he : ws[q0]? = some (a, .inl (g 5, n, .inr (.inr (.inr (.inr f)))))) {z : Int} (k : Nat) (hz : z = (k : Int)) (hk : k < n) (hn : n < 2147483648) (hdg : decode cc pc = .ok (.aaload, 1))
    (kk : W p l e R s m args below meth c H locs cells slots Q (F0 m (pc + 1) ls (va_rf (f k) :: rest))) : W p l e R s m args below meth c H locs cells slots Q (F0 m pc ls (.int (iI z) :: .ref a :: rest)) :=
  va_aldq C.1 C.2.1 h.1.1 h.2.1 q0 5 he rfl (iI_in hz hk hn).1 hdg (by rw [(iI_in hz hk hn).2]; exact kk)
/-- a row of a grid, read and written, wherever the grid stands -/
theorem a_ildM (C : Cx p m c cc nL s args own) (h : Hx D g s A H0 ws H locs) {a n : Nat} {f : Nat → Int32} (he : (a, .inl (g 0, n, .inl f)) ∈ ws) {z : Int} (k : Nat) (hz : z = (k : Int)) (hk : k < n) (hn : n < 2147483648) (hdg : decode cc pc = .ok (.iaload, 1))
    (kk : W p l e R s m args below meth c H locs cells slots Q (F0 m (pc + 1) ls (.int (f k) :: rest))) : W p l e R s m args below meth c H locs cells slots Q (F0 m pc ls (.int (iI z) :: .ref a :: rest)) := by
  obtain ⟨q0, hq⟩ := List.getElem?_of_mem he
  exact a_ild C h q0 hq k hz hk hn hdg kk
theorem a_istM (C : Cx p m c cc nL s args own) (h : Hx D g s A H0 ws H locs) {a n : Nat} {f : Nat → Int32} {wr : va_W} (he : ws.Perm ((a, .inl (g 0, n, .inl f)) :: wr)) {z : Int} {x : Int32} (k : Nat) (ws' : va_W) (hw : ((a, .inl (g 0, n, .inl (up f k x))) :: wr).Perm ws') (hz : z = (k : Int)) (hk : k < n) (hn : n < 2147483648) (hdg : decode cc pc = .ok (.iastore, 1))
    (kk : ∀ (H1 : Heap) (locs1 : List Loc), Hx D g s A H0 ws' H1 locs1 → W p l e R s m args below meth c H1 locs1 cells slots Q (F0 m (pc + 1) ls rest)) : W p l e R s m args below meth c H locs cells slots Q (F0 m pc ls (.int x :: .int (iI z) :: .ref a :: rest)) :=
  a_ist C (h.perm he) 0 rfl k _ rfl hz hk hn hdg (fun H1 locs1 h1 => kk H1 locs1 (h1.perm hw))
end ROWS
end
