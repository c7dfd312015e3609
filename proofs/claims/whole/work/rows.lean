section
-- ===== PART A: goes FIRST, ahead of the names: the tables' words, and 'selects' of the private methods out of them =====
/-- a private method of a class that the tables say can be made, by its rows of tables_1 -/
def lw_okq (q : MethodName × Nat) : Prop := (q.1.cls ≠ "java/lang/invoke/MethodHandle" ∧ q.1.cls ≠ "java/lang/invoke/VarHandle") ∧ Cond.instantiable q.1.cls q.2 ∈ tables_1 ∧ Cond.privateMethod q.1 ∈ tables_1 ∧ Cond.instanceMethod q.1 ∈ tables_1
theorem lw_p0 : lw_okq (⟨"TraceQuestions$Rows", "putInOrders", "()V"⟩, 4) := ⟨⟨by decide +kernel, by decide +kernel⟩, List.mem_of_getElem? (i := 19) (by decide +kernel), List.mem_of_getElem? (i := 243) (by decide +kernel), List.mem_of_getElem? (i := 244) (by decide +kernel)⟩
theorem lw_p1 : lw_okq (⟨"TraceQuestions$Rows", "behindLast", "(IIZ)I"⟩, 4) := ⟨⟨by decide +kernel, by decide +kernel⟩, List.mem_of_getElem? (i := 19) (by decide +kernel), List.mem_of_getElem? (i := 251) (by decide +kernel), List.mem_of_getElem? (i := 252) (by decide +kernel)⟩
theorem lw_p2 : lw_okq (⟨"TraceQuestions$Rows", "insert", "([II)V"⟩, 4) := ⟨⟨by decide +kernel, by decide +kernel⟩, List.mem_of_getElem? (i := 19) (by decide +kernel), List.mem_of_getElem? (i := 259) (by decide +kernel), List.mem_of_getElem? (i := 260) (by decide +kernel)⟩
theorem lw_p3 : lw_okq (⟨"TraceQuestions", "readText", "(I)I"⟩, 16) := ⟨⟨by decide +kernel, by decide +kernel⟩, List.mem_of_getElem? (i := 11) (by decide +kernel), List.mem_of_getElem? (i := 272) (by decide +kernel), List.mem_of_getElem? (i := 273) (by decide +kernel)⟩
theorem lw_p4 : lw_okq (⟨"TraceQuestions$Reader", "begin", "(I)V"⟩, 11) := ⟨⟨by decide +kernel, by decide +kernel⟩, List.mem_of_getElem? (i := 58) (by decide +kernel), List.mem_of_getElem? (i := 280) (by decide +kernel), List.mem_of_getElem? (i := 281) (by decide +kernel)⟩
theorem lw_p5 : lw_okq (⟨"TraceQuestions$Reader", "takes", "(C)Z"⟩, 11) := ⟨⟨by decide +kernel, by decide +kernel⟩, List.mem_of_getElem? (i := 58) (by decide +kernel), List.mem_of_getElem? (i := 288) (by decide +kernel), List.mem_of_getElem? (i := 289) (by decide +kernel)⟩
theorem lw_p6 : lw_okq (⟨"TraceQuestions$Reader", "takesTail", "(C)Z"⟩, 11) := ⟨⟨by decide +kernel, by decide +kernel⟩, List.mem_of_getElem? (i := 58) (by decide +kernel), List.mem_of_getElem? (i := 292) (by decide +kernel), List.mem_of_getElem? (i := 293) (by decide +kernel)⟩
theorem lw_p7 : lw_okq (⟨"TraceQuestions$Reader", "takesTest", "(C)Z"⟩, 11) := ⟨⟨by decide +kernel, by decide +kernel⟩, List.mem_of_getElem? (i := 58) (by decide +kernel), List.mem_of_getElem? (i := 303) (by decide +kernel), List.mem_of_getElem? (i := 304) (by decide +kernel)⟩
theorem lw_p8 : lw_okq (⟨"TraceQuestions$Reader", "takesTurn", "()Z"⟩, 11) := ⟨⟨by decide +kernel, by decide +kernel⟩, List.mem_of_getElem? (i := 58) (by decide +kernel), List.mem_of_getElem? (i := 307) (by decide +kernel), List.mem_of_getElem? (i := 308) (by decide +kernel)⟩
theorem lw_p9 : lw_okq (⟨"TraceQuestions$Reader", "takesOpen", "()Z"⟩, 11) := ⟨⟨by decide +kernel, by decide +kernel⟩, List.mem_of_getElem? (i := 58) (by decide +kernel), List.mem_of_getElem? (i := 315) (by decide +kernel), List.mem_of_getElem? (i := 316) (by decide +kernel)⟩
theorem lw_p10 : lw_okq (⟨"TraceQuestions$Reader", "takesTestField", "(C)Z"⟩, 11) := ⟨⟨by decide +kernel, by decide +kernel⟩, List.mem_of_getElem? (i := 58) (by decide +kernel), List.mem_of_getElem? (i := 319) (by decide +kernel), List.mem_of_getElem? (i := 320) (by decide +kernel)⟩
theorem lw_p11 : lw_okq (⟨"TraceQuestions$Reader", "isOpenField", "(C)Z"⟩, 11) := ⟨⟨by decide +kernel, by decide +kernel⟩, List.mem_of_getElem? (i := 58) (by decide +kernel), List.mem_of_getElem? (i := 323) (by decide +kernel), List.mem_of_getElem? (i := 324) (by decide +kernel)⟩
theorem lw_p12 : lw_okq (⟨"TraceQuestions$Reader", "takesRelation", "(C)Z"⟩, 11) := ⟨⟨by decide +kernel, by decide +kernel⟩, List.mem_of_getElem? (i := 58) (by decide +kernel), List.mem_of_getElem? (i := 334) (by decide +kernel), List.mem_of_getElem? (i := 335) (by decide +kernel)⟩
theorem lw_p13 : lw_okq (⟨"TraceQuestions$Reader", "takesFigure", "(C)Z"⟩, 11) := ⟨⟨by decide +kernel, by decide +kernel⟩, List.mem_of_getElem? (i := 58) (by decide +kernel), List.mem_of_getElem? (i := 338) (by decide +kernel), List.mem_of_getElem? (i := 339) (by decide +kernel)⟩
theorem lw_p14 : lw_okq (⟨"TraceQuestions$Reader", "endFieldTest", "()V"⟩, 11) := ⟨⟨by decide +kernel, by decide +kernel⟩, List.mem_of_getElem? (i := 58) (by decide +kernel), List.mem_of_getElem? (i := 342) (by decide +kernel), List.mem_of_getElem? (i := 343) (by decide +kernel)⟩
theorem lw_p15 : lw_okq (⟨"TraceQuestions$Reader", "endTest", "()V"⟩, 11) := ⟨⟨by decide +kernel, by decide +kernel⟩, List.mem_of_getElem? (i := 58) (by decide +kernel), List.mem_of_getElem? (i := 351) (by decide +kernel), List.mem_of_getElem? (i := 352) (by decide +kernel)⟩
def lw_privs_1 : List (MethodName × Nat) := [(⟨"TraceQuestions$Rows", "putInOrders", "()V"⟩, 4), (⟨"TraceQuestions$Rows", "behindLast", "(IIZ)I"⟩, 4), (⟨"TraceQuestions$Rows", "insert", "([II)V"⟩, 4), (⟨"TraceQuestions", "readText", "(I)I"⟩, 16), (⟨"TraceQuestions$Reader", "begin", "(I)V"⟩, 11), (⟨"TraceQuestions$Reader", "takes", "(C)Z"⟩, 11), (⟨"TraceQuestions$Reader", "takesTail", "(C)Z"⟩, 11), (⟨"TraceQuestions$Reader", "takesTest", "(C)Z"⟩, 11), (⟨"TraceQuestions$Reader", "takesTurn", "()Z"⟩, 11), (⟨"TraceQuestions$Reader", "takesOpen", "()Z"⟩, 11), (⟨"TraceQuestions$Reader", "takesTestField", "(C)Z"⟩, 11), (⟨"TraceQuestions$Reader", "isOpenField", "(C)Z"⟩, 11), (⟨"TraceQuestions$Reader", "takesRelation", "(C)Z"⟩, 11), (⟨"TraceQuestions$Reader", "takesFigure", "(C)Z"⟩, 11), (⟨"TraceQuestions$Reader", "endFieldTest", "()V"⟩, 11), (⟨"TraceQuestions$Reader", "endTest", "()V"⟩, 11)]
theorem lw_r1 : ∀ q ∈ lw_privs_1, lw_okq q := List.forall_mem_cons.mpr ⟨lw_p0, List.forall_mem_cons.mpr ⟨lw_p1, List.forall_mem_cons.mpr ⟨lw_p2, List.forall_mem_cons.mpr ⟨lw_p3, List.forall_mem_cons.mpr ⟨lw_p4, List.forall_mem_cons.mpr ⟨lw_p5, List.forall_mem_cons.mpr ⟨lw_p6, List.forall_mem_cons.mpr ⟨lw_p7, List.forall_mem_cons.mpr ⟨lw_p8, List.forall_mem_cons.mpr ⟨lw_p9, List.forall_mem_cons.mpr ⟨lw_p10, List.forall_mem_cons.mpr ⟨lw_p11, List.forall_mem_cons.mpr ⟨lw_p12, List.forall_mem_cons.mpr ⟨lw_p13, List.forall_mem_cons.mpr ⟨lw_p14, List.forall_mem_cons.mpr ⟨lw_p15, fun _ h => absurd h List.not_mem_nil⟩⟩⟩⟩⟩⟩⟩⟩⟩⟩⟩⟩⟩⟩⟩⟩
theorem lw_p16 : lw_okq (⟨"TraceQuestions$Reader", "takesBehindTest", "(C)Z"⟩, 11) := ⟨⟨by decide +kernel, by decide +kernel⟩, List.mem_of_getElem? (i := 58) (by decide +kernel), List.mem_of_getElem? (i := 355) (by decide +kernel), List.mem_of_getElem? (i := 356) (by decide +kernel)⟩
theorem lw_p17 : lw_okq (⟨"TraceQuestions$Reader", "takesClose", "()Z"⟩, 11) := ⟨⟨by decide +kernel, by decide +kernel⟩, List.mem_of_getElem? (i := 58) (by decide +kernel), List.mem_of_getElem? (i := 359) (by decide +kernel), List.mem_of_getElem? (i := 360) (by decide +kernel)⟩
theorem lw_p18 : lw_okq (⟨"TraceQuestions$Reader", "takesTailField", "(C)Z"⟩, 11) := ⟨⟨by decide +kernel, by decide +kernel⟩, List.mem_of_getElem? (i := 58) (by decide +kernel), List.mem_of_getElem? (i := 363) (by decide +kernel), List.mem_of_getElem? (i := 364) (by decide +kernel)⟩
theorem lw_p19 : lw_okq (⟨"TraceQuestions$Reader", "takesEnd", "()Z"⟩, 11) := ⟨⟨by decide +kernel, by decide +kernel⟩, List.mem_of_getElem? (i := 58) (by decide +kernel), List.mem_of_getElem? (i := 371) (by decide +kernel), List.mem_of_getElem? (i := 372) (by decide +kernel)⟩
theorem lw_p20 : lw_okq (⟨"TraceQuestions", "costOf", "(LTraceQuestions$Question;)J"⟩, 16) := ⟨⟨by decide +kernel, by decide +kernel⟩, List.mem_of_getElem? (i := 11) (by decide +kernel), List.mem_of_getElem? (i := 383) (by decide +kernel), List.mem_of_getElem? (i := 384) (by decide +kernel)⟩
theorem lw_p21 : lw_okq (⟨"TraceQuestions", "search", "(LTraceQuestions$Question;ILTraceQuestions$Found;)V"⟩, 16) := ⟨⟨by decide +kernel, by decide +kernel⟩, List.mem_of_getElem? (i := 11) (by decide +kernel), List.mem_of_getElem? (i := 389) (by decide +kernel), List.mem_of_getElem? (i := 390) (by decide +kernel)⟩
theorem lw_p22 : lw_okq (⟨"TraceQuestions", "sees", "(II)Z"⟩, 16) := ⟨⟨by decide +kernel, by decide +kernel⟩, List.mem_of_getElem? (i := 11) (by decide +kernel), List.mem_of_getElem? (i := 410) (by decide +kernel), List.mem_of_getElem? (i := 411) (by decide +kernel)⟩
theorem lw_p23 : lw_okq (⟨"TraceQuestions$Rights", "kindsOf", "(II)I"⟩, 3) := ⟨⟨by decide +kernel, by decide +kernel⟩, List.mem_of_getElem? (i := 41) (by decide +kernel), List.mem_of_getElem? (i := 419) (by decide +kernel), List.mem_of_getElem? (i := 420) (by decide +kernel)⟩
theorem lw_p24 : lw_okq (⟨"TraceQuestions$Judge", "beginLevel", "()V"⟩, 4) := ⟨⟨by decide +kernel, by decide +kernel⟩, List.mem_of_getElem? (i := 136) (by decide +kernel), List.mem_of_getElem? (i := 427) (by decide +kernel), List.mem_of_getElem? (i := 428) (by decide +kernel)⟩
theorem lw_p25 : lw_okq (⟨"TraceQuestions$Judge", "endLevel", "()V"⟩, 4) := ⟨⟨by decide +kernel, by decide +kernel⟩, List.mem_of_getElem? (i := 136) (by decide +kernel), List.mem_of_getElem? (i := 439) (by decide +kernel), List.mem_of_getElem? (i := 440) (by decide +kernel)⟩
theorem lw_p26 : lw_okq (⟨"TraceQuestions$Judge", "isLevelTrue", "()Z"⟩, 4) := ⟨⟨by decide +kernel, by decide +kernel⟩, List.mem_of_getElem? (i := 136) (by decide +kernel), List.mem_of_getElem? (i := 443) (by decide +kernel), List.mem_of_getElem? (i := 444) (by decide +kernel)⟩
theorem lw_p27 : lw_okq (⟨"TraceQuestions$Judge", "take", "(Z)V"⟩, 4) := ⟨⟨by decide +kernel, by decide +kernel⟩, List.mem_of_getElem? (i := 136) (by decide +kernel), List.mem_of_getElem? (i := 447) (by decide +kernel), List.mem_of_getElem? (i := 448) (by decide +kernel)⟩
theorem lw_p28 : lw_okq (⟨"TraceQuestions", "isMasked", "(I)Z"⟩, 16) := ⟨⟨by decide +kernel, by decide +kernel⟩, List.mem_of_getElem? (i := 11) (by decide +kernel), List.mem_of_getElem? (i := 486) (by decide +kernel), List.mem_of_getElem? (i := 487) (by decide +kernel)⟩
theorem lw_p29 : lw_okq (⟨"TraceQuestions", "askKept", "(LTraceQuestions$Kept;)I"⟩, 16) := ⟨⟨by decide +kernel, by decide +kernel⟩, List.mem_of_getElem? (i := 11) (by decide +kernel), List.mem_of_getElem? (i := 555) (by decide +kernel), List.mem_of_getElem? (i := 556) (by decide +kernel)⟩
theorem lw_p30 : lw_okq (⟨"TraceQuestions", "countFound", "(LTraceQuestions$Question;)I"⟩, 16) := ⟨⟨by decide +kernel, by decide +kernel⟩, List.mem_of_getElem? (i := 11) (by decide +kernel), List.mem_of_getElem? (i := 567) (by decide +kernel), List.mem_of_getElem? (i := 568) (by decide +kernel)⟩
theorem lw_p31 : lw_okq (⟨"TraceQuestionsModel", "look", "([III)V"⟩, 40) := ⟨⟨by decide +kernel, by decide +kernel⟩, List.mem_of_getElem? (i := 591) (by decide +kernel), List.mem_of_getElem? (i := 749) (by decide +kernel), List.mem_of_getElem? (i := 750) (by decide +kernel)⟩
def lw_privs_2 : List (MethodName × Nat) := [(⟨"TraceQuestions$Reader", "takesBehindTest", "(C)Z"⟩, 11), (⟨"TraceQuestions$Reader", "takesClose", "()Z"⟩, 11), (⟨"TraceQuestions$Reader", "takesTailField", "(C)Z"⟩, 11), (⟨"TraceQuestions$Reader", "takesEnd", "()Z"⟩, 11), (⟨"TraceQuestions", "costOf", "(LTraceQuestions$Question;)J"⟩, 16), (⟨"TraceQuestions", "search", "(LTraceQuestions$Question;ILTraceQuestions$Found;)V"⟩, 16), (⟨"TraceQuestions", "sees", "(II)Z"⟩, 16), (⟨"TraceQuestions$Rights", "kindsOf", "(II)I"⟩, 3), (⟨"TraceQuestions$Judge", "beginLevel", "()V"⟩, 4), (⟨"TraceQuestions$Judge", "endLevel", "()V"⟩, 4), (⟨"TraceQuestions$Judge", "isLevelTrue", "()Z"⟩, 4), (⟨"TraceQuestions$Judge", "take", "(Z)V"⟩, 4), (⟨"TraceQuestions", "isMasked", "(I)Z"⟩, 16), (⟨"TraceQuestions", "askKept", "(LTraceQuestions$Kept;)I"⟩, 16), (⟨"TraceQuestions", "countFound", "(LTraceQuestions$Question;)I"⟩, 16), (⟨"TraceQuestionsModel", "look", "([III)V"⟩, 40)]
theorem lw_r2 : ∀ q ∈ lw_privs_2, lw_okq q := List.forall_mem_cons.mpr ⟨lw_p16, List.forall_mem_cons.mpr ⟨lw_p17, List.forall_mem_cons.mpr ⟨lw_p18, List.forall_mem_cons.mpr ⟨lw_p19, List.forall_mem_cons.mpr ⟨lw_p20, List.forall_mem_cons.mpr ⟨lw_p21, List.forall_mem_cons.mpr ⟨lw_p22, List.forall_mem_cons.mpr ⟨lw_p23, List.forall_mem_cons.mpr ⟨lw_p24, List.forall_mem_cons.mpr ⟨lw_p25, List.forall_mem_cons.mpr ⟨lw_p26, List.forall_mem_cons.mpr ⟨lw_p27, List.forall_mem_cons.mpr ⟨lw_p28, List.forall_mem_cons.mpr ⟨lw_p29, List.forall_mem_cons.mpr ⟨lw_p30, List.forall_mem_cons.mpr ⟨lw_p31, fun _ h => absurd h List.not_mem_nil⟩⟩⟩⟩⟩⟩⟩⟩⟩⟩⟩⟩⟩⟩⟩⟩
theorem lw_p32 : lw_okq (⟨"TraceQuestionsModel", "overs", "()I"⟩, 40) := ⟨⟨by decide +kernel, by decide +kernel⟩, List.mem_of_getElem? (i := 591) (by decide +kernel), List.mem_of_getElem? (i := 764) (by decide +kernel), List.mem_of_getElem? (i := 765) (by decide +kernel)⟩
theorem lw_p33 : lw_okq (⟨"TraceQuestionsModel", "lookAtTail", "([III)V"⟩, 40) := ⟨⟨by decide +kernel, by decide +kernel⟩, List.mem_of_getElem? (i := 591) (by decide +kernel), List.mem_of_getElem? (i := 768) (by decide +kernel), List.mem_of_getElem? (i := 769) (by decide +kernel)⟩
theorem lw_p34 : lw_okq (⟨"TraceQuestionsModel", "costNow", "()J"⟩, 40) := ⟨⟨by decide +kernel, by decide +kernel⟩, List.mem_of_getElem? (i := 591) (by decide +kernel), List.mem_of_getElem? (i := 772) (by decide +kernel), List.mem_of_getElem? (i := 773) (by decide +kernel)⟩
theorem lw_p35 : lw_okq (⟨"TraceQuestionsModel", "find", "([IIIII)V"⟩, 40) := ⟨⟨by decide +kernel, by decide +kernel⟩, List.mem_of_getElem? (i := 591) (by decide +kernel), List.mem_of_getElem? (i := 777) (by decide +kernel), List.mem_of_getElem? (i := 778) (by decide +kernel)⟩
theorem lw_p36 : lw_okq (⟨"TraceQuestionsModel", "sees", "(II)Z"⟩, 40) := ⟨⟨by decide +kernel, by decide +kernel⟩, List.mem_of_getElem? (i := 591) (by decide +kernel), List.mem_of_getElem? (i := 781) (by decide +kernel), List.mem_of_getElem? (i := 782) (by decide +kernel)⟩
theorem lw_p37 : lw_okq (⟨"TraceQuestionsModel", "field", "(II)I"⟩, 40) := ⟨⟨by decide +kernel, by decide +kernel⟩, List.mem_of_getElem? (i := 591) (by decide +kernel), List.mem_of_getElem? (i := 785) (by decide +kernel), List.mem_of_getElem? (i := 786) (by decide +kernel)⟩
theorem lw_p38 : lw_okq (⟨"TraceQuestionsModel", "isTrue", "([III)Z"⟩, 40) := ⟨⟨by decide +kernel, by decide +kernel⟩, List.mem_of_getElem? (i := 591) (by decide +kernel), List.mem_of_getElem? (i := 789) (by decide +kernel), List.mem_of_getElem? (i := 790) (by decide +kernel)⟩
theorem lw_p39 : lw_okq (⟨"TraceQuestionsModel", "test", "(Z)V"⟩, 40) := ⟨⟨by decide +kernel, by decide +kernel⟩, List.mem_of_getElem? (i := 591) (by decide +kernel), List.mem_of_getElem? (i := 793) (by decide +kernel), List.mem_of_getElem? (i := 794) (by decide +kernel)⟩
theorem lw_p40 : lw_okq (⟨"TraceQuestionsModel", "take", "(III)V"⟩, 40) := ⟨⟨by decide +kernel, by decide +kernel⟩, List.mem_of_getElem? (i := 591) (by decide +kernel), List.mem_of_getElem? (i := 797) (by decide +kernel), List.mem_of_getElem? (i := 798) (by decide +kernel)⟩
theorem lw_p41 : lw_okq (⟨"TraceQuestionsModel", "askKept", "(I)V"⟩, 40) := ⟨⟨by decide +kernel, by decide +kernel⟩, List.mem_of_getElem? (i := 591) (by decide +kernel), List.mem_of_getElem? (i := 840) (by decide +kernel), List.mem_of_getElem? (i := 841) (by decide +kernel)⟩
def lw_privs_3 : List (MethodName × Nat) := [(⟨"TraceQuestionsModel", "overs", "()I"⟩, 40), (⟨"TraceQuestionsModel", "lookAtTail", "([III)V"⟩, 40), (⟨"TraceQuestionsModel", "costNow", "()J"⟩, 40), (⟨"TraceQuestionsModel", "find", "([IIIII)V"⟩, 40), (⟨"TraceQuestionsModel", "sees", "(II)Z"⟩, 40), (⟨"TraceQuestionsModel", "field", "(II)I"⟩, 40), (⟨"TraceQuestionsModel", "isTrue", "([III)Z"⟩, 40), (⟨"TraceQuestionsModel", "test", "(Z)V"⟩, 40), (⟨"TraceQuestionsModel", "take", "(III)V"⟩, 40), (⟨"TraceQuestionsModel", "askKept", "(I)V"⟩, 40)]
theorem lw_r3 : ∀ q ∈ lw_privs_3, lw_okq q := List.forall_mem_cons.mpr ⟨lw_p32, List.forall_mem_cons.mpr ⟨lw_p33, List.forall_mem_cons.mpr ⟨lw_p34, List.forall_mem_cons.mpr ⟨lw_p35, List.forall_mem_cons.mpr ⟨lw_p36, List.forall_mem_cons.mpr ⟨lw_p37, List.forall_mem_cons.mpr ⟨lw_p38, List.forall_mem_cons.mpr ⟨lw_p39, List.forall_mem_cons.mpr ⟨lw_p40, List.forall_mem_cons.mpr ⟨lw_p41, fun _ h => absurd h List.not_mem_nil⟩⟩⟩⟩⟩⟩⟩⟩⟩⟩
def lw_privs : List (MethodName × Nat) := lw_privs_1 ++ (lw_privs_2 ++ (lw_privs_3))
def lw_tbl : List Cond := k2_sels lw_privs ++ tables_1
theorem lw_privs_ok : ∀ q ∈ lw_privs, lw_okq q := by
  show ∀ q ∈ lw_privs_1 ++ (lw_privs_2 ++ (lw_privs_3)), lw_okq q
  exact List.forall_mem_append.mpr ⟨lw_r1, List.forall_mem_append.mpr ⟨lw_r2, lw_r3⟩⟩
-- ===== end of PART A; then your names; then what follows =====
end
section
/-! ===== BEGIN words of one list among another's, by their places ===== -/
theorem goodIn_r {big : List Cond} (ws : List Cond) (ps : List Nat) (hp : ws = ps.filterMap (fun i => big[i]?)) (h : ws.all goodWord = true) : GoodIn big ws := by
  intro w hw
  have h1 := List.all_eq_true.mp h w hw
  rw [hp] at hw
  obtain ⟨i, -, hi⟩ := List.mem_filterMap.mp hw
  have hm : w ∈ big := by first | exact List.mem_of_getElem? hi | exact List.getElem?_mem hi
  exact ⟨hm, good_of_word h1⟩
theorem goodIn_app {big a b : List Cond} (ha : GoodIn big a) (hb : GoodIn big b) : GoodIn big (a ++ b) := fun w h => (List.mem_append.mp h).elim (ha w) (hb w)
theorem goodIn_ca {big a b : List Cond} {c : Cond} (ha : GoodIn big (c :: a)) (hb : GoodIn big b) : GoodIn big (c :: (a ++ b)) := fun w h => (List.mem_cons.mp h).elim (fun e => ha w (List.mem_cons.mpr (Or.inl e))) (fun h => (List.mem_append.mp h).elim (fun h => ha w (List.mem_cons.mpr (Or.inr h))) (hb w))
theorem goodIn_sub {big ws : List Cond} (hm : ∀ w ∈ ws, w ∈ big) (h : ws.all goodWord = true) : GoodIn big ws := fun w hw => ⟨hm w hw, good_of_word (List.all_eq_true.mp h w hw)⟩
/-! ===== END ===== -/
def RX0 : String := "TraceQuestions$Found"
def TX0 : u_T := fun k => match k with
  | 0 => ("TraceQuestions$Found", "first", "[I", true)
  | 1 => ("TraceQuestions$Found", "howMany", "[I", true)
  | _ => ("TraceQuestions$Found", "count", "I", false)
def tyX0 : Nat → FieldType := fun k => match k with
  | 0 => .array .int
  | 1 => .array .int
  | _ => .int
abbrev wsX00 : List Cond := u_ws RX0 TX0 3
theorem nmX0 : ∀ a, a < 3 → ∀ b, b < 3 → a ≠ b → (TX0 a).2.1 ≠ (TX0 b).2.1 := by decide +kernel
theorem tyX0_ok : ∀ k, k < 3 → parseFieldDescriptor (TX0 k).2.2.1 = some (tyX0 k) := by decide +kernel
abbrev cX0_init : ByteArray := prog_2_method_1_code
def yX0_init : MethodName := ⟨RX0, "<init>", "()V"⟩
abbrev cX0_count : ByteArray := prog_2_method_2_code
def yX0_count : MethodName := ⟨RX0, "count", "()I"⟩
abbrev cX0_clear : ByteArray := prog_2_method_3_code
def yX0_clear : MethodName := ⟨RX0, "clear", "()V"⟩
abbrev cX0_add : ByteArray := prog_2_method_4_code
def yX0_add : MethodName := ⟨RX0, "add", "(I)V"⟩
abbrev cX0_addToGroup : ByteArray := prog_2_method_5_code
def yX0_addToGroup : MethodName := ⟨RX0, "addToGroup", "(I)V"⟩
abbrev cX0_first : ByteArray := prog_2_method_6_code
def yX0_first : MethodName := ⟨RX0, "first", "(I)I"⟩
abbrev cX0_howMany : ByteArray := prog_2_method_7_code
def yX0_howMany : MethodName := ⟨RX0, "howMany", "(I)I"⟩
def RX1 : String := "TraceQuestions$Judge"
def TX1 : u_T := fun k => match k with
  | 0 => ("TraceQuestions$Judge", "level", "I", false)
  | 1 => ("TraceQuestions$Judge", "partsTrue", "I", false)
  | 2 => ("TraceQuestions$Judge", "testsTrue", "I", false)
  | _ => ("TraceQuestions$Judge", "turned", "I", false)
def tyX1 : Nat → FieldType := fun k => match k with
  | 0 => .int
  | 1 => .int
  | 2 => .int
  | _ => .int
abbrev wsX10 : List Cond := u_ws RX1 TX1 4
theorem nmX1 : ∀ a, a < 4 → ∀ b, b < 4 → a ≠ b → (TX1 a).2.1 ≠ (TX1 b).2.1 := by decide +kernel
theorem tyX1_ok : ∀ k, k < 4 → parseFieldDescriptor (TX1 k).2.2.1 = some (tyX1 k) := by decide +kernel
abbrev cX1_init : ByteArray := prog_3_method_1_code
def yX1_init : MethodName := ⟨RX1, "<init>", "()V"⟩
abbrev cX1_isTrue : ByteArray := prog_3_method_2_code
def yX1_isTrue : MethodName := ⟨RX1, "isTrue", "(LTraceQuestions$Question;LTraceQuestions$Rows;I)Z"⟩
abbrev cX1_beginLevel : ByteArray := prog_3_method_3_code
def yX1_beginLevel : MethodName := ⟨RX1, "beginLevel", "()V"⟩
abbrev cX1_endLevel : ByteArray := prog_3_method_4_code
def yX1_endLevel : MethodName := ⟨RX1, "endLevel", "()V"⟩
abbrev cX1_isLevelTrue : ByteArray := prog_3_method_5_code
def yX1_isLevelTrue : MethodName := ⟨RX1, "isLevelTrue", "()Z"⟩
abbrev cX1_take : ByteArray := prog_3_method_6_code
def yX1_take : MethodName := ⟨RX1, "take", "(Z)V"⟩
def RX2 : String := "TraceQuestions$Kept"
def TX2 : u_T := fun k => match k with
  | 0 => ("TraceQuestions$Kept", "question", "LTraceQuestions$Question;", true)
  | 1 => ("TraceQuestions$Kept", "every", "J", true)
  | 2 => ("TraceQuestions$Kept", "next", "J", false)
  | _ => ("TraceQuestions$Kept", "latestCount", "I", false)
def tyX2 : Nat → FieldType := fun k => match k with
  | 0 => .object "TraceQuestions$Question"
  | 1 => .long
  | 2 => .long
  | _ => .int
abbrev wsX20 : List Cond := u_ws RX2 TX2 4
theorem nmX2 : ∀ a, a < 4 → ∀ b, b < 4 → a ≠ b → (TX2 a).2.1 ≠ (TX2 b).2.1 := by decide +kernel
theorem tyX2_ok : ∀ k, k < 4 → parseFieldDescriptor (TX2 k).2.2.1 = some (tyX2 k) := by decide +kernel
abbrev cX2_init : ByteArray := prog_4_method_1_code
def yX2_init : MethodName := ⟨RX2, "<init>", "(LTraceQuestions$Question;JJ)V"⟩
abbrev cX2_question : ByteArray := prog_4_method_2_code
def yX2_question : MethodName := ⟨RX2, "question", "()LTraceQuestions$Question;"⟩
abbrev cX2_latestCount : ByteArray := prog_4_method_3_code
def yX2_latestCount : MethodName := ⟨RX2, "latestCount", "()I"⟩
abbrev cX2_setLatestCount : ByteArray := prog_4_method_4_code
def yX2_setLatestCount : MethodName := ⟨RX2, "setLatestCount", "(I)V"⟩
abbrev cX2_passTo : ByteArray := prog_4_method_5_code
def yX2_passTo : MethodName := ⟨RX2, "passTo", "(J)I"⟩
def RX3 : String := "TraceQuestions$Question"
def TX3 : u_T := fun k => match k with
  | 0 => ("TraceQuestions$Question", "steps", "[I", true)
  | 1 => ("TraceQuestions$Question", "testFields", "[I", true)
  | 2 => ("TraceQuestions$Question", "testRelations", "[C", true)
  | 3 => ("TraceQuestions$Question", "testNumbers", "[I", true)
  | 4 => ("TraceQuestions$Question", "stepCount", "I", false)
  | 5 => ("TraceQuestions$Question", "testCount", "I", false)
  | 6 => ("TraceQuestions$Question", "fields", "I", false)
  | 7 => ("TraceQuestions$Question", "tail", "I", false)
  | 8 => ("TraceQuestions$Question", "tailField", "I", false)
  | _ => ("TraceQuestions$Question", "asker", "I", false)
def tyX3 : Nat → FieldType := fun k => match k with
  | 0 => .array .int
  | 1 => .array .int
  | 2 => .array .char
  | 3 => .array .int
  | 4 => .int
  | 5 => .int
  | 6 => .int
  | 7 => .int
  | 8 => .int
  | _ => .int
abbrev wsX30 : List Cond := u_ws RX3 TX3 10
theorem nmX3 : ∀ a, a < 10 → ∀ b, b < 10 → a ≠ b → (TX3 a).2.1 ≠ (TX3 b).2.1 := by decide +kernel
theorem tyX3_ok : ∀ k, k < 10 → parseFieldDescriptor (TX3 k).2.2.1 = some (tyX3 k) := by decide +kernel
abbrev cX3_init : ByteArray := prog_5_method_1_code
def yX3_init : MethodName := ⟨RX3, "<init>", "()V"⟩
abbrev cX3_clear : ByteArray := prog_5_method_2_code
def yX3_clear : MethodName := ⟨RX3, "clear", "()V"⟩
abbrev cX3_asker : ByteArray := prog_5_method_3_code
def yX3_asker : MethodName := ⟨RX3, "asker", "()I"⟩
abbrev cX3_setAsker : ByteArray := prog_5_method_4_code
def yX3_setAsker : MethodName := ⟨RX3, "setAsker", "(I)V"⟩
abbrev cX3_fields : ByteArray := prog_5_method_5_code
def yX3_fields : MethodName := ⟨RX3, "fields", "()I"⟩
abbrev cX3_tests : ByteArray := prog_5_method_6_code
def yX3_tests : MethodName := ⟨RX3, "tests", "()I"⟩
abbrev cX3_tail : ByteArray := prog_5_method_7_code
def yX3_tail : MethodName := ⟨RX3, "tail", "()I"⟩
abbrev cX3_tailField : ByteArray := prog_5_method_8_code
def yX3_tailField : MethodName := ⟨RX3, "tailField", "()I"⟩
abbrev cX3_setTail : ByteArray := prog_5_method_9_code
def yX3_setTail : MethodName := ⟨RX3, "setTail", "(I)V"⟩
abbrev cX3_setTailField : ByteArray := prog_5_method_10_code
def yX3_setTailField : MethodName := ⟨RX3, "setTailField", "(I)V"⟩
abbrev cX3_addStep : ByteArray := prog_5_method_11_code
def yX3_addStep : MethodName := ⟨RX3, "addStep", "(I)V"⟩
abbrev cX3_addTest : ByteArray := prog_5_method_12_code
def yX3_addTest : MethodName := ⟨RX3, "addTest", "(ICI)V"⟩
abbrev cX3_stepCount : ByteArray := prog_5_method_13_code
def yX3_stepCount : MethodName := ⟨RX3, "stepCount", "()I"⟩
abbrev cX3_step : ByteArray := prog_5_method_14_code
def yX3_step : MethodName := ⟨RX3, "step", "(I)I"⟩
abbrev cX3_isTestTrue : ByteArray := prog_5_method_15_code
def yX3_isTestTrue : MethodName := ⟨RX3, "isTestTrue", "(ILTraceQuestions$Rows;I)Z"⟩
def RX4 : String := "TraceQuestions$Reader"
def TX4 : u_T := fun k => match k with
  | 0 => ("TraceQuestions$Reader", "draft", "LTraceQuestions$Question;", false)
  | 1 => ("TraceQuestions$Reader", "maskedFields", "I", false)
  | 2 => ("TraceQuestions$Reader", "state", "I", false)
  | 3 => ("TraceQuestions$Reader", "field", "I", false)
  | 4 => ("TraceQuestions$Reader", "relation", "C", false)
  | 5 => ("TraceQuestions$Reader", "number", "I", false)
  | 6 => ("TraceQuestions$Reader", "figures", "I", false)
  | 7 => ("TraceQuestions$Reader", "nested", "I", false)
  | 8 => ("TraceQuestions$Reader", "turns", "I", false)
  | 9 => ("TraceQuestions$Reader", "turnsBefore", "[I", true)
  | _ => ("TraceQuestions$Reader", "open", "I", false)
def tyX4 : Nat → FieldType := fun k => match k with
  | 0 => .object "TraceQuestions$Question"
  | 1 => .int
  | 2 => .int
  | 3 => .int
  | 4 => .char
  | 5 => .int
  | 6 => .int
  | 7 => .int
  | 8 => .int
  | 9 => .array .int
  | _ => .int
abbrev wsX40 : List Cond := u_ws RX4 TX4 11
theorem nmX4 : ∀ a, a < 11 → ∀ b, b < 11 → a ≠ b → (TX4 a).2.1 ≠ (TX4 b).2.1 := by decide +kernel
theorem tyX4_ok : ∀ k, k < 11 → parseFieldDescriptor (TX4 k).2.2.1 = some (tyX4 k) := by decide +kernel
abbrev cX4_init : ByteArray := prog_6_method_1_code
def yX4_init : MethodName := ⟨RX4, "<init>", "()V"⟩
abbrev cX4_draft : ByteArray := prog_6_method_2_code
def yX4_draft : MethodName := ⟨RX4, "draft", "()LTraceQuestions$Question;"⟩
abbrev cX4_writeNextInto : ByteArray := prog_6_method_3_code
def yX4_writeNextInto : MethodName := ⟨RX4, "writeNextInto", "(LTraceQuestions$Question;)V"⟩
abbrev cX4_firstFault : ByteArray := prog_6_method_4_code
def yX4_firstFault : MethodName := ⟨RX4, "firstFault", "([CII)I"⟩
abbrev cX4_begin : ByteArray := prog_6_method_5_code
def yX4_begin : MethodName := ⟨RX4, "begin", "(I)V"⟩
abbrev cX4_takes : ByteArray := prog_6_method_6_code
def yX4_takes : MethodName := ⟨RX4, "takes", "(C)Z"⟩
abbrev cX4_takesEnd : ByteArray := prog_6_method_7_code
def yX4_takesEnd : MethodName := ⟨RX4, "takesEnd", "()Z"⟩
abbrev cX4_takesTest : ByteArray := prog_6_method_8_code
def yX4_takesTest : MethodName := ⟨RX4, "takesTest", "(C)Z"⟩
abbrev cX4_takesTurn : ByteArray := prog_6_method_9_code
def yX4_takesTurn : MethodName := ⟨RX4, "takesTurn", "()Z"⟩
abbrev cX4_takesOpen : ByteArray := prog_6_method_10_code
def yX4_takesOpen : MethodName := ⟨RX4, "takesOpen", "()Z"⟩
abbrev cX4_takesClose : ByteArray := prog_6_method_11_code
def yX4_takesClose : MethodName := ⟨RX4, "takesClose", "()Z"⟩
abbrev cX4_takesTestField : ByteArray := prog_6_method_12_code
def yX4_takesTestField : MethodName := ⟨RX4, "takesTestField", "(C)Z"⟩
abbrev cX4_takesRelation : ByteArray := prog_6_method_13_code
def yX4_takesRelation : MethodName := ⟨RX4, "takesRelation", "(C)Z"⟩
abbrev cX4_takesFigure : ByteArray := prog_6_method_14_code
def yX4_takesFigure : MethodName := ⟨RX4, "takesFigure", "(C)Z"⟩
abbrev cX4_takesBehindTest : ByteArray := prog_6_method_15_code
def yX4_takesBehindTest : MethodName := ⟨RX4, "takesBehindTest", "(C)Z"⟩
abbrev cX4_takesTail : ByteArray := prog_6_method_16_code
def yX4_takesTail : MethodName := ⟨RX4, "takesTail", "(C)Z"⟩
abbrev cX4_takesTailField : ByteArray := prog_6_method_17_code
def yX4_takesTailField : MethodName := ⟨RX4, "takesTailField", "(C)Z"⟩
abbrev cX4_endFieldTest : ByteArray := prog_6_method_18_code
def yX4_endFieldTest : MethodName := ⟨RX4, "endFieldTest", "()V"⟩
abbrev cX4_endTest : ByteArray := prog_6_method_19_code
def yX4_endTest : MethodName := ⟨RX4, "endTest", "()V"⟩
abbrev cX4_isOpenField : ByteArray := prog_6_method_20_code
def yX4_isOpenField : MethodName := ⟨RX4, "isOpenField", "(C)Z"⟩
abbrev cX4_fieldOf : ByteArray := prog_6_method_21_code
def yX4_fieldOf : MethodName := ⟨RX4, "fieldOf", "(C)I"⟩
abbrev cX4_tailOf : ByteArray := prog_6_method_22_code
def yX4_tailOf : MethodName := ⟨RX4, "tailOf", "(C)I"⟩
def RX5 : String := "TraceQuestions$Rights"
def TX5 : u_T := fun k => match k with
  | 0 => ("TraceQuestions$Rights", "kinds", "[[I", true)
  | 1 => ("TraceQuestions$Rights", "counts", "[I", true)
  | _ => ("TraceQuestions$Rights", "count", "I", false)
def tyX5 : Nat → FieldType := fun k => match k with
  | 0 => .array (.array .int)
  | 1 => .array .int
  | _ => .int
abbrev wsX50 : List Cond := u_ws RX5 TX5 3
theorem nmX5 : ∀ a, a < 3 → ∀ b, b < 3 → a ≠ b → (TX5 a).2.1 ≠ (TX5 b).2.1 := by decide +kernel
theorem tyX5_ok : ∀ k, k < 3 → parseFieldDescriptor (TX5 k).2.2.1 = some (tyX5 k) := by decide +kernel
abbrev cX5_init : ByteArray := prog_7_method_1_code
def yX5_init : MethodName := ⟨RX5, "<init>", "()V"⟩
abbrev cX5_count : ByteArray := prog_7_method_2_code
def yX5_count : MethodName := ⟨RX5, "count", "()I"⟩
abbrev cX5_countOf : ByteArray := prog_7_method_3_code
def yX5_countOf : MethodName := ⟨RX5, "countOf", "(I)I"⟩
abbrev cX5_holds : ByteArray := prog_7_method_4_code
def yX5_holds : MethodName := ⟨RX5, "holds", "(III)Z"⟩
abbrev cX5_add : ByteArray := prog_7_method_5_code
def yX5_add : MethodName := ⟨RX5, "add", "(III)V"⟩
abbrev cX5_letSee : ByteArray := prog_7_method_6_code
def yX5_letSee : MethodName := ⟨RX5, "letSee", "(III)Z"⟩
abbrev cX5_kindsOf : ByteArray := prog_7_method_7_code
def yX5_kindsOf : MethodName := ⟨RX5, "kindsOf", "(II)I"⟩
def RX6 : String := "TraceQuestions$Rows"
def TX6 : u_T := fun k => match k with
  | 0 => ("TraceQuestions$Rows", "values", "[[I", true)
  | 1 => ("TraceQuestions$Rows", "upward", "[[I", true)
  | 2 => ("TraceQuestions$Rows", "downward", "[[I", true)
  | _ => ("TraceQuestions$Rows", "count", "I", false)
def tyX6 : Nat → FieldType := fun k => match k with
  | 0 => .array (.array .int)
  | 1 => .array (.array .int)
  | 2 => .array (.array .int)
  | _ => .int
abbrev wsX60 : List Cond := u_ws RX6 TX6 4
theorem nmX6 : ∀ a, a < 4 → ∀ b, b < 4 → a ≠ b → (TX6 a).2.1 ≠ (TX6 b).2.1 := by decide +kernel
theorem tyX6_ok : ∀ k, k < 4 → parseFieldDescriptor (TX6 k).2.2.1 = some (tyX6 k) := by decide +kernel
abbrev cX6_init : ByteArray := prog_8_method_1_code
def yX6_init : MethodName := ⟨RX6, "<init>", "()V"⟩
abbrev cX6_count : ByteArray := prog_8_method_2_code
def yX6_count : MethodName := ⟨RX6, "count", "()I"⟩
abbrev cX6_add : ByteArray := prog_8_method_3_code
def yX6_add : MethodName := ⟨RX6, "add", "(IIIII)I"⟩
abbrev cX6_value : ByteArray := prog_8_method_4_code
def yX6_value : MethodName := ⟨RX6, "value", "(II)I"⟩
abbrev cX6_numberAt : ByteArray := prog_8_method_5_code
def yX6_numberAt : MethodName := ⟨RX6, "numberAt", "(III)I"⟩
abbrev cX6_putInOrders : ByteArray := prog_8_method_6_code
def yX6_putInOrders : MethodName := ⟨RX6, "putInOrders", "()V"⟩
abbrev cX6_behindLast : ByteArray := prog_8_method_7_code
def yX6_behindLast : MethodName := ⟨RX6, "behindLast", "(IIZ)I"⟩
abbrev cX6_insert : ByteArray := prog_8_method_8_code
def yX6_insert : MethodName := ⟨RX6, "insert", "([II)V"⟩
def RX7 : String := "TraceQuestions"
def TX7 : u_T := fun k => match k with
  | 0 => ("TraceQuestions", "rows", "LTraceQuestions$Rows;", true)
  | 1 => ("TraceQuestions", "rights", "LTraceQuestions$Rights;", true)
  | 2 => ("TraceQuestions", "reader", "LTraceQuestions$Reader;", true)
  | 3 => ("TraceQuestions", "judge", "LTraceQuestions$Judge;", true)
  | 4 => ("TraceQuestions", "text", "[C", true)
  | 5 => ("TraceQuestions", "signs", "I", false)
  | 6 => ("TraceQuestions", "maskedFields", "I", false)
  | 7 => ("TraceQuestions", "costBound", "I", false)
  | 8 => ("TraceQuestions", "latestCost", "J", false)
  | 9 => ("TraceQuestions", "answered", "LTraceQuestions$Question;", false)
  | 10 => ("TraceQuestions", "anyAnswered", "Z", false)
  | 11 => ("TraceQuestions", "latestFound", "LTraceQuestions$Found;", true)
  | 12 => ("TraceQuestions", "passingFound", "LTraceQuestions$Found;", true)
  | 13 => ("TraceQuestions", "keptQuestions", "[LTraceQuestions$Kept;", true)
  | 14 => ("TraceQuestions", "keptCount", "I", false)
  | _ => ("TraceQuestions", "time", "J", false)
def tyX7 : Nat → FieldType := fun k => match k with
  | 0 => .object "TraceQuestions$Rows"
  | 1 => .object "TraceQuestions$Rights"
  | 2 => .object "TraceQuestions$Reader"
  | 3 => .object "TraceQuestions$Judge"
  | 4 => .array .char
  | 5 => .int
  | 6 => .int
  | 7 => .int
  | 8 => .long
  | 9 => .object "TraceQuestions$Question"
  | 10 => .boolean
  | 11 => .object "TraceQuestions$Found"
  | 12 => .object "TraceQuestions$Found"
  | 13 => .array (.object "TraceQuestions$Kept")
  | 14 => .int
  | _ => .long
abbrev wsX70 : List Cond := u_ws RX7 TX7 16
theorem nmX7 : ∀ a, a < 16 → ∀ b, b < 16 → a ≠ b → (TX7 a).2.1 ≠ (TX7 b).2.1 := by decide +kernel
theorem tyX7_ok : ∀ k, k < 16 → parseFieldDescriptor (TX7 k).2.2.1 = some (tyX7 k) := by decide +kernel
abbrev cX7_init : ByteArray := prog_1_method_1_code
def yX7_init : MethodName := ⟨RX7, "<init>", "()V"⟩
abbrev cX7_row : ByteArray := prog_1_method_2_code
def yX7_row : MethodName := ⟨RX7, "row", "(IIIJI)I"⟩
abbrev cX7_sign : ByteArray := prog_1_method_3_code
def yX7_sign : MethodName := ⟨RX7, "sign", "(I)V"⟩
abbrev cX7_ask : ByteArray := prog_1_method_4_code
def yX7_ask : MethodName := ⟨RX7, "ask", "(I)I"⟩
abbrev cX7_found : ByteArray := prog_1_method_5_code
def yX7_found : MethodName := ⟨RX7, "found", "(II)J"⟩
abbrev cX7_page : ByteArray := prog_1_method_6_code
def yX7_page : MethodName := ⟨RX7, "page", "(IJI)I"⟩
abbrev cX7_right : ByteArray := prog_1_method_7_code
def yX7_right : MethodName := ⟨RX7, "right", "(III)I"⟩
abbrev cX7_masked : ByteArray := prog_1_method_8_code
def yX7_masked : MethodName := ⟨RX7, "masked", "(IZ)I"⟩
abbrev cX7_cost : ByteArray := prog_1_method_9_code
def yX7_cost : MethodName := ⟨RX7, "cost", "()J"⟩
abbrev cX7_bound : ByteArray := prog_1_method_10_code
def yX7_bound : MethodName := ⟨RX7, "bound", "(J)I"⟩
abbrev cX7_save : ByteArray := prog_1_method_11_code
def yX7_save : MethodName := ⟨RX7, "save", "(IJ)I"⟩
abbrev cX7_tick : ByteArray := prog_1_method_12_code
def yX7_tick : MethodName := ⟨RX7, "tick", "(J)I"⟩
abbrev cX7_saved : ByteArray := prog_1_method_13_code
def yX7_saved : MethodName := ⟨RX7, "saved", "(I)I"⟩
abbrev cX7_scan : ByteArray := prog_1_method_14_code
def yX7_scan : MethodName := ⟨RX7, "scan", "(I)I"⟩
abbrev cX7_isBelow : ByteArray := prog_1_method_15_code
def yX7_isBelow : MethodName := ⟨RX7, "isBelow", "(JI)Z"⟩
abbrev cX7_isMasked : ByteArray := prog_1_method_16_code
def yX7_isMasked : MethodName := ⟨RX7, "isMasked", "(I)Z"⟩
abbrev cX7_sees : ByteArray := prog_1_method_17_code
def yX7_sees : MethodName := ⟨RX7, "sees", "(II)Z"⟩
abbrev cX7_readText : ByteArray := prog_1_method_18_code
def yX7_readText : MethodName := ⟨RX7, "readText", "(I)I"⟩
abbrev cX7_costOf : ByteArray := prog_1_method_19_code
def yX7_costOf : MethodName := ⟨RX7, "costOf", "(LTraceQuestions$Question;)J"⟩
abbrev cX7_search : ByteArray := prog_1_method_20_code
def yX7_search : MethodName := ⟨RX7, "search", "(LTraceQuestions$Question;ILTraceQuestions$Found;)V"⟩
abbrev cX7_askKept : ByteArray := prog_1_method_21_code
def yX7_askKept : MethodName := ⟨RX7, "askKept", "(LTraceQuestions$Kept;)I"⟩
abbrev cX7_countFound : ByteArray := prog_1_method_22_code
def yX7_countFound : MethodName := ⟨RX7, "countFound", "(LTraceQuestions$Question;)I"⟩
def RX8 : String := "TraceQuestionsModel"
def TX8 : u_T := fun k => match k with
  | 0 => ("TraceQuestionsModel", "thrown", "I", false)
  | 1 => ("TraceQuestionsModel", "rows", "I", false)
  | 2 => ("TraceQuestionsModel", "fields", "[I", true)
  | 3 => ("TraceQuestionsModel", "rights", "I", false)
  | 4 => ("TraceQuestionsModel", "rightOf", "[I", true)
  | 5 => ("TraceQuestionsModel", "rightOwner", "[I", true)
  | 6 => ("TraceQuestionsModel", "rightKind", "[I", true)
  | 7 => ("TraceQuestionsModel", "masks", "[Z", true)
  | 8 => ("TraceQuestionsModel", "bound", "J", false)
  | 9 => ("TraceQuestionsModel", "now", "J", false)
  | 10 => ("TraceQuestionsModel", "lastCost", "J", false)
  | 11 => ("TraceQuestionsModel", "size", "I", false)
  | 12 => ("TraceQuestionsModel", "text", "[I", true)
  | 13 => ("TraceQuestionsModel", "answered", "Z", false)
  | 14 => ("TraceQuestionsModel", "askedSize", "I", false)
  | 15 => ("TraceQuestionsModel", "asked", "[I", true)
  | 16 => ("TraceQuestionsModel", "asker", "I", false)
  | 17 => ("TraceQuestionsModel", "kept", "I", false)
  | 18 => ("TraceQuestionsModel", "keptSize", "[I", true)
  | 19 => ("TraceQuestionsModel", "keptText", "[I", true)
  | 20 => ("TraceQuestionsModel", "keptWho", "[I", true)
  | 21 => ("TraceQuestionsModel", "every", "[J", true)
  | 22 => ("TraceQuestionsModel", "due", "[J", true)
  | 23 => ("TraceQuestionsModel", "saved", "[I", true)
  | 24 => ("TraceQuestionsModel", "fault", "I", false)
  | 25 => ("TraceQuestionsModel", "tests", "I", false)
  | 26 => ("TraceQuestionsModel", "tail", "I", false)
  | 27 => ("TraceQuestionsModel", "level", "I", false)
  | 28 => ("TraceQuestionsModel", "nots", "[I", true)
  | 29 => ("TraceQuestionsModel", "ors", "[Z", true)
  | 30 => ("TraceQuestionsModel", "ands", "[Z", true)
  | 31 => ("TraceQuestionsModel", "count", "I", false)
  | 32 => ("TraceQuestionsModel", "groups", "Z", false)
  | 33 => ("TraceQuestionsModel", "first", "[I", true)
  | 34 => ("TraceQuestionsModel", "second", "[I", true)
  | 35 => ("TraceQuestionsModel", "got", "I", false)
  | 36 => ("TraceQuestionsModel", "gotGroups", "Z", false)
  | 37 => ("TraceQuestionsModel", "gotFirst", "[I", true)
  | 38 => ("TraceQuestionsModel", "gotSecond", "[I", true)
  | _ => ("TraceQuestionsModel", "is", "[Z", true)
def tyX8 : Nat → FieldType := fun k => match k with
  | 0 => .int
  | 1 => .int
  | 2 => .array .int
  | 3 => .int
  | 4 => .array .int
  | 5 => .array .int
  | 6 => .array .int
  | 7 => .array .boolean
  | 8 => .long
  | 9 => .long
  | 10 => .long
  | 11 => .int
  | 12 => .array .int
  | 13 => .boolean
  | 14 => .int
  | 15 => .array .int
  | 16 => .int
  | 17 => .int
  | 18 => .array .int
  | 19 => .array .int
  | 20 => .array .int
  | 21 => .array .long
  | 22 => .array .long
  | 23 => .array .int
  | 24 => .int
  | 25 => .int
  | 26 => .int
  | 27 => .int
  | 28 => .array .int
  | 29 => .array .boolean
  | 30 => .array .boolean
  | 31 => .int
  | 32 => .boolean
  | 33 => .array .int
  | 34 => .array .int
  | 35 => .int
  | 36 => .boolean
  | 37 => .array .int
  | 38 => .array .int
  | _ => .array .boolean
abbrev wsX80 : List Cond := u_ws RX8 TX8 40
theorem nmX8 : ∀ a, a < 40 → ∀ b, b < 40 → a ≠ b → (TX8 a).2.1 ≠ (TX8 b).2.1 := by decide +kernel
theorem tyX8_ok : ∀ k, k < 40 → parseFieldDescriptor (TX8 k).2.2.1 = some (tyX8 k) := by decide +kernel
abbrev cX8_init : ByteArray := prog_10_method_1_code
def yX8_init : MethodName := ⟨RX8, "<init>", "()V"⟩
abbrev cX8_within : ByteArray := prog_10_method_3_code
def yX8_within : MethodName := ⟨RX8, "within", "(JJJ)Z"⟩
abbrev cX8_isAsker : ByteArray := prog_10_method_4_code
def yX8_isAsker : MethodName := ⟨RX8, "isAsker", "(I)Z"⟩
abbrev cX8_row : ByteArray := prog_10_method_5_code
def yX8_row : MethodName := ⟨RX8, "row", "(IIIJI)I"⟩
abbrev cX8_sign : ByteArray := prog_10_method_6_code
def yX8_sign : MethodName := ⟨RX8, "sign", "(I)V"⟩
abbrev cX8_fieldOf : ByteArray := prog_10_method_7_code
def yX8_fieldOf : MethodName := ⟨RX8, "fieldOf", "(I)I"⟩
abbrev cX8_isTail : ByteArray := prog_10_method_8_code
def yX8_isTail : MethodName := ⟨RX8, "isTail", "(I)Z"⟩
abbrev cX8_at : ByteArray := prog_10_method_9_code
def yX8_at : MethodName := ⟨RX8, "at", "([IIII)I"⟩
abbrev cX8_overs : ByteArray := prog_10_method_10_code
def yX8_overs : MethodName := ⟨RX8, "overs", "()I"⟩
abbrev cX8_look : ByteArray := prog_10_method_11_code
def yX8_look : MethodName := ⟨RX8, "look", "([III)V"⟩
abbrev cX8_lookAtTail : ByteArray := prog_10_method_12_code
def yX8_lookAtTail : MethodName := ⟨RX8, "lookAtTail", "([III)V"⟩
abbrev cX8_field : ByteArray := prog_10_method_13_code
def yX8_field : MethodName := ⟨RX8, "field", "(II)I"⟩
abbrev cX8_test : ByteArray := prog_10_method_14_code
def yX8_test : MethodName := ⟨RX8, "test", "(Z)V"⟩
abbrev cX8_isTrue : ByteArray := prog_10_method_15_code
def yX8_isTrue : MethodName := ⟨RX8, "isTrue", "([III)Z"⟩
abbrev cX8_sees : ByteArray := prog_10_method_16_code
def yX8_sees : MethodName := ⟨RX8, "sees", "(II)Z"⟩
abbrev cX8_find : ByteArray := prog_10_method_17_code
def yX8_find : MethodName := ⟨RX8, "find", "([IIIII)V"⟩
abbrev cX8_take : ByteArray := prog_10_method_18_code
def yX8_take : MethodName := ⟨RX8, "take", "(III)V"⟩
abbrev cX8_costNow : ByteArray := prog_10_method_19_code
def yX8_costNow : MethodName := ⟨RX8, "costNow", "()J"⟩
abbrev cX8_ask : ByteArray := prog_10_method_20_code
def yX8_ask : MethodName := ⟨RX8, "ask", "(I)I"⟩
abbrev cX8_found : ByteArray := prog_10_method_21_code
def yX8_found : MethodName := ⟨RX8, "found", "(II)J"⟩
abbrev cX8_page : ByteArray := prog_10_method_22_code
def yX8_page : MethodName := ⟨RX8, "page", "(IJI)I"⟩
abbrev cX8_right : ByteArray := prog_10_method_23_code
def yX8_right : MethodName := ⟨RX8, "right", "(III)I"⟩
abbrev cX8_masked : ByteArray := prog_10_method_24_code
def yX8_masked : MethodName := ⟨RX8, "masked", "(IZ)I"⟩
abbrev cX8_cost : ByteArray := prog_10_method_25_code
def yX8_cost : MethodName := ⟨RX8, "cost", "()J"⟩
abbrev cX8_bound : ByteArray := prog_10_method_26_code
def yX8_bound : MethodName := ⟨RX8, "bound", "(J)I"⟩
abbrev cX8_save : ByteArray := prog_10_method_27_code
def yX8_save : MethodName := ⟨RX8, "save", "(IJ)I"⟩
abbrev cX8_askKept : ByteArray := prog_10_method_28_code
def yX8_askKept : MethodName := ⟨RX8, "askKept", "(I)V"⟩
abbrev cX8_tick : ByteArray := prog_10_method_29_code
def yX8_tick : MethodName := ⟨RX8, "tick", "(J)I"⟩
abbrev cX8_saved : ByteArray := prog_10_method_30_code
def yX8_saved : MethodName := ⟨RX8, "saved", "(I)I"⟩
abbrev cX8_scan : ByteArray := prog_10_method_31_code
def yX8_scan : MethodName := ⟨RX8, "scan", "(I)I"⟩
def RL : String := "TraceQuestionsLaw"
abbrev cL_law : ByteArray := code
def yL_law : MethodName := ⟨RL, "law", "([I)Z"⟩
def wsL_law_r1 : List Cond := [Cond.classLink RL 7 RX7, Cond.instantiable RX7 16, Cond.initialized RX7, Cond.classLink RL 10 RX8, Cond.instantiable RX8 40, Cond.initialized RX8, Cond.constantLong RL 13 (4294967295), Cond.methodLink RL 9 yX7_init, Cond.instanceMethod yX7_init, Cond.code yX7_init cX7_init 1 none, Cond.methodLink RX7 1 objectInit, Cond.instanceMethod objectInit, Cond.code objectInit ⟨#[0xb1]⟩ 1 none, Cond.classLink RX7 7 RX6, Cond.instantiable RX6 4, Cond.initialized RX6, Cond.fieldLink RX7 10 "TraceQuestions" "rows" "LTraceQuestions$Rows;", Cond.classLink RX7 16 RX5, Cond.instantiable RX5 3, Cond.initialized RX5, Cond.fieldLink RX7 19 "TraceQuestions" "rights" "LTraceQuestions$Rights;", Cond.classLink RX7 23 RX4, Cond.instantiable RX4 11, Cond.initialized RX4]
def wsL_law_r2 : List Cond := [Cond.fieldLink RX7 26 "TraceQuestions" "reader" "LTraceQuestions$Reader;", Cond.classLink RX7 30 RX1, Cond.instantiable RX1 4, Cond.initialized RX1, Cond.fieldLink RX7 33 "TraceQuestions" "judge" "LTraceQuestions$Judge;", Cond.arrayClass .char, Cond.fieldLink RX7 37 "TraceQuestions" "text" "[C", Cond.fieldLink RX7 41 "TraceQuestions" "signs" "I", Cond.fieldLink RX7 45 "TraceQuestions" "maskedFields" "I", Cond.constant RX7 48 (100000), Cond.fieldLink RX7 49 "TraceQuestions" "costBound" "I", Cond.fieldLink RX7 52 "TraceQuestions" "latestCost" "J", Cond.classLink RX7 56 RX3, Cond.instantiable RX3 10, Cond.initialized RX3, Cond.fieldLink RX7 59 "TraceQuestions" "answered" "LTraceQuestions$Question;", Cond.fieldLink RX7 63 "TraceQuestions" "anyAnswered" "Z", Cond.classLink RX7 67 RX0, Cond.instantiable RX0 3, Cond.initialized RX0, Cond.fieldLink RX7 70 "TraceQuestions" "latestFound" "LTraceQuestions$Found;", Cond.fieldLink RX7 74 "TraceQuestions" "passingFound" "LTraceQuestions$Found;", Cond.classLink RX7 77 RX2, Cond.fieldLink RX7 79 "TraceQuestions" "keptQuestions" "[LTraceQuestions$Kept;"]
def wsL_law_r3 : List Cond := [Cond.fieldLink RX7 83 "TraceQuestions" "keptCount" "I", Cond.fieldLink RX7 86 "TraceQuestions" "time" "J", Cond.instanceMethod yX6_init, Cond.code yX6_init cX6_init 1 none, Cond.methodLink RX6 3 objectInit, Cond.classLink RX6 9 "[[I", Cond.arrayClass .int, Cond.fieldLink RX6 11 "TraceQuestions$Rows" "values" "[[I", Cond.fieldLink RX6 16 "TraceQuestions$Rows" "upward" "[[I", Cond.fieldLink RX6 19 "TraceQuestions$Rows" "downward" "[[I", Cond.fieldLink RX6 22 "TraceQuestions$Rows" "count" "I", Cond.instanceMethod yX5_init, Cond.code yX5_init cX5_init 1 none, Cond.methodLink RX5 3 objectInit, Cond.classLink RX5 9 "[[I", Cond.fieldLink RX5 11 "TraceQuestions$Rights" "kinds" "[[I", Cond.fieldLink RX5 16 "TraceQuestions$Rights" "counts" "[I", Cond.fieldLink RX5 20 "TraceQuestions$Rights" "count" "I", Cond.instanceMethod yX4_init, Cond.code yX4_init cX4_init 1 none, Cond.methodLink RX4 3 objectInit, Cond.classLink RX4 9 RX3, Cond.fieldLink RX4 12 "TraceQuestions$Reader" "draft" "LTraceQuestions$Question;", Cond.fieldLink RX4 18 "TraceQuestions$Reader" "maskedFields" "I"]
def wsL_law_r4 : List Cond := [Cond.fieldLink RX4 22 "TraceQuestions$Reader" "state" "I", Cond.fieldLink RX4 25 "TraceQuestions$Reader" "field" "I", Cond.fieldLink RX4 28 "TraceQuestions$Reader" "relation" "C", Cond.fieldLink RX4 32 "TraceQuestions$Reader" "number" "I", Cond.fieldLink RX4 35 "TraceQuestions$Reader" "figures" "I", Cond.fieldLink RX4 38 "TraceQuestions$Reader" "nested" "I", Cond.fieldLink RX4 41 "TraceQuestions$Reader" "turns" "I", Cond.fieldLink RX4 44 "TraceQuestions$Reader" "turnsBefore" "[I", Cond.fieldLink RX4 48 "TraceQuestions$Reader" "open" "I", Cond.instanceMethod yX3_init, Cond.code yX3_init cX3_init 1 none, Cond.methodLink RX3 3 objectInit, Cond.fieldLink RX3 9 "TraceQuestions$Question" "steps" "[I", Cond.fieldLink RX3 15 "TraceQuestions$Question" "testFields" "[I", Cond.fieldLink RX3 18 "TraceQuestions$Question" "testRelations" "[C", Cond.fieldLink RX3 22 "TraceQuestions$Question" "testNumbers" "[I", Cond.fieldLink RX3 25 "TraceQuestions$Question" "stepCount" "I", Cond.fieldLink RX3 29 "TraceQuestions$Question" "testCount" "I", Cond.fieldLink RX3 32 "TraceQuestions$Question" "fields" "I", Cond.fieldLink RX3 35 "TraceQuestions$Question" "tail" "I", Cond.fieldLink RX3 38 "TraceQuestions$Question" "tailField" "I", Cond.fieldLink RX3 41 "TraceQuestions$Question" "asker" "I", Cond.instanceMethod yX1_init, Cond.code yX1_init cX1_init 1 none]
def wsL_law_r5 : List Cond := [Cond.methodLink RX1 1 objectInit, Cond.fieldLink RX1 7 "TraceQuestions$Judge" "level" "I", Cond.fieldLink RX1 13 "TraceQuestions$Judge" "partsTrue" "I", Cond.fieldLink RX1 16 "TraceQuestions$Judge" "testsTrue" "I", Cond.fieldLink RX1 19 "TraceQuestions$Judge" "turned" "I", Cond.instanceMethod yX0_init, Cond.code yX0_init cX0_init 1 none, Cond.methodLink RX0 3 objectInit, Cond.fieldLink RX0 9 "TraceQuestions$Found" "first" "[I", Cond.fieldLink RX0 15 "TraceQuestions$Found" "howMany" "[I", Cond.fieldLink RX0 18 "TraceQuestions$Found" "count" "I", Cond.methodLink RL 12 yX8_init, Cond.instanceMethod yX8_init, Cond.code yX8_init cX8_init 1 none, Cond.methodLink RX8 1 objectInit, Cond.fieldLink RX8 7 "TraceQuestionsModel" "fields" "[I", Cond.fieldLink RX8 13 "TraceQuestionsModel" "rightOf" "[I", Cond.fieldLink RX8 16 "TraceQuestionsModel" "rightOwner" "[I", Cond.fieldLink RX8 19 "TraceQuestionsModel" "rightKind" "[I", Cond.arrayClass .boolean, Cond.fieldLink RX8 22 "TraceQuestionsModel" "masks" "[Z", Cond.constantLong RX8 26 (100000), Cond.fieldLink RX8 28 "TraceQuestionsModel" "bound" "J", Cond.fieldLink RX8 32 "TraceQuestionsModel" "text" "[I"]
def wsL_law_r6 : List Cond := [Cond.fieldLink RX8 35 "TraceQuestionsModel" "asked" "[I", Cond.fieldLink RX8 38 "TraceQuestionsModel" "keptSize" "[I", Cond.fieldLink RX8 41 "TraceQuestionsModel" "keptText" "[I", Cond.fieldLink RX8 44 "TraceQuestionsModel" "keptWho" "[I", Cond.arrayClass .long, Cond.fieldLink RX8 47 "TraceQuestionsModel" "every" "[J", Cond.fieldLink RX8 51 "TraceQuestionsModel" "due" "[J", Cond.fieldLink RX8 54 "TraceQuestionsModel" "saved" "[I", Cond.fieldLink RX8 57 "TraceQuestionsModel" "nots" "[I", Cond.fieldLink RX8 60 "TraceQuestionsModel" "ors" "[Z", Cond.fieldLink RX8 63 "TraceQuestionsModel" "ands" "[Z", Cond.fieldLink RX8 66 "TraceQuestionsModel" "first" "[I", Cond.fieldLink RX8 69 "TraceQuestionsModel" "second" "[I", Cond.fieldLink RX8 72 "TraceQuestionsModel" "gotFirst" "[I", Cond.fieldLink RX8 75 "TraceQuestionsModel" "gotSecond" "[I", Cond.fieldLink RX8 78 "TraceQuestionsModel" "is" "[Z", Cond.fieldLink RX8 81 "TraceQuestionsModel" "rows" "I", Cond.methodLink RL 15 yX7_row, Cond.instanceMethod yX7_row, Cond.selects RX7 yX7_row yX7_row, Cond.code yX7_row cX7_row 7 (some .int), Cond.constant RX7 93 (-1000002), Cond.constant RX7 98 (-1000004), Cond.methodLink RX7 89 yX7_isBelow]
def wsL_law_r7 : List Cond := [Cond.static yX7_isBelow, Cond.code yX7_isBelow cX7_isBelow 3 (some .boolean), Cond.methodLink RX7 94 yX6_count, Cond.instanceMethod yX6_count, Cond.selects RX6 yX6_count yX6_count, Cond.code yX6_count cX6_count 1 (some .int), Cond.methodLink RX7 99 yX6_add, Cond.instanceMethod yX6_add, Cond.selects RX6 yX6_add yX6_add, Cond.code yX6_add cX6_add 6 (some .int), Cond.constant RX6 26 (-1000004), Cond.methodLink RX6 27 yX6_putInOrders, Cond.instanceMethod yX6_putInOrders, Cond.selects RX6 yX6_putInOrders yX6_putInOrders, Cond.code yX6_putInOrders cX6_putInOrders 3 none, Cond.methodLink RX6 32 yX6_value, Cond.instanceMethod yX6_value, Cond.selects RX6 yX6_value yX6_value, Cond.code yX6_value cX6_value 3 (some .int), Cond.methodLink RX6 36 yX6_behindLast, Cond.instanceMethod yX6_behindLast, Cond.selects RX6 yX6_behindLast yX6_behindLast, Cond.code yX6_behindLast cX6_behindLast 7 (some .int), Cond.methodLink RX6 44 yX6_numberAt]
def wsL_law_r8 : List Cond := [Cond.instanceMethod yX6_numberAt, Cond.selects RX6 yX6_numberAt yX6_numberAt, Cond.code yX6_numberAt cX6_numberAt 4 (some .int), Cond.methodLink RX6 40 yX6_insert, Cond.instanceMethod yX6_insert, Cond.selects RX6 yX6_insert yX6_insert, Cond.code yX6_insert cX6_insert 4 none, Cond.methodLink RL 19 yX8_row, Cond.instanceMethod yX8_row, Cond.selects RX8 yX8_row yX8_row, Cond.code yX8_row cX8_row 7 (some .int), Cond.fieldLink RX8 85 "TraceQuestionsModel" "thrown" "I", Cond.constantLong RX8 94 (999), Cond.constantLong RX8 96 (19), Cond.constantLong RX8 88 (49), Cond.constantLong RX8 98 (20000), Cond.constantLong RX8 100 (99), Cond.constant RX8 102 (-1000002), Cond.constant RX8 103 (-1000004), Cond.methodLink RX8 90 yX8_within, Cond.static yX8_within, Cond.code yX8_within cX8_within 6 (some .boolean), Cond.methodLink RL 20 yX7_sign, Cond.instanceMethod yX7_sign]
def wsL_law_r9 : List Cond := [Cond.selects RX7 yX7_sign yX7_sign, Cond.code yX7_sign cX7_sign 2 none, Cond.methodLink RL 24 yX8_sign, Cond.instanceMethod yX8_sign, Cond.selects RX8 yX8_sign yX8_sign, Cond.code yX8_sign cX8_sign 2 none, Cond.fieldLink RX8 104 "TraceQuestionsModel" "size" "I", Cond.constantLong RX8 107 (32), Cond.constantLong RX8 109 (126), Cond.methodLink RL 25 yX7_ask, Cond.instanceMethod yX7_ask, Cond.selects RX7 yX7_ask yX7_ask, Cond.code yX7_ask cX7_ask 4 (some .int), Cond.constant RX7 103 (-1000001), Cond.constant RX7 116 (-1000003), Cond.methodLink RX7 104 yX7_readText, Cond.instanceMethod yX7_readText, Cond.selects RX7 yX7_readText yX7_readText, Cond.code yX7_readText cX7_readText 3 (some .int), Cond.methodLink RX7 179 yX4_firstFault, Cond.instanceMethod yX4_firstFault, Cond.selects RX4 yX4_firstFault yX4_firstFault, Cond.code yX4_firstFault cX4_firstFault 5 (some .int), Cond.methodLink RX4 51 yX4_begin]
def wsL_law_r10 : List Cond := [Cond.instanceMethod yX4_begin, Cond.selects RX4 yX4_begin yX4_begin, Cond.code yX4_begin cX4_begin 2 none, Cond.methodLink RX4 63 yX3_clear, Cond.instanceMethod yX3_clear, Cond.selects RX3 yX3_clear yX3_clear, Cond.code yX3_clear cX3_clear 1 none, Cond.methodLink RX4 55 yX4_takes, Cond.instanceMethod yX4_takes, Cond.selects RX4 yX4_takes yX4_takes, Cond.code yX4_takes cX4_takes 2 (some .boolean), Cond.methodLink RX4 66 yX4_takesTail, Cond.instanceMethod yX4_takesTail, Cond.selects RX4 yX4_takesTail yX4_takesTail, Cond.code yX4_takesTail cX4_takesTail 3 (some .boolean), Cond.methodLink RX4 116 yX4_tailOf, Cond.static yX4_tailOf, Cond.code yX4_tailOf cX4_tailOf 1 (some .int), Cond.methodLink RX4 119 yX3_setTail, Cond.instanceMethod yX3_setTail, Cond.selects RX3 yX3_setTail yX3_setTail, Cond.code yX3_setTail cX3_setTail 2 none, Cond.methodLink RX4 69 yX4_takesTest, Cond.instanceMethod yX4_takesTest]
def wsL_law_r11 : List Cond := [Cond.selects RX4 yX4_takesTest yX4_takesTest, Cond.code yX4_takesTest cX4_takesTest 2 (some .boolean), Cond.methodLink RX4 87 yX4_takesTurn, Cond.instanceMethod yX4_takesTurn, Cond.selects RX4 yX4_takesTurn yX4_takesTurn, Cond.code yX4_takesTurn cX4_takesTurn 1 (some .boolean), Cond.methodLink RX4 96 yX3_addStep, Cond.instanceMethod yX3_addStep, Cond.selects RX3 yX3_addStep yX3_addStep, Cond.code yX3_addStep cX3_addStep 2 none, Cond.methodLink RX4 90 yX4_takesOpen, Cond.instanceMethod yX4_takesOpen, Cond.selects RX4 yX4_takesOpen yX4_takesOpen, Cond.code yX4_takesOpen cX4_takesOpen 1 (some .boolean), Cond.methodLink RX4 93 yX4_takesTestField, Cond.instanceMethod yX4_takesTestField, Cond.selects RX4 yX4_takesTestField yX4_takesTestField, Cond.code yX4_takesTestField cX4_takesTestField 2 (some .boolean), Cond.methodLink RX4 102 yX4_isOpenField, Cond.instanceMethod yX4_isOpenField, Cond.selects RX4 yX4_isOpenField yX4_isOpenField, Cond.code yX4_isOpenField cX4_isOpenField 3 (some .boolean), Cond.methodLink RX4 109 yX4_fieldOf, Cond.static yX4_fieldOf]
def wsL_law_r12 : List Cond := [Cond.code yX4_fieldOf cX4_fieldOf 1 (some .int), Cond.methodLink RX4 105 yX3_tests, Cond.instanceMethod yX3_tests, Cond.selects RX3 yX3_tests yX3_tests, Cond.code yX3_tests cX3_tests 1 (some .int), Cond.methodLink RX4 72 yX4_takesRelation, Cond.instanceMethod yX4_takesRelation, Cond.selects RX4 yX4_takesRelation yX4_takesRelation, Cond.code yX4_takesRelation cX4_takesRelation 2 (some .boolean), Cond.methodLink RX4 75 yX4_takesFigure, Cond.instanceMethod yX4_takesFigure, Cond.selects RX4 yX4_takesFigure yX4_takesFigure, Cond.code yX4_takesFigure cX4_takesFigure 2 (some .boolean), Cond.methodLink RX4 78 yX4_endFieldTest, Cond.instanceMethod yX4_endFieldTest, Cond.selects RX4 yX4_endFieldTest yX4_endFieldTest, Cond.code yX4_endFieldTest cX4_endFieldTest 1 none, Cond.methodLink RX4 125 yX3_addTest, Cond.instanceMethod yX3_addTest, Cond.selects RX3 yX3_addTest yX3_addTest, Cond.code yX3_addTest cX3_addTest 4 none, Cond.methodLink RX3 44 yX3_addStep, Cond.methodLink RX4 99 yX4_endTest, Cond.instanceMethod yX4_endTest]
def wsL_law_r13 : List Cond := [Cond.selects RX4 yX4_endTest yX4_endTest, Cond.code yX4_endTest cX4_endTest 1 none, Cond.methodLink RX4 81 yX4_takesBehindTest, Cond.instanceMethod yX4_takesBehindTest, Cond.selects RX4 yX4_takesBehindTest yX4_takesBehindTest, Cond.code yX4_takesBehindTest cX4_takesBehindTest 2 (some .boolean), Cond.methodLink RX4 113 yX4_takesClose, Cond.instanceMethod yX4_takesClose, Cond.selects RX4 yX4_takesClose yX4_takesClose, Cond.code yX4_takesClose cX4_takesClose 1 (some .boolean), Cond.methodLink RX4 84 yX4_takesTailField, Cond.instanceMethod yX4_takesTailField, Cond.selects RX4 yX4_takesTailField yX4_takesTailField, Cond.code yX4_takesTailField cX4_takesTailField 2 (some .boolean), Cond.methodLink RX4 122 yX3_setTailField, Cond.instanceMethod yX3_setTailField, Cond.selects RX3 yX3_setTailField yX3_setTailField, Cond.code yX3_setTailField cX3_setTailField 2 none, Cond.methodLink RX4 59 yX4_takesEnd, Cond.instanceMethod yX4_takesEnd, Cond.selects RX4 yX4_takesEnd yX4_takesEnd, Cond.code yX4_takesEnd cX4_takesEnd 1 (some .boolean), Cond.methodLink RX7 108 yX4_draft, Cond.instanceMethod yX4_draft]
def wsL_law_r14 : List Cond := [Cond.selects RX4 yX4_draft yX4_draft, Cond.code yX4_draft cX4_draft 1 (some (.object "TraceQuestions$Question")), Cond.methodLink RX7 183 yX3_setAsker, Cond.instanceMethod yX3_setAsker, Cond.selects RX3 yX3_setAsker yX3_setAsker, Cond.code yX3_setAsker cX3_setAsker 2 none, Cond.methodLink RX7 112 yX7_costOf, Cond.instanceMethod yX7_costOf, Cond.selects RX7 yX7_costOf yX7_costOf, Cond.code yX7_costOf cX7_costOf 2 (some .long), Cond.methodLink RX7 187 yX3_tests, Cond.methodLink RX7 117 yX7_search, Cond.instanceMethod yX7_search, Cond.selects RX7 yX7_search yX7_search, Cond.code yX7_search cX7_search 6 none, Cond.methodLink RX7 190 yX0_clear, Cond.instanceMethod yX0_clear, Cond.selects RX0 yX0_clear yX0_clear, Cond.code yX0_clear cX0_clear 1 none, Cond.methodLink RX7 131 yX3_tail, Cond.instanceMethod yX3_tail, Cond.selects RX3 yX3_tail yX3_tail, Cond.code yX3_tail cX3_tail 1 (some .int), Cond.methodLink RX7 193 yX3_tailField]
def wsL_law_r15 : List Cond := [Cond.instanceMethod yX3_tailField, Cond.selects RX3 yX3_tailField yX3_tailField, Cond.code yX3_tailField cX3_tailField 1 (some .int), Cond.methodLink RX7 196 yX6_numberAt, Cond.methodLink RX7 200 yX3_asker, Cond.instanceMethod yX3_asker, Cond.selects RX3 yX3_asker yX3_asker, Cond.code yX3_asker cX3_asker 1 (some .int), Cond.methodLink RX7 172 yX7_sees, Cond.instanceMethod yX7_sees, Cond.selects RX7 yX7_sees yX7_sees, Cond.code yX7_sees cX7_sees 3 (some .boolean), Cond.methodLink RX7 141 yX6_value, Cond.methodLink RX7 176 yX5_letSee, Cond.instanceMethod yX5_letSee, Cond.selects RX5 yX5_letSee yX5_letSee, Cond.code yX5_letSee cX5_letSee 5 (some .boolean), Cond.methodLink RX5 24 yX5_kindsOf, Cond.instanceMethod yX5_kindsOf, Cond.selects RX5 yX5_kindsOf yX5_kindsOf, Cond.code yX5_kindsOf cX5_kindsOf 3 (some .int), Cond.methodLink RX7 203 yX1_isTrue, Cond.instanceMethod yX1_isTrue, Cond.selects RX1 yX1_isTrue yX1_isTrue]
def wsL_law_r16 : List Cond := [Cond.code yX1_isTrue cX1_isTrue 6 (some .boolean), Cond.methodLink RX1 22 yX1_beginLevel, Cond.instanceMethod yX1_beginLevel, Cond.selects RX1 yX1_beginLevel yX1_beginLevel, Cond.code yX1_beginLevel cX1_beginLevel 1 none, Cond.methodLink RX1 25 yX3_stepCount, Cond.instanceMethod yX3_stepCount, Cond.selects RX3 yX3_stepCount yX3_stepCount, Cond.code yX3_stepCount cX3_stepCount 1 (some .int), Cond.methodLink RX1 31 yX3_step, Cond.instanceMethod yX3_step, Cond.selects RX3 yX3_step yX3_step, Cond.code yX3_step cX3_step 2 (some .int), Cond.methodLink RX1 35 yX1_endLevel, Cond.instanceMethod yX1_endLevel, Cond.selects RX1 yX1_endLevel yX1_endLevel, Cond.code yX1_endLevel cX1_endLevel 2 none, Cond.methodLink RX1 46 yX1_isLevelTrue, Cond.instanceMethod yX1_isLevelTrue, Cond.selects RX1 yX1_isLevelTrue yX1_isLevelTrue, Cond.code yX1_isLevelTrue cX1_isLevelTrue 1 (some .boolean), Cond.methodLink RX1 42 yX1_take, Cond.instanceMethod yX1_take, Cond.selects RX1 yX1_take yX1_take]
def wsL_law_r17 : List Cond := [Cond.code yX1_take cX1_take 3 none, Cond.methodLink RX1 38 yX3_isTestTrue, Cond.instanceMethod yX3_isTestTrue, Cond.selects RX3 yX3_isTestTrue yX3_isTestTrue, Cond.code yX3_isTestTrue cX3_isTestTrue 5 (some .boolean), Cond.methodLink RX3 48 yX6_value, Cond.methodLink RX7 207 yX0_addToGroup, Cond.instanceMethod yX0_addToGroup, Cond.selects RX0 yX0_addToGroup yX0_addToGroup, Cond.code yX0_addToGroup cX0_addToGroup 3 none, Cond.methodLink RX0 22 yX0_add, Cond.instanceMethod yX0_add, Cond.selects RX0 yX0_add yX0_add, Cond.code yX0_add cX0_add 2 none, Cond.methodLink RX7 210 yX0_add, Cond.methodLink RX7 121 yX4_writeNextInto, Cond.instanceMethod yX4_writeNextInto, Cond.selects RX4 yX4_writeNextInto yX4_writeNextInto, Cond.code yX4_writeNextInto cX4_writeNextInto 2 none, Cond.methodLink RX7 125 yX0_count, Cond.instanceMethod yX0_count, Cond.selects RX0 yX0_count yX0_count, Cond.code yX0_count cX0_count 1 (some .int), Cond.methodLink RL 29 yX8_ask]
def wsL_law_r18 : List Cond := [Cond.instanceMethod yX8_ask, Cond.selects RX8 yX8_ask yX8_ask, Cond.code yX8_ask cX8_ask 4 (some .int), Cond.constant RX8 180 (-1000001), Cond.fieldLink RX8 114 "TraceQuestionsModel" "fault" "I", Cond.fieldLink RX8 188 "TraceQuestionsModel" "lastCost" "J", Cond.constant RX8 191 (-1000003), Cond.fieldLink RX8 196 "TraceQuestionsModel" "answered" "Z", Cond.fieldLink RX8 199 "TraceQuestionsModel" "asker" "I", Cond.fieldLink RX8 202 "TraceQuestionsModel" "askedSize" "I", Cond.fieldLink RX8 158 "TraceQuestionsModel" "got" "I", Cond.fieldLink RX8 205 "TraceQuestionsModel" "count" "I", Cond.fieldLink RX8 161 "TraceQuestionsModel" "gotGroups" "Z", Cond.fieldLink RX8 208 "TraceQuestionsModel" "groups" "Z", Cond.methodLink RX8 177 yX8_isAsker, Cond.static yX8_isAsker, Cond.code yX8_isAsker cX8_isAsker 1 (some .boolean), Cond.methodLink RX8 181 yX8_look, Cond.instanceMethod yX8_look, Cond.selects RX8 yX8_look yX8_look, Cond.code yX8_look cX8_look 12 none, Cond.fieldLink RX8 117 "TraceQuestionsModel" "tests" "I", Cond.fieldLink RX8 111 "TraceQuestionsModel" "level" "I", Cond.constantLong RX8 132 (48)]
def wsL_law_r19 : List Cond := [Cond.constantLong RX8 134 (57), Cond.fieldLink RX8 140 "TraceQuestionsModel" "tail" "I", Cond.methodLink RX8 120 yX8_at, Cond.static yX8_at, Cond.code yX8_at cX8_at 4 (some .int), Cond.methodLink RX8 124 yX8_isTail, Cond.static yX8_isTail, Cond.code yX8_isTail cX8_isTail 1 (some .boolean), Cond.methodLink RX8 128 yX8_fieldOf, Cond.static yX8_fieldOf, Cond.code yX8_fieldOf cX8_fieldOf 1 (some .int), Cond.methodLink RX8 136 yX8_overs, Cond.instanceMethod yX8_overs, Cond.selects RX8 yX8_overs yX8_overs, Cond.code yX8_overs cX8_overs 2 (some .int), Cond.methodLink RX8 143 yX8_lookAtTail, Cond.instanceMethod yX8_lookAtTail, Cond.selects RX8 yX8_lookAtTail yX8_lookAtTail, Cond.code yX8_lookAtTail cX8_lookAtTail 5 none, Cond.methodLink RX8 184 yX8_costNow, Cond.instanceMethod yX8_costNow, Cond.selects RX8 yX8_costNow yX8_costNow, Cond.code yX8_costNow cX8_costNow 1 (some .long), Cond.methodLink RX8 192 yX8_find]
def wsL_law_r20 : List Cond := [Cond.instanceMethod yX8_find, Cond.selects RX8 yX8_find yX8_find, Cond.code yX8_find cX8_find 12 none, Cond.methodLink RX8 165 yX8_sees, Cond.instanceMethod yX8_sees, Cond.selects RX8 yX8_sees yX8_sees, Cond.code yX8_sees cX8_sees 5 (some .boolean), Cond.fieldLink RX8 155 "TraceQuestionsModel" "rights" "I", Cond.methodLink RX8 151 yX8_field, Cond.instanceMethod yX8_field, Cond.selects RX8 yX8_field yX8_field, Cond.code yX8_field cX8_field 3 (some .int), Cond.methodLink RX8 169 yX8_isTrue, Cond.instanceMethod yX8_isTrue, Cond.selects RX8 yX8_isTrue yX8_isTrue, Cond.code yX8_isTrue cX8_isTrue 9 (some .boolean), Cond.methodLink RX8 147 yX8_test, Cond.instanceMethod yX8_test, Cond.selects RX8 yX8_test yX8_test, Cond.code yX8_test cX8_test 3 none, Cond.methodLink RX8 173 yX8_take, Cond.instanceMethod yX8_take, Cond.selects RX8 yX8_take yX8_take, Cond.code yX8_take cX8_take 5 none]
def wsL_law_r21 : List Cond := [Cond.methodLink RL 30 yX7_found, Cond.instanceMethod yX7_found, Cond.selects RX7 yX7_found yX7_found, Cond.code yX7_found cX7_found 4 (some .long), Cond.constantLong RX7 126 (-1), Cond.methodLink RX7 128 yX0_first, Cond.instanceMethod yX0_first, Cond.selects RX0 yX0_first yX0_first, Cond.code yX0_first cX0_first 2 (some .int), Cond.methodLink RX7 134 yX0_howMany, Cond.instanceMethod yX0_howMany, Cond.selects RX0 yX0_howMany yX0_howMany, Cond.code yX0_howMany cX0_howMany 2 (some .int), Cond.methodLink RX7 137 yX7_isMasked, Cond.instanceMethod yX7_isMasked, Cond.selects RX7 yX7_isMasked yX7_isMasked, Cond.code yX7_isMasked cX7_isMasked 2 (some .boolean), Cond.methodLink RL 34 yX8_found, Cond.instanceMethod yX8_found, Cond.selects RX8 yX8_found yX8_found, Cond.code yX8_found cX8_found 3 (some .long), Cond.constantLong RX8 211 (5), Cond.constantLong RX8 213 (-1), Cond.methodLink RL 35 yX7_page]
def wsL_law_r22 : List Cond := [Cond.instanceMethod yX7_page, Cond.selects RX7 yX7_page yX7_page, Cond.code yX7_page cX7_page 7 (some .int), Cond.constantLong RX7 145 (10), Cond.methodLink RL 39 yX8_page, Cond.instanceMethod yX8_page, Cond.selects RX8 yX8_page yX8_page, Cond.code yX8_page cX8_page 12 (some .int), Cond.constantLong RX8 215 (9), Cond.constantLong RX8 217 (10), Cond.methodLink RL 40 yX7_right, Cond.instanceMethod yX7_right, Cond.selects RX7 yX7_right yX7_right, Cond.code yX7_right cX7_right 4 (some .int), Cond.methodLink RX7 147 yX5_holds, Cond.instanceMethod yX5_holds, Cond.selects RX5 yX5_holds yX5_holds, Cond.code yX5_holds cX5_holds 4 (some .boolean), Cond.methodLink RX7 151 yX5_count, Cond.instanceMethod yX5_count, Cond.selects RX5 yX5_count yX5_count, Cond.code yX5_count cX5_count 1 (some .int), Cond.methodLink RX7 152 yX5_add, Cond.instanceMethod yX5_add]
def wsL_law_r23 : List Cond := [Cond.selects RX5 yX5_add yX5_add, Cond.code yX5_add cX5_add 4 none, Cond.methodLink RX7 155 yX5_countOf, Cond.instanceMethod yX5_countOf, Cond.selects RX5 yX5_countOf yX5_countOf, Cond.code yX5_countOf cX5_countOf 2 (some .int), Cond.methodLink RL 44 yX8_right, Cond.instanceMethod yX8_right, Cond.selects RX8 yX8_right yX8_right, Cond.code yX8_right cX8_right 7 (some .int), Cond.methodLink RL 45 yX7_masked, Cond.instanceMethod yX7_masked, Cond.selects RX7 yX7_masked yX7_masked, Cond.code yX7_masked cX7_masked 3 (some .int), Cond.methodLink RL 49 yX8_masked, Cond.instanceMethod yX8_masked, Cond.selects RX8 yX8_masked yX8_masked, Cond.code yX8_masked cX8_masked 4 (some .int), Cond.constantLong RX8 219 (4), Cond.methodLink RL 50 yX7_cost, Cond.instanceMethod yX7_cost, Cond.selects RX7 yX7_cost yX7_cost, Cond.code yX7_cost cX7_cost 1 (some .long), Cond.methodLink RL 54 yX8_cost]
def wsL_law_r24 : List Cond := [Cond.instanceMethod yX8_cost, Cond.selects RX8 yX8_cost yX8_cost, Cond.code yX8_cost cX8_cost 1 (some .long), Cond.methodLink RL 55 yX7_bound, Cond.instanceMethod yX7_bound, Cond.selects RX7 yX7_bound yX7_bound, Cond.code yX7_bound cX7_bound 4 (some .int), Cond.constantLong RX7 158 (1000000), Cond.methodLink RL 59 yX8_bound, Cond.instanceMethod yX8_bound, Cond.selects RX8 yX8_bound yX8_bound, Cond.code yX8_bound cX8_bound 5 (some .int), Cond.constantLong RX8 221 (1000000), Cond.methodLink RL 60 yX7_save, Cond.instanceMethod yX7_save, Cond.selects RX7 yX7_save yX7_save, Cond.code yX7_save cX7_save 5 (some .int), Cond.constantLong RX7 160 (1000), Cond.instantiable RX2 4, Cond.initialized RX2, Cond.methodLink RX7 162 yX2_init, Cond.instanceMethod yX2_init, Cond.code yX2_init cX2_init 6 none, Cond.methodLink RX2 3 objectInit]
def wsL_law_r25 : List Cond := [Cond.fieldLink RX2 9 "TraceQuestions$Kept" "latestCount" "I", Cond.fieldLink RX2 15 "TraceQuestions$Kept" "question" "LTraceQuestions$Question;", Cond.fieldLink RX2 19 "TraceQuestions$Kept" "every" "J", Cond.fieldLink RX2 23 "TraceQuestions$Kept" "next" "J", Cond.methodLink RL 64 yX8_save, Cond.instanceMethod yX8_save, Cond.selects RX8 yX8_save yX8_save, Cond.code yX8_save cX8_save 6 (some .int), Cond.constantLong RX8 223 (1000), Cond.fieldLink RX8 225 "TraceQuestionsModel" "kept" "I", Cond.fieldLink RX8 228 "TraceQuestionsModel" "now" "J", Cond.methodLink RL 65 yX7_tick, Cond.instanceMethod yX7_tick, Cond.selects RX7 yX7_tick yX7_tick, Cond.code yX7_tick cX7_tick 5 (some .int), Cond.methodLink RX7 165 yX7_askKept, Cond.instanceMethod yX7_askKept, Cond.selects RX7 yX7_askKept yX7_askKept, Cond.code yX7_askKept cX7_askKept 3 (some .int), Cond.methodLink RX7 212 yX2_passTo, Cond.instanceMethod yX2_passTo, Cond.selects RX2 yX2_passTo yX2_passTo, Cond.code yX2_passTo cX2_passTo 5 (some .int), Cond.methodLink RX7 216 yX2_question]
def wsL_law_r26 : List Cond := [Cond.instanceMethod yX2_question, Cond.selects RX2 yX2_question yX2_question, Cond.code yX2_question cX2_question 1 (some (.object "TraceQuestions$Question")), Cond.methodLink RX7 219 yX7_countFound, Cond.instanceMethod yX7_countFound, Cond.selects RX7 yX7_countFound yX7_countFound, Cond.code yX7_countFound cX7_countFound 2 (some .int), Cond.methodLink RX7 226 yX3_fields, Cond.instanceMethod yX3_fields, Cond.selects RX3 yX3_fields yX3_fields, Cond.code yX3_fields cX3_fields 1 (some .int), Cond.methodLink RX7 223 yX2_setLatestCount, Cond.instanceMethod yX2_setLatestCount, Cond.selects RX2 yX2_setLatestCount yX2_setLatestCount, Cond.code yX2_setLatestCount cX2_setLatestCount 2 none, Cond.methodLink RL 68 yX8_tick, Cond.instanceMethod yX8_tick, Cond.selects RX8 yX8_tick yX8_tick, Cond.code yX8_tick cX8_tick 6 (some .int), Cond.methodLink RX8 231 yX8_askKept, Cond.instanceMethod yX8_askKept, Cond.selects RX8 yX8_askKept yX8_askKept, Cond.code yX8_askKept cX8_askKept 2 none, Cond.methodLink RL 69 yX7_saved]
def wsL_law_r27 : List Cond := [Cond.instanceMethod yX7_saved, Cond.selects RX7 yX7_saved yX7_saved, Cond.code yX7_saved cX7_saved 3 (some .int), Cond.methodLink RX7 169 yX2_latestCount, Cond.instanceMethod yX2_latestCount, Cond.selects RX2 yX2_latestCount yX2_latestCount, Cond.code yX2_latestCount cX2_latestCount 1 (some .int), Cond.methodLink RL 72 yX8_saved, Cond.instanceMethod yX8_saved, Cond.selects RX8 yX8_saved yX8_saved, Cond.code yX8_saved cX8_saved 2 (some .int), Cond.methodLink RL 73 yX7_scan, Cond.instanceMethod yX7_scan, Cond.selects RX7 yX7_scan yX7_scan, Cond.code yX7_scan cX7_scan 4 (some .int), Cond.methodLink RL 76 yX8_scan, Cond.instanceMethod yX8_scan, Cond.selects RX8 yX8_scan yX8_scan, Cond.code yX8_scan cX8_scan 4 (some .int)]
def wsL_law : List Cond := (wsL_law_r1 ++ (wsL_law_r2 ++ (wsL_law_r3 ++ (wsL_law_r4 ++ (wsL_law_r5 ++ (wsL_law_r6 ++ (wsL_law_r7 ++ (wsL_law_r8 ++ (wsL_law_r9 ++ (wsL_law_r10 ++ (wsL_law_r11 ++ (wsL_law_r12 ++ (wsL_law_r13 ++ (wsL_law_r14 ++ (wsL_law_r15 ++ (wsL_law_r16 ++ (wsL_law_r17 ++ (wsL_law_r18 ++ (wsL_law_r19 ++ (wsL_law_r20 ++ (wsL_law_r21 ++ (wsL_law_r22 ++ (wsL_law_r23 ++ (wsL_law_r24 ++ (wsL_law_r25 ++ (wsL_law_r26 ++ wsL_law_r27)))))))))))))))))))))))))) ++ wsX70 ++ wsX80 ++ wsX60 ++ wsX50 ++ wsX40 ++ wsX10 ++ wsX30 ++ wsX00 ++ wsX20 ++ ([] : List Cond)
theorem inlX0 : ∀ w ∈ wsX00, w ∈ wsL_law := fun _ h => List.mem_append_left _ (List.mem_append_left _ (List.mem_append_right _ h))
theorem inlX1 : ∀ w ∈ wsX10, w ∈ wsL_law := fun _ h => List.mem_append_left _ (List.mem_append_left _ (List.mem_append_left _ (List.mem_append_left _ (List.mem_append_right _ h))))
theorem inlX2 : ∀ w ∈ wsX20, w ∈ wsL_law := fun _ h => List.mem_append_left _ (List.mem_append_right _ h)
theorem inlX3 : ∀ w ∈ wsX30, w ∈ wsL_law := fun _ h => List.mem_append_left _ (List.mem_append_left _ (List.mem_append_left _ (List.mem_append_right _ h)))
theorem inlX4 : ∀ w ∈ wsX40, w ∈ wsL_law := fun _ h => List.mem_append_left _ (List.mem_append_left _ (List.mem_append_left _ (List.mem_append_left _ (List.mem_append_left _ (List.mem_append_right _ h)))))
theorem inlX5 : ∀ w ∈ wsX50, w ∈ wsL_law := fun _ h => List.mem_append_left _ (List.mem_append_left _ (List.mem_append_left _ (List.mem_append_left _ (List.mem_append_left _ (List.mem_append_left _ (List.mem_append_right _ h))))))
theorem inlX6 : ∀ w ∈ wsX60, w ∈ wsL_law := fun _ h => List.mem_append_left _ (List.mem_append_left _ (List.mem_append_left _ (List.mem_append_left _ (List.mem_append_left _ (List.mem_append_left _ (List.mem_append_left _ (List.mem_append_right _ h)))))))
theorem inlX7 : ∀ w ∈ wsX70, w ∈ wsL_law := fun _ h => List.mem_append_left _ (List.mem_append_left _ (List.mem_append_left _ (List.mem_append_left _ (List.mem_append_left _ (List.mem_append_left _ (List.mem_append_left _ (List.mem_append_left _ (List.mem_append_left _ (List.mem_append_right _ h)))))))))
theorem inlX8 : ∀ w ∈ wsX80, w ∈ wsL_law := fun _ h => List.mem_append_left _ (List.mem_append_left _ (List.mem_append_left _ (List.mem_append_left _ (List.mem_append_left _ (List.mem_append_left _ (List.mem_append_left _ (List.mem_append_left _ (List.mem_append_right _ h))))))))
abbrev vwCl : List vw_C := [(RX0, TX0, 3), (RX1, TX1, 4), (RX2, TX2, 4), (RX3, TX3, 10), (RX4, TX4, 11), (RX5, TX5, 3), (RX6, TX6, 4), (RX7, TX7, 16), (RX8, TX8, 40)]
end
section
theorem dX0_init_0 : decode cX0_init 0 = .ok (.aload_n 0, 1) := by decide +kernel
theorem dX0_init_1 : decode cX0_init 1 = .ok (.invokespecial 3, 3) := by decide +kernel
theorem dX0_init_4 : decode cX0_init 4 = .ok (.aload_n 0, 1) := by decide +kernel
theorem dX0_init_5 : decode cX0_init 5 = .ok (.sipush 300, 3) := by decide +kernel
theorem dX0_init_8 : decode cX0_init 8 = .ok (.newarray .int, 2) := by decide +kernel
theorem dX0_init_10 : decode cX0_init 10 = .ok (.putfield 9, 3) := by decide +kernel
theorem dX0_init_13 : decode cX0_init 13 = .ok (.aload_n 0, 1) := by decide +kernel
theorem dX0_init_14 : decode cX0_init 14 = .ok (.sipush 300, 3) := by decide +kernel
theorem dX0_init_17 : decode cX0_init 17 = .ok (.newarray .int, 2) := by decide +kernel
theorem dX0_init_19 : decode cX0_init 19 = .ok (.putfield 15, 3) := by decide +kernel
theorem dX0_init_22 : decode cX0_init 22 = .ok (.aload_n 0, 1) := by decide +kernel
theorem dX0_init_23 : decode cX0_init 23 = .ok (.iconst 0, 1) := by decide +kernel
theorem dX0_init_24 : decode cX0_init 24 = .ok (.putfield 18, 3) := by decide +kernel
theorem dX0_init_27 : decode cX0_init 27 = .ok (.return_, 1) := by decide +kernel
theorem dX0_count_0 : decode cX0_count 0 = .ok (.aload_n 0, 1) := by decide +kernel
theorem dX0_count_1 : decode cX0_count 1 = .ok (.getfield 18, 3) := by decide +kernel
theorem dX0_count_4 : decode cX0_count 4 = .ok (.ireturn, 1) := by decide +kernel
theorem dX0_clear_0 : decode cX0_clear 0 = .ok (.aload_n 0, 1) := by decide +kernel
theorem dX0_clear_1 : decode cX0_clear 1 = .ok (.iconst 0, 1) := by decide +kernel
theorem dX0_clear_2 : decode cX0_clear 2 = .ok (.putfield 18, 3) := by decide +kernel
theorem dX0_clear_5 : decode cX0_clear 5 = .ok (.return_, 1) := by decide +kernel
theorem dX0_add_0 : decode cX0_add 0 = .ok (.aload_n 0, 1) := by decide +kernel
theorem dX0_add_1 : decode cX0_add 1 = .ok (.getfield 18, 3) := by decide +kernel
theorem dX0_add_4 : decode cX0_add 4 = .ok (.ifCond .lt 43, 3) := by decide +kernel
theorem dX0_add_7 : decode cX0_add 7 = .ok (.aload_n 0, 1) := by decide +kernel
theorem dX0_add_8 : decode cX0_add 8 = .ok (.getfield 18, 3) := by decide +kernel
theorem dX0_add_11 : decode cX0_add 11 = .ok (.sipush 300, 3) := by decide +kernel
theorem dX0_add_14 : decode cX0_add 14 = .ok (.if_icmp .ge 33, 3) := by decide +kernel
theorem dX0_add_17 : decode cX0_add 17 = .ok (.aload_n 0, 1) := by decide +kernel
theorem dX0_add_18 : decode cX0_add 18 = .ok (.getfield 9, 3) := by decide +kernel
theorem dX0_add_21 : decode cX0_add 21 = .ok (.aload_n 0, 1) := by decide +kernel
theorem dX0_add_22 : decode cX0_add 22 = .ok (.getfield 18, 3) := by decide +kernel
theorem dX0_add_25 : decode cX0_add 25 = .ok (.iload_n 1, 1) := by decide +kernel
theorem dX0_add_26 : decode cX0_add 26 = .ok (.iastore, 1) := by decide +kernel
theorem dX0_add_27 : decode cX0_add 27 = .ok (.aload_n 0, 1) := by decide +kernel
theorem dX0_add_28 : decode cX0_add 28 = .ok (.getfield 15, 3) := by decide +kernel
theorem dX0_add_31 : decode cX0_add 31 = .ok (.aload_n 0, 1) := by decide +kernel
theorem dX0_add_32 : decode cX0_add 32 = .ok (.getfield 18, 3) := by decide +kernel
theorem dX0_add_35 : decode cX0_add 35 = .ok (.iconst 1, 1) := by decide +kernel
theorem dX0_add_36 : decode cX0_add 36 = .ok (.iastore, 1) := by decide +kernel
theorem dX0_add_37 : decode cX0_add 37 = .ok (.aload_n 0, 1) := by decide +kernel
theorem dX0_add_38 : decode cX0_add 38 = .ok (.dup, 1) := by decide +kernel
theorem dX0_add_39 : decode cX0_add 39 = .ok (.getfield 18, 3) := by decide +kernel
theorem dX0_add_42 : decode cX0_add 42 = .ok (.iconst 1, 1) := by decide +kernel
theorem dX0_add_43 : decode cX0_add 43 = .ok (.iadd, 1) := by decide +kernel
theorem dX0_add_44 : decode cX0_add 44 = .ok (.putfield 18, 3) := by decide +kernel
theorem dX0_add_47 : decode cX0_add 47 = .ok (.return_, 1) := by decide +kernel
theorem dX0_addToGroup_0 : decode cX0_addToGroup 0 = .ok (.aload_n 0, 1) := by decide +kernel
theorem dX0_addToGroup_1 : decode cX0_addToGroup 1 = .ok (.getfield 18, 3) := by decide +kernel
theorem dX0_addToGroup_4 : decode cX0_addToGroup 4 = .ok (.iconst 1, 1) := by decide +kernel
theorem dX0_addToGroup_5 : decode cX0_addToGroup 5 = .ok (.isub, 1) := by decide +kernel
theorem dX0_addToGroup_6 : decode cX0_addToGroup 6 = .ok (.istore_n 2, 1) := by decide +kernel
theorem dX0_addToGroup_7 : decode cX0_addToGroup 7 = .ok (.iload_n 2, 1) := by decide +kernel
theorem dX0_addToGroup_8 : decode cX0_addToGroup 8 = .ok (.ifCond .lt 33, 3) := by decide +kernel
theorem dX0_addToGroup_11 : decode cX0_addToGroup 11 = .ok (.iload_n 2, 1) := by decide +kernel
theorem dX0_addToGroup_12 : decode cX0_addToGroup 12 = .ok (.sipush 300, 3) := by decide +kernel
theorem dX0_addToGroup_15 : decode cX0_addToGroup 15 = .ok (.if_icmp .ge 26, 3) := by decide +kernel
theorem dX0_addToGroup_18 : decode cX0_addToGroup 18 = .ok (.aload_n 0, 1) := by decide +kernel
theorem dX0_addToGroup_19 : decode cX0_addToGroup 19 = .ok (.getfield 9, 3) := by decide +kernel
theorem dX0_addToGroup_22 : decode cX0_addToGroup 22 = .ok (.iload_n 2, 1) := by decide +kernel
theorem dX0_addToGroup_23 : decode cX0_addToGroup 23 = .ok (.iaload, 1) := by decide +kernel
theorem dX0_addToGroup_24 : decode cX0_addToGroup 24 = .ok (.iload_n 1, 1) := by decide +kernel
theorem dX0_addToGroup_25 : decode cX0_addToGroup 25 = .ok (.if_icmp .ne 16, 3) := by decide +kernel
theorem dX0_addToGroup_28 : decode cX0_addToGroup 28 = .ok (.aload_n 0, 1) := by decide +kernel
theorem dX0_addToGroup_29 : decode cX0_addToGroup 29 = .ok (.getfield 15, 3) := by decide +kernel
theorem dX0_addToGroup_32 : decode cX0_addToGroup 32 = .ok (.iload_n 2, 1) := by decide +kernel
theorem dX0_addToGroup_33 : decode cX0_addToGroup 33 = .ok (.dup2, 1) := by decide +kernel
theorem dX0_addToGroup_34 : decode cX0_addToGroup 34 = .ok (.iaload, 1) := by decide +kernel
theorem dX0_addToGroup_35 : decode cX0_addToGroup 35 = .ok (.iconst 1, 1) := by decide +kernel
theorem dX0_addToGroup_36 : decode cX0_addToGroup 36 = .ok (.iadd, 1) := by decide +kernel
theorem dX0_addToGroup_37 : decode cX0_addToGroup 37 = .ok (.iastore, 1) := by decide +kernel
theorem dX0_addToGroup_38 : decode cX0_addToGroup 38 = .ok (.goto 8, 3) := by decide +kernel
theorem dX0_addToGroup_41 : decode cX0_addToGroup 41 = .ok (.aload_n 0, 1) := by decide +kernel
theorem dX0_addToGroup_42 : decode cX0_addToGroup 42 = .ok (.iload_n 1, 1) := by decide +kernel
theorem dX0_addToGroup_43 : decode cX0_addToGroup 43 = .ok (.invokevirtual 22, 3) := by decide +kernel
theorem dX0_addToGroup_46 : decode cX0_addToGroup 46 = .ok (.return_, 1) := by decide +kernel
theorem dX0_first_0 : decode cX0_first 0 = .ok (.iload_n 1, 1) := by decide +kernel
theorem dX0_first_1 : decode cX0_first 1 = .ok (.ifCond .lt 19, 3) := by decide +kernel
theorem dX0_first_4 : decode cX0_first 4 = .ok (.iload_n 1, 1) := by decide +kernel
theorem dX0_first_5 : decode cX0_first 5 = .ok (.sipush 300, 3) := by decide +kernel
theorem dX0_first_8 : decode cX0_first 8 = .ok (.if_icmp .ge 12, 3) := by decide +kernel
theorem dX0_first_11 : decode cX0_first 11 = .ok (.aload_n 0, 1) := by decide +kernel
theorem dX0_first_12 : decode cX0_first 12 = .ok (.getfield 9, 3) := by decide +kernel
theorem dX0_first_15 : decode cX0_first 15 = .ok (.iload_n 1, 1) := by decide +kernel
theorem dX0_first_16 : decode cX0_first 16 = .ok (.iaload, 1) := by decide +kernel
theorem dX0_first_17 : decode cX0_first 17 = .ok (.goto 4, 3) := by decide +kernel
theorem dX0_first_20 : decode cX0_first 20 = .ok (.iconst (-1), 1) := by decide +kernel
theorem dX0_first_21 : decode cX0_first 21 = .ok (.ireturn, 1) := by decide +kernel
theorem dX0_howMany_0 : decode cX0_howMany 0 = .ok (.iload_n 1, 1) := by decide +kernel
theorem dX0_howMany_1 : decode cX0_howMany 1 = .ok (.ifCond .lt 19, 3) := by decide +kernel
theorem dX0_howMany_4 : decode cX0_howMany 4 = .ok (.iload_n 1, 1) := by decide +kernel
theorem dX0_howMany_5 : decode cX0_howMany 5 = .ok (.sipush 300, 3) := by decide +kernel
theorem dX0_howMany_8 : decode cX0_howMany 8 = .ok (.if_icmp .ge 12, 3) := by decide +kernel
theorem dX0_howMany_11 : decode cX0_howMany 11 = .ok (.aload_n 0, 1) := by decide +kernel
theorem dX0_howMany_12 : decode cX0_howMany 12 = .ok (.getfield 15, 3) := by decide +kernel
theorem dX0_howMany_15 : decode cX0_howMany 15 = .ok (.iload_n 1, 1) := by decide +kernel
theorem dX0_howMany_16 : decode cX0_howMany 16 = .ok (.iaload, 1) := by decide +kernel
theorem dX0_howMany_17 : decode cX0_howMany 17 = .ok (.goto 4, 3) := by decide +kernel
theorem dX0_howMany_20 : decode cX0_howMany 20 = .ok (.iconst (-1), 1) := by decide +kernel
theorem dX0_howMany_21 : decode cX0_howMany 21 = .ok (.ireturn, 1) := by decide +kernel
theorem dX1_init_0 : decode cX1_init 0 = .ok (.aload_n 0, 1) := by decide +kernel
theorem dX1_init_1 : decode cX1_init 1 = .ok (.invokespecial 1, 3) := by decide +kernel
theorem dX1_init_4 : decode cX1_init 4 = .ok (.aload_n 0, 1) := by decide +kernel
theorem dX1_init_5 : decode cX1_init 5 = .ok (.iconst 1, 1) := by decide +kernel
theorem dX1_init_6 : decode cX1_init 6 = .ok (.putfield 7, 3) := by decide +kernel
theorem dX1_init_9 : decode cX1_init 9 = .ok (.aload_n 0, 1) := by decide +kernel
theorem dX1_init_10 : decode cX1_init 10 = .ok (.iconst 0, 1) := by decide +kernel
theorem dX1_init_11 : decode cX1_init 11 = .ok (.putfield 13, 3) := by decide +kernel
theorem dX1_init_14 : decode cX1_init 14 = .ok (.aload_n 0, 1) := by decide +kernel
theorem dX1_init_15 : decode cX1_init 15 = .ok (.iconst 1, 1) := by decide +kernel
theorem dX1_init_16 : decode cX1_init 16 = .ok (.putfield 16, 3) := by decide +kernel
theorem dX1_init_19 : decode cX1_init 19 = .ok (.aload_n 0, 1) := by decide +kernel
theorem dX1_init_20 : decode cX1_init 20 = .ok (.iconst 0, 1) := by decide +kernel
theorem dX1_init_21 : decode cX1_init 21 = .ok (.putfield 19, 3) := by decide +kernel
theorem dX1_init_24 : decode cX1_init 24 = .ok (.return_, 1) := by decide +kernel
theorem dX1_isTrue_0 : decode cX1_isTrue 0 = .ok (.aload_n 0, 1) := by decide +kernel
theorem dX1_isTrue_1 : decode cX1_isTrue 1 = .ok (.iconst 1, 1) := by decide +kernel
theorem dX1_isTrue_2 : decode cX1_isTrue 2 = .ok (.putfield 7, 3) := by decide +kernel
theorem dX1_isTrue_5 : decode cX1_isTrue 5 = .ok (.aload_n 0, 1) := by decide +kernel
theorem dX1_isTrue_6 : decode cX1_isTrue 6 = .ok (.invokevirtual 22, 3) := by decide +kernel
theorem dX1_isTrue_9 : decode cX1_isTrue 9 = .ok (.iconst 0, 1) := by decide +kernel
theorem dX1_isTrue_10 : decode cX1_isTrue 10 = .ok (.istore 4, 2) := by decide +kernel
theorem dX1_isTrue_12 : decode cX1_isTrue 12 = .ok (.iconst 0, 1) := by decide +kernel
theorem dX1_isTrue_13 : decode cX1_isTrue 13 = .ok (.istore 5, 2) := by decide +kernel
theorem dX1_isTrue_15 : decode cX1_isTrue 15 = .ok (.iload 5, 2) := by decide +kernel
theorem dX1_isTrue_17 : decode cX1_isTrue 17 = .ok (.aload_n 1, 1) := by decide +kernel
theorem dX1_isTrue_18 : decode cX1_isTrue 18 = .ok (.invokevirtual 25, 3) := by decide +kernel
theorem dX1_isTrue_21 : decode cX1_isTrue 21 = .ok (.if_icmp .ge 134, 3) := by decide +kernel
theorem dX1_isTrue_24 : decode cX1_isTrue 24 = .ok (.aload_n 1, 1) := by decide +kernel
theorem dX1_isTrue_25 : decode cX1_isTrue 25 = .ok (.iload 5, 2) := by decide +kernel
theorem dX1_isTrue_27 : decode cX1_isTrue 27 = .ok (.invokevirtual 31, 3) := by decide +kernel
theorem dX1_isTrue_30 : decode cX1_isTrue 30 = .ok (.tableswitch 104 1 4 #[30, 46, 63, 70], 30) := by decide +kernel
theorem dX1_isTrue_60 : decode cX1_isTrue 60 = .ok (.aload_n 0, 1) := by decide +kernel
theorem dX1_isTrue_61 : decode cX1_isTrue 61 = .ok (.dup, 1) := by decide +kernel
theorem dX1_isTrue_62 : decode cX1_isTrue 62 = .ok (.getfield 19, 3) := by decide +kernel
theorem dX1_isTrue_65 : decode cX1_isTrue 65 = .ok (.aload_n 0, 1) := by decide +kernel
theorem dX1_isTrue_66 : decode cX1_isTrue 66 = .ok (.getfield 7, 3) := by decide +kernel
theorem dX1_isTrue_69 : decode cX1_isTrue 69 = .ok (.ixor, 1) := by decide +kernel
theorem dX1_isTrue_70 : decode cX1_isTrue 70 = .ok (.putfield 19, 3) := by decide +kernel
theorem dX1_isTrue_73 : decode cX1_isTrue 73 = .ok (.goto 76, 3) := by decide +kernel
theorem dX1_isTrue_76 : decode cX1_isTrue 76 = .ok (.aload_n 0, 1) := by decide +kernel
theorem dX1_isTrue_77 : decode cX1_isTrue 77 = .ok (.dup, 1) := by decide +kernel
theorem dX1_isTrue_78 : decode cX1_isTrue 78 = .ok (.getfield 7, 3) := by decide +kernel
theorem dX1_isTrue_81 : decode cX1_isTrue 81 = .ok (.iconst 1, 1) := by decide +kernel
theorem dX1_isTrue_82 : decode cX1_isTrue 82 = .ok (.ishl, 1) := by decide +kernel
theorem dX1_isTrue_83 : decode cX1_isTrue 83 = .ok (.putfield 7, 3) := by decide +kernel
theorem dX1_isTrue_86 : decode cX1_isTrue 86 = .ok (.aload_n 0, 1) := by decide +kernel
theorem dX1_isTrue_87 : decode cX1_isTrue 87 = .ok (.invokevirtual 22, 3) := by decide +kernel
theorem dX1_isTrue_90 : decode cX1_isTrue 90 = .ok (.goto 59, 3) := by decide +kernel
theorem dX1_isTrue_93 : decode cX1_isTrue 93 = .ok (.aload_n 0, 1) := by decide +kernel
theorem dX1_isTrue_94 : decode cX1_isTrue 94 = .ok (.invokevirtual 35, 3) := by decide +kernel
theorem dX1_isTrue_97 : decode cX1_isTrue 97 = .ok (.goto 52, 3) := by decide +kernel
theorem dX1_isTrue_100 : decode cX1_isTrue 100 = .ok (.aload_n 0, 1) := by decide +kernel
theorem dX1_isTrue_101 : decode cX1_isTrue 101 = .ok (.dup, 1) := by decide +kernel
theorem dX1_isTrue_102 : decode cX1_isTrue 102 = .ok (.getfield 13, 3) := by decide +kernel
theorem dX1_isTrue_105 : decode cX1_isTrue 105 = .ok (.aload_n 0, 1) := by decide +kernel
theorem dX1_isTrue_106 : decode cX1_isTrue 106 = .ok (.getfield 16, 3) := by decide +kernel
theorem dX1_isTrue_109 : decode cX1_isTrue 109 = .ok (.aload_n 0, 1) := by decide +kernel
theorem dX1_isTrue_110 : decode cX1_isTrue 110 = .ok (.getfield 7, 3) := by decide +kernel
theorem dX1_isTrue_113 : decode cX1_isTrue 113 = .ok (.iand, 1) := by decide +kernel
theorem dX1_isTrue_114 : decode cX1_isTrue 114 = .ok (.ior, 1) := by decide +kernel
theorem dX1_isTrue_115 : decode cX1_isTrue 115 = .ok (.putfield 13, 3) := by decide +kernel
theorem dX1_isTrue_118 : decode cX1_isTrue 118 = .ok (.aload_n 0, 1) := by decide +kernel
theorem dX1_isTrue_119 : decode cX1_isTrue 119 = .ok (.dup, 1) := by decide +kernel
theorem dX1_isTrue_120 : decode cX1_isTrue 120 = .ok (.getfield 16, 3) := by decide +kernel
theorem dX1_isTrue_123 : decode cX1_isTrue 123 = .ok (.aload_n 0, 1) := by decide +kernel
theorem dX1_isTrue_124 : decode cX1_isTrue 124 = .ok (.getfield 7, 3) := by decide +kernel
theorem dX1_isTrue_127 : decode cX1_isTrue 127 = .ok (.ior, 1) := by decide +kernel
theorem dX1_isTrue_128 : decode cX1_isTrue 128 = .ok (.putfield 16, 3) := by decide +kernel
theorem dX1_isTrue_131 : decode cX1_isTrue 131 = .ok (.goto 18, 3) := by decide +kernel
theorem dX1_isTrue_134 : decode cX1_isTrue 134 = .ok (.aload_n 0, 1) := by decide +kernel
theorem dX1_isTrue_135 : decode cX1_isTrue 135 = .ok (.aload_n 1, 1) := by decide +kernel
theorem dX1_isTrue_136 : decode cX1_isTrue 136 = .ok (.iload 4, 2) := by decide +kernel
theorem dX1_isTrue_138 : decode cX1_isTrue 138 = .ok (.aload_n 2, 1) := by decide +kernel
theorem dX1_isTrue_139 : decode cX1_isTrue 139 = .ok (.iload_n 3, 1) := by decide +kernel
theorem dX1_isTrue_140 : decode cX1_isTrue 140 = .ok (.invokevirtual 38, 3) := by decide +kernel
theorem dX1_isTrue_143 : decode cX1_isTrue 143 = .ok (.invokevirtual 42, 3) := by decide +kernel
theorem dX1_isTrue_146 : decode cX1_isTrue 146 = .ok (.iinc 4 1, 3) := by decide +kernel
theorem dX1_isTrue_149 : decode cX1_isTrue 149 = .ok (.iinc 5 1, 3) := by decide +kernel
theorem dX1_isTrue_152 : decode cX1_isTrue 152 = .ok (.goto (-137), 3) := by decide +kernel
theorem dX1_isTrue_155 : decode cX1_isTrue 155 = .ok (.aload_n 0, 1) := by decide +kernel
theorem dX1_isTrue_156 : decode cX1_isTrue 156 = .ok (.invokevirtual 46, 3) := by decide +kernel
theorem dX1_isTrue_159 : decode cX1_isTrue 159 = .ok (.ireturn, 1) := by decide +kernel
theorem dX1_beginLevel_0 : decode cX1_beginLevel 0 = .ok (.aload_n 0, 1) := by decide +kernel
theorem dX1_beginLevel_1 : decode cX1_beginLevel 1 = .ok (.dup, 1) := by decide +kernel
theorem dX1_beginLevel_2 : decode cX1_beginLevel 2 = .ok (.getfield 13, 3) := by decide +kernel
theorem dX1_beginLevel_5 : decode cX1_beginLevel 5 = .ok (.aload_n 0, 1) := by decide +kernel
theorem dX1_beginLevel_6 : decode cX1_beginLevel 6 = .ok (.getfield 7, 3) := by decide +kernel
theorem dX1_beginLevel_9 : decode cX1_beginLevel 9 = .ok (.iconst (-1), 1) := by decide +kernel
theorem dX1_beginLevel_10 : decode cX1_beginLevel 10 = .ok (.ixor, 1) := by decide +kernel
theorem dX1_beginLevel_11 : decode cX1_beginLevel 11 = .ok (.iand, 1) := by decide +kernel
theorem dX1_beginLevel_12 : decode cX1_beginLevel 12 = .ok (.putfield 13, 3) := by decide +kernel
theorem dX1_beginLevel_15 : decode cX1_beginLevel 15 = .ok (.aload_n 0, 1) := by decide +kernel
theorem dX1_beginLevel_16 : decode cX1_beginLevel 16 = .ok (.dup, 1) := by decide +kernel
theorem dX1_beginLevel_17 : decode cX1_beginLevel 17 = .ok (.getfield 16, 3) := by decide +kernel
theorem dX1_beginLevel_20 : decode cX1_beginLevel 20 = .ok (.aload_n 0, 1) := by decide +kernel
theorem dX1_beginLevel_21 : decode cX1_beginLevel 21 = .ok (.getfield 7, 3) := by decide +kernel
theorem dX1_beginLevel_24 : decode cX1_beginLevel 24 = .ok (.ior, 1) := by decide +kernel
theorem dX1_beginLevel_25 : decode cX1_beginLevel 25 = .ok (.putfield 16, 3) := by decide +kernel
theorem dX1_beginLevel_28 : decode cX1_beginLevel 28 = .ok (.aload_n 0, 1) := by decide +kernel
theorem dX1_beginLevel_29 : decode cX1_beginLevel 29 = .ok (.dup, 1) := by decide +kernel
theorem dX1_beginLevel_30 : decode cX1_beginLevel 30 = .ok (.getfield 19, 3) := by decide +kernel
theorem dX1_beginLevel_33 : decode cX1_beginLevel 33 = .ok (.aload_n 0, 1) := by decide +kernel
theorem dX1_beginLevel_34 : decode cX1_beginLevel 34 = .ok (.getfield 7, 3) := by decide +kernel
theorem dX1_beginLevel_37 : decode cX1_beginLevel 37 = .ok (.iconst (-1), 1) := by decide +kernel
theorem dX1_beginLevel_38 : decode cX1_beginLevel 38 = .ok (.ixor, 1) := by decide +kernel
theorem dX1_beginLevel_39 : decode cX1_beginLevel 39 = .ok (.iand, 1) := by decide +kernel
theorem dX1_beginLevel_40 : decode cX1_beginLevel 40 = .ok (.putfield 19, 3) := by decide +kernel
theorem dX1_beginLevel_43 : decode cX1_beginLevel 43 = .ok (.return_, 1) := by decide +kernel
theorem dX1_endLevel_0 : decode cX1_endLevel 0 = .ok (.aload_n 0, 1) := by decide +kernel
theorem dX1_endLevel_1 : decode cX1_endLevel 1 = .ok (.invokevirtual 46, 3) := by decide +kernel
theorem dX1_endLevel_4 : decode cX1_endLevel 4 = .ok (.istore_n 1, 1) := by decide +kernel
theorem dX1_endLevel_5 : decode cX1_endLevel 5 = .ok (.aload_n 0, 1) := by decide +kernel
theorem dX1_endLevel_6 : decode cX1_endLevel 6 = .ok (.dup, 1) := by decide +kernel
theorem dX1_endLevel_7 : decode cX1_endLevel 7 = .ok (.getfield 7, 3) := by decide +kernel
theorem dX1_endLevel_10 : decode cX1_endLevel 10 = .ok (.iconst 1, 1) := by decide +kernel
theorem dX1_endLevel_11 : decode cX1_endLevel 11 = .ok (.iushr, 1) := by decide +kernel
theorem dX1_endLevel_12 : decode cX1_endLevel 12 = .ok (.putfield 7, 3) := by decide +kernel
theorem dX1_endLevel_15 : decode cX1_endLevel 15 = .ok (.aload_n 0, 1) := by decide +kernel
theorem dX1_endLevel_16 : decode cX1_endLevel 16 = .ok (.iload_n 1, 1) := by decide +kernel
theorem dX1_endLevel_17 : decode cX1_endLevel 17 = .ok (.invokevirtual 42, 3) := by decide +kernel
theorem dX1_endLevel_20 : decode cX1_endLevel 20 = .ok (.return_, 1) := by decide +kernel
theorem dX1_isLevelTrue_0 : decode cX1_isLevelTrue 0 = .ok (.aload_n 0, 1) := by decide +kernel
theorem dX1_isLevelTrue_1 : decode cX1_isLevelTrue 1 = .ok (.getfield 13, 3) := by decide +kernel
theorem dX1_isLevelTrue_4 : decode cX1_isLevelTrue 4 = .ok (.aload_n 0, 1) := by decide +kernel
theorem dX1_isLevelTrue_5 : decode cX1_isLevelTrue 5 = .ok (.getfield 16, 3) := by decide +kernel
theorem dX1_isLevelTrue_8 : decode cX1_isLevelTrue 8 = .ok (.ior, 1) := by decide +kernel
theorem dX1_isLevelTrue_9 : decode cX1_isLevelTrue 9 = .ok (.aload_n 0, 1) := by decide +kernel
theorem dX1_isLevelTrue_10 : decode cX1_isLevelTrue 10 = .ok (.getfield 7, 3) := by decide +kernel
theorem dX1_isLevelTrue_13 : decode cX1_isLevelTrue 13 = .ok (.iand, 1) := by decide +kernel
theorem dX1_isLevelTrue_14 : decode cX1_isLevelTrue 14 = .ok (.ifCond .eq 7, 3) := by decide +kernel
theorem dX1_isLevelTrue_17 : decode cX1_isLevelTrue 17 = .ok (.iconst 1, 1) := by decide +kernel
theorem dX1_isLevelTrue_18 : decode cX1_isLevelTrue 18 = .ok (.goto 4, 3) := by decide +kernel
theorem dX1_isLevelTrue_21 : decode cX1_isLevelTrue 21 = .ok (.iconst 0, 1) := by decide +kernel
theorem dX1_isLevelTrue_22 : decode cX1_isLevelTrue 22 = .ok (.ireturn, 1) := by decide +kernel
theorem dX1_take_0 : decode cX1_take 0 = .ok (.aload_n 0, 1) := by decide +kernel
theorem dX1_take_1 : decode cX1_take 1 = .ok (.getfield 19, 3) := by decide +kernel
theorem dX1_take_4 : decode cX1_take 4 = .ok (.aload_n 0, 1) := by decide +kernel
theorem dX1_take_5 : decode cX1_take 5 = .ok (.getfield 7, 3) := by decide +kernel
theorem dX1_take_8 : decode cX1_take 8 = .ok (.iand, 1) := by decide +kernel
theorem dX1_take_9 : decode cX1_take 9 = .ok (.ifCond .eq 7, 3) := by decide +kernel
theorem dX1_take_12 : decode cX1_take 12 = .ok (.iconst 1, 1) := by decide +kernel
theorem dX1_take_13 : decode cX1_take 13 = .ok (.goto 4, 3) := by decide +kernel
theorem dX1_take_16 : decode cX1_take 16 = .ok (.iconst 0, 1) := by decide +kernel
theorem dX1_take_17 : decode cX1_take 17 = .ok (.istore_n 2, 1) := by decide +kernel
theorem dX1_take_18 : decode cX1_take 18 = .ok (.iload_n 1, 1) := by decide +kernel
theorem dX1_take_19 : decode cX1_take 19 = .ok (.iload_n 2, 1) := by decide +kernel
theorem dX1_take_20 : decode cX1_take 20 = .ok (.if_icmp .ne 18, 3) := by decide +kernel
theorem dX1_take_23 : decode cX1_take 23 = .ok (.aload_n 0, 1) := by decide +kernel
theorem dX1_take_24 : decode cX1_take 24 = .ok (.dup, 1) := by decide +kernel
theorem dX1_take_25 : decode cX1_take 25 = .ok (.getfield 16, 3) := by decide +kernel
theorem dX1_take_28 : decode cX1_take 28 = .ok (.aload_n 0, 1) := by decide +kernel
theorem dX1_take_29 : decode cX1_take 29 = .ok (.getfield 7, 3) := by decide +kernel
theorem dX1_take_32 : decode cX1_take 32 = .ok (.iconst (-1), 1) := by decide +kernel
theorem dX1_take_33 : decode cX1_take 33 = .ok (.ixor, 1) := by decide +kernel
theorem dX1_take_34 : decode cX1_take 34 = .ok (.iand, 1) := by decide +kernel
theorem dX1_take_35 : decode cX1_take 35 = .ok (.putfield 16, 3) := by decide +kernel
theorem dX1_take_38 : decode cX1_take 38 = .ok (.aload_n 0, 1) := by decide +kernel
theorem dX1_take_39 : decode cX1_take 39 = .ok (.dup, 1) := by decide +kernel
theorem dX1_take_40 : decode cX1_take 40 = .ok (.getfield 19, 3) := by decide +kernel
theorem dX1_take_43 : decode cX1_take 43 = .ok (.aload_n 0, 1) := by decide +kernel
theorem dX1_take_44 : decode cX1_take 44 = .ok (.getfield 7, 3) := by decide +kernel
theorem dX1_take_47 : decode cX1_take 47 = .ok (.iconst (-1), 1) := by decide +kernel
theorem dX1_take_48 : decode cX1_take 48 = .ok (.ixor, 1) := by decide +kernel
theorem dX1_take_49 : decode cX1_take 49 = .ok (.iand, 1) := by decide +kernel
theorem dX1_take_50 : decode cX1_take 50 = .ok (.putfield 19, 3) := by decide +kernel
theorem dX1_take_53 : decode cX1_take 53 = .ok (.return_, 1) := by decide +kernel
theorem dX2_init_0 : decode cX2_init 0 = .ok (.aload_n 0, 1) := by decide +kernel
theorem dX2_init_1 : decode cX2_init 1 = .ok (.invokespecial 3, 3) := by decide +kernel
theorem dX2_init_4 : decode cX2_init 4 = .ok (.aload_n 0, 1) := by decide +kernel
theorem dX2_init_5 : decode cX2_init 5 = .ok (.iconst (-1), 1) := by decide +kernel
theorem dX2_init_6 : decode cX2_init 6 = .ok (.putfield 9, 3) := by decide +kernel
theorem dX2_init_9 : decode cX2_init 9 = .ok (.aload_n 0, 1) := by decide +kernel
theorem dX2_init_10 : decode cX2_init 10 = .ok (.aload_n 1, 1) := by decide +kernel
theorem dX2_init_11 : decode cX2_init 11 = .ok (.putfield 15, 3) := by decide +kernel
theorem dX2_init_14 : decode cX2_init 14 = .ok (.aload_n 0, 1) := by decide +kernel
theorem dX2_init_15 : decode cX2_init 15 = .ok (.lload_n 2, 1) := by decide +kernel
theorem dX2_init_16 : decode cX2_init 16 = .ok (.putfield 19, 3) := by decide +kernel
theorem dX2_init_19 : decode cX2_init 19 = .ok (.aload_n 0, 1) := by decide +kernel
theorem dX2_init_20 : decode cX2_init 20 = .ok (.lload 4, 2) := by decide +kernel
theorem dX2_init_22 : decode cX2_init 22 = .ok (.putfield 23, 3) := by decide +kernel
theorem dX2_init_25 : decode cX2_init 25 = .ok (.return_, 1) := by decide +kernel
theorem dX2_question_0 : decode cX2_question 0 = .ok (.aload_n 0, 1) := by decide +kernel
theorem dX2_question_1 : decode cX2_question 1 = .ok (.getfield 15, 3) := by decide +kernel
theorem dX2_question_4 : decode cX2_question 4 = .ok (.areturn, 1) := by decide +kernel
theorem dX2_latestCount_0 : decode cX2_latestCount 0 = .ok (.aload_n 0, 1) := by decide +kernel
theorem dX2_latestCount_1 : decode cX2_latestCount 1 = .ok (.getfield 9, 3) := by decide +kernel
theorem dX2_latestCount_4 : decode cX2_latestCount 4 = .ok (.ireturn, 1) := by decide +kernel
theorem dX2_setLatestCount_0 : decode cX2_setLatestCount 0 = .ok (.aload_n 0, 1) := by decide +kernel
theorem dX2_setLatestCount_1 : decode cX2_setLatestCount 1 = .ok (.iload_n 1, 1) := by decide +kernel
theorem dX2_setLatestCount_2 : decode cX2_setLatestCount 2 = .ok (.putfield 9, 3) := by decide +kernel
theorem dX2_setLatestCount_5 : decode cX2_setLatestCount 5 = .ok (.return_, 1) := by decide +kernel
theorem dX2_passTo_0 : decode cX2_passTo 0 = .ok (.aload_n 0, 1) := by decide +kernel
theorem dX2_passTo_1 : decode cX2_passTo 1 = .ok (.getfield 19, 3) := by decide +kernel
theorem dX2_passTo_4 : decode cX2_passTo 4 = .ok (.lconst 1, 1) := by decide +kernel
theorem dX2_passTo_5 : decode cX2_passTo 5 = .ok (.lcmp, 1) := by decide +kernel
theorem dX2_passTo_6 : decode cX2_passTo 6 = .ok (.ifCond .lt 12, 3) := by decide +kernel
theorem dX2_passTo_9 : decode cX2_passTo 9 = .ok (.lload_n 1, 1) := by decide +kernel
theorem dX2_passTo_10 : decode cX2_passTo 10 = .ok (.aload_n 0, 1) := by decide +kernel
theorem dX2_passTo_11 : decode cX2_passTo 11 = .ok (.getfield 23, 3) := by decide +kernel
theorem dX2_passTo_14 : decode cX2_passTo 14 = .ok (.lcmp, 1) := by decide +kernel
theorem dX2_passTo_15 : decode cX2_passTo 15 = .ok (.ifCond .ge 5, 3) := by decide +kernel
theorem dX2_passTo_18 : decode cX2_passTo 18 = .ok (.iconst 0, 1) := by decide +kernel
theorem dX2_passTo_19 : decode cX2_passTo 19 = .ok (.ireturn, 1) := by decide +kernel
theorem dX2_passTo_20 : decode cX2_passTo 20 = .ok (.lload_n 1, 1) := by decide +kernel
theorem dX2_passTo_21 : decode cX2_passTo 21 = .ok (.aload_n 0, 1) := by decide +kernel
theorem dX2_passTo_22 : decode cX2_passTo 22 = .ok (.getfield 23, 3) := by decide +kernel
theorem dX2_passTo_25 : decode cX2_passTo 25 = .ok (.lsub, 1) := by decide +kernel
theorem dX2_passTo_26 : decode cX2_passTo 26 = .ok (.aload_n 0, 1) := by decide +kernel
theorem dX2_passTo_27 : decode cX2_passTo 27 = .ok (.getfield 19, 3) := by decide +kernel
theorem dX2_passTo_30 : decode cX2_passTo 30 = .ok (.ldiv, 1) := by decide +kernel
theorem dX2_passTo_31 : decode cX2_passTo 31 = .ok (.lconst 1, 1) := by decide +kernel
theorem dX2_passTo_32 : decode cX2_passTo 32 = .ok (.ladd, 1) := by decide +kernel
theorem dX2_passTo_33 : decode cX2_passTo 33 = .ok (.lstore_n 3, 1) := by decide +kernel
theorem dX2_passTo_34 : decode cX2_passTo 34 = .ok (.aload_n 0, 1) := by decide +kernel
theorem dX2_passTo_35 : decode cX2_passTo 35 = .ok (.dup, 1) := by decide +kernel
theorem dX2_passTo_36 : decode cX2_passTo 36 = .ok (.getfield 23, 3) := by decide +kernel
theorem dX2_passTo_39 : decode cX2_passTo 39 = .ok (.lload_n 3, 1) := by decide +kernel
theorem dX2_passTo_40 : decode cX2_passTo 40 = .ok (.aload_n 0, 1) := by decide +kernel
theorem dX2_passTo_41 : decode cX2_passTo 41 = .ok (.getfield 19, 3) := by decide +kernel
theorem dX2_passTo_44 : decode cX2_passTo 44 = .ok (.lmul, 1) := by decide +kernel
theorem dX2_passTo_45 : decode cX2_passTo 45 = .ok (.ladd, 1) := by decide +kernel
theorem dX2_passTo_46 : decode cX2_passTo 46 = .ok (.putfield 23, 3) := by decide +kernel
theorem dX2_passTo_49 : decode cX2_passTo 49 = .ok (.lload_n 3, 1) := by decide +kernel
theorem dX2_passTo_50 : decode cX2_passTo 50 = .ok (.l2i, 1) := by decide +kernel
theorem dX2_passTo_51 : decode cX2_passTo 51 = .ok (.ireturn, 1) := by decide +kernel
theorem dX3_init_0 : decode cX3_init 0 = .ok (.aload_n 0, 1) := by decide +kernel
theorem dX3_init_1 : decode cX3_init 1 = .ok (.invokespecial 3, 3) := by decide +kernel
theorem dX3_init_4 : decode cX3_init 4 = .ok (.aload_n 0, 1) := by decide +kernel
theorem dX3_init_5 : decode cX3_init 5 = .ok (.sipush 200, 3) := by decide +kernel
theorem dX3_init_8 : decode cX3_init 8 = .ok (.newarray .int, 2) := by decide +kernel
theorem dX3_init_10 : decode cX3_init 10 = .ok (.putfield 9, 3) := by decide +kernel
theorem dX3_init_13 : decode cX3_init 13 = .ok (.aload_n 0, 1) := by decide +kernel
theorem dX3_init_14 : decode cX3_init 14 = .ok (.bipush 40, 2) := by decide +kernel
theorem dX3_init_16 : decode cX3_init 16 = .ok (.newarray .int, 2) := by decide +kernel
theorem dX3_init_18 : decode cX3_init 18 = .ok (.putfield 15, 3) := by decide +kernel
theorem dX3_init_21 : decode cX3_init 21 = .ok (.aload_n 0, 1) := by decide +kernel
theorem dX3_init_22 : decode cX3_init 22 = .ok (.bipush 40, 2) := by decide +kernel
theorem dX3_init_24 : decode cX3_init 24 = .ok (.newarray .char, 2) := by decide +kernel
theorem dX3_init_26 : decode cX3_init 26 = .ok (.putfield 18, 3) := by decide +kernel
theorem dX3_init_29 : decode cX3_init 29 = .ok (.aload_n 0, 1) := by decide +kernel
theorem dX3_init_30 : decode cX3_init 30 = .ok (.bipush 40, 2) := by decide +kernel
theorem dX3_init_32 : decode cX3_init 32 = .ok (.newarray .int, 2) := by decide +kernel
theorem dX3_init_34 : decode cX3_init 34 = .ok (.putfield 22, 3) := by decide +kernel
theorem dX3_init_37 : decode cX3_init 37 = .ok (.aload_n 0, 1) := by decide +kernel
theorem dX3_init_38 : decode cX3_init 38 = .ok (.iconst 0, 1) := by decide +kernel
theorem dX3_init_39 : decode cX3_init 39 = .ok (.putfield 25, 3) := by decide +kernel
theorem dX3_init_42 : decode cX3_init 42 = .ok (.aload_n 0, 1) := by decide +kernel
theorem dX3_init_43 : decode cX3_init 43 = .ok (.iconst 0, 1) := by decide +kernel
theorem dX3_init_44 : decode cX3_init 44 = .ok (.putfield 29, 3) := by decide +kernel
theorem dX3_init_47 : decode cX3_init 47 = .ok (.aload_n 0, 1) := by decide +kernel
theorem dX3_init_48 : decode cX3_init 48 = .ok (.iconst 0, 1) := by decide +kernel
theorem dX3_init_49 : decode cX3_init 49 = .ok (.putfield 32, 3) := by decide +kernel
theorem dX3_init_52 : decode cX3_init 52 = .ok (.aload_n 0, 1) := by decide +kernel
theorem dX3_init_53 : decode cX3_init 53 = .ok (.iconst 0, 1) := by decide +kernel
theorem dX3_init_54 : decode cX3_init 54 = .ok (.putfield 35, 3) := by decide +kernel
theorem dX3_init_57 : decode cX3_init 57 = .ok (.aload_n 0, 1) := by decide +kernel
theorem dX3_init_58 : decode cX3_init 58 = .ok (.iconst 0, 1) := by decide +kernel
theorem dX3_init_59 : decode cX3_init 59 = .ok (.putfield 38, 3) := by decide +kernel
theorem dX3_init_62 : decode cX3_init 62 = .ok (.aload_n 0, 1) := by decide +kernel
theorem dX3_init_63 : decode cX3_init 63 = .ok (.iconst 0, 1) := by decide +kernel
theorem dX3_init_64 : decode cX3_init 64 = .ok (.putfield 41, 3) := by decide +kernel
theorem dX3_init_67 : decode cX3_init 67 = .ok (.return_, 1) := by decide +kernel
theorem dX3_clear_0 : decode cX3_clear 0 = .ok (.aload_n 0, 1) := by decide +kernel
theorem dX3_clear_1 : decode cX3_clear 1 = .ok (.iconst 0, 1) := by decide +kernel
theorem dX3_clear_2 : decode cX3_clear 2 = .ok (.putfield 25, 3) := by decide +kernel
theorem dX3_clear_5 : decode cX3_clear 5 = .ok (.aload_n 0, 1) := by decide +kernel
theorem dX3_clear_6 : decode cX3_clear 6 = .ok (.iconst 0, 1) := by decide +kernel
theorem dX3_clear_7 : decode cX3_clear 7 = .ok (.putfield 29, 3) := by decide +kernel
theorem dX3_clear_10 : decode cX3_clear 10 = .ok (.aload_n 0, 1) := by decide +kernel
theorem dX3_clear_11 : decode cX3_clear 11 = .ok (.iconst 0, 1) := by decide +kernel
theorem dX3_clear_12 : decode cX3_clear 12 = .ok (.putfield 32, 3) := by decide +kernel
theorem dX3_clear_15 : decode cX3_clear 15 = .ok (.aload_n 0, 1) := by decide +kernel
theorem dX3_clear_16 : decode cX3_clear 16 = .ok (.iconst 0, 1) := by decide +kernel
theorem dX3_clear_17 : decode cX3_clear 17 = .ok (.putfield 35, 3) := by decide +kernel
theorem dX3_clear_20 : decode cX3_clear 20 = .ok (.aload_n 0, 1) := by decide +kernel
theorem dX3_clear_21 : decode cX3_clear 21 = .ok (.iconst 0, 1) := by decide +kernel
theorem dX3_clear_22 : decode cX3_clear 22 = .ok (.putfield 38, 3) := by decide +kernel
theorem dX3_clear_25 : decode cX3_clear 25 = .ok (.return_, 1) := by decide +kernel
theorem dX3_asker_0 : decode cX3_asker 0 = .ok (.aload_n 0, 1) := by decide +kernel
theorem dX3_asker_1 : decode cX3_asker 1 = .ok (.getfield 41, 3) := by decide +kernel
theorem dX3_asker_4 : decode cX3_asker 4 = .ok (.ireturn, 1) := by decide +kernel
theorem dX3_setAsker_0 : decode cX3_setAsker 0 = .ok (.aload_n 0, 1) := by decide +kernel
theorem dX3_setAsker_1 : decode cX3_setAsker 1 = .ok (.iload_n 1, 1) := by decide +kernel
theorem dX3_setAsker_2 : decode cX3_setAsker 2 = .ok (.putfield 41, 3) := by decide +kernel
theorem dX3_setAsker_5 : decode cX3_setAsker 5 = .ok (.return_, 1) := by decide +kernel
theorem dX3_fields_0 : decode cX3_fields 0 = .ok (.aload_n 0, 1) := by decide +kernel
theorem dX3_fields_1 : decode cX3_fields 1 = .ok (.getfield 32, 3) := by decide +kernel
theorem dX3_fields_4 : decode cX3_fields 4 = .ok (.ireturn, 1) := by decide +kernel
theorem dX3_tests_0 : decode cX3_tests 0 = .ok (.aload_n 0, 1) := by decide +kernel
theorem dX3_tests_1 : decode cX3_tests 1 = .ok (.getfield 29, 3) := by decide +kernel
theorem dX3_tests_4 : decode cX3_tests 4 = .ok (.ireturn, 1) := by decide +kernel
theorem dX3_tail_0 : decode cX3_tail 0 = .ok (.aload_n 0, 1) := by decide +kernel
theorem dX3_tail_1 : decode cX3_tail 1 = .ok (.getfield 35, 3) := by decide +kernel
theorem dX3_tail_4 : decode cX3_tail 4 = .ok (.ireturn, 1) := by decide +kernel
theorem dX3_tailField_0 : decode cX3_tailField 0 = .ok (.aload_n 0, 1) := by decide +kernel
theorem dX3_tailField_1 : decode cX3_tailField 1 = .ok (.getfield 38, 3) := by decide +kernel
theorem dX3_tailField_4 : decode cX3_tailField 4 = .ok (.ireturn, 1) := by decide +kernel
theorem dX3_setTail_0 : decode cX3_setTail 0 = .ok (.aload_n 0, 1) := by decide +kernel
theorem dX3_setTail_1 : decode cX3_setTail 1 = .ok (.iload_n 1, 1) := by decide +kernel
theorem dX3_setTail_2 : decode cX3_setTail 2 = .ok (.putfield 35, 3) := by decide +kernel
theorem dX3_setTail_5 : decode cX3_setTail 5 = .ok (.return_, 1) := by decide +kernel
theorem dX3_setTailField_0 : decode cX3_setTailField 0 = .ok (.aload_n 0, 1) := by decide +kernel
theorem dX3_setTailField_1 : decode cX3_setTailField 1 = .ok (.iload_n 1, 1) := by decide +kernel
theorem dX3_setTailField_2 : decode cX3_setTailField 2 = .ok (.putfield 38, 3) := by decide +kernel
theorem dX3_setTailField_5 : decode cX3_setTailField 5 = .ok (.aload_n 0, 1) := by decide +kernel
theorem dX3_setTailField_6 : decode cX3_setTailField 6 = .ok (.dup, 1) := by decide +kernel
theorem dX3_setTailField_7 : decode cX3_setTailField 7 = .ok (.getfield 32, 3) := by decide +kernel
theorem dX3_setTailField_10 : decode cX3_setTailField 10 = .ok (.iconst 1, 1) := by decide +kernel
theorem dX3_setTailField_11 : decode cX3_setTailField 11 = .ok (.iload_n 1, 1) := by decide +kernel
theorem dX3_setTailField_12 : decode cX3_setTailField 12 = .ok (.ishl, 1) := by decide +kernel
theorem dX3_setTailField_13 : decode cX3_setTailField 13 = .ok (.ior, 1) := by decide +kernel
theorem dX3_setTailField_14 : decode cX3_setTailField 14 = .ok (.putfield 32, 3) := by decide +kernel
theorem dX3_setTailField_17 : decode cX3_setTailField 17 = .ok (.return_, 1) := by decide +kernel
theorem dX3_addStep_0 : decode cX3_addStep 0 = .ok (.aload_n 0, 1) := by decide +kernel
theorem dX3_addStep_1 : decode cX3_addStep 1 = .ok (.getfield 25, 3) := by decide +kernel
theorem dX3_addStep_4 : decode cX3_addStep 4 = .ok (.ifCond .lt 35, 3) := by decide +kernel
theorem dX3_addStep_7 : decode cX3_addStep 7 = .ok (.aload_n 0, 1) := by decide +kernel
theorem dX3_addStep_8 : decode cX3_addStep 8 = .ok (.getfield 25, 3) := by decide +kernel
theorem dX3_addStep_11 : decode cX3_addStep 11 = .ok (.aload_n 0, 1) := by decide +kernel
theorem dX3_addStep_12 : decode cX3_addStep 12 = .ok (.getfield 9, 3) := by decide +kernel
theorem dX3_addStep_15 : decode cX3_addStep 15 = .ok (.arraylength, 1) := by decide +kernel
theorem dX3_addStep_16 : decode cX3_addStep 16 = .ok (.if_icmp .ge 23, 3) := by decide +kernel
theorem dX3_addStep_19 : decode cX3_addStep 19 = .ok (.aload_n 0, 1) := by decide +kernel
theorem dX3_addStep_20 : decode cX3_addStep 20 = .ok (.getfield 9, 3) := by decide +kernel
theorem dX3_addStep_23 : decode cX3_addStep 23 = .ok (.aload_n 0, 1) := by decide +kernel
theorem dX3_addStep_24 : decode cX3_addStep 24 = .ok (.getfield 25, 3) := by decide +kernel
theorem dX3_addStep_27 : decode cX3_addStep 27 = .ok (.iload_n 1, 1) := by decide +kernel
theorem dX3_addStep_28 : decode cX3_addStep 28 = .ok (.iastore, 1) := by decide +kernel
theorem dX3_addStep_29 : decode cX3_addStep 29 = .ok (.aload_n 0, 1) := by decide +kernel
theorem dX3_addStep_30 : decode cX3_addStep 30 = .ok (.dup, 1) := by decide +kernel
theorem dX3_addStep_31 : decode cX3_addStep 31 = .ok (.getfield 25, 3) := by decide +kernel
theorem dX3_addStep_34 : decode cX3_addStep 34 = .ok (.iconst 1, 1) := by decide +kernel
theorem dX3_addStep_35 : decode cX3_addStep 35 = .ok (.iadd, 1) := by decide +kernel
theorem dX3_addStep_36 : decode cX3_addStep 36 = .ok (.putfield 25, 3) := by decide +kernel
theorem dX3_addStep_39 : decode cX3_addStep 39 = .ok (.return_, 1) := by decide +kernel
theorem dX3_addTest_0 : decode cX3_addTest 0 = .ok (.aload_n 0, 1) := by decide +kernel
theorem dX3_addTest_1 : decode cX3_addTest 1 = .ok (.getfield 29, 3) := by decide +kernel
theorem dX3_addTest_4 : decode cX3_addTest 4 = .ok (.ifCond .lt 69, 3) := by decide +kernel
theorem dX3_addTest_7 : decode cX3_addTest 7 = .ok (.aload_n 0, 1) := by decide +kernel
theorem dX3_addTest_8 : decode cX3_addTest 8 = .ok (.getfield 29, 3) := by decide +kernel
theorem dX3_addTest_11 : decode cX3_addTest 11 = .ok (.bipush 40, 2) := by decide +kernel
theorem dX3_addTest_13 : decode cX3_addTest 13 = .ok (.if_icmp .ge 60, 3) := by decide +kernel
theorem dX3_addTest_16 : decode cX3_addTest 16 = .ok (.aload_n 0, 1) := by decide +kernel
theorem dX3_addTest_17 : decode cX3_addTest 17 = .ok (.getfield 15, 3) := by decide +kernel
theorem dX3_addTest_20 : decode cX3_addTest 20 = .ok (.aload_n 0, 1) := by decide +kernel
theorem dX3_addTest_21 : decode cX3_addTest 21 = .ok (.getfield 29, 3) := by decide +kernel
theorem dX3_addTest_24 : decode cX3_addTest 24 = .ok (.iload_n 1, 1) := by decide +kernel
theorem dX3_addTest_25 : decode cX3_addTest 25 = .ok (.iastore, 1) := by decide +kernel
theorem dX3_addTest_26 : decode cX3_addTest 26 = .ok (.aload_n 0, 1) := by decide +kernel
theorem dX3_addTest_27 : decode cX3_addTest 27 = .ok (.getfield 18, 3) := by decide +kernel
theorem dX3_addTest_30 : decode cX3_addTest 30 = .ok (.aload_n 0, 1) := by decide +kernel
theorem dX3_addTest_31 : decode cX3_addTest 31 = .ok (.getfield 29, 3) := by decide +kernel
theorem dX3_addTest_34 : decode cX3_addTest 34 = .ok (.iload_n 2, 1) := by decide +kernel
theorem dX3_addTest_35 : decode cX3_addTest 35 = .ok (.castore, 1) := by decide +kernel
theorem dX3_addTest_36 : decode cX3_addTest 36 = .ok (.aload_n 0, 1) := by decide +kernel
theorem dX3_addTest_37 : decode cX3_addTest 37 = .ok (.getfield 22, 3) := by decide +kernel
theorem dX3_addTest_40 : decode cX3_addTest 40 = .ok (.aload_n 0, 1) := by decide +kernel
theorem dX3_addTest_41 : decode cX3_addTest 41 = .ok (.getfield 29, 3) := by decide +kernel
theorem dX3_addTest_44 : decode cX3_addTest 44 = .ok (.iload_n 3, 1) := by decide +kernel
theorem dX3_addTest_45 : decode cX3_addTest 45 = .ok (.iastore, 1) := by decide +kernel
theorem dX3_addTest_46 : decode cX3_addTest 46 = .ok (.aload_n 0, 1) := by decide +kernel
theorem dX3_addTest_47 : decode cX3_addTest 47 = .ok (.dup, 1) := by decide +kernel
theorem dX3_addTest_48 : decode cX3_addTest 48 = .ok (.getfield 29, 3) := by decide +kernel
theorem dX3_addTest_51 : decode cX3_addTest 51 = .ok (.iconst 1, 1) := by decide +kernel
theorem dX3_addTest_52 : decode cX3_addTest 52 = .ok (.iadd, 1) := by decide +kernel
theorem dX3_addTest_53 : decode cX3_addTest 53 = .ok (.putfield 29, 3) := by decide +kernel
theorem dX3_addTest_56 : decode cX3_addTest 56 = .ok (.aload_n 0, 1) := by decide +kernel
theorem dX3_addTest_57 : decode cX3_addTest 57 = .ok (.dup, 1) := by decide +kernel
theorem dX3_addTest_58 : decode cX3_addTest 58 = .ok (.getfield 32, 3) := by decide +kernel
theorem dX3_addTest_61 : decode cX3_addTest 61 = .ok (.iconst 1, 1) := by decide +kernel
theorem dX3_addTest_62 : decode cX3_addTest 62 = .ok (.iload_n 1, 1) := by decide +kernel
theorem dX3_addTest_63 : decode cX3_addTest 63 = .ok (.ishl, 1) := by decide +kernel
theorem dX3_addTest_64 : decode cX3_addTest 64 = .ok (.ior, 1) := by decide +kernel
theorem dX3_addTest_65 : decode cX3_addTest 65 = .ok (.putfield 32, 3) := by decide +kernel
theorem dX3_addTest_68 : decode cX3_addTest 68 = .ok (.aload_n 0, 1) := by decide +kernel
theorem dX3_addTest_69 : decode cX3_addTest 69 = .ok (.iconst 5, 1) := by decide +kernel
theorem dX3_addTest_70 : decode cX3_addTest 70 = .ok (.invokevirtual 44, 3) := by decide +kernel
theorem dX3_addTest_73 : decode cX3_addTest 73 = .ok (.return_, 1) := by decide +kernel
theorem dX3_stepCount_0 : decode cX3_stepCount 0 = .ok (.aload_n 0, 1) := by decide +kernel
theorem dX3_stepCount_1 : decode cX3_stepCount 1 = .ok (.getfield 25, 3) := by decide +kernel
theorem dX3_stepCount_4 : decode cX3_stepCount 4 = .ok (.ireturn, 1) := by decide +kernel
theorem dX3_step_0 : decode cX3_step 0 = .ok (.iload_n 1, 1) := by decide +kernel
theorem dX3_step_1 : decode cX3_step 1 = .ok (.ifCond .lt 21, 3) := by decide +kernel
theorem dX3_step_4 : decode cX3_step 4 = .ok (.iload_n 1, 1) := by decide +kernel
theorem dX3_step_5 : decode cX3_step 5 = .ok (.aload_n 0, 1) := by decide +kernel
theorem dX3_step_6 : decode cX3_step 6 = .ok (.getfield 9, 3) := by decide +kernel
theorem dX3_step_9 : decode cX3_step 9 = .ok (.arraylength, 1) := by decide +kernel
theorem dX3_step_10 : decode cX3_step 10 = .ok (.if_icmp .ge 12, 3) := by decide +kernel
theorem dX3_step_13 : decode cX3_step 13 = .ok (.aload_n 0, 1) := by decide +kernel
theorem dX3_step_14 : decode cX3_step 14 = .ok (.getfield 9, 3) := by decide +kernel
theorem dX3_step_17 : decode cX3_step 17 = .ok (.iload_n 1, 1) := by decide +kernel
theorem dX3_step_18 : decode cX3_step 18 = .ok (.iaload, 1) := by decide +kernel
theorem dX3_step_19 : decode cX3_step 19 = .ok (.goto 4, 3) := by decide +kernel
theorem dX3_step_22 : decode cX3_step 22 = .ok (.iconst 0, 1) := by decide +kernel
theorem dX3_step_23 : decode cX3_step 23 = .ok (.ireturn, 1) := by decide +kernel
theorem dX3_isTestTrue_0 : decode cX3_isTestTrue 0 = .ok (.iload_n 1, 1) := by decide +kernel
theorem dX3_isTestTrue_1 : decode cX3_isTestTrue 1 = .ok (.ifCond .lt 9, 3) := by decide +kernel
theorem dX3_isTestTrue_4 : decode cX3_isTestTrue 4 = .ok (.iload_n 1, 1) := by decide +kernel
theorem dX3_isTestTrue_5 : decode cX3_isTestTrue 5 = .ok (.bipush 40, 2) := by decide +kernel
theorem dX3_isTestTrue_7 : decode cX3_isTestTrue 7 = .ok (.if_icmp .lt 5, 3) := by decide +kernel
theorem dX3_isTestTrue_10 : decode cX3_isTestTrue 10 = .ok (.iconst 0, 1) := by decide +kernel
theorem dX3_isTestTrue_11 : decode cX3_isTestTrue 11 = .ok (.ireturn, 1) := by decide +kernel
theorem dX3_isTestTrue_12 : decode cX3_isTestTrue 12 = .ok (.aload_n 2, 1) := by decide +kernel
theorem dX3_isTestTrue_13 : decode cX3_isTestTrue 13 = .ok (.iload_n 3, 1) := by decide +kernel
theorem dX3_isTestTrue_14 : decode cX3_isTestTrue 14 = .ok (.aload_n 0, 1) := by decide +kernel
theorem dX3_isTestTrue_15 : decode cX3_isTestTrue 15 = .ok (.getfield 15, 3) := by decide +kernel
theorem dX3_isTestTrue_18 : decode cX3_isTestTrue 18 = .ok (.iload_n 1, 1) := by decide +kernel
theorem dX3_isTestTrue_19 : decode cX3_isTestTrue 19 = .ok (.iaload, 1) := by decide +kernel
theorem dX3_isTestTrue_20 : decode cX3_isTestTrue 20 = .ok (.invokevirtual 48, 3) := by decide +kernel
theorem dX3_isTestTrue_23 : decode cX3_isTestTrue 23 = .ok (.istore 4, 2) := by decide +kernel
theorem dX3_isTestTrue_25 : decode cX3_isTestTrue 25 = .ok (.aload_n 0, 1) := by decide +kernel
theorem dX3_isTestTrue_26 : decode cX3_isTestTrue 26 = .ok (.getfield 18, 3) := by decide +kernel
theorem dX3_isTestTrue_29 : decode cX3_isTestTrue 29 = .ok (.iload_n 1, 1) := by decide +kernel
theorem dX3_isTestTrue_30 : decode cX3_isTestTrue 30 = .ok (.caload, 1) := by decide +kernel
theorem dX3_isTestTrue_31 : decode cX3_isTestTrue 31 = .ok (.lookupswitch 59 #[(60, 42), (61, 25)], 25) := by decide +kernel
theorem dX3_isTestTrue_56 : decode cX3_isTestTrue 56 = .ok (.iload 4, 2) := by decide +kernel
theorem dX3_isTestTrue_58 : decode cX3_isTestTrue 58 = .ok (.aload_n 0, 1) := by decide +kernel
theorem dX3_isTestTrue_59 : decode cX3_isTestTrue 59 = .ok (.getfield 22, 3) := by decide +kernel
theorem dX3_isTestTrue_62 : decode cX3_isTestTrue 62 = .ok (.iload_n 1, 1) := by decide +kernel
theorem dX3_isTestTrue_63 : decode cX3_isTestTrue 63 = .ok (.iaload, 1) := by decide +kernel
theorem dX3_isTestTrue_64 : decode cX3_isTestTrue 64 = .ok (.if_icmp .ne 7, 3) := by decide +kernel
theorem dX3_isTestTrue_67 : decode cX3_isTestTrue 67 = .ok (.iconst 1, 1) := by decide +kernel
theorem dX3_isTestTrue_68 : decode cX3_isTestTrue 68 = .ok (.goto 4, 3) := by decide +kernel
theorem dX3_isTestTrue_71 : decode cX3_isTestTrue 71 = .ok (.iconst 0, 1) := by decide +kernel
theorem dX3_isTestTrue_72 : decode cX3_isTestTrue 72 = .ok (.ireturn, 1) := by decide +kernel
theorem dX3_isTestTrue_73 : decode cX3_isTestTrue 73 = .ok (.iload 4, 2) := by decide +kernel
theorem dX3_isTestTrue_75 : decode cX3_isTestTrue 75 = .ok (.aload_n 0, 1) := by decide +kernel
theorem dX3_isTestTrue_76 : decode cX3_isTestTrue 76 = .ok (.getfield 22, 3) := by decide +kernel
theorem dX3_isTestTrue_79 : decode cX3_isTestTrue 79 = .ok (.iload_n 1, 1) := by decide +kernel
theorem dX3_isTestTrue_80 : decode cX3_isTestTrue 80 = .ok (.iaload, 1) := by decide +kernel
theorem dX3_isTestTrue_81 : decode cX3_isTestTrue 81 = .ok (.if_icmp .ge 7, 3) := by decide +kernel
theorem dX3_isTestTrue_84 : decode cX3_isTestTrue 84 = .ok (.iconst 1, 1) := by decide +kernel
theorem dX3_isTestTrue_85 : decode cX3_isTestTrue 85 = .ok (.goto 4, 3) := by decide +kernel
theorem dX3_isTestTrue_88 : decode cX3_isTestTrue 88 = .ok (.iconst 0, 1) := by decide +kernel
theorem dX3_isTestTrue_89 : decode cX3_isTestTrue 89 = .ok (.ireturn, 1) := by decide +kernel
theorem dX3_isTestTrue_90 : decode cX3_isTestTrue 90 = .ok (.iload 4, 2) := by decide +kernel
theorem dX3_isTestTrue_92 : decode cX3_isTestTrue 92 = .ok (.aload_n 0, 1) := by decide +kernel
theorem dX3_isTestTrue_93 : decode cX3_isTestTrue 93 = .ok (.getfield 22, 3) := by decide +kernel
theorem dX3_isTestTrue_96 : decode cX3_isTestTrue 96 = .ok (.iload_n 1, 1) := by decide +kernel
theorem dX3_isTestTrue_97 : decode cX3_isTestTrue 97 = .ok (.iaload, 1) := by decide +kernel
theorem dX3_isTestTrue_98 : decode cX3_isTestTrue 98 = .ok (.if_icmp .le 7, 3) := by decide +kernel
theorem dX3_isTestTrue_101 : decode cX3_isTestTrue 101 = .ok (.iconst 1, 1) := by decide +kernel
theorem dX3_isTestTrue_102 : decode cX3_isTestTrue 102 = .ok (.goto 4, 3) := by decide +kernel
theorem dX3_isTestTrue_105 : decode cX3_isTestTrue 105 = .ok (.iconst 0, 1) := by decide +kernel
theorem dX3_isTestTrue_106 : decode cX3_isTestTrue 106 = .ok (.ireturn, 1) := by decide +kernel
theorem dX4_init_0 : decode cX4_init 0 = .ok (.aload_n 0, 1) := by decide +kernel
theorem dX4_init_1 : decode cX4_init 1 = .ok (.invokespecial 3, 3) := by decide +kernel
theorem dX4_init_4 : decode cX4_init 4 = .ok (.aload_n 0, 1) := by decide +kernel
theorem dX4_init_5 : decode cX4_init 5 = .ok (.new 9, 3) := by decide +kernel
theorem dX4_init_8 : decode cX4_init 8 = .ok (.dup, 1) := by decide +kernel
theorem dX4_init_9 : decode cX4_init 9 = .ok (.invokespecial 11, 3) := by decide +kernel
theorem dX4_init_12 : decode cX4_init 12 = .ok (.putfield 12, 3) := by decide +kernel
theorem dX4_init_15 : decode cX4_init 15 = .ok (.aload_n 0, 1) := by decide +kernel
theorem dX4_init_16 : decode cX4_init 16 = .ok (.iconst 0, 1) := by decide +kernel
theorem dX4_init_17 : decode cX4_init 17 = .ok (.putfield 18, 3) := by decide +kernel
theorem dX4_init_20 : decode cX4_init 20 = .ok (.aload_n 0, 1) := by decide +kernel
theorem dX4_init_21 : decode cX4_init 21 = .ok (.iconst 0, 1) := by decide +kernel
theorem dX4_init_22 : decode cX4_init 22 = .ok (.putfield 22, 3) := by decide +kernel
theorem dX4_init_25 : decode cX4_init 25 = .ok (.aload_n 0, 1) := by decide +kernel
theorem dX4_init_26 : decode cX4_init 26 = .ok (.iconst 0, 1) := by decide +kernel
theorem dX4_init_27 : decode cX4_init 27 = .ok (.putfield 25, 3) := by decide +kernel
theorem dX4_init_30 : decode cX4_init 30 = .ok (.aload_n 0, 1) := by decide +kernel
theorem dX4_init_31 : decode cX4_init 31 = .ok (.bipush 61, 2) := by decide +kernel
theorem dX4_init_33 : decode cX4_init 33 = .ok (.putfield 28, 3) := by decide +kernel
theorem dX4_init_36 : decode cX4_init 36 = .ok (.aload_n 0, 1) := by decide +kernel
theorem dX4_init_37 : decode cX4_init 37 = .ok (.iconst 0, 1) := by decide +kernel
theorem dX4_init_38 : decode cX4_init 38 = .ok (.putfield 32, 3) := by decide +kernel
theorem dX4_init_41 : decode cX4_init 41 = .ok (.aload_n 0, 1) := by decide +kernel
theorem dX4_init_42 : decode cX4_init 42 = .ok (.iconst 0, 1) := by decide +kernel
theorem dX4_init_43 : decode cX4_init 43 = .ok (.putfield 35, 3) := by decide +kernel
theorem dX4_init_46 : decode cX4_init 46 = .ok (.aload_n 0, 1) := by decide +kernel
theorem dX4_init_47 : decode cX4_init 47 = .ok (.iconst 0, 1) := by decide +kernel
theorem dX4_init_48 : decode cX4_init 48 = .ok (.putfield 38, 3) := by decide +kernel
theorem dX4_init_51 : decode cX4_init 51 = .ok (.aload_n 0, 1) := by decide +kernel
theorem dX4_init_52 : decode cX4_init 52 = .ok (.iconst 0, 1) := by decide +kernel
theorem dX4_init_53 : decode cX4_init 53 = .ok (.putfield 41, 3) := by decide +kernel
theorem dX4_init_56 : decode cX4_init 56 = .ok (.aload_n 0, 1) := by decide +kernel
theorem dX4_init_57 : decode cX4_init 57 = .ok (.bipush 20, 2) := by decide +kernel
theorem dX4_init_59 : decode cX4_init 59 = .ok (.newarray .int, 2) := by decide +kernel
theorem dX4_init_61 : decode cX4_init 61 = .ok (.putfield 44, 3) := by decide +kernel
theorem dX4_init_64 : decode cX4_init 64 = .ok (.aload_n 0, 1) := by decide +kernel
theorem dX4_init_65 : decode cX4_init 65 = .ok (.iconst 0, 1) := by decide +kernel
theorem dX4_init_66 : decode cX4_init 66 = .ok (.putfield 48, 3) := by decide +kernel
theorem dX4_init_69 : decode cX4_init 69 = .ok (.return_, 1) := by decide +kernel
theorem dX4_draft_0 : decode cX4_draft 0 = .ok (.aload_n 0, 1) := by decide +kernel
theorem dX4_draft_1 : decode cX4_draft 1 = .ok (.getfield 12, 3) := by decide +kernel
theorem dX4_draft_4 : decode cX4_draft 4 = .ok (.areturn, 1) := by decide +kernel
theorem dX4_writeNextInto_0 : decode cX4_writeNextInto 0 = .ok (.aload_n 0, 1) := by decide +kernel
theorem dX4_writeNextInto_1 : decode cX4_writeNextInto 1 = .ok (.aload_n 1, 1) := by decide +kernel
theorem dX4_writeNextInto_2 : decode cX4_writeNextInto 2 = .ok (.putfield 12, 3) := by decide +kernel
theorem dX4_writeNextInto_5 : decode cX4_writeNextInto 5 = .ok (.return_, 1) := by decide +kernel
theorem dX4_firstFault_0 : decode cX4_firstFault 0 = .ok (.aload_n 0, 1) := by decide +kernel
theorem dX4_firstFault_1 : decode cX4_firstFault 1 = .ok (.iload_n 3, 1) := by decide +kernel
theorem dX4_firstFault_2 : decode cX4_firstFault 2 = .ok (.invokevirtual 51, 3) := by decide +kernel
theorem dX4_firstFault_5 : decode cX4_firstFault 5 = .ok (.iconst 0, 1) := by decide +kernel
theorem dX4_firstFault_6 : decode cX4_firstFault 6 = .ok (.istore 4, 2) := by decide +kernel
theorem dX4_firstFault_8 : decode cX4_firstFault 8 = .ok (.iload 4, 2) := by decide +kernel
theorem dX4_firstFault_10 : decode cX4_firstFault 10 = .ok (.iload_n 2, 1) := by decide +kernel
theorem dX4_firstFault_11 : decode cX4_firstFault 11 = .ok (.if_icmp .ge 30, 3) := by decide +kernel
theorem dX4_firstFault_14 : decode cX4_firstFault 14 = .ok (.iload 4, 2) := by decide +kernel
theorem dX4_firstFault_16 : decode cX4_firstFault 16 = .ok (.aload_n 1, 1) := by decide +kernel
theorem dX4_firstFault_17 : decode cX4_firstFault 17 = .ok (.arraylength, 1) := by decide +kernel
theorem dX4_firstFault_18 : decode cX4_firstFault 18 = .ok (.if_icmp .ge 23, 3) := by decide +kernel
theorem dX4_firstFault_21 : decode cX4_firstFault 21 = .ok (.aload_n 0, 1) := by decide +kernel
theorem dX4_firstFault_22 : decode cX4_firstFault 22 = .ok (.aload_n 1, 1) := by decide +kernel
theorem dX4_firstFault_23 : decode cX4_firstFault 23 = .ok (.iload 4, 2) := by decide +kernel
theorem dX4_firstFault_25 : decode cX4_firstFault 25 = .ok (.caload, 1) := by decide +kernel
theorem dX4_firstFault_26 : decode cX4_firstFault 26 = .ok (.invokevirtual 55, 3) := by decide +kernel
theorem dX4_firstFault_29 : decode cX4_firstFault 29 = .ok (.ifCond .ne 6, 3) := by decide +kernel
theorem dX4_firstFault_32 : decode cX4_firstFault 32 = .ok (.iload 4, 2) := by decide +kernel
theorem dX4_firstFault_34 : decode cX4_firstFault 34 = .ok (.ireturn, 1) := by decide +kernel
theorem dX4_firstFault_35 : decode cX4_firstFault 35 = .ok (.iinc 4 1, 3) := by decide +kernel
theorem dX4_firstFault_38 : decode cX4_firstFault 38 = .ok (.goto (-30), 3) := by decide +kernel
theorem dX4_firstFault_41 : decode cX4_firstFault 41 = .ok (.aload_n 0, 1) := by decide +kernel
theorem dX4_firstFault_42 : decode cX4_firstFault 42 = .ok (.invokevirtual 59, 3) := by decide +kernel
theorem dX4_firstFault_45 : decode cX4_firstFault 45 = .ok (.ifCond .eq 7, 3) := by decide +kernel
theorem dX4_firstFault_48 : decode cX4_firstFault 48 = .ok (.iconst (-1), 1) := by decide +kernel
theorem dX4_firstFault_49 : decode cX4_firstFault 49 = .ok (.goto 4, 3) := by decide +kernel
theorem dX4_firstFault_52 : decode cX4_firstFault 52 = .ok (.iload_n 2, 1) := by decide +kernel
theorem dX4_firstFault_53 : decode cX4_firstFault 53 = .ok (.ireturn, 1) := by decide +kernel
theorem dX4_begin_0 : decode cX4_begin 0 = .ok (.aload_n 0, 1) := by decide +kernel
theorem dX4_begin_1 : decode cX4_begin 1 = .ok (.getfield 12, 3) := by decide +kernel
theorem dX4_begin_4 : decode cX4_begin 4 = .ok (.invokevirtual 63, 3) := by decide +kernel
theorem dX4_begin_7 : decode cX4_begin 7 = .ok (.aload_n 0, 1) := by decide +kernel
theorem dX4_begin_8 : decode cX4_begin 8 = .ok (.iload_n 1, 1) := by decide +kernel
theorem dX4_begin_9 : decode cX4_begin 9 = .ok (.putfield 18, 3) := by decide +kernel
theorem dX4_begin_12 : decode cX4_begin 12 = .ok (.aload_n 0, 1) := by decide +kernel
theorem dX4_begin_13 : decode cX4_begin 13 = .ok (.iconst 0, 1) := by decide +kernel
theorem dX4_begin_14 : decode cX4_begin 14 = .ok (.putfield 22, 3) := by decide +kernel
theorem dX4_begin_17 : decode cX4_begin 17 = .ok (.aload_n 0, 1) := by decide +kernel
theorem dX4_begin_18 : decode cX4_begin 18 = .ok (.iconst 0, 1) := by decide +kernel
theorem dX4_begin_19 : decode cX4_begin 19 = .ok (.putfield 38, 3) := by decide +kernel
theorem dX4_begin_22 : decode cX4_begin 22 = .ok (.aload_n 0, 1) := by decide +kernel
theorem dX4_begin_23 : decode cX4_begin 23 = .ok (.iconst 0, 1) := by decide +kernel
theorem dX4_begin_24 : decode cX4_begin 24 = .ok (.putfield 41, 3) := by decide +kernel
theorem dX4_begin_27 : decode cX4_begin 27 = .ok (.aload_n 0, 1) := by decide +kernel
theorem dX4_begin_28 : decode cX4_begin 28 = .ok (.iconst 0, 1) := by decide +kernel
theorem dX4_begin_29 : decode cX4_begin 29 = .ok (.putfield 48, 3) := by decide +kernel
theorem dX4_begin_32 : decode cX4_begin 32 = .ok (.return_, 1) := by decide +kernel
theorem dX4_takes_0 : decode cX4_takes 0 = .ok (.aload_n 0, 1) := by decide +kernel
theorem dX4_takes_1 : decode cX4_takes 1 = .ok (.getfield 22, 3) := by decide +kernel
theorem dX4_takes_4 : decode cX4_takes 4 = .ok (.tableswitch 116 0 6 #[44, 66, 72, 78, 84, 104, 110], 44) := by decide +kernel
theorem dX4_takes_48 : decode cX4_takes 48 = .ok (.aload_n 0, 1) := by decide +kernel
theorem dX4_takes_49 : decode cX4_takes 49 = .ok (.iload_n 1, 1) := by decide +kernel
theorem dX4_takes_50 : decode cX4_takes 50 = .ok (.invokevirtual 66, 3) := by decide +kernel
theorem dX4_takes_53 : decode cX4_takes 53 = .ok (.ifCond .ne 11, 3) := by decide +kernel
theorem dX4_takes_56 : decode cX4_takes 56 = .ok (.aload_n 0, 1) := by decide +kernel
theorem dX4_takes_57 : decode cX4_takes 57 = .ok (.iload_n 1, 1) := by decide +kernel
theorem dX4_takes_58 : decode cX4_takes 58 = .ok (.invokevirtual 69, 3) := by decide +kernel
theorem dX4_takes_61 : decode cX4_takes 61 = .ok (.ifCond .eq 7, 3) := by decide +kernel
theorem dX4_takes_64 : decode cX4_takes 64 = .ok (.iconst 1, 1) := by decide +kernel
theorem dX4_takes_65 : decode cX4_takes 65 = .ok (.goto 4, 3) := by decide +kernel
theorem dX4_takes_68 : decode cX4_takes 68 = .ok (.iconst 0, 1) := by decide +kernel
theorem dX4_takes_69 : decode cX4_takes 69 = .ok (.ireturn, 1) := by decide +kernel
theorem dX4_takes_70 : decode cX4_takes 70 = .ok (.aload_n 0, 1) := by decide +kernel
theorem dX4_takes_71 : decode cX4_takes 71 = .ok (.iload_n 1, 1) := by decide +kernel
theorem dX4_takes_72 : decode cX4_takes 72 = .ok (.invokevirtual 69, 3) := by decide +kernel
theorem dX4_takes_75 : decode cX4_takes 75 = .ok (.ireturn, 1) := by decide +kernel
theorem dX4_takes_76 : decode cX4_takes 76 = .ok (.aload_n 0, 1) := by decide +kernel
theorem dX4_takes_77 : decode cX4_takes 77 = .ok (.iload_n 1, 1) := by decide +kernel
theorem dX4_takes_78 : decode cX4_takes 78 = .ok (.invokevirtual 72, 3) := by decide +kernel
theorem dX4_takes_81 : decode cX4_takes 81 = .ok (.ireturn, 1) := by decide +kernel
theorem dX4_takes_82 : decode cX4_takes 82 = .ok (.aload_n 0, 1) := by decide +kernel
theorem dX4_takes_83 : decode cX4_takes 83 = .ok (.iload_n 1, 1) := by decide +kernel
theorem dX4_takes_84 : decode cX4_takes 84 = .ok (.invokevirtual 75, 3) := by decide +kernel
theorem dX4_takes_87 : decode cX4_takes 87 = .ok (.ireturn, 1) := by decide +kernel
theorem dX4_takes_88 : decode cX4_takes 88 = .ok (.aload_n 0, 1) := by decide +kernel
theorem dX4_takes_89 : decode cX4_takes 89 = .ok (.iload_n 1, 1) := by decide +kernel
theorem dX4_takes_90 : decode cX4_takes 90 = .ok (.invokevirtual 75, 3) := by decide +kernel
theorem dX4_takes_93 : decode cX4_takes 93 = .ok (.ifCond .eq 5, 3) := by decide +kernel
theorem dX4_takes_96 : decode cX4_takes 96 = .ok (.iconst 1, 1) := by decide +kernel
theorem dX4_takes_97 : decode cX4_takes 97 = .ok (.ireturn, 1) := by decide +kernel
theorem dX4_takes_98 : decode cX4_takes 98 = .ok (.aload_n 0, 1) := by decide +kernel
theorem dX4_takes_99 : decode cX4_takes 99 = .ok (.invokevirtual 78, 3) := by decide +kernel
theorem dX4_takes_102 : decode cX4_takes 102 = .ok (.aload_n 0, 1) := by decide +kernel
theorem dX4_takes_103 : decode cX4_takes 103 = .ok (.iload_n 1, 1) := by decide +kernel
theorem dX4_takes_104 : decode cX4_takes 104 = .ok (.invokevirtual 81, 3) := by decide +kernel
theorem dX4_takes_107 : decode cX4_takes 107 = .ok (.ireturn, 1) := by decide +kernel
theorem dX4_takes_108 : decode cX4_takes 108 = .ok (.aload_n 0, 1) := by decide +kernel
theorem dX4_takes_109 : decode cX4_takes 109 = .ok (.iload_n 1, 1) := by decide +kernel
theorem dX4_takes_110 : decode cX4_takes 110 = .ok (.invokevirtual 81, 3) := by decide +kernel
theorem dX4_takes_113 : decode cX4_takes 113 = .ok (.ireturn, 1) := by decide +kernel
theorem dX4_takes_114 : decode cX4_takes 114 = .ok (.aload_n 0, 1) := by decide +kernel
theorem dX4_takes_115 : decode cX4_takes 115 = .ok (.iload_n 1, 1) := by decide +kernel
theorem dX4_takes_116 : decode cX4_takes 116 = .ok (.invokevirtual 84, 3) := by decide +kernel
theorem dX4_takes_119 : decode cX4_takes 119 = .ok (.ireturn, 1) := by decide +kernel
theorem dX4_takes_120 : decode cX4_takes 120 = .ok (.iconst 0, 1) := by decide +kernel
theorem dX4_takes_121 : decode cX4_takes 121 = .ok (.ireturn, 1) := by decide +kernel
theorem dX4_takesEnd_0 : decode cX4_takesEnd 0 = .ok (.aload_n 0, 1) := by decide +kernel
theorem dX4_takesEnd_1 : decode cX4_takesEnd 1 = .ok (.getfield 22, 3) := by decide +kernel
theorem dX4_takesEnd_4 : decode cX4_takesEnd 4 = .ok (.iconst 4, 1) := by decide +kernel
theorem dX4_takesEnd_5 : decode cX4_takesEnd 5 = .ok (.if_icmp .ne 7, 3) := by decide +kernel
theorem dX4_takesEnd_8 : decode cX4_takesEnd 8 = .ok (.aload_n 0, 1) := by decide +kernel
theorem dX4_takesEnd_9 : decode cX4_takesEnd 9 = .ok (.invokevirtual 78, 3) := by decide +kernel
theorem dX4_takesEnd_12 : decode cX4_takesEnd 12 = .ok (.aload_n 0, 1) := by decide +kernel
theorem dX4_takesEnd_13 : decode cX4_takesEnd 13 = .ok (.getfield 22, 3) := by decide +kernel
theorem dX4_takesEnd_16 : decode cX4_takesEnd 16 = .ok (.ifCond .eq 27, 3) := by decide +kernel
theorem dX4_takesEnd_19 : decode cX4_takesEnd 19 = .ok (.aload_n 0, 1) := by decide +kernel
theorem dX4_takesEnd_20 : decode cX4_takesEnd 20 = .ok (.getfield 22, 3) := by decide +kernel
theorem dX4_takesEnd_23 : decode cX4_takesEnd 23 = .ok (.bipush 7, 2) := by decide +kernel
theorem dX4_takesEnd_25 : decode cX4_takesEnd 25 = .ok (.if_icmp .eq 18, 3) := by decide +kernel
theorem dX4_takesEnd_28 : decode cX4_takesEnd 28 = .ok (.aload_n 0, 1) := by decide +kernel
theorem dX4_takesEnd_29 : decode cX4_takesEnd 29 = .ok (.getfield 22, 3) := by decide +kernel
theorem dX4_takesEnd_32 : decode cX4_takesEnd 32 = .ok (.iconst 5, 1) := by decide +kernel
theorem dX4_takesEnd_33 : decode cX4_takesEnd 33 = .ok (.if_icmp .ne 14, 3) := by decide +kernel
theorem dX4_takesEnd_36 : decode cX4_takesEnd 36 = .ok (.aload_n 0, 1) := by decide +kernel
theorem dX4_takesEnd_37 : decode cX4_takesEnd 37 = .ok (.getfield 38, 3) := by decide +kernel
theorem dX4_takesEnd_40 : decode cX4_takesEnd 40 = .ok (.ifCond .ne 7, 3) := by decide +kernel
theorem dX4_takesEnd_43 : decode cX4_takesEnd 43 = .ok (.iconst 1, 1) := by decide +kernel
theorem dX4_takesEnd_44 : decode cX4_takesEnd 44 = .ok (.goto 4, 3) := by decide +kernel
theorem dX4_takesEnd_47 : decode cX4_takesEnd 47 = .ok (.iconst 0, 1) := by decide +kernel
theorem dX4_takesEnd_48 : decode cX4_takesEnd 48 = .ok (.ireturn, 1) := by decide +kernel
theorem dX4_takesTest_0 : decode cX4_takesTest 0 = .ok (.iload_n 1, 1) := by decide +kernel
theorem dX4_takesTest_1 : decode cX4_takesTest 1 = .ok (.bipush 33, 2) := by decide +kernel
theorem dX4_takesTest_3 : decode cX4_takesTest 3 = .ok (.if_icmp .ne 8, 3) := by decide +kernel
theorem dX4_takesTest_6 : decode cX4_takesTest 6 = .ok (.aload_n 0, 1) := by decide +kernel
theorem dX4_takesTest_7 : decode cX4_takesTest 7 = .ok (.invokevirtual 87, 3) := by decide +kernel
theorem dX4_takesTest_10 : decode cX4_takesTest 10 = .ok (.ireturn, 1) := by decide +kernel
theorem dX4_takesTest_11 : decode cX4_takesTest 11 = .ok (.iload_n 1, 1) := by decide +kernel
theorem dX4_takesTest_12 : decode cX4_takesTest 12 = .ok (.bipush 40, 2) := by decide +kernel
theorem dX4_takesTest_14 : decode cX4_takesTest 14 = .ok (.if_icmp .ne 10, 3) := by decide +kernel
theorem dX4_takesTest_17 : decode cX4_takesTest 17 = .ok (.aload_n 0, 1) := by decide +kernel
theorem dX4_takesTest_18 : decode cX4_takesTest 18 = .ok (.invokevirtual 90, 3) := by decide +kernel
theorem dX4_takesTest_21 : decode cX4_takesTest 21 = .ok (.goto 8, 3) := by decide +kernel
theorem dX4_takesTest_24 : decode cX4_takesTest 24 = .ok (.aload_n 0, 1) := by decide +kernel
theorem dX4_takesTest_25 : decode cX4_takesTest 25 = .ok (.iload_n 1, 1) := by decide +kernel
theorem dX4_takesTest_26 : decode cX4_takesTest 26 = .ok (.invokevirtual 93, 3) := by decide +kernel
theorem dX4_takesTest_29 : decode cX4_takesTest 29 = .ok (.ireturn, 1) := by decide +kernel
theorem dX4_takesTurn_0 : decode cX4_takesTurn 0 = .ok (.aload_n 0, 1) := by decide +kernel
theorem dX4_takesTurn_1 : decode cX4_takesTurn 1 = .ok (.getfield 38, 3) := by decide +kernel
theorem dX4_takesTurn_4 : decode cX4_takesTurn 4 = .ok (.bipush 20, 2) := by decide +kernel
theorem dX4_takesTurn_6 : decode cX4_takesTurn 6 = .ok (.if_icmp .lt 5, 3) := by decide +kernel
theorem dX4_takesTurn_9 : decode cX4_takesTurn 9 = .ok (.iconst 0, 1) := by decide +kernel
theorem dX4_takesTurn_10 : decode cX4_takesTurn 10 = .ok (.ireturn, 1) := by decide +kernel
theorem dX4_takesTurn_11 : decode cX4_takesTurn 11 = .ok (.aload_n 0, 1) := by decide +kernel
theorem dX4_takesTurn_12 : decode cX4_takesTurn 12 = .ok (.dup, 1) := by decide +kernel
theorem dX4_takesTurn_13 : decode cX4_takesTurn 13 = .ok (.getfield 38, 3) := by decide +kernel
theorem dX4_takesTurn_16 : decode cX4_takesTurn 16 = .ok (.iconst 1, 1) := by decide +kernel
theorem dX4_takesTurn_17 : decode cX4_takesTurn 17 = .ok (.iadd, 1) := by decide +kernel
theorem dX4_takesTurn_18 : decode cX4_takesTurn 18 = .ok (.putfield 38, 3) := by decide +kernel
theorem dX4_takesTurn_21 : decode cX4_takesTurn 21 = .ok (.aload_n 0, 1) := by decide +kernel
theorem dX4_takesTurn_22 : decode cX4_takesTurn 22 = .ok (.dup, 1) := by decide +kernel
theorem dX4_takesTurn_23 : decode cX4_takesTurn 23 = .ok (.getfield 41, 3) := by decide +kernel
theorem dX4_takesTurn_26 : decode cX4_takesTurn 26 = .ok (.iconst 1, 1) := by decide +kernel
theorem dX4_takesTurn_27 : decode cX4_takesTurn 27 = .ok (.iadd, 1) := by decide +kernel
theorem dX4_takesTurn_28 : decode cX4_takesTurn 28 = .ok (.putfield 41, 3) := by decide +kernel
theorem dX4_takesTurn_31 : decode cX4_takesTurn 31 = .ok (.aload_n 0, 1) := by decide +kernel
theorem dX4_takesTurn_32 : decode cX4_takesTurn 32 = .ok (.getfield 12, 3) := by decide +kernel
theorem dX4_takesTurn_35 : decode cX4_takesTurn 35 = .ok (.iconst 1, 1) := by decide +kernel
theorem dX4_takesTurn_36 : decode cX4_takesTurn 36 = .ok (.invokevirtual 96, 3) := by decide +kernel
theorem dX4_takesTurn_39 : decode cX4_takesTurn 39 = .ok (.aload_n 0, 1) := by decide +kernel
theorem dX4_takesTurn_40 : decode cX4_takesTurn 40 = .ok (.iconst 1, 1) := by decide +kernel
theorem dX4_takesTurn_41 : decode cX4_takesTurn 41 = .ok (.putfield 22, 3) := by decide +kernel
theorem dX4_takesTurn_44 : decode cX4_takesTurn 44 = .ok (.iconst 1, 1) := by decide +kernel
theorem dX4_takesTurn_45 : decode cX4_takesTurn 45 = .ok (.ireturn, 1) := by decide +kernel
theorem dX4_takesOpen_0 : decode cX4_takesOpen 0 = .ok (.aload_n 0, 1) := by decide +kernel
theorem dX4_takesOpen_1 : decode cX4_takesOpen 1 = .ok (.getfield 38, 3) := by decide +kernel
theorem dX4_takesOpen_4 : decode cX4_takesOpen 4 = .ok (.bipush 20, 2) := by decide +kernel
theorem dX4_takesOpen_6 : decode cX4_takesOpen 6 = .ok (.if_icmp .ge 22, 3) := by decide +kernel
theorem dX4_takesOpen_9 : decode cX4_takesOpen 9 = .ok (.aload_n 0, 1) := by decide +kernel
theorem dX4_takesOpen_10 : decode cX4_takesOpen 10 = .ok (.getfield 48, 3) := by decide +kernel
theorem dX4_takesOpen_13 : decode cX4_takesOpen 13 = .ok (.ifCond .lt 15, 3) := by decide +kernel
theorem dX4_takesOpen_16 : decode cX4_takesOpen 16 = .ok (.aload_n 0, 1) := by decide +kernel
theorem dX4_takesOpen_17 : decode cX4_takesOpen 17 = .ok (.getfield 48, 3) := by decide +kernel
theorem dX4_takesOpen_20 : decode cX4_takesOpen 20 = .ok (.aload_n 0, 1) := by decide +kernel
theorem dX4_takesOpen_21 : decode cX4_takesOpen 21 = .ok (.getfield 44, 3) := by decide +kernel
theorem dX4_takesOpen_24 : decode cX4_takesOpen 24 = .ok (.arraylength, 1) := by decide +kernel
theorem dX4_takesOpen_25 : decode cX4_takesOpen 25 = .ok (.if_icmp .lt 5, 3) := by decide +kernel
theorem dX4_takesOpen_28 : decode cX4_takesOpen 28 = .ok (.iconst 0, 1) := by decide +kernel
theorem dX4_takesOpen_29 : decode cX4_takesOpen 29 = .ok (.ireturn, 1) := by decide +kernel
theorem dX4_takesOpen_30 : decode cX4_takesOpen 30 = .ok (.aload_n 0, 1) := by decide +kernel
theorem dX4_takesOpen_31 : decode cX4_takesOpen 31 = .ok (.getfield 44, 3) := by decide +kernel
theorem dX4_takesOpen_34 : decode cX4_takesOpen 34 = .ok (.aload_n 0, 1) := by decide +kernel
theorem dX4_takesOpen_35 : decode cX4_takesOpen 35 = .ok (.getfield 48, 3) := by decide +kernel
theorem dX4_takesOpen_38 : decode cX4_takesOpen 38 = .ok (.aload_n 0, 1) := by decide +kernel
theorem dX4_takesOpen_39 : decode cX4_takesOpen 39 = .ok (.getfield 41, 3) := by decide +kernel
theorem dX4_takesOpen_42 : decode cX4_takesOpen 42 = .ok (.iastore, 1) := by decide +kernel
theorem dX4_takesOpen_43 : decode cX4_takesOpen 43 = .ok (.aload_n 0, 1) := by decide +kernel
theorem dX4_takesOpen_44 : decode cX4_takesOpen 44 = .ok (.dup, 1) := by decide +kernel
theorem dX4_takesOpen_45 : decode cX4_takesOpen 45 = .ok (.getfield 48, 3) := by decide +kernel
theorem dX4_takesOpen_48 : decode cX4_takesOpen 48 = .ok (.iconst 1, 1) := by decide +kernel
theorem dX4_takesOpen_49 : decode cX4_takesOpen 49 = .ok (.iadd, 1) := by decide +kernel
theorem dX4_takesOpen_50 : decode cX4_takesOpen 50 = .ok (.putfield 48, 3) := by decide +kernel
theorem dX4_takesOpen_53 : decode cX4_takesOpen 53 = .ok (.aload_n 0, 1) := by decide +kernel
theorem dX4_takesOpen_54 : decode cX4_takesOpen 54 = .ok (.dup, 1) := by decide +kernel
theorem dX4_takesOpen_55 : decode cX4_takesOpen 55 = .ok (.getfield 38, 3) := by decide +kernel
theorem dX4_takesOpen_58 : decode cX4_takesOpen 58 = .ok (.iconst 1, 1) := by decide +kernel
theorem dX4_takesOpen_59 : decode cX4_takesOpen 59 = .ok (.iadd, 1) := by decide +kernel
theorem dX4_takesOpen_60 : decode cX4_takesOpen 60 = .ok (.putfield 38, 3) := by decide +kernel
theorem dX4_takesOpen_63 : decode cX4_takesOpen 63 = .ok (.aload_n 0, 1) := by decide +kernel
theorem dX4_takesOpen_64 : decode cX4_takesOpen 64 = .ok (.iconst 0, 1) := by decide +kernel
theorem dX4_takesOpen_65 : decode cX4_takesOpen 65 = .ok (.putfield 41, 3) := by decide +kernel
theorem dX4_takesOpen_68 : decode cX4_takesOpen 68 = .ok (.aload_n 0, 1) := by decide +kernel
theorem dX4_takesOpen_69 : decode cX4_takesOpen 69 = .ok (.getfield 12, 3) := by decide +kernel
theorem dX4_takesOpen_72 : decode cX4_takesOpen 72 = .ok (.iconst 2, 1) := by decide +kernel
theorem dX4_takesOpen_73 : decode cX4_takesOpen 73 = .ok (.invokevirtual 96, 3) := by decide +kernel
theorem dX4_takesOpen_76 : decode cX4_takesOpen 76 = .ok (.aload_n 0, 1) := by decide +kernel
theorem dX4_takesOpen_77 : decode cX4_takesOpen 77 = .ok (.iconst 1, 1) := by decide +kernel
theorem dX4_takesOpen_78 : decode cX4_takesOpen 78 = .ok (.putfield 22, 3) := by decide +kernel
theorem dX4_takesOpen_81 : decode cX4_takesOpen 81 = .ok (.iconst 1, 1) := by decide +kernel
theorem dX4_takesOpen_82 : decode cX4_takesOpen 82 = .ok (.ireturn, 1) := by decide +kernel
theorem dX4_takesClose_0 : decode cX4_takesClose 0 = .ok (.aload_n 0, 1) := by decide +kernel
theorem dX4_takesClose_1 : decode cX4_takesClose 1 = .ok (.getfield 48, 3) := by decide +kernel
theorem dX4_takesClose_4 : decode cX4_takesClose 4 = .ok (.iconst 1, 1) := by decide +kernel
theorem dX4_takesClose_5 : decode cX4_takesClose 5 = .ok (.if_icmp .lt 15, 3) := by decide +kernel
theorem dX4_takesClose_8 : decode cX4_takesClose 8 = .ok (.aload_n 0, 1) := by decide +kernel
theorem dX4_takesClose_9 : decode cX4_takesClose 9 = .ok (.getfield 48, 3) := by decide +kernel
theorem dX4_takesClose_12 : decode cX4_takesClose 12 = .ok (.aload_n 0, 1) := by decide +kernel
theorem dX4_takesClose_13 : decode cX4_takesClose 13 = .ok (.getfield 44, 3) := by decide +kernel
theorem dX4_takesClose_16 : decode cX4_takesClose 16 = .ok (.arraylength, 1) := by decide +kernel
theorem dX4_takesClose_17 : decode cX4_takesClose 17 = .ok (.if_icmp .le 5, 3) := by decide +kernel
theorem dX4_takesClose_20 : decode cX4_takesClose 20 = .ok (.iconst 0, 1) := by decide +kernel
theorem dX4_takesClose_21 : decode cX4_takesClose 21 = .ok (.ireturn, 1) := by decide +kernel
theorem dX4_takesClose_22 : decode cX4_takesClose 22 = .ok (.aload_n 0, 1) := by decide +kernel
theorem dX4_takesClose_23 : decode cX4_takesClose 23 = .ok (.dup, 1) := by decide +kernel
theorem dX4_takesClose_24 : decode cX4_takesClose 24 = .ok (.getfield 48, 3) := by decide +kernel
theorem dX4_takesClose_27 : decode cX4_takesClose 27 = .ok (.iconst 1, 1) := by decide +kernel
theorem dX4_takesClose_28 : decode cX4_takesClose 28 = .ok (.isub, 1) := by decide +kernel
theorem dX4_takesClose_29 : decode cX4_takesClose 29 = .ok (.putfield 48, 3) := by decide +kernel
theorem dX4_takesClose_32 : decode cX4_takesClose 32 = .ok (.aload_n 0, 1) := by decide +kernel
theorem dX4_takesClose_33 : decode cX4_takesClose 33 = .ok (.dup, 1) := by decide +kernel
theorem dX4_takesClose_34 : decode cX4_takesClose 34 = .ok (.getfield 38, 3) := by decide +kernel
theorem dX4_takesClose_37 : decode cX4_takesClose 37 = .ok (.iconst 1, 1) := by decide +kernel
theorem dX4_takesClose_38 : decode cX4_takesClose 38 = .ok (.isub, 1) := by decide +kernel
theorem dX4_takesClose_39 : decode cX4_takesClose 39 = .ok (.putfield 38, 3) := by decide +kernel
theorem dX4_takesClose_42 : decode cX4_takesClose 42 = .ok (.aload_n 0, 1) := by decide +kernel
theorem dX4_takesClose_43 : decode cX4_takesClose 43 = .ok (.aload_n 0, 1) := by decide +kernel
theorem dX4_takesClose_44 : decode cX4_takesClose 44 = .ok (.getfield 44, 3) := by decide +kernel
theorem dX4_takesClose_47 : decode cX4_takesClose 47 = .ok (.aload_n 0, 1) := by decide +kernel
theorem dX4_takesClose_48 : decode cX4_takesClose 48 = .ok (.getfield 48, 3) := by decide +kernel
theorem dX4_takesClose_51 : decode cX4_takesClose 51 = .ok (.iaload, 1) := by decide +kernel
theorem dX4_takesClose_52 : decode cX4_takesClose 52 = .ok (.putfield 41, 3) := by decide +kernel
theorem dX4_takesClose_55 : decode cX4_takesClose 55 = .ok (.aload_n 0, 1) := by decide +kernel
theorem dX4_takesClose_56 : decode cX4_takesClose 56 = .ok (.getfield 12, 3) := by decide +kernel
theorem dX4_takesClose_59 : decode cX4_takesClose 59 = .ok (.iconst 3, 1) := by decide +kernel
theorem dX4_takesClose_60 : decode cX4_takesClose 60 = .ok (.invokevirtual 96, 3) := by decide +kernel
theorem dX4_takesClose_63 : decode cX4_takesClose 63 = .ok (.aload_n 0, 1) := by decide +kernel
theorem dX4_takesClose_64 : decode cX4_takesClose 64 = .ok (.invokevirtual 99, 3) := by decide +kernel
theorem dX4_takesClose_67 : decode cX4_takesClose 67 = .ok (.iconst 1, 1) := by decide +kernel
theorem dX4_takesClose_68 : decode cX4_takesClose 68 = .ok (.ireturn, 1) := by decide +kernel
theorem dX4_takesTestField_0 : decode cX4_takesTestField 0 = .ok (.aload_n 0, 1) := by decide +kernel
theorem dX4_takesTestField_1 : decode cX4_takesTestField 1 = .ok (.iload_n 1, 1) := by decide +kernel
theorem dX4_takesTestField_2 : decode cX4_takesTestField 2 = .ok (.invokevirtual 102, 3) := by decide +kernel
theorem dX4_takesTestField_5 : decode cX4_takesTestField 5 = .ok (.ifCond .eq 15, 3) := by decide +kernel
theorem dX4_takesTestField_8 : decode cX4_takesTestField 8 = .ok (.aload_n 0, 1) := by decide +kernel
theorem dX4_takesTestField_9 : decode cX4_takesTestField 9 = .ok (.getfield 12, 3) := by decide +kernel
theorem dX4_takesTestField_12 : decode cX4_takesTestField 12 = .ok (.invokevirtual 105, 3) := by decide +kernel
theorem dX4_takesTestField_15 : decode cX4_takesTestField 15 = .ok (.bipush 40, 2) := by decide +kernel
theorem dX4_takesTestField_17 : decode cX4_takesTestField 17 = .ok (.if_icmp .lt 5, 3) := by decide +kernel
theorem dX4_takesTestField_20 : decode cX4_takesTestField 20 = .ok (.iconst 0, 1) := by decide +kernel
theorem dX4_takesTestField_21 : decode cX4_takesTestField 21 = .ok (.ireturn, 1) := by decide +kernel
theorem dX4_takesTestField_22 : decode cX4_takesTestField 22 = .ok (.aload_n 0, 1) := by decide +kernel
theorem dX4_takesTestField_23 : decode cX4_takesTestField 23 = .ok (.iload_n 1, 1) := by decide +kernel
theorem dX4_takesTestField_24 : decode cX4_takesTestField 24 = .ok (.invokestatic 109, 3) := by decide +kernel
theorem dX4_takesTestField_27 : decode cX4_takesTestField 27 = .ok (.putfield 25, 3) := by decide +kernel
theorem dX4_takesTestField_30 : decode cX4_takesTestField 30 = .ok (.aload_n 0, 1) := by decide +kernel
theorem dX4_takesTestField_31 : decode cX4_takesTestField 31 = .ok (.iconst 2, 1) := by decide +kernel
theorem dX4_takesTestField_32 : decode cX4_takesTestField 32 = .ok (.putfield 22, 3) := by decide +kernel
theorem dX4_takesTestField_35 : decode cX4_takesTestField 35 = .ok (.iconst 1, 1) := by decide +kernel
theorem dX4_takesTestField_36 : decode cX4_takesTestField 36 = .ok (.ireturn, 1) := by decide +kernel
theorem dX4_takesRelation_0 : decode cX4_takesRelation 0 = .ok (.iload_n 1, 1) := by decide +kernel
theorem dX4_takesRelation_1 : decode cX4_takesRelation 1 = .ok (.bipush 61, 2) := by decide +kernel
theorem dX4_takesRelation_3 : decode cX4_takesRelation 3 = .ok (.if_icmp .eq 17, 3) := by decide +kernel
theorem dX4_takesRelation_6 : decode cX4_takesRelation 6 = .ok (.iload_n 1, 1) := by decide +kernel
theorem dX4_takesRelation_7 : decode cX4_takesRelation 7 = .ok (.bipush 60, 2) := by decide +kernel
theorem dX4_takesRelation_9 : decode cX4_takesRelation 9 = .ok (.if_icmp .eq 11, 3) := by decide +kernel
theorem dX4_takesRelation_12 : decode cX4_takesRelation 12 = .ok (.iload_n 1, 1) := by decide +kernel
theorem dX4_takesRelation_13 : decode cX4_takesRelation 13 = .ok (.bipush 62, 2) := by decide +kernel
theorem dX4_takesRelation_15 : decode cX4_takesRelation 15 = .ok (.if_icmp .eq 5, 3) := by decide +kernel
theorem dX4_takesRelation_18 : decode cX4_takesRelation 18 = .ok (.iconst 0, 1) := by decide +kernel
theorem dX4_takesRelation_19 : decode cX4_takesRelation 19 = .ok (.ireturn, 1) := by decide +kernel
theorem dX4_takesRelation_20 : decode cX4_takesRelation 20 = .ok (.aload_n 0, 1) := by decide +kernel
theorem dX4_takesRelation_21 : decode cX4_takesRelation 21 = .ok (.iload_n 1, 1) := by decide +kernel
theorem dX4_takesRelation_22 : decode cX4_takesRelation 22 = .ok (.putfield 28, 3) := by decide +kernel
theorem dX4_takesRelation_25 : decode cX4_takesRelation 25 = .ok (.aload_n 0, 1) := by decide +kernel
theorem dX4_takesRelation_26 : decode cX4_takesRelation 26 = .ok (.iconst 0, 1) := by decide +kernel
theorem dX4_takesRelation_27 : decode cX4_takesRelation 27 = .ok (.putfield 32, 3) := by decide +kernel
theorem dX4_takesRelation_30 : decode cX4_takesRelation 30 = .ok (.aload_n 0, 1) := by decide +kernel
theorem dX4_takesRelation_31 : decode cX4_takesRelation 31 = .ok (.iconst 0, 1) := by decide +kernel
theorem dX4_takesRelation_32 : decode cX4_takesRelation 32 = .ok (.putfield 35, 3) := by decide +kernel
theorem dX4_takesRelation_35 : decode cX4_takesRelation 35 = .ok (.aload_n 0, 1) := by decide +kernel
theorem dX4_takesRelation_36 : decode cX4_takesRelation 36 = .ok (.iconst 3, 1) := by decide +kernel
theorem dX4_takesRelation_37 : decode cX4_takesRelation 37 = .ok (.putfield 22, 3) := by decide +kernel
theorem dX4_takesRelation_40 : decode cX4_takesRelation 40 = .ok (.iconst 1, 1) := by decide +kernel
theorem dX4_takesRelation_41 : decode cX4_takesRelation 41 = .ok (.ireturn, 1) := by decide +kernel
theorem dX4_takesFigure_0 : decode cX4_takesFigure 0 = .ok (.iload_n 1, 1) := by decide +kernel
theorem dX4_takesFigure_1 : decode cX4_takesFigure 1 = .ok (.bipush 48, 2) := by decide +kernel
theorem dX4_takesFigure_3 : decode cX4_takesFigure 3 = .ok (.if_icmp .lt 17, 3) := by decide +kernel
theorem dX4_takesFigure_6 : decode cX4_takesFigure 6 = .ok (.iload_n 1, 1) := by decide +kernel
theorem dX4_takesFigure_7 : decode cX4_takesFigure 7 = .ok (.bipush 57, 2) := by decide +kernel
theorem dX4_takesFigure_9 : decode cX4_takesFigure 9 = .ok (.if_icmp .gt 11, 3) := by decide +kernel
theorem dX4_takesFigure_12 : decode cX4_takesFigure 12 = .ok (.aload_n 0, 1) := by decide +kernel
theorem dX4_takesFigure_13 : decode cX4_takesFigure 13 = .ok (.getfield 35, 3) := by decide +kernel
theorem dX4_takesFigure_16 : decode cX4_takesFigure 16 = .ok (.iconst 5, 1) := by decide +kernel
theorem dX4_takesFigure_17 : decode cX4_takesFigure 17 = .ok (.if_icmp .lt 5, 3) := by decide +kernel
theorem dX4_takesFigure_20 : decode cX4_takesFigure 20 = .ok (.iconst 0, 1) := by decide +kernel
theorem dX4_takesFigure_21 : decode cX4_takesFigure 21 = .ok (.ireturn, 1) := by decide +kernel
theorem dX4_takesFigure_22 : decode cX4_takesFigure 22 = .ok (.aload_n 0, 1) := by decide +kernel
theorem dX4_takesFigure_23 : decode cX4_takesFigure 23 = .ok (.aload_n 0, 1) := by decide +kernel
theorem dX4_takesFigure_24 : decode cX4_takesFigure 24 = .ok (.getfield 32, 3) := by decide +kernel
theorem dX4_takesFigure_27 : decode cX4_takesFigure 27 = .ok (.bipush 10, 2) := by decide +kernel
theorem dX4_takesFigure_29 : decode cX4_takesFigure 29 = .ok (.imul, 1) := by decide +kernel
theorem dX4_takesFigure_30 : decode cX4_takesFigure 30 = .ok (.iload_n 1, 1) := by decide +kernel
theorem dX4_takesFigure_31 : decode cX4_takesFigure 31 = .ok (.bipush 48, 2) := by decide +kernel
theorem dX4_takesFigure_33 : decode cX4_takesFigure 33 = .ok (.isub, 1) := by decide +kernel
theorem dX4_takesFigure_34 : decode cX4_takesFigure 34 = .ok (.iadd, 1) := by decide +kernel
theorem dX4_takesFigure_35 : decode cX4_takesFigure 35 = .ok (.putfield 32, 3) := by decide +kernel
theorem dX4_takesFigure_38 : decode cX4_takesFigure 38 = .ok (.aload_n 0, 1) := by decide +kernel
theorem dX4_takesFigure_39 : decode cX4_takesFigure 39 = .ok (.dup, 1) := by decide +kernel
theorem dX4_takesFigure_40 : decode cX4_takesFigure 40 = .ok (.getfield 35, 3) := by decide +kernel
theorem dX4_takesFigure_43 : decode cX4_takesFigure 43 = .ok (.iconst 1, 1) := by decide +kernel
theorem dX4_takesFigure_44 : decode cX4_takesFigure 44 = .ok (.iadd, 1) := by decide +kernel
theorem dX4_takesFigure_45 : decode cX4_takesFigure 45 = .ok (.putfield 35, 3) := by decide +kernel
theorem dX4_takesFigure_48 : decode cX4_takesFigure 48 = .ok (.aload_n 0, 1) := by decide +kernel
theorem dX4_takesFigure_49 : decode cX4_takesFigure 49 = .ok (.iconst 4, 1) := by decide +kernel
theorem dX4_takesFigure_50 : decode cX4_takesFigure 50 = .ok (.putfield 22, 3) := by decide +kernel
theorem dX4_takesFigure_53 : decode cX4_takesFigure 53 = .ok (.iconst 1, 1) := by decide +kernel
theorem dX4_takesFigure_54 : decode cX4_takesFigure 54 = .ok (.ireturn, 1) := by decide +kernel
theorem dX4_takesBehindTest_0 : decode cX4_takesBehindTest 0 = .ok (.iload_n 1, 1) := by decide +kernel
theorem dX4_takesBehindTest_1 : decode cX4_takesBehindTest 1 = .ok (.bipush 41, 2) := by decide +kernel
theorem dX4_takesBehindTest_3 : decode cX4_takesBehindTest 3 = .ok (.if_icmp .ne 8, 3) := by decide +kernel
theorem dX4_takesBehindTest_6 : decode cX4_takesBehindTest 6 = .ok (.aload_n 0, 1) := by decide +kernel
theorem dX4_takesBehindTest_7 : decode cX4_takesBehindTest 7 = .ok (.invokevirtual 113, 3) := by decide +kernel
theorem dX4_takesBehindTest_10 : decode cX4_takesBehindTest 10 = .ok (.ireturn, 1) := by decide +kernel
theorem dX4_takesBehindTest_11 : decode cX4_takesBehindTest 11 = .ok (.iload_n 1, 1) := by decide +kernel
theorem dX4_takesBehindTest_12 : decode cX4_takesBehindTest 12 = .ok (.bipush 38, 2) := by decide +kernel
theorem dX4_takesBehindTest_14 : decode cX4_takesBehindTest 14 = .ok (.if_icmp .eq 9, 3) := by decide +kernel
theorem dX4_takesBehindTest_17 : decode cX4_takesBehindTest 17 = .ok (.iload_n 1, 1) := by decide +kernel
theorem dX4_takesBehindTest_18 : decode cX4_takesBehindTest 18 = .ok (.bipush 124, 2) := by decide +kernel
theorem dX4_takesBehindTest_20 : decode cX4_takesBehindTest 20 = .ok (.if_icmp .ne 24, 3) := by decide +kernel
theorem dX4_takesBehindTest_23 : decode cX4_takesBehindTest 23 = .ok (.iload_n 1, 1) := by decide +kernel
theorem dX4_takesBehindTest_24 : decode cX4_takesBehindTest 24 = .ok (.bipush 124, 2) := by decide +kernel
theorem dX4_takesBehindTest_26 : decode cX4_takesBehindTest 26 = .ok (.if_icmp .ne 11, 3) := by decide +kernel
theorem dX4_takesBehindTest_29 : decode cX4_takesBehindTest 29 = .ok (.aload_n 0, 1) := by decide +kernel
theorem dX4_takesBehindTest_30 : decode cX4_takesBehindTest 30 = .ok (.getfield 12, 3) := by decide +kernel
theorem dX4_takesBehindTest_33 : decode cX4_takesBehindTest 33 = .ok (.iconst 4, 1) := by decide +kernel
theorem dX4_takesBehindTest_34 : decode cX4_takesBehindTest 34 = .ok (.invokevirtual 96, 3) := by decide +kernel
theorem dX4_takesBehindTest_37 : decode cX4_takesBehindTest 37 = .ok (.aload_n 0, 1) := by decide +kernel
theorem dX4_takesBehindTest_38 : decode cX4_takesBehindTest 38 = .ok (.iconst 1, 1) := by decide +kernel
theorem dX4_takesBehindTest_39 : decode cX4_takesBehindTest 39 = .ok (.putfield 22, 3) := by decide +kernel
theorem dX4_takesBehindTest_42 : decode cX4_takesBehindTest 42 = .ok (.iconst 1, 1) := by decide +kernel
theorem dX4_takesBehindTest_43 : decode cX4_takesBehindTest 43 = .ok (.ireturn, 1) := by decide +kernel
theorem dX4_takesBehindTest_44 : decode cX4_takesBehindTest 44 = .ok (.aload_n 0, 1) := by decide +kernel
theorem dX4_takesBehindTest_45 : decode cX4_takesBehindTest 45 = .ok (.getfield 38, 3) := by decide +kernel
theorem dX4_takesBehindTest_48 : decode cX4_takesBehindTest 48 = .ok (.ifCond .ne 15, 3) := by decide +kernel
theorem dX4_takesBehindTest_51 : decode cX4_takesBehindTest 51 = .ok (.aload_n 0, 1) := by decide +kernel
theorem dX4_takesBehindTest_52 : decode cX4_takesBehindTest 52 = .ok (.iload_n 1, 1) := by decide +kernel
theorem dX4_takesBehindTest_53 : decode cX4_takesBehindTest 53 = .ok (.invokevirtual 66, 3) := by decide +kernel
theorem dX4_takesBehindTest_56 : decode cX4_takesBehindTest 56 = .ok (.ifCond .eq 7, 3) := by decide +kernel
theorem dX4_takesBehindTest_59 : decode cX4_takesBehindTest 59 = .ok (.iconst 1, 1) := by decide +kernel
theorem dX4_takesBehindTest_60 : decode cX4_takesBehindTest 60 = .ok (.goto 4, 3) := by decide +kernel
theorem dX4_takesBehindTest_63 : decode cX4_takesBehindTest 63 = .ok (.iconst 0, 1) := by decide +kernel
theorem dX4_takesBehindTest_64 : decode cX4_takesBehindTest 64 = .ok (.ireturn, 1) := by decide +kernel
theorem dX4_takesTail_0 : decode cX4_takesTail 0 = .ok (.iload_n 1, 1) := by decide +kernel
theorem dX4_takesTail_1 : decode cX4_takesTail 1 = .ok (.invokestatic 116, 3) := by decide +kernel
theorem dX4_takesTail_4 : decode cX4_takesTail 4 = .ok (.istore_n 2, 1) := by decide +kernel
theorem dX4_takesTail_5 : decode cX4_takesTail 5 = .ok (.iload_n 2, 1) := by decide +kernel
theorem dX4_takesTail_6 : decode cX4_takesTail 6 = .ok (.ifCond .ne 5, 3) := by decide +kernel
theorem dX4_takesTail_9 : decode cX4_takesTail 9 = .ok (.iconst 0, 1) := by decide +kernel
theorem dX4_takesTail_10 : decode cX4_takesTail 10 = .ok (.ireturn, 1) := by decide +kernel
theorem dX4_takesTail_11 : decode cX4_takesTail 11 = .ok (.aload_n 0, 1) := by decide +kernel
theorem dX4_takesTail_12 : decode cX4_takesTail 12 = .ok (.getfield 12, 3) := by decide +kernel
theorem dX4_takesTail_15 : decode cX4_takesTail 15 = .ok (.iload_n 2, 1) := by decide +kernel
theorem dX4_takesTail_16 : decode cX4_takesTail 16 = .ok (.invokevirtual 119, 3) := by decide +kernel
theorem dX4_takesTail_19 : decode cX4_takesTail 19 = .ok (.aload_n 0, 1) := by decide +kernel
theorem dX4_takesTail_20 : decode cX4_takesTail 20 = .ok (.bipush 6, 2) := by decide +kernel
theorem dX4_takesTail_22 : decode cX4_takesTail 22 = .ok (.putfield 22, 3) := by decide +kernel
theorem dX4_takesTail_25 : decode cX4_takesTail 25 = .ok (.iconst 1, 1) := by decide +kernel
theorem dX4_takesTail_26 : decode cX4_takesTail 26 = .ok (.ireturn, 1) := by decide +kernel
theorem dX4_takesTailField_0 : decode cX4_takesTailField 0 = .ok (.aload_n 0, 1) := by decide +kernel
theorem dX4_takesTailField_1 : decode cX4_takesTailField 1 = .ok (.iload_n 1, 1) := by decide +kernel
theorem dX4_takesTailField_2 : decode cX4_takesTailField 2 = .ok (.invokevirtual 102, 3) := by decide +kernel
theorem dX4_takesTailField_5 : decode cX4_takesTailField 5 = .ok (.ifCond .ne 5, 3) := by decide +kernel
theorem dX4_takesTailField_8 : decode cX4_takesTailField 8 = .ok (.iconst 0, 1) := by decide +kernel
theorem dX4_takesTailField_9 : decode cX4_takesTailField 9 = .ok (.ireturn, 1) := by decide +kernel
theorem dX4_takesTailField_10 : decode cX4_takesTailField 10 = .ok (.aload_n 0, 1) := by decide +kernel
theorem dX4_takesTailField_11 : decode cX4_takesTailField 11 = .ok (.getfield 12, 3) := by decide +kernel
theorem dX4_takesTailField_14 : decode cX4_takesTailField 14 = .ok (.iload_n 1, 1) := by decide +kernel
theorem dX4_takesTailField_15 : decode cX4_takesTailField 15 = .ok (.invokestatic 109, 3) := by decide +kernel
theorem dX4_takesTailField_18 : decode cX4_takesTailField 18 = .ok (.invokevirtual 122, 3) := by decide +kernel
theorem dX4_takesTailField_21 : decode cX4_takesTailField 21 = .ok (.aload_n 0, 1) := by decide +kernel
theorem dX4_takesTailField_22 : decode cX4_takesTailField 22 = .ok (.bipush 7, 2) := by decide +kernel
theorem dX4_takesTailField_24 : decode cX4_takesTailField 24 = .ok (.putfield 22, 3) := by decide +kernel
theorem dX4_takesTailField_27 : decode cX4_takesTailField 27 = .ok (.iconst 1, 1) := by decide +kernel
theorem dX4_takesTailField_28 : decode cX4_takesTailField 28 = .ok (.ireturn, 1) := by decide +kernel
theorem dX4_endFieldTest_0 : decode cX4_endFieldTest 0 = .ok (.aload_n 0, 1) := by decide +kernel
theorem dX4_endFieldTest_1 : decode cX4_endFieldTest 1 = .ok (.getfield 12, 3) := by decide +kernel
theorem dX4_endFieldTest_4 : decode cX4_endFieldTest 4 = .ok (.aload_n 0, 1) := by decide +kernel
theorem dX4_endFieldTest_5 : decode cX4_endFieldTest 5 = .ok (.getfield 25, 3) := by decide +kernel
theorem dX4_endFieldTest_8 : decode cX4_endFieldTest 8 = .ok (.aload_n 0, 1) := by decide +kernel
theorem dX4_endFieldTest_9 : decode cX4_endFieldTest 9 = .ok (.getfield 28, 3) := by decide +kernel
theorem dX4_endFieldTest_12 : decode cX4_endFieldTest 12 = .ok (.aload_n 0, 1) := by decide +kernel
theorem dX4_endFieldTest_13 : decode cX4_endFieldTest 13 = .ok (.getfield 32, 3) := by decide +kernel
theorem dX4_endFieldTest_16 : decode cX4_endFieldTest 16 = .ok (.invokevirtual 125, 3) := by decide +kernel
theorem dX4_endFieldTest_19 : decode cX4_endFieldTest 19 = .ok (.aload_n 0, 1) := by decide +kernel
theorem dX4_endFieldTest_20 : decode cX4_endFieldTest 20 = .ok (.invokevirtual 99, 3) := by decide +kernel
theorem dX4_endFieldTest_23 : decode cX4_endFieldTest 23 = .ok (.return_, 1) := by decide +kernel
theorem dX4_endTest_0 : decode cX4_endTest 0 = .ok (.aload_n 0, 1) := by decide +kernel
theorem dX4_endTest_1 : decode cX4_endTest 1 = .ok (.dup, 1) := by decide +kernel
theorem dX4_endTest_2 : decode cX4_endTest 2 = .ok (.getfield 38, 3) := by decide +kernel
theorem dX4_endTest_5 : decode cX4_endTest 5 = .ok (.aload_n 0, 1) := by decide +kernel
theorem dX4_endTest_6 : decode cX4_endTest 6 = .ok (.getfield 41, 3) := by decide +kernel
theorem dX4_endTest_9 : decode cX4_endTest 9 = .ok (.isub, 1) := by decide +kernel
theorem dX4_endTest_10 : decode cX4_endTest 10 = .ok (.putfield 38, 3) := by decide +kernel
theorem dX4_endTest_13 : decode cX4_endTest 13 = .ok (.aload_n 0, 1) := by decide +kernel
theorem dX4_endTest_14 : decode cX4_endTest 14 = .ok (.iconst 0, 1) := by decide +kernel
theorem dX4_endTest_15 : decode cX4_endTest 15 = .ok (.putfield 41, 3) := by decide +kernel
theorem dX4_endTest_18 : decode cX4_endTest 18 = .ok (.aload_n 0, 1) := by decide +kernel
theorem dX4_endTest_19 : decode cX4_endTest 19 = .ok (.iconst 5, 1) := by decide +kernel
theorem dX4_endTest_20 : decode cX4_endTest 20 = .ok (.putfield 22, 3) := by decide +kernel
theorem dX4_endTest_23 : decode cX4_endTest 23 = .ok (.return_, 1) := by decide +kernel
theorem dX4_isOpenField_0 : decode cX4_isOpenField 0 = .ok (.iload_n 1, 1) := by decide +kernel
theorem dX4_isOpenField_1 : decode cX4_isOpenField 1 = .ok (.invokestatic 109, 3) := by decide +kernel
theorem dX4_isOpenField_4 : decode cX4_isOpenField 4 = .ok (.istore_n 2, 1) := by decide +kernel
theorem dX4_isOpenField_5 : decode cX4_isOpenField 5 = .ok (.iload_n 2, 1) := by decide +kernel
theorem dX4_isOpenField_6 : decode cX4_isOpenField 6 = .ok (.iconst (-1), 1) := by decide +kernel
theorem dX4_isOpenField_7 : decode cX4_isOpenField 7 = .ok (.if_icmp .eq 18, 3) := by decide +kernel
theorem dX4_isOpenField_10 : decode cX4_isOpenField 10 = .ok (.aload_n 0, 1) := by decide +kernel
theorem dX4_isOpenField_11 : decode cX4_isOpenField 11 = .ok (.getfield 18, 3) := by decide +kernel
theorem dX4_isOpenField_14 : decode cX4_isOpenField 14 = .ok (.iload_n 2, 1) := by decide +kernel
theorem dX4_isOpenField_15 : decode cX4_isOpenField 15 = .ok (.ishr, 1) := by decide +kernel
theorem dX4_isOpenField_16 : decode cX4_isOpenField 16 = .ok (.iconst 1, 1) := by decide +kernel
theorem dX4_isOpenField_17 : decode cX4_isOpenField 17 = .ok (.iand, 1) := by decide +kernel
theorem dX4_isOpenField_18 : decode cX4_isOpenField 18 = .ok (.ifCond .ne 7, 3) := by decide +kernel
theorem dX4_isOpenField_21 : decode cX4_isOpenField 21 = .ok (.iconst 1, 1) := by decide +kernel
theorem dX4_isOpenField_22 : decode cX4_isOpenField 22 = .ok (.goto 4, 3) := by decide +kernel
theorem dX4_isOpenField_25 : decode cX4_isOpenField 25 = .ok (.iconst 0, 1) := by decide +kernel
theorem dX4_isOpenField_26 : decode cX4_isOpenField 26 = .ok (.ireturn, 1) := by decide +kernel
theorem dX4_fieldOf_0 : decode cX4_fieldOf 0 = .ok (.iload_n 0, 1) := by decide +kernel
theorem dX4_fieldOf_1 : decode cX4_fieldOf 1 = .ok (.tableswitch 77 100 112 #[73, 77, 77, 77, 77, 67, 77, 69, 77, 77, 77, 75, 71], 67) := by decide +kernel
theorem dX4_fieldOf_68 : decode cX4_fieldOf 68 = .ok (.iconst 0, 1) := by decide +kernel
theorem dX4_fieldOf_69 : decode cX4_fieldOf 69 = .ok (.ireturn, 1) := by decide +kernel
theorem dX4_fieldOf_70 : decode cX4_fieldOf 70 = .ok (.iconst 1, 1) := by decide +kernel
theorem dX4_fieldOf_71 : decode cX4_fieldOf 71 = .ok (.ireturn, 1) := by decide +kernel
theorem dX4_fieldOf_72 : decode cX4_fieldOf 72 = .ok (.iconst 2, 1) := by decide +kernel
theorem dX4_fieldOf_73 : decode cX4_fieldOf 73 = .ok (.ireturn, 1) := by decide +kernel
theorem dX4_fieldOf_74 : decode cX4_fieldOf 74 = .ok (.iconst 3, 1) := by decide +kernel
theorem dX4_fieldOf_75 : decode cX4_fieldOf 75 = .ok (.ireturn, 1) := by decide +kernel
theorem dX4_fieldOf_76 : decode cX4_fieldOf 76 = .ok (.iconst 4, 1) := by decide +kernel
theorem dX4_fieldOf_77 : decode cX4_fieldOf 77 = .ok (.ireturn, 1) := by decide +kernel
theorem dX4_fieldOf_78 : decode cX4_fieldOf 78 = .ok (.iconst (-1), 1) := by decide +kernel
theorem dX4_fieldOf_79 : decode cX4_fieldOf 79 = .ok (.ireturn, 1) := by decide +kernel
theorem dX4_tailOf_0 : decode cX4_tailOf 0 = .ok (.iload_n 0, 1) := by decide +kernel
theorem dX4_tailOf_1 : decode cX4_tailOf 1 = .ok (.lookupswitch 41 #[(35, 35), (43, 37), (45, 39)], 35) := by decide +kernel
theorem dX4_tailOf_36 : decode cX4_tailOf 36 = .ok (.iconst 1, 1) := by decide +kernel
theorem dX4_tailOf_37 : decode cX4_tailOf 37 = .ok (.ireturn, 1) := by decide +kernel
theorem dX4_tailOf_38 : decode cX4_tailOf 38 = .ok (.iconst 2, 1) := by decide +kernel
theorem dX4_tailOf_39 : decode cX4_tailOf 39 = .ok (.ireturn, 1) := by decide +kernel
theorem dX4_tailOf_40 : decode cX4_tailOf 40 = .ok (.iconst 3, 1) := by decide +kernel
theorem dX4_tailOf_41 : decode cX4_tailOf 41 = .ok (.ireturn, 1) := by decide +kernel
theorem dX4_tailOf_42 : decode cX4_tailOf 42 = .ok (.iconst 0, 1) := by decide +kernel
theorem dX4_tailOf_43 : decode cX4_tailOf 43 = .ok (.ireturn, 1) := by decide +kernel
theorem dX5_init_0 : decode cX5_init 0 = .ok (.aload_n 0, 1) := by decide +kernel
theorem dX5_init_1 : decode cX5_init 1 = .ok (.invokespecial 3, 3) := by decide +kernel
theorem dX5_init_4 : decode cX5_init 4 = .ok (.aload_n 0, 1) := by decide +kernel
theorem dX5_init_5 : decode cX5_init 5 = .ok (.bipush 50, 2) := by decide +kernel
theorem dX5_init_7 : decode cX5_init 7 = .ok (.bipush 101, 2) := by decide +kernel
theorem dX5_init_9 : decode cX5_init 9 = .ok (.multianewarray 9 2, 4) := by decide +kernel
theorem dX5_init_13 : decode cX5_init 13 = .ok (.putfield 11, 3) := by decide +kernel
theorem dX5_init_16 : decode cX5_init 16 = .ok (.aload_n 0, 1) := by decide +kernel
theorem dX5_init_17 : decode cX5_init 17 = .ok (.bipush 50, 2) := by decide +kernel
theorem dX5_init_19 : decode cX5_init 19 = .ok (.newarray .int, 2) := by decide +kernel
theorem dX5_init_21 : decode cX5_init 21 = .ok (.putfield 16, 3) := by decide +kernel
theorem dX5_init_24 : decode cX5_init 24 = .ok (.aload_n 0, 1) := by decide +kernel
theorem dX5_init_25 : decode cX5_init 25 = .ok (.iconst 0, 1) := by decide +kernel
theorem dX5_init_26 : decode cX5_init 26 = .ok (.putfield 20, 3) := by decide +kernel
theorem dX5_init_29 : decode cX5_init 29 = .ok (.return_, 1) := by decide +kernel
theorem dX5_count_0 : decode cX5_count 0 = .ok (.aload_n 0, 1) := by decide +kernel
theorem dX5_count_1 : decode cX5_count 1 = .ok (.getfield 20, 3) := by decide +kernel
theorem dX5_count_4 : decode cX5_count 4 = .ok (.ireturn, 1) := by decide +kernel
theorem dX5_countOf_0 : decode cX5_countOf 0 = .ok (.iload_n 1, 1) := by decide +kernel
theorem dX5_countOf_1 : decode cX5_countOf 1 = .ok (.ifCond .lt 18, 3) := by decide +kernel
theorem dX5_countOf_4 : decode cX5_countOf 4 = .ok (.iload_n 1, 1) := by decide +kernel
theorem dX5_countOf_5 : decode cX5_countOf 5 = .ok (.bipush 50, 2) := by decide +kernel
theorem dX5_countOf_7 : decode cX5_countOf 7 = .ok (.if_icmp .ge 12, 3) := by decide +kernel
theorem dX5_countOf_10 : decode cX5_countOf 10 = .ok (.aload_n 0, 1) := by decide +kernel
theorem dX5_countOf_11 : decode cX5_countOf 11 = .ok (.getfield 16, 3) := by decide +kernel
theorem dX5_countOf_14 : decode cX5_countOf 14 = .ok (.iload_n 1, 1) := by decide +kernel
theorem dX5_countOf_15 : decode cX5_countOf 15 = .ok (.iaload, 1) := by decide +kernel
theorem dX5_countOf_16 : decode cX5_countOf 16 = .ok (.goto 4, 3) := by decide +kernel
theorem dX5_countOf_19 : decode cX5_countOf 19 = .ok (.iconst 0, 1) := by decide +kernel
theorem dX5_countOf_20 : decode cX5_countOf 20 = .ok (.ireturn, 1) := by decide +kernel
theorem dX5_holds_0 : decode cX5_holds 0 = .ok (.aload_n 0, 1) := by decide +kernel
theorem dX5_holds_1 : decode cX5_holds 1 = .ok (.iload_n 1, 1) := by decide +kernel
theorem dX5_holds_2 : decode cX5_holds 2 = .ok (.iload_n 2, 1) := by decide +kernel
theorem dX5_holds_3 : decode cX5_holds 3 = .ok (.invokevirtual 24, 3) := by decide +kernel
theorem dX5_holds_6 : decode cX5_holds 6 = .ok (.iload_n 3, 1) := by decide +kernel
theorem dX5_holds_7 : decode cX5_holds 7 = .ok (.iconst 1, 1) := by decide +kernel
theorem dX5_holds_8 : decode cX5_holds 8 = .ok (.iadd, 1) := by decide +kernel
theorem dX5_holds_9 : decode cX5_holds 9 = .ok (.ishr, 1) := by decide +kernel
theorem dX5_holds_10 : decode cX5_holds 10 = .ok (.iconst 1, 1) := by decide +kernel
theorem dX5_holds_11 : decode cX5_holds 11 = .ok (.iand, 1) := by decide +kernel
theorem dX5_holds_12 : decode cX5_holds 12 = .ok (.ifCond .eq 7, 3) := by decide +kernel
theorem dX5_holds_15 : decode cX5_holds 15 = .ok (.iconst 1, 1) := by decide +kernel
theorem dX5_holds_16 : decode cX5_holds 16 = .ok (.goto 4, 3) := by decide +kernel
theorem dX5_holds_19 : decode cX5_holds 19 = .ok (.iconst 0, 1) := by decide +kernel
theorem dX5_holds_20 : decode cX5_holds 20 = .ok (.ireturn, 1) := by decide +kernel
theorem dX5_add_0 : decode cX5_add 0 = .ok (.iload_n 1, 1) := by decide +kernel
theorem dX5_add_1 : decode cX5_add 1 = .ok (.ifCond .lt 20, 3) := by decide +kernel
theorem dX5_add_4 : decode cX5_add 4 = .ok (.iload_n 1, 1) := by decide +kernel
theorem dX5_add_5 : decode cX5_add 5 = .ok (.bipush 50, 2) := by decide +kernel
theorem dX5_add_7 : decode cX5_add 7 = .ok (.if_icmp .ge 14, 3) := by decide +kernel
theorem dX5_add_10 : decode cX5_add 10 = .ok (.iload_n 2, 1) := by decide +kernel
theorem dX5_add_11 : decode cX5_add 11 = .ok (.iconst (-1), 1) := by decide +kernel
theorem dX5_add_12 : decode cX5_add 12 = .ok (.if_icmp .lt 9, 3) := by decide +kernel
theorem dX5_add_15 : decode cX5_add 15 = .ok (.iload_n 2, 1) := by decide +kernel
theorem dX5_add_16 : decode cX5_add 16 = .ok (.bipush 100, 2) := by decide +kernel
theorem dX5_add_18 : decode cX5_add 18 = .ok (.if_icmp .lt 4, 3) := by decide +kernel
theorem dX5_add_21 : decode cX5_add 21 = .ok (.return_, 1) := by decide +kernel
theorem dX5_add_22 : decode cX5_add 22 = .ok (.aload_n 0, 1) := by decide +kernel
theorem dX5_add_23 : decode cX5_add 23 = .ok (.getfield 11, 3) := by decide +kernel
theorem dX5_add_26 : decode cX5_add 26 = .ok (.iload_n 1, 1) := by decide +kernel
theorem dX5_add_27 : decode cX5_add 27 = .ok (.aaload, 1) := by decide +kernel
theorem dX5_add_28 : decode cX5_add 28 = .ok (.iload_n 2, 1) := by decide +kernel
theorem dX5_add_29 : decode cX5_add 29 = .ok (.iconst 1, 1) := by decide +kernel
theorem dX5_add_30 : decode cX5_add 30 = .ok (.iadd, 1) := by decide +kernel
theorem dX5_add_31 : decode cX5_add 31 = .ok (.dup2, 1) := by decide +kernel
theorem dX5_add_32 : decode cX5_add 32 = .ok (.iaload, 1) := by decide +kernel
theorem dX5_add_33 : decode cX5_add 33 = .ok (.iconst 1, 1) := by decide +kernel
theorem dX5_add_34 : decode cX5_add 34 = .ok (.iload_n 3, 1) := by decide +kernel
theorem dX5_add_35 : decode cX5_add 35 = .ok (.iconst 1, 1) := by decide +kernel
theorem dX5_add_36 : decode cX5_add 36 = .ok (.iadd, 1) := by decide +kernel
theorem dX5_add_37 : decode cX5_add 37 = .ok (.ishl, 1) := by decide +kernel
theorem dX5_add_38 : decode cX5_add 38 = .ok (.ior, 1) := by decide +kernel
theorem dX5_add_39 : decode cX5_add 39 = .ok (.iastore, 1) := by decide +kernel
theorem dX5_add_40 : decode cX5_add 40 = .ok (.aload_n 0, 1) := by decide +kernel
theorem dX5_add_41 : decode cX5_add 41 = .ok (.getfield 16, 3) := by decide +kernel
theorem dX5_add_44 : decode cX5_add 44 = .ok (.iload_n 1, 1) := by decide +kernel
theorem dX5_add_45 : decode cX5_add 45 = .ok (.dup2, 1) := by decide +kernel
theorem dX5_add_46 : decode cX5_add 46 = .ok (.iaload, 1) := by decide +kernel
theorem dX5_add_47 : decode cX5_add 47 = .ok (.iconst 1, 1) := by decide +kernel
theorem dX5_add_48 : decode cX5_add 48 = .ok (.iadd, 1) := by decide +kernel
theorem dX5_add_49 : decode cX5_add 49 = .ok (.iastore, 1) := by decide +kernel
theorem dX5_add_50 : decode cX5_add 50 = .ok (.aload_n 0, 1) := by decide +kernel
theorem dX5_add_51 : decode cX5_add 51 = .ok (.dup, 1) := by decide +kernel
theorem dX5_add_52 : decode cX5_add 52 = .ok (.getfield 20, 3) := by decide +kernel
theorem dX5_add_55 : decode cX5_add 55 = .ok (.iconst 1, 1) := by decide +kernel
theorem dX5_add_56 : decode cX5_add 56 = .ok (.iadd, 1) := by decide +kernel
theorem dX5_add_57 : decode cX5_add 57 = .ok (.putfield 20, 3) := by decide +kernel
theorem dX5_add_60 : decode cX5_add 60 = .ok (.return_, 1) := by decide +kernel
theorem dX5_letSee_0 : decode cX5_letSee 0 = .ok (.aload_n 0, 1) := by decide +kernel
theorem dX5_letSee_1 : decode cX5_letSee 1 = .ok (.iload_n 1, 1) := by decide +kernel
theorem dX5_letSee_2 : decode cX5_letSee 2 = .ok (.iconst (-1), 1) := by decide +kernel
theorem dX5_letSee_3 : decode cX5_letSee 3 = .ok (.invokevirtual 24, 3) := by decide +kernel
theorem dX5_letSee_6 : decode cX5_letSee 6 = .ok (.aload_n 0, 1) := by decide +kernel
theorem dX5_letSee_7 : decode cX5_letSee 7 = .ok (.iload_n 1, 1) := by decide +kernel
theorem dX5_letSee_8 : decode cX5_letSee 8 = .ok (.iload_n 2, 1) := by decide +kernel
theorem dX5_letSee_9 : decode cX5_letSee 9 = .ok (.invokevirtual 24, 3) := by decide +kernel
theorem dX5_letSee_12 : decode cX5_letSee 12 = .ok (.ior, 1) := by decide +kernel
theorem dX5_letSee_13 : decode cX5_letSee 13 = .ok (.istore 4, 2) := by decide +kernel
theorem dX5_letSee_15 : decode cX5_letSee 15 = .ok (.iload 4, 2) := by decide +kernel
theorem dX5_letSee_17 : decode cX5_letSee 17 = .ok (.iconst 1, 1) := by decide +kernel
theorem dX5_letSee_18 : decode cX5_letSee 18 = .ok (.iconst 1, 1) := by decide +kernel
theorem dX5_letSee_19 : decode cX5_letSee 19 = .ok (.iload_n 3, 1) := by decide +kernel
theorem dX5_letSee_20 : decode cX5_letSee 20 = .ok (.iconst 1, 1) := by decide +kernel
theorem dX5_letSee_21 : decode cX5_letSee 21 = .ok (.iadd, 1) := by decide +kernel
theorem dX5_letSee_22 : decode cX5_letSee 22 = .ok (.ishl, 1) := by decide +kernel
theorem dX5_letSee_23 : decode cX5_letSee 23 = .ok (.ior, 1) := by decide +kernel
theorem dX5_letSee_24 : decode cX5_letSee 24 = .ok (.iand, 1) := by decide +kernel
theorem dX5_letSee_25 : decode cX5_letSee 25 = .ok (.ifCond .eq 7, 3) := by decide +kernel
theorem dX5_letSee_28 : decode cX5_letSee 28 = .ok (.iconst 1, 1) := by decide +kernel
theorem dX5_letSee_29 : decode cX5_letSee 29 = .ok (.goto 4, 3) := by decide +kernel
theorem dX5_letSee_32 : decode cX5_letSee 32 = .ok (.iconst 0, 1) := by decide +kernel
theorem dX5_letSee_33 : decode cX5_letSee 33 = .ok (.ireturn, 1) := by decide +kernel
theorem dX5_kindsOf_0 : decode cX5_kindsOf 0 = .ok (.iload_n 1, 1) := by decide +kernel
theorem dX5_kindsOf_1 : decode cX5_kindsOf 1 = .ok (.ifCond .lt 20, 3) := by decide +kernel
theorem dX5_kindsOf_4 : decode cX5_kindsOf 4 = .ok (.iload_n 1, 1) := by decide +kernel
theorem dX5_kindsOf_5 : decode cX5_kindsOf 5 = .ok (.bipush 50, 2) := by decide +kernel
theorem dX5_kindsOf_7 : decode cX5_kindsOf 7 = .ok (.if_icmp .ge 14, 3) := by decide +kernel
theorem dX5_kindsOf_10 : decode cX5_kindsOf 10 = .ok (.iload_n 2, 1) := by decide +kernel
theorem dX5_kindsOf_11 : decode cX5_kindsOf 11 = .ok (.iconst (-1), 1) := by decide +kernel
theorem dX5_kindsOf_12 : decode cX5_kindsOf 12 = .ok (.if_icmp .lt 9, 3) := by decide +kernel
theorem dX5_kindsOf_15 : decode cX5_kindsOf 15 = .ok (.iload_n 2, 1) := by decide +kernel
theorem dX5_kindsOf_16 : decode cX5_kindsOf 16 = .ok (.bipush 100, 2) := by decide +kernel
theorem dX5_kindsOf_18 : decode cX5_kindsOf 18 = .ok (.if_icmp .lt 5, 3) := by decide +kernel
theorem dX5_kindsOf_21 : decode cX5_kindsOf 21 = .ok (.iconst 0, 1) := by decide +kernel
theorem dX5_kindsOf_22 : decode cX5_kindsOf 22 = .ok (.ireturn, 1) := by decide +kernel
theorem dX5_kindsOf_23 : decode cX5_kindsOf 23 = .ok (.aload_n 0, 1) := by decide +kernel
theorem dX5_kindsOf_24 : decode cX5_kindsOf 24 = .ok (.getfield 11, 3) := by decide +kernel
theorem dX5_kindsOf_27 : decode cX5_kindsOf 27 = .ok (.iload_n 1, 1) := by decide +kernel
theorem dX5_kindsOf_28 : decode cX5_kindsOf 28 = .ok (.aaload, 1) := by decide +kernel
theorem dX5_kindsOf_29 : decode cX5_kindsOf 29 = .ok (.iload_n 2, 1) := by decide +kernel
theorem dX5_kindsOf_30 : decode cX5_kindsOf 30 = .ok (.iconst 1, 1) := by decide +kernel
theorem dX5_kindsOf_31 : decode cX5_kindsOf 31 = .ok (.iadd, 1) := by decide +kernel
theorem dX5_kindsOf_32 : decode cX5_kindsOf 32 = .ok (.iaload, 1) := by decide +kernel
theorem dX5_kindsOf_33 : decode cX5_kindsOf 33 = .ok (.ireturn, 1) := by decide +kernel
theorem dX6_init_0 : decode cX6_init 0 = .ok (.aload_n 0, 1) := by decide +kernel
theorem dX6_init_1 : decode cX6_init 1 = .ok (.invokespecial 3, 3) := by decide +kernel
theorem dX6_init_4 : decode cX6_init 4 = .ok (.aload_n 0, 1) := by decide +kernel
theorem dX6_init_5 : decode cX6_init 5 = .ok (.iconst 5, 1) := by decide +kernel
theorem dX6_init_6 : decode cX6_init 6 = .ok (.sipush 300, 3) := by decide +kernel
theorem dX6_init_9 : decode cX6_init 9 = .ok (.multianewarray 9 2, 4) := by decide +kernel
theorem dX6_init_13 : decode cX6_init 13 = .ok (.putfield 11, 3) := by decide +kernel
theorem dX6_init_16 : decode cX6_init 16 = .ok (.aload_n 0, 1) := by decide +kernel
theorem dX6_init_17 : decode cX6_init 17 = .ok (.iconst 5, 1) := by decide +kernel
theorem dX6_init_18 : decode cX6_init 18 = .ok (.sipush 300, 3) := by decide +kernel
theorem dX6_init_21 : decode cX6_init 21 = .ok (.multianewarray 9 2, 4) := by decide +kernel
theorem dX6_init_25 : decode cX6_init 25 = .ok (.putfield 16, 3) := by decide +kernel
theorem dX6_init_28 : decode cX6_init 28 = .ok (.aload_n 0, 1) := by decide +kernel
theorem dX6_init_29 : decode cX6_init 29 = .ok (.iconst 5, 1) := by decide +kernel
theorem dX6_init_30 : decode cX6_init 30 = .ok (.sipush 300, 3) := by decide +kernel
theorem dX6_init_33 : decode cX6_init 33 = .ok (.multianewarray 9 2, 4) := by decide +kernel
theorem dX6_init_37 : decode cX6_init 37 = .ok (.putfield 19, 3) := by decide +kernel
theorem dX6_init_40 : decode cX6_init 40 = .ok (.aload_n 0, 1) := by decide +kernel
theorem dX6_init_41 : decode cX6_init 41 = .ok (.iconst 0, 1) := by decide +kernel
theorem dX6_init_42 : decode cX6_init 42 = .ok (.putfield 22, 3) := by decide +kernel
theorem dX6_init_45 : decode cX6_init 45 = .ok (.return_, 1) := by decide +kernel
theorem dX6_count_0 : decode cX6_count 0 = .ok (.aload_n 0, 1) := by decide +kernel
theorem dX6_count_1 : decode cX6_count 1 = .ok (.getfield 22, 3) := by decide +kernel
theorem dX6_count_4 : decode cX6_count 4 = .ok (.ireturn, 1) := by decide +kernel
theorem dX6_add_0 : decode cX6_add 0 = .ok (.aload_n 0, 1) := by decide +kernel
theorem dX6_add_1 : decode cX6_add 1 = .ok (.getfield 22, 3) := by decide +kernel
theorem dX6_add_4 : decode cX6_add 4 = .ok (.ifCond .lt 13, 3) := by decide +kernel
theorem dX6_add_7 : decode cX6_add 7 = .ok (.aload_n 0, 1) := by decide +kernel
theorem dX6_add_8 : decode cX6_add 8 = .ok (.getfield 22, 3) := by decide +kernel
theorem dX6_add_11 : decode cX6_add 11 = .ok (.sipush 300, 3) := by decide +kernel
theorem dX6_add_14 : decode cX6_add 14 = .ok (.if_icmp .lt 6, 3) := by decide +kernel
theorem dX6_add_17 : decode cX6_add 17 = .ok (.ldc 26, 2) := by decide +kernel
theorem dX6_add_19 : decode cX6_add 19 = .ok (.ireturn, 1) := by decide +kernel
theorem dX6_add_20 : decode cX6_add 20 = .ok (.aload_n 0, 1) := by decide +kernel
theorem dX6_add_21 : decode cX6_add 21 = .ok (.getfield 11, 3) := by decide +kernel
theorem dX6_add_24 : decode cX6_add 24 = .ok (.iconst 0, 1) := by decide +kernel
theorem dX6_add_25 : decode cX6_add 25 = .ok (.aaload, 1) := by decide +kernel
theorem dX6_add_26 : decode cX6_add 26 = .ok (.aload_n 0, 1) := by decide +kernel
theorem dX6_add_27 : decode cX6_add 27 = .ok (.getfield 22, 3) := by decide +kernel
theorem dX6_add_30 : decode cX6_add 30 = .ok (.iload_n 1, 1) := by decide +kernel
theorem dX6_add_31 : decode cX6_add 31 = .ok (.iastore, 1) := by decide +kernel
theorem dX6_add_32 : decode cX6_add 32 = .ok (.aload_n 0, 1) := by decide +kernel
theorem dX6_add_33 : decode cX6_add 33 = .ok (.getfield 11, 3) := by decide +kernel
theorem dX6_add_36 : decode cX6_add 36 = .ok (.iconst 1, 1) := by decide +kernel
theorem dX6_add_37 : decode cX6_add 37 = .ok (.aaload, 1) := by decide +kernel
theorem dX6_add_38 : decode cX6_add 38 = .ok (.aload_n 0, 1) := by decide +kernel
theorem dX6_add_39 : decode cX6_add 39 = .ok (.getfield 22, 3) := by decide +kernel
theorem dX6_add_42 : decode cX6_add 42 = .ok (.iload_n 2, 1) := by decide +kernel
theorem dX6_add_43 : decode cX6_add 43 = .ok (.iastore, 1) := by decide +kernel
theorem dX6_add_44 : decode cX6_add 44 = .ok (.aload_n 0, 1) := by decide +kernel
theorem dX6_add_45 : decode cX6_add 45 = .ok (.getfield 11, 3) := by decide +kernel
theorem dX6_add_48 : decode cX6_add 48 = .ok (.iconst 2, 1) := by decide +kernel
theorem dX6_add_49 : decode cX6_add 49 = .ok (.aaload, 1) := by decide +kernel
theorem dX6_add_50 : decode cX6_add 50 = .ok (.aload_n 0, 1) := by decide +kernel
theorem dX6_add_51 : decode cX6_add 51 = .ok (.getfield 22, 3) := by decide +kernel
theorem dX6_add_54 : decode cX6_add 54 = .ok (.iload_n 3, 1) := by decide +kernel
theorem dX6_add_55 : decode cX6_add 55 = .ok (.iastore, 1) := by decide +kernel
theorem dX6_add_56 : decode cX6_add 56 = .ok (.aload_n 0, 1) := by decide +kernel
theorem dX6_add_57 : decode cX6_add 57 = .ok (.getfield 11, 3) := by decide +kernel
theorem dX6_add_60 : decode cX6_add 60 = .ok (.iconst 3, 1) := by decide +kernel
theorem dX6_add_61 : decode cX6_add 61 = .ok (.aaload, 1) := by decide +kernel
theorem dX6_add_62 : decode cX6_add 62 = .ok (.aload_n 0, 1) := by decide +kernel
theorem dX6_add_63 : decode cX6_add 63 = .ok (.getfield 22, 3) := by decide +kernel
theorem dX6_add_66 : decode cX6_add 66 = .ok (.iload 4, 2) := by decide +kernel
theorem dX6_add_68 : decode cX6_add 68 = .ok (.iastore, 1) := by decide +kernel
theorem dX6_add_69 : decode cX6_add 69 = .ok (.aload_n 0, 1) := by decide +kernel
theorem dX6_add_70 : decode cX6_add 70 = .ok (.getfield 11, 3) := by decide +kernel
theorem dX6_add_73 : decode cX6_add 73 = .ok (.iconst 4, 1) := by decide +kernel
theorem dX6_add_74 : decode cX6_add 74 = .ok (.aaload, 1) := by decide +kernel
theorem dX6_add_75 : decode cX6_add 75 = .ok (.aload_n 0, 1) := by decide +kernel
theorem dX6_add_76 : decode cX6_add 76 = .ok (.getfield 22, 3) := by decide +kernel
theorem dX6_add_79 : decode cX6_add 79 = .ok (.iload 5, 2) := by decide +kernel
theorem dX6_add_81 : decode cX6_add 81 = .ok (.iastore, 1) := by decide +kernel
theorem dX6_add_82 : decode cX6_add 82 = .ok (.aload_n 0, 1) := by decide +kernel
theorem dX6_add_83 : decode cX6_add 83 = .ok (.dup, 1) := by decide +kernel
theorem dX6_add_84 : decode cX6_add 84 = .ok (.getfield 22, 3) := by decide +kernel
theorem dX6_add_87 : decode cX6_add 87 = .ok (.iconst 1, 1) := by decide +kernel
theorem dX6_add_88 : decode cX6_add 88 = .ok (.iadd, 1) := by decide +kernel
theorem dX6_add_89 : decode cX6_add 89 = .ok (.putfield 22, 3) := by decide +kernel
theorem dX6_add_92 : decode cX6_add 92 = .ok (.aload_n 0, 1) := by decide +kernel
theorem dX6_add_93 : decode cX6_add 93 = .ok (.invokevirtual 27, 3) := by decide +kernel
theorem dX6_add_96 : decode cX6_add 96 = .ok (.aload_n 0, 1) := by decide +kernel
theorem dX6_add_97 : decode cX6_add 97 = .ok (.getfield 22, 3) := by decide +kernel
theorem dX6_add_100 : decode cX6_add 100 = .ok (.ireturn, 1) := by decide +kernel
theorem dX6_value_0 : decode cX6_value 0 = .ok (.iload_n 1, 1) := by decide +kernel
theorem dX6_value_1 : decode cX6_value 1 = .ok (.iconst 1, 1) := by decide +kernel
theorem dX6_value_2 : decode cX6_value 2 = .ok (.if_icmp .lt 27, 3) := by decide +kernel
theorem dX6_value_5 : decode cX6_value 5 = .ok (.iload_n 1, 1) := by decide +kernel
theorem dX6_value_6 : decode cX6_value 6 = .ok (.aload_n 0, 1) := by decide +kernel
theorem dX6_value_7 : decode cX6_value 7 = .ok (.getfield 22, 3) := by decide +kernel
theorem dX6_value_10 : decode cX6_value 10 = .ok (.if_icmp .gt 19, 3) := by decide +kernel
theorem dX6_value_13 : decode cX6_value 13 = .ok (.iload_n 1, 1) := by decide +kernel
theorem dX6_value_14 : decode cX6_value 14 = .ok (.sipush 300, 3) := by decide +kernel
theorem dX6_value_17 : decode cX6_value 17 = .ok (.if_icmp .gt 12, 3) := by decide +kernel
theorem dX6_value_20 : decode cX6_value 20 = .ok (.iload_n 2, 1) := by decide +kernel
theorem dX6_value_21 : decode cX6_value 21 = .ok (.ifCond .lt 8, 3) := by decide +kernel
theorem dX6_value_24 : decode cX6_value 24 = .ok (.iload_n 2, 1) := by decide +kernel
theorem dX6_value_25 : decode cX6_value 25 = .ok (.iconst 5, 1) := by decide +kernel
theorem dX6_value_26 : decode cX6_value 26 = .ok (.if_icmp .lt 5, 3) := by decide +kernel
theorem dX6_value_29 : decode cX6_value 29 = .ok (.iconst (-1), 1) := by decide +kernel
theorem dX6_value_30 : decode cX6_value 30 = .ok (.ireturn, 1) := by decide +kernel
theorem dX6_value_31 : decode cX6_value 31 = .ok (.aload_n 0, 1) := by decide +kernel
theorem dX6_value_32 : decode cX6_value 32 = .ok (.getfield 11, 3) := by decide +kernel
theorem dX6_value_35 : decode cX6_value 35 = .ok (.iload_n 2, 1) := by decide +kernel
theorem dX6_value_36 : decode cX6_value 36 = .ok (.aaload, 1) := by decide +kernel
theorem dX6_value_37 : decode cX6_value 37 = .ok (.iload_n 1, 1) := by decide +kernel
theorem dX6_value_38 : decode cX6_value 38 = .ok (.iconst 1, 1) := by decide +kernel
theorem dX6_value_39 : decode cX6_value 39 = .ok (.isub, 1) := by decide +kernel
theorem dX6_value_40 : decode cX6_value 40 = .ok (.iaload, 1) := by decide +kernel
theorem dX6_value_41 : decode cX6_value 41 = .ok (.ireturn, 1) := by decide +kernel
theorem dX6_numberAt_0 : decode cX6_numberAt 0 = .ok (.iload_n 1, 1) := by decide +kernel
theorem dX6_numberAt_1 : decode cX6_numberAt 1 = .ok (.ifCond .eq 23, 3) := by decide +kernel
theorem dX6_numberAt_4 : decode cX6_numberAt 4 = .ok (.iload_n 2, 1) := by decide +kernel
theorem dX6_numberAt_5 : decode cX6_numberAt 5 = .ok (.ifCond .lt 19, 3) := by decide +kernel
theorem dX6_numberAt_8 : decode cX6_numberAt 8 = .ok (.iload_n 2, 1) := by decide +kernel
theorem dX6_numberAt_9 : decode cX6_numberAt 9 = .ok (.iconst 5, 1) := by decide +kernel
theorem dX6_numberAt_10 : decode cX6_numberAt 10 = .ok (.if_icmp .ge 14, 3) := by decide +kernel
theorem dX6_numberAt_13 : decode cX6_numberAt 13 = .ok (.iload_n 3, 1) := by decide +kernel
theorem dX6_numberAt_14 : decode cX6_numberAt 14 = .ok (.ifCond .lt 10, 3) := by decide +kernel
theorem dX6_numberAt_17 : decode cX6_numberAt 17 = .ok (.iload_n 3, 1) := by decide +kernel
theorem dX6_numberAt_18 : decode cX6_numberAt 18 = .ok (.sipush 300, 3) := by decide +kernel
theorem dX6_numberAt_21 : decode cX6_numberAt 21 = .ok (.if_icmp .lt 7, 3) := by decide +kernel
theorem dX6_numberAt_24 : decode cX6_numberAt 24 = .ok (.iload_n 3, 1) := by decide +kernel
theorem dX6_numberAt_25 : decode cX6_numberAt 25 = .ok (.iconst 1, 1) := by decide +kernel
theorem dX6_numberAt_26 : decode cX6_numberAt 26 = .ok (.iadd, 1) := by decide +kernel
theorem dX6_numberAt_27 : decode cX6_numberAt 27 = .ok (.ireturn, 1) := by decide +kernel
theorem dX6_numberAt_28 : decode cX6_numberAt 28 = .ok (.iload_n 1, 1) := by decide +kernel
theorem dX6_numberAt_29 : decode cX6_numberAt 29 = .ok (.iconst 3, 1) := by decide +kernel
theorem dX6_numberAt_30 : decode cX6_numberAt 30 = .ok (.if_icmp .ne 14, 3) := by decide +kernel
theorem dX6_numberAt_33 : decode cX6_numberAt 33 = .ok (.aload_n 0, 1) := by decide +kernel
theorem dX6_numberAt_34 : decode cX6_numberAt 34 = .ok (.getfield 19, 3) := by decide +kernel
theorem dX6_numberAt_37 : decode cX6_numberAt 37 = .ok (.iload_n 2, 1) := by decide +kernel
theorem dX6_numberAt_38 : decode cX6_numberAt 38 = .ok (.aaload, 1) := by decide +kernel
theorem dX6_numberAt_39 : decode cX6_numberAt 39 = .ok (.iload_n 3, 1) := by decide +kernel
theorem dX6_numberAt_40 : decode cX6_numberAt 40 = .ok (.iaload, 1) := by decide +kernel
theorem dX6_numberAt_41 : decode cX6_numberAt 41 = .ok (.goto 11, 3) := by decide +kernel
theorem dX6_numberAt_44 : decode cX6_numberAt 44 = .ok (.aload_n 0, 1) := by decide +kernel
theorem dX6_numberAt_45 : decode cX6_numberAt 45 = .ok (.getfield 16, 3) := by decide +kernel
theorem dX6_numberAt_48 : decode cX6_numberAt 48 = .ok (.iload_n 2, 1) := by decide +kernel
theorem dX6_numberAt_49 : decode cX6_numberAt 49 = .ok (.aaload, 1) := by decide +kernel
theorem dX6_numberAt_50 : decode cX6_numberAt 50 = .ok (.iload_n 3, 1) := by decide +kernel
theorem dX6_numberAt_51 : decode cX6_numberAt 51 = .ok (.iaload, 1) := by decide +kernel
theorem dX6_numberAt_52 : decode cX6_numberAt 52 = .ok (.ireturn, 1) := by decide +kernel
theorem dX6_putInOrders_0 : decode cX6_putInOrders 0 = .ok (.iconst 0, 1) := by decide +kernel
theorem dX6_putInOrders_1 : decode cX6_putInOrders 1 = .ok (.istore_n 1, 1) := by decide +kernel
theorem dX6_putInOrders_2 : decode cX6_putInOrders 2 = .ok (.iload_n 1, 1) := by decide +kernel
theorem dX6_putInOrders_3 : decode cX6_putInOrders 3 = .ok (.iconst 5, 1) := by decide +kernel
theorem dX6_putInOrders_4 : decode cX6_putInOrders 4 = .ok (.if_icmp .ge 53, 3) := by decide +kernel
theorem dX6_putInOrders_7 : decode cX6_putInOrders 7 = .ok (.aload_n 0, 1) := by decide +kernel
theorem dX6_putInOrders_8 : decode cX6_putInOrders 8 = .ok (.aload_n 0, 1) := by decide +kernel
theorem dX6_putInOrders_9 : decode cX6_putInOrders 9 = .ok (.getfield 22, 3) := by decide +kernel
theorem dX6_putInOrders_12 : decode cX6_putInOrders 12 = .ok (.iload_n 1, 1) := by decide +kernel
theorem dX6_putInOrders_13 : decode cX6_putInOrders 13 = .ok (.invokevirtual 32, 3) := by decide +kernel
theorem dX6_putInOrders_16 : decode cX6_putInOrders 16 = .ok (.istore_n 2, 1) := by decide +kernel
theorem dX6_putInOrders_17 : decode cX6_putInOrders 17 = .ok (.aload_n 0, 1) := by decide +kernel
theorem dX6_putInOrders_18 : decode cX6_putInOrders 18 = .ok (.aload_n 0, 1) := by decide +kernel
theorem dX6_putInOrders_19 : decode cX6_putInOrders 19 = .ok (.getfield 16, 3) := by decide +kernel
theorem dX6_putInOrders_22 : decode cX6_putInOrders 22 = .ok (.iload_n 1, 1) := by decide +kernel
theorem dX6_putInOrders_23 : decode cX6_putInOrders 23 = .ok (.aaload, 1) := by decide +kernel
theorem dX6_putInOrders_24 : decode cX6_putInOrders 24 = .ok (.aload_n 0, 1) := by decide +kernel
theorem dX6_putInOrders_25 : decode cX6_putInOrders 25 = .ok (.iload_n 1, 1) := by decide +kernel
theorem dX6_putInOrders_26 : decode cX6_putInOrders 26 = .ok (.iload_n 2, 1) := by decide +kernel
theorem dX6_putInOrders_27 : decode cX6_putInOrders 27 = .ok (.iconst 0, 1) := by decide +kernel
theorem dX6_putInOrders_28 : decode cX6_putInOrders 28 = .ok (.invokevirtual 36, 3) := by decide +kernel
theorem dX6_putInOrders_31 : decode cX6_putInOrders 31 = .ok (.invokevirtual 40, 3) := by decide +kernel
theorem dX6_putInOrders_34 : decode cX6_putInOrders 34 = .ok (.aload_n 0, 1) := by decide +kernel
theorem dX6_putInOrders_35 : decode cX6_putInOrders 35 = .ok (.aload_n 0, 1) := by decide +kernel
theorem dX6_putInOrders_36 : decode cX6_putInOrders 36 = .ok (.getfield 19, 3) := by decide +kernel
theorem dX6_putInOrders_39 : decode cX6_putInOrders 39 = .ok (.iload_n 1, 1) := by decide +kernel
theorem dX6_putInOrders_40 : decode cX6_putInOrders 40 = .ok (.aaload, 1) := by decide +kernel
theorem dX6_putInOrders_41 : decode cX6_putInOrders 41 = .ok (.aload_n 0, 1) := by decide +kernel
theorem dX6_putInOrders_42 : decode cX6_putInOrders 42 = .ok (.iload_n 1, 1) := by decide +kernel
theorem dX6_putInOrders_43 : decode cX6_putInOrders 43 = .ok (.iload_n 2, 1) := by decide +kernel
theorem dX6_putInOrders_44 : decode cX6_putInOrders 44 = .ok (.iconst 1, 1) := by decide +kernel
theorem dX6_putInOrders_45 : decode cX6_putInOrders 45 = .ok (.invokevirtual 36, 3) := by decide +kernel
theorem dX6_putInOrders_48 : decode cX6_putInOrders 48 = .ok (.invokevirtual 40, 3) := by decide +kernel
theorem dX6_putInOrders_51 : decode cX6_putInOrders 51 = .ok (.iinc 1 1, 3) := by decide +kernel
theorem dX6_putInOrders_54 : decode cX6_putInOrders 54 = .ok (.goto (-52), 3) := by decide +kernel
theorem dX6_putInOrders_57 : decode cX6_putInOrders 57 = .ok (.return_, 1) := by decide +kernel
theorem dX6_behindLast_0 : decode cX6_behindLast 0 = .ok (.iload_n 3, 1) := by decide +kernel
theorem dX6_behindLast_1 : decode cX6_behindLast 1 = .ok (.ifCond .eq 7, 3) := by decide +kernel
theorem dX6_behindLast_4 : decode cX6_behindLast 4 = .ok (.iconst 3, 1) := by decide +kernel
theorem dX6_behindLast_5 : decode cX6_behindLast 5 = .ok (.goto 4, 3) := by decide +kernel
theorem dX6_behindLast_8 : decode cX6_behindLast 8 = .ok (.iconst 2, 1) := by decide +kernel
theorem dX6_behindLast_9 : decode cX6_behindLast 9 = .ok (.istore 4, 2) := by decide +kernel
theorem dX6_behindLast_11 : decode cX6_behindLast 11 = .ok (.aload_n 0, 1) := by decide +kernel
theorem dX6_behindLast_12 : decode cX6_behindLast 12 = .ok (.getfield 22, 3) := by decide +kernel
theorem dX6_behindLast_15 : decode cX6_behindLast 15 = .ok (.iconst 1, 1) := by decide +kernel
theorem dX6_behindLast_16 : decode cX6_behindLast 16 = .ok (.isub, 1) := by decide +kernel
theorem dX6_behindLast_17 : decode cX6_behindLast 17 = .ok (.istore 5, 2) := by decide +kernel
theorem dX6_behindLast_19 : decode cX6_behindLast 19 = .ok (.iload 5, 2) := by decide +kernel
theorem dX6_behindLast_21 : decode cX6_behindLast 21 = .ok (.ifCond .le 49, 3) := by decide +kernel
theorem dX6_behindLast_24 : decode cX6_behindLast 24 = .ok (.aload_n 0, 1) := by decide +kernel
theorem dX6_behindLast_25 : decode cX6_behindLast 25 = .ok (.aload_n 0, 1) := by decide +kernel
theorem dX6_behindLast_26 : decode cX6_behindLast 26 = .ok (.iload 4, 2) := by decide +kernel
theorem dX6_behindLast_28 : decode cX6_behindLast 28 = .ok (.iload_n 1, 1) := by decide +kernel
theorem dX6_behindLast_29 : decode cX6_behindLast 29 = .ok (.iload 5, 2) := by decide +kernel
theorem dX6_behindLast_31 : decode cX6_behindLast 31 = .ok (.iconst 1, 1) := by decide +kernel
theorem dX6_behindLast_32 : decode cX6_behindLast 32 = .ok (.isub, 1) := by decide +kernel
theorem dX6_behindLast_33 : decode cX6_behindLast 33 = .ok (.invokevirtual 44, 3) := by decide +kernel
theorem dX6_behindLast_36 : decode cX6_behindLast 36 = .ok (.iload_n 1, 1) := by decide +kernel
theorem dX6_behindLast_37 : decode cX6_behindLast 37 = .ok (.invokevirtual 32, 3) := by decide +kernel
theorem dX6_behindLast_40 : decode cX6_behindLast 40 = .ok (.istore 6, 2) := by decide +kernel
theorem dX6_behindLast_42 : decode cX6_behindLast 42 = .ok (.iload_n 3, 1) := by decide +kernel
theorem dX6_behindLast_43 : decode cX6_behindLast 43 = .ok (.ifCond .eq 12, 3) := by decide +kernel
theorem dX6_behindLast_46 : decode cX6_behindLast 46 = .ok (.iload 6, 2) := by decide +kernel
theorem dX6_behindLast_48 : decode cX6_behindLast 48 = .ok (.iload_n 2, 1) := by decide +kernel
theorem dX6_behindLast_49 : decode cX6_behindLast 49 = .ok (.if_icmp .lt 15, 3) := by decide +kernel
theorem dX6_behindLast_52 : decode cX6_behindLast 52 = .ok (.goto 9, 3) := by decide +kernel
theorem dX6_behindLast_55 : decode cX6_behindLast 55 = .ok (.iload 6, 2) := by decide +kernel
theorem dX6_behindLast_57 : decode cX6_behindLast 57 = .ok (.iload_n 2, 1) := by decide +kernel
theorem dX6_behindLast_58 : decode cX6_behindLast 58 = .ok (.if_icmp .gt 6, 3) := by decide +kernel
theorem dX6_behindLast_61 : decode cX6_behindLast 61 = .ok (.iload 5, 2) := by decide +kernel
theorem dX6_behindLast_63 : decode cX6_behindLast 63 = .ok (.ireturn, 1) := by decide +kernel
theorem dX6_behindLast_64 : decode cX6_behindLast 64 = .ok (.iinc 5 (-1), 3) := by decide +kernel
theorem dX6_behindLast_67 : decode cX6_behindLast 67 = .ok (.goto (-48), 3) := by decide +kernel
theorem dX6_behindLast_70 : decode cX6_behindLast 70 = .ok (.iconst 0, 1) := by decide +kernel
theorem dX6_behindLast_71 : decode cX6_behindLast 71 = .ok (.ireturn, 1) := by decide +kernel
theorem dX6_insert_0 : decode cX6_insert 0 = .ok (.aload_n 0, 1) := by decide +kernel
theorem dX6_insert_1 : decode cX6_insert 1 = .ok (.getfield 22, 3) := by decide +kernel
theorem dX6_insert_4 : decode cX6_insert 4 = .ok (.iconst 1, 1) := by decide +kernel
theorem dX6_insert_5 : decode cX6_insert 5 = .ok (.isub, 1) := by decide +kernel
theorem dX6_insert_6 : decode cX6_insert 6 = .ok (.istore_n 3, 1) := by decide +kernel
theorem dX6_insert_7 : decode cX6_insert 7 = .ok (.iload_n 3, 1) := by decide +kernel
theorem dX6_insert_8 : decode cX6_insert 8 = .ok (.iload_n 2, 1) := by decide +kernel
theorem dX6_insert_9 : decode cX6_insert 9 = .ok (.if_icmp .le 27, 3) := by decide +kernel
theorem dX6_insert_12 : decode cX6_insert 12 = .ok (.iload_n 3, 1) := by decide +kernel
theorem dX6_insert_13 : decode cX6_insert 13 = .ok (.ifCond .le 23, 3) := by decide +kernel
theorem dX6_insert_16 : decode cX6_insert 16 = .ok (.iload_n 3, 1) := by decide +kernel
theorem dX6_insert_17 : decode cX6_insert 17 = .ok (.aload_n 1, 1) := by decide +kernel
theorem dX6_insert_18 : decode cX6_insert 18 = .ok (.arraylength, 1) := by decide +kernel
theorem dX6_insert_19 : decode cX6_insert 19 = .ok (.if_icmp .ge 17, 3) := by decide +kernel
theorem dX6_insert_22 : decode cX6_insert 22 = .ok (.aload_n 1, 1) := by decide +kernel
theorem dX6_insert_23 : decode cX6_insert 23 = .ok (.iload_n 3, 1) := by decide +kernel
theorem dX6_insert_24 : decode cX6_insert 24 = .ok (.aload_n 1, 1) := by decide +kernel
theorem dX6_insert_25 : decode cX6_insert 25 = .ok (.iload_n 3, 1) := by decide +kernel
theorem dX6_insert_26 : decode cX6_insert 26 = .ok (.iconst 1, 1) := by decide +kernel
theorem dX6_insert_27 : decode cX6_insert 27 = .ok (.isub, 1) := by decide +kernel
theorem dX6_insert_28 : decode cX6_insert 28 = .ok (.iaload, 1) := by decide +kernel
theorem dX6_insert_29 : decode cX6_insert 29 = .ok (.iastore, 1) := by decide +kernel
theorem dX6_insert_30 : decode cX6_insert 30 = .ok (.iinc 3 (-1), 3) := by decide +kernel
theorem dX6_insert_33 : decode cX6_insert 33 = .ok (.goto (-26), 3) := by decide +kernel
theorem dX6_insert_36 : decode cX6_insert 36 = .ok (.iload_n 2, 1) := by decide +kernel
theorem dX6_insert_37 : decode cX6_insert 37 = .ok (.ifCond .lt 16, 3) := by decide +kernel
theorem dX6_insert_40 : decode cX6_insert 40 = .ok (.iload_n 2, 1) := by decide +kernel
theorem dX6_insert_41 : decode cX6_insert 41 = .ok (.aload_n 1, 1) := by decide +kernel
theorem dX6_insert_42 : decode cX6_insert 42 = .ok (.arraylength, 1) := by decide +kernel
theorem dX6_insert_43 : decode cX6_insert 43 = .ok (.if_icmp .ge 10, 3) := by decide +kernel
theorem dX6_insert_46 : decode cX6_insert 46 = .ok (.aload_n 1, 1) := by decide +kernel
theorem dX6_insert_47 : decode cX6_insert 47 = .ok (.iload_n 2, 1) := by decide +kernel
theorem dX6_insert_48 : decode cX6_insert 48 = .ok (.aload_n 0, 1) := by decide +kernel
theorem dX6_insert_49 : decode cX6_insert 49 = .ok (.getfield 22, 3) := by decide +kernel
theorem dX6_insert_52 : decode cX6_insert 52 = .ok (.iastore, 1) := by decide +kernel
theorem dX6_insert_53 : decode cX6_insert 53 = .ok (.return_, 1) := by decide +kernel
theorem dX7_init_0 : decode cX7_init 0 = .ok (.aload_n 0, 1) := by decide +kernel
theorem dX7_init_1 : decode cX7_init 1 = .ok (.invokespecial 1, 3) := by decide +kernel
theorem dX7_init_4 : decode cX7_init 4 = .ok (.aload_n 0, 1) := by decide +kernel
theorem dX7_init_5 : decode cX7_init 5 = .ok (.new 7, 3) := by decide +kernel
theorem dX7_init_8 : decode cX7_init 8 = .ok (.dup, 1) := by decide +kernel
theorem dX7_init_9 : decode cX7_init 9 = .ok (.invokespecial 9, 3) := by decide +kernel
theorem dX7_init_12 : decode cX7_init 12 = .ok (.putfield 10, 3) := by decide +kernel
theorem dX7_init_15 : decode cX7_init 15 = .ok (.aload_n 0, 1) := by decide +kernel
theorem dX7_init_16 : decode cX7_init 16 = .ok (.new 16, 3) := by decide +kernel
theorem dX7_init_19 : decode cX7_init 19 = .ok (.dup, 1) := by decide +kernel
theorem dX7_init_20 : decode cX7_init 20 = .ok (.invokespecial 18, 3) := by decide +kernel
theorem dX7_init_23 : decode cX7_init 23 = .ok (.putfield 19, 3) := by decide +kernel
theorem dX7_init_26 : decode cX7_init 26 = .ok (.aload_n 0, 1) := by decide +kernel
theorem dX7_init_27 : decode cX7_init 27 = .ok (.new 23, 3) := by decide +kernel
theorem dX7_init_30 : decode cX7_init 30 = .ok (.dup, 1) := by decide +kernel
theorem dX7_init_31 : decode cX7_init 31 = .ok (.invokespecial 25, 3) := by decide +kernel
theorem dX7_init_34 : decode cX7_init 34 = .ok (.putfield 26, 3) := by decide +kernel
theorem dX7_init_37 : decode cX7_init 37 = .ok (.aload_n 0, 1) := by decide +kernel
theorem dX7_init_38 : decode cX7_init 38 = .ok (.new 30, 3) := by decide +kernel
theorem dX7_init_41 : decode cX7_init 41 = .ok (.dup, 1) := by decide +kernel
theorem dX7_init_42 : decode cX7_init 42 = .ok (.invokespecial 32, 3) := by decide +kernel
theorem dX7_init_45 : decode cX7_init 45 = .ok (.putfield 33, 3) := by decide +kernel
theorem dX7_init_48 : decode cX7_init 48 = .ok (.aload_n 0, 1) := by decide +kernel
theorem dX7_init_49 : decode cX7_init 49 = .ok (.sipush 200, 3) := by decide +kernel
theorem dX7_init_52 : decode cX7_init 52 = .ok (.newarray .char, 2) := by decide +kernel
theorem dX7_init_54 : decode cX7_init 54 = .ok (.putfield 37, 3) := by decide +kernel
theorem dX7_init_57 : decode cX7_init 57 = .ok (.aload_n 0, 1) := by decide +kernel
theorem dX7_init_58 : decode cX7_init 58 = .ok (.iconst 0, 1) := by decide +kernel
theorem dX7_init_59 : decode cX7_init 59 = .ok (.putfield 41, 3) := by decide +kernel
theorem dX7_init_62 : decode cX7_init 62 = .ok (.aload_n 0, 1) := by decide +kernel
theorem dX7_init_63 : decode cX7_init 63 = .ok (.iconst 0, 1) := by decide +kernel
theorem dX7_init_64 : decode cX7_init 64 = .ok (.putfield 45, 3) := by decide +kernel
theorem dX7_init_67 : decode cX7_init 67 = .ok (.aload_n 0, 1) := by decide +kernel
theorem dX7_init_68 : decode cX7_init 68 = .ok (.ldc 48, 2) := by decide +kernel
theorem dX7_init_70 : decode cX7_init 70 = .ok (.putfield 49, 3) := by decide +kernel
theorem dX7_init_73 : decode cX7_init 73 = .ok (.aload_n 0, 1) := by decide +kernel
theorem dX7_init_74 : decode cX7_init 74 = .ok (.lconst 0, 1) := by decide +kernel
theorem dX7_init_75 : decode cX7_init 75 = .ok (.putfield 52, 3) := by decide +kernel
theorem dX7_init_78 : decode cX7_init 78 = .ok (.aload_n 0, 1) := by decide +kernel
theorem dX7_init_79 : decode cX7_init 79 = .ok (.new 56, 3) := by decide +kernel
theorem dX7_init_82 : decode cX7_init 82 = .ok (.dup, 1) := by decide +kernel
theorem dX7_init_83 : decode cX7_init 83 = .ok (.invokespecial 58, 3) := by decide +kernel
theorem dX7_init_86 : decode cX7_init 86 = .ok (.putfield 59, 3) := by decide +kernel
theorem dX7_init_89 : decode cX7_init 89 = .ok (.aload_n 0, 1) := by decide +kernel
theorem dX7_init_90 : decode cX7_init 90 = .ok (.iconst 0, 1) := by decide +kernel
theorem dX7_init_91 : decode cX7_init 91 = .ok (.putfield 63, 3) := by decide +kernel
theorem dX7_init_94 : decode cX7_init 94 = .ok (.aload_n 0, 1) := by decide +kernel
theorem dX7_init_95 : decode cX7_init 95 = .ok (.new 67, 3) := by decide +kernel
theorem dX7_init_98 : decode cX7_init 98 = .ok (.dup, 1) := by decide +kernel
theorem dX7_init_99 : decode cX7_init 99 = .ok (.invokespecial 69, 3) := by decide +kernel
theorem dX7_init_102 : decode cX7_init 102 = .ok (.putfield 70, 3) := by decide +kernel
theorem dX7_init_105 : decode cX7_init 105 = .ok (.aload_n 0, 1) := by decide +kernel
theorem dX7_init_106 : decode cX7_init 106 = .ok (.new 67, 3) := by decide +kernel
theorem dX7_init_109 : decode cX7_init 109 = .ok (.dup, 1) := by decide +kernel
theorem dX7_init_110 : decode cX7_init 110 = .ok (.invokespecial 69, 3) := by decide +kernel
theorem dX7_init_113 : decode cX7_init 113 = .ok (.putfield 74, 3) := by decide +kernel
theorem dX7_init_116 : decode cX7_init 116 = .ok (.aload_n 0, 1) := by decide +kernel
theorem dX7_init_117 : decode cX7_init 117 = .ok (.bipush 20, 2) := by decide +kernel
theorem dX7_init_119 : decode cX7_init 119 = .ok (.anewarray 77, 3) := by decide +kernel
theorem dX7_init_122 : decode cX7_init 122 = .ok (.putfield 79, 3) := by decide +kernel
theorem dX7_init_125 : decode cX7_init 125 = .ok (.aload_n 0, 1) := by decide +kernel
theorem dX7_init_126 : decode cX7_init 126 = .ok (.iconst 0, 1) := by decide +kernel
theorem dX7_init_127 : decode cX7_init 127 = .ok (.putfield 83, 3) := by decide +kernel
theorem dX7_init_130 : decode cX7_init 130 = .ok (.aload_n 0, 1) := by decide +kernel
theorem dX7_init_131 : decode cX7_init 131 = .ok (.lconst 0, 1) := by decide +kernel
theorem dX7_init_132 : decode cX7_init 132 = .ok (.putfield 86, 3) := by decide +kernel
theorem dX7_init_135 : decode cX7_init 135 = .ok (.return_, 1) := by decide +kernel
theorem dX7_row_0 : decode cX7_row 0 = .ok (.iload_n 1, 1) := by decide +kernel
theorem dX7_row_1 : decode cX7_row 1 = .ok (.i2l, 1) := by decide +kernel
theorem dX7_row_2 : decode cX7_row 2 = .ok (.sipush 1000, 3) := by decide +kernel
theorem dX7_row_5 : decode cX7_row 5 = .ok (.invokestatic 89, 3) := by decide +kernel
theorem dX7_row_8 : decode cX7_row 8 = .ok (.ifCond .eq 45, 3) := by decide +kernel
theorem dX7_row_11 : decode cX7_row 11 = .ok (.iload_n 2, 1) := by decide +kernel
theorem dX7_row_12 : decode cX7_row 12 = .ok (.i2l, 1) := by decide +kernel
theorem dX7_row_13 : decode cX7_row 13 = .ok (.bipush 20, 2) := by decide +kernel
theorem dX7_row_15 : decode cX7_row 15 = .ok (.invokestatic 89, 3) := by decide +kernel
theorem dX7_row_18 : decode cX7_row 18 = .ok (.ifCond .eq 35, 3) := by decide +kernel
theorem dX7_row_21 : decode cX7_row 21 = .ok (.iload_n 3, 1) := by decide +kernel
theorem dX7_row_22 : decode cX7_row 22 = .ok (.i2l, 1) := by decide +kernel
theorem dX7_row_23 : decode cX7_row 23 = .ok (.bipush 50, 2) := by decide +kernel
theorem dX7_row_25 : decode cX7_row 25 = .ok (.invokestatic 89, 3) := by decide +kernel
theorem dX7_row_28 : decode cX7_row 28 = .ok (.ifCond .eq 25, 3) := by decide +kernel
theorem dX7_row_31 : decode cX7_row 31 = .ok (.lload 4, 2) := by decide +kernel
theorem dX7_row_33 : decode cX7_row 33 = .ok (.sipush 20001, 3) := by decide +kernel
theorem dX7_row_36 : decode cX7_row 36 = .ok (.invokestatic 89, 3) := by decide +kernel
theorem dX7_row_39 : decode cX7_row 39 = .ok (.ifCond .eq 14, 3) := by decide +kernel
theorem dX7_row_42 : decode cX7_row 42 = .ok (.iload 6, 2) := by decide +kernel
theorem dX7_row_44 : decode cX7_row 44 = .ok (.i2l, 1) := by decide +kernel
theorem dX7_row_45 : decode cX7_row 45 = .ok (.bipush 100, 2) := by decide +kernel
theorem dX7_row_47 : decode cX7_row 47 = .ok (.invokestatic 89, 3) := by decide +kernel
theorem dX7_row_50 : decode cX7_row 50 = .ok (.ifCond .ne 6, 3) := by decide +kernel
theorem dX7_row_53 : decode cX7_row 53 = .ok (.ldc 93, 2) := by decide +kernel
theorem dX7_row_55 : decode cX7_row 55 = .ok (.ireturn, 1) := by decide +kernel
theorem dX7_row_56 : decode cX7_row 56 = .ok (.aload_n 0, 1) := by decide +kernel
theorem dX7_row_57 : decode cX7_row 57 = .ok (.getfield 10, 3) := by decide +kernel
theorem dX7_row_60 : decode cX7_row 60 = .ok (.invokevirtual 94, 3) := by decide +kernel
theorem dX7_row_63 : decode cX7_row 63 = .ok (.sipush 300, 3) := by decide +kernel
theorem dX7_row_66 : decode cX7_row 66 = .ok (.if_icmp .lt 6, 3) := by decide +kernel
theorem dX7_row_69 : decode cX7_row 69 = .ok (.ldc 98, 2) := by decide +kernel
theorem dX7_row_71 : decode cX7_row 71 = .ok (.ireturn, 1) := by decide +kernel
theorem dX7_row_72 : decode cX7_row 72 = .ok (.aload_n 0, 1) := by decide +kernel
theorem dX7_row_73 : decode cX7_row 73 = .ok (.getfield 10, 3) := by decide +kernel
theorem dX7_row_76 : decode cX7_row 76 = .ok (.iload_n 1, 1) := by decide +kernel
theorem dX7_row_77 : decode cX7_row 77 = .ok (.iload_n 2, 1) := by decide +kernel
theorem dX7_row_78 : decode cX7_row 78 = .ok (.iload_n 3, 1) := by decide +kernel
theorem dX7_row_79 : decode cX7_row 79 = .ok (.lload 4, 2) := by decide +kernel
theorem dX7_row_81 : decode cX7_row 81 = .ok (.l2i, 1) := by decide +kernel
theorem dX7_row_82 : decode cX7_row 82 = .ok (.iload 6, 2) := by decide +kernel
theorem dX7_row_84 : decode cX7_row 84 = .ok (.invokevirtual 99, 3) := by decide +kernel
theorem dX7_row_87 : decode cX7_row 87 = .ok (.ireturn, 1) := by decide +kernel
theorem dX7_sign_0 : decode cX7_sign 0 = .ok (.iload_n 1, 1) := by decide +kernel
theorem dX7_sign_1 : decode cX7_sign 1 = .ok (.bipush 32, 2) := by decide +kernel
theorem dX7_sign_3 : decode cX7_sign 3 = .ok (.if_icmp .lt 49, 3) := by decide +kernel
theorem dX7_sign_6 : decode cX7_sign 6 = .ok (.iload_n 1, 1) := by decide +kernel
theorem dX7_sign_7 : decode cX7_sign 7 = .ok (.bipush 126, 2) := by decide +kernel
theorem dX7_sign_9 : decode cX7_sign 9 = .ok (.if_icmp .gt 43, 3) := by decide +kernel
theorem dX7_sign_12 : decode cX7_sign 12 = .ok (.aload_n 0, 1) := by decide +kernel
theorem dX7_sign_13 : decode cX7_sign 13 = .ok (.getfield 41, 3) := by decide +kernel
theorem dX7_sign_16 : decode cX7_sign 16 = .ok (.ifCond .lt 36, 3) := by decide +kernel
theorem dX7_sign_19 : decode cX7_sign 19 = .ok (.aload_n 0, 1) := by decide +kernel
theorem dX7_sign_20 : decode cX7_sign 20 = .ok (.getfield 41, 3) := by decide +kernel
theorem dX7_sign_23 : decode cX7_sign 23 = .ok (.aload_n 0, 1) := by decide +kernel
theorem dX7_sign_24 : decode cX7_sign 24 = .ok (.getfield 37, 3) := by decide +kernel
theorem dX7_sign_27 : decode cX7_sign 27 = .ok (.arraylength, 1) := by decide +kernel
theorem dX7_sign_28 : decode cX7_sign 28 = .ok (.if_icmp .ge 24, 3) := by decide +kernel
theorem dX7_sign_31 : decode cX7_sign 31 = .ok (.aload_n 0, 1) := by decide +kernel
theorem dX7_sign_32 : decode cX7_sign 32 = .ok (.getfield 37, 3) := by decide +kernel
theorem dX7_sign_35 : decode cX7_sign 35 = .ok (.aload_n 0, 1) := by decide +kernel
theorem dX7_sign_36 : decode cX7_sign 36 = .ok (.getfield 41, 3) := by decide +kernel
theorem dX7_sign_39 : decode cX7_sign 39 = .ok (.iload_n 1, 1) := by decide +kernel
theorem dX7_sign_40 : decode cX7_sign 40 = .ok (.i2c, 1) := by decide +kernel
theorem dX7_sign_41 : decode cX7_sign 41 = .ok (.castore, 1) := by decide +kernel
theorem dX7_sign_42 : decode cX7_sign 42 = .ok (.aload_n 0, 1) := by decide +kernel
theorem dX7_sign_43 : decode cX7_sign 43 = .ok (.dup, 1) := by decide +kernel
theorem dX7_sign_44 : decode cX7_sign 44 = .ok (.getfield 41, 3) := by decide +kernel
theorem dX7_sign_47 : decode cX7_sign 47 = .ok (.iconst 1, 1) := by decide +kernel
theorem dX7_sign_48 : decode cX7_sign 48 = .ok (.iadd, 1) := by decide +kernel
theorem dX7_sign_49 : decode cX7_sign 49 = .ok (.putfield 41, 3) := by decide +kernel
theorem dX7_sign_52 : decode cX7_sign 52 = .ok (.return_, 1) := by decide +kernel
theorem dX7_ask_0 : decode cX7_ask 0 = .ok (.iload_n 1, 1) := by decide +kernel
theorem dX7_ask_1 : decode cX7_ask 1 = .ok (.i2l, 1) := by decide +kernel
theorem dX7_ask_2 : decode cX7_ask 2 = .ok (.bipush 50, 2) := by decide +kernel
theorem dX7_ask_4 : decode cX7_ask 4 = .ok (.invokestatic 89, 3) := by decide +kernel
theorem dX7_ask_7 : decode cX7_ask 7 = .ok (.ifCond .ne 6, 3) := by decide +kernel
theorem dX7_ask_10 : decode cX7_ask 10 = .ok (.ldc 103, 2) := by decide +kernel
theorem dX7_ask_12 : decode cX7_ask 12 = .ok (.ireturn, 1) := by decide +kernel
theorem dX7_ask_13 : decode cX7_ask 13 = .ok (.aload_n 0, 1) := by decide +kernel
theorem dX7_ask_14 : decode cX7_ask 14 = .ok (.iload_n 1, 1) := by decide +kernel
theorem dX7_ask_15 : decode cX7_ask 15 = .ok (.invokevirtual 104, 3) := by decide +kernel
theorem dX7_ask_18 : decode cX7_ask 18 = .ok (.istore_n 2, 1) := by decide +kernel
theorem dX7_ask_19 : decode cX7_ask 19 = .ok (.iload_n 2, 1) := by decide +kernel
theorem dX7_ask_20 : decode cX7_ask 20 = .ok (.iconst (-1), 1) := by decide +kernel
theorem dX7_ask_21 : decode cX7_ask 21 = .ok (.if_icmp .eq 7, 3) := by decide +kernel
theorem dX7_ask_24 : decode cX7_ask 24 = .ok (.iconst (-1), 1) := by decide +kernel
theorem dX7_ask_25 : decode cX7_ask 25 = .ok (.iload_n 2, 1) := by decide +kernel
theorem dX7_ask_26 : decode cX7_ask 26 = .ok (.isub, 1) := by decide +kernel
theorem dX7_ask_27 : decode cX7_ask 27 = .ok (.ireturn, 1) := by decide +kernel
theorem dX7_ask_28 : decode cX7_ask 28 = .ok (.aload_n 0, 1) := by decide +kernel
theorem dX7_ask_29 : decode cX7_ask 29 = .ok (.getfield 26, 3) := by decide +kernel
theorem dX7_ask_32 : decode cX7_ask 32 = .ok (.invokevirtual 108, 3) := by decide +kernel
theorem dX7_ask_35 : decode cX7_ask 35 = .ok (.astore_n 3, 1) := by decide +kernel
theorem dX7_ask_36 : decode cX7_ask 36 = .ok (.aload_n 0, 1) := by decide +kernel
theorem dX7_ask_37 : decode cX7_ask 37 = .ok (.aload_n 0, 1) := by decide +kernel
theorem dX7_ask_38 : decode cX7_ask 38 = .ok (.aload_n 3, 1) := by decide +kernel
theorem dX7_ask_39 : decode cX7_ask 39 = .ok (.invokevirtual 112, 3) := by decide +kernel
theorem dX7_ask_42 : decode cX7_ask 42 = .ok (.putfield 52, 3) := by decide +kernel
theorem dX7_ask_45 : decode cX7_ask 45 = .ok (.aload_n 0, 1) := by decide +kernel
theorem dX7_ask_46 : decode cX7_ask 46 = .ok (.getfield 52, 3) := by decide +kernel
theorem dX7_ask_49 : decode cX7_ask 49 = .ok (.aload_n 0, 1) := by decide +kernel
theorem dX7_ask_50 : decode cX7_ask 50 = .ok (.getfield 49, 3) := by decide +kernel
theorem dX7_ask_53 : decode cX7_ask 53 = .ok (.i2l, 1) := by decide +kernel
theorem dX7_ask_54 : decode cX7_ask 54 = .ok (.lcmp, 1) := by decide +kernel
theorem dX7_ask_55 : decode cX7_ask 55 = .ok (.ifCond .le 6, 3) := by decide +kernel
theorem dX7_ask_58 : decode cX7_ask 58 = .ok (.ldc 116, 2) := by decide +kernel
theorem dX7_ask_60 : decode cX7_ask 60 = .ok (.ireturn, 1) := by decide +kernel
theorem dX7_ask_61 : decode cX7_ask 61 = .ok (.aload_n 0, 1) := by decide +kernel
theorem dX7_ask_62 : decode cX7_ask 62 = .ok (.aload_n 3, 1) := by decide +kernel
theorem dX7_ask_63 : decode cX7_ask 63 = .ok (.aload_n 0, 1) := by decide +kernel
theorem dX7_ask_64 : decode cX7_ask 64 = .ok (.getfield 10, 3) := by decide +kernel
theorem dX7_ask_67 : decode cX7_ask 67 = .ok (.invokevirtual 94, 3) := by decide +kernel
theorem dX7_ask_70 : decode cX7_ask 70 = .ok (.aload_n 0, 1) := by decide +kernel
theorem dX7_ask_71 : decode cX7_ask 71 = .ok (.getfield 70, 3) := by decide +kernel
theorem dX7_ask_74 : decode cX7_ask 74 = .ok (.invokevirtual 117, 3) := by decide +kernel
theorem dX7_ask_77 : decode cX7_ask 77 = .ok (.aload_n 0, 1) := by decide +kernel
theorem dX7_ask_78 : decode cX7_ask 78 = .ok (.getfield 26, 3) := by decide +kernel
theorem dX7_ask_81 : decode cX7_ask 81 = .ok (.aload_n 0, 1) := by decide +kernel
theorem dX7_ask_82 : decode cX7_ask 82 = .ok (.getfield 59, 3) := by decide +kernel
theorem dX7_ask_85 : decode cX7_ask 85 = .ok (.invokevirtual 121, 3) := by decide +kernel
theorem dX7_ask_88 : decode cX7_ask 88 = .ok (.aload_n 0, 1) := by decide +kernel
theorem dX7_ask_89 : decode cX7_ask 89 = .ok (.aload_n 3, 1) := by decide +kernel
theorem dX7_ask_90 : decode cX7_ask 90 = .ok (.putfield 59, 3) := by decide +kernel
theorem dX7_ask_93 : decode cX7_ask 93 = .ok (.aload_n 0, 1) := by decide +kernel
theorem dX7_ask_94 : decode cX7_ask 94 = .ok (.iconst 1, 1) := by decide +kernel
theorem dX7_ask_95 : decode cX7_ask 95 = .ok (.putfield 63, 3) := by decide +kernel
theorem dX7_ask_98 : decode cX7_ask 98 = .ok (.aload_n 0, 1) := by decide +kernel
theorem dX7_ask_99 : decode cX7_ask 99 = .ok (.getfield 70, 3) := by decide +kernel
theorem dX7_ask_102 : decode cX7_ask 102 = .ok (.invokevirtual 125, 3) := by decide +kernel
theorem dX7_ask_105 : decode cX7_ask 105 = .ok (.ireturn, 1) := by decide +kernel
theorem dX7_found_0 : decode cX7_found 0 = .ok (.iload_n 1, 1) := by decide +kernel
theorem dX7_found_1 : decode cX7_found 1 = .ok (.i2l, 1) := by decide +kernel
theorem dX7_found_2 : decode cX7_found 2 = .ok (.aload_n 0, 1) := by decide +kernel
theorem dX7_found_3 : decode cX7_found 3 = .ok (.getfield 70, 3) := by decide +kernel
theorem dX7_found_6 : decode cX7_found 6 = .ok (.invokevirtual 125, 3) := by decide +kernel
theorem dX7_found_9 : decode cX7_found 9 = .ok (.invokestatic 89, 3) := by decide +kernel
theorem dX7_found_12 : decode cX7_found 12 = .ok (.ifCond .ne 7, 3) := by decide +kernel
theorem dX7_found_15 : decode cX7_found 15 = .ok (.ldc2_w 126, 3) := by decide +kernel
theorem dX7_found_18 : decode cX7_found 18 = .ok (.lreturn, 1) := by decide +kernel
theorem dX7_found_19 : decode cX7_found 19 = .ok (.iload_n 2, 1) := by decide +kernel
theorem dX7_found_20 : decode cX7_found 20 = .ok (.ifCond .ne 13, 3) := by decide +kernel
theorem dX7_found_23 : decode cX7_found 23 = .ok (.aload_n 0, 1) := by decide +kernel
theorem dX7_found_24 : decode cX7_found 24 = .ok (.getfield 70, 3) := by decide +kernel
theorem dX7_found_27 : decode cX7_found 27 = .ok (.iload_n 1, 1) := by decide +kernel
theorem dX7_found_28 : decode cX7_found 28 = .ok (.invokevirtual 128, 3) := by decide +kernel
theorem dX7_found_31 : decode cX7_found 31 = .ok (.i2l, 1) := by decide +kernel
theorem dX7_found_32 : decode cX7_found 32 = .ok (.lreturn, 1) := by decide +kernel
theorem dX7_found_33 : decode cX7_found 33 = .ok (.aload_n 0, 1) := by decide +kernel
theorem dX7_found_34 : decode cX7_found 34 = .ok (.getfield 59, 3) := by decide +kernel
theorem dX7_found_37 : decode cX7_found 37 = .ok (.invokevirtual 131, 3) := by decide +kernel
theorem dX7_found_40 : decode cX7_found 40 = .ok (.iconst 1, 1) := by decide +kernel
theorem dX7_found_41 : decode cX7_found 41 = .ok (.if_icmp .ne 24, 3) := by decide +kernel
theorem dX7_found_44 : decode cX7_found 44 = .ok (.iload_n 2, 1) := by decide +kernel
theorem dX7_found_45 : decode cX7_found 45 = .ok (.iconst 1, 1) := by decide +kernel
theorem dX7_found_46 : decode cX7_found 46 = .ok (.if_icmp .ne 15, 3) := by decide +kernel
theorem dX7_found_49 : decode cX7_found 49 = .ok (.aload_n 0, 1) := by decide +kernel
theorem dX7_found_50 : decode cX7_found 50 = .ok (.getfield 70, 3) := by decide +kernel
theorem dX7_found_53 : decode cX7_found 53 = .ok (.iload_n 1, 1) := by decide +kernel
theorem dX7_found_54 : decode cX7_found 54 = .ok (.invokevirtual 134, 3) := by decide +kernel
theorem dX7_found_57 : decode cX7_found 57 = .ok (.i2l, 1) := by decide +kernel
theorem dX7_found_58 : decode cX7_found 58 = .ok (.goto 6, 3) := by decide +kernel
theorem dX7_found_61 : decode cX7_found 61 = .ok (.ldc2_w 126, 3) := by decide +kernel
theorem dX7_found_64 : decode cX7_found 64 = .ok (.lreturn, 1) := by decide +kernel
theorem dX7_found_65 : decode cX7_found 65 = .ok (.iload_n 2, 1) := by decide +kernel
theorem dX7_found_66 : decode cX7_found 66 = .ok (.iconst 1, 1) := by decide +kernel
theorem dX7_found_67 : decode cX7_found 67 = .ok (.isub, 1) := by decide +kernel
theorem dX7_found_68 : decode cX7_found 68 = .ok (.istore_n 3, 1) := by decide +kernel
theorem dX7_found_69 : decode cX7_found 69 = .ok (.iload_n 3, 1) := by decide +kernel
theorem dX7_found_70 : decode cX7_found 70 = .ok (.i2l, 1) := by decide +kernel
theorem dX7_found_71 : decode cX7_found 71 = .ok (.iconst 5, 1) := by decide +kernel
theorem dX7_found_72 : decode cX7_found 72 = .ok (.invokestatic 89, 3) := by decide +kernel
theorem dX7_found_75 : decode cX7_found 75 = .ok (.ifCond .eq 11, 3) := by decide +kernel
theorem dX7_found_78 : decode cX7_found 78 = .ok (.aload_n 0, 1) := by decide +kernel
theorem dX7_found_79 : decode cX7_found 79 = .ok (.iload_n 3, 1) := by decide +kernel
theorem dX7_found_80 : decode cX7_found 80 = .ok (.invokevirtual 137, 3) := by decide +kernel
theorem dX7_found_83 : decode cX7_found 83 = .ok (.ifCond .eq 7, 3) := by decide +kernel
theorem dX7_found_86 : decode cX7_found 86 = .ok (.ldc2_w 126, 3) := by decide +kernel
theorem dX7_found_89 : decode cX7_found 89 = .ok (.lreturn, 1) := by decide +kernel
theorem dX7_found_90 : decode cX7_found 90 = .ok (.aload_n 0, 1) := by decide +kernel
theorem dX7_found_91 : decode cX7_found 91 = .ok (.getfield 10, 3) := by decide +kernel
theorem dX7_found_94 : decode cX7_found 94 = .ok (.aload_n 0, 1) := by decide +kernel
theorem dX7_found_95 : decode cX7_found 95 = .ok (.getfield 70, 3) := by decide +kernel
theorem dX7_found_98 : decode cX7_found 98 = .ok (.iload_n 1, 1) := by decide +kernel
theorem dX7_found_99 : decode cX7_found 99 = .ok (.invokevirtual 128, 3) := by decide +kernel
theorem dX7_found_102 : decode cX7_found 102 = .ok (.iload_n 3, 1) := by decide +kernel
theorem dX7_found_103 : decode cX7_found 103 = .ok (.invokevirtual 141, 3) := by decide +kernel
theorem dX7_found_106 : decode cX7_found 106 = .ok (.i2l, 1) := by decide +kernel
theorem dX7_found_107 : decode cX7_found 107 = .ok (.lreturn, 1) := by decide +kernel
theorem dX7_page_0 : decode cX7_page 0 = .ok (.iload_n 1, 1) := by decide +kernel
theorem dX7_page_1 : decode cX7_page 1 = .ok (.ifCond .lt 33, 3) := by decide +kernel
theorem dX7_page_4 : decode cX7_page 4 = .ok (.lload_n 2, 1) := by decide +kernel
theorem dX7_page_5 : decode cX7_page 5 = .ok (.lconst 0, 1) := by decide +kernel
theorem dX7_page_6 : decode cX7_page 6 = .ok (.lcmp, 1) := by decide +kernel
theorem dX7_page_7 : decode cX7_page 7 = .ok (.ifCond .lt 27, 3) := by decide +kernel
theorem dX7_page_10 : decode cX7_page 10 = .ok (.lload_n 2, 1) := by decide +kernel
theorem dX7_page_11 : decode cX7_page 11 = .ok (.aload_n 0, 1) := by decide +kernel
theorem dX7_page_12 : decode cX7_page 12 = .ok (.getfield 10, 3) := by decide +kernel
theorem dX7_page_15 : decode cX7_page 15 = .ok (.invokevirtual 94, 3) := by decide +kernel
theorem dX7_page_18 : decode cX7_page 18 = .ok (.i2l, 1) := by decide +kernel
theorem dX7_page_19 : decode cX7_page 19 = .ok (.lcmp, 1) := by decide +kernel
theorem dX7_page_20 : decode cX7_page 20 = .ok (.ifCond .gt 14, 3) := by decide +kernel
theorem dX7_page_23 : decode cX7_page 23 = .ok (.iload 4, 2) := by decide +kernel
theorem dX7_page_25 : decode cX7_page 25 = .ok (.i2l, 1) := by decide +kernel
theorem dX7_page_26 : decode cX7_page 26 = .ok (.bipush 10, 2) := by decide +kernel
theorem dX7_page_28 : decode cX7_page 28 = .ok (.invokestatic 89, 3) := by decide +kernel
theorem dX7_page_31 : decode cX7_page 31 = .ok (.ifCond .ne 6, 3) := by decide +kernel
theorem dX7_page_34 : decode cX7_page 34 = .ok (.ldc 93, 2) := by decide +kernel
theorem dX7_page_36 : decode cX7_page 36 = .ok (.ireturn, 1) := by decide +kernel
theorem dX7_page_37 : decode cX7_page 37 = .ok (.aload_n 0, 1) := by decide +kernel
theorem dX7_page_38 : decode cX7_page 38 = .ok (.getfield 63, 3) := by decide +kernel
theorem dX7_page_41 : decode cX7_page 41 = .ok (.ifCond .ne 5, 3) := by decide +kernel
theorem dX7_page_44 : decode cX7_page 44 = .ok (.iconst (-1), 1) := by decide +kernel
theorem dX7_page_45 : decode cX7_page 45 = .ok (.ireturn, 1) := by decide +kernel
theorem dX7_page_46 : decode cX7_page 46 = .ok (.aload_n 0, 1) := by decide +kernel
theorem dX7_page_47 : decode cX7_page 47 = .ok (.aload_n 0, 1) := by decide +kernel
theorem dX7_page_48 : decode cX7_page 48 = .ok (.getfield 59, 3) := by decide +kernel
theorem dX7_page_51 : decode cX7_page 51 = .ok (.lload_n 2, 1) := by decide +kernel
theorem dX7_page_52 : decode cX7_page 52 = .ok (.l2i, 1) := by decide +kernel
theorem dX7_page_53 : decode cX7_page 53 = .ok (.aload_n 0, 1) := by decide +kernel
theorem dX7_page_54 : decode cX7_page 54 = .ok (.getfield 74, 3) := by decide +kernel
theorem dX7_page_57 : decode cX7_page 57 = .ok (.invokevirtual 117, 3) := by decide +kernel
theorem dX7_page_60 : decode cX7_page 60 = .ok (.iload_n 1, 1) := by decide +kernel
theorem dX7_page_61 : decode cX7_page 61 = .ok (.i2l, 1) := by decide +kernel
theorem dX7_page_62 : decode cX7_page 62 = .ok (.ldc2_w 145, 3) := by decide +kernel
theorem dX7_page_65 : decode cX7_page 65 = .ok (.lmul, 1) := by decide +kernel
theorem dX7_page_66 : decode cX7_page 66 = .ok (.iload 4, 2) := by decide +kernel
theorem dX7_page_68 : decode cX7_page 68 = .ok (.i2l, 1) := by decide +kernel
theorem dX7_page_69 : decode cX7_page 69 = .ok (.ladd, 1) := by decide +kernel
theorem dX7_page_70 : decode cX7_page 70 = .ok (.lstore 5, 2) := by decide +kernel
theorem dX7_page_72 : decode cX7_page 72 = .ok (.lload 5, 2) := by decide +kernel
theorem dX7_page_74 : decode cX7_page 74 = .ok (.aload_n 0, 1) := by decide +kernel
theorem dX7_page_75 : decode cX7_page 75 = .ok (.getfield 74, 3) := by decide +kernel
theorem dX7_page_78 : decode cX7_page 78 = .ok (.invokevirtual 125, 3) := by decide +kernel
theorem dX7_page_81 : decode cX7_page 81 = .ok (.i2l, 1) := by decide +kernel
theorem dX7_page_82 : decode cX7_page 82 = .ok (.lcmp, 1) := by decide +kernel
theorem dX7_page_83 : decode cX7_page 83 = .ok (.ifCond .ge 16, 3) := by decide +kernel
theorem dX7_page_86 : decode cX7_page 86 = .ok (.aload_n 0, 1) := by decide +kernel
theorem dX7_page_87 : decode cX7_page 87 = .ok (.getfield 74, 3) := by decide +kernel
theorem dX7_page_90 : decode cX7_page 90 = .ok (.lload 5, 2) := by decide +kernel
theorem dX7_page_92 : decode cX7_page 92 = .ok (.l2i, 1) := by decide +kernel
theorem dX7_page_93 : decode cX7_page 93 = .ok (.invokevirtual 128, 3) := by decide +kernel
theorem dX7_page_96 : decode cX7_page 96 = .ok (.goto 4, 3) := by decide +kernel
theorem dX7_page_99 : decode cX7_page 99 = .ok (.iconst (-1), 1) := by decide +kernel
theorem dX7_page_100 : decode cX7_page 100 = .ok (.ireturn, 1) := by decide +kernel
theorem dX7_right_0 : decode cX7_right 0 = .ok (.iload_n 1, 1) := by decide +kernel
theorem dX7_right_1 : decode cX7_right 1 = .ok (.i2l, 1) := by decide +kernel
theorem dX7_right_2 : decode cX7_right 2 = .ok (.bipush 50, 2) := by decide +kernel
theorem dX7_right_4 : decode cX7_right 4 = .ok (.invokestatic 89, 3) := by decide +kernel
theorem dX7_right_7 : decode cX7_right 7 = .ok (.ifCond .ne 6, 3) := by decide +kernel
theorem dX7_right_10 : decode cX7_right 10 = .ok (.ldc 103, 2) := by decide +kernel
theorem dX7_right_12 : decode cX7_right 12 = .ok (.ireturn, 1) := by decide +kernel
theorem dX7_right_13 : decode cX7_right 13 = .ok (.iload_n 2, 1) := by decide +kernel
theorem dX7_right_14 : decode cX7_right 14 = .ok (.iconst (-1), 1) := by decide +kernel
theorem dX7_right_15 : decode cX7_right 15 = .ok (.if_icmp .eq 13, 3) := by decide +kernel
theorem dX7_right_18 : decode cX7_right 18 = .ok (.iload_n 2, 1) := by decide +kernel
theorem dX7_right_19 : decode cX7_right 19 = .ok (.i2l, 1) := by decide +kernel
theorem dX7_right_20 : decode cX7_right 20 = .ok (.bipush 100, 2) := by decide +kernel
theorem dX7_right_22 : decode cX7_right 22 = .ok (.invokestatic 89, 3) := by decide +kernel
theorem dX7_right_25 : decode cX7_right 25 = .ok (.ifCond .eq 18, 3) := by decide +kernel
theorem dX7_right_28 : decode cX7_right 28 = .ok (.iload_n 3, 1) := by decide +kernel
theorem dX7_right_29 : decode cX7_right 29 = .ok (.iconst (-1), 1) := by decide +kernel
theorem dX7_right_30 : decode cX7_right 30 = .ok (.if_icmp .eq 16, 3) := by decide +kernel
theorem dX7_right_33 : decode cX7_right 33 = .ok (.iload_n 3, 1) := by decide +kernel
theorem dX7_right_34 : decode cX7_right 34 = .ok (.i2l, 1) := by decide +kernel
theorem dX7_right_35 : decode cX7_right 35 = .ok (.bipush 20, 2) := by decide +kernel
theorem dX7_right_37 : decode cX7_right 37 = .ok (.invokestatic 89, 3) := by decide +kernel
theorem dX7_right_40 : decode cX7_right 40 = .ok (.ifCond .ne 6, 3) := by decide +kernel
theorem dX7_right_43 : decode cX7_right 43 = .ok (.ldc 93, 2) := by decide +kernel
theorem dX7_right_45 : decode cX7_right 45 = .ok (.ireturn, 1) := by decide +kernel
theorem dX7_right_46 : decode cX7_right 46 = .ok (.aload_n 0, 1) := by decide +kernel
theorem dX7_right_47 : decode cX7_right 47 = .ok (.getfield 19, 3) := by decide +kernel
theorem dX7_right_50 : decode cX7_right 50 = .ok (.iload_n 1, 1) := by decide +kernel
theorem dX7_right_51 : decode cX7_right 51 = .ok (.iload_n 2, 1) := by decide +kernel
theorem dX7_right_52 : decode cX7_right 52 = .ok (.iload_n 3, 1) := by decide +kernel
theorem dX7_right_53 : decode cX7_right 53 = .ok (.invokevirtual 147, 3) := by decide +kernel
theorem dX7_right_56 : decode cX7_right 56 = .ok (.ifCond .ne 28, 3) := by decide +kernel
theorem dX7_right_59 : decode cX7_right 59 = .ok (.aload_n 0, 1) := by decide +kernel
theorem dX7_right_60 : decode cX7_right 60 = .ok (.getfield 19, 3) := by decide +kernel
theorem dX7_right_63 : decode cX7_right 63 = .ok (.invokevirtual 151, 3) := by decide +kernel
theorem dX7_right_66 : decode cX7_right 66 = .ok (.bipush 100, 2) := by decide +kernel
theorem dX7_right_68 : decode cX7_right 68 = .ok (.if_icmp .lt 6, 3) := by decide +kernel
theorem dX7_right_71 : decode cX7_right 71 = .ok (.ldc 98, 2) := by decide +kernel
theorem dX7_right_73 : decode cX7_right 73 = .ok (.ireturn, 1) := by decide +kernel
theorem dX7_right_74 : decode cX7_right 74 = .ok (.aload_n 0, 1) := by decide +kernel
theorem dX7_right_75 : decode cX7_right 75 = .ok (.getfield 19, 3) := by decide +kernel
theorem dX7_right_78 : decode cX7_right 78 = .ok (.iload_n 1, 1) := by decide +kernel
theorem dX7_right_79 : decode cX7_right 79 = .ok (.iload_n 2, 1) := by decide +kernel
theorem dX7_right_80 : decode cX7_right 80 = .ok (.iload_n 3, 1) := by decide +kernel
theorem dX7_right_81 : decode cX7_right 81 = .ok (.invokevirtual 152, 3) := by decide +kernel
theorem dX7_right_84 : decode cX7_right 84 = .ok (.aload_n 0, 1) := by decide +kernel
theorem dX7_right_85 : decode cX7_right 85 = .ok (.getfield 19, 3) := by decide +kernel
theorem dX7_right_88 : decode cX7_right 88 = .ok (.iload_n 1, 1) := by decide +kernel
theorem dX7_right_89 : decode cX7_right 89 = .ok (.invokevirtual 155, 3) := by decide +kernel
theorem dX7_right_92 : decode cX7_right 92 = .ok (.ireturn, 1) := by decide +kernel
theorem dX7_masked_0 : decode cX7_masked 0 = .ok (.iload_n 1, 1) := by decide +kernel
theorem dX7_masked_1 : decode cX7_masked 1 = .ok (.i2l, 1) := by decide +kernel
theorem dX7_masked_2 : decode cX7_masked 2 = .ok (.iconst 5, 1) := by decide +kernel
theorem dX7_masked_3 : decode cX7_masked 3 = .ok (.invokestatic 89, 3) := by decide +kernel
theorem dX7_masked_6 : decode cX7_masked 6 = .ok (.ifCond .ne 6, 3) := by decide +kernel
theorem dX7_masked_9 : decode cX7_masked 9 = .ok (.ldc 93, 2) := by decide +kernel
theorem dX7_masked_11 : decode cX7_masked 11 = .ok (.ireturn, 1) := by decide +kernel
theorem dX7_masked_12 : decode cX7_masked 12 = .ok (.aload_n 0, 1) := by decide +kernel
theorem dX7_masked_13 : decode cX7_masked 13 = .ok (.iload_n 1, 1) := by decide +kernel
theorem dX7_masked_14 : decode cX7_masked 14 = .ok (.invokevirtual 137, 3) := by decide +kernel
theorem dX7_masked_17 : decode cX7_masked 17 = .ok (.iload_n 2, 1) := by decide +kernel
theorem dX7_masked_18 : decode cX7_masked 18 = .ok (.if_icmp .ne 5, 3) := by decide +kernel
theorem dX7_masked_21 : decode cX7_masked 21 = .ok (.iconst 0, 1) := by decide +kernel
theorem dX7_masked_22 : decode cX7_masked 22 = .ok (.ireturn, 1) := by decide +kernel
theorem dX7_masked_23 : decode cX7_masked 23 = .ok (.aload_n 0, 1) := by decide +kernel
theorem dX7_masked_24 : decode cX7_masked 24 = .ok (.dup, 1) := by decide +kernel
theorem dX7_masked_25 : decode cX7_masked 25 = .ok (.getfield 45, 3) := by decide +kernel
theorem dX7_masked_28 : decode cX7_masked 28 = .ok (.iconst 1, 1) := by decide +kernel
theorem dX7_masked_29 : decode cX7_masked 29 = .ok (.iload_n 1, 1) := by decide +kernel
theorem dX7_masked_30 : decode cX7_masked 30 = .ok (.ishl, 1) := by decide +kernel
theorem dX7_masked_31 : decode cX7_masked 31 = .ok (.ixor, 1) := by decide +kernel
theorem dX7_masked_32 : decode cX7_masked 32 = .ok (.putfield 45, 3) := by decide +kernel
theorem dX7_masked_35 : decode cX7_masked 35 = .ok (.iconst 1, 1) := by decide +kernel
theorem dX7_masked_36 : decode cX7_masked 36 = .ok (.ireturn, 1) := by decide +kernel
theorem dX7_cost_0 : decode cX7_cost 0 = .ok (.aload_n 0, 1) := by decide +kernel
theorem dX7_cost_1 : decode cX7_cost 1 = .ok (.getfield 52, 3) := by decide +kernel
theorem dX7_cost_4 : decode cX7_cost 4 = .ok (.lreturn, 1) := by decide +kernel
theorem dX7_bound_0 : decode cX7_bound 0 = .ok (.lload_n 1, 1) := by decide +kernel
theorem dX7_bound_1 : decode cX7_bound 1 = .ok (.lconst 0, 1) := by decide +kernel
theorem dX7_bound_2 : decode cX7_bound 2 = .ok (.lcmp, 1) := by decide +kernel
theorem dX7_bound_3 : decode cX7_bound 3 = .ok (.ifCond .lt 11, 3) := by decide +kernel
theorem dX7_bound_6 : decode cX7_bound 6 = .ok (.lload_n 1, 1) := by decide +kernel
theorem dX7_bound_7 : decode cX7_bound 7 = .ok (.ldc2_w 158, 3) := by decide +kernel
theorem dX7_bound_10 : decode cX7_bound 10 = .ok (.lcmp, 1) := by decide +kernel
theorem dX7_bound_11 : decode cX7_bound 11 = .ok (.ifCond .le 6, 3) := by decide +kernel
theorem dX7_bound_14 : decode cX7_bound 14 = .ok (.ldc 93, 2) := by decide +kernel
theorem dX7_bound_16 : decode cX7_bound 16 = .ok (.ireturn, 1) := by decide +kernel
theorem dX7_bound_17 : decode cX7_bound 17 = .ok (.aload_n 0, 1) := by decide +kernel
theorem dX7_bound_18 : decode cX7_bound 18 = .ok (.getfield 49, 3) := by decide +kernel
theorem dX7_bound_21 : decode cX7_bound 21 = .ok (.istore_n 3, 1) := by decide +kernel
theorem dX7_bound_22 : decode cX7_bound 22 = .ok (.aload_n 0, 1) := by decide +kernel
theorem dX7_bound_23 : decode cX7_bound 23 = .ok (.lload_n 1, 1) := by decide +kernel
theorem dX7_bound_24 : decode cX7_bound 24 = .ok (.l2i, 1) := by decide +kernel
theorem dX7_bound_25 : decode cX7_bound 25 = .ok (.putfield 49, 3) := by decide +kernel
theorem dX7_bound_28 : decode cX7_bound 28 = .ok (.iload_n 3, 1) := by decide +kernel
theorem dX7_bound_29 : decode cX7_bound 29 = .ok (.ireturn, 1) := by decide +kernel
theorem dX7_save_0 : decode cX7_save 0 = .ok (.iload_n 1, 1) := by decide +kernel
theorem dX7_save_1 : decode cX7_save 1 = .ok (.i2l, 1) := by decide +kernel
theorem dX7_save_2 : decode cX7_save 2 = .ok (.bipush 50, 2) := by decide +kernel
theorem dX7_save_4 : decode cX7_save 4 = .ok (.invokestatic 89, 3) := by decide +kernel
theorem dX7_save_7 : decode cX7_save 7 = .ok (.ifCond .ne 6, 3) := by decide +kernel
theorem dX7_save_10 : decode cX7_save 10 = .ok (.ldc 103, 2) := by decide +kernel
theorem dX7_save_12 : decode cX7_save 12 = .ok (.ireturn, 1) := by decide +kernel
theorem dX7_save_13 : decode cX7_save 13 = .ok (.lload_n 2, 1) := by decide +kernel
theorem dX7_save_14 : decode cX7_save 14 = .ok (.lconst 1, 1) := by decide +kernel
theorem dX7_save_15 : decode cX7_save 15 = .ok (.lcmp, 1) := by decide +kernel
theorem dX7_save_16 : decode cX7_save 16 = .ok (.ifCond .lt 11, 3) := by decide +kernel
theorem dX7_save_19 : decode cX7_save 19 = .ok (.lload_n 2, 1) := by decide +kernel
theorem dX7_save_20 : decode cX7_save 20 = .ok (.ldc2_w 160, 3) := by decide +kernel
theorem dX7_save_23 : decode cX7_save 23 = .ok (.lcmp, 1) := by decide +kernel
theorem dX7_save_24 : decode cX7_save 24 = .ok (.ifCond .le 6, 3) := by decide +kernel
theorem dX7_save_27 : decode cX7_save 27 = .ok (.ldc 93, 2) := by decide +kernel
theorem dX7_save_29 : decode cX7_save 29 = .ok (.ireturn, 1) := by decide +kernel
theorem dX7_save_30 : decode cX7_save 30 = .ok (.aload_n 0, 1) := by decide +kernel
theorem dX7_save_31 : decode cX7_save 31 = .ok (.iload_n 1, 1) := by decide +kernel
theorem dX7_save_32 : decode cX7_save 32 = .ok (.invokevirtual 104, 3) := by decide +kernel
theorem dX7_save_35 : decode cX7_save 35 = .ok (.istore 4, 2) := by decide +kernel
theorem dX7_save_37 : decode cX7_save 37 = .ok (.iload 4, 2) := by decide +kernel
theorem dX7_save_39 : decode cX7_save 39 = .ok (.iconst (-1), 1) := by decide +kernel
theorem dX7_save_40 : decode cX7_save 40 = .ok (.if_icmp .eq 8, 3) := by decide +kernel
theorem dX7_save_43 : decode cX7_save 43 = .ok (.iconst (-1), 1) := by decide +kernel
theorem dX7_save_44 : decode cX7_save 44 = .ok (.iload 4, 2) := by decide +kernel
theorem dX7_save_46 : decode cX7_save 46 = .ok (.isub, 1) := by decide +kernel
theorem dX7_save_47 : decode cX7_save 47 = .ok (.ireturn, 1) := by decide +kernel
theorem dX7_save_48 : decode cX7_save 48 = .ok (.aload_n 0, 1) := by decide +kernel
theorem dX7_save_49 : decode cX7_save 49 = .ok (.getfield 83, 3) := by decide +kernel
theorem dX7_save_52 : decode cX7_save 52 = .ok (.i2l, 1) := by decide +kernel
theorem dX7_save_53 : decode cX7_save 53 = .ok (.aload_n 0, 1) := by decide +kernel
theorem dX7_save_54 : decode cX7_save 54 = .ok (.getfield 79, 3) := by decide +kernel
theorem dX7_save_57 : decode cX7_save 57 = .ok (.arraylength, 1) := by decide +kernel
theorem dX7_save_58 : decode cX7_save 58 = .ok (.invokestatic 89, 3) := by decide +kernel
theorem dX7_save_61 : decode cX7_save 61 = .ok (.ifCond .ne 6, 3) := by decide +kernel
theorem dX7_save_64 : decode cX7_save 64 = .ok (.ldc 98, 2) := by decide +kernel
theorem dX7_save_66 : decode cX7_save 66 = .ok (.ireturn, 1) := by decide +kernel
theorem dX7_save_67 : decode cX7_save 67 = .ok (.aload_n 0, 1) := by decide +kernel
theorem dX7_save_68 : decode cX7_save 68 = .ok (.getfield 79, 3) := by decide +kernel
theorem dX7_save_71 : decode cX7_save 71 = .ok (.aload_n 0, 1) := by decide +kernel
theorem dX7_save_72 : decode cX7_save 72 = .ok (.getfield 83, 3) := by decide +kernel
theorem dX7_save_75 : decode cX7_save 75 = .ok (.new 77, 3) := by decide +kernel
theorem dX7_save_78 : decode cX7_save 78 = .ok (.dup, 1) := by decide +kernel
theorem dX7_save_79 : decode cX7_save 79 = .ok (.aload_n 0, 1) := by decide +kernel
theorem dX7_save_80 : decode cX7_save 80 = .ok (.getfield 26, 3) := by decide +kernel
theorem dX7_save_83 : decode cX7_save 83 = .ok (.invokevirtual 108, 3) := by decide +kernel
theorem dX7_save_86 : decode cX7_save 86 = .ok (.lload_n 2, 1) := by decide +kernel
theorem dX7_save_87 : decode cX7_save 87 = .ok (.aload_n 0, 1) := by decide +kernel
theorem dX7_save_88 : decode cX7_save 88 = .ok (.getfield 86, 3) := by decide +kernel
theorem dX7_save_91 : decode cX7_save 91 = .ok (.lload_n 2, 1) := by decide +kernel
theorem dX7_save_92 : decode cX7_save 92 = .ok (.ladd, 1) := by decide +kernel
theorem dX7_save_93 : decode cX7_save 93 = .ok (.invokespecial 162, 3) := by decide +kernel
theorem dX7_save_96 : decode cX7_save 96 = .ok (.aastore, 1) := by decide +kernel
theorem dX7_save_97 : decode cX7_save 97 = .ok (.aload_n 0, 1) := by decide +kernel
theorem dX7_save_98 : decode cX7_save 98 = .ok (.dup, 1) := by decide +kernel
theorem dX7_save_99 : decode cX7_save 99 = .ok (.getfield 83, 3) := by decide +kernel
theorem dX7_save_102 : decode cX7_save 102 = .ok (.iconst 1, 1) := by decide +kernel
theorem dX7_save_103 : decode cX7_save 103 = .ok (.iadd, 1) := by decide +kernel
theorem dX7_save_104 : decode cX7_save 104 = .ok (.putfield 83, 3) := by decide +kernel
theorem dX7_save_107 : decode cX7_save 107 = .ok (.aload_n 0, 1) := by decide +kernel
theorem dX7_save_108 : decode cX7_save 108 = .ok (.getfield 26, 3) := by decide +kernel
theorem dX7_save_111 : decode cX7_save 111 = .ok (.new 56, 3) := by decide +kernel
theorem dX7_save_114 : decode cX7_save 114 = .ok (.dup, 1) := by decide +kernel
theorem dX7_save_115 : decode cX7_save 115 = .ok (.invokespecial 58, 3) := by decide +kernel
theorem dX7_save_118 : decode cX7_save 118 = .ok (.invokevirtual 121, 3) := by decide +kernel
theorem dX7_save_121 : decode cX7_save 121 = .ok (.aload_n 0, 1) := by decide +kernel
theorem dX7_save_122 : decode cX7_save 122 = .ok (.getfield 83, 3) := by decide +kernel
theorem dX7_save_125 : decode cX7_save 125 = .ok (.ireturn, 1) := by decide +kernel
theorem dX7_tick_0 : decode cX7_tick 0 = .ok (.lload_n 1, 1) := by decide +kernel
theorem dX7_tick_1 : decode cX7_tick 1 = .ok (.aload_n 0, 1) := by decide +kernel
theorem dX7_tick_2 : decode cX7_tick 2 = .ok (.getfield 86, 3) := by decide +kernel
theorem dX7_tick_5 : decode cX7_tick 5 = .ok (.lcmp, 1) := by decide +kernel
theorem dX7_tick_6 : decode cX7_tick 6 = .ok (.ifCond .lt 16, 3) := by decide +kernel
theorem dX7_tick_9 : decode cX7_tick 9 = .ok (.lload_n 1, 1) := by decide +kernel
theorem dX7_tick_10 : decode cX7_tick 10 = .ok (.aload_n 0, 1) := by decide +kernel
theorem dX7_tick_11 : decode cX7_tick 11 = .ok (.getfield 86, 3) := by decide +kernel
theorem dX7_tick_14 : decode cX7_tick 14 = .ok (.lsub, 1) := by decide +kernel
theorem dX7_tick_15 : decode cX7_tick 15 = .ok (.ldc2_w 160, 3) := by decide +kernel
theorem dX7_tick_18 : decode cX7_tick 18 = .ok (.lcmp, 1) := by decide +kernel
theorem dX7_tick_19 : decode cX7_tick 19 = .ok (.ifCond .le 6, 3) := by decide +kernel
theorem dX7_tick_22 : decode cX7_tick 22 = .ok (.ldc 93, 2) := by decide +kernel
theorem dX7_tick_24 : decode cX7_tick 24 = .ok (.ireturn, 1) := by decide +kernel
theorem dX7_tick_25 : decode cX7_tick 25 = .ok (.aload_n 0, 1) := by decide +kernel
theorem dX7_tick_26 : decode cX7_tick 26 = .ok (.lload_n 1, 1) := by decide +kernel
theorem dX7_tick_27 : decode cX7_tick 27 = .ok (.putfield 86, 3) := by decide +kernel
theorem dX7_tick_30 : decode cX7_tick 30 = .ok (.iconst 0, 1) := by decide +kernel
theorem dX7_tick_31 : decode cX7_tick 31 = .ok (.istore_n 3, 1) := by decide +kernel
theorem dX7_tick_32 : decode cX7_tick 32 = .ok (.iconst 0, 1) := by decide +kernel
theorem dX7_tick_33 : decode cX7_tick 33 = .ok (.istore 4, 2) := by decide +kernel
theorem dX7_tick_35 : decode cX7_tick 35 = .ok (.iload 4, 2) := by decide +kernel
theorem dX7_tick_37 : decode cX7_tick 37 = .ok (.aload_n 0, 1) := by decide +kernel
theorem dX7_tick_38 : decode cX7_tick 38 = .ok (.getfield 83, 3) := by decide +kernel
theorem dX7_tick_41 : decode cX7_tick 41 = .ok (.if_icmp .ge 33, 3) := by decide +kernel
theorem dX7_tick_44 : decode cX7_tick 44 = .ok (.iload 4, 2) := by decide +kernel
theorem dX7_tick_46 : decode cX7_tick 46 = .ok (.aload_n 0, 1) := by decide +kernel
theorem dX7_tick_47 : decode cX7_tick 47 = .ok (.getfield 79, 3) := by decide +kernel
theorem dX7_tick_50 : decode cX7_tick 50 = .ok (.arraylength, 1) := by decide +kernel
theorem dX7_tick_51 : decode cX7_tick 51 = .ok (.if_icmp .ge 23, 3) := by decide +kernel
theorem dX7_tick_54 : decode cX7_tick 54 = .ok (.iload_n 3, 1) := by decide +kernel
theorem dX7_tick_55 : decode cX7_tick 55 = .ok (.aload_n 0, 1) := by decide +kernel
theorem dX7_tick_56 : decode cX7_tick 56 = .ok (.aload_n 0, 1) := by decide +kernel
theorem dX7_tick_57 : decode cX7_tick 57 = .ok (.getfield 79, 3) := by decide +kernel
theorem dX7_tick_60 : decode cX7_tick 60 = .ok (.iload 4, 2) := by decide +kernel
theorem dX7_tick_62 : decode cX7_tick 62 = .ok (.aaload, 1) := by decide +kernel
theorem dX7_tick_63 : decode cX7_tick 63 = .ok (.invokevirtual 165, 3) := by decide +kernel
theorem dX7_tick_66 : decode cX7_tick 66 = .ok (.iadd, 1) := by decide +kernel
theorem dX7_tick_67 : decode cX7_tick 67 = .ok (.istore_n 3, 1) := by decide +kernel
theorem dX7_tick_68 : decode cX7_tick 68 = .ok (.iinc 4 1, 3) := by decide +kernel
theorem dX7_tick_71 : decode cX7_tick 71 = .ok (.goto (-36), 3) := by decide +kernel
theorem dX7_tick_74 : decode cX7_tick 74 = .ok (.iload_n 3, 1) := by decide +kernel
theorem dX7_tick_75 : decode cX7_tick 75 = .ok (.ireturn, 1) := by decide +kernel
theorem dX7_saved_0 : decode cX7_saved 0 = .ok (.iload_n 1, 1) := by decide +kernel
theorem dX7_saved_1 : decode cX7_saved 1 = .ok (.iconst 1, 1) := by decide +kernel
theorem dX7_saved_2 : decode cX7_saved 2 = .ok (.if_icmp .lt 20, 3) := by decide +kernel
theorem dX7_saved_5 : decode cX7_saved 5 = .ok (.iload_n 1, 1) := by decide +kernel
theorem dX7_saved_6 : decode cX7_saved 6 = .ok (.aload_n 0, 1) := by decide +kernel
theorem dX7_saved_7 : decode cX7_saved 7 = .ok (.getfield 83, 3) := by decide +kernel
theorem dX7_saved_10 : decode cX7_saved 10 = .ok (.if_icmp .gt 12, 3) := by decide +kernel
theorem dX7_saved_13 : decode cX7_saved 13 = .ok (.iload_n 1, 1) := by decide +kernel
theorem dX7_saved_14 : decode cX7_saved 14 = .ok (.aload_n 0, 1) := by decide +kernel
theorem dX7_saved_15 : decode cX7_saved 15 = .ok (.getfield 79, 3) := by decide +kernel
theorem dX7_saved_18 : decode cX7_saved 18 = .ok (.arraylength, 1) := by decide +kernel
theorem dX7_saved_19 : decode cX7_saved 19 = .ok (.if_icmp .le 6, 3) := by decide +kernel
theorem dX7_saved_22 : decode cX7_saved 22 = .ok (.ldc 103, 2) := by decide +kernel
theorem dX7_saved_24 : decode cX7_saved 24 = .ok (.ireturn, 1) := by decide +kernel
theorem dX7_saved_25 : decode cX7_saved 25 = .ok (.aload_n 0, 1) := by decide +kernel
theorem dX7_saved_26 : decode cX7_saved 26 = .ok (.getfield 79, 3) := by decide +kernel
theorem dX7_saved_29 : decode cX7_saved 29 = .ok (.iload_n 1, 1) := by decide +kernel
theorem dX7_saved_30 : decode cX7_saved 30 = .ok (.iconst 1, 1) := by decide +kernel
theorem dX7_saved_31 : decode cX7_saved 31 = .ok (.isub, 1) := by decide +kernel
theorem dX7_saved_32 : decode cX7_saved 32 = .ok (.aaload, 1) := by decide +kernel
theorem dX7_saved_33 : decode cX7_saved 33 = .ok (.astore_n 2, 1) := by decide +kernel
theorem dX7_saved_34 : decode cX7_saved 34 = .ok (.aload_n 2, 1) := by decide +kernel
theorem dX7_saved_35 : decode cX7_saved 35 = .ok (.ifnonnull 8, 3) := by decide +kernel
theorem dX7_saved_38 : decode cX7_saved 38 = .ok (.ldc 103, 2) := by decide +kernel
theorem dX7_saved_40 : decode cX7_saved 40 = .ok (.goto 7, 3) := by decide +kernel
theorem dX7_saved_43 : decode cX7_saved 43 = .ok (.aload_n 2, 1) := by decide +kernel
theorem dX7_saved_44 : decode cX7_saved 44 = .ok (.invokevirtual 169, 3) := by decide +kernel
theorem dX7_saved_47 : decode cX7_saved 47 = .ok (.ireturn, 1) := by decide +kernel
theorem dX7_scan_0 : decode cX7_scan 0 = .ok (.iload_n 1, 1) := by decide +kernel
theorem dX7_scan_1 : decode cX7_scan 1 = .ok (.i2l, 1) := by decide +kernel
theorem dX7_scan_2 : decode cX7_scan 2 = .ok (.bipush 50, 2) := by decide +kernel
theorem dX7_scan_4 : decode cX7_scan 4 = .ok (.invokestatic 89, 3) := by decide +kernel
theorem dX7_scan_7 : decode cX7_scan 7 = .ok (.ifCond .ne 6, 3) := by decide +kernel
theorem dX7_scan_10 : decode cX7_scan 10 = .ok (.ldc 103, 2) := by decide +kernel
theorem dX7_scan_12 : decode cX7_scan 12 = .ok (.ireturn, 1) := by decide +kernel
theorem dX7_scan_13 : decode cX7_scan 13 = .ok (.iconst 0, 1) := by decide +kernel
theorem dX7_scan_14 : decode cX7_scan 14 = .ok (.istore_n 2, 1) := by decide +kernel
theorem dX7_scan_15 : decode cX7_scan 15 = .ok (.iconst 1, 1) := by decide +kernel
theorem dX7_scan_16 : decode cX7_scan 16 = .ok (.istore_n 3, 1) := by decide +kernel
theorem dX7_scan_17 : decode cX7_scan 17 = .ok (.iload_n 3, 1) := by decide +kernel
theorem dX7_scan_18 : decode cX7_scan 18 = .ok (.aload_n 0, 1) := by decide +kernel
theorem dX7_scan_19 : decode cX7_scan 19 = .ok (.getfield 10, 3) := by decide +kernel
theorem dX7_scan_22 : decode cX7_scan 22 = .ok (.invokevirtual 94, 3) := by decide +kernel
theorem dX7_scan_25 : decode cX7_scan 25 = .ok (.if_icmp .gt 21, 3) := by decide +kernel
theorem dX7_scan_28 : decode cX7_scan 28 = .ok (.aload_n 0, 1) := by decide +kernel
theorem dX7_scan_29 : decode cX7_scan 29 = .ok (.iload_n 1, 1) := by decide +kernel
theorem dX7_scan_30 : decode cX7_scan 30 = .ok (.iload_n 3, 1) := by decide +kernel
theorem dX7_scan_31 : decode cX7_scan 31 = .ok (.invokevirtual 172, 3) := by decide +kernel
theorem dX7_scan_34 : decode cX7_scan 34 = .ok (.ifCond .eq 6, 3) := by decide +kernel
theorem dX7_scan_37 : decode cX7_scan 37 = .ok (.iinc 2 1, 3) := by decide +kernel
theorem dX7_scan_40 : decode cX7_scan 40 = .ok (.iinc 3 1, 3) := by decide +kernel
theorem dX7_scan_43 : decode cX7_scan 43 = .ok (.goto (-26), 3) := by decide +kernel
theorem dX7_scan_46 : decode cX7_scan 46 = .ok (.iload_n 2, 1) := by decide +kernel
theorem dX7_scan_47 : decode cX7_scan 47 = .ok (.ireturn, 1) := by decide +kernel
theorem dX7_isBelow_0 : decode cX7_isBelow 0 = .ok (.lload_n 0, 1) := by decide +kernel
theorem dX7_isBelow_1 : decode cX7_isBelow 1 = .ok (.lconst 0, 1) := by decide +kernel
theorem dX7_isBelow_2 : decode cX7_isBelow 2 = .ok (.lcmp, 1) := by decide +kernel
theorem dX7_isBelow_3 : decode cX7_isBelow 3 = .ok (.ifCond .lt 14, 3) := by decide +kernel
theorem dX7_isBelow_6 : decode cX7_isBelow 6 = .ok (.lload_n 0, 1) := by decide +kernel
theorem dX7_isBelow_7 : decode cX7_isBelow 7 = .ok (.iload_n 2, 1) := by decide +kernel
theorem dX7_isBelow_8 : decode cX7_isBelow 8 = .ok (.i2l, 1) := by decide +kernel
theorem dX7_isBelow_9 : decode cX7_isBelow 9 = .ok (.lcmp, 1) := by decide +kernel
theorem dX7_isBelow_10 : decode cX7_isBelow 10 = .ok (.ifCond .ge 7, 3) := by decide +kernel
theorem dX7_isBelow_13 : decode cX7_isBelow 13 = .ok (.iconst 1, 1) := by decide +kernel
theorem dX7_isBelow_14 : decode cX7_isBelow 14 = .ok (.goto 4, 3) := by decide +kernel
theorem dX7_isBelow_17 : decode cX7_isBelow 17 = .ok (.iconst 0, 1) := by decide +kernel
theorem dX7_isBelow_18 : decode cX7_isBelow 18 = .ok (.ireturn, 1) := by decide +kernel
theorem dX7_isMasked_0 : decode cX7_isMasked 0 = .ok (.aload_n 0, 1) := by decide +kernel
theorem dX7_isMasked_1 : decode cX7_isMasked 1 = .ok (.getfield 45, 3) := by decide +kernel
theorem dX7_isMasked_4 : decode cX7_isMasked 4 = .ok (.iload_n 1, 1) := by decide +kernel
theorem dX7_isMasked_5 : decode cX7_isMasked 5 = .ok (.ishr, 1) := by decide +kernel
theorem dX7_isMasked_6 : decode cX7_isMasked 6 = .ok (.iconst 1, 1) := by decide +kernel
theorem dX7_isMasked_7 : decode cX7_isMasked 7 = .ok (.iand, 1) := by decide +kernel
theorem dX7_isMasked_8 : decode cX7_isMasked 8 = .ok (.ifCond .eq 7, 3) := by decide +kernel
theorem dX7_isMasked_11 : decode cX7_isMasked 11 = .ok (.iconst 1, 1) := by decide +kernel
theorem dX7_isMasked_12 : decode cX7_isMasked 12 = .ok (.goto 4, 3) := by decide +kernel
theorem dX7_isMasked_15 : decode cX7_isMasked 15 = .ok (.iconst 0, 1) := by decide +kernel
theorem dX7_isMasked_16 : decode cX7_isMasked 16 = .ok (.ireturn, 1) := by decide +kernel
theorem dX7_sees_0 : decode cX7_sees 0 = .ok (.aload_n 0, 1) := by decide +kernel
theorem dX7_sees_1 : decode cX7_sees 1 = .ok (.getfield 19, 3) := by decide +kernel
theorem dX7_sees_4 : decode cX7_sees 4 = .ok (.iload_n 1, 1) := by decide +kernel
theorem dX7_sees_5 : decode cX7_sees 5 = .ok (.aload_n 0, 1) := by decide +kernel
theorem dX7_sees_6 : decode cX7_sees 6 = .ok (.getfield 10, 3) := by decide +kernel
theorem dX7_sees_9 : decode cX7_sees 9 = .ok (.iload_n 2, 1) := by decide +kernel
theorem dX7_sees_10 : decode cX7_sees 10 = .ok (.iconst 4, 1) := by decide +kernel
theorem dX7_sees_11 : decode cX7_sees 11 = .ok (.invokevirtual 141, 3) := by decide +kernel
theorem dX7_sees_14 : decode cX7_sees 14 = .ok (.aload_n 0, 1) := by decide +kernel
theorem dX7_sees_15 : decode cX7_sees 15 = .ok (.getfield 10, 3) := by decide +kernel
theorem dX7_sees_18 : decode cX7_sees 18 = .ok (.iload_n 2, 1) := by decide +kernel
theorem dX7_sees_19 : decode cX7_sees 19 = .ok (.iconst 1, 1) := by decide +kernel
theorem dX7_sees_20 : decode cX7_sees 20 = .ok (.invokevirtual 141, 3) := by decide +kernel
theorem dX7_sees_23 : decode cX7_sees 23 = .ok (.invokevirtual 176, 3) := by decide +kernel
theorem dX7_sees_26 : decode cX7_sees 26 = .ok (.ireturn, 1) := by decide +kernel
theorem dX7_readText_0 : decode cX7_readText 0 = .ok (.aload_n 0, 1) := by decide +kernel
theorem dX7_readText_1 : decode cX7_readText 1 = .ok (.getfield 26, 3) := by decide +kernel
theorem dX7_readText_4 : decode cX7_readText 4 = .ok (.aload_n 0, 1) := by decide +kernel
theorem dX7_readText_5 : decode cX7_readText 5 = .ok (.getfield 37, 3) := by decide +kernel
theorem dX7_readText_8 : decode cX7_readText 8 = .ok (.aload_n 0, 1) := by decide +kernel
theorem dX7_readText_9 : decode cX7_readText 9 = .ok (.getfield 41, 3) := by decide +kernel
theorem dX7_readText_12 : decode cX7_readText 12 = .ok (.aload_n 0, 1) := by decide +kernel
theorem dX7_readText_13 : decode cX7_readText 13 = .ok (.getfield 45, 3) := by decide +kernel
theorem dX7_readText_16 : decode cX7_readText 16 = .ok (.invokevirtual 179, 3) := by decide +kernel
theorem dX7_readText_19 : decode cX7_readText 19 = .ok (.istore_n 2, 1) := by decide +kernel
theorem dX7_readText_20 : decode cX7_readText 20 = .ok (.aload_n 0, 1) := by decide +kernel
theorem dX7_readText_21 : decode cX7_readText 21 = .ok (.getfield 26, 3) := by decide +kernel
theorem dX7_readText_24 : decode cX7_readText 24 = .ok (.invokevirtual 108, 3) := by decide +kernel
theorem dX7_readText_27 : decode cX7_readText 27 = .ok (.iload_n 1, 1) := by decide +kernel
theorem dX7_readText_28 : decode cX7_readText 28 = .ok (.invokevirtual 183, 3) := by decide +kernel
theorem dX7_readText_31 : decode cX7_readText 31 = .ok (.aload_n 0, 1) := by decide +kernel
theorem dX7_readText_32 : decode cX7_readText 32 = .ok (.iconst 0, 1) := by decide +kernel
theorem dX7_readText_33 : decode cX7_readText 33 = .ok (.putfield 41, 3) := by decide +kernel
theorem dX7_readText_36 : decode cX7_readText 36 = .ok (.iload_n 2, 1) := by decide +kernel
theorem dX7_readText_37 : decode cX7_readText 37 = .ok (.ireturn, 1) := by decide +kernel
theorem dX7_costOf_0 : decode cX7_costOf 0 = .ok (.aload_n 1, 1) := by decide +kernel
theorem dX7_costOf_1 : decode cX7_costOf 1 = .ok (.invokevirtual 187, 3) := by decide +kernel
theorem dX7_costOf_4 : decode cX7_costOf 4 = .ok (.i2l, 1) := by decide +kernel
theorem dX7_costOf_5 : decode cX7_costOf 5 = .ok (.lconst 1, 1) := by decide +kernel
theorem dX7_costOf_6 : decode cX7_costOf 6 = .ok (.ladd, 1) := by decide +kernel
theorem dX7_costOf_7 : decode cX7_costOf 7 = .ok (.aload_n 0, 1) := by decide +kernel
theorem dX7_costOf_8 : decode cX7_costOf 8 = .ok (.getfield 10, 3) := by decide +kernel
theorem dX7_costOf_11 : decode cX7_costOf 11 = .ok (.invokevirtual 94, 3) := by decide +kernel
theorem dX7_costOf_14 : decode cX7_costOf 14 = .ok (.i2l, 1) := by decide +kernel
theorem dX7_costOf_15 : decode cX7_costOf 15 = .ok (.lmul, 1) := by decide +kernel
theorem dX7_costOf_16 : decode cX7_costOf 16 = .ok (.lreturn, 1) := by decide +kernel
theorem dX7_search_0 : decode cX7_search 0 = .ok (.aload_n 3, 1) := by decide +kernel
theorem dX7_search_1 : decode cX7_search 1 = .ok (.invokevirtual 190, 3) := by decide +kernel
theorem dX7_search_4 : decode cX7_search 4 = .ok (.iconst 0, 1) := by decide +kernel
theorem dX7_search_5 : decode cX7_search 5 = .ok (.istore 4, 2) := by decide +kernel
theorem dX7_search_7 : decode cX7_search 7 = .ok (.iload 4, 2) := by decide +kernel
theorem dX7_search_9 : decode cX7_search 9 = .ok (.aload_n 0, 1) := by decide +kernel
theorem dX7_search_10 : decode cX7_search 10 = .ok (.getfield 10, 3) := by decide +kernel
theorem dX7_search_13 : decode cX7_search 13 = .ok (.invokevirtual 94, 3) := by decide +kernel
theorem dX7_search_16 : decode cX7_search 16 = .ok (.if_icmp .ge 98, 3) := by decide +kernel
theorem dX7_search_19 : decode cX7_search 19 = .ok (.aload_n 0, 1) := by decide +kernel
theorem dX7_search_20 : decode cX7_search 20 = .ok (.getfield 10, 3) := by decide +kernel
theorem dX7_search_23 : decode cX7_search 23 = .ok (.aload_n 1, 1) := by decide +kernel
theorem dX7_search_24 : decode cX7_search 24 = .ok (.invokevirtual 131, 3) := by decide +kernel
theorem dX7_search_27 : decode cX7_search 27 = .ok (.aload_n 1, 1) := by decide +kernel
theorem dX7_search_28 : decode cX7_search 28 = .ok (.invokevirtual 193, 3) := by decide +kernel
theorem dX7_search_31 : decode cX7_search 31 = .ok (.iload 4, 2) := by decide +kernel
theorem dX7_search_33 : decode cX7_search 33 = .ok (.invokevirtual 196, 3) := by decide +kernel
theorem dX7_search_36 : decode cX7_search 36 = .ok (.istore 5, 2) := by decide +kernel
theorem dX7_search_38 : decode cX7_search 38 = .ok (.iload 5, 2) := by decide +kernel
theorem dX7_search_40 : decode cX7_search 40 = .ok (.iload_n 2, 1) := by decide +kernel
theorem dX7_search_41 : decode cX7_search 41 = .ok (.if_icmp .gt 67, 3) := by decide +kernel
theorem dX7_search_44 : decode cX7_search 44 = .ok (.aload_n 0, 1) := by decide +kernel
theorem dX7_search_45 : decode cX7_search 45 = .ok (.aload_n 1, 1) := by decide +kernel
theorem dX7_search_46 : decode cX7_search 46 = .ok (.invokevirtual 200, 3) := by decide +kernel
theorem dX7_search_49 : decode cX7_search 49 = .ok (.iload 5, 2) := by decide +kernel
theorem dX7_search_51 : decode cX7_search 51 = .ok (.invokevirtual 172, 3) := by decide +kernel
theorem dX7_search_54 : decode cX7_search 54 = .ok (.ifCond .eq 54, 3) := by decide +kernel
theorem dX7_search_57 : decode cX7_search 57 = .ok (.aload_n 0, 1) := by decide +kernel
theorem dX7_search_58 : decode cX7_search 58 = .ok (.getfield 33, 3) := by decide +kernel
theorem dX7_search_61 : decode cX7_search 61 = .ok (.aload_n 1, 1) := by decide +kernel
theorem dX7_search_62 : decode cX7_search 62 = .ok (.aload_n 0, 1) := by decide +kernel
theorem dX7_search_63 : decode cX7_search 63 = .ok (.getfield 10, 3) := by decide +kernel
theorem dX7_search_66 : decode cX7_search 66 = .ok (.iload 5, 2) := by decide +kernel
theorem dX7_search_68 : decode cX7_search 68 = .ok (.invokevirtual 203, 3) := by decide +kernel
theorem dX7_search_71 : decode cX7_search 71 = .ok (.ifCond .eq 37, 3) := by decide +kernel
theorem dX7_search_74 : decode cX7_search 74 = .ok (.aload_n 1, 1) := by decide +kernel
theorem dX7_search_75 : decode cX7_search 75 = .ok (.invokevirtual 131, 3) := by decide +kernel
theorem dX7_search_78 : decode cX7_search 78 = .ok (.iconst 1, 1) := by decide +kernel
theorem dX7_search_79 : decode cX7_search 79 = .ok (.if_icmp .ne 23, 3) := by decide +kernel
theorem dX7_search_82 : decode cX7_search 82 = .ok (.aload_n 3, 1) := by decide +kernel
theorem dX7_search_83 : decode cX7_search 83 = .ok (.aload_n 0, 1) := by decide +kernel
theorem dX7_search_84 : decode cX7_search 84 = .ok (.getfield 10, 3) := by decide +kernel
theorem dX7_search_87 : decode cX7_search 87 = .ok (.iload 5, 2) := by decide +kernel
theorem dX7_search_89 : decode cX7_search 89 = .ok (.aload_n 1, 1) := by decide +kernel
theorem dX7_search_90 : decode cX7_search 90 = .ok (.invokevirtual 193, 3) := by decide +kernel
theorem dX7_search_93 : decode cX7_search 93 = .ok (.invokevirtual 141, 3) := by decide +kernel
theorem dX7_search_96 : decode cX7_search 96 = .ok (.invokevirtual 207, 3) := by decide +kernel
theorem dX7_search_99 : decode cX7_search 99 = .ok (.goto 9, 3) := by decide +kernel
theorem dX7_search_102 : decode cX7_search 102 = .ok (.aload_n 3, 1) := by decide +kernel
theorem dX7_search_103 : decode cX7_search 103 = .ok (.iload 5, 2) := by decide +kernel
theorem dX7_search_105 : decode cX7_search 105 = .ok (.invokevirtual 210, 3) := by decide +kernel
theorem dX7_search_108 : decode cX7_search 108 = .ok (.iinc 4 1, 3) := by decide +kernel
theorem dX7_search_111 : decode cX7_search 111 = .ok (.goto (-104), 3) := by decide +kernel
theorem dX7_search_114 : decode cX7_search 114 = .ok (.return_, 1) := by decide +kernel
theorem dX7_askKept_0 : decode cX7_askKept 0 = .ok (.aload_n 1, 1) := by decide +kernel
theorem dX7_askKept_1 : decode cX7_askKept 1 = .ok (.ifnonnull 5, 3) := by decide +kernel
theorem dX7_askKept_4 : decode cX7_askKept 4 = .ok (.iconst 0, 1) := by decide +kernel
theorem dX7_askKept_5 : decode cX7_askKept 5 = .ok (.ireturn, 1) := by decide +kernel
theorem dX7_askKept_6 : decode cX7_askKept 6 = .ok (.aload_n 1, 1) := by decide +kernel
theorem dX7_askKept_7 : decode cX7_askKept 7 = .ok (.aload_n 0, 1) := by decide +kernel
theorem dX7_askKept_8 : decode cX7_askKept 8 = .ok (.getfield 86, 3) := by decide +kernel
theorem dX7_askKept_11 : decode cX7_askKept 11 = .ok (.invokevirtual 212, 3) := by decide +kernel
theorem dX7_askKept_14 : decode cX7_askKept 14 = .ok (.istore_n 2, 1) := by decide +kernel
theorem dX7_askKept_15 : decode cX7_askKept 15 = .ok (.iload_n 2, 1) := by decide +kernel
theorem dX7_askKept_16 : decode cX7_askKept 16 = .ok (.ifCond .le 15, 3) := by decide +kernel
theorem dX7_askKept_19 : decode cX7_askKept 19 = .ok (.aload_n 1, 1) := by decide +kernel
theorem dX7_askKept_20 : decode cX7_askKept 20 = .ok (.aload_n 0, 1) := by decide +kernel
theorem dX7_askKept_21 : decode cX7_askKept 21 = .ok (.aload_n 1, 1) := by decide +kernel
theorem dX7_askKept_22 : decode cX7_askKept 22 = .ok (.invokevirtual 216, 3) := by decide +kernel
theorem dX7_askKept_25 : decode cX7_askKept 25 = .ok (.invokevirtual 219, 3) := by decide +kernel
theorem dX7_askKept_28 : decode cX7_askKept 28 = .ok (.invokevirtual 223, 3) := by decide +kernel
theorem dX7_askKept_31 : decode cX7_askKept 31 = .ok (.iload_n 2, 1) := by decide +kernel
theorem dX7_askKept_32 : decode cX7_askKept 32 = .ok (.ireturn, 1) := by decide +kernel
theorem dX7_countFound_0 : decode cX7_countFound 0 = .ok (.aload_n 1, 1) := by decide +kernel
theorem dX7_countFound_1 : decode cX7_countFound 1 = .ok (.invokevirtual 226, 3) := by decide +kernel
theorem dX7_countFound_4 : decode cX7_countFound 4 = .ok (.aload_n 0, 1) := by decide +kernel
theorem dX7_countFound_5 : decode cX7_countFound 5 = .ok (.getfield 45, 3) := by decide +kernel
theorem dX7_countFound_8 : decode cX7_countFound 8 = .ok (.iand, 1) := by decide +kernel
theorem dX7_countFound_9 : decode cX7_countFound 9 = .ok (.ifCond .ne 17, 3) := by decide +kernel
theorem dX7_countFound_12 : decode cX7_countFound 12 = .ok (.aload_n 0, 1) := by decide +kernel
theorem dX7_countFound_13 : decode cX7_countFound 13 = .ok (.aload_n 1, 1) := by decide +kernel
theorem dX7_countFound_14 : decode cX7_countFound 14 = .ok (.invokevirtual 112, 3) := by decide +kernel
theorem dX7_countFound_17 : decode cX7_countFound 17 = .ok (.aload_n 0, 1) := by decide +kernel
theorem dX7_countFound_18 : decode cX7_countFound 18 = .ok (.getfield 49, 3) := by decide +kernel
theorem dX7_countFound_21 : decode cX7_countFound 21 = .ok (.i2l, 1) := by decide +kernel
theorem dX7_countFound_22 : decode cX7_countFound 22 = .ok (.lcmp, 1) := by decide +kernel
theorem dX7_countFound_23 : decode cX7_countFound 23 = .ok (.ifCond .le 5, 3) := by decide +kernel
theorem dX7_countFound_26 : decode cX7_countFound 26 = .ok (.iconst (-1), 1) := by decide +kernel
theorem dX7_countFound_27 : decode cX7_countFound 27 = .ok (.ireturn, 1) := by decide +kernel
theorem dX7_countFound_28 : decode cX7_countFound 28 = .ok (.aload_n 0, 1) := by decide +kernel
theorem dX7_countFound_29 : decode cX7_countFound 29 = .ok (.aload_n 1, 1) := by decide +kernel
theorem dX7_countFound_30 : decode cX7_countFound 30 = .ok (.aload_n 0, 1) := by decide +kernel
theorem dX7_countFound_31 : decode cX7_countFound 31 = .ok (.getfield 10, 3) := by decide +kernel
theorem dX7_countFound_34 : decode cX7_countFound 34 = .ok (.invokevirtual 94, 3) := by decide +kernel
theorem dX7_countFound_37 : decode cX7_countFound 37 = .ok (.aload_n 0, 1) := by decide +kernel
theorem dX7_countFound_38 : decode cX7_countFound 38 = .ok (.getfield 74, 3) := by decide +kernel
theorem dX7_countFound_41 : decode cX7_countFound 41 = .ok (.invokevirtual 117, 3) := by decide +kernel
theorem dX7_countFound_44 : decode cX7_countFound 44 = .ok (.aload_n 0, 1) := by decide +kernel
theorem dX7_countFound_45 : decode cX7_countFound 45 = .ok (.getfield 74, 3) := by decide +kernel
theorem dX7_countFound_48 : decode cX7_countFound 48 = .ok (.invokevirtual 125, 3) := by decide +kernel
theorem dX7_countFound_51 : decode cX7_countFound 51 = .ok (.ireturn, 1) := by decide +kernel
end
section
theorem dX8_init_0 : decode cX8_init 0 = .ok (.aload_n 0, 1) := by decide +kernel
theorem dX8_init_1 : decode cX8_init 1 = .ok (.invokespecial 1, 3) := by decide +kernel
theorem dX8_init_4 : decode cX8_init 4 = .ok (.aload_n 0, 1) := by decide +kernel
theorem dX8_init_5 : decode cX8_init 5 = .ok (.sipush 1505, 3) := by decide +kernel
theorem dX8_init_8 : decode cX8_init 8 = .ok (.newarray .int, 2) := by decide +kernel
theorem dX8_init_10 : decode cX8_init 10 = .ok (.putfield 7, 3) := by decide +kernel
theorem dX8_init_13 : decode cX8_init 13 = .ok (.aload_n 0, 1) := by decide +kernel
theorem dX8_init_14 : decode cX8_init 14 = .ok (.bipush 100, 2) := by decide +kernel
theorem dX8_init_16 : decode cX8_init 16 = .ok (.newarray .int, 2) := by decide +kernel
theorem dX8_init_18 : decode cX8_init 18 = .ok (.putfield 13, 3) := by decide +kernel
theorem dX8_init_21 : decode cX8_init 21 = .ok (.aload_n 0, 1) := by decide +kernel
theorem dX8_init_22 : decode cX8_init 22 = .ok (.bipush 100, 2) := by decide +kernel
theorem dX8_init_24 : decode cX8_init 24 = .ok (.newarray .int, 2) := by decide +kernel
theorem dX8_init_26 : decode cX8_init 26 = .ok (.putfield 16, 3) := by decide +kernel
theorem dX8_init_29 : decode cX8_init 29 = .ok (.aload_n 0, 1) := by decide +kernel
theorem dX8_init_30 : decode cX8_init 30 = .ok (.bipush 100, 2) := by decide +kernel
theorem dX8_init_32 : decode cX8_init 32 = .ok (.newarray .int, 2) := by decide +kernel
theorem dX8_init_34 : decode cX8_init 34 = .ok (.putfield 19, 3) := by decide +kernel
theorem dX8_init_37 : decode cX8_init 37 = .ok (.aload_n 0, 1) := by decide +kernel
theorem dX8_init_38 : decode cX8_init 38 = .ok (.iconst 5, 1) := by decide +kernel
theorem dX8_init_39 : decode cX8_init 39 = .ok (.newarray .boolean, 2) := by decide +kernel
theorem dX8_init_41 : decode cX8_init 41 = .ok (.putfield 22, 3) := by decide +kernel
theorem dX8_init_44 : decode cX8_init 44 = .ok (.aload_n 0, 1) := by decide +kernel
theorem dX8_init_45 : decode cX8_init 45 = .ok (.ldc2_w 26, 3) := by decide +kernel
theorem dX8_init_48 : decode cX8_init 48 = .ok (.putfield 28, 3) := by decide +kernel
theorem dX8_init_51 : decode cX8_init 51 = .ok (.aload_n 0, 1) := by decide +kernel
theorem dX8_init_52 : decode cX8_init 52 = .ok (.sipush 200, 3) := by decide +kernel
theorem dX8_init_55 : decode cX8_init 55 = .ok (.newarray .int, 2) := by decide +kernel
theorem dX8_init_57 : decode cX8_init 57 = .ok (.putfield 32, 3) := by decide +kernel
theorem dX8_init_60 : decode cX8_init 60 = .ok (.aload_n 0, 1) := by decide +kernel
theorem dX8_init_61 : decode cX8_init 61 = .ok (.sipush 200, 3) := by decide +kernel
theorem dX8_init_64 : decode cX8_init 64 = .ok (.newarray .int, 2) := by decide +kernel
theorem dX8_init_66 : decode cX8_init 66 = .ok (.putfield 35, 3) := by decide +kernel
theorem dX8_init_69 : decode cX8_init 69 = .ok (.aload_n 0, 1) := by decide +kernel
theorem dX8_init_70 : decode cX8_init 70 = .ok (.bipush 20, 2) := by decide +kernel
theorem dX8_init_72 : decode cX8_init 72 = .ok (.newarray .int, 2) := by decide +kernel
theorem dX8_init_74 : decode cX8_init 74 = .ok (.putfield 38, 3) := by decide +kernel
theorem dX8_init_77 : decode cX8_init 77 = .ok (.aload_n 0, 1) := by decide +kernel
theorem dX8_init_78 : decode cX8_init 78 = .ok (.sipush 4000, 3) := by decide +kernel
theorem dX8_init_81 : decode cX8_init 81 = .ok (.newarray .int, 2) := by decide +kernel
theorem dX8_init_83 : decode cX8_init 83 = .ok (.putfield 41, 3) := by decide +kernel
theorem dX8_init_86 : decode cX8_init 86 = .ok (.aload_n 0, 1) := by decide +kernel
theorem dX8_init_87 : decode cX8_init 87 = .ok (.bipush 20, 2) := by decide +kernel
theorem dX8_init_89 : decode cX8_init 89 = .ok (.newarray .int, 2) := by decide +kernel
theorem dX8_init_91 : decode cX8_init 91 = .ok (.putfield 44, 3) := by decide +kernel
theorem dX8_init_94 : decode cX8_init 94 = .ok (.aload_n 0, 1) := by decide +kernel
theorem dX8_init_95 : decode cX8_init 95 = .ok (.bipush 20, 2) := by decide +kernel
theorem dX8_init_97 : decode cX8_init 97 = .ok (.newarray .long, 2) := by decide +kernel
theorem dX8_init_99 : decode cX8_init 99 = .ok (.putfield 47, 3) := by decide +kernel
theorem dX8_init_102 : decode cX8_init 102 = .ok (.aload_n 0, 1) := by decide +kernel
theorem dX8_init_103 : decode cX8_init 103 = .ok (.bipush 20, 2) := by decide +kernel
theorem dX8_init_105 : decode cX8_init 105 = .ok (.newarray .long, 2) := by decide +kernel
theorem dX8_init_107 : decode cX8_init 107 = .ok (.putfield 51, 3) := by decide +kernel
theorem dX8_init_110 : decode cX8_init 110 = .ok (.aload_n 0, 1) := by decide +kernel
theorem dX8_init_111 : decode cX8_init 111 = .ok (.bipush 20, 2) := by decide +kernel
theorem dX8_init_113 : decode cX8_init 113 = .ok (.newarray .int, 2) := by decide +kernel
theorem dX8_init_115 : decode cX8_init 115 = .ok (.putfield 54, 3) := by decide +kernel
theorem dX8_init_118 : decode cX8_init 118 = .ok (.aload_n 0, 1) := by decide +kernel
theorem dX8_init_119 : decode cX8_init 119 = .ok (.bipush 22, 2) := by decide +kernel
theorem dX8_init_121 : decode cX8_init 121 = .ok (.newarray .int, 2) := by decide +kernel
theorem dX8_init_123 : decode cX8_init 123 = .ok (.putfield 57, 3) := by decide +kernel
theorem dX8_init_126 : decode cX8_init 126 = .ok (.aload_n 0, 1) := by decide +kernel
theorem dX8_init_127 : decode cX8_init 127 = .ok (.bipush 22, 2) := by decide +kernel
theorem dX8_init_129 : decode cX8_init 129 = .ok (.newarray .boolean, 2) := by decide +kernel
theorem dX8_init_131 : decode cX8_init 131 = .ok (.putfield 60, 3) := by decide +kernel
theorem dX8_init_134 : decode cX8_init 134 = .ok (.aload_n 0, 1) := by decide +kernel
theorem dX8_init_135 : decode cX8_init 135 = .ok (.bipush 22, 2) := by decide +kernel
theorem dX8_init_137 : decode cX8_init 137 = .ok (.newarray .boolean, 2) := by decide +kernel
theorem dX8_init_139 : decode cX8_init 139 = .ok (.putfield 63, 3) := by decide +kernel
theorem dX8_init_142 : decode cX8_init 142 = .ok (.aload_n 0, 1) := by decide +kernel
theorem dX8_init_143 : decode cX8_init 143 = .ok (.sipush 300, 3) := by decide +kernel
theorem dX8_init_146 : decode cX8_init 146 = .ok (.newarray .int, 2) := by decide +kernel
theorem dX8_init_148 : decode cX8_init 148 = .ok (.putfield 66, 3) := by decide +kernel
theorem dX8_init_151 : decode cX8_init 151 = .ok (.aload_n 0, 1) := by decide +kernel
theorem dX8_init_152 : decode cX8_init 152 = .ok (.sipush 300, 3) := by decide +kernel
theorem dX8_init_155 : decode cX8_init 155 = .ok (.newarray .int, 2) := by decide +kernel
theorem dX8_init_157 : decode cX8_init 157 = .ok (.putfield 69, 3) := by decide +kernel
theorem dX8_init_160 : decode cX8_init 160 = .ok (.aload_n 0, 1) := by decide +kernel
theorem dX8_init_161 : decode cX8_init 161 = .ok (.sipush 300, 3) := by decide +kernel
theorem dX8_init_164 : decode cX8_init 164 = .ok (.newarray .int, 2) := by decide +kernel
theorem dX8_init_166 : decode cX8_init 166 = .ok (.putfield 72, 3) := by decide +kernel
theorem dX8_init_169 : decode cX8_init 169 = .ok (.aload_n 0, 1) := by decide +kernel
theorem dX8_init_170 : decode cX8_init 170 = .ok (.sipush 300, 3) := by decide +kernel
theorem dX8_init_173 : decode cX8_init 173 = .ok (.newarray .int, 2) := by decide +kernel
theorem dX8_init_175 : decode cX8_init 175 = .ok (.putfield 75, 3) := by decide +kernel
theorem dX8_init_178 : decode cX8_init 178 = .ok (.aload_n 0, 1) := by decide +kernel
theorem dX8_init_179 : decode cX8_init 179 = .ok (.sipush 301, 3) := by decide +kernel
theorem dX8_init_182 : decode cX8_init 182 = .ok (.newarray .boolean, 2) := by decide +kernel
theorem dX8_init_184 : decode cX8_init 184 = .ok (.putfield 78, 3) := by decide +kernel
theorem dX8_init_187 : decode cX8_init 187 = .ok (.aload_n 0, 1) := by decide +kernel
theorem dX8_init_188 : decode cX8_init 188 = .ok (.iconst 0, 1) := by decide +kernel
theorem dX8_init_189 : decode cX8_init 189 = .ok (.putfield 81, 3) := by decide +kernel
theorem dX8_init_192 : decode cX8_init 192 = .ok (.return_, 1) := by decide +kernel
theorem dX8_within_0 : decode cX8_within 0 = .ok (.lload_n 0, 1) := by decide +kernel
theorem dX8_within_1 : decode cX8_within 1 = .ok (.lload_n 2, 1) := by decide +kernel
theorem dX8_within_2 : decode cX8_within 2 = .ok (.lcmp, 1) := by decide +kernel
theorem dX8_within_3 : decode cX8_within 3 = .ok (.ifCond .lt 14, 3) := by decide +kernel
theorem dX8_within_6 : decode cX8_within 6 = .ok (.lload_n 0, 1) := by decide +kernel
theorem dX8_within_7 : decode cX8_within 7 = .ok (.lload 4, 2) := by decide +kernel
theorem dX8_within_9 : decode cX8_within 9 = .ok (.lcmp, 1) := by decide +kernel
theorem dX8_within_10 : decode cX8_within 10 = .ok (.ifCond .gt 7, 3) := by decide +kernel
theorem dX8_within_13 : decode cX8_within 13 = .ok (.iconst 1, 1) := by decide +kernel
theorem dX8_within_14 : decode cX8_within 14 = .ok (.goto 4, 3) := by decide +kernel
theorem dX8_within_17 : decode cX8_within 17 = .ok (.iconst 0, 1) := by decide +kernel
theorem dX8_within_18 : decode cX8_within 18 = .ok (.ireturn, 1) := by decide +kernel
theorem dX8_isAsker_0 : decode cX8_isAsker 0 = .ok (.iload_n 0, 1) := by decide +kernel
theorem dX8_isAsker_1 : decode cX8_isAsker 1 = .ok (.i2l, 1) := by decide +kernel
theorem dX8_isAsker_2 : decode cX8_isAsker 2 = .ok (.lconst 0, 1) := by decide +kernel
theorem dX8_isAsker_3 : decode cX8_isAsker 3 = .ok (.ldc2_w 88, 3) := by decide +kernel
theorem dX8_isAsker_6 : decode cX8_isAsker 6 = .ok (.invokestatic 90, 3) := by decide +kernel
theorem dX8_isAsker_9 : decode cX8_isAsker 9 = .ok (.ireturn, 1) := by decide +kernel
theorem dX8_row_0 : decode cX8_row 0 = .ok (.aload_n 0, 1) := by decide +kernel
theorem dX8_row_1 : decode cX8_row 1 = .ok (.iconst 0, 1) := by decide +kernel
theorem dX8_row_2 : decode cX8_row 2 = .ok (.putfield 85, 3) := by decide +kernel
theorem dX8_row_5 : decode cX8_row 5 = .ok (.iload_n 1, 1) := by decide +kernel
theorem dX8_row_6 : decode cX8_row 6 = .ok (.i2l, 1) := by decide +kernel
theorem dX8_row_7 : decode cX8_row 7 = .ok (.lconst 0, 1) := by decide +kernel
theorem dX8_row_8 : decode cX8_row 8 = .ok (.ldc2_w 94, 3) := by decide +kernel
theorem dX8_row_11 : decode cX8_row 11 = .ok (.invokestatic 90, 3) := by decide +kernel
theorem dX8_row_14 : decode cX8_row 14 = .ok (.ifCond .eq 52, 3) := by decide +kernel
theorem dX8_row_17 : decode cX8_row 17 = .ok (.iload_n 2, 1) := by decide +kernel
theorem dX8_row_18 : decode cX8_row 18 = .ok (.i2l, 1) := by decide +kernel
theorem dX8_row_19 : decode cX8_row 19 = .ok (.lconst 0, 1) := by decide +kernel
theorem dX8_row_20 : decode cX8_row 20 = .ok (.ldc2_w 96, 3) := by decide +kernel
theorem dX8_row_23 : decode cX8_row 23 = .ok (.invokestatic 90, 3) := by decide +kernel
theorem dX8_row_26 : decode cX8_row 26 = .ok (.ifCond .eq 40, 3) := by decide +kernel
theorem dX8_row_29 : decode cX8_row 29 = .ok (.iload_n 3, 1) := by decide +kernel
theorem dX8_row_30 : decode cX8_row 30 = .ok (.i2l, 1) := by decide +kernel
theorem dX8_row_31 : decode cX8_row 31 = .ok (.lconst 0, 1) := by decide +kernel
theorem dX8_row_32 : decode cX8_row 32 = .ok (.ldc2_w 88, 3) := by decide +kernel
theorem dX8_row_35 : decode cX8_row 35 = .ok (.invokestatic 90, 3) := by decide +kernel
theorem dX8_row_38 : decode cX8_row 38 = .ok (.ifCond .eq 28, 3) := by decide +kernel
theorem dX8_row_41 : decode cX8_row 41 = .ok (.lload 4, 2) := by decide +kernel
theorem dX8_row_43 : decode cX8_row 43 = .ok (.lconst 0, 1) := by decide +kernel
theorem dX8_row_44 : decode cX8_row 44 = .ok (.ldc2_w 98, 3) := by decide +kernel
theorem dX8_row_47 : decode cX8_row 47 = .ok (.invokestatic 90, 3) := by decide +kernel
theorem dX8_row_50 : decode cX8_row 50 = .ok (.ifCond .eq 16, 3) := by decide +kernel
theorem dX8_row_53 : decode cX8_row 53 = .ok (.iload 6, 2) := by decide +kernel
theorem dX8_row_55 : decode cX8_row 55 = .ok (.i2l, 1) := by decide +kernel
theorem dX8_row_56 : decode cX8_row 56 = .ok (.lconst 0, 1) := by decide +kernel
theorem dX8_row_57 : decode cX8_row 57 = .ok (.ldc2_w 100, 3) := by decide +kernel
theorem dX8_row_60 : decode cX8_row 60 = .ok (.invokestatic 90, 3) := by decide +kernel
theorem dX8_row_63 : decode cX8_row 63 = .ok (.ifCond .ne 6, 3) := by decide +kernel
theorem dX8_row_66 : decode cX8_row 66 = .ok (.ldc 102, 2) := by decide +kernel
theorem dX8_row_68 : decode cX8_row 68 = .ok (.ireturn, 1) := by decide +kernel
theorem dX8_row_69 : decode cX8_row 69 = .ok (.aload_n 0, 1) := by decide +kernel
theorem dX8_row_70 : decode cX8_row 70 = .ok (.getfield 81, 3) := by decide +kernel
theorem dX8_row_73 : decode cX8_row 73 = .ok (.sipush 300, 3) := by decide +kernel
theorem dX8_row_76 : decode cX8_row 76 = .ok (.if_icmp .ne 6, 3) := by decide +kernel
theorem dX8_row_79 : decode cX8_row 79 = .ok (.ldc 103, 2) := by decide +kernel
theorem dX8_row_81 : decode cX8_row 81 = .ok (.ireturn, 1) := by decide +kernel
theorem dX8_row_82 : decode cX8_row 82 = .ok (.aload_n 0, 1) := by decide +kernel
theorem dX8_row_83 : decode cX8_row 83 = .ok (.dup, 1) := by decide +kernel
theorem dX8_row_84 : decode cX8_row 84 = .ok (.getfield 81, 3) := by decide +kernel
theorem dX8_row_87 : decode cX8_row 87 = .ok (.iconst 1, 1) := by decide +kernel
theorem dX8_row_88 : decode cX8_row 88 = .ok (.iadd, 1) := by decide +kernel
theorem dX8_row_89 : decode cX8_row 89 = .ok (.putfield 81, 3) := by decide +kernel
theorem dX8_row_92 : decode cX8_row 92 = .ok (.aload_n 0, 1) := by decide +kernel
theorem dX8_row_93 : decode cX8_row 93 = .ok (.getfield 7, 3) := by decide +kernel
theorem dX8_row_96 : decode cX8_row 96 = .ok (.iconst 5, 1) := by decide +kernel
theorem dX8_row_97 : decode cX8_row 97 = .ok (.aload_n 0, 1) := by decide +kernel
theorem dX8_row_98 : decode cX8_row 98 = .ok (.getfield 81, 3) := by decide +kernel
theorem dX8_row_101 : decode cX8_row 101 = .ok (.imul, 1) := by decide +kernel
theorem dX8_row_102 : decode cX8_row 102 = .ok (.iload_n 1, 1) := by decide +kernel
theorem dX8_row_103 : decode cX8_row 103 = .ok (.iastore, 1) := by decide +kernel
theorem dX8_row_104 : decode cX8_row 104 = .ok (.aload_n 0, 1) := by decide +kernel
theorem dX8_row_105 : decode cX8_row 105 = .ok (.getfield 7, 3) := by decide +kernel
theorem dX8_row_108 : decode cX8_row 108 = .ok (.iconst 5, 1) := by decide +kernel
theorem dX8_row_109 : decode cX8_row 109 = .ok (.aload_n 0, 1) := by decide +kernel
theorem dX8_row_110 : decode cX8_row 110 = .ok (.getfield 81, 3) := by decide +kernel
theorem dX8_row_113 : decode cX8_row 113 = .ok (.imul, 1) := by decide +kernel
theorem dX8_row_114 : decode cX8_row 114 = .ok (.iconst 1, 1) := by decide +kernel
theorem dX8_row_115 : decode cX8_row 115 = .ok (.iadd, 1) := by decide +kernel
theorem dX8_row_116 : decode cX8_row 116 = .ok (.iload_n 2, 1) := by decide +kernel
theorem dX8_row_117 : decode cX8_row 117 = .ok (.iastore, 1) := by decide +kernel
theorem dX8_row_118 : decode cX8_row 118 = .ok (.aload_n 0, 1) := by decide +kernel
theorem dX8_row_119 : decode cX8_row 119 = .ok (.getfield 7, 3) := by decide +kernel
theorem dX8_row_122 : decode cX8_row 122 = .ok (.iconst 5, 1) := by decide +kernel
theorem dX8_row_123 : decode cX8_row 123 = .ok (.aload_n 0, 1) := by decide +kernel
theorem dX8_row_124 : decode cX8_row 124 = .ok (.getfield 81, 3) := by decide +kernel
theorem dX8_row_127 : decode cX8_row 127 = .ok (.imul, 1) := by decide +kernel
theorem dX8_row_128 : decode cX8_row 128 = .ok (.iconst 2, 1) := by decide +kernel
theorem dX8_row_129 : decode cX8_row 129 = .ok (.iadd, 1) := by decide +kernel
theorem dX8_row_130 : decode cX8_row 130 = .ok (.iload_n 3, 1) := by decide +kernel
theorem dX8_row_131 : decode cX8_row 131 = .ok (.iastore, 1) := by decide +kernel
theorem dX8_row_132 : decode cX8_row 132 = .ok (.aload_n 0, 1) := by decide +kernel
theorem dX8_row_133 : decode cX8_row 133 = .ok (.getfield 7, 3) := by decide +kernel
theorem dX8_row_136 : decode cX8_row 136 = .ok (.iconst 5, 1) := by decide +kernel
theorem dX8_row_137 : decode cX8_row 137 = .ok (.aload_n 0, 1) := by decide +kernel
theorem dX8_row_138 : decode cX8_row 138 = .ok (.getfield 81, 3) := by decide +kernel
theorem dX8_row_141 : decode cX8_row 141 = .ok (.imul, 1) := by decide +kernel
theorem dX8_row_142 : decode cX8_row 142 = .ok (.iconst 3, 1) := by decide +kernel
theorem dX8_row_143 : decode cX8_row 143 = .ok (.iadd, 1) := by decide +kernel
theorem dX8_row_144 : decode cX8_row 144 = .ok (.lload 4, 2) := by decide +kernel
theorem dX8_row_146 : decode cX8_row 146 = .ok (.l2i, 1) := by decide +kernel
theorem dX8_row_147 : decode cX8_row 147 = .ok (.iastore, 1) := by decide +kernel
theorem dX8_row_148 : decode cX8_row 148 = .ok (.aload_n 0, 1) := by decide +kernel
theorem dX8_row_149 : decode cX8_row 149 = .ok (.getfield 7, 3) := by decide +kernel
theorem dX8_row_152 : decode cX8_row 152 = .ok (.iconst 5, 1) := by decide +kernel
theorem dX8_row_153 : decode cX8_row 153 = .ok (.aload_n 0, 1) := by decide +kernel
theorem dX8_row_154 : decode cX8_row 154 = .ok (.getfield 81, 3) := by decide +kernel
theorem dX8_row_157 : decode cX8_row 157 = .ok (.imul, 1) := by decide +kernel
theorem dX8_row_158 : decode cX8_row 158 = .ok (.iconst 4, 1) := by decide +kernel
theorem dX8_row_159 : decode cX8_row 159 = .ok (.iadd, 1) := by decide +kernel
theorem dX8_row_160 : decode cX8_row 160 = .ok (.iload 6, 2) := by decide +kernel
theorem dX8_row_162 : decode cX8_row 162 = .ok (.iastore, 1) := by decide +kernel
theorem dX8_row_163 : decode cX8_row 163 = .ok (.aload_n 0, 1) := by decide +kernel
theorem dX8_row_164 : decode cX8_row 164 = .ok (.getfield 81, 3) := by decide +kernel
theorem dX8_row_167 : decode cX8_row 167 = .ok (.ireturn, 1) := by decide +kernel
theorem dX8_sign_0 : decode cX8_sign 0 = .ok (.aload_n 0, 1) := by decide +kernel
theorem dX8_sign_1 : decode cX8_sign 1 = .ok (.iconst 0, 1) := by decide +kernel
theorem dX8_sign_2 : decode cX8_sign 2 = .ok (.putfield 85, 3) := by decide +kernel
theorem dX8_sign_5 : decode cX8_sign 5 = .ok (.aload_n 0, 1) := by decide +kernel
theorem dX8_sign_6 : decode cX8_sign 6 = .ok (.getfield 104, 3) := by decide +kernel
theorem dX8_sign_9 : decode cX8_sign 9 = .ok (.sipush 200, 3) := by decide +kernel
theorem dX8_sign_12 : decode cX8_sign 12 = .ok (.if_icmp .ge 37, 3) := by decide +kernel
theorem dX8_sign_15 : decode cX8_sign 15 = .ok (.iload_n 1, 1) := by decide +kernel
theorem dX8_sign_16 : decode cX8_sign 16 = .ok (.i2l, 1) := by decide +kernel
theorem dX8_sign_17 : decode cX8_sign 17 = .ok (.ldc2_w 107, 3) := by decide +kernel
theorem dX8_sign_20 : decode cX8_sign 20 = .ok (.ldc2_w 109, 3) := by decide +kernel
theorem dX8_sign_23 : decode cX8_sign 23 = .ok (.invokestatic 90, 3) := by decide +kernel
theorem dX8_sign_26 : decode cX8_sign 26 = .ok (.ifCond .eq 23, 3) := by decide +kernel
theorem dX8_sign_29 : decode cX8_sign 29 = .ok (.aload_n 0, 1) := by decide +kernel
theorem dX8_sign_30 : decode cX8_sign 30 = .ok (.getfield 32, 3) := by decide +kernel
theorem dX8_sign_33 : decode cX8_sign 33 = .ok (.aload_n 0, 1) := by decide +kernel
theorem dX8_sign_34 : decode cX8_sign 34 = .ok (.getfield 104, 3) := by decide +kernel
theorem dX8_sign_37 : decode cX8_sign 37 = .ok (.iload_n 1, 1) := by decide +kernel
theorem dX8_sign_38 : decode cX8_sign 38 = .ok (.iastore, 1) := by decide +kernel
theorem dX8_sign_39 : decode cX8_sign 39 = .ok (.aload_n 0, 1) := by decide +kernel
theorem dX8_sign_40 : decode cX8_sign 40 = .ok (.dup, 1) := by decide +kernel
theorem dX8_sign_41 : decode cX8_sign 41 = .ok (.getfield 104, 3) := by decide +kernel
theorem dX8_sign_44 : decode cX8_sign 44 = .ok (.iconst 1, 1) := by decide +kernel
theorem dX8_sign_45 : decode cX8_sign 45 = .ok (.iadd, 1) := by decide +kernel
theorem dX8_sign_46 : decode cX8_sign 46 = .ok (.putfield 104, 3) := by decide +kernel
theorem dX8_sign_49 : decode cX8_sign 49 = .ok (.return_, 1) := by decide +kernel
theorem dX8_fieldOf_0 : decode cX8_fieldOf 0 = .ok (.iload_n 0, 1) := by decide +kernel
theorem dX8_fieldOf_1 : decode cX8_fieldOf 1 = .ok (.bipush 105, 2) := by decide +kernel
theorem dX8_fieldOf_3 : decode cX8_fieldOf 3 = .ok (.if_icmp .ne 7, 3) := by decide +kernel
theorem dX8_fieldOf_6 : decode cX8_fieldOf 6 = .ok (.iconst 0, 1) := by decide +kernel
theorem dX8_fieldOf_7 : decode cX8_fieldOf 7 = .ok (.goto 44, 3) := by decide +kernel
theorem dX8_fieldOf_10 : decode cX8_fieldOf 10 = .ok (.iload_n 0, 1) := by decide +kernel
theorem dX8_fieldOf_11 : decode cX8_fieldOf 11 = .ok (.bipush 107, 2) := by decide +kernel
theorem dX8_fieldOf_13 : decode cX8_fieldOf 13 = .ok (.if_icmp .ne 7, 3) := by decide +kernel
theorem dX8_fieldOf_16 : decode cX8_fieldOf 16 = .ok (.iconst 1, 1) := by decide +kernel
theorem dX8_fieldOf_17 : decode cX8_fieldOf 17 = .ok (.goto 34, 3) := by decide +kernel
theorem dX8_fieldOf_20 : decode cX8_fieldOf 20 = .ok (.iload_n 0, 1) := by decide +kernel
theorem dX8_fieldOf_21 : decode cX8_fieldOf 21 = .ok (.bipush 112, 2) := by decide +kernel
theorem dX8_fieldOf_23 : decode cX8_fieldOf 23 = .ok (.if_icmp .ne 7, 3) := by decide +kernel
theorem dX8_fieldOf_26 : decode cX8_fieldOf 26 = .ok (.iconst 2, 1) := by decide +kernel
theorem dX8_fieldOf_27 : decode cX8_fieldOf 27 = .ok (.goto 24, 3) := by decide +kernel
theorem dX8_fieldOf_30 : decode cX8_fieldOf 30 = .ok (.iload_n 0, 1) := by decide +kernel
theorem dX8_fieldOf_31 : decode cX8_fieldOf 31 = .ok (.bipush 100, 2) := by decide +kernel
theorem dX8_fieldOf_33 : decode cX8_fieldOf 33 = .ok (.if_icmp .ne 7, 3) := by decide +kernel
theorem dX8_fieldOf_36 : decode cX8_fieldOf 36 = .ok (.iconst 3, 1) := by decide +kernel
theorem dX8_fieldOf_37 : decode cX8_fieldOf 37 = .ok (.goto 14, 3) := by decide +kernel
theorem dX8_fieldOf_40 : decode cX8_fieldOf 40 = .ok (.iload_n 0, 1) := by decide +kernel
theorem dX8_fieldOf_41 : decode cX8_fieldOf 41 = .ok (.bipush 111, 2) := by decide +kernel
theorem dX8_fieldOf_43 : decode cX8_fieldOf 43 = .ok (.if_icmp .ne 7, 3) := by decide +kernel
theorem dX8_fieldOf_46 : decode cX8_fieldOf 46 = .ok (.iconst 4, 1) := by decide +kernel
theorem dX8_fieldOf_47 : decode cX8_fieldOf 47 = .ok (.goto 4, 3) := by decide +kernel
theorem dX8_fieldOf_50 : decode cX8_fieldOf 50 = .ok (.iconst (-1), 1) := by decide +kernel
theorem dX8_fieldOf_51 : decode cX8_fieldOf 51 = .ok (.ireturn, 1) := by decide +kernel
theorem dX8_isTail_0 : decode cX8_isTail 0 = .ok (.iload_n 0, 1) := by decide +kernel
theorem dX8_isTail_1 : decode cX8_isTail 1 = .ok (.bipush 35, 2) := by decide +kernel
theorem dX8_isTail_3 : decode cX8_isTail 3 = .ok (.if_icmp .eq 15, 3) := by decide +kernel
theorem dX8_isTail_6 : decode cX8_isTail 6 = .ok (.iload_n 0, 1) := by decide +kernel
theorem dX8_isTail_7 : decode cX8_isTail 7 = .ok (.bipush 43, 2) := by decide +kernel
theorem dX8_isTail_9 : decode cX8_isTail 9 = .ok (.if_icmp .eq 9, 3) := by decide +kernel
theorem dX8_isTail_12 : decode cX8_isTail 12 = .ok (.iload_n 0, 1) := by decide +kernel
theorem dX8_isTail_13 : decode cX8_isTail 13 = .ok (.bipush 45, 2) := by decide +kernel
theorem dX8_isTail_15 : decode cX8_isTail 15 = .ok (.if_icmp .ne 7, 3) := by decide +kernel
theorem dX8_isTail_18 : decode cX8_isTail 18 = .ok (.iconst 1, 1) := by decide +kernel
theorem dX8_isTail_19 : decode cX8_isTail 19 = .ok (.goto 4, 3) := by decide +kernel
theorem dX8_isTail_22 : decode cX8_isTail 22 = .ok (.iconst 0, 1) := by decide +kernel
theorem dX8_isTail_23 : decode cX8_isTail 23 = .ok (.ireturn, 1) := by decide +kernel
theorem dX8_at_0 : decode cX8_at 0 = .ok (.iload_n 3, 1) := by decide +kernel
theorem dX8_at_1 : decode cX8_at 1 = .ok (.iload_n 2, 1) := by decide +kernel
theorem dX8_at_2 : decode cX8_at 2 = .ok (.if_icmp .ge 11, 3) := by decide +kernel
theorem dX8_at_5 : decode cX8_at 5 = .ok (.aload_n 0, 1) := by decide +kernel
theorem dX8_at_6 : decode cX8_at 6 = .ok (.iload_n 1, 1) := by decide +kernel
theorem dX8_at_7 : decode cX8_at 7 = .ok (.iload_n 3, 1) := by decide +kernel
theorem dX8_at_8 : decode cX8_at 8 = .ok (.iadd, 1) := by decide +kernel
theorem dX8_at_9 : decode cX8_at 9 = .ok (.iaload, 1) := by decide +kernel
theorem dX8_at_10 : decode cX8_at 10 = .ok (.goto 4, 3) := by decide +kernel
theorem dX8_at_13 : decode cX8_at 13 = .ok (.iconst 0, 1) := by decide +kernel
theorem dX8_at_14 : decode cX8_at 14 = .ok (.ireturn, 1) := by decide +kernel
theorem dX8_overs_0 : decode cX8_overs 0 = .ok (.aload_n 0, 1) := by decide +kernel
theorem dX8_overs_1 : decode cX8_overs 1 = .ok (.getfield 57, 3) := by decide +kernel
theorem dX8_overs_4 : decode cX8_overs 4 = .ok (.aload_n 0, 1) := by decide +kernel
theorem dX8_overs_5 : decode cX8_overs 5 = .ok (.getfield 111, 3) := by decide +kernel
theorem dX8_overs_8 : decode cX8_overs 8 = .ok (.iaload, 1) := by decide +kernel
theorem dX8_overs_9 : decode cX8_overs 9 = .ok (.istore_n 1, 1) := by decide +kernel
theorem dX8_overs_10 : decode cX8_overs 10 = .ok (.aload_n 0, 1) := by decide +kernel
theorem dX8_overs_11 : decode cX8_overs 11 = .ok (.getfield 57, 3) := by decide +kernel
theorem dX8_overs_14 : decode cX8_overs 14 = .ok (.aload_n 0, 1) := by decide +kernel
theorem dX8_overs_15 : decode cX8_overs 15 = .ok (.getfield 111, 3) := by decide +kernel
theorem dX8_overs_18 : decode cX8_overs 18 = .ok (.iconst 0, 1) := by decide +kernel
theorem dX8_overs_19 : decode cX8_overs 19 = .ok (.iastore, 1) := by decide +kernel
theorem dX8_overs_20 : decode cX8_overs 20 = .ok (.iload_n 1, 1) := by decide +kernel
theorem dX8_overs_21 : decode cX8_overs 21 = .ok (.ireturn, 1) := by decide +kernel
theorem dX8_look_0 : decode cX8_look 0 = .ok (.aload_n 0, 1) := by decide +kernel
theorem dX8_look_1 : decode cX8_look 1 = .ok (.iconst (-1), 1) := by decide +kernel
theorem dX8_look_2 : decode cX8_look 2 = .ok (.putfield 114, 3) := by decide +kernel
theorem dX8_look_5 : decode cX8_look 5 = .ok (.aload_n 0, 1) := by decide +kernel
theorem dX8_look_6 : decode cX8_look 6 = .ok (.iconst 0, 1) := by decide +kernel
theorem dX8_look_7 : decode cX8_look 7 = .ok (.putfield 117, 3) := by decide +kernel
theorem dX8_look_10 : decode cX8_look 10 = .ok (.aload_n 0, 1) := by decide +kernel
theorem dX8_look_11 : decode cX8_look 11 = .ok (.iconst 0, 1) := by decide +kernel
theorem dX8_look_12 : decode cX8_look 12 = .ok (.putfield 111, 3) := by decide +kernel
theorem dX8_look_15 : decode cX8_look 15 = .ok (.aload_n 0, 1) := by decide +kernel
theorem dX8_look_16 : decode cX8_look 16 = .ok (.getfield 57, 3) := by decide +kernel
theorem dX8_look_19 : decode cX8_look 19 = .ok (.iconst 0, 1) := by decide +kernel
theorem dX8_look_20 : decode cX8_look 20 = .ok (.iconst 0, 1) := by decide +kernel
theorem dX8_look_21 : decode cX8_look 21 = .ok (.iastore, 1) := by decide +kernel
theorem dX8_look_22 : decode cX8_look 22 = .ok (.iconst 0, 1) := by decide +kernel
theorem dX8_look_23 : decode cX8_look 23 = .ok (.istore 4, 2) := by decide +kernel
theorem dX8_look_25 : decode cX8_look 25 = .ok (.iconst 0, 1) := by decide +kernel
theorem dX8_look_26 : decode cX8_look 26 = .ok (.istore 5, 2) := by decide +kernel
theorem dX8_look_28 : decode cX8_look 28 = .ok (.iload_n 3, 1) := by decide +kernel
theorem dX8_look_29 : decode cX8_look 29 = .ok (.ifCond .le 20, 3) := by decide +kernel
theorem dX8_look_32 : decode cX8_look 32 = .ok (.aload_n 1, 1) := by decide +kernel
theorem dX8_look_33 : decode cX8_look 33 = .ok (.iload_n 2, 1) := by decide +kernel
theorem dX8_look_34 : decode cX8_look 34 = .ok (.iload_n 3, 1) := by decide +kernel
theorem dX8_look_35 : decode cX8_look 35 = .ok (.iconst 0, 1) := by decide +kernel
theorem dX8_look_36 : decode cX8_look 36 = .ok (.invokestatic 120, 3) := by decide +kernel
theorem dX8_look_39 : decode cX8_look 39 = .ok (.invokestatic 124, 3) := by decide +kernel
theorem dX8_look_42 : decode cX8_look 42 = .ok (.ifCond .ne 7, 3) := by decide +kernel
theorem dX8_look_45 : decode cX8_look 45 = .ok (.iconst 1, 1) := by decide +kernel
theorem dX8_look_46 : decode cX8_look 46 = .ok (.goto 4, 3) := by decide +kernel
theorem dX8_look_49 : decode cX8_look 49 = .ok (.iconst 0, 1) := by decide +kernel
theorem dX8_look_50 : decode cX8_look 50 = .ok (.istore 6, 2) := by decide +kernel
theorem dX8_look_52 : decode cX8_look 52 = .ok (.iload 6, 2) := by decide +kernel
theorem dX8_look_54 : decode cX8_look 54 = .ok (.istore 7, 2) := by decide +kernel
theorem dX8_look_56 : decode cX8_look 56 = .ok (.iload 7, 2) := by decide +kernel
theorem dX8_look_58 : decode cX8_look 58 = .ok (.ifCond .eq 399, 3) := by decide +kernel
theorem dX8_look_61 : decode cX8_look 61 = .ok (.aload_n 0, 1) := by decide +kernel
theorem dX8_look_62 : decode cX8_look 62 = .ok (.getfield 114, 3) := by decide +kernel
theorem dX8_look_65 : decode cX8_look 65 = .ok (.ifCond .ge 392, 3) := by decide +kernel
theorem dX8_look_68 : decode cX8_look 68 = .ok (.aload_n 1, 1) := by decide +kernel
theorem dX8_look_69 : decode cX8_look 69 = .ok (.iload_n 2, 1) := by decide +kernel
theorem dX8_look_70 : decode cX8_look 70 = .ok (.iload_n 3, 1) := by decide +kernel
theorem dX8_look_71 : decode cX8_look 71 = .ok (.iload 5, 2) := by decide +kernel
theorem dX8_look_73 : decode cX8_look 73 = .ok (.invokestatic 120, 3) := by decide +kernel
theorem dX8_look_76 : decode cX8_look 76 = .ok (.istore 8, 2) := by decide +kernel
theorem dX8_look_78 : decode cX8_look 78 = .ok (.iload 6, 2) := by decide +kernel
theorem dX8_look_80 : decode cX8_look 80 = .ok (.ifCond .eq 105, 3) := by decide +kernel
theorem dX8_look_83 : decode cX8_look 83 = .ok (.iload 8, 2) := by decide +kernel
theorem dX8_look_85 : decode cX8_look 85 = .ok (.bipush 33, 2) := by decide +kernel
theorem dX8_look_87 : decode cX8_look 87 = .ok (.if_icmp .eq 10, 3) := by decide +kernel
theorem dX8_look_90 : decode cX8_look 90 = .ok (.iload 8, 2) := by decide +kernel
theorem dX8_look_92 : decode cX8_look 92 = .ok (.bipush 40, 2) := by decide +kernel
theorem dX8_look_94 : decode cX8_look 94 = .ok (.if_icmp .ne 91, 3) := by decide +kernel
theorem dX8_look_97 : decode cX8_look 97 = .ok (.aload_n 0, 1) := by decide +kernel
theorem dX8_look_98 : decode cX8_look 98 = .ok (.iload 4, 2) := by decide +kernel
theorem dX8_look_100 : decode cX8_look 100 = .ok (.bipush 20, 2) := by decide +kernel
theorem dX8_look_102 : decode cX8_look 102 = .ok (.if_icmp .ne 8, 3) := by decide +kernel
theorem dX8_look_105 : decode cX8_look 105 = .ok (.iload 5, 2) := by decide +kernel
theorem dX8_look_107 : decode cX8_look 107 = .ok (.goto 4, 3) := by decide +kernel
theorem dX8_look_110 : decode cX8_look 110 = .ok (.iconst (-1), 1) := by decide +kernel
theorem dX8_look_111 : decode cX8_look 111 = .ok (.putfield 114, 3) := by decide +kernel
theorem dX8_look_114 : decode cX8_look 114 = .ok (.iinc 4 1, 3) := by decide +kernel
theorem dX8_look_117 : decode cX8_look 117 = .ok (.iload 8, 2) := by decide +kernel
theorem dX8_look_119 : decode cX8_look 119 = .ok (.bipush 33, 2) := by decide +kernel
theorem dX8_look_121 : decode cX8_look 121 = .ok (.if_icmp .ne 19, 3) := by decide +kernel
theorem dX8_look_124 : decode cX8_look 124 = .ok (.aload_n 0, 1) := by decide +kernel
theorem dX8_look_125 : decode cX8_look 125 = .ok (.getfield 57, 3) := by decide +kernel
theorem dX8_look_128 : decode cX8_look 128 = .ok (.aload_n 0, 1) := by decide +kernel
theorem dX8_look_129 : decode cX8_look 129 = .ok (.getfield 111, 3) := by decide +kernel
theorem dX8_look_132 : decode cX8_look 132 = .ok (.dup2, 1) := by decide +kernel
theorem dX8_look_133 : decode cX8_look 133 = .ok (.iaload, 1) := by decide +kernel
theorem dX8_look_134 : decode cX8_look 134 = .ok (.iconst 1, 1) := by decide +kernel
theorem dX8_look_135 : decode cX8_look 135 = .ok (.iadd, 1) := by decide +kernel
theorem dX8_look_136 : decode cX8_look 136 = .ok (.iastore, 1) := by decide +kernel
theorem dX8_look_137 : decode cX8_look 137 = .ok (.goto 42, 3) := by decide +kernel
theorem dX8_look_140 : decode cX8_look 140 = .ok (.aload_n 0, 1) := by decide +kernel
theorem dX8_look_141 : decode cX8_look 141 = .ok (.dup, 1) := by decide +kernel
theorem dX8_look_142 : decode cX8_look 142 = .ok (.getfield 111, 3) := by decide +kernel
theorem dX8_look_145 : decode cX8_look 145 = .ok (.iconst 1, 1) := by decide +kernel
theorem dX8_look_146 : decode cX8_look 146 = .ok (.iadd, 1) := by decide +kernel
theorem dX8_look_147 : decode cX8_look 147 = .ok (.putfield 111, 3) := by decide +kernel
theorem dX8_look_150 : decode cX8_look 150 = .ok (.aload_n 0, 1) := by decide +kernel
theorem dX8_look_151 : decode cX8_look 151 = .ok (.getfield 57, 3) := by decide +kernel
theorem dX8_look_154 : decode cX8_look 154 = .ok (.aload_n 0, 1) := by decide +kernel
theorem dX8_look_155 : decode cX8_look 155 = .ok (.getfield 111, 3) := by decide +kernel
theorem dX8_look_158 : decode cX8_look 158 = .ok (.aload_n 0, 1) := by decide +kernel
theorem dX8_look_159 : decode cX8_look 159 = .ok (.getfield 114, 3) := by decide +kernel
theorem dX8_look_162 : decode cX8_look 162 = .ok (.ifCond .ge 7, 3) := by decide +kernel
theorem dX8_look_165 : decode cX8_look 165 = .ok (.iconst 0, 1) := by decide +kernel
theorem dX8_look_166 : decode cX8_look 166 = .ok (.goto 12, 3) := by decide +kernel
theorem dX8_look_169 : decode cX8_look 169 = .ok (.aload_n 0, 1) := by decide +kernel
theorem dX8_look_170 : decode cX8_look 170 = .ok (.getfield 57, 3) := by decide +kernel
theorem dX8_look_173 : decode cX8_look 173 = .ok (.aload_n 0, 1) := by decide +kernel
theorem dX8_look_174 : decode cX8_look 174 = .ok (.getfield 111, 3) := by decide +kernel
theorem dX8_look_177 : decode cX8_look 177 = .ok (.iaload, 1) := by decide +kernel
theorem dX8_look_178 : decode cX8_look 178 = .ok (.iastore, 1) := by decide +kernel
theorem dX8_look_179 : decode cX8_look 179 = .ok (.iinc 5 1, 3) := by decide +kernel
theorem dX8_look_182 : decode cX8_look 182 = .ok (.goto 272, 3) := by decide +kernel
theorem dX8_look_185 : decode cX8_look 185 = .ok (.iload 6, 2) := by decide +kernel
theorem dX8_look_187 : decode cX8_look 187 = .ok (.ifCond .eq 200, 3) := by decide +kernel
theorem dX8_look_190 : decode cX8_look 190 = .ok (.iload 8, 2) := by decide +kernel
theorem dX8_look_192 : decode cX8_look 192 = .ok (.invokestatic 128, 3) := by decide +kernel
theorem dX8_look_195 : decode cX8_look 195 = .ok (.istore 9, 2) := by decide +kernel
theorem dX8_look_197 : decode cX8_look 197 = .ok (.aload_n 0, 1) := by decide +kernel
theorem dX8_look_198 : decode cX8_look 198 = .ok (.iload 9, 2) := by decide +kernel
theorem dX8_look_200 : decode cX8_look 200 = .ok (.ifCond .lt 22, 3) := by decide +kernel
theorem dX8_look_203 : decode cX8_look 203 = .ok (.aload_n 0, 1) := by decide +kernel
theorem dX8_look_204 : decode cX8_look 204 = .ok (.getfield 22, 3) := by decide +kernel
theorem dX8_look_207 : decode cX8_look 207 = .ok (.iload 9, 2) := by decide +kernel
theorem dX8_look_209 : decode cX8_look 209 = .ok (.baload, 1) := by decide +kernel
theorem dX8_look_210 : decode cX8_look 210 = .ok (.ifCond .ne 12, 3) := by decide +kernel
theorem dX8_look_213 : decode cX8_look 213 = .ok (.aload_n 0, 1) := by decide +kernel
theorem dX8_look_214 : decode cX8_look 214 = .ok (.getfield 117, 3) := by decide +kernel
theorem dX8_look_217 : decode cX8_look 217 = .ok (.bipush 40, 2) := by decide +kernel
theorem dX8_look_219 : decode cX8_look 219 = .ok (.if_icmp .ne 8, 3) := by decide +kernel
theorem dX8_look_222 : decode cX8_look 222 = .ok (.iload 5, 2) := by decide +kernel
theorem dX8_look_224 : decode cX8_look 224 = .ok (.goto 4, 3) := by decide +kernel
theorem dX8_look_227 : decode cX8_look 227 = .ok (.iconst (-1), 1) := by decide +kernel
theorem dX8_look_228 : decode cX8_look 228 = .ok (.putfield 114, 3) := by decide +kernel
theorem dX8_look_231 : decode cX8_look 231 = .ok (.aload_n 1, 1) := by decide +kernel
theorem dX8_look_232 : decode cX8_look 232 = .ok (.iload_n 2, 1) := by decide +kernel
theorem dX8_look_233 : decode cX8_look 233 = .ok (.iload_n 3, 1) := by decide +kernel
theorem dX8_look_234 : decode cX8_look 234 = .ok (.iload 5, 2) := by decide +kernel
theorem dX8_look_236 : decode cX8_look 236 = .ok (.iconst 1, 1) := by decide +kernel
theorem dX8_look_237 : decode cX8_look 237 = .ok (.iadd, 1) := by decide +kernel
theorem dX8_look_238 : decode cX8_look 238 = .ok (.invokestatic 120, 3) := by decide +kernel
theorem dX8_look_241 : decode cX8_look 241 = .ok (.istore 10, 2) := by decide +kernel
theorem dX8_look_243 : decode cX8_look 243 = .ok (.aload_n 0, 1) := by decide +kernel
theorem dX8_look_244 : decode cX8_look 244 = .ok (.aload_n 0, 1) := by decide +kernel
theorem dX8_look_245 : decode cX8_look 245 = .ok (.getfield 114, 3) := by decide +kernel
theorem dX8_look_248 : decode cX8_look 248 = .ok (.ifCond .ge 31, 3) := by decide +kernel
theorem dX8_look_251 : decode cX8_look 251 = .ok (.iload 10, 2) := by decide +kernel
theorem dX8_look_253 : decode cX8_look 253 = .ok (.bipush 61, 2) := by decide +kernel
theorem dX8_look_255 : decode cX8_look 255 = .ok (.if_icmp .eq 24, 3) := by decide +kernel
theorem dX8_look_258 : decode cX8_look 258 = .ok (.iload 10, 2) := by decide +kernel
theorem dX8_look_260 : decode cX8_look 260 = .ok (.bipush 60, 2) := by decide +kernel
theorem dX8_look_262 : decode cX8_look 262 = .ok (.if_icmp .eq 17, 3) := by decide +kernel
theorem dX8_look_265 : decode cX8_look 265 = .ok (.iload 10, 2) := by decide +kernel
theorem dX8_look_267 : decode cX8_look 267 = .ok (.bipush 62, 2) := by decide +kernel
theorem dX8_look_269 : decode cX8_look 269 = .ok (.if_icmp .eq 10, 3) := by decide +kernel
theorem dX8_look_272 : decode cX8_look 272 = .ok (.iload 5, 2) := by decide +kernel
theorem dX8_look_274 : decode cX8_look 274 = .ok (.iconst 1, 1) := by decide +kernel
theorem dX8_look_275 : decode cX8_look 275 = .ok (.iadd, 1) := by decide +kernel
theorem dX8_look_276 : decode cX8_look 276 = .ok (.goto 7, 3) := by decide +kernel
theorem dX8_look_279 : decode cX8_look 279 = .ok (.aload_n 0, 1) := by decide +kernel
theorem dX8_look_280 : decode cX8_look 280 = .ok (.getfield 114, 3) := by decide +kernel
theorem dX8_look_283 : decode cX8_look 283 = .ok (.putfield 114, 3) := by decide +kernel
theorem dX8_look_286 : decode cX8_look 286 = .ok (.iload 5, 2) := by decide +kernel
theorem dX8_look_288 : decode cX8_look 288 = .ok (.iconst 2, 1) := by decide +kernel
theorem dX8_look_289 : decode cX8_look 289 = .ok (.iadd, 1) := by decide +kernel
theorem dX8_look_290 : decode cX8_look 290 = .ok (.istore 11, 2) := by decide +kernel
theorem dX8_look_292 : decode cX8_look 292 = .ok (.iload 11, 2) := by decide +kernel
theorem dX8_look_294 : decode cX8_look 294 = .ok (.iload 5, 2) := by decide +kernel
theorem dX8_look_296 : decode cX8_look 296 = .ok (.bipush 7, 2) := by decide +kernel
theorem dX8_look_298 : decode cX8_look 298 = .ok (.iadd, 1) := by decide +kernel
theorem dX8_look_299 : decode cX8_look 299 = .ok (.if_icmp .ge 30, 3) := by decide +kernel
theorem dX8_look_302 : decode cX8_look 302 = .ok (.aload_n 1, 1) := by decide +kernel
theorem dX8_look_303 : decode cX8_look 303 = .ok (.iload_n 2, 1) := by decide +kernel
theorem dX8_look_304 : decode cX8_look 304 = .ok (.iload_n 3, 1) := by decide +kernel
theorem dX8_look_305 : decode cX8_look 305 = .ok (.iload 11, 2) := by decide +kernel
theorem dX8_look_307 : decode cX8_look 307 = .ok (.invokestatic 120, 3) := by decide +kernel
theorem dX8_look_310 : decode cX8_look 310 = .ok (.i2l, 1) := by decide +kernel
theorem dX8_look_311 : decode cX8_look 311 = .ok (.ldc2_w 132, 3) := by decide +kernel
theorem dX8_look_314 : decode cX8_look 314 = .ok (.ldc2_w 134, 3) := by decide +kernel
theorem dX8_look_317 : decode cX8_look 317 = .ok (.invokestatic 90, 3) := by decide +kernel
theorem dX8_look_320 : decode cX8_look 320 = .ok (.ifCond .eq 9, 3) := by decide +kernel
theorem dX8_look_323 : decode cX8_look 323 = .ok (.iinc 11 1, 3) := by decide +kernel
theorem dX8_look_326 : decode cX8_look 326 = .ok (.goto (-34), 3) := by decide +kernel
theorem dX8_look_329 : decode cX8_look 329 = .ok (.aload_n 0, 1) := by decide +kernel
theorem dX8_look_330 : decode cX8_look 330 = .ok (.aload_n 0, 1) := by decide +kernel
theorem dX8_look_331 : decode cX8_look 331 = .ok (.getfield 114, 3) := by decide +kernel
theorem dX8_look_334 : decode cX8_look 334 = .ok (.ifCond .ge 17, 3) := by decide +kernel
theorem dX8_look_337 : decode cX8_look 337 = .ok (.iload 11, 2) := by decide +kernel
theorem dX8_look_339 : decode cX8_look 339 = .ok (.iload 5, 2) := by decide +kernel
theorem dX8_look_341 : decode cX8_look 341 = .ok (.iconst 2, 1) := by decide +kernel
theorem dX8_look_342 : decode cX8_look 342 = .ok (.iadd, 1) := by decide +kernel
theorem dX8_look_343 : decode cX8_look 343 = .ok (.if_icmp .ne 8, 3) := by decide +kernel
theorem dX8_look_346 : decode cX8_look 346 = .ok (.iload 11, 2) := by decide +kernel
theorem dX8_look_348 : decode cX8_look 348 = .ok (.goto 7, 3) := by decide +kernel
theorem dX8_look_351 : decode cX8_look 351 = .ok (.aload_n 0, 1) := by decide +kernel
theorem dX8_look_352 : decode cX8_look 352 = .ok (.getfield 114, 3) := by decide +kernel
theorem dX8_look_355 : decode cX8_look 355 = .ok (.putfield 114, 3) := by decide +kernel
theorem dX8_look_358 : decode cX8_look 358 = .ok (.iload 11, 2) := by decide +kernel
theorem dX8_look_360 : decode cX8_look 360 = .ok (.istore 5, 2) := by decide +kernel
theorem dX8_look_362 : decode cX8_look 362 = .ok (.aload_n 0, 1) := by decide +kernel
theorem dX8_look_363 : decode cX8_look 363 = .ok (.dup, 1) := by decide +kernel
theorem dX8_look_364 : decode cX8_look 364 = .ok (.getfield 117, 3) := by decide +kernel
theorem dX8_look_367 : decode cX8_look 367 = .ok (.iconst 1, 1) := by decide +kernel
theorem dX8_look_368 : decode cX8_look 368 = .ok (.iadd, 1) := by decide +kernel
theorem dX8_look_369 : decode cX8_look 369 = .ok (.putfield 117, 3) := by decide +kernel
theorem dX8_look_372 : decode cX8_look 372 = .ok (.iload 4, 2) := by decide +kernel
theorem dX8_look_374 : decode cX8_look 374 = .ok (.aload_n 0, 1) := by decide +kernel
theorem dX8_look_375 : decode cX8_look 375 = .ok (.invokevirtual 136, 3) := by decide +kernel
theorem dX8_look_378 : decode cX8_look 378 = .ok (.isub, 1) := by decide +kernel
theorem dX8_look_379 : decode cX8_look 379 = .ok (.istore 4, 2) := by decide +kernel
theorem dX8_look_381 : decode cX8_look 381 = .ok (.iconst 0, 1) := by decide +kernel
theorem dX8_look_382 : decode cX8_look 382 = .ok (.istore 6, 2) := by decide +kernel
theorem dX8_look_384 : decode cX8_look 384 = .ok (.goto 70, 3) := by decide +kernel
theorem dX8_look_387 : decode cX8_look 387 = .ok (.iload 8, 2) := by decide +kernel
theorem dX8_look_389 : decode cX8_look 389 = .ok (.bipush 38, 2) := by decide +kernel
theorem dX8_look_391 : decode cX8_look 391 = .ok (.if_icmp .eq 10, 3) := by decide +kernel
theorem dX8_look_394 : decode cX8_look 394 = .ok (.iload 8, 2) := by decide +kernel
theorem dX8_look_396 : decode cX8_look 396 = .ok (.bipush 124, 2) := by decide +kernel
theorem dX8_look_398 : decode cX8_look 398 = .ok (.if_icmp .ne 12, 3) := by decide +kernel
theorem dX8_look_401 : decode cX8_look 401 = .ok (.iinc 5 1, 3) := by decide +kernel
theorem dX8_look_404 : decode cX8_look 404 = .ok (.iconst 1, 1) := by decide +kernel
theorem dX8_look_405 : decode cX8_look 405 = .ok (.istore 6, 2) := by decide +kernel
theorem dX8_look_407 : decode cX8_look 407 = .ok (.goto 47, 3) := by decide +kernel
theorem dX8_look_410 : decode cX8_look 410 = .ok (.iload 8, 2) := by decide +kernel
theorem dX8_look_412 : decode cX8_look 412 = .ok (.bipush 41, 2) := by decide +kernel
theorem dX8_look_414 : decode cX8_look 414 = .ok (.if_icmp .ne 37, 3) := by decide +kernel
theorem dX8_look_417 : decode cX8_look 417 = .ok (.aload_n 0, 1) := by decide +kernel
theorem dX8_look_418 : decode cX8_look 418 = .ok (.getfield 111, 3) := by decide +kernel
theorem dX8_look_421 : decode cX8_look 421 = .ok (.ifCond .le 30, 3) := by decide +kernel
theorem dX8_look_424 : decode cX8_look 424 = .ok (.iinc 5 1, 3) := by decide +kernel
theorem dX8_look_427 : decode cX8_look 427 = .ok (.aload_n 0, 1) := by decide +kernel
theorem dX8_look_428 : decode cX8_look 428 = .ok (.dup, 1) := by decide +kernel
theorem dX8_look_429 : decode cX8_look 429 = .ok (.getfield 111, 3) := by decide +kernel
theorem dX8_look_432 : decode cX8_look 432 = .ok (.iconst 1, 1) := by decide +kernel
theorem dX8_look_433 : decode cX8_look 433 = .ok (.isub, 1) := by decide +kernel
theorem dX8_look_434 : decode cX8_look 434 = .ok (.putfield 111, 3) := by decide +kernel
theorem dX8_look_437 : decode cX8_look 437 = .ok (.iload 4, 2) := by decide +kernel
theorem dX8_look_439 : decode cX8_look 439 = .ok (.iconst 1, 1) := by decide +kernel
theorem dX8_look_440 : decode cX8_look 440 = .ok (.isub, 1) := by decide +kernel
theorem dX8_look_441 : decode cX8_look 441 = .ok (.aload_n 0, 1) := by decide +kernel
theorem dX8_look_442 : decode cX8_look 442 = .ok (.invokevirtual 136, 3) := by decide +kernel
theorem dX8_look_445 : decode cX8_look 445 = .ok (.isub, 1) := by decide +kernel
theorem dX8_look_446 : decode cX8_look 446 = .ok (.istore 4, 2) := by decide +kernel
theorem dX8_look_448 : decode cX8_look 448 = .ok (.goto 6, 3) := by decide +kernel
theorem dX8_look_451 : decode cX8_look 451 = .ok (.iconst 0, 1) := by decide +kernel
theorem dX8_look_452 : decode cX8_look 452 = .ok (.istore 7, 2) := by decide +kernel
theorem dX8_look_454 : decode cX8_look 454 = .ok (.goto (-398), 3) := by decide +kernel
theorem dX8_look_457 : decode cX8_look 457 = .ok (.aload_n 0, 1) := by decide +kernel
theorem dX8_look_458 : decode cX8_look 458 = .ok (.iload 5, 2) := by decide +kernel
theorem dX8_look_460 : decode cX8_look 460 = .ok (.putfield 140, 3) := by decide +kernel
theorem dX8_look_463 : decode cX8_look 463 = .ok (.aload_n 0, 1) := by decide +kernel
theorem dX8_look_464 : decode cX8_look 464 = .ok (.getfield 114, 3) := by decide +kernel
theorem dX8_look_467 : decode cX8_look 467 = .ok (.ifCond .ge 16, 3) := by decide +kernel
theorem dX8_look_470 : decode cX8_look 470 = .ok (.aload_n 0, 1) := by decide +kernel
theorem dX8_look_471 : decode cX8_look 471 = .ok (.getfield 111, 3) := by decide +kernel
theorem dX8_look_474 : decode cX8_look 474 = .ok (.ifCond .le 9, 3) := by decide +kernel
theorem dX8_look_477 : decode cX8_look 477 = .ok (.aload_n 0, 1) := by decide +kernel
theorem dX8_look_478 : decode cX8_look 478 = .ok (.iload 5, 2) := by decide +kernel
theorem dX8_look_480 : decode cX8_look 480 = .ok (.putfield 114, 3) := by decide +kernel
theorem dX8_look_483 : decode cX8_look 483 = .ok (.aload_n 0, 1) := by decide +kernel
theorem dX8_look_484 : decode cX8_look 484 = .ok (.getfield 114, 3) := by decide +kernel
theorem dX8_look_487 : decode cX8_look 487 = .ok (.ifCond .ge 16, 3) := by decide +kernel
theorem dX8_look_490 : decode cX8_look 490 = .ok (.iload 5, 2) := by decide +kernel
theorem dX8_look_492 : decode cX8_look 492 = .ok (.iload_n 3, 1) := by decide +kernel
theorem dX8_look_493 : decode cX8_look 493 = .ok (.if_icmp .ge 10, 3) := by decide +kernel
theorem dX8_look_496 : decode cX8_look 496 = .ok (.aload_n 0, 1) := by decide +kernel
theorem dX8_look_497 : decode cX8_look 497 = .ok (.aload_n 1, 1) := by decide +kernel
theorem dX8_look_498 : decode cX8_look 498 = .ok (.iload_n 2, 1) := by decide +kernel
theorem dX8_look_499 : decode cX8_look 499 = .ok (.iload_n 3, 1) := by decide +kernel
theorem dX8_look_500 : decode cX8_look 500 = .ok (.invokevirtual 143, 3) := by decide +kernel
theorem dX8_look_503 : decode cX8_look 503 = .ok (.aload_n 0, 1) := by decide +kernel
theorem dX8_look_504 : decode cX8_look 504 = .ok (.aload_n 0, 1) := by decide +kernel
theorem dX8_look_505 : decode cX8_look 505 = .ok (.getfield 114, 3) := by decide +kernel
theorem dX8_look_508 : decode cX8_look 508 = .ok (.iload_n 3, 1) := by decide +kernel
theorem dX8_look_509 : decode cX8_look 509 = .ok (.if_icmp .le 7, 3) := by decide +kernel
theorem dX8_look_512 : decode cX8_look 512 = .ok (.iload_n 3, 1) := by decide +kernel
theorem dX8_look_513 : decode cX8_look 513 = .ok (.goto 7, 3) := by decide +kernel
theorem dX8_look_516 : decode cX8_look 516 = .ok (.aload_n 0, 1) := by decide +kernel
theorem dX8_look_517 : decode cX8_look 517 = .ok (.getfield 114, 3) := by decide +kernel
theorem dX8_look_520 : decode cX8_look 520 = .ok (.putfield 114, 3) := by decide +kernel
theorem dX8_look_523 : decode cX8_look 523 = .ok (.return_, 1) := by decide +kernel
theorem dX8_lookAtTail_0 : decode cX8_lookAtTail 0 = .ok (.aload_n 1, 1) := by decide +kernel
theorem dX8_lookAtTail_1 : decode cX8_lookAtTail 1 = .ok (.iload_n 2, 1) := by decide +kernel
theorem dX8_lookAtTail_2 : decode cX8_lookAtTail 2 = .ok (.iload_n 3, 1) := by decide +kernel
theorem dX8_lookAtTail_3 : decode cX8_lookAtTail 3 = .ok (.aload_n 0, 1) := by decide +kernel
theorem dX8_lookAtTail_4 : decode cX8_lookAtTail 4 = .ok (.getfield 140, 3) := by decide +kernel
theorem dX8_lookAtTail_7 : decode cX8_lookAtTail 7 = .ok (.invokestatic 120, 3) := by decide +kernel
theorem dX8_lookAtTail_10 : decode cX8_lookAtTail 10 = .ok (.invokestatic 124, 3) := by decide +kernel
theorem dX8_lookAtTail_13 : decode cX8_lookAtTail 13 = .ok (.ifCond .ne 12, 3) := by decide +kernel
theorem dX8_lookAtTail_16 : decode cX8_lookAtTail 16 = .ok (.aload_n 0, 1) := by decide +kernel
theorem dX8_lookAtTail_17 : decode cX8_lookAtTail 17 = .ok (.aload_n 0, 1) := by decide +kernel
theorem dX8_lookAtTail_18 : decode cX8_lookAtTail 18 = .ok (.getfield 140, 3) := by decide +kernel
theorem dX8_lookAtTail_21 : decode cX8_lookAtTail 21 = .ok (.putfield 114, 3) := by decide +kernel
theorem dX8_lookAtTail_24 : decode cX8_lookAtTail 24 = .ok (.return_, 1) := by decide +kernel
theorem dX8_lookAtTail_25 : decode cX8_lookAtTail 25 = .ok (.aload_n 1, 1) := by decide +kernel
theorem dX8_lookAtTail_26 : decode cX8_lookAtTail 26 = .ok (.iload_n 2, 1) := by decide +kernel
theorem dX8_lookAtTail_27 : decode cX8_lookAtTail 27 = .ok (.iload_n 3, 1) := by decide +kernel
theorem dX8_lookAtTail_28 : decode cX8_lookAtTail 28 = .ok (.aload_n 0, 1) := by decide +kernel
theorem dX8_lookAtTail_29 : decode cX8_lookAtTail 29 = .ok (.getfield 140, 3) := by decide +kernel
theorem dX8_lookAtTail_32 : decode cX8_lookAtTail 32 = .ok (.iconst 1, 1) := by decide +kernel
theorem dX8_lookAtTail_33 : decode cX8_lookAtTail 33 = .ok (.iadd, 1) := by decide +kernel
theorem dX8_lookAtTail_34 : decode cX8_lookAtTail 34 = .ok (.invokestatic 120, 3) := by decide +kernel
theorem dX8_lookAtTail_37 : decode cX8_lookAtTail 37 = .ok (.invokestatic 128, 3) := by decide +kernel
theorem dX8_lookAtTail_40 : decode cX8_lookAtTail 40 = .ok (.istore 4, 2) := by decide +kernel
theorem dX8_lookAtTail_42 : decode cX8_lookAtTail 42 = .ok (.aload_n 0, 1) := by decide +kernel
theorem dX8_lookAtTail_43 : decode cX8_lookAtTail 43 = .ok (.iload 4, 2) := by decide +kernel
theorem dX8_lookAtTail_45 : decode cX8_lookAtTail 45 = .ok (.ifCond .lt 13, 3) := by decide +kernel
theorem dX8_lookAtTail_48 : decode cX8_lookAtTail 48 = .ok (.aload_n 0, 1) := by decide +kernel
theorem dX8_lookAtTail_49 : decode cX8_lookAtTail 49 = .ok (.getfield 22, 3) := by decide +kernel
theorem dX8_lookAtTail_52 : decode cX8_lookAtTail 52 = .ok (.iload 4, 2) := by decide +kernel
theorem dX8_lookAtTail_54 : decode cX8_lookAtTail 54 = .ok (.baload, 1) := by decide +kernel
theorem dX8_lookAtTail_55 : decode cX8_lookAtTail 55 = .ok (.ifCond .eq 12, 3) := by decide +kernel
theorem dX8_lookAtTail_58 : decode cX8_lookAtTail 58 = .ok (.aload_n 0, 1) := by decide +kernel
theorem dX8_lookAtTail_59 : decode cX8_lookAtTail 59 = .ok (.getfield 140, 3) := by decide +kernel
theorem dX8_lookAtTail_62 : decode cX8_lookAtTail 62 = .ok (.iconst 1, 1) := by decide +kernel
theorem dX8_lookAtTail_63 : decode cX8_lookAtTail 63 = .ok (.iadd, 1) := by decide +kernel
theorem dX8_lookAtTail_64 : decode cX8_lookAtTail 64 = .ok (.goto 23, 3) := by decide +kernel
theorem dX8_lookAtTail_67 : decode cX8_lookAtTail 67 = .ok (.aload_n 0, 1) := by decide +kernel
theorem dX8_lookAtTail_68 : decode cX8_lookAtTail 68 = .ok (.getfield 140, 3) := by decide +kernel
theorem dX8_lookAtTail_71 : decode cX8_lookAtTail 71 = .ok (.iconst 2, 1) := by decide +kernel
theorem dX8_lookAtTail_72 : decode cX8_lookAtTail 72 = .ok (.iadd, 1) := by decide +kernel
theorem dX8_lookAtTail_73 : decode cX8_lookAtTail 73 = .ok (.iload_n 3, 1) := by decide +kernel
theorem dX8_lookAtTail_74 : decode cX8_lookAtTail 74 = .ok (.if_icmp .ge 12, 3) := by decide +kernel
theorem dX8_lookAtTail_77 : decode cX8_lookAtTail 77 = .ok (.aload_n 0, 1) := by decide +kernel
theorem dX8_lookAtTail_78 : decode cX8_lookAtTail 78 = .ok (.getfield 140, 3) := by decide +kernel
theorem dX8_lookAtTail_81 : decode cX8_lookAtTail 81 = .ok (.iconst 2, 1) := by decide +kernel
theorem dX8_lookAtTail_82 : decode cX8_lookAtTail 82 = .ok (.iadd, 1) := by decide +kernel
theorem dX8_lookAtTail_83 : decode cX8_lookAtTail 83 = .ok (.goto 4, 3) := by decide +kernel
theorem dX8_lookAtTail_86 : decode cX8_lookAtTail 86 = .ok (.iconst (-1), 1) := by decide +kernel
theorem dX8_lookAtTail_87 : decode cX8_lookAtTail 87 = .ok (.putfield 114, 3) := by decide +kernel
theorem dX8_lookAtTail_90 : decode cX8_lookAtTail 90 = .ok (.return_, 1) := by decide +kernel
theorem dX8_field_0 : decode cX8_field 0 = .ok (.aload_n 0, 1) := by decide +kernel
theorem dX8_field_1 : decode cX8_field 1 = .ok (.getfield 7, 3) := by decide +kernel
theorem dX8_field_4 : decode cX8_field 4 = .ok (.iconst 5, 1) := by decide +kernel
theorem dX8_field_5 : decode cX8_field 5 = .ok (.iload_n 1, 1) := by decide +kernel
theorem dX8_field_6 : decode cX8_field 6 = .ok (.imul, 1) := by decide +kernel
theorem dX8_field_7 : decode cX8_field 7 = .ok (.iload_n 2, 1) := by decide +kernel
theorem dX8_field_8 : decode cX8_field 8 = .ok (.iadd, 1) := by decide +kernel
theorem dX8_field_9 : decode cX8_field 9 = .ok (.iaload, 1) := by decide +kernel
theorem dX8_field_10 : decode cX8_field 10 = .ok (.ireturn, 1) := by decide +kernel
theorem dX8_test_0 : decode cX8_test 0 = .ok (.aload_n 0, 1) := by decide +kernel
theorem dX8_test_1 : decode cX8_test 1 = .ok (.getfield 57, 3) := by decide +kernel
theorem dX8_test_4 : decode cX8_test 4 = .ok (.aload_n 0, 1) := by decide +kernel
theorem dX8_test_5 : decode cX8_test 5 = .ok (.getfield 111, 3) := by decide +kernel
theorem dX8_test_8 : decode cX8_test 8 = .ok (.iaload, 1) := by decide +kernel
theorem dX8_test_9 : decode cX8_test 9 = .ok (.iconst 2, 1) := by decide +kernel
theorem dX8_test_10 : decode cX8_test 10 = .ok (.irem, 1) := by decide +kernel
theorem dX8_test_11 : decode cX8_test 11 = .ok (.iconst 1, 1) := by decide +kernel
theorem dX8_test_12 : decode cX8_test 12 = .ok (.if_icmp .ne 7, 3) := by decide +kernel
theorem dX8_test_15 : decode cX8_test 15 = .ok (.iconst 1, 1) := by decide +kernel
theorem dX8_test_16 : decode cX8_test 16 = .ok (.goto 4, 3) := by decide +kernel
theorem dX8_test_19 : decode cX8_test 19 = .ok (.iconst 0, 1) := by decide +kernel
theorem dX8_test_20 : decode cX8_test 20 = .ok (.istore_n 2, 1) := by decide +kernel
theorem dX8_test_21 : decode cX8_test 21 = .ok (.aload_n 0, 1) := by decide +kernel
theorem dX8_test_22 : decode cX8_test 22 = .ok (.getfield 57, 3) := by decide +kernel
theorem dX8_test_25 : decode cX8_test 25 = .ok (.aload_n 0, 1) := by decide +kernel
theorem dX8_test_26 : decode cX8_test 26 = .ok (.getfield 111, 3) := by decide +kernel
theorem dX8_test_29 : decode cX8_test 29 = .ok (.iconst 0, 1) := by decide +kernel
theorem dX8_test_30 : decode cX8_test 30 = .ok (.iastore, 1) := by decide +kernel
theorem dX8_test_31 : decode cX8_test 31 = .ok (.aload_n 0, 1) := by decide +kernel
theorem dX8_test_32 : decode cX8_test 32 = .ok (.getfield 63, 3) := by decide +kernel
theorem dX8_test_35 : decode cX8_test 35 = .ok (.aload_n 0, 1) := by decide +kernel
theorem dX8_test_36 : decode cX8_test 36 = .ok (.getfield 111, 3) := by decide +kernel
theorem dX8_test_39 : decode cX8_test 39 = .ok (.aload_n 0, 1) := by decide +kernel
theorem dX8_test_40 : decode cX8_test 40 = .ok (.getfield 63, 3) := by decide +kernel
theorem dX8_test_43 : decode cX8_test 43 = .ok (.aload_n 0, 1) := by decide +kernel
theorem dX8_test_44 : decode cX8_test 44 = .ok (.getfield 111, 3) := by decide +kernel
theorem dX8_test_47 : decode cX8_test 47 = .ok (.baload, 1) := by decide +kernel
theorem dX8_test_48 : decode cX8_test 48 = .ok (.ifCond .eq 12, 3) := by decide +kernel
theorem dX8_test_51 : decode cX8_test 51 = .ok (.iload_n 1, 1) := by decide +kernel
theorem dX8_test_52 : decode cX8_test 52 = .ok (.iload_n 2, 1) := by decide +kernel
theorem dX8_test_53 : decode cX8_test 53 = .ok (.if_icmp .eq 7, 3) := by decide +kernel
theorem dX8_test_56 : decode cX8_test 56 = .ok (.iconst 1, 1) := by decide +kernel
theorem dX8_test_57 : decode cX8_test 57 = .ok (.goto 4, 3) := by decide +kernel
theorem dX8_test_60 : decode cX8_test 60 = .ok (.iconst 0, 1) := by decide +kernel
theorem dX8_test_61 : decode cX8_test 61 = .ok (.bastore, 1) := by decide +kernel
theorem dX8_test_62 : decode cX8_test 62 = .ok (.return_, 1) := by decide +kernel
theorem dX8_isTrue_0 : decode cX8_isTrue 0 = .ok (.aload_n 0, 1) := by decide +kernel
theorem dX8_isTrue_1 : decode cX8_isTrue 1 = .ok (.iconst 0, 1) := by decide +kernel
theorem dX8_isTrue_2 : decode cX8_isTrue 2 = .ok (.putfield 111, 3) := by decide +kernel
theorem dX8_isTrue_5 : decode cX8_isTrue 5 = .ok (.aload_n 0, 1) := by decide +kernel
theorem dX8_isTrue_6 : decode cX8_isTrue 6 = .ok (.getfield 57, 3) := by decide +kernel
theorem dX8_isTrue_9 : decode cX8_isTrue 9 = .ok (.iconst 0, 1) := by decide +kernel
theorem dX8_isTrue_10 : decode cX8_isTrue 10 = .ok (.iconst 0, 1) := by decide +kernel
theorem dX8_isTrue_11 : decode cX8_isTrue 11 = .ok (.iastore, 1) := by decide +kernel
theorem dX8_isTrue_12 : decode cX8_isTrue 12 = .ok (.aload_n 0, 1) := by decide +kernel
theorem dX8_isTrue_13 : decode cX8_isTrue 13 = .ok (.getfield 60, 3) := by decide +kernel
theorem dX8_isTrue_16 : decode cX8_isTrue 16 = .ok (.iconst 0, 1) := by decide +kernel
theorem dX8_isTrue_17 : decode cX8_isTrue 17 = .ok (.iconst 0, 1) := by decide +kernel
theorem dX8_isTrue_18 : decode cX8_isTrue 18 = .ok (.bastore, 1) := by decide +kernel
theorem dX8_isTrue_19 : decode cX8_isTrue 19 = .ok (.aload_n 0, 1) := by decide +kernel
theorem dX8_isTrue_20 : decode cX8_isTrue 20 = .ok (.getfield 63, 3) := by decide +kernel
theorem dX8_isTrue_23 : decode cX8_isTrue 23 = .ok (.iconst 0, 1) := by decide +kernel
theorem dX8_isTrue_24 : decode cX8_isTrue 24 = .ok (.iconst 1, 1) := by decide +kernel
theorem dX8_isTrue_25 : decode cX8_isTrue 25 = .ok (.bastore, 1) := by decide +kernel
theorem dX8_isTrue_26 : decode cX8_isTrue 26 = .ok (.iconst 0, 1) := by decide +kernel
theorem dX8_isTrue_27 : decode cX8_isTrue 27 = .ok (.istore 4, 2) := by decide +kernel
theorem dX8_isTrue_29 : decode cX8_isTrue 29 = .ok (.iload 4, 2) := by decide +kernel
theorem dX8_isTrue_31 : decode cX8_isTrue 31 = .ok (.aload_n 0, 1) := by decide +kernel
theorem dX8_isTrue_32 : decode cX8_isTrue 32 = .ok (.getfield 140, 3) := by decide +kernel
theorem dX8_isTrue_35 : decode cX8_isTrue 35 = .ok (.if_icmp .ge 349, 3) := by decide +kernel
theorem dX8_isTrue_38 : decode cX8_isTrue 38 = .ok (.aload_n 1, 1) := by decide +kernel
theorem dX8_isTrue_39 : decode cX8_isTrue 39 = .ok (.iload_n 2, 1) := by decide +kernel
theorem dX8_isTrue_40 : decode cX8_isTrue 40 = .ok (.iload 4, 2) := by decide +kernel
theorem dX8_isTrue_42 : decode cX8_isTrue 42 = .ok (.iadd, 1) := by decide +kernel
theorem dX8_isTrue_43 : decode cX8_isTrue 43 = .ok (.iaload, 1) := by decide +kernel
theorem dX8_isTrue_44 : decode cX8_isTrue 44 = .ok (.istore 5, 2) := by decide +kernel
theorem dX8_isTrue_46 : decode cX8_isTrue 46 = .ok (.iinc 4 1, 3) := by decide +kernel
theorem dX8_isTrue_49 : decode cX8_isTrue 49 = .ok (.iload 5, 2) := by decide +kernel
theorem dX8_isTrue_51 : decode cX8_isTrue 51 = .ok (.bipush 33, 2) := by decide +kernel
theorem dX8_isTrue_53 : decode cX8_isTrue 53 = .ok (.if_icmp .ne 19, 3) := by decide +kernel
theorem dX8_isTrue_56 : decode cX8_isTrue 56 = .ok (.aload_n 0, 1) := by decide +kernel
theorem dX8_isTrue_57 : decode cX8_isTrue 57 = .ok (.getfield 57, 3) := by decide +kernel
theorem dX8_isTrue_60 : decode cX8_isTrue 60 = .ok (.aload_n 0, 1) := by decide +kernel
theorem dX8_isTrue_61 : decode cX8_isTrue 61 = .ok (.getfield 111, 3) := by decide +kernel
theorem dX8_isTrue_64 : decode cX8_isTrue 64 = .ok (.dup2, 1) := by decide +kernel
theorem dX8_isTrue_65 : decode cX8_isTrue 65 = .ok (.iaload, 1) := by decide +kernel
theorem dX8_isTrue_66 : decode cX8_isTrue 66 = .ok (.iconst 1, 1) := by decide +kernel
theorem dX8_isTrue_67 : decode cX8_isTrue 67 = .ok (.iadd, 1) := by decide +kernel
theorem dX8_isTrue_68 : decode cX8_isTrue 68 = .ok (.iastore, 1) := by decide +kernel
theorem dX8_isTrue_69 : decode cX8_isTrue 69 = .ok (.goto 312, 3) := by decide +kernel
theorem dX8_isTrue_72 : decode cX8_isTrue 72 = .ok (.iload 5, 2) := by decide +kernel
theorem dX8_isTrue_74 : decode cX8_isTrue 74 = .ok (.bipush 40, 2) := by decide +kernel
theorem dX8_isTrue_76 : decode cX8_isTrue 76 = .ok (.if_icmp .ne 46, 3) := by decide +kernel
theorem dX8_isTrue_79 : decode cX8_isTrue 79 = .ok (.aload_n 0, 1) := by decide +kernel
theorem dX8_isTrue_80 : decode cX8_isTrue 80 = .ok (.dup, 1) := by decide +kernel
theorem dX8_isTrue_81 : decode cX8_isTrue 81 = .ok (.getfield 111, 3) := by decide +kernel
theorem dX8_isTrue_84 : decode cX8_isTrue 84 = .ok (.iconst 1, 1) := by decide +kernel
theorem dX8_isTrue_85 : decode cX8_isTrue 85 = .ok (.iadd, 1) := by decide +kernel
theorem dX8_isTrue_86 : decode cX8_isTrue 86 = .ok (.putfield 111, 3) := by decide +kernel
theorem dX8_isTrue_89 : decode cX8_isTrue 89 = .ok (.aload_n 0, 1) := by decide +kernel
theorem dX8_isTrue_90 : decode cX8_isTrue 90 = .ok (.getfield 57, 3) := by decide +kernel
theorem dX8_isTrue_93 : decode cX8_isTrue 93 = .ok (.aload_n 0, 1) := by decide +kernel
theorem dX8_isTrue_94 : decode cX8_isTrue 94 = .ok (.getfield 111, 3) := by decide +kernel
theorem dX8_isTrue_97 : decode cX8_isTrue 97 = .ok (.iconst 0, 1) := by decide +kernel
theorem dX8_isTrue_98 : decode cX8_isTrue 98 = .ok (.iastore, 1) := by decide +kernel
theorem dX8_isTrue_99 : decode cX8_isTrue 99 = .ok (.aload_n 0, 1) := by decide +kernel
theorem dX8_isTrue_100 : decode cX8_isTrue 100 = .ok (.getfield 60, 3) := by decide +kernel
theorem dX8_isTrue_103 : decode cX8_isTrue 103 = .ok (.aload_n 0, 1) := by decide +kernel
theorem dX8_isTrue_104 : decode cX8_isTrue 104 = .ok (.getfield 111, 3) := by decide +kernel
theorem dX8_isTrue_107 : decode cX8_isTrue 107 = .ok (.iconst 0, 1) := by decide +kernel
theorem dX8_isTrue_108 : decode cX8_isTrue 108 = .ok (.bastore, 1) := by decide +kernel
theorem dX8_isTrue_109 : decode cX8_isTrue 109 = .ok (.aload_n 0, 1) := by decide +kernel
theorem dX8_isTrue_110 : decode cX8_isTrue 110 = .ok (.getfield 63, 3) := by decide +kernel
theorem dX8_isTrue_113 : decode cX8_isTrue 113 = .ok (.aload_n 0, 1) := by decide +kernel
theorem dX8_isTrue_114 : decode cX8_isTrue 114 = .ok (.getfield 111, 3) := by decide +kernel
theorem dX8_isTrue_117 : decode cX8_isTrue 117 = .ok (.iconst 1, 1) := by decide +kernel
theorem dX8_isTrue_118 : decode cX8_isTrue 118 = .ok (.bastore, 1) := by decide +kernel
theorem dX8_isTrue_119 : decode cX8_isTrue 119 = .ok (.goto 262, 3) := by decide +kernel
theorem dX8_isTrue_122 : decode cX8_isTrue 122 = .ok (.iload 5, 2) := by decide +kernel
theorem dX8_isTrue_124 : decode cX8_isTrue 124 = .ok (.bipush 41, 2) := by decide +kernel
theorem dX8_isTrue_126 : decode cX8_isTrue 126 = .ok (.if_icmp .ne 53, 3) := by decide +kernel
theorem dX8_isTrue_129 : decode cX8_isTrue 129 = .ok (.aload_n 0, 1) := by decide +kernel
theorem dX8_isTrue_130 : decode cX8_isTrue 130 = .ok (.getfield 60, 3) := by decide +kernel
theorem dX8_isTrue_133 : decode cX8_isTrue 133 = .ok (.aload_n 0, 1) := by decide +kernel
theorem dX8_isTrue_134 : decode cX8_isTrue 134 = .ok (.getfield 111, 3) := by decide +kernel
theorem dX8_isTrue_137 : decode cX8_isTrue 137 = .ok (.baload, 1) := by decide +kernel
theorem dX8_isTrue_138 : decode cX8_isTrue 138 = .ok (.ifCond .ne 15, 3) := by decide +kernel
theorem dX8_isTrue_141 : decode cX8_isTrue 141 = .ok (.aload_n 0, 1) := by decide +kernel
theorem dX8_isTrue_142 : decode cX8_isTrue 142 = .ok (.getfield 63, 3) := by decide +kernel
theorem dX8_isTrue_145 : decode cX8_isTrue 145 = .ok (.aload_n 0, 1) := by decide +kernel
theorem dX8_isTrue_146 : decode cX8_isTrue 146 = .ok (.getfield 111, 3) := by decide +kernel
theorem dX8_isTrue_149 : decode cX8_isTrue 149 = .ok (.baload, 1) := by decide +kernel
theorem dX8_isTrue_150 : decode cX8_isTrue 150 = .ok (.ifCond .eq 7, 3) := by decide +kernel
theorem dX8_isTrue_153 : decode cX8_isTrue 153 = .ok (.iconst 1, 1) := by decide +kernel
theorem dX8_isTrue_154 : decode cX8_isTrue 154 = .ok (.goto 4, 3) := by decide +kernel
theorem dX8_isTrue_157 : decode cX8_isTrue 157 = .ok (.iconst 0, 1) := by decide +kernel
theorem dX8_isTrue_158 : decode cX8_isTrue 158 = .ok (.istore 6, 2) := by decide +kernel
theorem dX8_isTrue_160 : decode cX8_isTrue 160 = .ok (.aload_n 0, 1) := by decide +kernel
theorem dX8_isTrue_161 : decode cX8_isTrue 161 = .ok (.dup, 1) := by decide +kernel
theorem dX8_isTrue_162 : decode cX8_isTrue 162 = .ok (.getfield 111, 3) := by decide +kernel
theorem dX8_isTrue_165 : decode cX8_isTrue 165 = .ok (.iconst 1, 1) := by decide +kernel
theorem dX8_isTrue_166 : decode cX8_isTrue 166 = .ok (.isub, 1) := by decide +kernel
theorem dX8_isTrue_167 : decode cX8_isTrue 167 = .ok (.putfield 111, 3) := by decide +kernel
theorem dX8_isTrue_170 : decode cX8_isTrue 170 = .ok (.aload_n 0, 1) := by decide +kernel
theorem dX8_isTrue_171 : decode cX8_isTrue 171 = .ok (.iload 6, 2) := by decide +kernel
theorem dX8_isTrue_173 : decode cX8_isTrue 173 = .ok (.invokevirtual 147, 3) := by decide +kernel
theorem dX8_isTrue_176 : decode cX8_isTrue 176 = .ok (.goto 205, 3) := by decide +kernel
theorem dX8_isTrue_179 : decode cX8_isTrue 179 = .ok (.iload 5, 2) := by decide +kernel
theorem dX8_isTrue_181 : decode cX8_isTrue 181 = .ok (.bipush 124, 2) := by decide +kernel
theorem dX8_isTrue_183 : decode cX8_isTrue 183 = .ok (.if_icmp .ne 54, 3) := by decide +kernel
theorem dX8_isTrue_186 : decode cX8_isTrue 186 = .ok (.aload_n 0, 1) := by decide +kernel
theorem dX8_isTrue_187 : decode cX8_isTrue 187 = .ok (.getfield 60, 3) := by decide +kernel
theorem dX8_isTrue_190 : decode cX8_isTrue 190 = .ok (.aload_n 0, 1) := by decide +kernel
theorem dX8_isTrue_191 : decode cX8_isTrue 191 = .ok (.getfield 111, 3) := by decide +kernel
theorem dX8_isTrue_194 : decode cX8_isTrue 194 = .ok (.aload_n 0, 1) := by decide +kernel
theorem dX8_isTrue_195 : decode cX8_isTrue 195 = .ok (.getfield 60, 3) := by decide +kernel
theorem dX8_isTrue_198 : decode cX8_isTrue 198 = .ok (.aload_n 0, 1) := by decide +kernel
theorem dX8_isTrue_199 : decode cX8_isTrue 199 = .ok (.getfield 111, 3) := by decide +kernel
theorem dX8_isTrue_202 : decode cX8_isTrue 202 = .ok (.baload, 1) := by decide +kernel
theorem dX8_isTrue_203 : decode cX8_isTrue 203 = .ok (.ifCond .ne 15, 3) := by decide +kernel
theorem dX8_isTrue_206 : decode cX8_isTrue 206 = .ok (.aload_n 0, 1) := by decide +kernel
theorem dX8_isTrue_207 : decode cX8_isTrue 207 = .ok (.getfield 63, 3) := by decide +kernel
theorem dX8_isTrue_210 : decode cX8_isTrue 210 = .ok (.aload_n 0, 1) := by decide +kernel
theorem dX8_isTrue_211 : decode cX8_isTrue 211 = .ok (.getfield 111, 3) := by decide +kernel
theorem dX8_isTrue_214 : decode cX8_isTrue 214 = .ok (.baload, 1) := by decide +kernel
theorem dX8_isTrue_215 : decode cX8_isTrue 215 = .ok (.ifCond .eq 7, 3) := by decide +kernel
theorem dX8_isTrue_218 : decode cX8_isTrue 218 = .ok (.iconst 1, 1) := by decide +kernel
theorem dX8_isTrue_219 : decode cX8_isTrue 219 = .ok (.goto 4, 3) := by decide +kernel
theorem dX8_isTrue_222 : decode cX8_isTrue 222 = .ok (.iconst 0, 1) := by decide +kernel
theorem dX8_isTrue_223 : decode cX8_isTrue 223 = .ok (.bastore, 1) := by decide +kernel
theorem dX8_isTrue_224 : decode cX8_isTrue 224 = .ok (.aload_n 0, 1) := by decide +kernel
theorem dX8_isTrue_225 : decode cX8_isTrue 225 = .ok (.getfield 63, 3) := by decide +kernel
theorem dX8_isTrue_228 : decode cX8_isTrue 228 = .ok (.aload_n 0, 1) := by decide +kernel
theorem dX8_isTrue_229 : decode cX8_isTrue 229 = .ok (.getfield 111, 3) := by decide +kernel
theorem dX8_isTrue_232 : decode cX8_isTrue 232 = .ok (.iconst 1, 1) := by decide +kernel
theorem dX8_isTrue_233 : decode cX8_isTrue 233 = .ok (.bastore, 1) := by decide +kernel
theorem dX8_isTrue_234 : decode cX8_isTrue 234 = .ok (.goto 147, 3) := by decide +kernel
theorem dX8_isTrue_237 : decode cX8_isTrue 237 = .ok (.iload 5, 2) := by decide +kernel
theorem dX8_isTrue_239 : decode cX8_isTrue 239 = .ok (.bipush 38, 2) := by decide +kernel
theorem dX8_isTrue_241 : decode cX8_isTrue 241 = .ok (.if_icmp .eq 140, 3) := by decide +kernel
theorem dX8_isTrue_244 : decode cX8_isTrue 244 = .ok (.aload_n 1, 1) := by decide +kernel
theorem dX8_isTrue_245 : decode cX8_isTrue 245 = .ok (.iload_n 2, 1) := by decide +kernel
theorem dX8_isTrue_246 : decode cX8_isTrue 246 = .ok (.iload 4, 2) := by decide +kernel
theorem dX8_isTrue_248 : decode cX8_isTrue 248 = .ok (.iadd, 1) := by decide +kernel
theorem dX8_isTrue_249 : decode cX8_isTrue 249 = .ok (.iaload, 1) := by decide +kernel
theorem dX8_isTrue_250 : decode cX8_isTrue 250 = .ok (.istore 6, 2) := by decide +kernel
theorem dX8_isTrue_252 : decode cX8_isTrue 252 = .ok (.iinc 4 1, 3) := by decide +kernel
theorem dX8_isTrue_255 : decode cX8_isTrue 255 = .ok (.iconst 0, 1) := by decide +kernel
theorem dX8_isTrue_256 : decode cX8_isTrue 256 = .ok (.istore 7, 2) := by decide +kernel
theorem dX8_isTrue_258 : decode cX8_isTrue 258 = .ok (.iload 4, 2) := by decide +kernel
theorem dX8_isTrue_260 : decode cX8_isTrue 260 = .ok (.aload_n 0, 1) := by decide +kernel
theorem dX8_isTrue_261 : decode cX8_isTrue 261 = .ok (.getfield 140, 3) := by decide +kernel
theorem dX8_isTrue_264 : decode cX8_isTrue 264 = .ok (.if_icmp .ge 45, 3) := by decide +kernel
theorem dX8_isTrue_267 : decode cX8_isTrue 267 = .ok (.aload_n 1, 1) := by decide +kernel
theorem dX8_isTrue_268 : decode cX8_isTrue 268 = .ok (.iload_n 2, 1) := by decide +kernel
theorem dX8_isTrue_269 : decode cX8_isTrue 269 = .ok (.iload 4, 2) := by decide +kernel
theorem dX8_isTrue_271 : decode cX8_isTrue 271 = .ok (.iadd, 1) := by decide +kernel
theorem dX8_isTrue_272 : decode cX8_isTrue 272 = .ok (.iaload, 1) := by decide +kernel
theorem dX8_isTrue_273 : decode cX8_isTrue 273 = .ok (.i2l, 1) := by decide +kernel
theorem dX8_isTrue_274 : decode cX8_isTrue 274 = .ok (.ldc2_w 132, 3) := by decide +kernel
theorem dX8_isTrue_277 : decode cX8_isTrue 277 = .ok (.ldc2_w 134, 3) := by decide +kernel
theorem dX8_isTrue_280 : decode cX8_isTrue 280 = .ok (.invokestatic 90, 3) := by decide +kernel
theorem dX8_isTrue_283 : decode cX8_isTrue 283 = .ok (.ifCond .eq 26, 3) := by decide +kernel
theorem dX8_isTrue_286 : decode cX8_isTrue 286 = .ok (.bipush 10, 2) := by decide +kernel
theorem dX8_isTrue_288 : decode cX8_isTrue 288 = .ok (.iload 7, 2) := by decide +kernel
theorem dX8_isTrue_290 : decode cX8_isTrue 290 = .ok (.imul, 1) := by decide +kernel
theorem dX8_isTrue_291 : decode cX8_isTrue 291 = .ok (.aload_n 1, 1) := by decide +kernel
theorem dX8_isTrue_292 : decode cX8_isTrue 292 = .ok (.iload_n 2, 1) := by decide +kernel
theorem dX8_isTrue_293 : decode cX8_isTrue 293 = .ok (.iload 4, 2) := by decide +kernel
theorem dX8_isTrue_295 : decode cX8_isTrue 295 = .ok (.iadd, 1) := by decide +kernel
theorem dX8_isTrue_296 : decode cX8_isTrue 296 = .ok (.iaload, 1) := by decide +kernel
theorem dX8_isTrue_297 : decode cX8_isTrue 297 = .ok (.iadd, 1) := by decide +kernel
theorem dX8_isTrue_298 : decode cX8_isTrue 298 = .ok (.bipush 48, 2) := by decide +kernel
theorem dX8_isTrue_300 : decode cX8_isTrue 300 = .ok (.isub, 1) := by decide +kernel
theorem dX8_isTrue_301 : decode cX8_isTrue 301 = .ok (.istore 7, 2) := by decide +kernel
theorem dX8_isTrue_303 : decode cX8_isTrue 303 = .ok (.iinc 4 1, 3) := by decide +kernel
theorem dX8_isTrue_306 : decode cX8_isTrue 306 = .ok (.goto (-48), 3) := by decide +kernel
theorem dX8_isTrue_309 : decode cX8_isTrue 309 = .ok (.aload_n 0, 1) := by decide +kernel
theorem dX8_isTrue_310 : decode cX8_isTrue 310 = .ok (.iload_n 3, 1) := by decide +kernel
theorem dX8_isTrue_311 : decode cX8_isTrue 311 = .ok (.iload 5, 2) := by decide +kernel
theorem dX8_isTrue_313 : decode cX8_isTrue 313 = .ok (.invokestatic 128, 3) := by decide +kernel
theorem dX8_isTrue_316 : decode cX8_isTrue 316 = .ok (.invokevirtual 151, 3) := by decide +kernel
theorem dX8_isTrue_319 : decode cX8_isTrue 319 = .ok (.istore 8, 2) := by decide +kernel
theorem dX8_isTrue_321 : decode cX8_isTrue 321 = .ok (.aload_n 0, 1) := by decide +kernel
theorem dX8_isTrue_322 : decode cX8_isTrue 322 = .ok (.iload 6, 2) := by decide +kernel
theorem dX8_isTrue_324 : decode cX8_isTrue 324 = .ok (.bipush 61, 2) := by decide +kernel
theorem dX8_isTrue_326 : decode cX8_isTrue 326 = .ok (.if_icmp .ne 18, 3) := by decide +kernel
theorem dX8_isTrue_329 : decode cX8_isTrue 329 = .ok (.iload 8, 2) := by decide +kernel
theorem dX8_isTrue_331 : decode cX8_isTrue 331 = .ok (.iload 7, 2) := by decide +kernel
theorem dX8_isTrue_333 : decode cX8_isTrue 333 = .ok (.if_icmp .ne 7, 3) := by decide +kernel
theorem dX8_isTrue_336 : decode cX8_isTrue 336 = .ok (.iconst 1, 1) := by decide +kernel
theorem dX8_isTrue_337 : decode cX8_isTrue 337 = .ok (.goto 41, 3) := by decide +kernel
theorem dX8_isTrue_340 : decode cX8_isTrue 340 = .ok (.iconst 0, 1) := by decide +kernel
theorem dX8_isTrue_341 : decode cX8_isTrue 341 = .ok (.goto 37, 3) := by decide +kernel
theorem dX8_isTrue_344 : decode cX8_isTrue 344 = .ok (.iload 6, 2) := by decide +kernel
theorem dX8_isTrue_346 : decode cX8_isTrue 346 = .ok (.bipush 60, 2) := by decide +kernel
theorem dX8_isTrue_348 : decode cX8_isTrue 348 = .ok (.if_icmp .ne 18, 3) := by decide +kernel
theorem dX8_isTrue_351 : decode cX8_isTrue 351 = .ok (.iload 8, 2) := by decide +kernel
theorem dX8_isTrue_353 : decode cX8_isTrue 353 = .ok (.iload 7, 2) := by decide +kernel
theorem dX8_isTrue_355 : decode cX8_isTrue 355 = .ok (.if_icmp .ge 7, 3) := by decide +kernel
theorem dX8_isTrue_358 : decode cX8_isTrue 358 = .ok (.iconst 1, 1) := by decide +kernel
theorem dX8_isTrue_359 : decode cX8_isTrue 359 = .ok (.goto 19, 3) := by decide +kernel
theorem dX8_isTrue_362 : decode cX8_isTrue 362 = .ok (.iconst 0, 1) := by decide +kernel
theorem dX8_isTrue_363 : decode cX8_isTrue 363 = .ok (.goto 15, 3) := by decide +kernel
theorem dX8_isTrue_366 : decode cX8_isTrue 366 = .ok (.iload 8, 2) := by decide +kernel
theorem dX8_isTrue_368 : decode cX8_isTrue 368 = .ok (.iload 7, 2) := by decide +kernel
theorem dX8_isTrue_370 : decode cX8_isTrue 370 = .ok (.if_icmp .le 7, 3) := by decide +kernel
theorem dX8_isTrue_373 : decode cX8_isTrue 373 = .ok (.iconst 1, 1) := by decide +kernel
theorem dX8_isTrue_374 : decode cX8_isTrue 374 = .ok (.goto 4, 3) := by decide +kernel
theorem dX8_isTrue_377 : decode cX8_isTrue 377 = .ok (.iconst 0, 1) := by decide +kernel
theorem dX8_isTrue_378 : decode cX8_isTrue 378 = .ok (.invokevirtual 147, 3) := by decide +kernel
theorem dX8_isTrue_381 : decode cX8_isTrue 381 = .ok (.goto (-352), 3) := by decide +kernel
theorem dX8_isTrue_384 : decode cX8_isTrue 384 = .ok (.aload_n 0, 1) := by decide +kernel
theorem dX8_isTrue_385 : decode cX8_isTrue 385 = .ok (.getfield 60, 3) := by decide +kernel
theorem dX8_isTrue_388 : decode cX8_isTrue 388 = .ok (.iconst 0, 1) := by decide +kernel
theorem dX8_isTrue_389 : decode cX8_isTrue 389 = .ok (.baload, 1) := by decide +kernel
theorem dX8_isTrue_390 : decode cX8_isTrue 390 = .ok (.ifCond .ne 12, 3) := by decide +kernel
theorem dX8_isTrue_393 : decode cX8_isTrue 393 = .ok (.aload_n 0, 1) := by decide +kernel
theorem dX8_isTrue_394 : decode cX8_isTrue 394 = .ok (.getfield 63, 3) := by decide +kernel
theorem dX8_isTrue_397 : decode cX8_isTrue 397 = .ok (.iconst 0, 1) := by decide +kernel
theorem dX8_isTrue_398 : decode cX8_isTrue 398 = .ok (.baload, 1) := by decide +kernel
theorem dX8_isTrue_399 : decode cX8_isTrue 399 = .ok (.ifCond .eq 7, 3) := by decide +kernel
theorem dX8_isTrue_402 : decode cX8_isTrue 402 = .ok (.iconst 1, 1) := by decide +kernel
theorem dX8_isTrue_403 : decode cX8_isTrue 403 = .ok (.goto 4, 3) := by decide +kernel
theorem dX8_isTrue_406 : decode cX8_isTrue 406 = .ok (.iconst 0, 1) := by decide +kernel
theorem dX8_isTrue_407 : decode cX8_isTrue 407 = .ok (.ireturn, 1) := by decide +kernel
theorem dX8_sees_0 : decode cX8_sees 0 = .ok (.iconst 0, 1) := by decide +kernel
theorem dX8_sees_1 : decode cX8_sees 1 = .ok (.istore_n 3, 1) := by decide +kernel
theorem dX8_sees_2 : decode cX8_sees 2 = .ok (.iload_n 3, 1) := by decide +kernel
theorem dX8_sees_3 : decode cX8_sees 3 = .ok (.aload_n 0, 1) := by decide +kernel
theorem dX8_sees_4 : decode cX8_sees 4 = .ok (.getfield 155, 3) := by decide +kernel
theorem dX8_sees_7 : decode cX8_sees 7 = .ok (.if_icmp .ge 81, 3) := by decide +kernel
theorem dX8_sees_10 : decode cX8_sees 10 = .ok (.aload_n 0, 1) := by decide +kernel
theorem dX8_sees_11 : decode cX8_sees 11 = .ok (.getfield 16, 3) := by decide +kernel
theorem dX8_sees_14 : decode cX8_sees 14 = .ok (.iload_n 3, 1) := by decide +kernel
theorem dX8_sees_15 : decode cX8_sees 15 = .ok (.iaload, 1) := by decide +kernel
theorem dX8_sees_16 : decode cX8_sees 16 = .ok (.ifCond .lt 18, 3) := by decide +kernel
theorem dX8_sees_19 : decode cX8_sees 19 = .ok (.aload_n 0, 1) := by decide +kernel
theorem dX8_sees_20 : decode cX8_sees 20 = .ok (.getfield 16, 3) := by decide +kernel
theorem dX8_sees_23 : decode cX8_sees 23 = .ok (.iload_n 3, 1) := by decide +kernel
theorem dX8_sees_24 : decode cX8_sees 24 = .ok (.iaload, 1) := by decide +kernel
theorem dX8_sees_25 : decode cX8_sees 25 = .ok (.aload_n 0, 1) := by decide +kernel
theorem dX8_sees_26 : decode cX8_sees 26 = .ok (.iload_n 2, 1) := by decide +kernel
theorem dX8_sees_27 : decode cX8_sees 27 = .ok (.iconst 4, 1) := by decide +kernel
theorem dX8_sees_28 : decode cX8_sees 28 = .ok (.invokevirtual 151, 3) := by decide +kernel
theorem dX8_sees_31 : decode cX8_sees 31 = .ok (.if_icmp .ne 7, 3) := by decide +kernel
theorem dX8_sees_34 : decode cX8_sees 34 = .ok (.iconst 1, 1) := by decide +kernel
theorem dX8_sees_35 : decode cX8_sees 35 = .ok (.goto 4, 3) := by decide +kernel
theorem dX8_sees_38 : decode cX8_sees 38 = .ok (.iconst 0, 1) := by decide +kernel
theorem dX8_sees_39 : decode cX8_sees 39 = .ok (.istore 4, 2) := by decide +kernel
theorem dX8_sees_41 : decode cX8_sees 41 = .ok (.aload_n 0, 1) := by decide +kernel
theorem dX8_sees_42 : decode cX8_sees 42 = .ok (.getfield 13, 3) := by decide +kernel
theorem dX8_sees_45 : decode cX8_sees 45 = .ok (.iload_n 3, 1) := by decide +kernel
theorem dX8_sees_46 : decode cX8_sees 46 = .ok (.iaload, 1) := by decide +kernel
theorem dX8_sees_47 : decode cX8_sees 47 = .ok (.iload_n 1, 1) := by decide +kernel
theorem dX8_sees_48 : decode cX8_sees 48 = .ok (.if_icmp .ne 34, 3) := by decide +kernel
theorem dX8_sees_51 : decode cX8_sees 51 = .ok (.iload 4, 2) := by decide +kernel
theorem dX8_sees_53 : decode cX8_sees 53 = .ok (.ifCond .eq 29, 3) := by decide +kernel
theorem dX8_sees_56 : decode cX8_sees 56 = .ok (.aload_n 0, 1) := by decide +kernel
theorem dX8_sees_57 : decode cX8_sees 57 = .ok (.getfield 19, 3) := by decide +kernel
theorem dX8_sees_60 : decode cX8_sees 60 = .ok (.iload_n 3, 1) := by decide +kernel
theorem dX8_sees_61 : decode cX8_sees 61 = .ok (.iaload, 1) := by decide +kernel
theorem dX8_sees_62 : decode cX8_sees 62 = .ok (.ifCond .lt 18, 3) := by decide +kernel
theorem dX8_sees_65 : decode cX8_sees 65 = .ok (.aload_n 0, 1) := by decide +kernel
theorem dX8_sees_66 : decode cX8_sees 66 = .ok (.getfield 19, 3) := by decide +kernel
theorem dX8_sees_69 : decode cX8_sees 69 = .ok (.iload_n 3, 1) := by decide +kernel
theorem dX8_sees_70 : decode cX8_sees 70 = .ok (.iaload, 1) := by decide +kernel
theorem dX8_sees_71 : decode cX8_sees 71 = .ok (.aload_n 0, 1) := by decide +kernel
theorem dX8_sees_72 : decode cX8_sees 72 = .ok (.iload_n 2, 1) := by decide +kernel
theorem dX8_sees_73 : decode cX8_sees 73 = .ok (.iconst 1, 1) := by decide +kernel
theorem dX8_sees_74 : decode cX8_sees 74 = .ok (.invokevirtual 151, 3) := by decide +kernel
theorem dX8_sees_77 : decode cX8_sees 77 = .ok (.if_icmp .ne 5, 3) := by decide +kernel
theorem dX8_sees_80 : decode cX8_sees 80 = .ok (.iconst 1, 1) := by decide +kernel
theorem dX8_sees_81 : decode cX8_sees 81 = .ok (.ireturn, 1) := by decide +kernel
theorem dX8_sees_82 : decode cX8_sees 82 = .ok (.iinc 3 1, 3) := by decide +kernel
theorem dX8_sees_85 : decode cX8_sees 85 = .ok (.goto (-83), 3) := by decide +kernel
theorem dX8_sees_88 : decode cX8_sees 88 = .ok (.iconst 0, 1) := by decide +kernel
theorem dX8_sees_89 : decode cX8_sees 89 = .ok (.ireturn, 1) := by decide +kernel
theorem dX8_find_0 : decode cX8_find 0 = .ok (.aload_n 0, 1) := by decide +kernel
theorem dX8_find_1 : decode cX8_find 1 = .ok (.iconst 0, 1) := by decide +kernel
theorem dX8_find_2 : decode cX8_find 2 = .ok (.putfield 158, 3) := by decide +kernel
theorem dX8_find_5 : decode cX8_find 5 = .ok (.aload_n 1, 1) := by decide +kernel
theorem dX8_find_6 : decode cX8_find 6 = .ok (.iload_n 2, 1) := by decide +kernel
theorem dX8_find_7 : decode cX8_find 7 = .ok (.iload_n 3, 1) := by decide +kernel
theorem dX8_find_8 : decode cX8_find 8 = .ok (.aload_n 0, 1) := by decide +kernel
theorem dX8_find_9 : decode cX8_find 9 = .ok (.getfield 140, 3) := by decide +kernel
theorem dX8_find_12 : decode cX8_find 12 = .ok (.invokestatic 120, 3) := by decide +kernel
theorem dX8_find_15 : decode cX8_find 15 = .ok (.istore 6, 2) := by decide +kernel
theorem dX8_find_17 : decode cX8_find 17 = .ok (.iload 6, 2) := by decide +kernel
theorem dX8_find_19 : decode cX8_find 19 = .ok (.ifCond .ne 7, 3) := by decide +kernel
theorem dX8_find_22 : decode cX8_find 22 = .ok (.iconst (-1), 1) := by decide +kernel
theorem dX8_find_23 : decode cX8_find 23 = .ok (.goto 18, 3) := by decide +kernel
theorem dX8_find_26 : decode cX8_find 26 = .ok (.aload_n 1, 1) := by decide +kernel
theorem dX8_find_27 : decode cX8_find 27 = .ok (.iload_n 2, 1) := by decide +kernel
theorem dX8_find_28 : decode cX8_find 28 = .ok (.iload_n 3, 1) := by decide +kernel
theorem dX8_find_29 : decode cX8_find 29 = .ok (.aload_n 0, 1) := by decide +kernel
theorem dX8_find_30 : decode cX8_find 30 = .ok (.getfield 140, 3) := by decide +kernel
theorem dX8_find_33 : decode cX8_find 33 = .ok (.iconst 1, 1) := by decide +kernel
theorem dX8_find_34 : decode cX8_find 34 = .ok (.iadd, 1) := by decide +kernel
theorem dX8_find_35 : decode cX8_find 35 = .ok (.invokestatic 120, 3) := by decide +kernel
theorem dX8_find_38 : decode cX8_find 38 = .ok (.invokestatic 128, 3) := by decide +kernel
theorem dX8_find_41 : decode cX8_find 41 = .ok (.istore 7, 2) := by decide +kernel
theorem dX8_find_43 : decode cX8_find 43 = .ok (.aload_n 0, 1) := by decide +kernel
theorem dX8_find_44 : decode cX8_find 44 = .ok (.iload 6, 2) := by decide +kernel
theorem dX8_find_46 : decode cX8_find 46 = .ok (.bipush 35, 2) := by decide +kernel
theorem dX8_find_48 : decode cX8_find 48 = .ok (.if_icmp .ne 7, 3) := by decide +kernel
theorem dX8_find_51 : decode cX8_find 51 = .ok (.iconst 1, 1) := by decide +kernel
theorem dX8_find_52 : decode cX8_find 52 = .ok (.goto 4, 3) := by decide +kernel
theorem dX8_find_55 : decode cX8_find 55 = .ok (.iconst 0, 1) := by decide +kernel
theorem dX8_find_56 : decode cX8_find 56 = .ok (.putfield 161, 3) := by decide +kernel
theorem dX8_find_59 : decode cX8_find 59 = .ok (.iconst 1, 1) := by decide +kernel
theorem dX8_find_60 : decode cX8_find 60 = .ok (.istore 8, 2) := by decide +kernel
theorem dX8_find_62 : decode cX8_find 62 = .ok (.iload 8, 2) := by decide +kernel
theorem dX8_find_64 : decode cX8_find 64 = .ok (.iload 5, 2) := by decide +kernel
theorem dX8_find_66 : decode cX8_find 66 = .ok (.if_icmp .gt 43, 3) := by decide +kernel
theorem dX8_find_69 : decode cX8_find 69 = .ok (.aload_n 0, 1) := by decide +kernel
theorem dX8_find_70 : decode cX8_find 70 = .ok (.getfield 78, 3) := by decide +kernel
theorem dX8_find_73 : decode cX8_find 73 = .ok (.iload 8, 2) := by decide +kernel
theorem dX8_find_75 : decode cX8_find 75 = .ok (.aload_n 0, 1) := by decide +kernel
theorem dX8_find_76 : decode cX8_find 76 = .ok (.iload 4, 2) := by decide +kernel
theorem dX8_find_78 : decode cX8_find 78 = .ok (.iload 8, 2) := by decide +kernel
theorem dX8_find_80 : decode cX8_find 80 = .ok (.invokevirtual 165, 3) := by decide +kernel
theorem dX8_find_83 : decode cX8_find 83 = .ok (.ifCond .eq 18, 3) := by decide +kernel
theorem dX8_find_86 : decode cX8_find 86 = .ok (.aload_n 0, 1) := by decide +kernel
theorem dX8_find_87 : decode cX8_find 87 = .ok (.aload_n 1, 1) := by decide +kernel
theorem dX8_find_88 : decode cX8_find 88 = .ok (.iload_n 2, 1) := by decide +kernel
theorem dX8_find_89 : decode cX8_find 89 = .ok (.iload 8, 2) := by decide +kernel
theorem dX8_find_91 : decode cX8_find 91 = .ok (.invokevirtual 169, 3) := by decide +kernel
theorem dX8_find_94 : decode cX8_find 94 = .ok (.ifCond .eq 7, 3) := by decide +kernel
theorem dX8_find_97 : decode cX8_find 97 = .ok (.iconst 1, 1) := by decide +kernel
theorem dX8_find_98 : decode cX8_find 98 = .ok (.goto 4, 3) := by decide +kernel
theorem dX8_find_101 : decode cX8_find 101 = .ok (.iconst 0, 1) := by decide +kernel
theorem dX8_find_102 : decode cX8_find 102 = .ok (.bastore, 1) := by decide +kernel
theorem dX8_find_103 : decode cX8_find 103 = .ok (.iinc 8 1, 3) := by decide +kernel
theorem dX8_find_106 : decode cX8_find 106 = .ok (.goto (-44), 3) := by decide +kernel
theorem dX8_find_109 : decode cX8_find 109 = .ok (.iconst 1, 1) := by decide +kernel
theorem dX8_find_110 : decode cX8_find 110 = .ok (.istore 8, 2) := by decide +kernel
theorem dX8_find_112 : decode cX8_find 112 = .ok (.iload 8, 2) := by decide +kernel
theorem dX8_find_114 : decode cX8_find 114 = .ok (.ifCond .eq 146, 3) := by decide +kernel
theorem dX8_find_117 : decode cX8_find 117 = .ok (.iconst 0, 1) := by decide +kernel
theorem dX8_find_118 : decode cX8_find 118 = .ok (.istore 9, 2) := by decide +kernel
theorem dX8_find_120 : decode cX8_find 120 = .ok (.iconst 1, 1) := by decide +kernel
theorem dX8_find_121 : decode cX8_find 121 = .ok (.istore 10, 2) := by decide +kernel
theorem dX8_find_123 : decode cX8_find 123 = .ok (.iload 10, 2) := by decide +kernel
theorem dX8_find_125 : decode cX8_find 125 = .ok (.iload 5, 2) := by decide +kernel
theorem dX8_find_127 : decode cX8_find 127 = .ok (.if_icmp .gt 103, 3) := by decide +kernel
theorem dX8_find_130 : decode cX8_find 130 = .ok (.iload 9, 2) := by decide +kernel
theorem dX8_find_132 : decode cX8_find 132 = .ok (.ifCond .le 60, 3) := by decide +kernel
theorem dX8_find_135 : decode cX8_find 135 = .ok (.iload 7, 2) := by decide +kernel
theorem dX8_find_137 : decode cX8_find 137 = .ok (.ifCond .lt 55, 3) := by decide +kernel
theorem dX8_find_140 : decode cX8_find 140 = .ok (.iload 6, 2) := by decide +kernel
theorem dX8_find_142 : decode cX8_find 142 = .ok (.bipush 45, 2) := by decide +kernel
theorem dX8_find_144 : decode cX8_find 144 = .ok (.if_icmp .ne 25, 3) := by decide +kernel
theorem dX8_find_147 : decode cX8_find 147 = .ok (.aload_n 0, 1) := by decide +kernel
theorem dX8_find_148 : decode cX8_find 148 = .ok (.iload 10, 2) := by decide +kernel
theorem dX8_find_150 : decode cX8_find 150 = .ok (.iload 7, 2) := by decide +kernel
theorem dX8_find_152 : decode cX8_find 152 = .ok (.invokevirtual 151, 3) := by decide +kernel
theorem dX8_find_155 : decode cX8_find 155 = .ok (.aload_n 0, 1) := by decide +kernel
theorem dX8_find_156 : decode cX8_find 156 = .ok (.iload 9, 2) := by decide +kernel
theorem dX8_find_158 : decode cX8_find 158 = .ok (.iload 7, 2) := by decide +kernel
theorem dX8_find_160 : decode cX8_find 160 = .ok (.invokevirtual 151, 3) := by decide +kernel
theorem dX8_find_163 : decode cX8_find 163 = .ok (.if_icmp .le 29, 3) := by decide +kernel
theorem dX8_find_166 : decode cX8_find 166 = .ok (.goto 22, 3) := by decide +kernel
theorem dX8_find_169 : decode cX8_find 169 = .ok (.aload_n 0, 1) := by decide +kernel
theorem dX8_find_170 : decode cX8_find 170 = .ok (.iload 10, 2) := by decide +kernel
theorem dX8_find_172 : decode cX8_find 172 = .ok (.iload 7, 2) := by decide +kernel
theorem dX8_find_174 : decode cX8_find 174 = .ok (.invokevirtual 151, 3) := by decide +kernel
theorem dX8_find_177 : decode cX8_find 177 = .ok (.aload_n 0, 1) := by decide +kernel
theorem dX8_find_178 : decode cX8_find 178 = .ok (.iload 9, 2) := by decide +kernel
theorem dX8_find_180 : decode cX8_find 180 = .ok (.iload 7, 2) := by decide +kernel
theorem dX8_find_182 : decode cX8_find 182 = .ok (.invokevirtual 151, 3) := by decide +kernel
theorem dX8_find_185 : decode cX8_find 185 = .ok (.if_icmp .ge 7, 3) := by decide +kernel
theorem dX8_find_188 : decode cX8_find 188 = .ok (.iconst 1, 1) := by decide +kernel
theorem dX8_find_189 : decode cX8_find 189 = .ok (.goto 4, 3) := by decide +kernel
theorem dX8_find_192 : decode cX8_find 192 = .ok (.iconst 0, 1) := by decide +kernel
theorem dX8_find_193 : decode cX8_find 193 = .ok (.istore 11, 2) := by decide +kernel
theorem dX8_find_195 : decode cX8_find 195 = .ok (.aload_n 0, 1) := by decide +kernel
theorem dX8_find_196 : decode cX8_find 196 = .ok (.getfield 78, 3) := by decide +kernel
theorem dX8_find_199 : decode cX8_find 199 = .ok (.iload 10, 2) := by decide +kernel
theorem dX8_find_201 : decode cX8_find 201 = .ok (.baload, 1) := by decide +kernel
theorem dX8_find_202 : decode cX8_find 202 = .ok (.ifCond .eq 18, 3) := by decide +kernel
theorem dX8_find_205 : decode cX8_find 205 = .ok (.iload 9, 2) := by decide +kernel
theorem dX8_find_207 : decode cX8_find 207 = .ok (.ifCond .eq 8, 3) := by decide +kernel
theorem dX8_find_210 : decode cX8_find 210 = .ok (.iload 11, 2) := by decide +kernel
theorem dX8_find_212 : decode cX8_find 212 = .ok (.ifCond .eq 8, 3) := by decide +kernel
theorem dX8_find_215 : decode cX8_find 215 = .ok (.iload 10, 2) := by decide +kernel
theorem dX8_find_217 : decode cX8_find 217 = .ok (.goto 5, 3) := by decide +kernel
theorem dX8_find_220 : decode cX8_find 220 = .ok (.iload 9, 2) := by decide +kernel
theorem dX8_find_222 : decode cX8_find 222 = .ok (.istore 9, 2) := by decide +kernel
theorem dX8_find_224 : decode cX8_find 224 = .ok (.iinc 10 1, 3) := by decide +kernel
theorem dX8_find_227 : decode cX8_find 227 = .ok (.goto (-104), 3) := by decide +kernel
theorem dX8_find_230 : decode cX8_find 230 = .ok (.iload 9, 2) := by decide +kernel
theorem dX8_find_232 : decode cX8_find 232 = .ok (.ifCond .le 7, 3) := by decide +kernel
theorem dX8_find_235 : decode cX8_find 235 = .ok (.iconst 1, 1) := by decide +kernel
theorem dX8_find_236 : decode cX8_find 236 = .ok (.goto 4, 3) := by decide +kernel
theorem dX8_find_239 : decode cX8_find 239 = .ok (.iconst 0, 1) := by decide +kernel
theorem dX8_find_240 : decode cX8_find 240 = .ok (.istore 8, 2) := by decide +kernel
theorem dX8_find_242 : decode cX8_find 242 = .ok (.iload 8, 2) := by decide +kernel
theorem dX8_find_244 : decode cX8_find 244 = .ok (.ifCond .eq 13, 3) := by decide +kernel
theorem dX8_find_247 : decode cX8_find 247 = .ok (.aload_n 0, 1) := by decide +kernel
theorem dX8_find_248 : decode cX8_find 248 = .ok (.iload 9, 2) := by decide +kernel
theorem dX8_find_250 : decode cX8_find 250 = .ok (.iload 7, 2) := by decide +kernel
theorem dX8_find_252 : decode cX8_find 252 = .ok (.iload 5, 2) := by decide +kernel
theorem dX8_find_254 : decode cX8_find 254 = .ok (.invokevirtual 173, 3) := by decide +kernel
theorem dX8_find_257 : decode cX8_find 257 = .ok (.goto (-145), 3) := by decide +kernel
theorem dX8_find_260 : decode cX8_find 260 = .ok (.return_, 1) := by decide +kernel
theorem dX8_take_0 : decode cX8_take 0 = .ok (.aload_n 0, 1) := by decide +kernel
theorem dX8_take_1 : decode cX8_take 1 = .ok (.getfield 161, 3) := by decide +kernel
theorem dX8_take_4 : decode cX8_take 4 = .ok (.ifCond .ne 31, 3) := by decide +kernel
theorem dX8_take_7 : decode cX8_take 7 = .ok (.aload_n 0, 1) := by decide +kernel
theorem dX8_take_8 : decode cX8_take 8 = .ok (.getfield 78, 3) := by decide +kernel
theorem dX8_take_11 : decode cX8_take 11 = .ok (.iload_n 1, 1) := by decide +kernel
theorem dX8_take_12 : decode cX8_take 12 = .ok (.iconst 0, 1) := by decide +kernel
theorem dX8_take_13 : decode cX8_take 13 = .ok (.bastore, 1) := by decide +kernel
theorem dX8_take_14 : decode cX8_take 14 = .ok (.aload_n 0, 1) := by decide +kernel
theorem dX8_take_15 : decode cX8_take 15 = .ok (.getfield 72, 3) := by decide +kernel
theorem dX8_take_18 : decode cX8_take 18 = .ok (.aload_n 0, 1) := by decide +kernel
theorem dX8_take_19 : decode cX8_take 19 = .ok (.getfield 158, 3) := by decide +kernel
theorem dX8_take_22 : decode cX8_take 22 = .ok (.iload_n 1, 1) := by decide +kernel
theorem dX8_take_23 : decode cX8_take 23 = .ok (.iastore, 1) := by decide +kernel
theorem dX8_take_24 : decode cX8_take 24 = .ok (.aload_n 0, 1) := by decide +kernel
theorem dX8_take_25 : decode cX8_take 25 = .ok (.dup, 1) := by decide +kernel
theorem dX8_take_26 : decode cX8_take 26 = .ok (.getfield 158, 3) := by decide +kernel
theorem dX8_take_29 : decode cX8_take 29 = .ok (.iconst 1, 1) := by decide +kernel
theorem dX8_take_30 : decode cX8_take 30 = .ok (.iadd, 1) := by decide +kernel
theorem dX8_take_31 : decode cX8_take 31 = .ok (.putfield 158, 3) := by decide +kernel
theorem dX8_take_34 : decode cX8_take 34 = .ok (.return_, 1) := by decide +kernel
theorem dX8_take_35 : decode cX8_take 35 = .ok (.aload_n 0, 1) := by decide +kernel
theorem dX8_take_36 : decode cX8_take 36 = .ok (.getfield 72, 3) := by decide +kernel
theorem dX8_take_39 : decode cX8_take 39 = .ok (.aload_n 0, 1) := by decide +kernel
theorem dX8_take_40 : decode cX8_take 40 = .ok (.getfield 158, 3) := by decide +kernel
theorem dX8_take_43 : decode cX8_take 43 = .ok (.aload_n 0, 1) := by decide +kernel
theorem dX8_take_44 : decode cX8_take 44 = .ok (.iload_n 1, 1) := by decide +kernel
theorem dX8_take_45 : decode cX8_take 45 = .ok (.iload_n 2, 1) := by decide +kernel
theorem dX8_take_46 : decode cX8_take 46 = .ok (.invokevirtual 151, 3) := by decide +kernel
theorem dX8_take_49 : decode cX8_take 49 = .ok (.iastore, 1) := by decide +kernel
theorem dX8_take_50 : decode cX8_take 50 = .ok (.aload_n 0, 1) := by decide +kernel
theorem dX8_take_51 : decode cX8_take 51 = .ok (.getfield 75, 3) := by decide +kernel
theorem dX8_take_54 : decode cX8_take 54 = .ok (.aload_n 0, 1) := by decide +kernel
theorem dX8_take_55 : decode cX8_take 55 = .ok (.getfield 158, 3) := by decide +kernel
theorem dX8_take_58 : decode cX8_take 58 = .ok (.iconst 0, 1) := by decide +kernel
theorem dX8_take_59 : decode cX8_take 59 = .ok (.iastore, 1) := by decide +kernel
theorem dX8_take_60 : decode cX8_take 60 = .ok (.iconst 1, 1) := by decide +kernel
theorem dX8_take_61 : decode cX8_take 61 = .ok (.istore 4, 2) := by decide +kernel
theorem dX8_take_63 : decode cX8_take 63 = .ok (.iload 4, 2) := by decide +kernel
theorem dX8_take_65 : decode cX8_take 65 = .ok (.iload_n 3, 1) := by decide +kernel
theorem dX8_take_66 : decode cX8_take 66 = .ok (.if_icmp .gt 59, 3) := by decide +kernel
theorem dX8_take_69 : decode cX8_take 69 = .ok (.aload_n 0, 1) := by decide +kernel
theorem dX8_take_70 : decode cX8_take 70 = .ok (.getfield 78, 3) := by decide +kernel
theorem dX8_take_73 : decode cX8_take 73 = .ok (.iload 4, 2) := by decide +kernel
theorem dX8_take_75 : decode cX8_take 75 = .ok (.baload, 1) := by decide +kernel
theorem dX8_take_76 : decode cX8_take 76 = .ok (.ifCond .eq 43, 3) := by decide +kernel
theorem dX8_take_79 : decode cX8_take 79 = .ok (.aload_n 0, 1) := by decide +kernel
theorem dX8_take_80 : decode cX8_take 80 = .ok (.iload 4, 2) := by decide +kernel
theorem dX8_take_82 : decode cX8_take 82 = .ok (.iload_n 2, 1) := by decide +kernel
theorem dX8_take_83 : decode cX8_take 83 = .ok (.invokevirtual 151, 3) := by decide +kernel
theorem dX8_take_86 : decode cX8_take 86 = .ok (.aload_n 0, 1) := by decide +kernel
theorem dX8_take_87 : decode cX8_take 87 = .ok (.getfield 72, 3) := by decide +kernel
theorem dX8_take_90 : decode cX8_take 90 = .ok (.aload_n 0, 1) := by decide +kernel
theorem dX8_take_91 : decode cX8_take 91 = .ok (.getfield 158, 3) := by decide +kernel
theorem dX8_take_94 : decode cX8_take 94 = .ok (.iaload, 1) := by decide +kernel
theorem dX8_take_95 : decode cX8_take 95 = .ok (.if_icmp .ne 24, 3) := by decide +kernel
theorem dX8_take_98 : decode cX8_take 98 = .ok (.aload_n 0, 1) := by decide +kernel
theorem dX8_take_99 : decode cX8_take 99 = .ok (.getfield 78, 3) := by decide +kernel
theorem dX8_take_102 : decode cX8_take 102 = .ok (.iload 4, 2) := by decide +kernel
theorem dX8_take_104 : decode cX8_take 104 = .ok (.iconst 0, 1) := by decide +kernel
theorem dX8_take_105 : decode cX8_take 105 = .ok (.bastore, 1) := by decide +kernel
theorem dX8_take_106 : decode cX8_take 106 = .ok (.aload_n 0, 1) := by decide +kernel
theorem dX8_take_107 : decode cX8_take 107 = .ok (.getfield 75, 3) := by decide +kernel
theorem dX8_take_110 : decode cX8_take 110 = .ok (.aload_n 0, 1) := by decide +kernel
theorem dX8_take_111 : decode cX8_take 111 = .ok (.getfield 158, 3) := by decide +kernel
theorem dX8_take_114 : decode cX8_take 114 = .ok (.dup2, 1) := by decide +kernel
theorem dX8_take_115 : decode cX8_take 115 = .ok (.iaload, 1) := by decide +kernel
theorem dX8_take_116 : decode cX8_take 116 = .ok (.iconst 1, 1) := by decide +kernel
theorem dX8_take_117 : decode cX8_take 117 = .ok (.iadd, 1) := by decide +kernel
theorem dX8_take_118 : decode cX8_take 118 = .ok (.iastore, 1) := by decide +kernel
theorem dX8_take_119 : decode cX8_take 119 = .ok (.iinc 4 1, 3) := by decide +kernel
theorem dX8_take_122 : decode cX8_take 122 = .ok (.goto (-59), 3) := by decide +kernel
theorem dX8_take_125 : decode cX8_take 125 = .ok (.aload_n 0, 1) := by decide +kernel
theorem dX8_take_126 : decode cX8_take 126 = .ok (.dup, 1) := by decide +kernel
theorem dX8_take_127 : decode cX8_take 127 = .ok (.getfield 158, 3) := by decide +kernel
theorem dX8_take_130 : decode cX8_take 130 = .ok (.iconst 1, 1) := by decide +kernel
theorem dX8_take_131 : decode cX8_take 131 = .ok (.iadd, 1) := by decide +kernel
theorem dX8_take_132 : decode cX8_take 132 = .ok (.putfield 158, 3) := by decide +kernel
theorem dX8_take_135 : decode cX8_take 135 = .ok (.return_, 1) := by decide +kernel
theorem dX8_costNow_0 : decode cX8_costNow 0 = .ok (.aload_n 0, 1) := by decide +kernel
theorem dX8_costNow_1 : decode cX8_costNow 1 = .ok (.getfield 117, 3) := by decide +kernel
theorem dX8_costNow_4 : decode cX8_costNow 4 = .ok (.i2l, 1) := by decide +kernel
theorem dX8_costNow_5 : decode cX8_costNow 5 = .ok (.lconst 1, 1) := by decide +kernel
theorem dX8_costNow_6 : decode cX8_costNow 6 = .ok (.ladd, 1) := by decide +kernel
theorem dX8_costNow_7 : decode cX8_costNow 7 = .ok (.aload_n 0, 1) := by decide +kernel
theorem dX8_costNow_8 : decode cX8_costNow 8 = .ok (.getfield 81, 3) := by decide +kernel
theorem dX8_costNow_11 : decode cX8_costNow 11 = .ok (.i2l, 1) := by decide +kernel
theorem dX8_costNow_12 : decode cX8_costNow 12 = .ok (.lmul, 1) := by decide +kernel
theorem dX8_costNow_13 : decode cX8_costNow 13 = .ok (.lreturn, 1) := by decide +kernel
theorem dX8_ask_0 : decode cX8_ask 0 = .ok (.aload_n 0, 1) := by decide +kernel
theorem dX8_ask_1 : decode cX8_ask 1 = .ok (.iconst 0, 1) := by decide +kernel
theorem dX8_ask_2 : decode cX8_ask 2 = .ok (.putfield 85, 3) := by decide +kernel
theorem dX8_ask_5 : decode cX8_ask 5 = .ok (.iload_n 1, 1) := by decide +kernel
theorem dX8_ask_6 : decode cX8_ask 6 = .ok (.invokestatic 177, 3) := by decide +kernel
theorem dX8_ask_9 : decode cX8_ask 9 = .ok (.ifCond .ne 6, 3) := by decide +kernel
theorem dX8_ask_12 : decode cX8_ask 12 = .ok (.ldc 180, 2) := by decide +kernel
theorem dX8_ask_14 : decode cX8_ask 14 = .ok (.ireturn, 1) := by decide +kernel
theorem dX8_ask_15 : decode cX8_ask 15 = .ok (.aload_n 0, 1) := by decide +kernel
theorem dX8_ask_16 : decode cX8_ask 16 = .ok (.aload_n 0, 1) := by decide +kernel
theorem dX8_ask_17 : decode cX8_ask 17 = .ok (.getfield 32, 3) := by decide +kernel
theorem dX8_ask_20 : decode cX8_ask 20 = .ok (.iconst 0, 1) := by decide +kernel
theorem dX8_ask_21 : decode cX8_ask 21 = .ok (.aload_n 0, 1) := by decide +kernel
theorem dX8_ask_22 : decode cX8_ask 22 = .ok (.getfield 104, 3) := by decide +kernel
theorem dX8_ask_25 : decode cX8_ask 25 = .ok (.invokevirtual 181, 3) := by decide +kernel
theorem dX8_ask_28 : decode cX8_ask 28 = .ok (.aload_n 0, 1) := by decide +kernel
theorem dX8_ask_29 : decode cX8_ask 29 = .ok (.getfield 104, 3) := by decide +kernel
theorem dX8_ask_32 : decode cX8_ask 32 = .ok (.istore_n 2, 1) := by decide +kernel
theorem dX8_ask_33 : decode cX8_ask 33 = .ok (.aload_n 0, 1) := by decide +kernel
theorem dX8_ask_34 : decode cX8_ask 34 = .ok (.iconst 0, 1) := by decide +kernel
theorem dX8_ask_35 : decode cX8_ask 35 = .ok (.putfield 104, 3) := by decide +kernel
theorem dX8_ask_38 : decode cX8_ask 38 = .ok (.aload_n 0, 1) := by decide +kernel
theorem dX8_ask_39 : decode cX8_ask 39 = .ok (.getfield 114, 3) := by decide +kernel
theorem dX8_ask_42 : decode cX8_ask 42 = .ok (.ifCond .lt 10, 3) := by decide +kernel
theorem dX8_ask_45 : decode cX8_ask 45 = .ok (.iconst (-1), 1) := by decide +kernel
theorem dX8_ask_46 : decode cX8_ask 46 = .ok (.aload_n 0, 1) := by decide +kernel
theorem dX8_ask_47 : decode cX8_ask 47 = .ok (.getfield 114, 3) := by decide +kernel
theorem dX8_ask_50 : decode cX8_ask 50 = .ok (.isub, 1) := by decide +kernel
theorem dX8_ask_51 : decode cX8_ask 51 = .ok (.ireturn, 1) := by decide +kernel
theorem dX8_ask_52 : decode cX8_ask 52 = .ok (.aload_n 0, 1) := by decide +kernel
theorem dX8_ask_53 : decode cX8_ask 53 = .ok (.aload_n 0, 1) := by decide +kernel
theorem dX8_ask_54 : decode cX8_ask 54 = .ok (.invokevirtual 184, 3) := by decide +kernel
theorem dX8_ask_57 : decode cX8_ask 57 = .ok (.putfield 188, 3) := by decide +kernel
theorem dX8_ask_60 : decode cX8_ask 60 = .ok (.aload_n 0, 1) := by decide +kernel
theorem dX8_ask_61 : decode cX8_ask 61 = .ok (.getfield 188, 3) := by decide +kernel
theorem dX8_ask_64 : decode cX8_ask 64 = .ok (.aload_n 0, 1) := by decide +kernel
theorem dX8_ask_65 : decode cX8_ask 65 = .ok (.getfield 28, 3) := by decide +kernel
theorem dX8_ask_68 : decode cX8_ask 68 = .ok (.lcmp, 1) := by decide +kernel
theorem dX8_ask_69 : decode cX8_ask 69 = .ok (.ifCond .le 6, 3) := by decide +kernel
theorem dX8_ask_72 : decode cX8_ask 72 = .ok (.ldc 191, 2) := by decide +kernel
theorem dX8_ask_74 : decode cX8_ask 74 = .ok (.ireturn, 1) := by decide +kernel
theorem dX8_ask_75 : decode cX8_ask 75 = .ok (.aload_n 0, 1) := by decide +kernel
theorem dX8_ask_76 : decode cX8_ask 76 = .ok (.aload_n 0, 1) := by decide +kernel
theorem dX8_ask_77 : decode cX8_ask 77 = .ok (.getfield 32, 3) := by decide +kernel
theorem dX8_ask_80 : decode cX8_ask 80 = .ok (.iconst 0, 1) := by decide +kernel
theorem dX8_ask_81 : decode cX8_ask 81 = .ok (.iload_n 2, 1) := by decide +kernel
theorem dX8_ask_82 : decode cX8_ask 82 = .ok (.iload_n 1, 1) := by decide +kernel
theorem dX8_ask_83 : decode cX8_ask 83 = .ok (.aload_n 0, 1) := by decide +kernel
theorem dX8_ask_84 : decode cX8_ask 84 = .ok (.getfield 81, 3) := by decide +kernel
theorem dX8_ask_87 : decode cX8_ask 87 = .ok (.invokevirtual 192, 3) := by decide +kernel
theorem dX8_ask_90 : decode cX8_ask 90 = .ok (.aload_n 0, 1) := by decide +kernel
theorem dX8_ask_91 : decode cX8_ask 91 = .ok (.iconst 1, 1) := by decide +kernel
theorem dX8_ask_92 : decode cX8_ask 92 = .ok (.putfield 196, 3) := by decide +kernel
theorem dX8_ask_95 : decode cX8_ask 95 = .ok (.aload_n 0, 1) := by decide +kernel
theorem dX8_ask_96 : decode cX8_ask 96 = .ok (.iload_n 1, 1) := by decide +kernel
theorem dX8_ask_97 : decode cX8_ask 97 = .ok (.putfield 199, 3) := by decide +kernel
theorem dX8_ask_100 : decode cX8_ask 100 = .ok (.aload_n 0, 1) := by decide +kernel
theorem dX8_ask_101 : decode cX8_ask 101 = .ok (.iload_n 2, 1) := by decide +kernel
theorem dX8_ask_102 : decode cX8_ask 102 = .ok (.putfield 202, 3) := by decide +kernel
theorem dX8_ask_105 : decode cX8_ask 105 = .ok (.iconst 0, 1) := by decide +kernel
theorem dX8_ask_106 : decode cX8_ask 106 = .ok (.istore_n 3, 1) := by decide +kernel
theorem dX8_ask_107 : decode cX8_ask 107 = .ok (.iload_n 3, 1) := by decide +kernel
theorem dX8_ask_108 : decode cX8_ask 108 = .ok (.iload_n 2, 1) := by decide +kernel
theorem dX8_ask_109 : decode cX8_ask 109 = .ok (.if_icmp .ge 21, 3) := by decide +kernel
theorem dX8_ask_112 : decode cX8_ask 112 = .ok (.aload_n 0, 1) := by decide +kernel
theorem dX8_ask_113 : decode cX8_ask 113 = .ok (.getfield 35, 3) := by decide +kernel
theorem dX8_ask_116 : decode cX8_ask 116 = .ok (.iload_n 3, 1) := by decide +kernel
theorem dX8_ask_117 : decode cX8_ask 117 = .ok (.aload_n 0, 1) := by decide +kernel
theorem dX8_ask_118 : decode cX8_ask 118 = .ok (.getfield 32, 3) := by decide +kernel
theorem dX8_ask_121 : decode cX8_ask 121 = .ok (.iload_n 3, 1) := by decide +kernel
theorem dX8_ask_122 : decode cX8_ask 122 = .ok (.iaload, 1) := by decide +kernel
theorem dX8_ask_123 : decode cX8_ask 123 = .ok (.iastore, 1) := by decide +kernel
theorem dX8_ask_124 : decode cX8_ask 124 = .ok (.iinc 3 1, 3) := by decide +kernel
theorem dX8_ask_127 : decode cX8_ask 127 = .ok (.goto (-20), 3) := by decide +kernel
theorem dX8_ask_130 : decode cX8_ask 130 = .ok (.aload_n 0, 1) := by decide +kernel
theorem dX8_ask_131 : decode cX8_ask 131 = .ok (.aload_n 0, 1) := by decide +kernel
theorem dX8_ask_132 : decode cX8_ask 132 = .ok (.getfield 158, 3) := by decide +kernel
theorem dX8_ask_135 : decode cX8_ask 135 = .ok (.putfield 205, 3) := by decide +kernel
theorem dX8_ask_138 : decode cX8_ask 138 = .ok (.aload_n 0, 1) := by decide +kernel
theorem dX8_ask_139 : decode cX8_ask 139 = .ok (.aload_n 0, 1) := by decide +kernel
theorem dX8_ask_140 : decode cX8_ask 140 = .ok (.getfield 161, 3) := by decide +kernel
theorem dX8_ask_143 : decode cX8_ask 143 = .ok (.putfield 208, 3) := by decide +kernel
theorem dX8_ask_146 : decode cX8_ask 146 = .ok (.iconst 0, 1) := by decide +kernel
theorem dX8_ask_147 : decode cX8_ask 147 = .ok (.istore_n 3, 1) := by decide +kernel
theorem dX8_ask_148 : decode cX8_ask 148 = .ok (.iload_n 3, 1) := by decide +kernel
theorem dX8_ask_149 : decode cX8_ask 149 = .ok (.aload_n 0, 1) := by decide +kernel
theorem dX8_ask_150 : decode cX8_ask 150 = .ok (.getfield 158, 3) := by decide +kernel
theorem dX8_ask_153 : decode cX8_ask 153 = .ok (.if_icmp .ge 33, 3) := by decide +kernel
theorem dX8_ask_156 : decode cX8_ask 156 = .ok (.aload_n 0, 1) := by decide +kernel
theorem dX8_ask_157 : decode cX8_ask 157 = .ok (.getfield 66, 3) := by decide +kernel
theorem dX8_ask_160 : decode cX8_ask 160 = .ok (.iload_n 3, 1) := by decide +kernel
theorem dX8_ask_161 : decode cX8_ask 161 = .ok (.aload_n 0, 1) := by decide +kernel
theorem dX8_ask_162 : decode cX8_ask 162 = .ok (.getfield 72, 3) := by decide +kernel
theorem dX8_ask_165 : decode cX8_ask 165 = .ok (.iload_n 3, 1) := by decide +kernel
theorem dX8_ask_166 : decode cX8_ask 166 = .ok (.iaload, 1) := by decide +kernel
theorem dX8_ask_167 : decode cX8_ask 167 = .ok (.iastore, 1) := by decide +kernel
theorem dX8_ask_168 : decode cX8_ask 168 = .ok (.aload_n 0, 1) := by decide +kernel
theorem dX8_ask_169 : decode cX8_ask 169 = .ok (.getfield 69, 3) := by decide +kernel
theorem dX8_ask_172 : decode cX8_ask 172 = .ok (.iload_n 3, 1) := by decide +kernel
theorem dX8_ask_173 : decode cX8_ask 173 = .ok (.aload_n 0, 1) := by decide +kernel
theorem dX8_ask_174 : decode cX8_ask 174 = .ok (.getfield 75, 3) := by decide +kernel
theorem dX8_ask_177 : decode cX8_ask 177 = .ok (.iload_n 3, 1) := by decide +kernel
theorem dX8_ask_178 : decode cX8_ask 178 = .ok (.iaload, 1) := by decide +kernel
theorem dX8_ask_179 : decode cX8_ask 179 = .ok (.iastore, 1) := by decide +kernel
theorem dX8_ask_180 : decode cX8_ask 180 = .ok (.iinc 3 1, 3) := by decide +kernel
theorem dX8_ask_183 : decode cX8_ask 183 = .ok (.goto (-35), 3) := by decide +kernel
theorem dX8_ask_186 : decode cX8_ask 186 = .ok (.aload_n 0, 1) := by decide +kernel
theorem dX8_ask_187 : decode cX8_ask 187 = .ok (.getfield 205, 3) := by decide +kernel
theorem dX8_ask_190 : decode cX8_ask 190 = .ok (.ireturn, 1) := by decide +kernel
theorem dX8_found_0 : decode cX8_found 0 = .ok (.aload_n 0, 1) := by decide +kernel
theorem dX8_found_1 : decode cX8_found 1 = .ok (.iconst 0, 1) := by decide +kernel
theorem dX8_found_2 : decode cX8_found 2 = .ok (.putfield 85, 3) := by decide +kernel
theorem dX8_found_5 : decode cX8_found 5 = .ok (.iload_n 1, 1) := by decide +kernel
theorem dX8_found_6 : decode cX8_found 6 = .ok (.i2l, 1) := by decide +kernel
theorem dX8_found_7 : decode cX8_found 7 = .ok (.lconst 0, 1) := by decide +kernel
theorem dX8_found_8 : decode cX8_found 8 = .ok (.aload_n 0, 1) := by decide +kernel
theorem dX8_found_9 : decode cX8_found 9 = .ok (.getfield 205, 3) := by decide +kernel
theorem dX8_found_12 : decode cX8_found 12 = .ok (.iconst 1, 1) := by decide +kernel
theorem dX8_found_13 : decode cX8_found 13 = .ok (.isub, 1) := by decide +kernel
theorem dX8_found_14 : decode cX8_found 14 = .ok (.i2l, 1) := by decide +kernel
theorem dX8_found_15 : decode cX8_found 15 = .ok (.invokestatic 90, 3) := by decide +kernel
theorem dX8_found_18 : decode cX8_found 18 = .ok (.ifCond .eq 26, 3) := by decide +kernel
theorem dX8_found_21 : decode cX8_found 21 = .ok (.iload_n 2, 1) := by decide +kernel
theorem dX8_found_22 : decode cX8_found 22 = .ok (.i2l, 1) := by decide +kernel
theorem dX8_found_23 : decode cX8_found 23 = .ok (.lconst 0, 1) := by decide +kernel
theorem dX8_found_24 : decode cX8_found 24 = .ok (.aload_n 0, 1) := by decide +kernel
theorem dX8_found_25 : decode cX8_found 25 = .ok (.getfield 208, 3) := by decide +kernel
theorem dX8_found_28 : decode cX8_found 28 = .ok (.ifCond .eq 7, 3) := by decide +kernel
theorem dX8_found_31 : decode cX8_found 31 = .ok (.lconst 1, 1) := by decide +kernel
theorem dX8_found_32 : decode cX8_found 32 = .ok (.goto 6, 3) := by decide +kernel
theorem dX8_found_35 : decode cX8_found 35 = .ok (.ldc2_w 211, 3) := by decide +kernel
theorem dX8_found_38 : decode cX8_found 38 = .ok (.invokestatic 90, 3) := by decide +kernel
theorem dX8_found_41 : decode cX8_found 41 = .ok (.ifCond .ne 7, 3) := by decide +kernel
theorem dX8_found_44 : decode cX8_found 44 = .ok (.ldc2_w 213, 3) := by decide +kernel
theorem dX8_found_47 : decode cX8_found 47 = .ok (.lreturn, 1) := by decide +kernel
theorem dX8_found_48 : decode cX8_found 48 = .ok (.aload_n 0, 1) := by decide +kernel
theorem dX8_found_49 : decode cX8_found 49 = .ok (.getfield 208, 3) := by decide +kernel
theorem dX8_found_52 : decode cX8_found 52 = .ok (.ifCond .eq 25, 3) := by decide +kernel
theorem dX8_found_55 : decode cX8_found 55 = .ok (.iload_n 2, 1) := by decide +kernel
theorem dX8_found_56 : decode cX8_found 56 = .ok (.ifCond .ne 13, 3) := by decide +kernel
theorem dX8_found_59 : decode cX8_found 59 = .ok (.aload_n 0, 1) := by decide +kernel
theorem dX8_found_60 : decode cX8_found 60 = .ok (.getfield 66, 3) := by decide +kernel
theorem dX8_found_63 : decode cX8_found 63 = .ok (.iload_n 1, 1) := by decide +kernel
theorem dX8_found_64 : decode cX8_found 64 = .ok (.iaload, 1) := by decide +kernel
theorem dX8_found_65 : decode cX8_found 65 = .ok (.i2l, 1) := by decide +kernel
theorem dX8_found_66 : decode cX8_found 66 = .ok (.goto 10, 3) := by decide +kernel
theorem dX8_found_69 : decode cX8_found 69 = .ok (.aload_n 0, 1) := by decide +kernel
theorem dX8_found_70 : decode cX8_found 70 = .ok (.getfield 69, 3) := by decide +kernel
theorem dX8_found_73 : decode cX8_found 73 = .ok (.iload_n 1, 1) := by decide +kernel
theorem dX8_found_74 : decode cX8_found 74 = .ok (.iaload, 1) := by decide +kernel
theorem dX8_found_75 : decode cX8_found 75 = .ok (.i2l, 1) := by decide +kernel
theorem dX8_found_76 : decode cX8_found 76 = .ok (.lreturn, 1) := by decide +kernel
theorem dX8_found_77 : decode cX8_found 77 = .ok (.iload_n 2, 1) := by decide +kernel
theorem dX8_found_78 : decode cX8_found 78 = .ok (.ifCond .ne 13, 3) := by decide +kernel
theorem dX8_found_81 : decode cX8_found 81 = .ok (.aload_n 0, 1) := by decide +kernel
theorem dX8_found_82 : decode cX8_found 82 = .ok (.getfield 66, 3) := by decide +kernel
theorem dX8_found_85 : decode cX8_found 85 = .ok (.iload_n 1, 1) := by decide +kernel
theorem dX8_found_86 : decode cX8_found 86 = .ok (.iaload, 1) := by decide +kernel
theorem dX8_found_87 : decode cX8_found 87 = .ok (.i2l, 1) := by decide +kernel
theorem dX8_found_88 : decode cX8_found 88 = .ok (.goto 34, 3) := by decide +kernel
theorem dX8_found_91 : decode cX8_found 91 = .ok (.aload_n 0, 1) := by decide +kernel
theorem dX8_found_92 : decode cX8_found 92 = .ok (.getfield 22, 3) := by decide +kernel
theorem dX8_found_95 : decode cX8_found 95 = .ok (.iload_n 2, 1) := by decide +kernel
theorem dX8_found_96 : decode cX8_found 96 = .ok (.iconst 1, 1) := by decide +kernel
theorem dX8_found_97 : decode cX8_found 97 = .ok (.isub, 1) := by decide +kernel
theorem dX8_found_98 : decode cX8_found 98 = .ok (.baload, 1) := by decide +kernel
theorem dX8_found_99 : decode cX8_found 99 = .ok (.ifCond .eq 9, 3) := by decide +kernel
theorem dX8_found_102 : decode cX8_found 102 = .ok (.ldc2_w 213, 3) := by decide +kernel
theorem dX8_found_105 : decode cX8_found 105 = .ok (.goto 17, 3) := by decide +kernel
theorem dX8_found_108 : decode cX8_found 108 = .ok (.aload_n 0, 1) := by decide +kernel
theorem dX8_found_109 : decode cX8_found 109 = .ok (.aload_n 0, 1) := by decide +kernel
theorem dX8_found_110 : decode cX8_found 110 = .ok (.getfield 66, 3) := by decide +kernel
theorem dX8_found_113 : decode cX8_found 113 = .ok (.iload_n 1, 1) := by decide +kernel
theorem dX8_found_114 : decode cX8_found 114 = .ok (.iaload, 1) := by decide +kernel
theorem dX8_found_115 : decode cX8_found 115 = .ok (.iload_n 2, 1) := by decide +kernel
theorem dX8_found_116 : decode cX8_found 116 = .ok (.iconst 1, 1) := by decide +kernel
theorem dX8_found_117 : decode cX8_found 117 = .ok (.isub, 1) := by decide +kernel
theorem dX8_found_118 : decode cX8_found 118 = .ok (.invokevirtual 151, 3) := by decide +kernel
theorem dX8_found_121 : decode cX8_found 121 = .ok (.i2l, 1) := by decide +kernel
theorem dX8_found_122 : decode cX8_found 122 = .ok (.lreturn, 1) := by decide +kernel
theorem dX8_page_0 : decode cX8_page 0 = .ok (.aload_n 0, 1) := by decide +kernel
theorem dX8_page_1 : decode cX8_page 1 = .ok (.iconst 0, 1) := by decide +kernel
theorem dX8_page_2 : decode cX8_page 2 = .ok (.putfield 85, 3) := by decide +kernel
theorem dX8_page_5 : decode cX8_page 5 = .ok (.iload_n 1, 1) := by decide +kernel
theorem dX8_page_6 : decode cX8_page 6 = .ok (.ifCond .lt 29, 3) := by decide +kernel
theorem dX8_page_9 : decode cX8_page 9 = .ok (.lload_n 2, 1) := by decide +kernel
theorem dX8_page_10 : decode cX8_page 10 = .ok (.lconst 0, 1) := by decide +kernel
theorem dX8_page_11 : decode cX8_page 11 = .ok (.aload_n 0, 1) := by decide +kernel
theorem dX8_page_12 : decode cX8_page 12 = .ok (.getfield 81, 3) := by decide +kernel
theorem dX8_page_15 : decode cX8_page 15 = .ok (.i2l, 1) := by decide +kernel
theorem dX8_page_16 : decode cX8_page 16 = .ok (.invokestatic 90, 3) := by decide +kernel
theorem dX8_page_19 : decode cX8_page 19 = .ok (.ifCond .eq 16, 3) := by decide +kernel
theorem dX8_page_22 : decode cX8_page 22 = .ok (.iload 4, 2) := by decide +kernel
theorem dX8_page_24 : decode cX8_page 24 = .ok (.i2l, 1) := by decide +kernel
theorem dX8_page_25 : decode cX8_page 25 = .ok (.lconst 0, 1) := by decide +kernel
theorem dX8_page_26 : decode cX8_page 26 = .ok (.ldc2_w 215, 3) := by decide +kernel
theorem dX8_page_29 : decode cX8_page 29 = .ok (.invokestatic 90, 3) := by decide +kernel
theorem dX8_page_32 : decode cX8_page 32 = .ok (.ifCond .ne 6, 3) := by decide +kernel
theorem dX8_page_35 : decode cX8_page 35 = .ok (.ldc 102, 2) := by decide +kernel
theorem dX8_page_37 : decode cX8_page 37 = .ok (.ireturn, 1) := by decide +kernel
theorem dX8_page_38 : decode cX8_page 38 = .ok (.aload_n 0, 1) := by decide +kernel
theorem dX8_page_39 : decode cX8_page 39 = .ok (.getfield 196, 3) := by decide +kernel
theorem dX8_page_42 : decode cX8_page 42 = .ok (.ifCond .ne 5, 3) := by decide +kernel
theorem dX8_page_45 : decode cX8_page 45 = .ok (.iconst (-1), 1) := by decide +kernel
theorem dX8_page_46 : decode cX8_page 46 = .ok (.ireturn, 1) := by decide +kernel
theorem dX8_page_47 : decode cX8_page 47 = .ok (.aload_n 0, 1) := by decide +kernel
theorem dX8_page_48 : decode cX8_page 48 = .ok (.getfield 22, 3) := by decide +kernel
theorem dX8_page_51 : decode cX8_page 51 = .ok (.iconst 0, 1) := by decide +kernel
theorem dX8_page_52 : decode cX8_page 52 = .ok (.baload, 1) := by decide +kernel
theorem dX8_page_53 : decode cX8_page 53 = .ok (.istore 5, 2) := by decide +kernel
theorem dX8_page_55 : decode cX8_page 55 = .ok (.aload_n 0, 1) := by decide +kernel
theorem dX8_page_56 : decode cX8_page 56 = .ok (.getfield 22, 3) := by decide +kernel
theorem dX8_page_59 : decode cX8_page 59 = .ok (.iconst 1, 1) := by decide +kernel
theorem dX8_page_60 : decode cX8_page 60 = .ok (.baload, 1) := by decide +kernel
theorem dX8_page_61 : decode cX8_page 61 = .ok (.istore 6, 2) := by decide +kernel
theorem dX8_page_63 : decode cX8_page 63 = .ok (.aload_n 0, 1) := by decide +kernel
theorem dX8_page_64 : decode cX8_page 64 = .ok (.getfield 22, 3) := by decide +kernel
theorem dX8_page_67 : decode cX8_page 67 = .ok (.iconst 2, 1) := by decide +kernel
theorem dX8_page_68 : decode cX8_page 68 = .ok (.baload, 1) := by decide +kernel
theorem dX8_page_69 : decode cX8_page 69 = .ok (.istore 7, 2) := by decide +kernel
theorem dX8_page_71 : decode cX8_page 71 = .ok (.aload_n 0, 1) := by decide +kernel
theorem dX8_page_72 : decode cX8_page 72 = .ok (.getfield 22, 3) := by decide +kernel
theorem dX8_page_75 : decode cX8_page 75 = .ok (.iconst 3, 1) := by decide +kernel
theorem dX8_page_76 : decode cX8_page 76 = .ok (.baload, 1) := by decide +kernel
theorem dX8_page_77 : decode cX8_page 77 = .ok (.istore 8, 2) := by decide +kernel
theorem dX8_page_79 : decode cX8_page 79 = .ok (.aload_n 0, 1) := by decide +kernel
theorem dX8_page_80 : decode cX8_page 80 = .ok (.getfield 22, 3) := by decide +kernel
theorem dX8_page_83 : decode cX8_page 83 = .ok (.iconst 4, 1) := by decide +kernel
theorem dX8_page_84 : decode cX8_page 84 = .ok (.baload, 1) := by decide +kernel
theorem dX8_page_85 : decode cX8_page 85 = .ok (.istore 9, 2) := by decide +kernel
theorem dX8_page_87 : decode cX8_page 87 = .ok (.iconst 0, 1) := by decide +kernel
theorem dX8_page_88 : decode cX8_page 88 = .ok (.istore 10, 2) := by decide +kernel
theorem dX8_page_90 : decode cX8_page 90 = .ok (.iload 10, 2) := by decide +kernel
theorem dX8_page_92 : decode cX8_page 92 = .ok (.iconst 5, 1) := by decide +kernel
theorem dX8_page_93 : decode cX8_page 93 = .ok (.if_icmp .ge 17, 3) := by decide +kernel
theorem dX8_page_96 : decode cX8_page 96 = .ok (.aload_n 0, 1) := by decide +kernel
theorem dX8_page_97 : decode cX8_page 97 = .ok (.getfield 22, 3) := by decide +kernel
theorem dX8_page_100 : decode cX8_page 100 = .ok (.iload 10, 2) := by decide +kernel
theorem dX8_page_102 : decode cX8_page 102 = .ok (.iconst 0, 1) := by decide +kernel
theorem dX8_page_103 : decode cX8_page 103 = .ok (.bastore, 1) := by decide +kernel
theorem dX8_page_104 : decode cX8_page 104 = .ok (.iinc 10 1, 3) := by decide +kernel
theorem dX8_page_107 : decode cX8_page 107 = .ok (.goto (-17), 3) := by decide +kernel
theorem dX8_page_110 : decode cX8_page 110 = .ok (.aload_n 0, 1) := by decide +kernel
theorem dX8_page_111 : decode cX8_page 111 = .ok (.aload_n 0, 1) := by decide +kernel
theorem dX8_page_112 : decode cX8_page 112 = .ok (.getfield 35, 3) := by decide +kernel
theorem dX8_page_115 : decode cX8_page 115 = .ok (.iconst 0, 1) := by decide +kernel
theorem dX8_page_116 : decode cX8_page 116 = .ok (.aload_n 0, 1) := by decide +kernel
theorem dX8_page_117 : decode cX8_page 117 = .ok (.getfield 202, 3) := by decide +kernel
theorem dX8_page_120 : decode cX8_page 120 = .ok (.invokevirtual 181, 3) := by decide +kernel
theorem dX8_page_123 : decode cX8_page 123 = .ok (.aload_n 0, 1) := by decide +kernel
theorem dX8_page_124 : decode cX8_page 124 = .ok (.getfield 22, 3) := by decide +kernel
theorem dX8_page_127 : decode cX8_page 127 = .ok (.iconst 0, 1) := by decide +kernel
theorem dX8_page_128 : decode cX8_page 128 = .ok (.iload 5, 2) := by decide +kernel
theorem dX8_page_130 : decode cX8_page 130 = .ok (.bastore, 1) := by decide +kernel
theorem dX8_page_131 : decode cX8_page 131 = .ok (.aload_n 0, 1) := by decide +kernel
theorem dX8_page_132 : decode cX8_page 132 = .ok (.getfield 22, 3) := by decide +kernel
theorem dX8_page_135 : decode cX8_page 135 = .ok (.iconst 1, 1) := by decide +kernel
theorem dX8_page_136 : decode cX8_page 136 = .ok (.iload 6, 2) := by decide +kernel
theorem dX8_page_138 : decode cX8_page 138 = .ok (.bastore, 1) := by decide +kernel
theorem dX8_page_139 : decode cX8_page 139 = .ok (.aload_n 0, 1) := by decide +kernel
theorem dX8_page_140 : decode cX8_page 140 = .ok (.getfield 22, 3) := by decide +kernel
theorem dX8_page_143 : decode cX8_page 143 = .ok (.iconst 2, 1) := by decide +kernel
theorem dX8_page_144 : decode cX8_page 144 = .ok (.iload 7, 2) := by decide +kernel
theorem dX8_page_146 : decode cX8_page 146 = .ok (.bastore, 1) := by decide +kernel
theorem dX8_page_147 : decode cX8_page 147 = .ok (.aload_n 0, 1) := by decide +kernel
theorem dX8_page_148 : decode cX8_page 148 = .ok (.getfield 22, 3) := by decide +kernel
theorem dX8_page_151 : decode cX8_page 151 = .ok (.iconst 3, 1) := by decide +kernel
theorem dX8_page_152 : decode cX8_page 152 = .ok (.iload 8, 2) := by decide +kernel
theorem dX8_page_154 : decode cX8_page 154 = .ok (.bastore, 1) := by decide +kernel
theorem dX8_page_155 : decode cX8_page 155 = .ok (.aload_n 0, 1) := by decide +kernel
theorem dX8_page_156 : decode cX8_page 156 = .ok (.getfield 22, 3) := by decide +kernel
theorem dX8_page_159 : decode cX8_page 159 = .ok (.iconst 4, 1) := by decide +kernel
theorem dX8_page_160 : decode cX8_page 160 = .ok (.iload 9, 2) := by decide +kernel
theorem dX8_page_162 : decode cX8_page 162 = .ok (.bastore, 1) := by decide +kernel
theorem dX8_page_163 : decode cX8_page 163 = .ok (.aload_n 0, 1) := by decide +kernel
theorem dX8_page_164 : decode cX8_page 164 = .ok (.aload_n 0, 1) := by decide +kernel
theorem dX8_page_165 : decode cX8_page 165 = .ok (.getfield 35, 3) := by decide +kernel
theorem dX8_page_168 : decode cX8_page 168 = .ok (.iconst 0, 1) := by decide +kernel
theorem dX8_page_169 : decode cX8_page 169 = .ok (.aload_n 0, 1) := by decide +kernel
theorem dX8_page_170 : decode cX8_page 170 = .ok (.getfield 202, 3) := by decide +kernel
theorem dX8_page_173 : decode cX8_page 173 = .ok (.aload_n 0, 1) := by decide +kernel
theorem dX8_page_174 : decode cX8_page 174 = .ok (.getfield 199, 3) := by decide +kernel
theorem dX8_page_177 : decode cX8_page 177 = .ok (.lload_n 2, 1) := by decide +kernel
theorem dX8_page_178 : decode cX8_page 178 = .ok (.l2i, 1) := by decide +kernel
theorem dX8_page_179 : decode cX8_page 179 = .ok (.invokevirtual 192, 3) := by decide +kernel
theorem dX8_page_182 : decode cX8_page 182 = .ok (.ldc2_w 217, 3) := by decide +kernel
theorem dX8_page_185 : decode cX8_page 185 = .ok (.iload_n 1, 1) := by decide +kernel
theorem dX8_page_186 : decode cX8_page 186 = .ok (.i2l, 1) := by decide +kernel
theorem dX8_page_187 : decode cX8_page 187 = .ok (.lmul, 1) := by decide +kernel
theorem dX8_page_188 : decode cX8_page 188 = .ok (.iload 4, 2) := by decide +kernel
theorem dX8_page_190 : decode cX8_page 190 = .ok (.i2l, 1) := by decide +kernel
theorem dX8_page_191 : decode cX8_page 191 = .ok (.ladd, 1) := by decide +kernel
theorem dX8_page_192 : decode cX8_page 192 = .ok (.lstore 10, 2) := by decide +kernel
theorem dX8_page_194 : decode cX8_page 194 = .ok (.lload 10, 2) := by decide +kernel
theorem dX8_page_196 : decode cX8_page 196 = .ok (.aload_n 0, 1) := by decide +kernel
theorem dX8_page_197 : decode cX8_page 197 = .ok (.getfield 158, 3) := by decide +kernel
theorem dX8_page_200 : decode cX8_page 200 = .ok (.i2l, 1) := by decide +kernel
theorem dX8_page_201 : decode cX8_page 201 = .ok (.lcmp, 1) := by decide +kernel
theorem dX8_page_202 : decode cX8_page 202 = .ok (.ifCond .ge 14, 3) := by decide +kernel
theorem dX8_page_205 : decode cX8_page 205 = .ok (.aload_n 0, 1) := by decide +kernel
theorem dX8_page_206 : decode cX8_page 206 = .ok (.getfield 72, 3) := by decide +kernel
theorem dX8_page_209 : decode cX8_page 209 = .ok (.lload 10, 2) := by decide +kernel
theorem dX8_page_211 : decode cX8_page 211 = .ok (.l2i, 1) := by decide +kernel
theorem dX8_page_212 : decode cX8_page 212 = .ok (.iaload, 1) := by decide +kernel
theorem dX8_page_213 : decode cX8_page 213 = .ok (.goto 4, 3) := by decide +kernel
theorem dX8_page_216 : decode cX8_page 216 = .ok (.iconst (-1), 1) := by decide +kernel
theorem dX8_page_217 : decode cX8_page 217 = .ok (.ireturn, 1) := by decide +kernel
theorem dX8_right_0 : decode cX8_right 0 = .ok (.aload_n 0, 1) := by decide +kernel
theorem dX8_right_1 : decode cX8_right 1 = .ok (.iconst 0, 1) := by decide +kernel
theorem dX8_right_2 : decode cX8_right 2 = .ok (.putfield 85, 3) := by decide +kernel
theorem dX8_right_5 : decode cX8_right 5 = .ok (.iload_n 1, 1) := by decide +kernel
theorem dX8_right_6 : decode cX8_right 6 = .ok (.invokestatic 177, 3) := by decide +kernel
theorem dX8_right_9 : decode cX8_right 9 = .ok (.ifCond .ne 6, 3) := by decide +kernel
theorem dX8_right_12 : decode cX8_right 12 = .ok (.ldc 180, 2) := by decide +kernel
theorem dX8_right_14 : decode cX8_right 14 = .ok (.ireturn, 1) := by decide +kernel
theorem dX8_right_15 : decode cX8_right 15 = .ok (.iload_n 2, 1) := by decide +kernel
theorem dX8_right_16 : decode cX8_right 16 = .ok (.i2l, 1) := by decide +kernel
theorem dX8_right_17 : decode cX8_right 17 = .ok (.ldc2_w 213, 3) := by decide +kernel
theorem dX8_right_20 : decode cX8_right 20 = .ok (.ldc2_w 100, 3) := by decide +kernel
theorem dX8_right_23 : decode cX8_right 23 = .ok (.invokestatic 90, 3) := by decide +kernel
theorem dX8_right_26 : decode cX8_right 26 = .ok (.ifCond .eq 17, 3) := by decide +kernel
theorem dX8_right_29 : decode cX8_right 29 = .ok (.iload_n 3, 1) := by decide +kernel
theorem dX8_right_30 : decode cX8_right 30 = .ok (.i2l, 1) := by decide +kernel
theorem dX8_right_31 : decode cX8_right 31 = .ok (.ldc2_w 213, 3) := by decide +kernel
theorem dX8_right_34 : decode cX8_right 34 = .ok (.ldc2_w 96, 3) := by decide +kernel
theorem dX8_right_37 : decode cX8_right 37 = .ok (.invokestatic 90, 3) := by decide +kernel
theorem dX8_right_40 : decode cX8_right 40 = .ok (.ifCond .ne 6, 3) := by decide +kernel
theorem dX8_right_43 : decode cX8_right 43 = .ok (.ldc 102, 2) := by decide +kernel
theorem dX8_right_45 : decode cX8_right 45 = .ok (.ireturn, 1) := by decide +kernel
theorem dX8_right_46 : decode cX8_right 46 = .ok (.iconst 0, 1) := by decide +kernel
theorem dX8_right_47 : decode cX8_right 47 = .ok (.istore 4, 2) := by decide +kernel
theorem dX8_right_49 : decode cX8_right 49 = .ok (.iconst 0, 1) := by decide +kernel
theorem dX8_right_50 : decode cX8_right 50 = .ok (.istore 5, 2) := by decide +kernel
theorem dX8_right_52 : decode cX8_right 52 = .ok (.iconst 0, 1) := by decide +kernel
theorem dX8_right_53 : decode cX8_right 53 = .ok (.istore 6, 2) := by decide +kernel
theorem dX8_right_55 : decode cX8_right 55 = .ok (.iload 6, 2) := by decide +kernel
theorem dX8_right_57 : decode cX8_right 57 = .ok (.aload_n 0, 1) := by decide +kernel
theorem dX8_right_58 : decode cX8_right 58 = .ok (.getfield 155, 3) := by decide +kernel
theorem dX8_right_61 : decode cX8_right 61 = .ok (.if_icmp .ge 57, 3) := by decide +kernel
theorem dX8_right_64 : decode cX8_right 64 = .ok (.aload_n 0, 1) := by decide +kernel
theorem dX8_right_65 : decode cX8_right 65 = .ok (.getfield 13, 3) := by decide +kernel
theorem dX8_right_68 : decode cX8_right 68 = .ok (.iload 6, 2) := by decide +kernel
theorem dX8_right_70 : decode cX8_right 70 = .ok (.iaload, 1) := by decide +kernel
theorem dX8_right_71 : decode cX8_right 71 = .ok (.iload_n 1, 1) := by decide +kernel
theorem dX8_right_72 : decode cX8_right 72 = .ok (.if_icmp .ne 40, 3) := by decide +kernel
theorem dX8_right_75 : decode cX8_right 75 = .ok (.iinc 4 1, 3) := by decide +kernel
theorem dX8_right_78 : decode cX8_right 78 = .ok (.iload 5, 2) := by decide +kernel
theorem dX8_right_80 : decode cX8_right 80 = .ok (.ifCond .ne 25, 3) := by decide +kernel
theorem dX8_right_83 : decode cX8_right 83 = .ok (.aload_n 0, 1) := by decide +kernel
theorem dX8_right_84 : decode cX8_right 84 = .ok (.getfield 16, 3) := by decide +kernel
theorem dX8_right_87 : decode cX8_right 87 = .ok (.iload 6, 2) := by decide +kernel
theorem dX8_right_89 : decode cX8_right 89 = .ok (.iaload, 1) := by decide +kernel
theorem dX8_right_90 : decode cX8_right 90 = .ok (.iload_n 2, 1) := by decide +kernel
theorem dX8_right_91 : decode cX8_right 91 = .ok (.if_icmp .ne 18, 3) := by decide +kernel
theorem dX8_right_94 : decode cX8_right 94 = .ok (.aload_n 0, 1) := by decide +kernel
theorem dX8_right_95 : decode cX8_right 95 = .ok (.getfield 19, 3) := by decide +kernel
theorem dX8_right_98 : decode cX8_right 98 = .ok (.iload 6, 2) := by decide +kernel
theorem dX8_right_100 : decode cX8_right 100 = .ok (.iaload, 1) := by decide +kernel
theorem dX8_right_101 : decode cX8_right 101 = .ok (.iload_n 3, 1) := by decide +kernel
theorem dX8_right_102 : decode cX8_right 102 = .ok (.if_icmp .ne 7, 3) := by decide +kernel
theorem dX8_right_105 : decode cX8_right 105 = .ok (.iconst 1, 1) := by decide +kernel
theorem dX8_right_106 : decode cX8_right 106 = .ok (.goto 4, 3) := by decide +kernel
theorem dX8_right_109 : decode cX8_right 109 = .ok (.iconst 0, 1) := by decide +kernel
theorem dX8_right_110 : decode cX8_right 110 = .ok (.istore 5, 2) := by decide +kernel
theorem dX8_right_112 : decode cX8_right 112 = .ok (.iinc 6 1, 3) := by decide +kernel
theorem dX8_right_115 : decode cX8_right 115 = .ok (.goto (-60), 3) := by decide +kernel
theorem dX8_right_118 : decode cX8_right 118 = .ok (.iload 5, 2) := by decide +kernel
theorem dX8_right_120 : decode cX8_right 120 = .ok (.ifCond .eq 6, 3) := by decide +kernel
theorem dX8_right_123 : decode cX8_right 123 = .ok (.iload 4, 2) := by decide +kernel
theorem dX8_right_125 : decode cX8_right 125 = .ok (.ireturn, 1) := by decide +kernel
theorem dX8_right_126 : decode cX8_right 126 = .ok (.aload_n 0, 1) := by decide +kernel
theorem dX8_right_127 : decode cX8_right 127 = .ok (.getfield 155, 3) := by decide +kernel
theorem dX8_right_130 : decode cX8_right 130 = .ok (.bipush 100, 2) := by decide +kernel
theorem dX8_right_132 : decode cX8_right 132 = .ok (.if_icmp .ne 6, 3) := by decide +kernel
theorem dX8_right_135 : decode cX8_right 135 = .ok (.ldc 103, 2) := by decide +kernel
theorem dX8_right_137 : decode cX8_right 137 = .ok (.ireturn, 1) := by decide +kernel
theorem dX8_right_138 : decode cX8_right 138 = .ok (.aload_n 0, 1) := by decide +kernel
theorem dX8_right_139 : decode cX8_right 139 = .ok (.getfield 13, 3) := by decide +kernel
theorem dX8_right_142 : decode cX8_right 142 = .ok (.aload_n 0, 1) := by decide +kernel
theorem dX8_right_143 : decode cX8_right 143 = .ok (.getfield 155, 3) := by decide +kernel
theorem dX8_right_146 : decode cX8_right 146 = .ok (.iload_n 1, 1) := by decide +kernel
theorem dX8_right_147 : decode cX8_right 147 = .ok (.iastore, 1) := by decide +kernel
theorem dX8_right_148 : decode cX8_right 148 = .ok (.aload_n 0, 1) := by decide +kernel
theorem dX8_right_149 : decode cX8_right 149 = .ok (.getfield 16, 3) := by decide +kernel
theorem dX8_right_152 : decode cX8_right 152 = .ok (.aload_n 0, 1) := by decide +kernel
theorem dX8_right_153 : decode cX8_right 153 = .ok (.getfield 155, 3) := by decide +kernel
theorem dX8_right_156 : decode cX8_right 156 = .ok (.iload_n 2, 1) := by decide +kernel
theorem dX8_right_157 : decode cX8_right 157 = .ok (.iastore, 1) := by decide +kernel
theorem dX8_right_158 : decode cX8_right 158 = .ok (.aload_n 0, 1) := by decide +kernel
theorem dX8_right_159 : decode cX8_right 159 = .ok (.getfield 19, 3) := by decide +kernel
theorem dX8_right_162 : decode cX8_right 162 = .ok (.aload_n 0, 1) := by decide +kernel
theorem dX8_right_163 : decode cX8_right 163 = .ok (.getfield 155, 3) := by decide +kernel
theorem dX8_right_166 : decode cX8_right 166 = .ok (.iload_n 3, 1) := by decide +kernel
theorem dX8_right_167 : decode cX8_right 167 = .ok (.iastore, 1) := by decide +kernel
theorem dX8_right_168 : decode cX8_right 168 = .ok (.aload_n 0, 1) := by decide +kernel
theorem dX8_right_169 : decode cX8_right 169 = .ok (.dup, 1) := by decide +kernel
theorem dX8_right_170 : decode cX8_right 170 = .ok (.getfield 155, 3) := by decide +kernel
theorem dX8_right_173 : decode cX8_right 173 = .ok (.iconst 1, 1) := by decide +kernel
theorem dX8_right_174 : decode cX8_right 174 = .ok (.iadd, 1) := by decide +kernel
theorem dX8_right_175 : decode cX8_right 175 = .ok (.putfield 155, 3) := by decide +kernel
theorem dX8_right_178 : decode cX8_right 178 = .ok (.iload 4, 2) := by decide +kernel
theorem dX8_right_180 : decode cX8_right 180 = .ok (.iconst 1, 1) := by decide +kernel
theorem dX8_right_181 : decode cX8_right 181 = .ok (.iadd, 1) := by decide +kernel
theorem dX8_right_182 : decode cX8_right 182 = .ok (.ireturn, 1) := by decide +kernel
theorem dX8_masked_0 : decode cX8_masked 0 = .ok (.aload_n 0, 1) := by decide +kernel
theorem dX8_masked_1 : decode cX8_masked 1 = .ok (.iconst 0, 1) := by decide +kernel
theorem dX8_masked_2 : decode cX8_masked 2 = .ok (.putfield 85, 3) := by decide +kernel
theorem dX8_masked_5 : decode cX8_masked 5 = .ok (.iload_n 1, 1) := by decide +kernel
theorem dX8_masked_6 : decode cX8_masked 6 = .ok (.i2l, 1) := by decide +kernel
theorem dX8_masked_7 : decode cX8_masked 7 = .ok (.lconst 0, 1) := by decide +kernel
theorem dX8_masked_8 : decode cX8_masked 8 = .ok (.ldc2_w 219, 3) := by decide +kernel
theorem dX8_masked_11 : decode cX8_masked 11 = .ok (.invokestatic 90, 3) := by decide +kernel
theorem dX8_masked_14 : decode cX8_masked 14 = .ok (.ifCond .ne 6, 3) := by decide +kernel
theorem dX8_masked_17 : decode cX8_masked 17 = .ok (.ldc 102, 2) := by decide +kernel
theorem dX8_masked_19 : decode cX8_masked 19 = .ok (.ireturn, 1) := by decide +kernel
theorem dX8_masked_20 : decode cX8_masked 20 = .ok (.aload_n 0, 1) := by decide +kernel
theorem dX8_masked_21 : decode cX8_masked 21 = .ok (.getfield 22, 3) := by decide +kernel
theorem dX8_masked_24 : decode cX8_masked 24 = .ok (.iload_n 1, 1) := by decide +kernel
theorem dX8_masked_25 : decode cX8_masked 25 = .ok (.baload, 1) := by decide +kernel
theorem dX8_masked_26 : decode cX8_masked 26 = .ok (.iload_n 2, 1) := by decide +kernel
theorem dX8_masked_27 : decode cX8_masked 27 = .ok (.if_icmp .ne 7, 3) := by decide +kernel
theorem dX8_masked_30 : decode cX8_masked 30 = .ok (.iconst 0, 1) := by decide +kernel
theorem dX8_masked_31 : decode cX8_masked 31 = .ok (.goto 4, 3) := by decide +kernel
theorem dX8_masked_34 : decode cX8_masked 34 = .ok (.iconst 1, 1) := by decide +kernel
theorem dX8_masked_35 : decode cX8_masked 35 = .ok (.istore_n 3, 1) := by decide +kernel
theorem dX8_masked_36 : decode cX8_masked 36 = .ok (.aload_n 0, 1) := by decide +kernel
theorem dX8_masked_37 : decode cX8_masked 37 = .ok (.getfield 22, 3) := by decide +kernel
theorem dX8_masked_40 : decode cX8_masked 40 = .ok (.iload_n 1, 1) := by decide +kernel
theorem dX8_masked_41 : decode cX8_masked 41 = .ok (.iload_n 2, 1) := by decide +kernel
theorem dX8_masked_42 : decode cX8_masked 42 = .ok (.bastore, 1) := by decide +kernel
theorem dX8_masked_43 : decode cX8_masked 43 = .ok (.iload_n 3, 1) := by decide +kernel
theorem dX8_masked_44 : decode cX8_masked 44 = .ok (.ireturn, 1) := by decide +kernel
theorem dX8_cost_0 : decode cX8_cost 0 = .ok (.aload_n 0, 1) := by decide +kernel
theorem dX8_cost_1 : decode cX8_cost 1 = .ok (.iconst 0, 1) := by decide +kernel
theorem dX8_cost_2 : decode cX8_cost 2 = .ok (.putfield 85, 3) := by decide +kernel
theorem dX8_cost_5 : decode cX8_cost 5 = .ok (.aload_n 0, 1) := by decide +kernel
theorem dX8_cost_6 : decode cX8_cost 6 = .ok (.getfield 188, 3) := by decide +kernel
theorem dX8_cost_9 : decode cX8_cost 9 = .ok (.lreturn, 1) := by decide +kernel
theorem dX8_bound_0 : decode cX8_bound 0 = .ok (.aload_n 0, 1) := by decide +kernel
theorem dX8_bound_1 : decode cX8_bound 1 = .ok (.iconst 0, 1) := by decide +kernel
theorem dX8_bound_2 : decode cX8_bound 2 = .ok (.putfield 85, 3) := by decide +kernel
theorem dX8_bound_5 : decode cX8_bound 5 = .ok (.lload_n 1, 1) := by decide +kernel
theorem dX8_bound_6 : decode cX8_bound 6 = .ok (.lconst 0, 1) := by decide +kernel
theorem dX8_bound_7 : decode cX8_bound 7 = .ok (.ldc2_w 221, 3) := by decide +kernel
theorem dX8_bound_10 : decode cX8_bound 10 = .ok (.invokestatic 90, 3) := by decide +kernel
theorem dX8_bound_13 : decode cX8_bound 13 = .ok (.ifCond .ne 6, 3) := by decide +kernel
theorem dX8_bound_16 : decode cX8_bound 16 = .ok (.ldc 102, 2) := by decide +kernel
theorem dX8_bound_18 : decode cX8_bound 18 = .ok (.ireturn, 1) := by decide +kernel
theorem dX8_bound_19 : decode cX8_bound 19 = .ok (.aload_n 0, 1) := by decide +kernel
theorem dX8_bound_20 : decode cX8_bound 20 = .ok (.getfield 28, 3) := by decide +kernel
theorem dX8_bound_23 : decode cX8_bound 23 = .ok (.lstore_n 3, 1) := by decide +kernel
theorem dX8_bound_24 : decode cX8_bound 24 = .ok (.aload_n 0, 1) := by decide +kernel
theorem dX8_bound_25 : decode cX8_bound 25 = .ok (.lload_n 1, 1) := by decide +kernel
theorem dX8_bound_26 : decode cX8_bound 26 = .ok (.putfield 28, 3) := by decide +kernel
theorem dX8_bound_29 : decode cX8_bound 29 = .ok (.lload_n 3, 1) := by decide +kernel
theorem dX8_bound_30 : decode cX8_bound 30 = .ok (.l2i, 1) := by decide +kernel
theorem dX8_bound_31 : decode cX8_bound 31 = .ok (.ireturn, 1) := by decide +kernel
theorem dX8_save_0 : decode cX8_save 0 = .ok (.aload_n 0, 1) := by decide +kernel
theorem dX8_save_1 : decode cX8_save 1 = .ok (.iconst 0, 1) := by decide +kernel
theorem dX8_save_2 : decode cX8_save 2 = .ok (.putfield 85, 3) := by decide +kernel
theorem dX8_save_5 : decode cX8_save 5 = .ok (.iload_n 1, 1) := by decide +kernel
theorem dX8_save_6 : decode cX8_save 6 = .ok (.invokestatic 177, 3) := by decide +kernel
theorem dX8_save_9 : decode cX8_save 9 = .ok (.ifCond .ne 6, 3) := by decide +kernel
theorem dX8_save_12 : decode cX8_save 12 = .ok (.ldc 180, 2) := by decide +kernel
theorem dX8_save_14 : decode cX8_save 14 = .ok (.ireturn, 1) := by decide +kernel
theorem dX8_save_15 : decode cX8_save 15 = .ok (.lload_n 2, 1) := by decide +kernel
theorem dX8_save_16 : decode cX8_save 16 = .ok (.lconst 1, 1) := by decide +kernel
theorem dX8_save_17 : decode cX8_save 17 = .ok (.ldc2_w 223, 3) := by decide +kernel
theorem dX8_save_20 : decode cX8_save 20 = .ok (.invokestatic 90, 3) := by decide +kernel
theorem dX8_save_23 : decode cX8_save 23 = .ok (.ifCond .ne 6, 3) := by decide +kernel
theorem dX8_save_26 : decode cX8_save 26 = .ok (.ldc 102, 2) := by decide +kernel
theorem dX8_save_28 : decode cX8_save 28 = .ok (.ireturn, 1) := by decide +kernel
theorem dX8_save_29 : decode cX8_save 29 = .ok (.aload_n 0, 1) := by decide +kernel
theorem dX8_save_30 : decode cX8_save 30 = .ok (.aload_n 0, 1) := by decide +kernel
theorem dX8_save_31 : decode cX8_save 31 = .ok (.getfield 32, 3) := by decide +kernel
theorem dX8_save_34 : decode cX8_save 34 = .ok (.iconst 0, 1) := by decide +kernel
theorem dX8_save_35 : decode cX8_save 35 = .ok (.aload_n 0, 1) := by decide +kernel
theorem dX8_save_36 : decode cX8_save 36 = .ok (.getfield 104, 3) := by decide +kernel
theorem dX8_save_39 : decode cX8_save 39 = .ok (.invokevirtual 181, 3) := by decide +kernel
theorem dX8_save_42 : decode cX8_save 42 = .ok (.aload_n 0, 1) := by decide +kernel
theorem dX8_save_43 : decode cX8_save 43 = .ok (.getfield 104, 3) := by decide +kernel
theorem dX8_save_46 : decode cX8_save 46 = .ok (.istore 4, 2) := by decide +kernel
theorem dX8_save_48 : decode cX8_save 48 = .ok (.aload_n 0, 1) := by decide +kernel
theorem dX8_save_49 : decode cX8_save 49 = .ok (.iconst 0, 1) := by decide +kernel
theorem dX8_save_50 : decode cX8_save 50 = .ok (.putfield 104, 3) := by decide +kernel
theorem dX8_save_53 : decode cX8_save 53 = .ok (.aload_n 0, 1) := by decide +kernel
theorem dX8_save_54 : decode cX8_save 54 = .ok (.getfield 114, 3) := by decide +kernel
theorem dX8_save_57 : decode cX8_save 57 = .ok (.ifCond .lt 10, 3) := by decide +kernel
theorem dX8_save_60 : decode cX8_save 60 = .ok (.iconst (-1), 1) := by decide +kernel
theorem dX8_save_61 : decode cX8_save 61 = .ok (.aload_n 0, 1) := by decide +kernel
theorem dX8_save_62 : decode cX8_save 62 = .ok (.getfield 114, 3) := by decide +kernel
theorem dX8_save_65 : decode cX8_save 65 = .ok (.isub, 1) := by decide +kernel
theorem dX8_save_66 : decode cX8_save 66 = .ok (.ireturn, 1) := by decide +kernel
theorem dX8_save_67 : decode cX8_save 67 = .ok (.aload_n 0, 1) := by decide +kernel
theorem dX8_save_68 : decode cX8_save 68 = .ok (.getfield 225, 3) := by decide +kernel
theorem dX8_save_71 : decode cX8_save 71 = .ok (.bipush 20, 2) := by decide +kernel
theorem dX8_save_73 : decode cX8_save 73 = .ok (.if_icmp .ne 6, 3) := by decide +kernel
theorem dX8_save_76 : decode cX8_save 76 = .ok (.ldc 103, 2) := by decide +kernel
theorem dX8_save_78 : decode cX8_save 78 = .ok (.ireturn, 1) := by decide +kernel
theorem dX8_save_79 : decode cX8_save 79 = .ok (.iconst 0, 1) := by decide +kernel
theorem dX8_save_80 : decode cX8_save 80 = .ok (.istore 5, 2) := by decide +kernel
theorem dX8_save_82 : decode cX8_save 82 = .ok (.iload 5, 2) := by decide +kernel
theorem dX8_save_84 : decode cX8_save 84 = .ok (.iload 4, 2) := by decide +kernel
theorem dX8_save_86 : decode cX8_save 86 = .ok (.if_icmp .ge 32, 3) := by decide +kernel
theorem dX8_save_89 : decode cX8_save 89 = .ok (.aload_n 0, 1) := by decide +kernel
theorem dX8_save_90 : decode cX8_save 90 = .ok (.getfield 41, 3) := by decide +kernel
theorem dX8_save_93 : decode cX8_save 93 = .ok (.sipush 200, 3) := by decide +kernel
theorem dX8_save_96 : decode cX8_save 96 = .ok (.aload_n 0, 1) := by decide +kernel
theorem dX8_save_97 : decode cX8_save 97 = .ok (.getfield 225, 3) := by decide +kernel
theorem dX8_save_100 : decode cX8_save 100 = .ok (.imul, 1) := by decide +kernel
theorem dX8_save_101 : decode cX8_save 101 = .ok (.iload 5, 2) := by decide +kernel
theorem dX8_save_103 : decode cX8_save 103 = .ok (.iadd, 1) := by decide +kernel
theorem dX8_save_104 : decode cX8_save 104 = .ok (.aload_n 0, 1) := by decide +kernel
theorem dX8_save_105 : decode cX8_save 105 = .ok (.getfield 32, 3) := by decide +kernel
theorem dX8_save_108 : decode cX8_save 108 = .ok (.iload 5, 2) := by decide +kernel
theorem dX8_save_110 : decode cX8_save 110 = .ok (.iaload, 1) := by decide +kernel
theorem dX8_save_111 : decode cX8_save 111 = .ok (.iastore, 1) := by decide +kernel
theorem dX8_save_112 : decode cX8_save 112 = .ok (.iinc 5 1, 3) := by decide +kernel
theorem dX8_save_115 : decode cX8_save 115 = .ok (.goto (-33), 3) := by decide +kernel
theorem dX8_save_118 : decode cX8_save 118 = .ok (.aload_n 0, 1) := by decide +kernel
theorem dX8_save_119 : decode cX8_save 119 = .ok (.getfield 38, 3) := by decide +kernel
theorem dX8_save_122 : decode cX8_save 122 = .ok (.aload_n 0, 1) := by decide +kernel
theorem dX8_save_123 : decode cX8_save 123 = .ok (.getfield 225, 3) := by decide +kernel
theorem dX8_save_126 : decode cX8_save 126 = .ok (.iload 4, 2) := by decide +kernel
theorem dX8_save_128 : decode cX8_save 128 = .ok (.iastore, 1) := by decide +kernel
theorem dX8_save_129 : decode cX8_save 129 = .ok (.aload_n 0, 1) := by decide +kernel
theorem dX8_save_130 : decode cX8_save 130 = .ok (.getfield 44, 3) := by decide +kernel
theorem dX8_save_133 : decode cX8_save 133 = .ok (.aload_n 0, 1) := by decide +kernel
theorem dX8_save_134 : decode cX8_save 134 = .ok (.getfield 225, 3) := by decide +kernel
theorem dX8_save_137 : decode cX8_save 137 = .ok (.iload_n 1, 1) := by decide +kernel
theorem dX8_save_138 : decode cX8_save 138 = .ok (.iastore, 1) := by decide +kernel
theorem dX8_save_139 : decode cX8_save 139 = .ok (.aload_n 0, 1) := by decide +kernel
theorem dX8_save_140 : decode cX8_save 140 = .ok (.getfield 47, 3) := by decide +kernel
theorem dX8_save_143 : decode cX8_save 143 = .ok (.aload_n 0, 1) := by decide +kernel
theorem dX8_save_144 : decode cX8_save 144 = .ok (.getfield 225, 3) := by decide +kernel
theorem dX8_save_147 : decode cX8_save 147 = .ok (.lload_n 2, 1) := by decide +kernel
theorem dX8_save_148 : decode cX8_save 148 = .ok (.lastore, 1) := by decide +kernel
theorem dX8_save_149 : decode cX8_save 149 = .ok (.aload_n 0, 1) := by decide +kernel
theorem dX8_save_150 : decode cX8_save 150 = .ok (.getfield 51, 3) := by decide +kernel
theorem dX8_save_153 : decode cX8_save 153 = .ok (.aload_n 0, 1) := by decide +kernel
theorem dX8_save_154 : decode cX8_save 154 = .ok (.getfield 225, 3) := by decide +kernel
theorem dX8_save_157 : decode cX8_save 157 = .ok (.aload_n 0, 1) := by decide +kernel
theorem dX8_save_158 : decode cX8_save 158 = .ok (.getfield 228, 3) := by decide +kernel
theorem dX8_save_161 : decode cX8_save 161 = .ok (.lload_n 2, 1) := by decide +kernel
theorem dX8_save_162 : decode cX8_save 162 = .ok (.ladd, 1) := by decide +kernel
theorem dX8_save_163 : decode cX8_save 163 = .ok (.lastore, 1) := by decide +kernel
theorem dX8_save_164 : decode cX8_save 164 = .ok (.aload_n 0, 1) := by decide +kernel
theorem dX8_save_165 : decode cX8_save 165 = .ok (.getfield 54, 3) := by decide +kernel
theorem dX8_save_168 : decode cX8_save 168 = .ok (.aload_n 0, 1) := by decide +kernel
theorem dX8_save_169 : decode cX8_save 169 = .ok (.getfield 225, 3) := by decide +kernel
theorem dX8_save_172 : decode cX8_save 172 = .ok (.iconst (-1), 1) := by decide +kernel
theorem dX8_save_173 : decode cX8_save 173 = .ok (.iastore, 1) := by decide +kernel
theorem dX8_save_174 : decode cX8_save 174 = .ok (.aload_n 0, 1) := by decide +kernel
theorem dX8_save_175 : decode cX8_save 175 = .ok (.dup, 1) := by decide +kernel
theorem dX8_save_176 : decode cX8_save 176 = .ok (.getfield 225, 3) := by decide +kernel
theorem dX8_save_179 : decode cX8_save 179 = .ok (.iconst 1, 1) := by decide +kernel
theorem dX8_save_180 : decode cX8_save 180 = .ok (.iadd, 1) := by decide +kernel
theorem dX8_save_181 : decode cX8_save 181 = .ok (.putfield 225, 3) := by decide +kernel
theorem dX8_save_184 : decode cX8_save 184 = .ok (.aload_n 0, 1) := by decide +kernel
theorem dX8_save_185 : decode cX8_save 185 = .ok (.getfield 225, 3) := by decide +kernel
theorem dX8_save_188 : decode cX8_save 188 = .ok (.ireturn, 1) := by decide +kernel
theorem dX8_askKept_0 : decode cX8_askKept 0 = .ok (.aload_n 0, 1) := by decide +kernel
theorem dX8_askKept_1 : decode cX8_askKept 1 = .ok (.aload_n 0, 1) := by decide +kernel
theorem dX8_askKept_2 : decode cX8_askKept 2 = .ok (.getfield 41, 3) := by decide +kernel
theorem dX8_askKept_5 : decode cX8_askKept 5 = .ok (.sipush 200, 3) := by decide +kernel
theorem dX8_askKept_8 : decode cX8_askKept 8 = .ok (.iload_n 1, 1) := by decide +kernel
theorem dX8_askKept_9 : decode cX8_askKept 9 = .ok (.imul, 1) := by decide +kernel
theorem dX8_askKept_10 : decode cX8_askKept 10 = .ok (.aload_n 0, 1) := by decide +kernel
theorem dX8_askKept_11 : decode cX8_askKept 11 = .ok (.getfield 38, 3) := by decide +kernel
theorem dX8_askKept_14 : decode cX8_askKept 14 = .ok (.iload_n 1, 1) := by decide +kernel
theorem dX8_askKept_15 : decode cX8_askKept 15 = .ok (.iaload, 1) := by decide +kernel
theorem dX8_askKept_16 : decode cX8_askKept 16 = .ok (.invokevirtual 181, 3) := by decide +kernel
theorem dX8_askKept_19 : decode cX8_askKept 19 = .ok (.aload_n 0, 1) := by decide +kernel
theorem dX8_askKept_20 : decode cX8_askKept 20 = .ok (.getfield 54, 3) := by decide +kernel
theorem dX8_askKept_23 : decode cX8_askKept 23 = .ok (.iload_n 1, 1) := by decide +kernel
theorem dX8_askKept_24 : decode cX8_askKept 24 = .ok (.iconst (-1), 1) := by decide +kernel
theorem dX8_askKept_25 : decode cX8_askKept 25 = .ok (.iastore, 1) := by decide +kernel
theorem dX8_askKept_26 : decode cX8_askKept 26 = .ok (.aload_n 0, 1) := by decide +kernel
theorem dX8_askKept_27 : decode cX8_askKept 27 = .ok (.getfield 114, 3) := by decide +kernel
theorem dX8_askKept_30 : decode cX8_askKept 30 = .ok (.ifCond .ge 54, 3) := by decide +kernel
theorem dX8_askKept_33 : decode cX8_askKept 33 = .ok (.aload_n 0, 1) := by decide +kernel
theorem dX8_askKept_34 : decode cX8_askKept 34 = .ok (.invokevirtual 184, 3) := by decide +kernel
theorem dX8_askKept_37 : decode cX8_askKept 37 = .ok (.aload_n 0, 1) := by decide +kernel
theorem dX8_askKept_38 : decode cX8_askKept 38 = .ok (.getfield 28, 3) := by decide +kernel
theorem dX8_askKept_41 : decode cX8_askKept 41 = .ok (.lcmp, 1) := by decide +kernel
theorem dX8_askKept_42 : decode cX8_askKept 42 = .ok (.ifCond .gt 42, 3) := by decide +kernel
theorem dX8_askKept_45 : decode cX8_askKept 45 = .ok (.aload_n 0, 1) := by decide +kernel
theorem dX8_askKept_46 : decode cX8_askKept 46 = .ok (.aload_n 0, 1) := by decide +kernel
theorem dX8_askKept_47 : decode cX8_askKept 47 = .ok (.getfield 41, 3) := by decide +kernel
theorem dX8_askKept_50 : decode cX8_askKept 50 = .ok (.sipush 200, 3) := by decide +kernel
theorem dX8_askKept_53 : decode cX8_askKept 53 = .ok (.iload_n 1, 1) := by decide +kernel
theorem dX8_askKept_54 : decode cX8_askKept 54 = .ok (.imul, 1) := by decide +kernel
theorem dX8_askKept_55 : decode cX8_askKept 55 = .ok (.aload_n 0, 1) := by decide +kernel
theorem dX8_askKept_56 : decode cX8_askKept 56 = .ok (.getfield 38, 3) := by decide +kernel
theorem dX8_askKept_59 : decode cX8_askKept 59 = .ok (.iload_n 1, 1) := by decide +kernel
theorem dX8_askKept_60 : decode cX8_askKept 60 = .ok (.iaload, 1) := by decide +kernel
theorem dX8_askKept_61 : decode cX8_askKept 61 = .ok (.aload_n 0, 1) := by decide +kernel
theorem dX8_askKept_62 : decode cX8_askKept 62 = .ok (.getfield 44, 3) := by decide +kernel
theorem dX8_askKept_65 : decode cX8_askKept 65 = .ok (.iload_n 1, 1) := by decide +kernel
theorem dX8_askKept_66 : decode cX8_askKept 66 = .ok (.iaload, 1) := by decide +kernel
theorem dX8_askKept_67 : decode cX8_askKept 67 = .ok (.aload_n 0, 1) := by decide +kernel
theorem dX8_askKept_68 : decode cX8_askKept 68 = .ok (.getfield 81, 3) := by decide +kernel
theorem dX8_askKept_71 : decode cX8_askKept 71 = .ok (.invokevirtual 192, 3) := by decide +kernel
theorem dX8_askKept_74 : decode cX8_askKept 74 = .ok (.aload_n 0, 1) := by decide +kernel
theorem dX8_askKept_75 : decode cX8_askKept 75 = .ok (.getfield 54, 3) := by decide +kernel
theorem dX8_askKept_78 : decode cX8_askKept 78 = .ok (.iload_n 1, 1) := by decide +kernel
theorem dX8_askKept_79 : decode cX8_askKept 79 = .ok (.aload_n 0, 1) := by decide +kernel
theorem dX8_askKept_80 : decode cX8_askKept 80 = .ok (.getfield 158, 3) := by decide +kernel
theorem dX8_askKept_83 : decode cX8_askKept 83 = .ok (.iastore, 1) := by decide +kernel
theorem dX8_askKept_84 : decode cX8_askKept 84 = .ok (.return_, 1) := by decide +kernel
theorem dX8_tick_0 : decode cX8_tick 0 = .ok (.aload_n 0, 1) := by decide +kernel
theorem dX8_tick_1 : decode cX8_tick 1 = .ok (.iconst 0, 1) := by decide +kernel
theorem dX8_tick_2 : decode cX8_tick 2 = .ok (.putfield 85, 3) := by decide +kernel
theorem dX8_tick_5 : decode cX8_tick 5 = .ok (.lload_n 1, 1) := by decide +kernel
theorem dX8_tick_6 : decode cX8_tick 6 = .ok (.aload_n 0, 1) := by decide +kernel
theorem dX8_tick_7 : decode cX8_tick 7 = .ok (.getfield 228, 3) := by decide +kernel
theorem dX8_tick_10 : decode cX8_tick 10 = .ok (.lcmp, 1) := by decide +kernel
theorem dX8_tick_11 : decode cX8_tick 11 = .ok (.ifCond .lt 16, 3) := by decide +kernel
theorem dX8_tick_14 : decode cX8_tick 14 = .ok (.lload_n 1, 1) := by decide +kernel
theorem dX8_tick_15 : decode cX8_tick 15 = .ok (.aload_n 0, 1) := by decide +kernel
theorem dX8_tick_16 : decode cX8_tick 16 = .ok (.getfield 228, 3) := by decide +kernel
theorem dX8_tick_19 : decode cX8_tick 19 = .ok (.lsub, 1) := by decide +kernel
theorem dX8_tick_20 : decode cX8_tick 20 = .ok (.ldc2_w 223, 3) := by decide +kernel
theorem dX8_tick_23 : decode cX8_tick 23 = .ok (.lcmp, 1) := by decide +kernel
theorem dX8_tick_24 : decode cX8_tick 24 = .ok (.ifCond .le 6, 3) := by decide +kernel
theorem dX8_tick_27 : decode cX8_tick 27 = .ok (.ldc 102, 2) := by decide +kernel
theorem dX8_tick_29 : decode cX8_tick 29 = .ok (.ireturn, 1) := by decide +kernel
theorem dX8_tick_30 : decode cX8_tick 30 = .ok (.aload_n 0, 1) := by decide +kernel
theorem dX8_tick_31 : decode cX8_tick 31 = .ok (.lload_n 1, 1) := by decide +kernel
theorem dX8_tick_32 : decode cX8_tick 32 = .ok (.putfield 228, 3) := by decide +kernel
theorem dX8_tick_35 : decode cX8_tick 35 = .ok (.iconst 0, 1) := by decide +kernel
theorem dX8_tick_36 : decode cX8_tick 36 = .ok (.istore_n 3, 1) := by decide +kernel
theorem dX8_tick_37 : decode cX8_tick 37 = .ok (.iconst 0, 1) := by decide +kernel
theorem dX8_tick_38 : decode cX8_tick 38 = .ok (.istore 4, 2) := by decide +kernel
theorem dX8_tick_40 : decode cX8_tick 40 = .ok (.iload 4, 2) := by decide +kernel
theorem dX8_tick_42 : decode cX8_tick 42 = .ok (.aload_n 0, 1) := by decide +kernel
theorem dX8_tick_43 : decode cX8_tick 43 = .ok (.getfield 225, 3) := by decide +kernel
theorem dX8_tick_46 : decode cX8_tick 46 = .ok (.if_icmp .ge 79, 3) := by decide +kernel
theorem dX8_tick_49 : decode cX8_tick 49 = .ok (.aload_n 0, 1) := by decide +kernel
theorem dX8_tick_50 : decode cX8_tick 50 = .ok (.getfield 51, 3) := by decide +kernel
theorem dX8_tick_53 : decode cX8_tick 53 = .ok (.iload 4, 2) := by decide +kernel
theorem dX8_tick_55 : decode cX8_tick 55 = .ok (.laload, 1) := by decide +kernel
theorem dX8_tick_56 : decode cX8_tick 56 = .ok (.lload_n 1, 1) := by decide +kernel
theorem dX8_tick_57 : decode cX8_tick 57 = .ok (.lcmp, 1) := by decide +kernel
theorem dX8_tick_58 : decode cX8_tick 58 = .ok (.ifCond .gt 7, 3) := by decide +kernel
theorem dX8_tick_61 : decode cX8_tick 61 = .ok (.iconst 1, 1) := by decide +kernel
theorem dX8_tick_62 : decode cX8_tick 62 = .ok (.goto 4, 3) := by decide +kernel
theorem dX8_tick_65 : decode cX8_tick 65 = .ok (.iconst 0, 1) := by decide +kernel
theorem dX8_tick_66 : decode cX8_tick 66 = .ok (.istore 5, 2) := by decide +kernel
theorem dX8_tick_68 : decode cX8_tick 68 = .ok (.aload_n 0, 1) := by decide +kernel
theorem dX8_tick_69 : decode cX8_tick 69 = .ok (.getfield 51, 3) := by decide +kernel
theorem dX8_tick_72 : decode cX8_tick 72 = .ok (.iload 4, 2) := by decide +kernel
theorem dX8_tick_74 : decode cX8_tick 74 = .ok (.laload, 1) := by decide +kernel
theorem dX8_tick_75 : decode cX8_tick 75 = .ok (.lload_n 1, 1) := by decide +kernel
theorem dX8_tick_76 : decode cX8_tick 76 = .ok (.lcmp, 1) := by decide +kernel
theorem dX8_tick_77 : decode cX8_tick 77 = .ok (.ifCond .gt 31, 3) := by decide +kernel
theorem dX8_tick_80 : decode cX8_tick 80 = .ok (.aload_n 0, 1) := by decide +kernel
theorem dX8_tick_81 : decode cX8_tick 81 = .ok (.getfield 51, 3) := by decide +kernel
theorem dX8_tick_84 : decode cX8_tick 84 = .ok (.iload 4, 2) := by decide +kernel
theorem dX8_tick_86 : decode cX8_tick 86 = .ok (.aload_n 0, 1) := by decide +kernel
theorem dX8_tick_87 : decode cX8_tick 87 = .ok (.getfield 51, 3) := by decide +kernel
theorem dX8_tick_90 : decode cX8_tick 90 = .ok (.iload 4, 2) := by decide +kernel
theorem dX8_tick_92 : decode cX8_tick 92 = .ok (.laload, 1) := by decide +kernel
theorem dX8_tick_93 : decode cX8_tick 93 = .ok (.aload_n 0, 1) := by decide +kernel
theorem dX8_tick_94 : decode cX8_tick 94 = .ok (.getfield 47, 3) := by decide +kernel
theorem dX8_tick_97 : decode cX8_tick 97 = .ok (.iload 4, 2) := by decide +kernel
theorem dX8_tick_99 : decode cX8_tick 99 = .ok (.laload, 1) := by decide +kernel
theorem dX8_tick_100 : decode cX8_tick 100 = .ok (.ladd, 1) := by decide +kernel
theorem dX8_tick_101 : decode cX8_tick 101 = .ok (.lastore, 1) := by decide +kernel
theorem dX8_tick_102 : decode cX8_tick 102 = .ok (.iinc 3 1, 3) := by decide +kernel
theorem dX8_tick_105 : decode cX8_tick 105 = .ok (.goto (-37), 3) := by decide +kernel
theorem dX8_tick_108 : decode cX8_tick 108 = .ok (.iload 5, 2) := by decide +kernel
theorem dX8_tick_110 : decode cX8_tick 110 = .ok (.ifCond .eq 9, 3) := by decide +kernel
theorem dX8_tick_113 : decode cX8_tick 113 = .ok (.aload_n 0, 1) := by decide +kernel
theorem dX8_tick_114 : decode cX8_tick 114 = .ok (.iload 4, 2) := by decide +kernel
theorem dX8_tick_116 : decode cX8_tick 116 = .ok (.invokevirtual 231, 3) := by decide +kernel
theorem dX8_tick_119 : decode cX8_tick 119 = .ok (.iinc 4 1, 3) := by decide +kernel
theorem dX8_tick_122 : decode cX8_tick 122 = .ok (.goto (-82), 3) := by decide +kernel
theorem dX8_tick_125 : decode cX8_tick 125 = .ok (.iload_n 3, 1) := by decide +kernel
theorem dX8_tick_126 : decode cX8_tick 126 = .ok (.ireturn, 1) := by decide +kernel
theorem dX8_saved_0 : decode cX8_saved 0 = .ok (.aload_n 0, 1) := by decide +kernel
theorem dX8_saved_1 : decode cX8_saved 1 = .ok (.iconst 0, 1) := by decide +kernel
theorem dX8_saved_2 : decode cX8_saved 2 = .ok (.putfield 85, 3) := by decide +kernel
theorem dX8_saved_5 : decode cX8_saved 5 = .ok (.iload_n 1, 1) := by decide +kernel
theorem dX8_saved_6 : decode cX8_saved 6 = .ok (.i2l, 1) := by decide +kernel
theorem dX8_saved_7 : decode cX8_saved 7 = .ok (.lconst 1, 1) := by decide +kernel
theorem dX8_saved_8 : decode cX8_saved 8 = .ok (.aload_n 0, 1) := by decide +kernel
theorem dX8_saved_9 : decode cX8_saved 9 = .ok (.getfield 225, 3) := by decide +kernel
theorem dX8_saved_12 : decode cX8_saved 12 = .ok (.i2l, 1) := by decide +kernel
theorem dX8_saved_13 : decode cX8_saved 13 = .ok (.invokestatic 90, 3) := by decide +kernel
theorem dX8_saved_16 : decode cX8_saved 16 = .ok (.ifCond .eq 14, 3) := by decide +kernel
theorem dX8_saved_19 : decode cX8_saved 19 = .ok (.aload_n 0, 1) := by decide +kernel
theorem dX8_saved_20 : decode cX8_saved 20 = .ok (.getfield 54, 3) := by decide +kernel
theorem dX8_saved_23 : decode cX8_saved 23 = .ok (.iload_n 1, 1) := by decide +kernel
theorem dX8_saved_24 : decode cX8_saved 24 = .ok (.iconst 1, 1) := by decide +kernel
theorem dX8_saved_25 : decode cX8_saved 25 = .ok (.isub, 1) := by decide +kernel
theorem dX8_saved_26 : decode cX8_saved 26 = .ok (.iaload, 1) := by decide +kernel
theorem dX8_saved_27 : decode cX8_saved 27 = .ok (.goto 5, 3) := by decide +kernel
theorem dX8_saved_30 : decode cX8_saved 30 = .ok (.ldc 180, 2) := by decide +kernel
theorem dX8_saved_32 : decode cX8_saved 32 = .ok (.ireturn, 1) := by decide +kernel
theorem dX8_scan_0 : decode cX8_scan 0 = .ok (.aload_n 0, 1) := by decide +kernel
theorem dX8_scan_1 : decode cX8_scan 1 = .ok (.iconst 0, 1) := by decide +kernel
theorem dX8_scan_2 : decode cX8_scan 2 = .ok (.putfield 85, 3) := by decide +kernel
theorem dX8_scan_5 : decode cX8_scan 5 = .ok (.iload_n 1, 1) := by decide +kernel
theorem dX8_scan_6 : decode cX8_scan 6 = .ok (.invokestatic 177, 3) := by decide +kernel
theorem dX8_scan_9 : decode cX8_scan 9 = .ok (.ifCond .ne 6, 3) := by decide +kernel
theorem dX8_scan_12 : decode cX8_scan 12 = .ok (.ldc 180, 2) := by decide +kernel
theorem dX8_scan_14 : decode cX8_scan 14 = .ok (.ireturn, 1) := by decide +kernel
theorem dX8_scan_15 : decode cX8_scan 15 = .ok (.iconst 0, 1) := by decide +kernel
theorem dX8_scan_16 : decode cX8_scan 16 = .ok (.istore_n 2, 1) := by decide +kernel
theorem dX8_scan_17 : decode cX8_scan 17 = .ok (.iconst 1, 1) := by decide +kernel
theorem dX8_scan_18 : decode cX8_scan 18 = .ok (.istore_n 3, 1) := by decide +kernel
theorem dX8_scan_19 : decode cX8_scan 19 = .ok (.iload_n 3, 1) := by decide +kernel
theorem dX8_scan_20 : decode cX8_scan 20 = .ok (.aload_n 0, 1) := by decide +kernel
theorem dX8_scan_21 : decode cX8_scan 21 = .ok (.getfield 81, 3) := by decide +kernel
theorem dX8_scan_24 : decode cX8_scan 24 = .ok (.if_icmp .gt 26, 3) := by decide +kernel
theorem dX8_scan_27 : decode cX8_scan 27 = .ok (.aload_n 0, 1) := by decide +kernel
theorem dX8_scan_28 : decode cX8_scan 28 = .ok (.iload_n 1, 1) := by decide +kernel
theorem dX8_scan_29 : decode cX8_scan 29 = .ok (.iload_n 3, 1) := by decide +kernel
theorem dX8_scan_30 : decode cX8_scan 30 = .ok (.invokevirtual 165, 3) := by decide +kernel
theorem dX8_scan_33 : decode cX8_scan 33 = .ok (.ifCond .eq 9, 3) := by decide +kernel
theorem dX8_scan_36 : decode cX8_scan 36 = .ok (.iload_n 2, 1) := by decide +kernel
theorem dX8_scan_37 : decode cX8_scan 37 = .ok (.iconst 1, 1) := by decide +kernel
theorem dX8_scan_38 : decode cX8_scan 38 = .ok (.iadd, 1) := by decide +kernel
theorem dX8_scan_39 : decode cX8_scan 39 = .ok (.goto 4, 3) := by decide +kernel
theorem dX8_scan_42 : decode cX8_scan 42 = .ok (.iload_n 2, 1) := by decide +kernel
theorem dX8_scan_43 : decode cX8_scan 43 = .ok (.istore_n 2, 1) := by decide +kernel
theorem dX8_scan_44 : decode cX8_scan 44 = .ok (.iinc 3 1, 3) := by decide +kernel
theorem dX8_scan_47 : decode cX8_scan 47 = .ok (.goto (-28), 3) := by decide +kernel
theorem dX8_scan_50 : decode cX8_scan 50 = .ok (.iload_n 2, 1) := by decide +kernel
theorem dX8_scan_51 : decode cX8_scan 51 = .ok (.ireturn, 1) := by decide +kernel
theorem dL_law_0 : decode cL_law 0 = .ok (.new 7, 3) := by decide +kernel
theorem dL_law_3 : decode cL_law 3 = .ok (.dup, 1) := by decide +kernel
theorem dL_law_4 : decode cL_law 4 = .ok (.invokespecial 9, 3) := by decide +kernel
theorem dL_law_7 : decode cL_law 7 = .ok (.astore_n 1, 1) := by decide +kernel
theorem dL_law_8 : decode cL_law 8 = .ok (.new 10, 3) := by decide +kernel
theorem dL_law_11 : decode cL_law 11 = .ok (.dup, 1) := by decide +kernel
theorem dL_law_12 : decode cL_law 12 = .ok (.invokespecial 12, 3) := by decide +kernel
theorem dL_law_15 : decode cL_law 15 = .ok (.astore_n 2, 1) := by decide +kernel
theorem dL_law_16 : decode cL_law 16 = .ok (.iconst 0, 1) := by decide +kernel
theorem dL_law_17 : decode cL_law 17 = .ok (.istore_n 3, 1) := by decide +kernel
theorem dL_law_18 : decode cL_law 18 = .ok (.iload_n 3, 1) := by decide +kernel
theorem dL_law_19 : decode cL_law 19 = .ok (.aload_n 0, 1) := by decide +kernel
theorem dL_law_20 : decode cL_law 20 = .ok (.arraylength, 1) := by decide +kernel
theorem dL_law_21 : decode cL_law 21 = .ok (.bipush 7, 2) := by decide +kernel
theorem dL_law_23 : decode cL_law 23 = .ok (.isub, 1) := by decide +kernel
theorem dL_law_24 : decode cL_law 24 = .ok (.if_icmp .gt 649, 3) := by decide +kernel
theorem dL_law_27 : decode cL_law 27 = .ok (.aload_n 0, 1) := by decide +kernel
theorem dL_law_28 : decode cL_law 28 = .ok (.iload_n 3, 1) := by decide +kernel
theorem dL_law_29 : decode cL_law 29 = .ok (.iaload, 1) := by decide +kernel
theorem dL_law_30 : decode cL_law 30 = .ok (.bipush 15, 2) := by decide +kernel
theorem dL_law_32 : decode cL_law 32 = .ok (.iand, 1) := by decide +kernel
theorem dL_law_33 : decode cL_law 33 = .ok (.tableswitch 634 0 12 #[67, 162, 183, 206, 240, 313, 356, 405, 419, 472, 535, 588, 611], 67) := by decide +kernel
theorem dL_law_100 : decode cL_law 100 = .ok (.aload_n 1, 1) := by decide +kernel
theorem dL_law_101 : decode cL_law 101 = .ok (.aload_n 0, 1) := by decide +kernel
theorem dL_law_102 : decode cL_law 102 = .ok (.iload_n 3, 1) := by decide +kernel
theorem dL_law_103 : decode cL_law 103 = .ok (.iconst 1, 1) := by decide +kernel
theorem dL_law_104 : decode cL_law 104 = .ok (.iadd, 1) := by decide +kernel
theorem dL_law_105 : decode cL_law 105 = .ok (.iaload, 1) := by decide +kernel
theorem dL_law_106 : decode cL_law 106 = .ok (.aload_n 0, 1) := by decide +kernel
theorem dL_law_107 : decode cL_law 107 = .ok (.iload_n 3, 1) := by decide +kernel
theorem dL_law_108 : decode cL_law 108 = .ok (.iconst 2, 1) := by decide +kernel
theorem dL_law_109 : decode cL_law 109 = .ok (.iadd, 1) := by decide +kernel
theorem dL_law_110 : decode cL_law 110 = .ok (.iaload, 1) := by decide +kernel
theorem dL_law_111 : decode cL_law 111 = .ok (.aload_n 0, 1) := by decide +kernel
theorem dL_law_112 : decode cL_law 112 = .ok (.iload_n 3, 1) := by decide +kernel
theorem dL_law_113 : decode cL_law 113 = .ok (.iconst 3, 1) := by decide +kernel
theorem dL_law_114 : decode cL_law 114 = .ok (.iadd, 1) := by decide +kernel
theorem dL_law_115 : decode cL_law 115 = .ok (.iaload, 1) := by decide +kernel
theorem dL_law_116 : decode cL_law 116 = .ok (.aload_n 0, 1) := by decide +kernel
theorem dL_law_117 : decode cL_law 117 = .ok (.iload_n 3, 1) := by decide +kernel
theorem dL_law_118 : decode cL_law 118 = .ok (.iconst 4, 1) := by decide +kernel
theorem dL_law_119 : decode cL_law 119 = .ok (.iadd, 1) := by decide +kernel
theorem dL_law_120 : decode cL_law 120 = .ok (.iaload, 1) := by decide +kernel
theorem dL_law_121 : decode cL_law 121 = .ok (.i2l, 1) := by decide +kernel
theorem dL_law_122 : decode cL_law 122 = .ok (.bipush 32, 2) := by decide +kernel
theorem dL_law_124 : decode cL_law 124 = .ok (.lshl, 1) := by decide +kernel
theorem dL_law_125 : decode cL_law 125 = .ok (.aload_n 0, 1) := by decide +kernel
theorem dL_law_126 : decode cL_law 126 = .ok (.iload_n 3, 1) := by decide +kernel
theorem dL_law_127 : decode cL_law 127 = .ok (.iconst 5, 1) := by decide +kernel
theorem dL_law_128 : decode cL_law 128 = .ok (.iadd, 1) := by decide +kernel
theorem dL_law_129 : decode cL_law 129 = .ok (.iaload, 1) := by decide +kernel
theorem dL_law_130 : decode cL_law 130 = .ok (.i2l, 1) := by decide +kernel
theorem dL_law_131 : decode cL_law 131 = .ok (.ldc2_w 13, 3) := by decide +kernel
theorem dL_law_134 : decode cL_law 134 = .ok (.land, 1) := by decide +kernel
theorem dL_law_135 : decode cL_law 135 = .ok (.lor, 1) := by decide +kernel
theorem dL_law_136 : decode cL_law 136 = .ok (.aload_n 0, 1) := by decide +kernel
theorem dL_law_137 : decode cL_law 137 = .ok (.iload_n 3, 1) := by decide +kernel
theorem dL_law_138 : decode cL_law 138 = .ok (.bipush 6, 2) := by decide +kernel
theorem dL_law_140 : decode cL_law 140 = .ok (.iadd, 1) := by decide +kernel
theorem dL_law_141 : decode cL_law 141 = .ok (.iaload, 1) := by decide +kernel
theorem dL_law_142 : decode cL_law 142 = .ok (.invokevirtual 15, 3) := by decide +kernel
theorem dL_law_145 : decode cL_law 145 = .ok (.aload_n 2, 1) := by decide +kernel
theorem dL_law_146 : decode cL_law 146 = .ok (.aload_n 0, 1) := by decide +kernel
theorem dL_law_147 : decode cL_law 147 = .ok (.iload_n 3, 1) := by decide +kernel
theorem dL_law_148 : decode cL_law 148 = .ok (.iconst 1, 1) := by decide +kernel
theorem dL_law_149 : decode cL_law 149 = .ok (.iadd, 1) := by decide +kernel
theorem dL_law_150 : decode cL_law 150 = .ok (.iaload, 1) := by decide +kernel
theorem dL_law_151 : decode cL_law 151 = .ok (.aload_n 0, 1) := by decide +kernel
theorem dL_law_152 : decode cL_law 152 = .ok (.iload_n 3, 1) := by decide +kernel
theorem dL_law_153 : decode cL_law 153 = .ok (.iconst 2, 1) := by decide +kernel
theorem dL_law_154 : decode cL_law 154 = .ok (.iadd, 1) := by decide +kernel
theorem dL_law_155 : decode cL_law 155 = .ok (.iaload, 1) := by decide +kernel
theorem dL_law_156 : decode cL_law 156 = .ok (.aload_n 0, 1) := by decide +kernel
theorem dL_law_157 : decode cL_law 157 = .ok (.iload_n 3, 1) := by decide +kernel
theorem dL_law_158 : decode cL_law 158 = .ok (.iconst 3, 1) := by decide +kernel
theorem dL_law_159 : decode cL_law 159 = .ok (.iadd, 1) := by decide +kernel
theorem dL_law_160 : decode cL_law 160 = .ok (.iaload, 1) := by decide +kernel
theorem dL_law_161 : decode cL_law 161 = .ok (.aload_n 0, 1) := by decide +kernel
theorem dL_law_162 : decode cL_law 162 = .ok (.iload_n 3, 1) := by decide +kernel
theorem dL_law_163 : decode cL_law 163 = .ok (.iconst 4, 1) := by decide +kernel
theorem dL_law_164 : decode cL_law 164 = .ok (.iadd, 1) := by decide +kernel
theorem dL_law_165 : decode cL_law 165 = .ok (.iaload, 1) := by decide +kernel
theorem dL_law_166 : decode cL_law 166 = .ok (.i2l, 1) := by decide +kernel
theorem dL_law_167 : decode cL_law 167 = .ok (.bipush 32, 2) := by decide +kernel
theorem dL_law_169 : decode cL_law 169 = .ok (.lshl, 1) := by decide +kernel
theorem dL_law_170 : decode cL_law 170 = .ok (.aload_n 0, 1) := by decide +kernel
theorem dL_law_171 : decode cL_law 171 = .ok (.iload_n 3, 1) := by decide +kernel
theorem dL_law_172 : decode cL_law 172 = .ok (.iconst 5, 1) := by decide +kernel
theorem dL_law_173 : decode cL_law 173 = .ok (.iadd, 1) := by decide +kernel
theorem dL_law_174 : decode cL_law 174 = .ok (.iaload, 1) := by decide +kernel
theorem dL_law_175 : decode cL_law 175 = .ok (.i2l, 1) := by decide +kernel
theorem dL_law_176 : decode cL_law 176 = .ok (.ldc2_w 13, 3) := by decide +kernel
theorem dL_law_179 : decode cL_law 179 = .ok (.land, 1) := by decide +kernel
theorem dL_law_180 : decode cL_law 180 = .ok (.lor, 1) := by decide +kernel
theorem dL_law_181 : decode cL_law 181 = .ok (.aload_n 0, 1) := by decide +kernel
theorem dL_law_182 : decode cL_law 182 = .ok (.iload_n 3, 1) := by decide +kernel
theorem dL_law_183 : decode cL_law 183 = .ok (.bipush 6, 2) := by decide +kernel
theorem dL_law_185 : decode cL_law 185 = .ok (.iadd, 1) := by decide +kernel
theorem dL_law_186 : decode cL_law 186 = .ok (.iaload, 1) := by decide +kernel
theorem dL_law_187 : decode cL_law 187 = .ok (.invokevirtual 19, 3) := by decide +kernel
theorem dL_law_190 : decode cL_law 190 = .ok (.if_icmp .eq 477, 3) := by decide +kernel
theorem dL_law_193 : decode cL_law 193 = .ok (.iconst 0, 1) := by decide +kernel
theorem dL_law_194 : decode cL_law 194 = .ok (.ireturn, 1) := by decide +kernel
theorem dL_law_195 : decode cL_law 195 = .ok (.aload_n 1, 1) := by decide +kernel
theorem dL_law_196 : decode cL_law 196 = .ok (.aload_n 0, 1) := by decide +kernel
theorem dL_law_197 : decode cL_law 197 = .ok (.iload_n 3, 1) := by decide +kernel
theorem dL_law_198 : decode cL_law 198 = .ok (.iconst 1, 1) := by decide +kernel
theorem dL_law_199 : decode cL_law 199 = .ok (.iadd, 1) := by decide +kernel
theorem dL_law_200 : decode cL_law 200 = .ok (.iaload, 1) := by decide +kernel
theorem dL_law_201 : decode cL_law 201 = .ok (.invokevirtual 20, 3) := by decide +kernel
theorem dL_law_204 : decode cL_law 204 = .ok (.aload_n 2, 1) := by decide +kernel
theorem dL_law_205 : decode cL_law 205 = .ok (.aload_n 0, 1) := by decide +kernel
theorem dL_law_206 : decode cL_law 206 = .ok (.iload_n 3, 1) := by decide +kernel
theorem dL_law_207 : decode cL_law 207 = .ok (.iconst 1, 1) := by decide +kernel
theorem dL_law_208 : decode cL_law 208 = .ok (.iadd, 1) := by decide +kernel
theorem dL_law_209 : decode cL_law 209 = .ok (.iaload, 1) := by decide +kernel
theorem dL_law_210 : decode cL_law 210 = .ok (.invokevirtual 24, 3) := by decide +kernel
theorem dL_law_213 : decode cL_law 213 = .ok (.goto 454, 3) := by decide +kernel
theorem dL_law_216 : decode cL_law 216 = .ok (.aload_n 1, 1) := by decide +kernel
theorem dL_law_217 : decode cL_law 217 = .ok (.aload_n 0, 1) := by decide +kernel
theorem dL_law_218 : decode cL_law 218 = .ok (.iload_n 3, 1) := by decide +kernel
theorem dL_law_219 : decode cL_law 219 = .ok (.iconst 1, 1) := by decide +kernel
theorem dL_law_220 : decode cL_law 220 = .ok (.iadd, 1) := by decide +kernel
theorem dL_law_221 : decode cL_law 221 = .ok (.iaload, 1) := by decide +kernel
theorem dL_law_222 : decode cL_law 222 = .ok (.invokevirtual 25, 3) := by decide +kernel
theorem dL_law_225 : decode cL_law 225 = .ok (.aload_n 2, 1) := by decide +kernel
theorem dL_law_226 : decode cL_law 226 = .ok (.aload_n 0, 1) := by decide +kernel
theorem dL_law_227 : decode cL_law 227 = .ok (.iload_n 3, 1) := by decide +kernel
theorem dL_law_228 : decode cL_law 228 = .ok (.iconst 1, 1) := by decide +kernel
theorem dL_law_229 : decode cL_law 229 = .ok (.iadd, 1) := by decide +kernel
theorem dL_law_230 : decode cL_law 230 = .ok (.iaload, 1) := by decide +kernel
theorem dL_law_231 : decode cL_law 231 = .ok (.invokevirtual 29, 3) := by decide +kernel
theorem dL_law_234 : decode cL_law 234 = .ok (.if_icmp .eq 433, 3) := by decide +kernel
theorem dL_law_237 : decode cL_law 237 = .ok (.iconst 0, 1) := by decide +kernel
theorem dL_law_238 : decode cL_law 238 = .ok (.ireturn, 1) := by decide +kernel
theorem dL_law_239 : decode cL_law 239 = .ok (.aload_n 1, 1) := by decide +kernel
theorem dL_law_240 : decode cL_law 240 = .ok (.aload_n 0, 1) := by decide +kernel
theorem dL_law_241 : decode cL_law 241 = .ok (.iload_n 3, 1) := by decide +kernel
theorem dL_law_242 : decode cL_law 242 = .ok (.iconst 1, 1) := by decide +kernel
theorem dL_law_243 : decode cL_law 243 = .ok (.iadd, 1) := by decide +kernel
theorem dL_law_244 : decode cL_law 244 = .ok (.iaload, 1) := by decide +kernel
theorem dL_law_245 : decode cL_law 245 = .ok (.aload_n 0, 1) := by decide +kernel
theorem dL_law_246 : decode cL_law 246 = .ok (.iload_n 3, 1) := by decide +kernel
theorem dL_law_247 : decode cL_law 247 = .ok (.iconst 2, 1) := by decide +kernel
theorem dL_law_248 : decode cL_law 248 = .ok (.iadd, 1) := by decide +kernel
theorem dL_law_249 : decode cL_law 249 = .ok (.iaload, 1) := by decide +kernel
theorem dL_law_250 : decode cL_law 250 = .ok (.invokevirtual 30, 3) := by decide +kernel
theorem dL_law_253 : decode cL_law 253 = .ok (.aload_n 2, 1) := by decide +kernel
theorem dL_law_254 : decode cL_law 254 = .ok (.aload_n 0, 1) := by decide +kernel
theorem dL_law_255 : decode cL_law 255 = .ok (.iload_n 3, 1) := by decide +kernel
theorem dL_law_256 : decode cL_law 256 = .ok (.iconst 1, 1) := by decide +kernel
theorem dL_law_257 : decode cL_law 257 = .ok (.iadd, 1) := by decide +kernel
theorem dL_law_258 : decode cL_law 258 = .ok (.iaload, 1) := by decide +kernel
theorem dL_law_259 : decode cL_law 259 = .ok (.aload_n 0, 1) := by decide +kernel
theorem dL_law_260 : decode cL_law 260 = .ok (.iload_n 3, 1) := by decide +kernel
theorem dL_law_261 : decode cL_law 261 = .ok (.iconst 2, 1) := by decide +kernel
theorem dL_law_262 : decode cL_law 262 = .ok (.iadd, 1) := by decide +kernel
theorem dL_law_263 : decode cL_law 263 = .ok (.iaload, 1) := by decide +kernel
theorem dL_law_264 : decode cL_law 264 = .ok (.invokevirtual 34, 3) := by decide +kernel
theorem dL_law_267 : decode cL_law 267 = .ok (.lcmp, 1) := by decide +kernel
theorem dL_law_268 : decode cL_law 268 = .ok (.ifCond .eq 399, 3) := by decide +kernel
theorem dL_law_271 : decode cL_law 271 = .ok (.iconst 0, 1) := by decide +kernel
theorem dL_law_272 : decode cL_law 272 = .ok (.ireturn, 1) := by decide +kernel
theorem dL_law_273 : decode cL_law 273 = .ok (.aload_n 1, 1) := by decide +kernel
theorem dL_law_274 : decode cL_law 274 = .ok (.aload_n 0, 1) := by decide +kernel
theorem dL_law_275 : decode cL_law 275 = .ok (.iload_n 3, 1) := by decide +kernel
theorem dL_law_276 : decode cL_law 276 = .ok (.iconst 1, 1) := by decide +kernel
theorem dL_law_277 : decode cL_law 277 = .ok (.iadd, 1) := by decide +kernel
theorem dL_law_278 : decode cL_law 278 = .ok (.iaload, 1) := by decide +kernel
theorem dL_law_279 : decode cL_law 279 = .ok (.aload_n 0, 1) := by decide +kernel
theorem dL_law_280 : decode cL_law 280 = .ok (.iload_n 3, 1) := by decide +kernel
theorem dL_law_281 : decode cL_law 281 = .ok (.iconst 2, 1) := by decide +kernel
theorem dL_law_282 : decode cL_law 282 = .ok (.iadd, 1) := by decide +kernel
theorem dL_law_283 : decode cL_law 283 = .ok (.iaload, 1) := by decide +kernel
theorem dL_law_284 : decode cL_law 284 = .ok (.i2l, 1) := by decide +kernel
theorem dL_law_285 : decode cL_law 285 = .ok (.bipush 32, 2) := by decide +kernel
theorem dL_law_287 : decode cL_law 287 = .ok (.lshl, 1) := by decide +kernel
theorem dL_law_288 : decode cL_law 288 = .ok (.aload_n 0, 1) := by decide +kernel
theorem dL_law_289 : decode cL_law 289 = .ok (.iload_n 3, 1) := by decide +kernel
theorem dL_law_290 : decode cL_law 290 = .ok (.iconst 3, 1) := by decide +kernel
theorem dL_law_291 : decode cL_law 291 = .ok (.iadd, 1) := by decide +kernel
theorem dL_law_292 : decode cL_law 292 = .ok (.iaload, 1) := by decide +kernel
theorem dL_law_293 : decode cL_law 293 = .ok (.i2l, 1) := by decide +kernel
theorem dL_law_294 : decode cL_law 294 = .ok (.ldc2_w 13, 3) := by decide +kernel
theorem dL_law_297 : decode cL_law 297 = .ok (.land, 1) := by decide +kernel
theorem dL_law_298 : decode cL_law 298 = .ok (.lor, 1) := by decide +kernel
theorem dL_law_299 : decode cL_law 299 = .ok (.aload_n 0, 1) := by decide +kernel
theorem dL_law_300 : decode cL_law 300 = .ok (.iload_n 3, 1) := by decide +kernel
theorem dL_law_301 : decode cL_law 301 = .ok (.iconst 4, 1) := by decide +kernel
theorem dL_law_302 : decode cL_law 302 = .ok (.iadd, 1) := by decide +kernel
theorem dL_law_303 : decode cL_law 303 = .ok (.iaload, 1) := by decide +kernel
theorem dL_law_304 : decode cL_law 304 = .ok (.invokevirtual 35, 3) := by decide +kernel
theorem dL_law_307 : decode cL_law 307 = .ok (.aload_n 2, 1) := by decide +kernel
theorem dL_law_308 : decode cL_law 308 = .ok (.aload_n 0, 1) := by decide +kernel
theorem dL_law_309 : decode cL_law 309 = .ok (.iload_n 3, 1) := by decide +kernel
theorem dL_law_310 : decode cL_law 310 = .ok (.iconst 1, 1) := by decide +kernel
theorem dL_law_311 : decode cL_law 311 = .ok (.iadd, 1) := by decide +kernel
theorem dL_law_312 : decode cL_law 312 = .ok (.iaload, 1) := by decide +kernel
theorem dL_law_313 : decode cL_law 313 = .ok (.aload_n 0, 1) := by decide +kernel
theorem dL_law_314 : decode cL_law 314 = .ok (.iload_n 3, 1) := by decide +kernel
theorem dL_law_315 : decode cL_law 315 = .ok (.iconst 2, 1) := by decide +kernel
theorem dL_law_316 : decode cL_law 316 = .ok (.iadd, 1) := by decide +kernel
theorem dL_law_317 : decode cL_law 317 = .ok (.iaload, 1) := by decide +kernel
theorem dL_law_318 : decode cL_law 318 = .ok (.i2l, 1) := by decide +kernel
theorem dL_law_319 : decode cL_law 319 = .ok (.bipush 32, 2) := by decide +kernel
theorem dL_law_321 : decode cL_law 321 = .ok (.lshl, 1) := by decide +kernel
theorem dL_law_322 : decode cL_law 322 = .ok (.aload_n 0, 1) := by decide +kernel
theorem dL_law_323 : decode cL_law 323 = .ok (.iload_n 3, 1) := by decide +kernel
theorem dL_law_324 : decode cL_law 324 = .ok (.iconst 3, 1) := by decide +kernel
theorem dL_law_325 : decode cL_law 325 = .ok (.iadd, 1) := by decide +kernel
theorem dL_law_326 : decode cL_law 326 = .ok (.iaload, 1) := by decide +kernel
theorem dL_law_327 : decode cL_law 327 = .ok (.i2l, 1) := by decide +kernel
theorem dL_law_328 : decode cL_law 328 = .ok (.ldc2_w 13, 3) := by decide +kernel
theorem dL_law_331 : decode cL_law 331 = .ok (.land, 1) := by decide +kernel
theorem dL_law_332 : decode cL_law 332 = .ok (.lor, 1) := by decide +kernel
theorem dL_law_333 : decode cL_law 333 = .ok (.aload_n 0, 1) := by decide +kernel
theorem dL_law_334 : decode cL_law 334 = .ok (.iload_n 3, 1) := by decide +kernel
theorem dL_law_335 : decode cL_law 335 = .ok (.iconst 4, 1) := by decide +kernel
theorem dL_law_336 : decode cL_law 336 = .ok (.iadd, 1) := by decide +kernel
theorem dL_law_337 : decode cL_law 337 = .ok (.iaload, 1) := by decide +kernel
theorem dL_law_338 : decode cL_law 338 = .ok (.invokevirtual 39, 3) := by decide +kernel
theorem dL_law_341 : decode cL_law 341 = .ok (.if_icmp .eq 326, 3) := by decide +kernel
theorem dL_law_344 : decode cL_law 344 = .ok (.iconst 0, 1) := by decide +kernel
theorem dL_law_345 : decode cL_law 345 = .ok (.ireturn, 1) := by decide +kernel
theorem dL_law_346 : decode cL_law 346 = .ok (.aload_n 1, 1) := by decide +kernel
theorem dL_law_347 : decode cL_law 347 = .ok (.aload_n 0, 1) := by decide +kernel
theorem dL_law_348 : decode cL_law 348 = .ok (.iload_n 3, 1) := by decide +kernel
theorem dL_law_349 : decode cL_law 349 = .ok (.iconst 1, 1) := by decide +kernel
theorem dL_law_350 : decode cL_law 350 = .ok (.iadd, 1) := by decide +kernel
theorem dL_law_351 : decode cL_law 351 = .ok (.iaload, 1) := by decide +kernel
theorem dL_law_352 : decode cL_law 352 = .ok (.aload_n 0, 1) := by decide +kernel
theorem dL_law_353 : decode cL_law 353 = .ok (.iload_n 3, 1) := by decide +kernel
theorem dL_law_354 : decode cL_law 354 = .ok (.iconst 2, 1) := by decide +kernel
theorem dL_law_355 : decode cL_law 355 = .ok (.iadd, 1) := by decide +kernel
theorem dL_law_356 : decode cL_law 356 = .ok (.iaload, 1) := by decide +kernel
theorem dL_law_357 : decode cL_law 357 = .ok (.aload_n 0, 1) := by decide +kernel
theorem dL_law_358 : decode cL_law 358 = .ok (.iload_n 3, 1) := by decide +kernel
theorem dL_law_359 : decode cL_law 359 = .ok (.iconst 3, 1) := by decide +kernel
theorem dL_law_360 : decode cL_law 360 = .ok (.iadd, 1) := by decide +kernel
theorem dL_law_361 : decode cL_law 361 = .ok (.iaload, 1) := by decide +kernel
theorem dL_law_362 : decode cL_law 362 = .ok (.invokevirtual 40, 3) := by decide +kernel
theorem dL_law_365 : decode cL_law 365 = .ok (.aload_n 2, 1) := by decide +kernel
theorem dL_law_366 : decode cL_law 366 = .ok (.aload_n 0, 1) := by decide +kernel
theorem dL_law_367 : decode cL_law 367 = .ok (.iload_n 3, 1) := by decide +kernel
theorem dL_law_368 : decode cL_law 368 = .ok (.iconst 1, 1) := by decide +kernel
theorem dL_law_369 : decode cL_law 369 = .ok (.iadd, 1) := by decide +kernel
theorem dL_law_370 : decode cL_law 370 = .ok (.iaload, 1) := by decide +kernel
theorem dL_law_371 : decode cL_law 371 = .ok (.aload_n 0, 1) := by decide +kernel
theorem dL_law_372 : decode cL_law 372 = .ok (.iload_n 3, 1) := by decide +kernel
theorem dL_law_373 : decode cL_law 373 = .ok (.iconst 2, 1) := by decide +kernel
theorem dL_law_374 : decode cL_law 374 = .ok (.iadd, 1) := by decide +kernel
theorem dL_law_375 : decode cL_law 375 = .ok (.iaload, 1) := by decide +kernel
theorem dL_law_376 : decode cL_law 376 = .ok (.aload_n 0, 1) := by decide +kernel
theorem dL_law_377 : decode cL_law 377 = .ok (.iload_n 3, 1) := by decide +kernel
theorem dL_law_378 : decode cL_law 378 = .ok (.iconst 3, 1) := by decide +kernel
theorem dL_law_379 : decode cL_law 379 = .ok (.iadd, 1) := by decide +kernel
theorem dL_law_380 : decode cL_law 380 = .ok (.iaload, 1) := by decide +kernel
theorem dL_law_381 : decode cL_law 381 = .ok (.invokevirtual 44, 3) := by decide +kernel
theorem dL_law_384 : decode cL_law 384 = .ok (.if_icmp .eq 283, 3) := by decide +kernel
theorem dL_law_387 : decode cL_law 387 = .ok (.iconst 0, 1) := by decide +kernel
theorem dL_law_388 : decode cL_law 388 = .ok (.ireturn, 1) := by decide +kernel
theorem dL_law_389 : decode cL_law 389 = .ok (.aload_n 1, 1) := by decide +kernel
theorem dL_law_390 : decode cL_law 390 = .ok (.aload_n 0, 1) := by decide +kernel
theorem dL_law_391 : decode cL_law 391 = .ok (.iload_n 3, 1) := by decide +kernel
theorem dL_law_392 : decode cL_law 392 = .ok (.iconst 1, 1) := by decide +kernel
theorem dL_law_393 : decode cL_law 393 = .ok (.iadd, 1) := by decide +kernel
theorem dL_law_394 : decode cL_law 394 = .ok (.iaload, 1) := by decide +kernel
theorem dL_law_395 : decode cL_law 395 = .ok (.aload_n 0, 1) := by decide +kernel
theorem dL_law_396 : decode cL_law 396 = .ok (.iload_n 3, 1) := by decide +kernel
theorem dL_law_397 : decode cL_law 397 = .ok (.iconst 2, 1) := by decide +kernel
theorem dL_law_398 : decode cL_law 398 = .ok (.iadd, 1) := by decide +kernel
theorem dL_law_399 : decode cL_law 399 = .ok (.iaload, 1) := by decide +kernel
theorem dL_law_400 : decode cL_law 400 = .ok (.ifCond .eq 7, 3) := by decide +kernel
theorem dL_law_403 : decode cL_law 403 = .ok (.iconst 1, 1) := by decide +kernel
theorem dL_law_404 : decode cL_law 404 = .ok (.goto 4, 3) := by decide +kernel
theorem dL_law_407 : decode cL_law 407 = .ok (.iconst 0, 1) := by decide +kernel
theorem dL_law_408 : decode cL_law 408 = .ok (.invokevirtual 45, 3) := by decide +kernel
theorem dL_law_411 : decode cL_law 411 = .ok (.aload_n 2, 1) := by decide +kernel
theorem dL_law_412 : decode cL_law 412 = .ok (.aload_n 0, 1) := by decide +kernel
theorem dL_law_413 : decode cL_law 413 = .ok (.iload_n 3, 1) := by decide +kernel
theorem dL_law_414 : decode cL_law 414 = .ok (.iconst 1, 1) := by decide +kernel
theorem dL_law_415 : decode cL_law 415 = .ok (.iadd, 1) := by decide +kernel
theorem dL_law_416 : decode cL_law 416 = .ok (.iaload, 1) := by decide +kernel
theorem dL_law_417 : decode cL_law 417 = .ok (.aload_n 0, 1) := by decide +kernel
theorem dL_law_418 : decode cL_law 418 = .ok (.iload_n 3, 1) := by decide +kernel
theorem dL_law_419 : decode cL_law 419 = .ok (.iconst 2, 1) := by decide +kernel
theorem dL_law_420 : decode cL_law 420 = .ok (.iadd, 1) := by decide +kernel
theorem dL_law_421 : decode cL_law 421 = .ok (.iaload, 1) := by decide +kernel
theorem dL_law_422 : decode cL_law 422 = .ok (.ifCond .eq 7, 3) := by decide +kernel
theorem dL_law_425 : decode cL_law 425 = .ok (.iconst 1, 1) := by decide +kernel
theorem dL_law_426 : decode cL_law 426 = .ok (.goto 4, 3) := by decide +kernel
theorem dL_law_429 : decode cL_law 429 = .ok (.iconst 0, 1) := by decide +kernel
theorem dL_law_430 : decode cL_law 430 = .ok (.invokevirtual 49, 3) := by decide +kernel
theorem dL_law_433 : decode cL_law 433 = .ok (.if_icmp .eq 234, 3) := by decide +kernel
theorem dL_law_436 : decode cL_law 436 = .ok (.iconst 0, 1) := by decide +kernel
theorem dL_law_437 : decode cL_law 437 = .ok (.ireturn, 1) := by decide +kernel
theorem dL_law_438 : decode cL_law 438 = .ok (.aload_n 1, 1) := by decide +kernel
theorem dL_law_439 : decode cL_law 439 = .ok (.invokevirtual 50, 3) := by decide +kernel
theorem dL_law_442 : decode cL_law 442 = .ok (.aload_n 2, 1) := by decide +kernel
theorem dL_law_443 : decode cL_law 443 = .ok (.invokevirtual 54, 3) := by decide +kernel
theorem dL_law_446 : decode cL_law 446 = .ok (.lcmp, 1) := by decide +kernel
theorem dL_law_447 : decode cL_law 447 = .ok (.ifCond .eq 220, 3) := by decide +kernel
theorem dL_law_450 : decode cL_law 450 = .ok (.iconst 0, 1) := by decide +kernel
theorem dL_law_451 : decode cL_law 451 = .ok (.ireturn, 1) := by decide +kernel
theorem dL_law_452 : decode cL_law 452 = .ok (.aload_n 1, 1) := by decide +kernel
theorem dL_law_453 : decode cL_law 453 = .ok (.aload_n 0, 1) := by decide +kernel
theorem dL_law_454 : decode cL_law 454 = .ok (.iload_n 3, 1) := by decide +kernel
theorem dL_law_455 : decode cL_law 455 = .ok (.iconst 1, 1) := by decide +kernel
theorem dL_law_456 : decode cL_law 456 = .ok (.iadd, 1) := by decide +kernel
theorem dL_law_457 : decode cL_law 457 = .ok (.iaload, 1) := by decide +kernel
theorem dL_law_458 : decode cL_law 458 = .ok (.i2l, 1) := by decide +kernel
theorem dL_law_459 : decode cL_law 459 = .ok (.bipush 32, 2) := by decide +kernel
theorem dL_law_461 : decode cL_law 461 = .ok (.lshl, 1) := by decide +kernel
theorem dL_law_462 : decode cL_law 462 = .ok (.aload_n 0, 1) := by decide +kernel
theorem dL_law_463 : decode cL_law 463 = .ok (.iload_n 3, 1) := by decide +kernel
theorem dL_law_464 : decode cL_law 464 = .ok (.iconst 2, 1) := by decide +kernel
theorem dL_law_465 : decode cL_law 465 = .ok (.iadd, 1) := by decide +kernel
theorem dL_law_466 : decode cL_law 466 = .ok (.iaload, 1) := by decide +kernel
theorem dL_law_467 : decode cL_law 467 = .ok (.i2l, 1) := by decide +kernel
theorem dL_law_468 : decode cL_law 468 = .ok (.ldc2_w 13, 3) := by decide +kernel
theorem dL_law_471 : decode cL_law 471 = .ok (.land, 1) := by decide +kernel
theorem dL_law_472 : decode cL_law 472 = .ok (.lor, 1) := by decide +kernel
theorem dL_law_473 : decode cL_law 473 = .ok (.invokevirtual 55, 3) := by decide +kernel
theorem dL_law_476 : decode cL_law 476 = .ok (.aload_n 2, 1) := by decide +kernel
theorem dL_law_477 : decode cL_law 477 = .ok (.aload_n 0, 1) := by decide +kernel
theorem dL_law_478 : decode cL_law 478 = .ok (.iload_n 3, 1) := by decide +kernel
theorem dL_law_479 : decode cL_law 479 = .ok (.iconst 1, 1) := by decide +kernel
theorem dL_law_480 : decode cL_law 480 = .ok (.iadd, 1) := by decide +kernel
theorem dL_law_481 : decode cL_law 481 = .ok (.iaload, 1) := by decide +kernel
theorem dL_law_482 : decode cL_law 482 = .ok (.i2l, 1) := by decide +kernel
theorem dL_law_483 : decode cL_law 483 = .ok (.bipush 32, 2) := by decide +kernel
theorem dL_law_485 : decode cL_law 485 = .ok (.lshl, 1) := by decide +kernel
theorem dL_law_486 : decode cL_law 486 = .ok (.aload_n 0, 1) := by decide +kernel
theorem dL_law_487 : decode cL_law 487 = .ok (.iload_n 3, 1) := by decide +kernel
theorem dL_law_488 : decode cL_law 488 = .ok (.iconst 2, 1) := by decide +kernel
theorem dL_law_489 : decode cL_law 489 = .ok (.iadd, 1) := by decide +kernel
theorem dL_law_490 : decode cL_law 490 = .ok (.iaload, 1) := by decide +kernel
theorem dL_law_491 : decode cL_law 491 = .ok (.i2l, 1) := by decide +kernel
theorem dL_law_492 : decode cL_law 492 = .ok (.ldc2_w 13, 3) := by decide +kernel
theorem dL_law_495 : decode cL_law 495 = .ok (.land, 1) := by decide +kernel
theorem dL_law_496 : decode cL_law 496 = .ok (.lor, 1) := by decide +kernel
theorem dL_law_497 : decode cL_law 497 = .ok (.invokevirtual 59, 3) := by decide +kernel
theorem dL_law_500 : decode cL_law 500 = .ok (.if_icmp .eq 167, 3) := by decide +kernel
theorem dL_law_503 : decode cL_law 503 = .ok (.iconst 0, 1) := by decide +kernel
theorem dL_law_504 : decode cL_law 504 = .ok (.ireturn, 1) := by decide +kernel
theorem dL_law_505 : decode cL_law 505 = .ok (.aload_n 1, 1) := by decide +kernel
theorem dL_law_506 : decode cL_law 506 = .ok (.aload_n 0, 1) := by decide +kernel
theorem dL_law_507 : decode cL_law 507 = .ok (.iload_n 3, 1) := by decide +kernel
theorem dL_law_508 : decode cL_law 508 = .ok (.iconst 1, 1) := by decide +kernel
theorem dL_law_509 : decode cL_law 509 = .ok (.iadd, 1) := by decide +kernel
theorem dL_law_510 : decode cL_law 510 = .ok (.iaload, 1) := by decide +kernel
theorem dL_law_511 : decode cL_law 511 = .ok (.aload_n 0, 1) := by decide +kernel
theorem dL_law_512 : decode cL_law 512 = .ok (.iload_n 3, 1) := by decide +kernel
theorem dL_law_513 : decode cL_law 513 = .ok (.iconst 2, 1) := by decide +kernel
theorem dL_law_514 : decode cL_law 514 = .ok (.iadd, 1) := by decide +kernel
theorem dL_law_515 : decode cL_law 515 = .ok (.iaload, 1) := by decide +kernel
theorem dL_law_516 : decode cL_law 516 = .ok (.i2l, 1) := by decide +kernel
theorem dL_law_517 : decode cL_law 517 = .ok (.bipush 32, 2) := by decide +kernel
theorem dL_law_519 : decode cL_law 519 = .ok (.lshl, 1) := by decide +kernel
theorem dL_law_520 : decode cL_law 520 = .ok (.aload_n 0, 1) := by decide +kernel
theorem dL_law_521 : decode cL_law 521 = .ok (.iload_n 3, 1) := by decide +kernel
theorem dL_law_522 : decode cL_law 522 = .ok (.iconst 3, 1) := by decide +kernel
theorem dL_law_523 : decode cL_law 523 = .ok (.iadd, 1) := by decide +kernel
theorem dL_law_524 : decode cL_law 524 = .ok (.iaload, 1) := by decide +kernel
theorem dL_law_525 : decode cL_law 525 = .ok (.i2l, 1) := by decide +kernel
theorem dL_law_526 : decode cL_law 526 = .ok (.ldc2_w 13, 3) := by decide +kernel
theorem dL_law_529 : decode cL_law 529 = .ok (.land, 1) := by decide +kernel
theorem dL_law_530 : decode cL_law 530 = .ok (.lor, 1) := by decide +kernel
theorem dL_law_531 : decode cL_law 531 = .ok (.invokevirtual 60, 3) := by decide +kernel
theorem dL_law_534 : decode cL_law 534 = .ok (.aload_n 2, 1) := by decide +kernel
theorem dL_law_535 : decode cL_law 535 = .ok (.aload_n 0, 1) := by decide +kernel
theorem dL_law_536 : decode cL_law 536 = .ok (.iload_n 3, 1) := by decide +kernel
theorem dL_law_537 : decode cL_law 537 = .ok (.iconst 1, 1) := by decide +kernel
theorem dL_law_538 : decode cL_law 538 = .ok (.iadd, 1) := by decide +kernel
theorem dL_law_539 : decode cL_law 539 = .ok (.iaload, 1) := by decide +kernel
theorem dL_law_540 : decode cL_law 540 = .ok (.aload_n 0, 1) := by decide +kernel
theorem dL_law_541 : decode cL_law 541 = .ok (.iload_n 3, 1) := by decide +kernel
theorem dL_law_542 : decode cL_law 542 = .ok (.iconst 2, 1) := by decide +kernel
theorem dL_law_543 : decode cL_law 543 = .ok (.iadd, 1) := by decide +kernel
theorem dL_law_544 : decode cL_law 544 = .ok (.iaload, 1) := by decide +kernel
theorem dL_law_545 : decode cL_law 545 = .ok (.i2l, 1) := by decide +kernel
theorem dL_law_546 : decode cL_law 546 = .ok (.bipush 32, 2) := by decide +kernel
theorem dL_law_548 : decode cL_law 548 = .ok (.lshl, 1) := by decide +kernel
theorem dL_law_549 : decode cL_law 549 = .ok (.aload_n 0, 1) := by decide +kernel
theorem dL_law_550 : decode cL_law 550 = .ok (.iload_n 3, 1) := by decide +kernel
theorem dL_law_551 : decode cL_law 551 = .ok (.iconst 3, 1) := by decide +kernel
theorem dL_law_552 : decode cL_law 552 = .ok (.iadd, 1) := by decide +kernel
theorem dL_law_553 : decode cL_law 553 = .ok (.iaload, 1) := by decide +kernel
theorem dL_law_554 : decode cL_law 554 = .ok (.i2l, 1) := by decide +kernel
theorem dL_law_555 : decode cL_law 555 = .ok (.ldc2_w 13, 3) := by decide +kernel
theorem dL_law_558 : decode cL_law 558 = .ok (.land, 1) := by decide +kernel
theorem dL_law_559 : decode cL_law 559 = .ok (.lor, 1) := by decide +kernel
theorem dL_law_560 : decode cL_law 560 = .ok (.invokevirtual 64, 3) := by decide +kernel
theorem dL_law_563 : decode cL_law 563 = .ok (.if_icmp .eq 104, 3) := by decide +kernel
theorem dL_law_566 : decode cL_law 566 = .ok (.iconst 0, 1) := by decide +kernel
theorem dL_law_567 : decode cL_law 567 = .ok (.ireturn, 1) := by decide +kernel
theorem dL_law_568 : decode cL_law 568 = .ok (.aload_n 1, 1) := by decide +kernel
theorem dL_law_569 : decode cL_law 569 = .ok (.aload_n 0, 1) := by decide +kernel
theorem dL_law_570 : decode cL_law 570 = .ok (.iload_n 3, 1) := by decide +kernel
theorem dL_law_571 : decode cL_law 571 = .ok (.iconst 1, 1) := by decide +kernel
theorem dL_law_572 : decode cL_law 572 = .ok (.iadd, 1) := by decide +kernel
theorem dL_law_573 : decode cL_law 573 = .ok (.iaload, 1) := by decide +kernel
theorem dL_law_574 : decode cL_law 574 = .ok (.i2l, 1) := by decide +kernel
theorem dL_law_575 : decode cL_law 575 = .ok (.bipush 32, 2) := by decide +kernel
theorem dL_law_577 : decode cL_law 577 = .ok (.lshl, 1) := by decide +kernel
theorem dL_law_578 : decode cL_law 578 = .ok (.aload_n 0, 1) := by decide +kernel
theorem dL_law_579 : decode cL_law 579 = .ok (.iload_n 3, 1) := by decide +kernel
theorem dL_law_580 : decode cL_law 580 = .ok (.iconst 2, 1) := by decide +kernel
theorem dL_law_581 : decode cL_law 581 = .ok (.iadd, 1) := by decide +kernel
theorem dL_law_582 : decode cL_law 582 = .ok (.iaload, 1) := by decide +kernel
theorem dL_law_583 : decode cL_law 583 = .ok (.i2l, 1) := by decide +kernel
theorem dL_law_584 : decode cL_law 584 = .ok (.ldc2_w 13, 3) := by decide +kernel
theorem dL_law_587 : decode cL_law 587 = .ok (.land, 1) := by decide +kernel
theorem dL_law_588 : decode cL_law 588 = .ok (.lor, 1) := by decide +kernel
theorem dL_law_589 : decode cL_law 589 = .ok (.invokevirtual 65, 3) := by decide +kernel
theorem dL_law_592 : decode cL_law 592 = .ok (.aload_n 2, 1) := by decide +kernel
theorem dL_law_593 : decode cL_law 593 = .ok (.aload_n 0, 1) := by decide +kernel
theorem dL_law_594 : decode cL_law 594 = .ok (.iload_n 3, 1) := by decide +kernel
theorem dL_law_595 : decode cL_law 595 = .ok (.iconst 1, 1) := by decide +kernel
theorem dL_law_596 : decode cL_law 596 = .ok (.iadd, 1) := by decide +kernel
theorem dL_law_597 : decode cL_law 597 = .ok (.iaload, 1) := by decide +kernel
theorem dL_law_598 : decode cL_law 598 = .ok (.i2l, 1) := by decide +kernel
theorem dL_law_599 : decode cL_law 599 = .ok (.bipush 32, 2) := by decide +kernel
theorem dL_law_601 : decode cL_law 601 = .ok (.lshl, 1) := by decide +kernel
theorem dL_law_602 : decode cL_law 602 = .ok (.aload_n 0, 1) := by decide +kernel
theorem dL_law_603 : decode cL_law 603 = .ok (.iload_n 3, 1) := by decide +kernel
theorem dL_law_604 : decode cL_law 604 = .ok (.iconst 2, 1) := by decide +kernel
theorem dL_law_605 : decode cL_law 605 = .ok (.iadd, 1) := by decide +kernel
theorem dL_law_606 : decode cL_law 606 = .ok (.iaload, 1) := by decide +kernel
theorem dL_law_607 : decode cL_law 607 = .ok (.i2l, 1) := by decide +kernel
theorem dL_law_608 : decode cL_law 608 = .ok (.ldc2_w 13, 3) := by decide +kernel
theorem dL_law_611 : decode cL_law 611 = .ok (.land, 1) := by decide +kernel
theorem dL_law_612 : decode cL_law 612 = .ok (.lor, 1) := by decide +kernel
theorem dL_law_613 : decode cL_law 613 = .ok (.invokevirtual 68, 3) := by decide +kernel
theorem dL_law_616 : decode cL_law 616 = .ok (.if_icmp .eq 51, 3) := by decide +kernel
theorem dL_law_619 : decode cL_law 619 = .ok (.iconst 0, 1) := by decide +kernel
theorem dL_law_620 : decode cL_law 620 = .ok (.ireturn, 1) := by decide +kernel
theorem dL_law_621 : decode cL_law 621 = .ok (.aload_n 1, 1) := by decide +kernel
theorem dL_law_622 : decode cL_law 622 = .ok (.aload_n 0, 1) := by decide +kernel
theorem dL_law_623 : decode cL_law 623 = .ok (.iload_n 3, 1) := by decide +kernel
theorem dL_law_624 : decode cL_law 624 = .ok (.iconst 1, 1) := by decide +kernel
theorem dL_law_625 : decode cL_law 625 = .ok (.iadd, 1) := by decide +kernel
theorem dL_law_626 : decode cL_law 626 = .ok (.iaload, 1) := by decide +kernel
theorem dL_law_627 : decode cL_law 627 = .ok (.invokevirtual 69, 3) := by decide +kernel
theorem dL_law_630 : decode cL_law 630 = .ok (.aload_n 2, 1) := by decide +kernel
theorem dL_law_631 : decode cL_law 631 = .ok (.aload_n 0, 1) := by decide +kernel
theorem dL_law_632 : decode cL_law 632 = .ok (.iload_n 3, 1) := by decide +kernel
theorem dL_law_633 : decode cL_law 633 = .ok (.iconst 1, 1) := by decide +kernel
theorem dL_law_634 : decode cL_law 634 = .ok (.iadd, 1) := by decide +kernel
theorem dL_law_635 : decode cL_law 635 = .ok (.iaload, 1) := by decide +kernel
theorem dL_law_636 : decode cL_law 636 = .ok (.invokevirtual 72, 3) := by decide +kernel
theorem dL_law_639 : decode cL_law 639 = .ok (.if_icmp .eq 28, 3) := by decide +kernel
theorem dL_law_642 : decode cL_law 642 = .ok (.iconst 0, 1) := by decide +kernel
theorem dL_law_643 : decode cL_law 643 = .ok (.ireturn, 1) := by decide +kernel
theorem dL_law_644 : decode cL_law 644 = .ok (.aload_n 1, 1) := by decide +kernel
theorem dL_law_645 : decode cL_law 645 = .ok (.aload_n 0, 1) := by decide +kernel
theorem dL_law_646 : decode cL_law 646 = .ok (.iload_n 3, 1) := by decide +kernel
theorem dL_law_647 : decode cL_law 647 = .ok (.iconst 1, 1) := by decide +kernel
theorem dL_law_648 : decode cL_law 648 = .ok (.iadd, 1) := by decide +kernel
theorem dL_law_649 : decode cL_law 649 = .ok (.iaload, 1) := by decide +kernel
theorem dL_law_650 : decode cL_law 650 = .ok (.invokevirtual 73, 3) := by decide +kernel
theorem dL_law_653 : decode cL_law 653 = .ok (.aload_n 2, 1) := by decide +kernel
theorem dL_law_654 : decode cL_law 654 = .ok (.aload_n 0, 1) := by decide +kernel
theorem dL_law_655 : decode cL_law 655 = .ok (.iload_n 3, 1) := by decide +kernel
theorem dL_law_656 : decode cL_law 656 = .ok (.iconst 1, 1) := by decide +kernel
theorem dL_law_657 : decode cL_law 657 = .ok (.iadd, 1) := by decide +kernel
theorem dL_law_658 : decode cL_law 658 = .ok (.iaload, 1) := by decide +kernel
theorem dL_law_659 : decode cL_law 659 = .ok (.invokevirtual 76, 3) := by decide +kernel
theorem dL_law_662 : decode cL_law 662 = .ok (.if_icmp .eq 5, 3) := by decide +kernel
theorem dL_law_665 : decode cL_law 665 = .ok (.iconst 0, 1) := by decide +kernel
theorem dL_law_666 : decode cL_law 666 = .ok (.ireturn, 1) := by decide +kernel
theorem dL_law_667 : decode cL_law 667 = .ok (.iinc 3 7, 3) := by decide +kernel
theorem dL_law_670 : decode cL_law 670 = .ok (.goto (-652), 3) := by decide +kernel
theorem dL_law_673 : decode cL_law 673 = .ok (.iconst 1, 1) := by decide +kernel
theorem dL_law_674 : decode cL_law 674 = .ok (.ireturn, 1) := by decide +kernel
end
section
/-! THE BASE: one word list for all methods, one context, one heap word, one form of contract; calls by permuting worlds -/
abbrev wd (y : MethodName) (cc : ByteArray) (n : Nat) (r : Option FieldType) : List Cond := Cond.code y cc n r :: wsL_law
set_option maxRecDepth 100000 in
theorem gG : ∀ w ∈ wsL_law, goodWord w = true := List.all_eq_true.mp (by decide +kernel)
theorem gIn {y : MethodName} {cc : ByteArray} {n : Nat} {r : Option FieldType} (h : Cond.code y cc n r ∈ wsL_law) : GoodIn wsL_law (wd y cc n r) := fun w hw =>
  (List.mem_cons.mp hw).elim (fun e => e ▸ ⟨h, good_of_word (gG _ h)⟩) (fun h => ⟨h, good_of_word (gG _ h)⟩)
abbrev tysG (g : Nat → ClassId) : List (ClassId × FieldType) := [(g 0, .int), (g 1, .char), (g 2, .boolean), (g 3, .long), (g 4, .array .int), (g 5, .object "TraceQuestions$Kept")]
abbrev Cx (p : Program) (m : MethodId) (c : Code) (cc : ByteArray) (nL : Nat) (s : State) (args : Array Value) (own : String) : Prop := CallFix p m c cc nL s args wsL_law own
/-- what the tables say of members of nest mates and of arrays of references: kept by every step -/
def nstW : List (String × Nat × MethodName × String) := [("TraceQuestions", 9, yX6_init, "TraceQuestions"), ("TraceQuestions", 18, yX5_init, "TraceQuestions"), ("TraceQuestions", 25, yX4_init, "TraceQuestions"), ("TraceQuestions", 32, yX1_init, "TraceQuestions"), ("TraceQuestions", 58, yX3_init, "TraceQuestions"), ("TraceQuestions", 69, yX0_init, "TraceQuestions"), ("TraceQuestions$Reader", 11, yX3_init, "TraceQuestions")]
abbrev va_AOA (ty : FieldType) (U : State) : Prop := (Cond.arrayOver (.array ty)).before #[] U = true
theorem va_AOA.use {ty : FieldType} {A : Array Value} {U : State} (h : va_AOA ty U) : (Cond.arrayOver (.array ty)).before A U = true := h
theorem va_AOA.parts {ty : FieldType} {u : State} (h : va_AOA ty u) : ∃ (comp c : ClassId) (k : Class), u.vm.findClass (FieldType.array ty).toString = some comp ∧ (u.vm.classes.findIdx? fun (x : Class) => match x.kind with | .array component _ => component == comp | _ => false) = some c ∧ u.vm.classes[c]? = some k ∧ k.kind = .array comp (.array ty) ∧ u.vm.findClass ("[" ++ (FieldType.array ty).toString) = some c := by
  unfold va_AOA Cond.before at h
  simp only [Cond.holds, Cond.value, beq_iff_eq] at h
  cases hc : u.vm.findClass (FieldType.array ty).toString with
  | none => simp [hc] at h
  | some comp =>
    simp only [hc, Option.bind_some, Option.bind_eq_some_iff, Option.map_eq_some_iff] at h
    obtain ⟨c, hi, k, hk, hb⟩ := h
    obtain ⟨hlt, hp, -⟩ := Array.findIdx?_eq_some_iff_getElem.mp hi
    have hkk : u.vm.classes[c] = k := (Array.getElem?_eq_some_iff.mp hk).2
    rw [hkk] at hp
    cases hkind : k.kind with
    | array component t =>
      rw [hkind] at hb hp
      simp at hb hp
      exact ⟨comp, c, k, rfl, hi, hk, by rw [hkind, hp, hb.1], hb.2⟩
    | _ => rw [hkind] at hb; simp at hb
theorem va_AOA.moved {ty : FieldType} {u U : State} (hvm : u.vm.Alike U.vm) (h : va_AOA ty u) : va_AOA ty U := by
  obtain ⟨comp, c, k, h1, h2, h3, h4, h5⟩ := h.parts
  obtain ⟨k', hk', he⟩ := hvm.2.2 _ _ h3
  have hi : (U.vm.classes.findIdx? fun (x : Class) => match x.kind with | .array component _ => component == comp | _ => false) = some c := by
    refine (va_idx_bare U.vm comp).symm.trans ?_
    first | rw [hvm.bare_eq] | rw [← hvm.bare_eq]
    refine (va_idx_bare u.vm comp).trans ?_
    exact h2
  have hkind : k'.kind = .array comp (.array ty) := by rw [he]; exact h4
  have f1 : U.vm.findClass (FieldType.array ty).toString = some comp := by rw [hvm.findClass]; exact h1
  have f2 : U.vm.findClass ("[" ++ (FieldType.array ty).toString) = some c := by rw [hvm.findClass]; exact h5
  unfold va_AOA Cond.before Cond.holds
  simp only [Cond.value]
  rw [f1, Option.bind_some]
  refine (congrArg (fun o : Option Nat => (o.bind (fun c => (U.vm.classes[c]?).map fun (k : Class) => match k.kind with | .array _ t => decide (t = FieldType.array ty) && decide (U.vm.findClass ("[" ++ (FieldType.array ty).toString) = some c) | _ => false) == some true)) hi).trans ?_
  simp [hk', hkind, f2]
def Nst (U : State) : Prop := (∀ q ∈ nstW, va_Nw (.methodLinkNest q.1 q.2.1 q.2.2.1 q.2.2.2) U) ∧ va_AO "TraceQuestions$Kept" U ∧ va_AOA .int U
theorem Nst.warm {s U : State} (hW : s.WarmedH U.vm) (h : Nst s) : Nst U := ⟨fun q hq => va_Nw.warmM hW (h.1 q hq), h.2.1.moved hW.alike, h.2.2.moved hW.alike⟩
theorem Nst.same {s U : State} (hW : s.vm = U.vm) (h : Nst s) : Nst U := ⟨fun q hq => va_Nw.same rfl hW (h.1 q hq), h.2.1.moved (hW ▸ Vm.Alike.refl s.vm), h.2.2.moved (hW ▸ Vm.Alike.refl s.vm)⟩
def Kx (D : va_G) (g : Nat → ClassId) (U : State) : Prop := va_K D vwCl (tysG g) U ∧ Nst U
def Hx (D : va_G) (g : Nat → ClassId) (s : State) (A : Nat → Prop) (H0 : Heap) (ws : va_W) (H : Heap) (locs : List Loc) : Prop :=
  Kx D g s ∧ va_P D vwCl ws H ∧ va_D A ws ∧ va_S A H0 H locs ∧ ∀ q : Nat, H0.size ≤ q → A q
/-! worlds as sets of cells: membership and permutation -/
theorem vP_iff {D : va_G} {cl : List vw_C} {ws : va_W} {H : Heap} : va_P D cl ws H ↔ ∀ q ∈ ws, va_at D cl q H := by
  constructor
  · intro h q hq
    obtain ⟨k, hk⟩ := List.getElem?_of_mem hq
    exact h k q hk
  · intro h k q hk
    exact h q (List.mem_of_getElem? hk)
theorem vD_iff {A : Nat → Prop} {ws : va_W} : va_D A ws ↔ (ws.map Prod.fst).Nodup ∧ ∀ q ∈ ws, A q.1 := by
  constructor
  · intro h
    refine ⟨List.pairwise_iff_getElem.mpr fun i j hi hj hij e => ?_, fun q hq => ?_⟩
    · rw [List.length_map] at hi hj
      have e2 : (ws[i]).1 = (ws[j]).1 := by simpa using e
      have := h.1 i j _ _ (List.getElem?_eq_getElem hi) (List.getElem?_eq_getElem hj) e2
      omega
    · obtain ⟨k, hk⟩ := List.getElem?_of_mem hq
      exact h.2 k q hk
  · rintro ⟨h1, h2⟩
    refine ⟨fun i j x y hx hy hxy => ?_, fun k q hk => h2 q (List.mem_of_getElem? hk)⟩
    obtain ⟨hi, rfl⟩ := List.getElem?_eq_some_iff.mp hx
    obtain ⟨hj, rfl⟩ := List.getElem?_eq_some_iff.mp hy
    have hp := List.pairwise_iff_getElem.mp h1
    rcases Nat.lt_trichotomy i j with h | h | h
    · exact absurd (by rw [List.getElem_map, List.getElem_map]; exact hxy) (hp i j (by simpa using hi) (by simpa using hj) h)
    · exact h
    · exact absurd (by rw [List.getElem_map, List.getElem_map]; exact hxy.symm) (hp j i (by simpa using hj) (by simpa using hi) h)
theorem vP_perm {D : va_G} {cl : List vw_C} {ws ws' : va_W} {H : Heap} (hp : ws.Perm ws') (h : va_P D cl ws H) : va_P D cl ws' H :=
  vP_iff.mpr fun q hq => vP_iff.mp h q (hp.mem_iff.mpr hq)
theorem vD_perm {A : Nat → Prop} {ws ws' : va_W} (hp : ws.Perm ws') (h : va_D A ws) : va_D A ws' := by
  rw [vD_iff] at h ⊢
  exact ⟨(hp.map Prod.fst).nodup_iff.mp h.1, fun q hq => h.2 q (hp.mem_iff.mpr hq)⟩
theorem Hx.perm {D : va_G} {g : Nat → ClassId} {s : State} {A : Nat → Prop} {H0 H : Heap} {ws ws' : va_W} {locs : List Loc} (h : Hx D g s A H0 ws H locs) (hp : ws.Perm ws') : Hx D g s A H0 ws' H locs :=
  ⟨h.1, vP_perm hp h.2.1, vD_perm hp h.2.2.1, h.2.2.2⟩
theorem Hx.K {D : va_G} {g : Nat → ClassId} {s : State} {A : Nat → Prop} {H0 H : Heap} {ws : va_W} {locs : List Loc} (h : Hx D g s A H0 ws H locs) : va_K D vwCl (tysG g) s := h.1.1
theorem Hx.P {D : va_G} {g : Nat → ClassId} {s : State} {A : Nat → Prop} {H0 H : Heap} {ws : va_W} {locs : List Loc} (h : Hx D g s A H0 ws H locs) : va_P D vwCl ws H := h.2.1
theorem Hx.Dd {D : va_G} {g : Nat → ClassId} {s : State} {A : Nat → Prop} {H0 H : Heap} {ws : va_W} {locs : List Loc} (h : Hx D g s A H0 ws H locs) : va_D A ws := h.2.2.1
theorem Hx.S {D : va_G} {g : Nat → ClassId} {s : State} {A : Nat → Prop} {H0 H : Heap} {ws : va_W} {locs : List Loc} (h : Hx D g s A H0 ws H locs) : va_S A H0 H locs := h.2.2.2.1
theorem Hx.A {D : va_G} {g : Nat → ClassId} {s : State} {A : Nat → Prop} {H0 H : Heap} {ws : va_W} {locs : List Loc} (h : Hx D g s A H0 ws H locs) : ∀ q : Nat, H0.size ≤ q → A q := h.2.2.2.2
/-- equal counts of each cell: a permutation -/
theorem pm_g {α : Type} {l l' : List α} (h : ∀ p : α → Bool, l.countP p = l'.countP p) : l.Perm l' := by
  haveI : DecidableEq α := fun a b => Classical.propDecidable (a = b)
  rw [List.perm_iff_count]
  intro a
  exact h (fun x => x == a)
theorem pm {ws ws' : va_W} (h : ∀ p : Nat × va_E → Bool, ws.countP p = ws'.countP p) : ws.Perm ws' := pm_g h
theorem cp_c {p : Nat × va_E → Bool} (a : Nat × va_E) (l : va_W) : (a :: l).countP p = [a].countP p + l.countP p := by
  rw [show a :: l = [a] ++ l from rfl, List.countP_append]
/-- a world of one cell, as a name -/
def wOne (a : Nat × va_E) : va_W := [a]
theorem cp_o {p : Nat × va_E → Bool} (a : Nat × va_E) (l : va_W) : (a :: l).countP p = (wOne a).countP p + l.countP p := cp_c a l
/-! a method's end, its contract -/
def QV {S : Type} (rv : S → Option Value) (post : S → Prop) (B : S → State → Prop) (A : Nat → Prop) : Array Value → State → Outcome → State → Prop := fun _ st oc t => (∃ u : S, oc = .returned (rv u) ∧ post u ∧ B u t) ∧ va_F A st t
def Pw (D : va_G) (g : Nat → ClassId) (args : List Value) (wc : va_W) (sz : Nat) : Array Value → State → Prop := va_Pc args (fun U => U.heap.size = sz ∧ va_P D vwCl wc U.heap ∧ Kx D g U ∧ va_D (fun _ => True) wc)
theorem Pw_blind {D : va_G} {g : Nat → ClassId} {args : List Value} {wc : va_W} {sz : Nat} : FrameBlind (Pw D g args wc sz) := fun a U fr mk q => by
  obtain ⟨q0, q1, qP, qK, qD⟩ := q
  exact ⟨q0, q1, qP, ⟨va_K.moved (u := U) (U := U.calling fr mk a) (Vm.Alike.refl U.vm) qK.1, Nst.same rfl qK.2⟩, qD⟩
def Bw {S : Type} (D : va_G) (g : Nat → ClassId) (A : Nat → Prop) (w1 : S → va_W) : S → State → Prop := fun u t => va_P D vwCl (w1 u) t.heap ∧ va_D A (w1 u)
/-- THE CONTRACT of a method: from the world wc and these arguments it returns rv u, for some u of which post holds, the world being w1 u -/
def Ct {S : Type} (l : Launch) (D : va_G) (g : Nat → ClassId) (y : MethodName) (cc : ByteArray) (n : Nat) (r : Option FieldType) (rm : Room) (args : List Value) (wc : va_W) (rv : S → Option Value) (post : S → Prop) (w1 : S → va_W) : Prop :=
  ∀ sz, Met l y (wd y cc n r) rm (Pw D g args wc sz) (QV rv post (Bw D g (va_A wc sz) w1) (va_A wc sz)) rm.cells rm.slots (va_A wc sz)
set_option maxHeartbeats 4000000 in
theorem Ct.of {S : Type} {l : Launch} {D : va_G} {g : Nat → ClassId} {y : MethodName} {cc : ByteArray} {n : Nat} {r : Option FieldType} {rm : Room} {args : List Value} {wc : va_W} {rv : S → Option Value} {post : S → Prop} {w1 : S → va_W}
    (own : String) (hown : y.cls = own) (hy : plainName y.cls = true) (lv : List (Nat × Value)) (hlv : lv_args 0 args = lv) (hn : (lg_sl args).length ≤ n)
    (body : ∀ (p : Program) (e : Env) (s : State) (m : MethodId) (below : List Frame) (meth : Method) (c : Code) (A : Nat → Prop) (ls : Array Slot) (ar : Array Value) (Q : State → Prop),
      Cx p m c cc n s ar own → meth.sig.returnType = r → meth.locks = false → meth.name = y.name → Q = MQ below (QV rv post (Bw D g A w1) A) ar s rm.cells rm.slots A → Hx D g s A s.heap wc s.heap [] → lv_has ls n lv →
      W p l e rm s m ar below meth c s.heap [] 0 0 Q (F0 m 0 ls [])) : Ct l D g y cc n r rm args wc rv post w1 := by
  intro sz
  refine Met.ofW (cc := cc) (maxL := n) (ret := r) hy rfl ?_
  intro p e s m a below meth c s₁ B hml hv
  obtain ⟨rfl, hsz, hP, hK, hD0⟩ := hv
  have hts := atoms_spec (ws := wd y cc n r) B.pre
  have hown2 : s.vm.findClass own = some m.cls := hown ▸ findClass_of_methodNamed B.named
  have hl := lv_entry args (n := n) hn
  rw [hlv] at hl
  rw [lg_entry_eq]
  subst hsz
  have hD := hD0.self (sz := s.heap.size)
  exact body p e s m below meth c _ _ _ _ ⟨B.exec, B.bytes, hml, hown2, fun w hw => hts w (List.mem_cons_of_mem _ hw)⟩ B.returns B.notSynchronized (name_of_methodNamed B.named B.method).1 rfl ⟨hK, hP, hD, va_S.rf, fun q h => Or.inr h⟩ hl
section BASE
variable {p : Program} {l : Launch} {e : Env} {R : Room} {s : State} {m : MethodId} {args : Array Value} {below : List Frame} {meth : Method} {c : Code} {H H0 : Heap} {locs : List Loc} {cells slots : Nat} {Q : State → Prop}
variable {cc : ByteArray} {pc : Nat} {ls : Array Slot} {rest : List Value} {D : va_G} {g : Nat → ClassId} {A : Nat → Prop} {ws ws' : va_W} {nL : Nat} {own : String}
/-! returns -/
theorem r_done {S : Type} {rv : S → Option Value} {post : S → Prop} {w1 : S → va_W} {mc ms : Nat} (h : Hx D g s A s.heap ws H locs) (u : S) {v : Option Value} (hv : v = rv u) (hp : post u) (hw : ws.Perm (w1 u)) (t : State) (ht : t.heap = H) (hW : s.WarmedH t.vm) : QV rv post (Bw D g A w1) A args s (.returned v) t := by
  subst hv
  exact ⟨⟨u, rfl, hp, by rw [ht]; exact vP_perm hw h.2.1, vD_perm hw h.2.2.1⟩, h.2.2.2.1.F ht⟩
theorem r_iret {S : Type} {rv : S → Option Value} {post : S → Prop} {w1 : S → va_W} {mc ms : Nat} (C : Cx p m c cc nL s args own) (hQ : Q = MQ below (QV rv post (Bw D g A w1) A) args s mc ms A) (hr : meth.sig.returnType = some .int) (hlk : meth.locks = false) (h : Hx D g s A s.heap ws H locs) (hdg : decode cc pc = .ok (.ireturn, 1)) {v : Int32}
    (u : S) (hv : some (.int v) = rv u) (hw : ws.Perm (w1 u)) (hp : post u) (h1 : cells ≤ mc) (h2 : slots ≤ ms) : W p l e R s m args below meth c H locs cells slots Q (F0 m pc ls [.int v]) := by
  subst hQ
  exact W.widen h1 h2 (W.iret C.1 C.2.1 hr (fun t ht hW => r_done (mc := 0) (ms := 0) h u hv hp hw t ht hW) h.S.2.2 hdg hlk)
theorem r_lret {S : Type} {rv : S → Option Value} {post : S → Prop} {w1 : S → va_W} {mc ms : Nat} (C : Cx p m c cc nL s args own) (hQ : Q = MQ below (QV rv post (Bw D g A w1) A) args s mc ms A) (hr : meth.sig.returnType = some .long) (hlk : meth.locks = false) (h : Hx D g s A s.heap ws H locs) (hdg : decode cc pc = .ok (.lreturn, 1)) {v : Int64}
    (u : S) (hv : some (.long v) = rv u) (hw : ws.Perm (w1 u)) (hp : post u) (h1 : cells ≤ mc) (h2 : slots ≤ ms) : W p l e R s m args below meth c H locs cells slots Q (F0 m pc ls [.long v]) := by
  subst hQ
  exact W.widen h1 h2 (W.lret C.1 C.2.1 hr (fun t ht hW => r_done (mc := 0) (ms := 0) h u hv hp hw t ht hW) h.S.2.2 hdg hlk)
theorem r_vret {S : Type} {rv : S → Option Value} {post : S → Prop} {w1 : S → va_W} {mc ms : Nat} (C : Cx p m c cc nL s args own) (hQ : Q = MQ below (QV rv post (Bw D g A w1) A) args s mc ms A) (hr : meth.sig.returnType = none) (hlk : meth.locks = false) (h : Hx D g s A s.heap ws H locs) (hdg : decode cc pc = .ok (.return_, 1))
    (u : S) (hv : none = rv u) (hw : ws.Perm (w1 u)) (hp : post u) (h1 : cells ≤ mc) (h2 : slots ≤ ms) : W p l e R s m args below meth c H locs cells slots Q (F0 m pc ls []) := by
  subst hQ
  exact W.widen h1 h2 (W.vret C.1 C.2.1 hr (fun t ht hW => r_done (mc := 0) (ms := 0) h u hv hp hw t ht hW) h.S.2.2 hdg hlk)
theorem r_aret {S : Type} {rv : S → Option Value} {post : S → Prop} {w1 : S → va_W} {mc ms : Nat} {C0 : String} (C : Cx p m c cc nL s args own) (hQ : Q = MQ below (QV rv post (Bw D g A w1) A) args s mc ms A) (hr : meth.sig.returnType = some (.object C0)) (hlk : meth.locks = false) (h : Hx D g s A s.heap ws H locs) (hdg : decode cc pc = .ok (.areturn, 1)) {v : Nat}
    (u : S) (hv : some (.ref v) = rv u) (hw : ws.Perm (w1 u)) (hp : post u) (h1 : cells ≤ mc) (h2 : slots ≤ ms) : W p l e R s m args below meth c H locs cells slots Q (F0 m pc ls [.ref v]) := by
  subst hQ
  exact W.widen h1 h2 (W.aret C.1 C.2.1 hr (Or.inl ⟨_, rfl⟩) (Or.inr ⟨_, rfl⟩) (fun t ht hW => r_done (mc := 0) (ms := 0) h u hv hp hw t ht hW) h.S.2.2 hdg hlk)
/-- a boolean as the machine has it -/
def bI (b : Bool) : Int32 := if b then 1 else 0
theorem bI_t : bI true = 1 := rfl
theorem bI_f : bI false = 0 := rfl
theorem bI_nar (b : Bool) : narrow .boolean (.int (bI b)) = .int (bI b) := by cases b <;> rfl
theorem bI_0 {b : Bool} : bI b = 0 ↔ b = false := by cases b <;> decide
theorem bI_inj {a b : Bool} : bI a = bI b ↔ a = b := by cases a <;> cases b <;> decide
theorem bI_1 : (1 : Int32) = bI true := rfl
theorem bI_00 : (0 : Int32) = bI false := rfl
theorem r_zret {S : Type} {rv : S → Option Value} {post : S → Prop} {w1 : S → va_W} {mc ms : Nat} (C : Cx p m c cc nL s args own) (hQ : Q = MQ below (QV rv post (Bw D g A w1) A) args s mc ms A) (hr : meth.sig.returnType = some .boolean) (hlk : meth.locks = false) (h : Hx D g s A s.heap ws H locs) (hdg : decode cc pc = .ok (.ireturn, 1)) {v : Int32} (b : Bool) (hb : v = bI b)
    (u : S) (hv : some (.int v) = rv u) (hw : ws.Perm (w1 u)) (hp : post u) (h1 : cells ≤ mc) (h2 : slots ≤ ms) : W p l e R s m args below meth c H locs cells slots Q (F0 m pc ls [.int v]) := by
  subst hQ
  exact W.widen h1 h2 (W.zret C.1 C.2.1 hr (by rw [hb]; exact bI_nar b) (fun t ht hW => r_done (mc := 0) (ms := 0) h u hv hp hw t ht hW) h.S.2.2 hdg hlk)
/-! calls -/
theorem r_call {S : Type} {rv : S → Option Value} {post : S → Prop} {w1 ws2 : S → va_W} {wc wr : va_W} {mc ms : Nat} {a : Array Value} {st0 : List Value} (k n : Nat)
    (hr : va_Run p l e R s m args below meth c H locs cells slots mc ms (F0 m pc ls st0) rest (QV rv post (Bw D g (va_A wc H.size) w1) (va_A wc H.size) a) (va_A wc H.size))
    (h : Hx D g s A H0 ws H locs) (hp : ws.Perm (wc ++ wr)) (hq : ∀ u, (w1 u ++ wr).Perm (ws2 u)) (hk : cells + mc ≤ k) (hn : slots + ms ≤ n)
    (kk : ∀ (u : S) (H1 : Heap) (locs1 : List Loc), post u → H.size ≤ H1.size → Hx D g s A H0 (ws2 u) H1 locs1 → W p l e R s m args below meth c H1 locs1 k n Q (F0 m (pc + 3) ls ((rv u).toList ++ rest))) : W p l e R s m args below meth c H locs cells slots Q (F0 m pc ls st0) := by
  obtain ⟨hK, hP, hD, hS, hA⟩ := h
  have hP2 := vP_perm hp hP
  have hD2 := vD_perm hp hD
  have hDi := vD_iff.mp hD2
  rw [List.map_append, List.nodup_append] at hDi
  have hF : ∀ q, va_A wc H.size q → A q := by
    rintro q (⟨k1, e1, h1⟩ | h1)
    · exact hDi.2 (q, e1) (List.mem_append_left _ (List.mem_of_getElem? h1))
    · exact hA q (Nat.le_trans hS.1 h1)
  have hap : ∀ q ∈ wr, q.1 < H.size ∧ ¬ va_A wc H.size q.1 := by
    intro q hq1
    have hlt : q.1 < H.size := (vP_iff.mp hP2 q (List.mem_append_right _ hq1)).lt
    refine ⟨hlt, ?_⟩
    rintro (⟨k1, e1, h1⟩ | h1)
    · exact hDi.1.2.2 q.1 (List.mem_map.mpr ⟨(q.1, e1), List.mem_of_getElem? h1, rfl⟩) q.1 (List.mem_map.mpr ⟨q, hq1, rfl⟩) rfl
    · omega
  intro T hT X
  obtain ⟨v, st₀, t, T', L, h0, X', hL, e1, e2, ⟨⟨u, hv, hpo, hbP, hbD⟩, hz, hkk⟩, st⟩ := hr T hT X
  cases hv
  rw [h0] at hz hkk
  have hal : s.vm.Alike t.vm := by rw [← e2]; exact X'.warmed.alike
  have hbDi := vD_iff.mp hbD
  have hP3 : va_P D vwCl (w1 u ++ wr) T'.heap := by
    rw [e1]
    refine va_P.app hbP (vP_iff.mpr fun q hq1 => ?_)
    exact (vP_iff.mp hP2 q (List.mem_append_right _ hq1)).kept (hkk q.1 (hap q hq1).1 (hap q hq1).2)
  have hD3 : va_D A (w1 u ++ wr) := by
    refine vD_iff.mpr ⟨?_, fun q hq1 => ?_⟩
    · rw [List.map_append, List.nodup_append]
      refine ⟨hbDi.1, hDi.1.2.1, fun x hx y hy hxy => ?_⟩
      obtain ⟨q1, hq1, rfl⟩ := List.mem_map.mp hx
      obtain ⟨q2, hq2, rfl⟩ := List.mem_map.mp hy
      exact (hap q2 hq2).2 (by rw [← hxy]; exact hbDi.2 q1 hq1)
    · rcases List.mem_append.mp hq1 with h1 | h1
      · exact hF _ (hbDi.2 q h1)
      · exact hDi.2 q (List.mem_append_right _ h1)
  have hS3 : va_S A H0 T'.heap (locs ++ L) := ⟨Nat.le_trans hS.1 (by rw [e1]; exact hz), fun q h1 h2 => by
      rw [e1, hkk q (Nat.lt_of_lt_of_le h1 hS.1) (fun z => h2 (hF q z))]; exact hS.2.1 q h1 h2, fun q hq => by
      rcases List.mem_append.mp hq with h | h
      · exact hS.2.2 q h
      · exact hF _ (hL q h)⟩
  obtain ⟨t2, a1, b1⟩ := W.widen hk hn (kk u T'.heap (locs ++ L) hpo (by rw [e1]; exact hz) ⟨hK, vP_perm (hq u) hP3, vD_perm (hq u) hD3, hS3, hA⟩) T' rfl X'
  exact ⟨t2, st t2 a1, b1⟩
theorem r_pre {av : List Value} {wc wr : va_W} (h : Hx D g s A H0 ws H locs) (hp : ws.Perm (wc ++ wr)) : FrameBlind (Pw D g av wc H.size) ∧ ∀ U : State, U.heap = H → s.WarmedH U.vm → Pw D g av wc H.size av.toArray U := by
  refine ⟨Pw_blind, fun U hU hW => ⟨rfl, by rw [hU], ?_, ⟨va_K.moved hW.alike h.1.1, h.1.2.warm hW⟩, ?_⟩⟩
  · rw [hU]
    exact vP_iff.mpr fun q hq => vP_iff.mp (vP_perm hp h.2.1) q (List.mem_append_left _ hq)
  · have h2 := vD_iff.mp (vD_perm hp h.2.2.1)
    refine vD_iff.mpr ⟨?_, fun _ _ => trivial⟩
    have := h2.1
    rw [List.map_append, List.nodup_append] at this
    exact this.1
/-- what a call site says of the tables: virtual -/
theorem kV {ownr Cn : String} {idx maxL n : Nat} {y : MethodName} {bytes : ByteArray} {ret : Option FieldType} {rm : Room} (C : Cx p m c cc nL s args own) (hc : Cond.code y bytes maxL ret ∈ wsL_law) (hl : Cond.methodLink ownr idx y ∈ wsL_law) (hi : Cond.instanceMethod y ∈ wsL_law) (hs : Cond.selects Cn y y ∈ wsL_law) (hini : Cond.initialized y.cls ∈ wsL_law)
    (hd : y.cls ≠ "java/lang/invoke/MethodHandle" ∧ y.cls ≠ "java/lang/invoke/VarHandle" ∧ (parseMethodDescriptor y.desc).map (fun d => d.parameters.length) = some n) (hR : rm.frames + 1 ≤ R.frames ∧ 8 + (maxL + 11) + rm.locals ≤ R.locals) : CallW R s args ownr Cn idx y bytes maxL ret (wd y bytes maxL ret) rm rm.cells rm.slots n :=
  ⟨callB_of n C.2.2.2.2 (gIn hc) rfl rfl rfl (C.2.2.2.2 _ hini) (C.2.2.2.2 _ hl) hd hR, C.2.2.2.2 _ hi, C.2.2.2.2 _ hs⟩
theorem kS {ownr : String} {idx maxL n : Nat} {y : MethodName} {bytes : ByteArray} {ret : Option FieldType} {rm : Room} (C : Cx p m c cc nL s args own) (hc : Cond.code y bytes maxL ret ∈ wsL_law) (hl : Cond.methodLink ownr idx y ∈ wsL_law) (hi : Cond.static y ∈ wsL_law) (hini : Cond.initialized y.cls ∈ wsL_law)
    (hd : y.cls ≠ "java/lang/invoke/MethodHandle" ∧ y.cls ≠ "java/lang/invoke/VarHandle" ∧ (parseMethodDescriptor y.desc).map (fun d => d.parameters.length) = some n) (hR : rm.frames + 1 ≤ R.frames ∧ 8 + (maxL + 11) + rm.locals ≤ R.locals) : CallB R s args ownr idx y bytes maxL ret (wd y bytes maxL ret) rm rm.cells rm.slots n ∧ (Cond.static y).before args s = true :=
  ⟨callB_of n C.2.2.2.2 (gIn hc) rfl rfl rfl (C.2.2.2.2 _ hini) (C.2.2.2.2 _ hl) hd hR, C.2.2.2.2 _ hi⟩
theorem kI {ownr : String} {idx maxL n : Nat} {y : MethodName} {bytes : ByteArray} {rm : Room} (C : Cx p m c cc nL s args own) (hc : Cond.code y bytes maxL none ∈ wsL_law) (hl : Cond.methodLink ownr idx y ∈ wsL_law) (hi : Cond.instanceMethod y ∈ wsL_law) (hini : Cond.initialized y.cls ∈ wsL_law) (hy1 : y.name = "<init>")
    (hd : y.cls ≠ "java/lang/invoke/MethodHandle" ∧ y.cls ≠ "java/lang/invoke/VarHandle" ∧ (parseMethodDescriptor y.desc).map (fun d => d.parameters.length) = some n) (hR : rm.frames + 1 ≤ R.frames ∧ 8 + (maxL + 11) + rm.locals ≤ R.locals) : CallB R s args ownr idx y bytes maxL none (wd y bytes maxL none) rm rm.cells rm.slots n ∧ y.name = "<init>" ∧ (Cond.instanceMethod y).before args s = true :=
  ⟨callB_of n C.2.2.2.2 (gIn hc) rfl rfl rfl (C.2.2.2.2 _ hini) (C.2.2.2.2 _ hl) hd hR, hy1, C.2.2.2.2 _ hi⟩
theorem kIN {ownr host : String} {idx maxL n : Nat} {y : MethodName} {bytes : ByteArray} {rm : Room} (C : Cx p m c cc nL s args own) (hK : Kx D g s) (hc : Cond.code y bytes maxL none ∈ wsL_law) (hl : (ownr, idx, y, host) ∈ nstW) (hi : Cond.instanceMethod y ∈ wsL_law) (hini : Cond.initialized y.cls ∈ wsL_law) (hy1 : y.name = "<init>")
    (hd : y.cls ≠ "java/lang/invoke/MethodHandle" ∧ y.cls ≠ "java/lang/invoke/VarHandle" ∧ (parseMethodDescriptor y.desc).map (fun d => d.parameters.length) = some n) (hR : rm.frames + 1 ≤ R.frames ∧ 8 + (maxL + 11) + rm.locals ≤ R.locals) : va_CN R s args ownr idx y host bytes maxL none (wd y bytes maxL none) rm rm.cells rm.slots n ∧ y.name = "<init>" ∧ (Cond.instanceMethod y).before args s = true :=
  ⟨va_cnB n C.2.2.2.2 (gIn hc) rfl rfl rfl (hK.2.1 _ hl) (C.2.2.2.2 _ hini) hd hR, hy1, C.2.2.2.2 _ hi⟩
theorem r_invV {S : Type} {rv : S → Option Value} {post : S → Prop} {w1 ws2 : S → va_W} {wc wr : va_W} {y : MethodName} {bytes : ByteArray} {maxL idx n2 ci b : Nat} {ret : Option FieldType} {rm : Room} {Cn : vw_C} {fs As st0 : List Value} (k n : Nat)
    (C : Cx p m c cc nL s args own) (h : Hx D g s A H0 ws H locs) (hl : ls.size = nL) (ct : Ct l D g y bytes maxL ret rm (.ref b :: As) wc rv post w1) (cw : CallW R s args own Cn.1 idx y bytes maxL ret (wd y bytes maxL ret) rm rm.cells rm.slots n2)
    (hb : (b, .inr (ci, fs)) ∈ ws) (hci : vwCl[ci]? = some Cn) (hn2 : As.length = n2) (hst : st0 = As.reverse ++ .ref b :: rest) (hro : (rest.map fun v => v.category).sum ≤ 8) (hp : ws.Perm (wc ++ wr)) (hq : ∀ u, (w1 u ++ wr).Perm (ws2 u))
    (hf : cells + rm.cells ≤ R.cells ∧ slots + rm.slots ≤ R.slots) (hk : cells + rm.cells ≤ k) (hn : slots + rm.slots ≤ n) (hdg : decode cc pc = .ok (.invokevirtual idx, 3))
    (kk : ∀ (u : S) (H1 : Heap) (locs1 : List Loc), post u → H.size ≤ H1.size → Hx D g s A H0 (ws2 u) H1 locs1 → W p l e R s m args below meth c H1 locs1 k n Q (F0 m (pc + 3) ls ((rv u).toList ++ rest))) : W p l e R s m args below meth c H locs cells slots Q (F0 m pc ls st0) :=
  (List.getElem?_of_mem hb).elim fun q0 hq0 =>
  r_call k n (va_runV (As := As) (rest := rest) C (ct H.size) cw ⟨(r_pre (av := .ref b :: As) h hp).1, va_recv h.1.1 h.2.1 hci hq0, (r_pre (av := .ref b :: As) h hp).2⟩ rfl hn2 hl hst (lv_room hro) hdg hf) h hp hq hk hn kk
theorem r_invS {S : Type} {rv : S → Option Value} {post : S → Prop} {w1 ws2 : S → va_W} {wc wr : va_W} {y : MethodName} {bytes : ByteArray} {maxL idx n2 : Nat} {ret : Option FieldType} {rm : Room} {As st0 : List Value} (k n : Nat)
    (C : Cx p m c cc nL s args own) (h : Hx D g s A H0 ws H locs) (hl : ls.size = nL) (ct : Ct l D g y bytes maxL ret rm As wc rv post w1) (cw : CallB R s args own idx y bytes maxL ret (wd y bytes maxL ret) rm rm.cells rm.slots n2 ∧ (Cond.static y).before args s = true)
    (hn2 : As.length = n2) (hst : st0 = As.reverse ++ rest) (hro : (rest.map fun v => v.category).sum ≤ 8) (hp : ws.Perm (wc ++ wr)) (hq : ∀ u, (w1 u ++ wr).Perm (ws2 u))
    (hf : cells + rm.cells ≤ R.cells ∧ slots + rm.slots ≤ R.slots) (hk : cells + rm.cells ≤ k) (hn : slots + rm.slots ≤ n) (hdg : decode cc pc = .ok (.invokestatic idx, 3))
    (kk : ∀ (u : S) (H1 : Heap) (locs1 : List Loc), post u → H.size ≤ H1.size → Hx D g s A H0 (ws2 u) H1 locs1 → W p l e R s m args below meth c H1 locs1 k n Q (F0 m (pc + 3) ls ((rv u).toList ++ rest))) : W p l e R s m args below meth c H locs cells slots Q (F0 m pc ls st0) :=
  r_call k n (va_runS (As := As) (rest := rest) C (ct H.size) cw (r_pre (av := As) h hp) rfl hn2 hl hst (lv_room hro) hdg hf) h hp hq hk hn kk
theorem r_invI {S : Type} {rv : S → Option Value} {post : S → Prop} {w1 ws2 : S → va_W} {wc wr : va_W} {y : MethodName} {bytes : ByteArray} {maxL idx n2 b : Nat} {rm : Room} {As st0 : List Value} (k n : Nat)
    (C : Cx p m c cc nL s args own) (h : Hx D g s A H0 ws H locs) (hl : ls.size = nL) (ct : Ct l D g y bytes maxL none rm (.ref b :: As) wc rv post w1) (cw : CallB R s args own idx y bytes maxL none (wd y bytes maxL none) rm rm.cells rm.slots n2 ∧ y.name = "<init>" ∧ (Cond.instanceMethod y).before args s = true)
    (hn2 : As.length = n2) (hst : st0 = As.reverse ++ .ref b :: rest) (hro : (rest.map fun v => v.category).sum ≤ 8) (hp : ws.Perm (wc ++ wr)) (hq : ∀ u, (w1 u ++ wr).Perm (ws2 u))
    (hf : cells + rm.cells ≤ R.cells ∧ slots + rm.slots ≤ R.slots) (hk : cells + rm.cells ≤ k) (hn : slots + rm.slots ≤ n) (hdg : decode cc pc = .ok (.invokespecial idx, 3))
    (kk : ∀ (u : S) (H1 : Heap) (locs1 : List Loc), post u → H.size ≤ H1.size → Hx D g s A H0 (ws2 u) H1 locs1 → W p l e R s m args below meth c H1 locs1 k n Q (F0 m (pc + 3) ls ((rv u).toList ++ rest))) : W p l e R s m args below meth c H locs cells slots Q (F0 m pc ls st0) :=
  r_call k n (va_runI (As := As) (rest := rest) C (ct H.size) cw (r_pre (av := .ref b :: As) h hp) rfl hn2 hl hst (lv_room hro) hdg hf) h hp hq hk hn kk
theorem r_invIN {S : Type} {rv : S → Option Value} {post : S → Prop} {w1 ws2 : S → va_W} {wc wr : va_W} {y : MethodName} {bytes : ByteArray} {maxL idx n2 b : Nat} {host : String} {rm : Room} {As st0 : List Value} (k n : Nat)
    (C : Cx p m c cc nL s args own) (h : Hx D g s A H0 ws H locs) (hl : ls.size = nL) (ct : Ct l D g y bytes maxL none rm (.ref b :: As) wc rv post w1) (cw : va_CN R s args own idx y host bytes maxL none (wd y bytes maxL none) rm rm.cells rm.slots n2 ∧ y.name = "<init>" ∧ (Cond.instanceMethod y).before args s = true)
    (hn2 : As.length = n2) (hst : st0 = As.reverse ++ .ref b :: rest) (hro : (rest.map fun v => v.category).sum ≤ 8) (hp : ws.Perm (wc ++ wr)) (hq : ∀ u, (w1 u ++ wr).Perm (ws2 u))
    (hf : cells + rm.cells ≤ R.cells ∧ slots + rm.slots ≤ R.slots) (hk : cells + rm.cells ≤ k) (hn : slots + rm.slots ≤ n) (hdg : decode cc pc = .ok (.invokespecial idx, 3))
    (kk : ∀ (u : S) (H1 : Heap) (locs1 : List Loc), post u → H.size ≤ H1.size → Hx D g s A H0 (ws2 u) H1 locs1 → W p l e R s m args below meth c H1 locs1 k n Q (F0 m (pc + 3) ls ((rv u).toList ++ rest))) : W p l e R s m args below meth c H locs cells slots Q (F0 m pc ls st0) :=
  r_call k n (va_runIN (As := As) (rest := rest) C (ct H.size) cw (r_pre (av := .ref b :: As) h hp) rfl hn2 hl hst (lv_room hro) hdg hf) h hp hq hk hn kk
end BASE
end
section
/-! ROWS over the base: ints as iI z, z an Int; longs as lI z; comparisons by Int; arrays at Nat places -/
def iI (z : Int) : Int32 := Int32.ofInt z
def lI (z : Int) : Int64 := Int64.ofInt z
abbrev R32 (z : Int) : Prop := -2147483648 ≤ z ∧ z < 2147483648
abbrev R64 (z : Int) : Prop := -9223372036854775808 ≤ z ∧ z < 9223372036854775808
theorem iI_toInt {z : Int} (h : R32 z) : (iI z).toInt = z := by
  unfold iI
  rw [Int32.toInt_ofInt]
  have e : ((Int32.size : Nat) : Int) = 4294967296 := rfl
  rw [Int.bmod_eq_of_le] <;> omega
theorem lI_toInt {z : Int} (h : R64 z) : (lI z).toInt = z := by
  unfold lI
  rw [Int64.toInt_ofInt]
  have e : ((Int64.size : Nat) : Int) = 18446744073709551616 := rfl
  rw [Int.bmod_eq_of_le] <;> omega
theorem iI_of (x : Int32) : iI x.toInt = x := Int32.ofInt_toInt x
theorem lI_of (x : Int64) : lI x.toInt = x := Int64.ofInt_toInt x
theorem R32_of (x : Int32) : R32 x.toInt := ⟨x.minValue_le_toInt, by have := x.toInt_lt; omega⟩
theorem iI_ex (x : Int32) : ∃ z : Int, x = iI z ∧ R32 z := ⟨x.toInt, (iI_of x).symm, R32_of x⟩
theorem R64_of (x : Int64) : R64 x.toInt := ⟨x.minValue_le_toInt, by have := x.toInt_lt; omega⟩
theorem lI_ex (x : Int64) : ∃ z : Int, x = lI z ∧ R64 z := ⟨x.toInt, (lI_of x).symm, R64_of x⟩
theorem iI_add (a b : Int) : iI a + iI b = iI (a + b) := (Int32.ofInt_add a b).symm
theorem iI_sub (a b : Int) : iI a - iI b = iI (a - b) := (Int32.ofInt_sub a b).symm
theorem iI_mul (a b : Int) : iI a * iI b = iI (a * b) := (Int32.ofInt_mul a b).symm
theorem lI_add (a b : Int) : lI a + lI b = lI (a + b) := (Int64.ofInt_add a b).symm
theorem lI_sub (a b : Int) : lI a - lI b = lI (a - b) := (Int64.ofInt_sub a b).symm
theorem lI_mul (a b : Int) : lI a * lI b = lI (a * b) := (Int64.ofInt_mul a b).symm
theorem iI_le {a b : Int} (ha : R32 a) (hb : R32 b) : iI a ≤ iI b ↔ a ≤ b := by rw [Int32.le_iff_toInt_le, iI_toInt ha, iI_toInt hb]
theorem iI_lt {a b : Int} (ha : R32 a) (hb : R32 b) : iI a < iI b ↔ a < b := by rw [Int32.lt_iff_toInt_lt, iI_toInt ha, iI_toInt hb]
theorem iI_eq {a b : Int} (ha : R32 a) (hb : R32 b) : iI a = iI b ↔ a = b := ⟨fun h => by rw [← iI_toInt ha, h, iI_toInt hb], fun h => by rw [h]⟩
theorem lI_le {a b : Int} (ha : R64 a) (hb : R64 b) : lI a ≤ lI b ↔ a ≤ b := by rw [Int64.le_iff_toInt_le, lI_toInt ha, lI_toInt hb]
theorem lI_lt {a b : Int} (ha : R64 a) (hb : R64 b) : lI a < lI b ↔ a < b := by rw [Int64.lt_iff_toInt_lt, lI_toInt ha, lI_toInt hb]
theorem lI_eq {a b : Int} (ha : R64 a) (hb : R64 b) : lI a = lI b ↔ a = b := ⟨fun h => by rw [← lI_toInt ha, h, lI_toInt hb], fun h => by rw [h]⟩
theorem iI_l {z : Int} (h : R32 z) : (iI z).toInt64 = lI z := by
  rw [← lI_of (iI z).toInt64, Int32.toInt_toInt64, iI_toInt h]
theorem lI_i (z : Int) : (lI z).toInt32 = iI z := by
  unfold lI iI
  rw [Int64.toInt32_ofInt]
theorem iI_0 : iI 0 = 0 := rfl
theorem iI_1 : iI 1 = 1 := rfl
theorem iI_m1 : iI (-1) = -1 := rfl
theorem iI_b0 : iI 0 = bI false := rfl
theorem iI_b1 : iI 1 = bI true := rfl
theorem lI_0 : lI 0 = 0 := rfl
theorem lI_1 : lI 1 = 1 := rfl
theorem iI_in {z : Int} {k n : Nat} (hz : z = k) (hk : k < n) (hn : n < 2147483648) : vp_in (iI z) n ∧ (iI z).toNatClampNeg = k := by
  have hR : R32 z := by constructor <;> omega
  have h1 : (iI z).toInt = (k : Int) := by rw [iI_toInt hR, hz]
  have h2 : (iI z).toNatClampNeg = k := by
    show (iI z).toInt.toNat = k
    rw [h1]
    rfl
  refine ⟨fun h => ?_, h2⟩
  rcases h with h | h
  · rw [Int32.lt_iff_toInt_lt, h1, Int32.toInt_zero] at h
    omega
  · omega
/-- an array's content, one place changed -/
def up {α : Type} (f : Nat → α) (k : Nat) (x : α) : Nat → α := fun j => if j = k then x else f j
theorem up_s {α : Type} {f : Nat → α} {k : Nat} {x : α} : up f k x k = x := if_pos rfl
theorem up_n {α : Type} {f : Nat → α} {k j : Nat} {x : α} (h : j ≠ k) : up f k x j = f j := if_neg h
/-- contents of arrays by Ints, Bools -/
def aI (F : Nat → Int) : Nat → Int32 := fun j => iI (F j)
def aB (F : Nat → Bool) : Nat → Int32 := fun j => bI (F j)
def aL (F : Nat → Int) : Nat → Int64 := fun j => lI (F j)
theorem aI_up (F : Nat → Int) (k : Nat) (z : Int) : up (aI F) k (iI z) = aI (up F k z) := by
  funext j
  show (if j = k then iI z else iI (F j)) = iI (if j = k then z else F j)
  split <;> rfl
theorem aB_up (F : Nat → Bool) (k : Nat) (z : Bool) : up (aB F) k (bI z) = aB (up F k z) := by
  funext j
  show (if j = k then bI z else bI (F j)) = bI (if j = k then z else F j)
  split <;> rfl
theorem aL_up (F : Nat → Int) (k : Nat) (z : Int) : up (aL F) k (lI z) = aL (up F k z) := by
  funext j
  show (if j = k then lI z else lI (F j)) = lI (if j = k then z else F j)
  split <;> rfl
/-- the outer array of a grid -/
def gO (n : Nat) (r : Nat → Nat) : Nat → Option Nat := fun i => if i < n then some (r i) else none
/-- cells: arrays of int, char, boolean, long, int[], Kept -/
def cI (g : Nat → ClassId) (n : Nat) (F : Nat → Int) : va_E := .inl (g 0, n, .inl (aI F))
def cC (g : Nat → ClassId) (n : Nat) (F : Nat → Int) : va_E := .inl (g 1, n, .inl (aI F))
def cZ (g : Nat → ClassId) (n : Nat) (F : Nat → Bool) : va_E := .inl (g 2, n, .inl (aB F))
def cJ (g : Nat → ClassId) (n : Nat) (F : Nat → Int) : va_E := .inl (g 3, n, .inr (.inl (aL F)))
def cG (g : Nat → ClassId) (n : Nat) (r : Nat → Nat) : va_E := .inl (g 4, n, .inr (.inr (.inr (.inr (gO n r)))))
def cQ (g : Nat → ClassId) (n : Nat) (f : Nat → Option Nat) : va_E := .inl (g 5, n, .inr (.inr (.inr (.inr f))))
/-- the rows of a grid -/
def sG (g : Nat → ClassId) (r : Nat → Nat) (n len : Nat) (F : Nat → Nat → Int) : va_W := (List.range n).map (fun i => (r i, cI g len (F i)))
/-- all but one -/
def sGx (g : Nat → ClassId) (r : Nat → Nat) (n len : Nat) (F : Nat → Nat → Int) (i : Nat) : va_W := ((List.range n).erase i).map (fun i => (r i, cI g len (F i)))
theorem sG_split {g : Nat → ClassId} {r : Nat → Nat} {n len : Nat} {F : Nat → Nat → Int} {i : Nat} (h : i < n) : (sG g r n len F).Perm ((r i, cI g len (F i)) :: sGx g r n len F i) := by
  unfold sG sGx
  exact (List.perm_cons_erase (List.mem_range.mpr h)).map _
theorem sGx_up {g : Nat → ClassId} {r : Nat → Nat} {n len : Nat} {F : Nat → Nat → Int} {i : Nat} {f : Nat → Int} : sGx g r n len (up F i f) i = sGx g r n len F i := by
  unfold sGx
  apply List.map_congr_left
  intro j hj
  have : j ≠ i := fun e => by
    subst e
    exact (List.Nodup.not_mem_erase List.nodup_range) hj
  rw [up_n this]
theorem sG_put {g : Nat → ClassId} {r : Nat → Nat} {n len : Nat} {F : Nat → Nat → Int} {i : Nat} {f : Nat → Int} (h : i < n) : (sG g r n len (up F i f)).Perm ((r i, cI g len f) :: sGx g r n len F i) := by
  have h1 := sG_split (g := g) (r := r) (len := len) (F := up F i f) h
  rw [up_s, sGx_up] at h1
  exact h1
theorem sG_get {g : Nat → ClassId} {r : Nat → Nat} {n len : Nat} {F : Nat → Nat → Int} {i : Nat} (h : i < n) : (r i, cI g len (F i)) ∈ sG g r n len F := List.mem_map.mpr ⟨i, List.mem_range.mpr h, rfl⟩
section ROWS
variable {p : Program} {l : Launch} {e : Env} {R : Room} {s : State} {m : MethodId} {args : Array Value} {below : List Frame} {meth : Method} {c : Code} {H H0 : Heap} {locs : List Loc} {cells slots : Nat} {Q : State → Prop}
variable {cc : ByteArray} {pc : Nat} {ls : Array Slot} {rest : List Value} {D : va_G} {g : Nat → ClassId} {A : Nat → Prop} {ws : va_W} {nL : Nat} {own : String}
theorem i_add (C : Cx p m c cc nL s args own) {a b : Int} (hdg : decode cc pc = .ok (.iadd, 1)) (k : W p l e R s m args below meth c H locs cells slots Q (F0 m (pc + 1) ls (.int (iI (a + b)) :: rest))) : W p l e R s m args below meth c H locs cells slots Q (F0 m pc ls (.int (iI b) :: .int (iI a) :: rest)) :=
  lv_iadd C.1 C.2.1 hdg (by rw [iI_add]; exact k)
theorem i_sub (C : Cx p m c cc nL s args own) {a b : Int} (hdg : decode cc pc = .ok (.isub, 1)) (k : W p l e R s m args below meth c H locs cells slots Q (F0 m (pc + 1) ls (.int (iI (a - b)) :: rest))) : W p l e R s m args below meth c H locs cells slots Q (F0 m pc ls (.int (iI b) :: .int (iI a) :: rest)) :=
  lv_isub C.1 C.2.1 hdg (by rw [iI_sub]; exact k)
theorem i_mul (C : Cx p m c cc nL s args own) {a b : Int} (hdg : decode cc pc = .ok (.imul, 1)) (k : W p l e R s m args below meth c H locs cells slots Q (F0 m (pc + 1) ls (.int (iI (a * b)) :: rest))) : W p l e R s m args below meth c H locs cells slots Q (F0 m pc ls (.int (iI b) :: .int (iI a) :: rest)) :=
  lv_imul C.1 C.2.1 hdg (by rw [iI_mul]; exact k)
theorem l_add (C : Cx p m c cc nL s args own) {a b : Int} (hdg : decode cc pc = .ok (.ladd, 1)) (k : W p l e R s m args below meth c H locs cells slots Q (F0 m (pc + 1) ls (.long (lI (a + b)) :: rest))) : W p l e R s m args below meth c H locs cells slots Q (F0 m pc ls (.long (lI b) :: .long (lI a) :: rest)) :=
  lv_ladd C.1 C.2.1 hdg (by rw [lI_add]; exact k)
theorem l_sub (C : Cx p m c cc nL s args own) {a b : Int} (hdg : decode cc pc = .ok (.lsub, 1)) (k : W p l e R s m args below meth c H locs cells slots Q (F0 m (pc + 1) ls (.long (lI (a - b)) :: rest))) : W p l e R s m args below meth c H locs cells slots Q (F0 m pc ls (.long (lI b) :: .long (lI a) :: rest)) :=
  lv_lsub C.1 C.2.1 hdg (by rw [lI_sub]; exact k)
theorem l_mul (C : Cx p m c cc nL s args own) {a b : Int} (hdg : decode cc pc = .ok (.lmul, 1)) (k : W p l e R s m args below meth c H locs cells slots Q (F0 m (pc + 1) ls (.long (lI (a * b)) :: rest))) : W p l e R s m args below meth c H locs cells slots Q (F0 m pc ls (.long (lI b) :: .long (lI a) :: rest)) :=
  lv_lmul C.1 C.2.1 hdg (by rw [lI_mul]; exact k)
theorem i_i2l (C : Cx p m c cc nL s args own) {a : Int} (hdg : decode cc pc = .ok (.i2l, 1)) (h : R32 a) (k : W p l e R s m args below meth c H locs cells slots Q (F0 m (pc + 1) ls (.long (lI a) :: rest))) : W p l e R s m args below meth c H locs cells slots Q (F0 m pc ls (.int (iI a) :: rest)) :=
  lv_i2l C.1 C.2.1 hdg (iI_l h) k
theorem l_l2i (C : Cx p m c cc nL s args own) {a : Int} (hdg : decode cc pc = .ok (.l2i, 1)) (k : W p l e R s m args below meth c H locs cells slots Q (F0 m (pc + 1) ls (.int (iI a) :: rest))) : W p l e R s m args below meth c H locs cells slots Q (F0 m pc ls (.long (lI a) :: rest)) :=
  lv_l2i C.1 C.2.1 hdg (lI_i a) k
theorem i_inc (C : Cx p m c cc nL s args own) {i q : Nat} {n a : Int} {lv lv' : List (Nat × Value)} (hl : lv_has ls nL lv) (hdg : decode cc pc = .ok (.iinc i n, 3)) (hk : lv[q]? = some (i, .int (iI a))) (hn : i < nL) (hl2 : (i, Value.int (iI (a + n))) :: lv.filter (fun q => !(q.1 == i) && !(q.1 + 1 == i && q.2.category == 2)) = lv')
    (kk : ∀ ls' : Array Slot, lv_has ls' nL lv' → W p l e R s m args below meth c H locs cells slots Q (F0 m (pc + 3) ls' rest)) : W p l e R s m args below meth c H locs cells slots Q (F0 m pc ls rest) :=
  lv_iinc (v := iI (a + n)) C.1 C.2.1 hdg hl hk (iI_add a n) hn hl2 kk
/-! comparisons -/
abbrev R2 (a b : Int) : Prop := -2147483648 ≤ a ∧ a < 2147483648 ∧ -2147483648 ≤ b ∧ b < 2147483648
theorem i_ceq (C : Cx p m c cc nL s args own) {a b : Int} {off : Int} {tgt : Nat} (hdg : decode cc pc = .ok (.if_icmp .eq off, 3)) (ht : (pc : Int) + off = (tgt : Int)) (h : R2 a b) (kt : a = b → W p l e R s m args below meth c H locs cells slots Q (F0 m tgt ls rest)) (kf : a ≠ b → W p l e R s m args below meth c H locs cells slots Q (F0 m (pc + 3) ls rest)) : W p l e R s m args below meth c H locs cells slots Q (F0 m pc ls (.int (iI b) :: .int (iI a) :: rest)) :=
  lv_icmp_eq C.1 C.2.1 hdg ht (fun q => kt ((iI_eq ⟨h.1, h.2.1⟩ h.2.2).mp q)) (fun q => kf (fun z => q ((iI_eq ⟨h.1, h.2.1⟩ h.2.2).mpr z)))
theorem i_cne (C : Cx p m c cc nL s args own) {a b : Int} {off : Int} {tgt : Nat} (hdg : decode cc pc = .ok (.if_icmp .ne off, 3)) (ht : (pc : Int) + off = (tgt : Int)) (h : R2 a b) (kt : a ≠ b → W p l e R s m args below meth c H locs cells slots Q (F0 m tgt ls rest)) (kf : a = b → W p l e R s m args below meth c H locs cells slots Q (F0 m (pc + 3) ls rest)) : W p l e R s m args below meth c H locs cells slots Q (F0 m pc ls (.int (iI b) :: .int (iI a) :: rest)) :=
  lv_icmp_ne C.1 C.2.1 hdg ht (fun q => kt (fun z => q ((iI_eq ⟨h.1, h.2.1⟩ h.2.2).mpr z))) (fun q => kf ((iI_eq ⟨h.1, h.2.1⟩ h.2.2).mp q))
theorem i_clt (C : Cx p m c cc nL s args own) {a b : Int} {off : Int} {tgt : Nat} (hdg : decode cc pc = .ok (.if_icmp .lt off, 3)) (ht : (pc : Int) + off = (tgt : Int)) (h : R2 a b) (kt : a < b → W p l e R s m args below meth c H locs cells slots Q (F0 m tgt ls rest)) (kf : b ≤ a → W p l e R s m args below meth c H locs cells slots Q (F0 m (pc + 3) ls rest)) : W p l e R s m args below meth c H locs cells slots Q (F0 m pc ls (.int (iI b) :: .int (iI a) :: rest)) :=
  lv_icmp_lt C.1 C.2.1 hdg ht (fun q => kt ((iI_lt ⟨h.1, h.2.1⟩ h.2.2).mp q)) (fun q => kf (Int.not_lt.mp (fun z => q ((iI_lt ⟨h.1, h.2.1⟩ h.2.2).mpr z))))
theorem i_cge (C : Cx p m c cc nL s args own) {a b : Int} {off : Int} {tgt : Nat} (hdg : decode cc pc = .ok (.if_icmp .ge off, 3)) (ht : (pc : Int) + off = (tgt : Int)) (h : R2 a b) (kt : b ≤ a → W p l e R s m args below meth c H locs cells slots Q (F0 m tgt ls rest)) (kf : a < b → W p l e R s m args below meth c H locs cells slots Q (F0 m (pc + 3) ls rest)) : W p l e R s m args below meth c H locs cells slots Q (F0 m pc ls (.int (iI b) :: .int (iI a) :: rest)) :=
  lv_icmp_ge C.1 C.2.1 hdg ht (fun q => kt ((iI_le h.2.2 ⟨h.1, h.2.1⟩).mp q)) (fun q => kf (Int.not_le.mp (fun z => q ((iI_le h.2.2 ⟨h.1, h.2.1⟩).mpr z))))
theorem i_cgt (C : Cx p m c cc nL s args own) {a b : Int} {off : Int} {tgt : Nat} (hdg : decode cc pc = .ok (.if_icmp .gt off, 3)) (ht : (pc : Int) + off = (tgt : Int)) (h : R2 a b) (kt : b < a → W p l e R s m args below meth c H locs cells slots Q (F0 m tgt ls rest)) (kf : a ≤ b → W p l e R s m args below meth c H locs cells slots Q (F0 m (pc + 3) ls rest)) : W p l e R s m args below meth c H locs cells slots Q (F0 m pc ls (.int (iI b) :: .int (iI a) :: rest)) :=
  lv_icmp_gt C.1 C.2.1 hdg ht (fun q => kt ((iI_lt h.2.2 ⟨h.1, h.2.1⟩).mp q)) (fun q => kf (Int.not_lt.mp (fun z => q ((iI_lt h.2.2 ⟨h.1, h.2.1⟩).mpr z))))
theorem i_cle (C : Cx p m c cc nL s args own) {a b : Int} {off : Int} {tgt : Nat} (hdg : decode cc pc = .ok (.if_icmp .le off, 3)) (ht : (pc : Int) + off = (tgt : Int)) (h : R2 a b) (kt : a ≤ b → W p l e R s m args below meth c H locs cells slots Q (F0 m tgt ls rest)) (kf : b < a → W p l e R s m args below meth c H locs cells slots Q (F0 m (pc + 3) ls rest)) : W p l e R s m args below meth c H locs cells slots Q (F0 m pc ls (.int (iI b) :: .int (iI a) :: rest)) :=
  lv_icmp_le C.1 C.2.1 hdg ht (fun q => kt ((iI_le ⟨h.1, h.2.1⟩ h.2.2).mp q)) (fun q => kf (Int.not_le.mp (fun z => q ((iI_le ⟨h.1, h.2.1⟩ h.2.2).mpr z))))
theorem R2_0 {a : Int} (h : R32 a) : R2 a 0 := ⟨h.1, h.2, by decide, by decide⟩
theorem i_zeq (C : Cx p m c cc nL s args own) {a : Int} {off : Int} {tgt : Nat} (hdg : decode cc pc = .ok (.ifCond .eq off, 3)) (ht : (pc : Int) + off = (tgt : Int)) (h : R32 a) (kt : a = 0 → W p l e R s m args below meth c H locs cells slots Q (F0 m tgt ls rest)) (kf : a ≠ 0 → W p l e R s m args below meth c H locs cells slots Q (F0 m (pc + 3) ls rest)) : W p l e R s m args below meth c H locs cells slots Q (F0 m pc ls (.int (iI a) :: rest)) :=
  lv_if_eq C.1 C.2.1 hdg ht (fun q => kt ((iI_eq h (by decide)).mp q)) (fun q => kf (fun z => q ((iI_eq h (by decide)).mpr z)))
theorem i_zne (C : Cx p m c cc nL s args own) {a : Int} {off : Int} {tgt : Nat} (hdg : decode cc pc = .ok (.ifCond .ne off, 3)) (ht : (pc : Int) + off = (tgt : Int)) (h : R32 a) (kt : a ≠ 0 → W p l e R s m args below meth c H locs cells slots Q (F0 m tgt ls rest)) (kf : a = 0 → W p l e R s m args below meth c H locs cells slots Q (F0 m (pc + 3) ls rest)) : W p l e R s m args below meth c H locs cells slots Q (F0 m pc ls (.int (iI a) :: rest)) :=
  lv_if_ne C.1 C.2.1 hdg ht (fun q => kt (fun z => q ((iI_eq h (by decide)).mpr z))) (fun q => kf ((iI_eq h (by decide)).mp q))
theorem i_zlt (C : Cx p m c cc nL s args own) {a : Int} {off : Int} {tgt : Nat} (hdg : decode cc pc = .ok (.ifCond .lt off, 3)) (ht : (pc : Int) + off = (tgt : Int)) (h : R32 a) (kt : a < 0 → W p l e R s m args below meth c H locs cells slots Q (F0 m tgt ls rest)) (kf : 0 ≤ a → W p l e R s m args below meth c H locs cells slots Q (F0 m (pc + 3) ls rest)) : W p l e R s m args below meth c H locs cells slots Q (F0 m pc ls (.int (iI a) :: rest)) :=
  lv_if_lt C.1 C.2.1 hdg ht (fun q => kt ((iI_lt h (by decide)).mp q)) (fun q => kf (Int.not_lt.mp (fun z => q ((iI_lt h (by decide)).mpr z))))
theorem i_zge (C : Cx p m c cc nL s args own) {a : Int} {off : Int} {tgt : Nat} (hdg : decode cc pc = .ok (.ifCond .ge off, 3)) (ht : (pc : Int) + off = (tgt : Int)) (h : R32 a) (kt : 0 ≤ a → W p l e R s m args below meth c H locs cells slots Q (F0 m tgt ls rest)) (kf : a < 0 → W p l e R s m args below meth c H locs cells slots Q (F0 m (pc + 3) ls rest)) : W p l e R s m args below meth c H locs cells slots Q (F0 m pc ls (.int (iI a) :: rest)) :=
  lv_if_ge C.1 C.2.1 hdg ht (fun q => kt ((iI_le (by decide) h).mp q)) (fun q => kf (Int.not_le.mp (fun z => q ((iI_le (by decide) h).mpr z))))
theorem i_zgt (C : Cx p m c cc nL s args own) {a : Int} {off : Int} {tgt : Nat} (hdg : decode cc pc = .ok (.ifCond .gt off, 3)) (ht : (pc : Int) + off = (tgt : Int)) (h : R32 a) (kt : 0 < a → W p l e R s m args below meth c H locs cells slots Q (F0 m tgt ls rest)) (kf : a ≤ 0 → W p l e R s m args below meth c H locs cells slots Q (F0 m (pc + 3) ls rest)) : W p l e R s m args below meth c H locs cells slots Q (F0 m pc ls (.int (iI a) :: rest)) :=
  lv_if_gt C.1 C.2.1 hdg ht (fun q => kt ((iI_lt (by decide) h).mp q)) (fun q => kf (Int.not_lt.mp (fun z => q ((iI_lt (by decide) h).mpr z))))
theorem i_zle (C : Cx p m c cc nL s args own) {a : Int} {off : Int} {tgt : Nat} (hdg : decode cc pc = .ok (.ifCond .le off, 3)) (ht : (pc : Int) + off = (tgt : Int)) (h : R32 a) (kt : a ≤ 0 → W p l e R s m args below meth c H locs cells slots Q (F0 m tgt ls rest)) (kf : 0 < a → W p l e R s m args below meth c H locs cells slots Q (F0 m (pc + 3) ls rest)) : W p l e R s m args below meth c H locs cells slots Q (F0 m pc ls (.int (iI a) :: rest)) :=
  lv_if_le C.1 C.2.1 hdg ht (fun q => kt ((iI_le h (by decide)).mp q)) (fun q => kf (Int.not_le.mp (fun z => q ((iI_le h (by decide)).mpr z))))
theorem b_zeq (C : Cx p m c cc nL s args own) {b : Bool} {off : Int} {tgt : Nat} (hdg : decode cc pc = .ok (.ifCond .eq off, 3)) (ht : (pc : Int) + off = (tgt : Int)) (kt : b = false → W p l e R s m args below meth c H locs cells slots Q (F0 m tgt ls rest)) (kf : b = true → W p l e R s m args below meth c H locs cells slots Q (F0 m (pc + 3) ls rest)) : W p l e R s m args below meth c H locs cells slots Q (F0 m pc ls (.int (bI b) :: rest)) :=
  lv_if_eq C.1 C.2.1 hdg ht (fun q => kt (bI_0.mp q)) (fun q => kf (by cases b <;> simp_all [bI]))
theorem b_zne (C : Cx p m c cc nL s args own) {b : Bool} {off : Int} {tgt : Nat} (hdg : decode cc pc = .ok (.ifCond .ne off, 3)) (ht : (pc : Int) + off = (tgt : Int)) (kt : b = true → W p l e R s m args below meth c H locs cells slots Q (F0 m tgt ls rest)) (kf : b = false → W p l e R s m args below meth c H locs cells slots Q (F0 m (pc + 3) ls rest)) : W p l e R s m args below meth c H locs cells slots Q (F0 m pc ls (.int (bI b) :: rest)) :=
  lv_if_ne C.1 C.2.1 hdg ht (fun q => kt (by cases b <;> simp_all [bI])) (fun q => kf (bI_0.mp q))
theorem b_ceq (C : Cx p m c cc nL s args own) {a b : Bool} {off : Int} {tgt : Nat} (hdg : decode cc pc = .ok (.if_icmp .eq off, 3)) (ht : (pc : Int) + off = (tgt : Int)) (kt : a = b → W p l e R s m args below meth c H locs cells slots Q (F0 m tgt ls rest)) (kf : a ≠ b → W p l e R s m args below meth c H locs cells slots Q (F0 m (pc + 3) ls rest)) : W p l e R s m args below meth c H locs cells slots Q (F0 m pc ls (.int (bI b) :: .int (bI a) :: rest)) :=
  lv_icmp_eq C.1 C.2.1 hdg ht (fun q => kt (bI_inj.mp q)) (fun q => kf (fun z => q (bI_inj.mpr z)))
theorem b_cne (C : Cx p m c cc nL s args own) {a b : Bool} {off : Int} {tgt : Nat} (hdg : decode cc pc = .ok (.if_icmp .ne off, 3)) (ht : (pc : Int) + off = (tgt : Int)) (kt : a ≠ b → W p l e R s m args below meth c H locs cells slots Q (F0 m tgt ls rest)) (kf : a = b → W p l e R s m args below meth c H locs cells slots Q (F0 m (pc + 3) ls rest)) : W p l e R s m args below meth c H locs cells slots Q (F0 m pc ls (.int (bI b) :: .int (bI a) :: rest)) :=
  lv_icmp_ne C.1 C.2.1 hdg ht (fun q => kt (fun z => q (bI_inj.mpr z))) (fun q => kf (bI_inj.mp q))
/-- long comparisons: the answer of lcmp is -1, 0 or 1 as an Int -/
def lC (a b : Int) : Int := if b < a then 1 else if a = b then 0 else -1
theorem lC_R (a b : Int) : R32 (lC a b) := by unfold lC R32; split <;> (try split) <;> omega
theorem lC_le {a b : Int} : lC a b ≤ 0 ↔ a ≤ b := by unfold lC; split <;> (try split) <;> omega
theorem lC_lt {a b : Int} : lC a b < 0 ↔ a < b := by unfold lC; split <;> (try split) <;> omega
theorem lC_ge {a b : Int} : 0 ≤ lC a b ↔ b ≤ a := by unfold lC; split <;> (try split) <;> omega
theorem lC_gt {a b : Int} : 0 < lC a b ↔ b < a := by unfold lC; split <;> (try split) <;> omega
theorem lC_eq {a b : Int} : lC a b = 0 ↔ a = b := by unfold lC; split <;> (try split) <;> omega
theorem l_cmp (C : Cx p m c cc nL s args own) {a b : Int} (hdg : decode cc pc = .ok (.lcmp, 1)) (ha : R64 a) (hb : R64 b) (k : W p l e R s m args below meth c H locs cells slots Q (F0 m (pc + 1) ls (.int (iI (lC a b)) :: rest))) : W p l e R s m args below meth c H locs cells slots Q (F0 m pc ls (.long (lI b) :: .long (lI a) :: rest)) := by
  refine W.lcmp C.1 C.2.1 hdg ?_
  have e : lg_cmp (lI a) (lI b) = iI (lC a b) := by
    unfold lg_cmp lC
    have h1 : lI a > lI b ↔ b < a := lI_lt hb ha
    have h2 := lI_eq ha hb
    by_cases q1 : b < a
    · rw [if_pos (h1.mpr q1), if_pos q1]; rfl
    · rw [if_neg (fun z => q1 (h1.mp z)), if_neg q1]
      by_cases q2 : a = b
      · rw [if_pos (h2.mpr q2), if_pos q2]; rfl
      · rw [if_neg (fun z => q2 (h2.mp z)), if_neg q2]; rfl
  rw [e]
  exact k
/-! arrays at a Nat place -/
theorem upd_up (f : Nat → Int32) (k : Nat) (x : Int32) : upd f k x = up f k x := rfl
theorem updL_up (f : Nat → Int64) (k : Nat) (x : Int64) : vp_updL f k x = up f k x := rfl
theorem a_ild (C : Cx p m c cc nL s args own) (h : Hx D g s A H0 ws H locs) (q0 : Nat) {a n : Nat} {F : Nat → Int} (he : ws[q0]? = some (a, cI g n F)) {z : Int} (k : Nat) (hz : z = (k : Int)) (hk : k < n) (hn : n < 2147483648) (hdg : decode cc pc = .ok (.iaload, 1))
    (kk : W p l e R s m args below meth c H locs cells slots Q (F0 m (pc + 1) ls (.int (iI (F k)) :: rest))) : W p l e R s m args below meth c H locs cells slots Q (F0 m pc ls (.int (iI z) :: .ref a :: rest)) :=
  va_iald (f := aI F) C.1 C.2.1 h.1.1 h.2.1 q0 0 he rfl (iI_in hz hk hn).1 hdg (by rw [(iI_in hz hk hn).2]; exact kk)
theorem a_cld (C : Cx p m c cc nL s args own) (h : Hx D g s A H0 ws H locs) (q0 : Nat) {a n : Nat} {F : Nat → Int} (he : ws[q0]? = some (a, cC g n F)) {z : Int} (k : Nat) (hz : z = (k : Int)) (hk : k < n) (hn : n < 2147483648) (hdg : decode cc pc = .ok (.caload, 1))
    (kk : W p l e R s m args below meth c H locs cells slots Q (F0 m (pc + 1) ls (.int (iI (F k)) :: rest))) : W p l e R s m args below meth c H locs cells slots Q (F0 m pc ls (.int (iI z) :: .ref a :: rest)) :=
  va_cald (f := aI F) C.1 C.2.1 h.1.1 h.2.1 q0 1 he rfl (iI_in hz hk hn).1 hdg (by rw [(iI_in hz hk hn).2]; exact kk)
theorem a_zld (C : Cx p m c cc nL s args own) (h : Hx D g s A H0 ws H locs) (q0 : Nat) {a n : Nat} {F : Nat → Bool} (he : ws[q0]? = some (a, cZ g n F)) {z : Int} (k : Nat) (hz : z = (k : Int)) (hk : k < n) (hn : n < 2147483648) (hdg : decode cc pc = .ok (.baload, 1))
    (kk : W p l e R s m args below meth c H locs cells slots Q (F0 m (pc + 1) ls (.int (bI (F k)) :: rest))) : W p l e R s m args below meth c H locs cells slots Q (F0 m pc ls (.int (iI z) :: .ref a :: rest)) :=
  va_zald (f := aB F) C.1 C.2.1 h.1.1 h.2.1 q0 2 he rfl (iI_in hz hk hn).1 hdg (by rw [(iI_in hz hk hn).2]; exact kk)
theorem a_lld (C : Cx p m c cc nL s args own) (h : Hx D g s A H0 ws H locs) (q0 : Nat) {a n : Nat} {F : Nat → Int} (he : ws[q0]? = some (a, cJ g n F)) {z : Int} (k : Nat) (hz : z = (k : Int)) (hk : k < n) (hn : n < 2147483648) (hdg : decode cc pc = .ok (.laload, 1))
    (kk : W p l e R s m args below meth c H locs cells slots Q (F0 m (pc + 1) ls (.long (lI (F k)) :: rest))) : W p l e R s m args below meth c H locs cells slots Q (F0 m pc ls (.int (iI z) :: .ref a :: rest)) :=
  va_lald (f := aL F) C.1 C.2.1 h.1.1 h.2.1 q0 3 he rfl (iI_in hz hk hn).1 hdg (by rw [(iI_in hz hk hn).2]; exact kk)
theorem a_ist (C : Cx p m c cc nL s args own) (h : Hx D g s A H0 ws H locs) (q0 : Nat) {a n : Nat} {F : Nat → Int} {x : Int} (ws' : va_W) (he : ws[q0]? = some (a, cI g n F)) {z : Int} (k : Nat) (hw : ws.set q0 (a, cI g n (up F k x)) = ws') (hz : z = (k : Int)) (hk : k < n) (hn : n < 2147483648) (hdg : decode cc pc = .ok (.iastore, 1))
    (kk : ∀ (H1 : Heap) (locs1 : List Loc), Hx D g s A H0 ws' H1 locs1 → W p l e R s m args below meth c H1 locs1 cells slots Q (F0 m (pc + 1) ls rest)) : W p l e R s m args below meth c H locs cells slots Q (F0 m pc ls (.int (iI x) :: .int (iI z) :: .ref a :: rest)) :=
  va_iast (f := aI F) C.1 C.2.1 h.1.1 h.2.1 h.2.2.1 h.2.2.2.1 q0 0 he rfl (iI_in hz hk hn).1 hdg (fun H1 locs1 hP hD hS => kk H1 locs1 (by
    rw [(iI_in hz hk hn).2, upd_up, aI_up] at hP hD
    subst hw
    exact ⟨h.1, hP, hD, hS, h.2.2.2.2⟩))
theorem a_cst (C : Cx p m c cc nL s args own) (h : Hx D g s A H0 ws H locs) (q0 : Nat) {a n : Nat} {F : Nat → Int} {x : Int} (ws' : va_W) (he : ws[q0]? = some (a, cC g n F)) {z : Int} (k : Nat) (hw : ws.set q0 (a, cC g n (up F k x)) = ws') (hc : vp_nar .char (iI x) = iI x) (hz : z = (k : Int)) (hk : k < n) (hn : n < 2147483648) (hdg : decode cc pc = .ok (.castore, 1))
    (kk : ∀ (H1 : Heap) (locs1 : List Loc), Hx D g s A H0 ws' H1 locs1 → W p l e R s m args below meth c H1 locs1 cells slots Q (F0 m (pc + 1) ls rest)) : W p l e R s m args below meth c H locs cells slots Q (F0 m pc ls (.int (iI x) :: .int (iI z) :: .ref a :: rest)) :=
  va_cast (f := aI F) C.1 C.2.1 h.1.1 h.2.1 h.2.2.1 h.2.2.2.1 q0 1 he rfl (iI_in hz hk hn).1 hdg (fun H1 locs1 hP hD hS => kk H1 locs1 (by
    rw [(iI_in hz hk hn).2, hc, upd_up, aI_up] at hP hD
    subst hw
    exact ⟨h.1, hP, hD, hS, h.2.2.2.2⟩))
theorem a_zst (C : Cx p m c cc nL s args own) (h : Hx D g s A H0 ws H locs) (q0 : Nat) {a n : Nat} {F : Nat → Bool} {x : Bool} (ws' : va_W) (he : ws[q0]? = some (a, cZ g n F)) {z : Int} (k : Nat) (hw : ws.set q0 (a, cZ g n (up F k x)) = ws') (hz : z = (k : Int)) (hk : k < n) (hn : n < 2147483648) (hdg : decode cc pc = .ok (.bastore, 1))
    (kk : ∀ (H1 : Heap) (locs1 : List Loc), Hx D g s A H0 ws' H1 locs1 → W p l e R s m args below meth c H1 locs1 cells slots Q (F0 m (pc + 1) ls rest)) : W p l e R s m args below meth c H locs cells slots Q (F0 m pc ls (.int (bI x) :: .int (iI z) :: .ref a :: rest)) :=
  va_zast (f := aB F) C.1 C.2.1 h.1.1 h.2.1 h.2.2.1 h.2.2.2.1 q0 2 he rfl (iI_in hz hk hn).1 hdg (fun H1 locs1 hP hD hS => kk H1 locs1 (by
    rw [(iI_in hz hk hn).2, show vp_nar .boolean (bI x) = bI x from by cases x <;> rfl, upd_up, aB_up] at hP hD
    subst hw
    exact ⟨h.1, hP, hD, hS, h.2.2.2.2⟩))
theorem a_lst (C : Cx p m c cc nL s args own) (h : Hx D g s A H0 ws H locs) (q0 : Nat) {a n : Nat} {F : Nat → Int} {x : Int} (ws' : va_W) (he : ws[q0]? = some (a, cJ g n F)) {z : Int} (k : Nat) (hw : ws.set q0 (a, cJ g n (up F k x)) = ws') (hz : z = (k : Int)) (hk : k < n) (hn : n < 2147483648) (hdg : decode cc pc = .ok (.lastore, 1))
    (kk : ∀ (H1 : Heap) (locs1 : List Loc), Hx D g s A H0 ws' H1 locs1 → W p l e R s m args below meth c H1 locs1 cells slots Q (F0 m (pc + 1) ls rest)) : W p l e R s m args below meth c H locs cells slots Q (F0 m pc ls (.long (lI x) :: .int (iI z) :: .ref a :: rest)) :=
  va_last (f := aL F) C.1 C.2.1 h.1.1 h.2.1 h.2.2.1 h.2.2.2.1 q0 3 he rfl (iI_in hz hk hn).1 hdg (fun H1 locs1 hP hD hS => kk H1 locs1 (by
    rw [(iI_in hz hk hn).2, updL_up, aL_up] at hP hD
    subst hw
    exact ⟨h.1, hP, hD, hS, h.2.2.2.2⟩))
theorem a_len (C : Cx p m c cc nL s args own) (h : Hx D g s A H0 ws H locs) (q0 t0 : Nat) {a : Nat} {x : vp_A} {ty : FieldType} {cA : ClassId} (ht : (tysG g)[t0]? = some (cA, ty)) (he : ws[q0]? = some (a, .inl (cA, x))) (z : Int) (hz : Int32.ofNat x.1 = iI z) (hdg : decode cc pc = .ok (.arraylength, 1))
    (kk : W p l e R s m args below meth c H locs cells slots Q (F0 m (pc + 1) ls (.int (iI z) :: rest))) : W p l e R s m args below meth c H locs cells slots Q (F0 m pc ls (.ref a :: rest)) :=
  va_alen C.1 C.2.1 h.1.1 h.2.1 q0 t0 he ht hz hdg kk
theorem a_gld (C : Cx p m c cc nL s args own) (h : Hx D g s A H0 ws H locs) (q0 : Nat) {a n : Nat} {r : Nat → Nat} (he : ws[q0]? = some (a, cG g n r)) {z : Int} (k : Nat) (hz : z = (k : Int)) (hk : k < n) (hn : n < 2147483648) (hdg : decode cc pc = .ok (.aaload, 1))
    (kk : W p l e R s m args below meth c H locs cells slots Q (F0 m (pc + 1) ls (.ref (r k) :: rest))) : W p l e R s m args below meth c H locs cells slots Q (F0 m pc ls (.int (iI z) :: .ref a :: rest)) := by
  have hlt := (iI_in hz hk hn).2
  have hin := (iI_in hz hk hn).1
  have e : va_rf (gO n r (iI z).toNatClampNeg) = .ref (r k) := by rw [hlt]; unfold gO; rw [if_pos hk]; rfl
  refine W.aald (v := va_rf (gO n r (iI z).toNatClampNeg)) (ty := .array .int) C.1 C.2.1 (h.2.1 q0 _ he) ((h.1.1.2 4 _ rfl).1 n (fun j => va_rf (gO n r j))) rfl (fun q => by cases q) (by show ¬ (iI z < 0 ∨ (arrV _ _ _).slots.size ≤ _); rw [arrV_size]; exact hin) (by show (arrV _ _ _).slots[_]? = _; rw [arrV_read _ _ (by rw [hlt]; exact hk)]) rfl rfl hdg ?_
  rw [e]
  exact kk
theorem a_qld (C : Cx p m c cc nL s args own) (h : Hx D g s A H0 ws H locs) (q0 : Nat) {a n : Nat} {f : Nat → Option Nat} (he : ws[q0]? = some (a, cQ g n f)) {z : Int} (k : Nat) (hz : z = (k : Int)) (hk : k < n) (hn : n < 2147483648) (hdg : decode cc pc = .ok (.aaload, 1))
    (kk : W p l e R s m args below meth c H locs cells slots Q (F0 m (pc + 1) ls (va_rf (f k) :: rest))) : W p l e R s m args below meth c H locs cells slots Q (F0 m pc ls (.int (iI z) :: .ref a :: rest)) :=
  va_aldq (f := f) C.1 C.2.1 h.1.1 h.2.1 q0 5 he rfl (iI_in hz hk hn).1 hdg (by rw [(iI_in hz hk hn).2]; exact kk)
/-- a row of a grid, read and written, wherever the grid stands -/
theorem a_ildM (C : Cx p m c cc nL s args own) (h : Hx D g s A H0 ws H locs) {a n : Nat} {F : Nat → Int} (he : (a, cI g n F) ∈ ws) {z : Int} (k : Nat) (hz : z = (k : Int)) (hk : k < n) (hn : n < 2147483648) (hdg : decode cc pc = .ok (.iaload, 1))
    (kk : W p l e R s m args below meth c H locs cells slots Q (F0 m (pc + 1) ls (.int (iI (F k)) :: rest))) : W p l e R s m args below meth c H locs cells slots Q (F0 m pc ls (.int (iI z) :: .ref a :: rest)) := by
  obtain ⟨q0, hq⟩ := List.getElem?_of_mem he
  exact a_ild C h q0 hq k hz hk hn hdg kk
theorem a_istM (C : Cx p m c cc nL s args own) (h : Hx D g s A H0 ws H locs) {a n : Nat} {F : Nat → Int} {wr : va_W} (he : ws.Perm ((a, cI g n F) :: wr)) {z x : Int} (k : Nat) (ws' : va_W) (hw : ((a, cI g n (up F k x)) :: wr).Perm ws') (hz : z = (k : Int)) (hk : k < n) (hn : n < 2147483648) (hdg : decode cc pc = .ok (.iastore, 1))
    (kk : ∀ (H1 : Heap) (locs1 : List Loc), Hx D g s A H0 ws' H1 locs1 → W p l e R s m args below meth c H1 locs1 cells slots Q (F0 m (pc + 1) ls rest)) : W p l e R s m args below meth c H locs cells slots Q (F0 m pc ls (.int (iI x) :: .int (iI z) :: .ref a :: rest)) :=
  a_ist C (h.perm he) 0 _ rfl k rfl hz hk hn hdg (fun H1 locs1 h1 => kk H1 locs1 (h1.perm hw))
end ROWS
end
section
/-! ROWS of the fields, the constants, the call sites; rooms: by program (wip/whole/tools/tables.py) -/
abbrev rmX0_add : Room := { frames := 0, cells := 0, slots := 0, locals := 0 }
abbrev rmX0_addToGroup : Room := { frames := 1, cells := 0, slots := 0, locals := 21 }
abbrev rmX0_clear : Room := { frames := 0, cells := 0, slots := 0, locals := 0 }
abbrev rmX0_count : Room := { frames := 0, cells := 0, slots := 0, locals := 0 }
abbrev rmX0_first : Room := { frames := 0, cells := 0, slots := 0, locals := 0 }
abbrev rmX0_howMany : Room := { frames := 0, cells := 0, slots := 0, locals := 0 }
abbrev rmX0_init : Room := { frames := 1, cells := 2, slots := 600, locals := 20 }
abbrev rmX1_beginLevel : Room := { frames := 0, cells := 0, slots := 0, locals := 0 }
abbrev rmX1_endLevel : Room := { frames := 1, cells := 0, slots := 0, locals := 22 }
abbrev rmX1_init : Room := { frames := 1, cells := 0, slots := 0, locals := 20 }
abbrev rmX1_isLevelTrue : Room := { frames := 0, cells := 0, slots := 0, locals := 0 }
abbrev rmX1_isTrue : Room := { frames := 2, cells := 0, slots := 0, locals := 46 }
abbrev rmX1_take : Room := { frames := 0, cells := 0, slots := 0, locals := 0 }
abbrev rmX2_init : Room := { frames := 1, cells := 0, slots := 0, locals := 20 }
abbrev rmX2_latestCount : Room := { frames := 0, cells := 0, slots := 0, locals := 0 }
abbrev rmX2_passTo : Room := { frames := 0, cells := 0, slots := 0, locals := 0 }
abbrev rmX2_question : Room := { frames := 0, cells := 0, slots := 0, locals := 0 }
abbrev rmX2_setLatestCount : Room := { frames := 0, cells := 0, slots := 0, locals := 0 }
abbrev rmX3_addStep : Room := { frames := 0, cells := 0, slots := 0, locals := 0 }
abbrev rmX3_addTest : Room := { frames := 1, cells := 0, slots := 0, locals := 21 }
abbrev rmX3_asker : Room := { frames := 0, cells := 0, slots := 0, locals := 0 }
abbrev rmX3_clear : Room := { frames := 0, cells := 0, slots := 0, locals := 0 }
abbrev rmX3_fields : Room := { frames := 0, cells := 0, slots := 0, locals := 0 }
abbrev rmX3_init : Room := { frames := 1, cells := 4, slots := 320, locals := 20 }
abbrev rmX3_isTestTrue : Room := { frames := 1, cells := 0, slots := 0, locals := 22 }
abbrev rmX3_setAsker : Room := { frames := 0, cells := 0, slots := 0, locals := 0 }
abbrev rmX3_setTail : Room := { frames := 0, cells := 0, slots := 0, locals := 0 }
abbrev rmX3_setTailField : Room := { frames := 0, cells := 0, slots := 0, locals := 0 }
abbrev rmX3_step : Room := { frames := 0, cells := 0, slots := 0, locals := 0 }
abbrev rmX3_stepCount : Room := { frames := 0, cells := 0, slots := 0, locals := 0 }
abbrev rmX3_tail : Room := { frames := 0, cells := 0, slots := 0, locals := 0 }
abbrev rmX3_tailField : Room := { frames := 0, cells := 0, slots := 0, locals := 0 }
abbrev rmX3_tests : Room := { frames := 0, cells := 0, slots := 0, locals := 0 }
abbrev rmX4_begin : Room := { frames := 1, cells := 0, slots := 0, locals := 20 }
abbrev rmX4_draft : Room := { frames := 0, cells := 0, slots := 0, locals := 0 }
abbrev rmX4_endFieldTest : Room := { frames := 2, cells := 0, slots := 0, locals := 44 }
abbrev rmX4_endTest : Room := { frames := 0, cells := 0, slots := 0, locals := 0 }
abbrev rmX4_fieldOf : Room := { frames := 0, cells := 0, slots := 0, locals := 0 }
abbrev rmX4_firstFault : Room := { frames := 5, cells := 0, slots := 0, locals := 105 }
abbrev rmX4_init : Room := { frames := 2, cells := 6, slots := 350, locals := 40 }
abbrev rmX4_isOpenField : Room := { frames := 1, cells := 0, slots := 0, locals := 20 }
abbrev rmX4_tailOf : Room := { frames := 0, cells := 0, slots := 0, locals := 0 }
abbrev rmX4_takes : Room := { frames := 4, cells := 0, slots := 0, locals := 84 }
abbrev rmX4_takesBehindTest : Room := { frames := 2, cells := 0, slots := 0, locals := 43 }
abbrev rmX4_takesClose : Room := { frames := 1, cells := 0, slots := 0, locals := 21 }
abbrev rmX4_takesEnd : Room := { frames := 3, cells := 0, slots := 0, locals := 64 }
abbrev rmX4_takesFigure : Room := { frames := 0, cells := 0, slots := 0, locals := 0 }
abbrev rmX4_takesOpen : Room := { frames := 1, cells := 0, slots := 0, locals := 21 }
abbrev rmX4_takesRelation : Room := { frames := 0, cells := 0, slots := 0, locals := 0 }
abbrev rmX4_takesTail : Room := { frames := 1, cells := 0, slots := 0, locals := 21 }
abbrev rmX4_takesTailField : Room := { frames := 2, cells := 0, slots := 0, locals := 42 }
abbrev rmX4_takesTest : Room := { frames := 3, cells := 0, slots := 0, locals := 63 }
abbrev rmX4_takesTestField : Room := { frames := 2, cells := 0, slots := 0, locals := 42 }
abbrev rmX4_takesTurn : Room := { frames := 1, cells := 0, slots := 0, locals := 21 }
abbrev rmX4_writeNextInto : Room := { frames := 0, cells := 0, slots := 0, locals := 0 }
abbrev rmX5_add : Room := { frames := 0, cells := 0, slots := 0, locals := 0 }
abbrev rmX5_count : Room := { frames := 0, cells := 0, slots := 0, locals := 0 }
abbrev rmX5_countOf : Room := { frames := 0, cells := 0, slots := 0, locals := 0 }
abbrev rmX5_holds : Room := { frames := 1, cells := 0, slots := 0, locals := 22 }
abbrev rmX5_init : Room := { frames := 1, cells := 52, slots := 5150, locals := 20 }
abbrev rmX5_kindsOf : Room := { frames := 0, cells := 0, slots := 0, locals := 0 }
abbrev rmX5_letSee : Room := { frames := 1, cells := 0, slots := 0, locals := 22 }
abbrev rmX6_add : Room := { frames := 3, cells := 0, slots := 0, locals := 71 }
abbrev rmX6_behindLast : Room := { frames := 1, cells := 0, slots := 0, locals := 23 }
abbrev rmX6_count : Room := { frames := 0, cells := 0, slots := 0, locals := 0 }
abbrev rmX6_init : Room := { frames := 1, cells := 18, slots := 4515, locals := 20 }
abbrev rmX6_insert : Room := { frames := 0, cells := 0, slots := 0, locals := 0 }
abbrev rmX6_numberAt : Room := { frames := 0, cells := 0, slots := 0, locals := 0 }
abbrev rmX6_putInOrders : Room := { frames := 2, cells := 0, slots := 0, locals := 49 }
abbrev rmX6_value : Room := { frames := 0, cells := 0, slots := 0, locals := 0 }
abbrev rmX7_ask : Room := { frames := 7, cells := 0, slots := 0, locals := 151 }
abbrev rmX7_askKept : Room := { frames := 5, cells := 0, slots := 0, locals := 117 }
abbrev rmX7_bound : Room := { frames := 0, cells := 0, slots := 0, locals := 0 }
abbrev rmX7_cost : Room := { frames := 0, cells := 0, slots := 0, locals := 0 }
abbrev rmX7_costOf : Room := { frames := 1, cells := 0, slots := 0, locals := 20 }
abbrev rmX7_countFound : Room := { frames := 4, cells := 0, slots := 0, locals := 96 }
abbrev rmX7_found : Room := { frames := 1, cells := 0, slots := 0, locals := 22 }
abbrev rmX7_init : Room := { frames := 3, cells := 93, slots := 11793, locals := 60 }
abbrev rmX7_isBelow : Room := { frames := 0, cells := 0, slots := 0, locals := 0 }
abbrev rmX7_isMasked : Room := { frames := 0, cells := 0, slots := 0, locals := 0 }
abbrev rmX7_masked : Room := { frames := 1, cells := 0, slots := 0, locals := 22 }
abbrev rmX7_page : Room := { frames := 4, cells := 0, slots := 0, locals := 96 }
abbrev rmX7_readText : Room := { frames := 6, cells := 0, slots := 0, locals := 129 }
abbrev rmX7_right : Room := { frames := 2, cells := 0, slots := 0, locals := 45 }
abbrev rmX7_row : Room := { frames := 4, cells := 0, slots := 0, locals := 96 }
abbrev rmX7_save : Room := { frames := 7, cells := 6, slots := 334, locals := 151 }
abbrev rmX7_saved : Room := { frames := 1, cells := 0, slots := 0, locals := 20 }
abbrev rmX7_scan : Room := { frames := 3, cells := 0, slots := 0, locals := 68 }
abbrev rmX7_search : Room := { frames := 3, cells := 0, slots := 0, locals := 71 }
abbrev rmX7_sees : Room := { frames := 2, cells := 0, slots := 0, locals := 46 }
abbrev rmX7_sign : Room := { frames := 0, cells := 0, slots := 0, locals := 0 }
abbrev rmX7_tick : Room := { frames := 6, cells := 0, slots := 0, locals := 139 }
abbrev rmX8_ask : Room := { frames := 3, cells := 0, slots := 0, locals := 84 }
abbrev rmX8_askKept : Room := { frames := 3, cells := 0, slots := 0, locals := 84 }
abbrev rmX8_at : Room := { frames := 0, cells := 0, slots := 0, locals := 0 }
abbrev rmX8_bound : Room := { frames := 1, cells := 0, slots := 0, locals := 25 }
abbrev rmX8_cost : Room := { frames := 0, cells := 0, slots := 0, locals := 0 }
abbrev rmX8_costNow : Room := { frames := 0, cells := 0, slots := 0, locals := 0 }
abbrev rmX8_field : Room := { frames := 0, cells := 0, slots := 0, locals := 0 }
abbrev rmX8_fieldOf : Room := { frames := 0, cells := 0, slots := 0, locals := 0 }
abbrev rmX8_find : Room := { frames := 2, cells := 0, slots := 0, locals := 53 }
abbrev rmX8_found : Room := { frames := 1, cells := 0, slots := 0, locals := 25 }
abbrev rmX8_init : Room := { frames := 1, cells := 21, slots := 7877, locals := 20 }
abbrev rmX8_isAsker : Room := { frames := 1, cells := 0, slots := 0, locals := 25 }
abbrev rmX8_isTail : Room := { frames := 0, cells := 0, slots := 0, locals := 0 }
abbrev rmX8_isTrue : Room := { frames := 1, cells := 0, slots := 0, locals := 25 }
abbrev rmX8_look : Room := { frames := 2, cells := 0, slots := 0, locals := 47 }
abbrev rmX8_lookAtTail : Room := { frames := 1, cells := 0, slots := 0, locals := 23 }
abbrev rmX8_masked : Room := { frames := 1, cells := 0, slots := 0, locals := 25 }
abbrev rmX8_overs : Room := { frames := 0, cells := 0, slots := 0, locals := 0 }
abbrev rmX8_page : Room := { frames := 3, cells := 0, slots := 0, locals := 84 }
abbrev rmX8_right : Room := { frames := 2, cells := 0, slots := 0, locals := 45 }
abbrev rmX8_row : Room := { frames := 1, cells := 0, slots := 0, locals := 25 }
abbrev rmX8_save : Room := { frames := 3, cells := 0, slots := 0, locals := 78 }
abbrev rmX8_saved : Room := { frames := 1, cells := 0, slots := 0, locals := 25 }
abbrev rmX8_scan : Room := { frames := 2, cells := 0, slots := 0, locals := 46 }
abbrev rmX8_sees : Room := { frames := 1, cells := 0, slots := 0, locals := 22 }
abbrev rmX8_sign : Room := { frames := 1, cells := 0, slots := 0, locals := 25 }
abbrev rmX8_take : Room := { frames := 1, cells := 0, slots := 0, locals := 22 }
abbrev rmX8_test : Room := { frames := 0, cells := 0, slots := 0, locals := 0 }
abbrev rmX8_tick : Room := { frames := 4, cells := 0, slots := 0, locals := 105 }
abbrev rmX8_within : Room := { frames := 0, cells := 0, slots := 0, locals := 0 }
section TABLES
variable {p : Program} {l : Launch} {e : Env} {R : Room} {s : State} {m : MethodId} {args : Array Value} {below : List Frame} {meth : Method} {c : Code} {H H0 : Heap} {locs : List Loc} {cells slots : Nat} {Q : State → Prop}
variable {cc : ByteArray} {pc : Nat} {ls : Array Slot} {rest : List Value} {D : va_G} {g : Nat → ClassId} {A : Nat → Prop} {ws : va_W} {nL : Nat}
theorem klL_13 (C : Cx p m c cc nL s args RL) (hdg : decode cc pc = .ok (.ldc2_w 13, 3)) (kk : W p l e R s m args below meth c H locs cells slots Q (F0 m (pc + 3) ls (.long (lI (4294967295)) :: rest))) : W p l e R s m args below meth c H locs cells slots Q (F0 m pc ls rest) :=
  lv_ldc2 (v := (4294967295)) C.1 C.2.1 C.2.2.2.1 (C.2.2.2.2 (Cond.constantLong RL 13 (4294967295)) (List.mem_of_getElem? (i := 6) (by decide +kernel))) hdg (by rw [show ((4294967295) : Int64) = lI (4294967295) from by decide]; exact kk)
theorem gf7_10 (C : Cx p m c cc nL s args RX7) (h : Hx D g s A H0 ws H locs) (q0 : Nat) {a : Nat} {fs : List Value} {v : Value} (he : ws[q0]? = some (a, .inr (7, fs))) (hv : fs[0]? = some v) (hdg : decode cc pc = .ok (.getfield 10, 3)) (kk : W p l e R s m args below meth c H locs cells slots Q (F0 m (pc + 3) ls (v :: rest))) : W p l e R s m args below meth c H locs cells slots Q (F0 m pc ls (.ref a :: rest)) :=
  va_get (ref := "TraceQuestions") (T := TX7) (N := 16) C.1 C.2.1 C.2.2.2.2 inlX7 C.2.2.2.1 h.1.1 h.2.1 q0 he rfl 0 (by decide) (C.2.2.2.2 (Cond.fieldLink RX7 10 "TraceQuestions" "rows" "LTraceQuestions$Rows;") (List.mem_of_getElem? (i := 16) (by decide +kernel))) (fun _ h9 => h9) hv hdg kk
theorem pf7_10 (C : Cx p m c cc nL s args RX7) (h : Hx D g s A H0 ws H locs) (q0 : Nat) {a : Nat} {fs : List Value} {x : Nat} (ws' : va_W) (he : ws[q0]? = some (a, .inr (7, fs))) (hw : ws.set q0 (a, .inr (7, fs.set 0 (.ref x))) = ws') (hl : 0 < fs.length) (hin : meth.name = "<init>") (hdg : decode cc pc = .ok (.putfield 10, 3)) (kk : ∀ (H1 : Heap) (locs1 : List Loc), Hx D g s A H0 ws' H1 locs1 → W p l e R s m args below meth c H1 locs1 cells slots Q (F0 m (pc + 3) ls rest)) : W p l e R s m args below meth c H locs cells slots Q (F0 m pc ls (.ref x :: .ref a :: rest)) :=
  va_putF (ref := "TraceQuestions") (T := TX7) (N := 16) (v := .ref x) C.1 C.2.1 C.2.2.2.2 inlX7 tyX7 tyX7_ok nmX7 C.2.2.2.1 h.1.1 h.2.1 h.2.2.1 h.2.2.2.1 q0 he rfl 0 (by decide) (C.2.2.2.2 (Cond.fieldLink RX7 10 "TraceQuestions" "rows" "LTraceQuestions$Rows;") (List.mem_of_getElem? (i := 16) (by decide +kernel))) (fun _ h9 => h9) rfl hin rfl (tyX7_ok 0 (by decide)) rfl rfl hl hdg (fun H1 locs1 hP hD hS => kk H1 locs1 (by rw [hw] at hP hD; exact ⟨h.1, hP, hD, hS, h.2.2.2.2⟩))
theorem gf7_19 (C : Cx p m c cc nL s args RX7) (h : Hx D g s A H0 ws H locs) (q0 : Nat) {a : Nat} {fs : List Value} {v : Value} (he : ws[q0]? = some (a, .inr (7, fs))) (hv : fs[1]? = some v) (hdg : decode cc pc = .ok (.getfield 19, 3)) (kk : W p l e R s m args below meth c H locs cells slots Q (F0 m (pc + 3) ls (v :: rest))) : W p l e R s m args below meth c H locs cells slots Q (F0 m pc ls (.ref a :: rest)) :=
  va_get (ref := "TraceQuestions") (T := TX7) (N := 16) C.1 C.2.1 C.2.2.2.2 inlX7 C.2.2.2.1 h.1.1 h.2.1 q0 he rfl 1 (by decide) (C.2.2.2.2 (Cond.fieldLink RX7 19 "TraceQuestions" "rights" "LTraceQuestions$Rights;") (List.mem_of_getElem? (i := 20) (by decide +kernel))) (fun _ h9 => h9) hv hdg kk
theorem pf7_19 (C : Cx p m c cc nL s args RX7) (h : Hx D g s A H0 ws H locs) (q0 : Nat) {a : Nat} {fs : List Value} {x : Nat} (ws' : va_W) (he : ws[q0]? = some (a, .inr (7, fs))) (hw : ws.set q0 (a, .inr (7, fs.set 1 (.ref x))) = ws') (hl : 1 < fs.length) (hin : meth.name = "<init>") (hdg : decode cc pc = .ok (.putfield 19, 3)) (kk : ∀ (H1 : Heap) (locs1 : List Loc), Hx D g s A H0 ws' H1 locs1 → W p l e R s m args below meth c H1 locs1 cells slots Q (F0 m (pc + 3) ls rest)) : W p l e R s m args below meth c H locs cells slots Q (F0 m pc ls (.ref x :: .ref a :: rest)) :=
  va_putF (ref := "TraceQuestions") (T := TX7) (N := 16) (v := .ref x) C.1 C.2.1 C.2.2.2.2 inlX7 tyX7 tyX7_ok nmX7 C.2.2.2.1 h.1.1 h.2.1 h.2.2.1 h.2.2.2.1 q0 he rfl 1 (by decide) (C.2.2.2.2 (Cond.fieldLink RX7 19 "TraceQuestions" "rights" "LTraceQuestions$Rights;") (List.mem_of_getElem? (i := 20) (by decide +kernel))) (fun _ h9 => h9) rfl hin rfl (tyX7_ok 1 (by decide)) rfl rfl hl hdg (fun H1 locs1 hP hD hS => kk H1 locs1 (by rw [hw] at hP hD; exact ⟨h.1, hP, hD, hS, h.2.2.2.2⟩))
theorem gf7_26 (C : Cx p m c cc nL s args RX7) (h : Hx D g s A H0 ws H locs) (q0 : Nat) {a : Nat} {fs : List Value} {v : Value} (he : ws[q0]? = some (a, .inr (7, fs))) (hv : fs[2]? = some v) (hdg : decode cc pc = .ok (.getfield 26, 3)) (kk : W p l e R s m args below meth c H locs cells slots Q (F0 m (pc + 3) ls (v :: rest))) : W p l e R s m args below meth c H locs cells slots Q (F0 m pc ls (.ref a :: rest)) :=
  va_get (ref := "TraceQuestions") (T := TX7) (N := 16) C.1 C.2.1 C.2.2.2.2 inlX7 C.2.2.2.1 h.1.1 h.2.1 q0 he rfl 2 (by decide) (C.2.2.2.2 (Cond.fieldLink RX7 26 "TraceQuestions" "reader" "LTraceQuestions$Reader;") (List.mem_of_getElem? (i := 24) (by decide +kernel))) (fun _ h9 => h9) hv hdg kk
theorem pf7_26 (C : Cx p m c cc nL s args RX7) (h : Hx D g s A H0 ws H locs) (q0 : Nat) {a : Nat} {fs : List Value} {x : Nat} (ws' : va_W) (he : ws[q0]? = some (a, .inr (7, fs))) (hw : ws.set q0 (a, .inr (7, fs.set 2 (.ref x))) = ws') (hl : 2 < fs.length) (hin : meth.name = "<init>") (hdg : decode cc pc = .ok (.putfield 26, 3)) (kk : ∀ (H1 : Heap) (locs1 : List Loc), Hx D g s A H0 ws' H1 locs1 → W p l e R s m args below meth c H1 locs1 cells slots Q (F0 m (pc + 3) ls rest)) : W p l e R s m args below meth c H locs cells slots Q (F0 m pc ls (.ref x :: .ref a :: rest)) :=
  va_putF (ref := "TraceQuestions") (T := TX7) (N := 16) (v := .ref x) C.1 C.2.1 C.2.2.2.2 inlX7 tyX7 tyX7_ok nmX7 C.2.2.2.1 h.1.1 h.2.1 h.2.2.1 h.2.2.2.1 q0 he rfl 2 (by decide) (C.2.2.2.2 (Cond.fieldLink RX7 26 "TraceQuestions" "reader" "LTraceQuestions$Reader;") (List.mem_of_getElem? (i := 24) (by decide +kernel))) (fun _ h9 => h9) rfl hin rfl (tyX7_ok 2 (by decide)) rfl rfl hl hdg (fun H1 locs1 hP hD hS => kk H1 locs1 (by rw [hw] at hP hD; exact ⟨h.1, hP, hD, hS, h.2.2.2.2⟩))
theorem gf7_33 (C : Cx p m c cc nL s args RX7) (h : Hx D g s A H0 ws H locs) (q0 : Nat) {a : Nat} {fs : List Value} {v : Value} (he : ws[q0]? = some (a, .inr (7, fs))) (hv : fs[3]? = some v) (hdg : decode cc pc = .ok (.getfield 33, 3)) (kk : W p l e R s m args below meth c H locs cells slots Q (F0 m (pc + 3) ls (v :: rest))) : W p l e R s m args below meth c H locs cells slots Q (F0 m pc ls (.ref a :: rest)) :=
  va_get (ref := "TraceQuestions") (T := TX7) (N := 16) C.1 C.2.1 C.2.2.2.2 inlX7 C.2.2.2.1 h.1.1 h.2.1 q0 he rfl 3 (by decide) (C.2.2.2.2 (Cond.fieldLink RX7 33 "TraceQuestions" "judge" "LTraceQuestions$Judge;") (List.mem_of_getElem? (i := 28) (by decide +kernel))) (fun _ h9 => h9) hv hdg kk
theorem pf7_33 (C : Cx p m c cc nL s args RX7) (h : Hx D g s A H0 ws H locs) (q0 : Nat) {a : Nat} {fs : List Value} {x : Nat} (ws' : va_W) (he : ws[q0]? = some (a, .inr (7, fs))) (hw : ws.set q0 (a, .inr (7, fs.set 3 (.ref x))) = ws') (hl : 3 < fs.length) (hin : meth.name = "<init>") (hdg : decode cc pc = .ok (.putfield 33, 3)) (kk : ∀ (H1 : Heap) (locs1 : List Loc), Hx D g s A H0 ws' H1 locs1 → W p l e R s m args below meth c H1 locs1 cells slots Q (F0 m (pc + 3) ls rest)) : W p l e R s m args below meth c H locs cells slots Q (F0 m pc ls (.ref x :: .ref a :: rest)) :=
  va_putF (ref := "TraceQuestions") (T := TX7) (N := 16) (v := .ref x) C.1 C.2.1 C.2.2.2.2 inlX7 tyX7 tyX7_ok nmX7 C.2.2.2.1 h.1.1 h.2.1 h.2.2.1 h.2.2.2.1 q0 he rfl 3 (by decide) (C.2.2.2.2 (Cond.fieldLink RX7 33 "TraceQuestions" "judge" "LTraceQuestions$Judge;") (List.mem_of_getElem? (i := 28) (by decide +kernel))) (fun _ h9 => h9) rfl hin rfl (tyX7_ok 3 (by decide)) rfl rfl hl hdg (fun H1 locs1 hP hD hS => kk H1 locs1 (by rw [hw] at hP hD; exact ⟨h.1, hP, hD, hS, h.2.2.2.2⟩))
theorem gf7_37 (C : Cx p m c cc nL s args RX7) (h : Hx D g s A H0 ws H locs) (q0 : Nat) {a : Nat} {fs : List Value} {v : Value} (he : ws[q0]? = some (a, .inr (7, fs))) (hv : fs[4]? = some v) (hdg : decode cc pc = .ok (.getfield 37, 3)) (kk : W p l e R s m args below meth c H locs cells slots Q (F0 m (pc + 3) ls (v :: rest))) : W p l e R s m args below meth c H locs cells slots Q (F0 m pc ls (.ref a :: rest)) :=
  va_get (ref := "TraceQuestions") (T := TX7) (N := 16) C.1 C.2.1 C.2.2.2.2 inlX7 C.2.2.2.1 h.1.1 h.2.1 q0 he rfl 4 (by decide) (C.2.2.2.2 (Cond.fieldLink RX7 37 "TraceQuestions" "text" "[C") (List.mem_of_getElem? (i := 30) (by decide +kernel))) (fun _ h9 => h9) hv hdg kk
theorem pf7_37 (C : Cx p m c cc nL s args RX7) (h : Hx D g s A H0 ws H locs) (q0 : Nat) {a : Nat} {fs : List Value} {x : Nat} (ws' : va_W) (he : ws[q0]? = some (a, .inr (7, fs))) (hw : ws.set q0 (a, .inr (7, fs.set 4 (.ref x))) = ws') (hl : 4 < fs.length) (hin : meth.name = "<init>") (hdg : decode cc pc = .ok (.putfield 37, 3)) (kk : ∀ (H1 : Heap) (locs1 : List Loc), Hx D g s A H0 ws' H1 locs1 → W p l e R s m args below meth c H1 locs1 cells slots Q (F0 m (pc + 3) ls rest)) : W p l e R s m args below meth c H locs cells slots Q (F0 m pc ls (.ref x :: .ref a :: rest)) :=
  va_putF (ref := "TraceQuestions") (T := TX7) (N := 16) (v := .ref x) C.1 C.2.1 C.2.2.2.2 inlX7 tyX7 tyX7_ok nmX7 C.2.2.2.1 h.1.1 h.2.1 h.2.2.1 h.2.2.2.1 q0 he rfl 4 (by decide) (C.2.2.2.2 (Cond.fieldLink RX7 37 "TraceQuestions" "text" "[C") (List.mem_of_getElem? (i := 30) (by decide +kernel))) (fun _ h9 => h9) rfl hin rfl (tyX7_ok 4 (by decide)) rfl rfl hl hdg (fun H1 locs1 hP hD hS => kk H1 locs1 (by rw [hw] at hP hD; exact ⟨h.1, hP, hD, hS, h.2.2.2.2⟩))
theorem gf7_41 (C : Cx p m c cc nL s args RX7) (h : Hx D g s A H0 ws H locs) (q0 : Nat) {a : Nat} {fs : List Value} {v : Value} (he : ws[q0]? = some (a, .inr (7, fs))) (hv : fs[5]? = some v) (hdg : decode cc pc = .ok (.getfield 41, 3)) (kk : W p l e R s m args below meth c H locs cells slots Q (F0 m (pc + 3) ls (v :: rest))) : W p l e R s m args below meth c H locs cells slots Q (F0 m pc ls (.ref a :: rest)) :=
  va_get (ref := "TraceQuestions") (T := TX7) (N := 16) C.1 C.2.1 C.2.2.2.2 inlX7 C.2.2.2.1 h.1.1 h.2.1 q0 he rfl 5 (by decide) (C.2.2.2.2 (Cond.fieldLink RX7 41 "TraceQuestions" "signs" "I") (List.mem_of_getElem? (i := 31) (by decide +kernel))) (fun _ h9 => h9) hv hdg kk
theorem pf7_41 (C : Cx p m c cc nL s args RX7) (h : Hx D g s A H0 ws H locs) (q0 : Nat) {a : Nat} {fs : List Value} {x : Int32} (ws' : va_W) (he : ws[q0]? = some (a, .inr (7, fs))) (hw : ws.set q0 (a, .inr (7, fs.set 5 (.int x))) = ws') (hl : 5 < fs.length) (hdg : decode cc pc = .ok (.putfield 41, 3)) (kk : ∀ (H1 : Heap) (locs1 : List Loc), Hx D g s A H0 ws' H1 locs1 → W p l e R s m args below meth c H1 locs1 cells slots Q (F0 m (pc + 3) ls rest)) : W p l e R s m args below meth c H locs cells slots Q (F0 m pc ls (.int x :: .ref a :: rest)) :=
  va_put (ref := "TraceQuestions") (T := TX7) (N := 16) (v := .int x) C.1 C.2.1 C.2.2.2.2 inlX7 tyX7 tyX7_ok nmX7 C.2.2.2.1 h.1.1 h.2.1 h.2.2.1 h.2.2.2.1 q0 he rfl 5 (by decide) (C.2.2.2.2 (Cond.fieldLink RX7 41 "TraceQuestions" "signs" "I") (List.mem_of_getElem? (i := 31) (by decide +kernel))) (fun _ h9 => h9) rfl (tyX7_ok 5 (by decide)) rfl rfl hl hdg (fun H1 locs1 hP hD hS => kk H1 locs1 (by rw [hw] at hP hD; exact ⟨h.1, hP, hD, hS, h.2.2.2.2⟩))
theorem gf7_45 (C : Cx p m c cc nL s args RX7) (h : Hx D g s A H0 ws H locs) (q0 : Nat) {a : Nat} {fs : List Value} {v : Value} (he : ws[q0]? = some (a, .inr (7, fs))) (hv : fs[6]? = some v) (hdg : decode cc pc = .ok (.getfield 45, 3)) (kk : W p l e R s m args below meth c H locs cells slots Q (F0 m (pc + 3) ls (v :: rest))) : W p l e R s m args below meth c H locs cells slots Q (F0 m pc ls (.ref a :: rest)) :=
  va_get (ref := "TraceQuestions") (T := TX7) (N := 16) C.1 C.2.1 C.2.2.2.2 inlX7 C.2.2.2.1 h.1.1 h.2.1 q0 he rfl 6 (by decide) (C.2.2.2.2 (Cond.fieldLink RX7 45 "TraceQuestions" "maskedFields" "I") (List.mem_of_getElem? (i := 32) (by decide +kernel))) (fun _ h9 => h9) hv hdg kk
theorem pf7_45 (C : Cx p m c cc nL s args RX7) (h : Hx D g s A H0 ws H locs) (q0 : Nat) {a : Nat} {fs : List Value} {x : Int32} (ws' : va_W) (he : ws[q0]? = some (a, .inr (7, fs))) (hw : ws.set q0 (a, .inr (7, fs.set 6 (.int x))) = ws') (hl : 6 < fs.length) (hdg : decode cc pc = .ok (.putfield 45, 3)) (kk : ∀ (H1 : Heap) (locs1 : List Loc), Hx D g s A H0 ws' H1 locs1 → W p l e R s m args below meth c H1 locs1 cells slots Q (F0 m (pc + 3) ls rest)) : W p l e R s m args below meth c H locs cells slots Q (F0 m pc ls (.int x :: .ref a :: rest)) :=
  va_put (ref := "TraceQuestions") (T := TX7) (N := 16) (v := .int x) C.1 C.2.1 C.2.2.2.2 inlX7 tyX7 tyX7_ok nmX7 C.2.2.2.1 h.1.1 h.2.1 h.2.2.1 h.2.2.2.1 q0 he rfl 6 (by decide) (C.2.2.2.2 (Cond.fieldLink RX7 45 "TraceQuestions" "maskedFields" "I") (List.mem_of_getElem? (i := 32) (by decide +kernel))) (fun _ h9 => h9) rfl (tyX7_ok 6 (by decide)) rfl rfl hl hdg (fun H1 locs1 hP hD hS => kk H1 locs1 (by rw [hw] at hP hD; exact ⟨h.1, hP, hD, hS, h.2.2.2.2⟩))
theorem kc7_48 (C : Cx p m c cc nL s args RX7) (hdg : decode cc pc = .ok (.ldc 48, 2)) (kk : W p l e R s m args below meth c H locs cells slots Q (F0 m (pc + 2) ls (.int (iI (100000)) :: rest))) : W p l e R s m args below meth c H locs cells slots Q (F0 m pc ls rest) :=
  lv_ldc (v := (100000)) C.1 C.2.1 C.2.2.2.1 (C.2.2.2.2 (Cond.constant RX7 48 (100000)) (List.mem_of_getElem? (i := 33) (by decide +kernel))) hdg (by rw [show ((100000) : Int32) = iI (100000) from by decide]; exact kk)
theorem gf7_49 (C : Cx p m c cc nL s args RX7) (h : Hx D g s A H0 ws H locs) (q0 : Nat) {a : Nat} {fs : List Value} {v : Value} (he : ws[q0]? = some (a, .inr (7, fs))) (hv : fs[7]? = some v) (hdg : decode cc pc = .ok (.getfield 49, 3)) (kk : W p l e R s m args below meth c H locs cells slots Q (F0 m (pc + 3) ls (v :: rest))) : W p l e R s m args below meth c H locs cells slots Q (F0 m pc ls (.ref a :: rest)) :=
  va_get (ref := "TraceQuestions") (T := TX7) (N := 16) C.1 C.2.1 C.2.2.2.2 inlX7 C.2.2.2.1 h.1.1 h.2.1 q0 he rfl 7 (by decide) (C.2.2.2.2 (Cond.fieldLink RX7 49 "TraceQuestions" "costBound" "I") (List.mem_of_getElem? (i := 34) (by decide +kernel))) (fun _ h9 => h9) hv hdg kk
theorem pf7_49 (C : Cx p m c cc nL s args RX7) (h : Hx D g s A H0 ws H locs) (q0 : Nat) {a : Nat} {fs : List Value} {x : Int32} (ws' : va_W) (he : ws[q0]? = some (a, .inr (7, fs))) (hw : ws.set q0 (a, .inr (7, fs.set 7 (.int x))) = ws') (hl : 7 < fs.length) (hdg : decode cc pc = .ok (.putfield 49, 3)) (kk : ∀ (H1 : Heap) (locs1 : List Loc), Hx D g s A H0 ws' H1 locs1 → W p l e R s m args below meth c H1 locs1 cells slots Q (F0 m (pc + 3) ls rest)) : W p l e R s m args below meth c H locs cells slots Q (F0 m pc ls (.int x :: .ref a :: rest)) :=
  va_put (ref := "TraceQuestions") (T := TX7) (N := 16) (v := .int x) C.1 C.2.1 C.2.2.2.2 inlX7 tyX7 tyX7_ok nmX7 C.2.2.2.1 h.1.1 h.2.1 h.2.2.1 h.2.2.2.1 q0 he rfl 7 (by decide) (C.2.2.2.2 (Cond.fieldLink RX7 49 "TraceQuestions" "costBound" "I") (List.mem_of_getElem? (i := 34) (by decide +kernel))) (fun _ h9 => h9) rfl (tyX7_ok 7 (by decide)) rfl rfl hl hdg (fun H1 locs1 hP hD hS => kk H1 locs1 (by rw [hw] at hP hD; exact ⟨h.1, hP, hD, hS, h.2.2.2.2⟩))
theorem gf7_52 (C : Cx p m c cc nL s args RX7) (h : Hx D g s A H0 ws H locs) (q0 : Nat) {a : Nat} {fs : List Value} {v : Value} (he : ws[q0]? = some (a, .inr (7, fs))) (hv : fs[8]? = some v) (hdg : decode cc pc = .ok (.getfield 52, 3)) (kk : W p l e R s m args below meth c H locs cells slots Q (F0 m (pc + 3) ls (v :: rest))) : W p l e R s m args below meth c H locs cells slots Q (F0 m pc ls (.ref a :: rest)) :=
  va_get (ref := "TraceQuestions") (T := TX7) (N := 16) C.1 C.2.1 C.2.2.2.2 inlX7 C.2.2.2.1 h.1.1 h.2.1 q0 he rfl 8 (by decide) (C.2.2.2.2 (Cond.fieldLink RX7 52 "TraceQuestions" "latestCost" "J") (List.mem_of_getElem? (i := 35) (by decide +kernel))) (fun _ h9 => h9) hv hdg kk
theorem pf7_52 (C : Cx p m c cc nL s args RX7) (h : Hx D g s A H0 ws H locs) (q0 : Nat) {a : Nat} {fs : List Value} {x : Int64} (ws' : va_W) (he : ws[q0]? = some (a, .inr (7, fs))) (hw : ws.set q0 (a, .inr (7, fs.set 8 (.long x))) = ws') (hl : 8 < fs.length) (hdg : decode cc pc = .ok (.putfield 52, 3)) (kk : ∀ (H1 : Heap) (locs1 : List Loc), Hx D g s A H0 ws' H1 locs1 → W p l e R s m args below meth c H1 locs1 cells slots Q (F0 m (pc + 3) ls rest)) : W p l e R s m args below meth c H locs cells slots Q (F0 m pc ls (.long x :: .ref a :: rest)) :=
  va_put (ref := "TraceQuestions") (T := TX7) (N := 16) (v := .long x) C.1 C.2.1 C.2.2.2.2 inlX7 tyX7 tyX7_ok nmX7 C.2.2.2.1 h.1.1 h.2.1 h.2.2.1 h.2.2.2.1 q0 he rfl 8 (by decide) (C.2.2.2.2 (Cond.fieldLink RX7 52 "TraceQuestions" "latestCost" "J") (List.mem_of_getElem? (i := 35) (by decide +kernel))) (fun _ h9 => h9) rfl (tyX7_ok 8 (by decide)) rfl rfl hl hdg (fun H1 locs1 hP hD hS => kk H1 locs1 (by rw [hw] at hP hD; exact ⟨h.1, hP, hD, hS, h.2.2.2.2⟩))
theorem gf7_59 (C : Cx p m c cc nL s args RX7) (h : Hx D g s A H0 ws H locs) (q0 : Nat) {a : Nat} {fs : List Value} {v : Value} (he : ws[q0]? = some (a, .inr (7, fs))) (hv : fs[9]? = some v) (hdg : decode cc pc = .ok (.getfield 59, 3)) (kk : W p l e R s m args below meth c H locs cells slots Q (F0 m (pc + 3) ls (v :: rest))) : W p l e R s m args below meth c H locs cells slots Q (F0 m pc ls (.ref a :: rest)) :=
  va_get (ref := "TraceQuestions") (T := TX7) (N := 16) C.1 C.2.1 C.2.2.2.2 inlX7 C.2.2.2.1 h.1.1 h.2.1 q0 he rfl 9 (by decide) (C.2.2.2.2 (Cond.fieldLink RX7 59 "TraceQuestions" "answered" "LTraceQuestions$Question;") (List.mem_of_getElem? (i := 39) (by decide +kernel))) (fun _ h9 => h9) hv hdg kk
theorem pf7_59 (C : Cx p m c cc nL s args RX7) (h : Hx D g s A H0 ws H locs) (q0 : Nat) {a : Nat} {fs : List Value} {x : Nat} (ws' : va_W) (he : ws[q0]? = some (a, .inr (7, fs))) (hw : ws.set q0 (a, .inr (7, fs.set 9 (.ref x))) = ws') (hl : 9 < fs.length) (hdg : decode cc pc = .ok (.putfield 59, 3)) (kk : ∀ (H1 : Heap) (locs1 : List Loc), Hx D g s A H0 ws' H1 locs1 → W p l e R s m args below meth c H1 locs1 cells slots Q (F0 m (pc + 3) ls rest)) : W p l e R s m args below meth c H locs cells slots Q (F0 m pc ls (.ref x :: .ref a :: rest)) :=
  va_put (ref := "TraceQuestions") (T := TX7) (N := 16) (v := .ref x) C.1 C.2.1 C.2.2.2.2 inlX7 tyX7 tyX7_ok nmX7 C.2.2.2.1 h.1.1 h.2.1 h.2.2.1 h.2.2.2.1 q0 he rfl 9 (by decide) (C.2.2.2.2 (Cond.fieldLink RX7 59 "TraceQuestions" "answered" "LTraceQuestions$Question;") (List.mem_of_getElem? (i := 39) (by decide +kernel))) (fun _ h9 => h9) rfl (tyX7_ok 9 (by decide)) rfl rfl hl hdg (fun H1 locs1 hP hD hS => kk H1 locs1 (by rw [hw] at hP hD; exact ⟨h.1, hP, hD, hS, h.2.2.2.2⟩))
theorem gf7_63 (C : Cx p m c cc nL s args RX7) (h : Hx D g s A H0 ws H locs) (q0 : Nat) {a : Nat} {fs : List Value} {v : Value} (he : ws[q0]? = some (a, .inr (7, fs))) (hv : fs[10]? = some v) (hdg : decode cc pc = .ok (.getfield 63, 3)) (kk : W p l e R s m args below meth c H locs cells slots Q (F0 m (pc + 3) ls (v :: rest))) : W p l e R s m args below meth c H locs cells slots Q (F0 m pc ls (.ref a :: rest)) :=
  va_get (ref := "TraceQuestions") (T := TX7) (N := 16) C.1 C.2.1 C.2.2.2.2 inlX7 C.2.2.2.1 h.1.1 h.2.1 q0 he rfl 10 (by decide) (C.2.2.2.2 (Cond.fieldLink RX7 63 "TraceQuestions" "anyAnswered" "Z") (List.mem_of_getElem? (i := 40) (by decide +kernel))) (fun _ h9 => h9) hv hdg kk
theorem pf7_63 (C : Cx p m c cc nL s args RX7) (h : Hx D g s A H0 ws H locs) (q0 : Nat) {a : Nat} {fs : List Value} {b : Bool} (ws' : va_W) (he : ws[q0]? = some (a, .inr (7, fs))) (hw : ws.set q0 (a, .inr (7, fs.set 10 (.int (bI b)))) = ws') (hl : 10 < fs.length) (hdg : decode cc pc = .ok (.putfield 63, 3)) (kk : ∀ (H1 : Heap) (locs1 : List Loc), Hx D g s A H0 ws' H1 locs1 → W p l e R s m args below meth c H1 locs1 cells slots Q (F0 m (pc + 3) ls rest)) : W p l e R s m args below meth c H locs cells slots Q (F0 m pc ls (.int (bI b) :: .ref a :: rest)) :=
  va_put (ref := "TraceQuestions") (T := TX7) (N := 16) (v := .int (bI b)) C.1 C.2.1 C.2.2.2.2 inlX7 tyX7 tyX7_ok nmX7 C.2.2.2.1 h.1.1 h.2.1 h.2.2.1 h.2.2.2.1 q0 he rfl 10 (by decide) (C.2.2.2.2 (Cond.fieldLink RX7 63 "TraceQuestions" "anyAnswered" "Z") (List.mem_of_getElem? (i := 40) (by decide +kernel))) (fun _ h9 => h9) rfl (tyX7_ok 10 (by decide)) (bI_nar b) (by cases b <;> rfl) hl hdg (fun H1 locs1 hP hD hS => kk H1 locs1 (by rw [hw] at hP hD; exact ⟨h.1, hP, hD, hS, h.2.2.2.2⟩))
theorem gf7_70 (C : Cx p m c cc nL s args RX7) (h : Hx D g s A H0 ws H locs) (q0 : Nat) {a : Nat} {fs : List Value} {v : Value} (he : ws[q0]? = some (a, .inr (7, fs))) (hv : fs[11]? = some v) (hdg : decode cc pc = .ok (.getfield 70, 3)) (kk : W p l e R s m args below meth c H locs cells slots Q (F0 m (pc + 3) ls (v :: rest))) : W p l e R s m args below meth c H locs cells slots Q (F0 m pc ls (.ref a :: rest)) :=
  va_get (ref := "TraceQuestions") (T := TX7) (N := 16) C.1 C.2.1 C.2.2.2.2 inlX7 C.2.2.2.1 h.1.1 h.2.1 q0 he rfl 11 (by decide) (C.2.2.2.2 (Cond.fieldLink RX7 70 "TraceQuestions" "latestFound" "LTraceQuestions$Found;") (List.mem_of_getElem? (i := 44) (by decide +kernel))) (fun _ h9 => h9) hv hdg kk
theorem pf7_70 (C : Cx p m c cc nL s args RX7) (h : Hx D g s A H0 ws H locs) (q0 : Nat) {a : Nat} {fs : List Value} {x : Nat} (ws' : va_W) (he : ws[q0]? = some (a, .inr (7, fs))) (hw : ws.set q0 (a, .inr (7, fs.set 11 (.ref x))) = ws') (hl : 11 < fs.length) (hin : meth.name = "<init>") (hdg : decode cc pc = .ok (.putfield 70, 3)) (kk : ∀ (H1 : Heap) (locs1 : List Loc), Hx D g s A H0 ws' H1 locs1 → W p l e R s m args below meth c H1 locs1 cells slots Q (F0 m (pc + 3) ls rest)) : W p l e R s m args below meth c H locs cells slots Q (F0 m pc ls (.ref x :: .ref a :: rest)) :=
  va_putF (ref := "TraceQuestions") (T := TX7) (N := 16) (v := .ref x) C.1 C.2.1 C.2.2.2.2 inlX7 tyX7 tyX7_ok nmX7 C.2.2.2.1 h.1.1 h.2.1 h.2.2.1 h.2.2.2.1 q0 he rfl 11 (by decide) (C.2.2.2.2 (Cond.fieldLink RX7 70 "TraceQuestions" "latestFound" "LTraceQuestions$Found;") (List.mem_of_getElem? (i := 44) (by decide +kernel))) (fun _ h9 => h9) rfl hin rfl (tyX7_ok 11 (by decide)) rfl rfl hl hdg (fun H1 locs1 hP hD hS => kk H1 locs1 (by rw [hw] at hP hD; exact ⟨h.1, hP, hD, hS, h.2.2.2.2⟩))
theorem gf7_74 (C : Cx p m c cc nL s args RX7) (h : Hx D g s A H0 ws H locs) (q0 : Nat) {a : Nat} {fs : List Value} {v : Value} (he : ws[q0]? = some (a, .inr (7, fs))) (hv : fs[12]? = some v) (hdg : decode cc pc = .ok (.getfield 74, 3)) (kk : W p l e R s m args below meth c H locs cells slots Q (F0 m (pc + 3) ls (v :: rest))) : W p l e R s m args below meth c H locs cells slots Q (F0 m pc ls (.ref a :: rest)) :=
  va_get (ref := "TraceQuestions") (T := TX7) (N := 16) C.1 C.2.1 C.2.2.2.2 inlX7 C.2.2.2.1 h.1.1 h.2.1 q0 he rfl 12 (by decide) (C.2.2.2.2 (Cond.fieldLink RX7 74 "TraceQuestions" "passingFound" "LTraceQuestions$Found;") (List.mem_of_getElem? (i := 45) (by decide +kernel))) (fun _ h9 => h9) hv hdg kk
theorem pf7_74 (C : Cx p m c cc nL s args RX7) (h : Hx D g s A H0 ws H locs) (q0 : Nat) {a : Nat} {fs : List Value} {x : Nat} (ws' : va_W) (he : ws[q0]? = some (a, .inr (7, fs))) (hw : ws.set q0 (a, .inr (7, fs.set 12 (.ref x))) = ws') (hl : 12 < fs.length) (hin : meth.name = "<init>") (hdg : decode cc pc = .ok (.putfield 74, 3)) (kk : ∀ (H1 : Heap) (locs1 : List Loc), Hx D g s A H0 ws' H1 locs1 → W p l e R s m args below meth c H1 locs1 cells slots Q (F0 m (pc + 3) ls rest)) : W p l e R s m args below meth c H locs cells slots Q (F0 m pc ls (.ref x :: .ref a :: rest)) :=
  va_putF (ref := "TraceQuestions") (T := TX7) (N := 16) (v := .ref x) C.1 C.2.1 C.2.2.2.2 inlX7 tyX7 tyX7_ok nmX7 C.2.2.2.1 h.1.1 h.2.1 h.2.2.1 h.2.2.2.1 q0 he rfl 12 (by decide) (C.2.2.2.2 (Cond.fieldLink RX7 74 "TraceQuestions" "passingFound" "LTraceQuestions$Found;") (List.mem_of_getElem? (i := 45) (by decide +kernel))) (fun _ h9 => h9) rfl hin rfl (tyX7_ok 12 (by decide)) rfl rfl hl hdg (fun H1 locs1 hP hD hS => kk H1 locs1 (by rw [hw] at hP hD; exact ⟨h.1, hP, hD, hS, h.2.2.2.2⟩))
theorem gf7_79 (C : Cx p m c cc nL s args RX7) (h : Hx D g s A H0 ws H locs) (q0 : Nat) {a : Nat} {fs : List Value} {v : Value} (he : ws[q0]? = some (a, .inr (7, fs))) (hv : fs[13]? = some v) (hdg : decode cc pc = .ok (.getfield 79, 3)) (kk : W p l e R s m args below meth c H locs cells slots Q (F0 m (pc + 3) ls (v :: rest))) : W p l e R s m args below meth c H locs cells slots Q (F0 m pc ls (.ref a :: rest)) :=
  va_get (ref := "TraceQuestions") (T := TX7) (N := 16) C.1 C.2.1 C.2.2.2.2 inlX7 C.2.2.2.1 h.1.1 h.2.1 q0 he rfl 13 (by decide) (C.2.2.2.2 (Cond.fieldLink RX7 79 "TraceQuestions" "keptQuestions" "[LTraceQuestions$Kept;") (List.mem_of_getElem? (i := 47) (by decide +kernel))) (fun _ h9 => h9) hv hdg kk
theorem pf7_79 (C : Cx p m c cc nL s args RX7) (h : Hx D g s A H0 ws H locs) (q0 : Nat) {a : Nat} {fs : List Value} {x : Nat} (ws' : va_W) (he : ws[q0]? = some (a, .inr (7, fs))) (hw : ws.set q0 (a, .inr (7, fs.set 13 (.ref x))) = ws') (hl : 13 < fs.length) (hin : meth.name = "<init>") (hdg : decode cc pc = .ok (.putfield 79, 3)) (kk : ∀ (H1 : Heap) (locs1 : List Loc), Hx D g s A H0 ws' H1 locs1 → W p l e R s m args below meth c H1 locs1 cells slots Q (F0 m (pc + 3) ls rest)) : W p l e R s m args below meth c H locs cells slots Q (F0 m pc ls (.ref x :: .ref a :: rest)) :=
  va_putF (ref := "TraceQuestions") (T := TX7) (N := 16) (v := .ref x) C.1 C.2.1 C.2.2.2.2 inlX7 tyX7 tyX7_ok nmX7 C.2.2.2.1 h.1.1 h.2.1 h.2.2.1 h.2.2.2.1 q0 he rfl 13 (by decide) (C.2.2.2.2 (Cond.fieldLink RX7 79 "TraceQuestions" "keptQuestions" "[LTraceQuestions$Kept;") (List.mem_of_getElem? (i := 47) (by decide +kernel))) (fun _ h9 => h9) rfl hin rfl (tyX7_ok 13 (by decide)) rfl rfl hl hdg (fun H1 locs1 hP hD hS => kk H1 locs1 (by rw [hw] at hP hD; exact ⟨h.1, hP, hD, hS, h.2.2.2.2⟩))
theorem gf7_83 (C : Cx p m c cc nL s args RX7) (h : Hx D g s A H0 ws H locs) (q0 : Nat) {a : Nat} {fs : List Value} {v : Value} (he : ws[q0]? = some (a, .inr (7, fs))) (hv : fs[14]? = some v) (hdg : decode cc pc = .ok (.getfield 83, 3)) (kk : W p l e R s m args below meth c H locs cells slots Q (F0 m (pc + 3) ls (v :: rest))) : W p l e R s m args below meth c H locs cells slots Q (F0 m pc ls (.ref a :: rest)) :=
  va_get (ref := "TraceQuestions") (T := TX7) (N := 16) C.1 C.2.1 C.2.2.2.2 inlX7 C.2.2.2.1 h.1.1 h.2.1 q0 he rfl 14 (by decide) (C.2.2.2.2 (Cond.fieldLink RX7 83 "TraceQuestions" "keptCount" "I") (List.mem_of_getElem? (i := 48) (by decide +kernel))) (fun _ h9 => h9) hv hdg kk
theorem pf7_83 (C : Cx p m c cc nL s args RX7) (h : Hx D g s A H0 ws H locs) (q0 : Nat) {a : Nat} {fs : List Value} {x : Int32} (ws' : va_W) (he : ws[q0]? = some (a, .inr (7, fs))) (hw : ws.set q0 (a, .inr (7, fs.set 14 (.int x))) = ws') (hl : 14 < fs.length) (hdg : decode cc pc = .ok (.putfield 83, 3)) (kk : ∀ (H1 : Heap) (locs1 : List Loc), Hx D g s A H0 ws' H1 locs1 → W p l e R s m args below meth c H1 locs1 cells slots Q (F0 m (pc + 3) ls rest)) : W p l e R s m args below meth c H locs cells slots Q (F0 m pc ls (.int x :: .ref a :: rest)) :=
  va_put (ref := "TraceQuestions") (T := TX7) (N := 16) (v := .int x) C.1 C.2.1 C.2.2.2.2 inlX7 tyX7 tyX7_ok nmX7 C.2.2.2.1 h.1.1 h.2.1 h.2.2.1 h.2.2.2.1 q0 he rfl 14 (by decide) (C.2.2.2.2 (Cond.fieldLink RX7 83 "TraceQuestions" "keptCount" "I") (List.mem_of_getElem? (i := 48) (by decide +kernel))) (fun _ h9 => h9) rfl (tyX7_ok 14 (by decide)) rfl rfl hl hdg (fun H1 locs1 hP hD hS => kk H1 locs1 (by rw [hw] at hP hD; exact ⟨h.1, hP, hD, hS, h.2.2.2.2⟩))
theorem gf7_86 (C : Cx p m c cc nL s args RX7) (h : Hx D g s A H0 ws H locs) (q0 : Nat) {a : Nat} {fs : List Value} {v : Value} (he : ws[q0]? = some (a, .inr (7, fs))) (hv : fs[15]? = some v) (hdg : decode cc pc = .ok (.getfield 86, 3)) (kk : W p l e R s m args below meth c H locs cells slots Q (F0 m (pc + 3) ls (v :: rest))) : W p l e R s m args below meth c H locs cells slots Q (F0 m pc ls (.ref a :: rest)) :=
  va_get (ref := "TraceQuestions") (T := TX7) (N := 16) C.1 C.2.1 C.2.2.2.2 inlX7 C.2.2.2.1 h.1.1 h.2.1 q0 he rfl 15 (by decide) (C.2.2.2.2 (Cond.fieldLink RX7 86 "TraceQuestions" "time" "J") (List.mem_of_getElem? (i := 49) (by decide +kernel))) (fun _ h9 => h9) hv hdg kk
theorem pf7_86 (C : Cx p m c cc nL s args RX7) (h : Hx D g s A H0 ws H locs) (q0 : Nat) {a : Nat} {fs : List Value} {x : Int64} (ws' : va_W) (he : ws[q0]? = some (a, .inr (7, fs))) (hw : ws.set q0 (a, .inr (7, fs.set 15 (.long x))) = ws') (hl : 15 < fs.length) (hdg : decode cc pc = .ok (.putfield 86, 3)) (kk : ∀ (H1 : Heap) (locs1 : List Loc), Hx D g s A H0 ws' H1 locs1 → W p l e R s m args below meth c H1 locs1 cells slots Q (F0 m (pc + 3) ls rest)) : W p l e R s m args below meth c H locs cells slots Q (F0 m pc ls (.long x :: .ref a :: rest)) :=
  va_put (ref := "TraceQuestions") (T := TX7) (N := 16) (v := .long x) C.1 C.2.1 C.2.2.2.2 inlX7 tyX7 tyX7_ok nmX7 C.2.2.2.1 h.1.1 h.2.1 h.2.2.1 h.2.2.2.1 q0 he rfl 15 (by decide) (C.2.2.2.2 (Cond.fieldLink RX7 86 "TraceQuestions" "time" "J") (List.mem_of_getElem? (i := 49) (by decide +kernel))) (fun _ h9 => h9) rfl (tyX7_ok 15 (by decide)) rfl rfl hl hdg (fun H1 locs1 hP hD hS => kk H1 locs1 (by rw [hw] at hP hD; exact ⟨h.1, hP, hD, hS, h.2.2.2.2⟩))
theorem gf6_11 (C : Cx p m c cc nL s args RX6) (h : Hx D g s A H0 ws H locs) (q0 : Nat) {a : Nat} {fs : List Value} {v : Value} (he : ws[q0]? = some (a, .inr (6, fs))) (hv : fs[0]? = some v) (hdg : decode cc pc = .ok (.getfield 11, 3)) (kk : W p l e R s m args below meth c H locs cells slots Q (F0 m (pc + 3) ls (v :: rest))) : W p l e R s m args below meth c H locs cells slots Q (F0 m pc ls (.ref a :: rest)) :=
  va_get (ref := "TraceQuestions$Rows") (T := TX6) (N := 4) C.1 C.2.1 C.2.2.2.2 inlX6 C.2.2.2.1 h.1.1 h.2.1 q0 he rfl 0 (by decide) (C.2.2.2.2 (Cond.fieldLink RX6 11 "TraceQuestions$Rows" "values" "[[I") (List.mem_of_getElem? (i := 55) (by decide +kernel))) (fun _ h9 => h9) hv hdg kk
theorem pf6_11 (C : Cx p m c cc nL s args RX6) (h : Hx D g s A H0 ws H locs) (q0 : Nat) {a : Nat} {fs : List Value} {x : Nat} (ws' : va_W) (he : ws[q0]? = some (a, .inr (6, fs))) (hw : ws.set q0 (a, .inr (6, fs.set 0 (.ref x))) = ws') (hl : 0 < fs.length) (hin : meth.name = "<init>") (hdg : decode cc pc = .ok (.putfield 11, 3)) (kk : ∀ (H1 : Heap) (locs1 : List Loc), Hx D g s A H0 ws' H1 locs1 → W p l e R s m args below meth c H1 locs1 cells slots Q (F0 m (pc + 3) ls rest)) : W p l e R s m args below meth c H locs cells slots Q (F0 m pc ls (.ref x :: .ref a :: rest)) :=
  va_putF (ref := "TraceQuestions$Rows") (T := TX6) (N := 4) (v := .ref x) C.1 C.2.1 C.2.2.2.2 inlX6 tyX6 tyX6_ok nmX6 C.2.2.2.1 h.1.1 h.2.1 h.2.2.1 h.2.2.2.1 q0 he rfl 0 (by decide) (C.2.2.2.2 (Cond.fieldLink RX6 11 "TraceQuestions$Rows" "values" "[[I") (List.mem_of_getElem? (i := 55) (by decide +kernel))) (fun _ h9 => h9) rfl hin rfl (tyX6_ok 0 (by decide)) rfl rfl hl hdg (fun H1 locs1 hP hD hS => kk H1 locs1 (by rw [hw] at hP hD; exact ⟨h.1, hP, hD, hS, h.2.2.2.2⟩))
theorem gf6_16 (C : Cx p m c cc nL s args RX6) (h : Hx D g s A H0 ws H locs) (q0 : Nat) {a : Nat} {fs : List Value} {v : Value} (he : ws[q0]? = some (a, .inr (6, fs))) (hv : fs[1]? = some v) (hdg : decode cc pc = .ok (.getfield 16, 3)) (kk : W p l e R s m args below meth c H locs cells slots Q (F0 m (pc + 3) ls (v :: rest))) : W p l e R s m args below meth c H locs cells slots Q (F0 m pc ls (.ref a :: rest)) :=
  va_get (ref := "TraceQuestions$Rows") (T := TX6) (N := 4) C.1 C.2.1 C.2.2.2.2 inlX6 C.2.2.2.1 h.1.1 h.2.1 q0 he rfl 1 (by decide) (C.2.2.2.2 (Cond.fieldLink RX6 16 "TraceQuestions$Rows" "upward" "[[I") (List.mem_of_getElem? (i := 56) (by decide +kernel))) (fun _ h9 => h9) hv hdg kk
theorem pf6_16 (C : Cx p m c cc nL s args RX6) (h : Hx D g s A H0 ws H locs) (q0 : Nat) {a : Nat} {fs : List Value} {x : Nat} (ws' : va_W) (he : ws[q0]? = some (a, .inr (6, fs))) (hw : ws.set q0 (a, .inr (6, fs.set 1 (.ref x))) = ws') (hl : 1 < fs.length) (hin : meth.name = "<init>") (hdg : decode cc pc = .ok (.putfield 16, 3)) (kk : ∀ (H1 : Heap) (locs1 : List Loc), Hx D g s A H0 ws' H1 locs1 → W p l e R s m args below meth c H1 locs1 cells slots Q (F0 m (pc + 3) ls rest)) : W p l e R s m args below meth c H locs cells slots Q (F0 m pc ls (.ref x :: .ref a :: rest)) :=
  va_putF (ref := "TraceQuestions$Rows") (T := TX6) (N := 4) (v := .ref x) C.1 C.2.1 C.2.2.2.2 inlX6 tyX6 tyX6_ok nmX6 C.2.2.2.1 h.1.1 h.2.1 h.2.2.1 h.2.2.2.1 q0 he rfl 1 (by decide) (C.2.2.2.2 (Cond.fieldLink RX6 16 "TraceQuestions$Rows" "upward" "[[I") (List.mem_of_getElem? (i := 56) (by decide +kernel))) (fun _ h9 => h9) rfl hin rfl (tyX6_ok 1 (by decide)) rfl rfl hl hdg (fun H1 locs1 hP hD hS => kk H1 locs1 (by rw [hw] at hP hD; exact ⟨h.1, hP, hD, hS, h.2.2.2.2⟩))
theorem gf6_19 (C : Cx p m c cc nL s args RX6) (h : Hx D g s A H0 ws H locs) (q0 : Nat) {a : Nat} {fs : List Value} {v : Value} (he : ws[q0]? = some (a, .inr (6, fs))) (hv : fs[2]? = some v) (hdg : decode cc pc = .ok (.getfield 19, 3)) (kk : W p l e R s m args below meth c H locs cells slots Q (F0 m (pc + 3) ls (v :: rest))) : W p l e R s m args below meth c H locs cells slots Q (F0 m pc ls (.ref a :: rest)) :=
  va_get (ref := "TraceQuestions$Rows") (T := TX6) (N := 4) C.1 C.2.1 C.2.2.2.2 inlX6 C.2.2.2.1 h.1.1 h.2.1 q0 he rfl 2 (by decide) (C.2.2.2.2 (Cond.fieldLink RX6 19 "TraceQuestions$Rows" "downward" "[[I") (List.mem_of_getElem? (i := 57) (by decide +kernel))) (fun _ h9 => h9) hv hdg kk
theorem pf6_19 (C : Cx p m c cc nL s args RX6) (h : Hx D g s A H0 ws H locs) (q0 : Nat) {a : Nat} {fs : List Value} {x : Nat} (ws' : va_W) (he : ws[q0]? = some (a, .inr (6, fs))) (hw : ws.set q0 (a, .inr (6, fs.set 2 (.ref x))) = ws') (hl : 2 < fs.length) (hin : meth.name = "<init>") (hdg : decode cc pc = .ok (.putfield 19, 3)) (kk : ∀ (H1 : Heap) (locs1 : List Loc), Hx D g s A H0 ws' H1 locs1 → W p l e R s m args below meth c H1 locs1 cells slots Q (F0 m (pc + 3) ls rest)) : W p l e R s m args below meth c H locs cells slots Q (F0 m pc ls (.ref x :: .ref a :: rest)) :=
  va_putF (ref := "TraceQuestions$Rows") (T := TX6) (N := 4) (v := .ref x) C.1 C.2.1 C.2.2.2.2 inlX6 tyX6 tyX6_ok nmX6 C.2.2.2.1 h.1.1 h.2.1 h.2.2.1 h.2.2.2.1 q0 he rfl 2 (by decide) (C.2.2.2.2 (Cond.fieldLink RX6 19 "TraceQuestions$Rows" "downward" "[[I") (List.mem_of_getElem? (i := 57) (by decide +kernel))) (fun _ h9 => h9) rfl hin rfl (tyX6_ok 2 (by decide)) rfl rfl hl hdg (fun H1 locs1 hP hD hS => kk H1 locs1 (by rw [hw] at hP hD; exact ⟨h.1, hP, hD, hS, h.2.2.2.2⟩))
theorem gf6_22 (C : Cx p m c cc nL s args RX6) (h : Hx D g s A H0 ws H locs) (q0 : Nat) {a : Nat} {fs : List Value} {v : Value} (he : ws[q0]? = some (a, .inr (6, fs))) (hv : fs[3]? = some v) (hdg : decode cc pc = .ok (.getfield 22, 3)) (kk : W p l e R s m args below meth c H locs cells slots Q (F0 m (pc + 3) ls (v :: rest))) : W p l e R s m args below meth c H locs cells slots Q (F0 m pc ls (.ref a :: rest)) :=
  va_get (ref := "TraceQuestions$Rows") (T := TX6) (N := 4) C.1 C.2.1 C.2.2.2.2 inlX6 C.2.2.2.1 h.1.1 h.2.1 q0 he rfl 3 (by decide) (C.2.2.2.2 (Cond.fieldLink RX6 22 "TraceQuestions$Rows" "count" "I") (List.mem_of_getElem? (i := 58) (by decide +kernel))) (fun _ h9 => h9) hv hdg kk
theorem pf6_22 (C : Cx p m c cc nL s args RX6) (h : Hx D g s A H0 ws H locs) (q0 : Nat) {a : Nat} {fs : List Value} {x : Int32} (ws' : va_W) (he : ws[q0]? = some (a, .inr (6, fs))) (hw : ws.set q0 (a, .inr (6, fs.set 3 (.int x))) = ws') (hl : 3 < fs.length) (hdg : decode cc pc = .ok (.putfield 22, 3)) (kk : ∀ (H1 : Heap) (locs1 : List Loc), Hx D g s A H0 ws' H1 locs1 → W p l e R s m args below meth c H1 locs1 cells slots Q (F0 m (pc + 3) ls rest)) : W p l e R s m args below meth c H locs cells slots Q (F0 m pc ls (.int x :: .ref a :: rest)) :=
  va_put (ref := "TraceQuestions$Rows") (T := TX6) (N := 4) (v := .int x) C.1 C.2.1 C.2.2.2.2 inlX6 tyX6 tyX6_ok nmX6 C.2.2.2.1 h.1.1 h.2.1 h.2.2.1 h.2.2.2.1 q0 he rfl 3 (by decide) (C.2.2.2.2 (Cond.fieldLink RX6 22 "TraceQuestions$Rows" "count" "I") (List.mem_of_getElem? (i := 58) (by decide +kernel))) (fun _ h9 => h9) rfl (tyX6_ok 3 (by decide)) rfl rfl hl hdg (fun H1 locs1 hP hD hS => kk H1 locs1 (by rw [hw] at hP hD; exact ⟨h.1, hP, hD, hS, h.2.2.2.2⟩))
theorem gf5_11 (C : Cx p m c cc nL s args RX5) (h : Hx D g s A H0 ws H locs) (q0 : Nat) {a : Nat} {fs : List Value} {v : Value} (he : ws[q0]? = some (a, .inr (5, fs))) (hv : fs[0]? = some v) (hdg : decode cc pc = .ok (.getfield 11, 3)) (kk : W p l e R s m args below meth c H locs cells slots Q (F0 m (pc + 3) ls (v :: rest))) : W p l e R s m args below meth c H locs cells slots Q (F0 m pc ls (.ref a :: rest)) :=
  va_get (ref := "TraceQuestions$Rights") (T := TX5) (N := 3) C.1 C.2.1 C.2.2.2.2 inlX5 C.2.2.2.1 h.1.1 h.2.1 q0 he rfl 0 (by decide) (C.2.2.2.2 (Cond.fieldLink RX5 11 "TraceQuestions$Rights" "kinds" "[[I") (List.mem_of_getElem? (i := 63) (by decide +kernel))) (fun _ h9 => h9) hv hdg kk
theorem pf5_11 (C : Cx p m c cc nL s args RX5) (h : Hx D g s A H0 ws H locs) (q0 : Nat) {a : Nat} {fs : List Value} {x : Nat} (ws' : va_W) (he : ws[q0]? = some (a, .inr (5, fs))) (hw : ws.set q0 (a, .inr (5, fs.set 0 (.ref x))) = ws') (hl : 0 < fs.length) (hin : meth.name = "<init>") (hdg : decode cc pc = .ok (.putfield 11, 3)) (kk : ∀ (H1 : Heap) (locs1 : List Loc), Hx D g s A H0 ws' H1 locs1 → W p l e R s m args below meth c H1 locs1 cells slots Q (F0 m (pc + 3) ls rest)) : W p l e R s m args below meth c H locs cells slots Q (F0 m pc ls (.ref x :: .ref a :: rest)) :=
  va_putF (ref := "TraceQuestions$Rights") (T := TX5) (N := 3) (v := .ref x) C.1 C.2.1 C.2.2.2.2 inlX5 tyX5 tyX5_ok nmX5 C.2.2.2.1 h.1.1 h.2.1 h.2.2.1 h.2.2.2.1 q0 he rfl 0 (by decide) (C.2.2.2.2 (Cond.fieldLink RX5 11 "TraceQuestions$Rights" "kinds" "[[I") (List.mem_of_getElem? (i := 63) (by decide +kernel))) (fun _ h9 => h9) rfl hin rfl (tyX5_ok 0 (by decide)) rfl rfl hl hdg (fun H1 locs1 hP hD hS => kk H1 locs1 (by rw [hw] at hP hD; exact ⟨h.1, hP, hD, hS, h.2.2.2.2⟩))
theorem gf5_16 (C : Cx p m c cc nL s args RX5) (h : Hx D g s A H0 ws H locs) (q0 : Nat) {a : Nat} {fs : List Value} {v : Value} (he : ws[q0]? = some (a, .inr (5, fs))) (hv : fs[1]? = some v) (hdg : decode cc pc = .ok (.getfield 16, 3)) (kk : W p l e R s m args below meth c H locs cells slots Q (F0 m (pc + 3) ls (v :: rest))) : W p l e R s m args below meth c H locs cells slots Q (F0 m pc ls (.ref a :: rest)) :=
  va_get (ref := "TraceQuestions$Rights") (T := TX5) (N := 3) C.1 C.2.1 C.2.2.2.2 inlX5 C.2.2.2.1 h.1.1 h.2.1 q0 he rfl 1 (by decide) (C.2.2.2.2 (Cond.fieldLink RX5 16 "TraceQuestions$Rights" "counts" "[I") (List.mem_of_getElem? (i := 64) (by decide +kernel))) (fun _ h9 => h9) hv hdg kk
theorem pf5_16 (C : Cx p m c cc nL s args RX5) (h : Hx D g s A H0 ws H locs) (q0 : Nat) {a : Nat} {fs : List Value} {x : Nat} (ws' : va_W) (he : ws[q0]? = some (a, .inr (5, fs))) (hw : ws.set q0 (a, .inr (5, fs.set 1 (.ref x))) = ws') (hl : 1 < fs.length) (hin : meth.name = "<init>") (hdg : decode cc pc = .ok (.putfield 16, 3)) (kk : ∀ (H1 : Heap) (locs1 : List Loc), Hx D g s A H0 ws' H1 locs1 → W p l e R s m args below meth c H1 locs1 cells slots Q (F0 m (pc + 3) ls rest)) : W p l e R s m args below meth c H locs cells slots Q (F0 m pc ls (.ref x :: .ref a :: rest)) :=
  va_putF (ref := "TraceQuestions$Rights") (T := TX5) (N := 3) (v := .ref x) C.1 C.2.1 C.2.2.2.2 inlX5 tyX5 tyX5_ok nmX5 C.2.2.2.1 h.1.1 h.2.1 h.2.2.1 h.2.2.2.1 q0 he rfl 1 (by decide) (C.2.2.2.2 (Cond.fieldLink RX5 16 "TraceQuestions$Rights" "counts" "[I") (List.mem_of_getElem? (i := 64) (by decide +kernel))) (fun _ h9 => h9) rfl hin rfl (tyX5_ok 1 (by decide)) rfl rfl hl hdg (fun H1 locs1 hP hD hS => kk H1 locs1 (by rw [hw] at hP hD; exact ⟨h.1, hP, hD, hS, h.2.2.2.2⟩))
theorem gf5_20 (C : Cx p m c cc nL s args RX5) (h : Hx D g s A H0 ws H locs) (q0 : Nat) {a : Nat} {fs : List Value} {v : Value} (he : ws[q0]? = some (a, .inr (5, fs))) (hv : fs[2]? = some v) (hdg : decode cc pc = .ok (.getfield 20, 3)) (kk : W p l e R s m args below meth c H locs cells slots Q (F0 m (pc + 3) ls (v :: rest))) : W p l e R s m args below meth c H locs cells slots Q (F0 m pc ls (.ref a :: rest)) :=
  va_get (ref := "TraceQuestions$Rights") (T := TX5) (N := 3) C.1 C.2.1 C.2.2.2.2 inlX5 C.2.2.2.1 h.1.1 h.2.1 q0 he rfl 2 (by decide) (C.2.2.2.2 (Cond.fieldLink RX5 20 "TraceQuestions$Rights" "count" "I") (List.mem_of_getElem? (i := 65) (by decide +kernel))) (fun _ h9 => h9) hv hdg kk
theorem pf5_20 (C : Cx p m c cc nL s args RX5) (h : Hx D g s A H0 ws H locs) (q0 : Nat) {a : Nat} {fs : List Value} {x : Int32} (ws' : va_W) (he : ws[q0]? = some (a, .inr (5, fs))) (hw : ws.set q0 (a, .inr (5, fs.set 2 (.int x))) = ws') (hl : 2 < fs.length) (hdg : decode cc pc = .ok (.putfield 20, 3)) (kk : ∀ (H1 : Heap) (locs1 : List Loc), Hx D g s A H0 ws' H1 locs1 → W p l e R s m args below meth c H1 locs1 cells slots Q (F0 m (pc + 3) ls rest)) : W p l e R s m args below meth c H locs cells slots Q (F0 m pc ls (.int x :: .ref a :: rest)) :=
  va_put (ref := "TraceQuestions$Rights") (T := TX5) (N := 3) (v := .int x) C.1 C.2.1 C.2.2.2.2 inlX5 tyX5 tyX5_ok nmX5 C.2.2.2.1 h.1.1 h.2.1 h.2.2.1 h.2.2.2.1 q0 he rfl 2 (by decide) (C.2.2.2.2 (Cond.fieldLink RX5 20 "TraceQuestions$Rights" "count" "I") (List.mem_of_getElem? (i := 65) (by decide +kernel))) (fun _ h9 => h9) rfl (tyX5_ok 2 (by decide)) rfl rfl hl hdg (fun H1 locs1 hP hD hS => kk H1 locs1 (by rw [hw] at hP hD; exact ⟨h.1, hP, hD, hS, h.2.2.2.2⟩))
theorem gf4_12 (C : Cx p m c cc nL s args RX4) (h : Hx D g s A H0 ws H locs) (q0 : Nat) {a : Nat} {fs : List Value} {v : Value} (he : ws[q0]? = some (a, .inr (4, fs))) (hv : fs[0]? = some v) (hdg : decode cc pc = .ok (.getfield 12, 3)) (kk : W p l e R s m args below meth c H locs cells slots Q (F0 m (pc + 3) ls (v :: rest))) : W p l e R s m args below meth c H locs cells slots Q (F0 m pc ls (.ref a :: rest)) :=
  va_get (ref := "TraceQuestions$Reader") (T := TX4) (N := 11) C.1 C.2.1 C.2.2.2.2 inlX4 C.2.2.2.1 h.1.1 h.2.1 q0 he rfl 0 (by decide) (C.2.2.2.2 (Cond.fieldLink RX4 12 "TraceQuestions$Reader" "draft" "LTraceQuestions$Question;") (List.mem_of_getElem? (i := 70) (by decide +kernel))) (fun _ h9 => h9) hv hdg kk
theorem pf4_12 (C : Cx p m c cc nL s args RX4) (h : Hx D g s A H0 ws H locs) (q0 : Nat) {a : Nat} {fs : List Value} {x : Nat} (ws' : va_W) (he : ws[q0]? = some (a, .inr (4, fs))) (hw : ws.set q0 (a, .inr (4, fs.set 0 (.ref x))) = ws') (hl : 0 < fs.length) (hdg : decode cc pc = .ok (.putfield 12, 3)) (kk : ∀ (H1 : Heap) (locs1 : List Loc), Hx D g s A H0 ws' H1 locs1 → W p l e R s m args below meth c H1 locs1 cells slots Q (F0 m (pc + 3) ls rest)) : W p l e R s m args below meth c H locs cells slots Q (F0 m pc ls (.ref x :: .ref a :: rest)) :=
  va_put (ref := "TraceQuestions$Reader") (T := TX4) (N := 11) (v := .ref x) C.1 C.2.1 C.2.2.2.2 inlX4 tyX4 tyX4_ok nmX4 C.2.2.2.1 h.1.1 h.2.1 h.2.2.1 h.2.2.2.1 q0 he rfl 0 (by decide) (C.2.2.2.2 (Cond.fieldLink RX4 12 "TraceQuestions$Reader" "draft" "LTraceQuestions$Question;") (List.mem_of_getElem? (i := 70) (by decide +kernel))) (fun _ h9 => h9) rfl (tyX4_ok 0 (by decide)) rfl rfl hl hdg (fun H1 locs1 hP hD hS => kk H1 locs1 (by rw [hw] at hP hD; exact ⟨h.1, hP, hD, hS, h.2.2.2.2⟩))
theorem gf4_18 (C : Cx p m c cc nL s args RX4) (h : Hx D g s A H0 ws H locs) (q0 : Nat) {a : Nat} {fs : List Value} {v : Value} (he : ws[q0]? = some (a, .inr (4, fs))) (hv : fs[1]? = some v) (hdg : decode cc pc = .ok (.getfield 18, 3)) (kk : W p l e R s m args below meth c H locs cells slots Q (F0 m (pc + 3) ls (v :: rest))) : W p l e R s m args below meth c H locs cells slots Q (F0 m pc ls (.ref a :: rest)) :=
  va_get (ref := "TraceQuestions$Reader") (T := TX4) (N := 11) C.1 C.2.1 C.2.2.2.2 inlX4 C.2.2.2.1 h.1.1 h.2.1 q0 he rfl 1 (by decide) (C.2.2.2.2 (Cond.fieldLink RX4 18 "TraceQuestions$Reader" "maskedFields" "I") (List.mem_of_getElem? (i := 71) (by decide +kernel))) (fun _ h9 => h9) hv hdg kk
theorem pf4_18 (C : Cx p m c cc nL s args RX4) (h : Hx D g s A H0 ws H locs) (q0 : Nat) {a : Nat} {fs : List Value} {x : Int32} (ws' : va_W) (he : ws[q0]? = some (a, .inr (4, fs))) (hw : ws.set q0 (a, .inr (4, fs.set 1 (.int x))) = ws') (hl : 1 < fs.length) (hdg : decode cc pc = .ok (.putfield 18, 3)) (kk : ∀ (H1 : Heap) (locs1 : List Loc), Hx D g s A H0 ws' H1 locs1 → W p l e R s m args below meth c H1 locs1 cells slots Q (F0 m (pc + 3) ls rest)) : W p l e R s m args below meth c H locs cells slots Q (F0 m pc ls (.int x :: .ref a :: rest)) :=
  va_put (ref := "TraceQuestions$Reader") (T := TX4) (N := 11) (v := .int x) C.1 C.2.1 C.2.2.2.2 inlX4 tyX4 tyX4_ok nmX4 C.2.2.2.1 h.1.1 h.2.1 h.2.2.1 h.2.2.2.1 q0 he rfl 1 (by decide) (C.2.2.2.2 (Cond.fieldLink RX4 18 "TraceQuestions$Reader" "maskedFields" "I") (List.mem_of_getElem? (i := 71) (by decide +kernel))) (fun _ h9 => h9) rfl (tyX4_ok 1 (by decide)) rfl rfl hl hdg (fun H1 locs1 hP hD hS => kk H1 locs1 (by rw [hw] at hP hD; exact ⟨h.1, hP, hD, hS, h.2.2.2.2⟩))
theorem gf4_22 (C : Cx p m c cc nL s args RX4) (h : Hx D g s A H0 ws H locs) (q0 : Nat) {a : Nat} {fs : List Value} {v : Value} (he : ws[q0]? = some (a, .inr (4, fs))) (hv : fs[2]? = some v) (hdg : decode cc pc = .ok (.getfield 22, 3)) (kk : W p l e R s m args below meth c H locs cells slots Q (F0 m (pc + 3) ls (v :: rest))) : W p l e R s m args below meth c H locs cells slots Q (F0 m pc ls (.ref a :: rest)) :=
  va_get (ref := "TraceQuestions$Reader") (T := TX4) (N := 11) C.1 C.2.1 C.2.2.2.2 inlX4 C.2.2.2.1 h.1.1 h.2.1 q0 he rfl 2 (by decide) (C.2.2.2.2 (Cond.fieldLink RX4 22 "TraceQuestions$Reader" "state" "I") (List.mem_of_getElem? (i := 72) (by decide +kernel))) (fun _ h9 => h9) hv hdg kk
theorem pf4_22 (C : Cx p m c cc nL s args RX4) (h : Hx D g s A H0 ws H locs) (q0 : Nat) {a : Nat} {fs : List Value} {x : Int32} (ws' : va_W) (he : ws[q0]? = some (a, .inr (4, fs))) (hw : ws.set q0 (a, .inr (4, fs.set 2 (.int x))) = ws') (hl : 2 < fs.length) (hdg : decode cc pc = .ok (.putfield 22, 3)) (kk : ∀ (H1 : Heap) (locs1 : List Loc), Hx D g s A H0 ws' H1 locs1 → W p l e R s m args below meth c H1 locs1 cells slots Q (F0 m (pc + 3) ls rest)) : W p l e R s m args below meth c H locs cells slots Q (F0 m pc ls (.int x :: .ref a :: rest)) :=
  va_put (ref := "TraceQuestions$Reader") (T := TX4) (N := 11) (v := .int x) C.1 C.2.1 C.2.2.2.2 inlX4 tyX4 tyX4_ok nmX4 C.2.2.2.1 h.1.1 h.2.1 h.2.2.1 h.2.2.2.1 q0 he rfl 2 (by decide) (C.2.2.2.2 (Cond.fieldLink RX4 22 "TraceQuestions$Reader" "state" "I") (List.mem_of_getElem? (i := 72) (by decide +kernel))) (fun _ h9 => h9) rfl (tyX4_ok 2 (by decide)) rfl rfl hl hdg (fun H1 locs1 hP hD hS => kk H1 locs1 (by rw [hw] at hP hD; exact ⟨h.1, hP, hD, hS, h.2.2.2.2⟩))
theorem gf4_25 (C : Cx p m c cc nL s args RX4) (h : Hx D g s A H0 ws H locs) (q0 : Nat) {a : Nat} {fs : List Value} {v : Value} (he : ws[q0]? = some (a, .inr (4, fs))) (hv : fs[3]? = some v) (hdg : decode cc pc = .ok (.getfield 25, 3)) (kk : W p l e R s m args below meth c H locs cells slots Q (F0 m (pc + 3) ls (v :: rest))) : W p l e R s m args below meth c H locs cells slots Q (F0 m pc ls (.ref a :: rest)) :=
  va_get (ref := "TraceQuestions$Reader") (T := TX4) (N := 11) C.1 C.2.1 C.2.2.2.2 inlX4 C.2.2.2.1 h.1.1 h.2.1 q0 he rfl 3 (by decide) (C.2.2.2.2 (Cond.fieldLink RX4 25 "TraceQuestions$Reader" "field" "I") (List.mem_of_getElem? (i := 73) (by decide +kernel))) (fun _ h9 => h9) hv hdg kk
theorem pf4_25 (C : Cx p m c cc nL s args RX4) (h : Hx D g s A H0 ws H locs) (q0 : Nat) {a : Nat} {fs : List Value} {x : Int32} (ws' : va_W) (he : ws[q0]? = some (a, .inr (4, fs))) (hw : ws.set q0 (a, .inr (4, fs.set 3 (.int x))) = ws') (hl : 3 < fs.length) (hdg : decode cc pc = .ok (.putfield 25, 3)) (kk : ∀ (H1 : Heap) (locs1 : List Loc), Hx D g s A H0 ws' H1 locs1 → W p l e R s m args below meth c H1 locs1 cells slots Q (F0 m (pc + 3) ls rest)) : W p l e R s m args below meth c H locs cells slots Q (F0 m pc ls (.int x :: .ref a :: rest)) :=
  va_put (ref := "TraceQuestions$Reader") (T := TX4) (N := 11) (v := .int x) C.1 C.2.1 C.2.2.2.2 inlX4 tyX4 tyX4_ok nmX4 C.2.2.2.1 h.1.1 h.2.1 h.2.2.1 h.2.2.2.1 q0 he rfl 3 (by decide) (C.2.2.2.2 (Cond.fieldLink RX4 25 "TraceQuestions$Reader" "field" "I") (List.mem_of_getElem? (i := 73) (by decide +kernel))) (fun _ h9 => h9) rfl (tyX4_ok 3 (by decide)) rfl rfl hl hdg (fun H1 locs1 hP hD hS => kk H1 locs1 (by rw [hw] at hP hD; exact ⟨h.1, hP, hD, hS, h.2.2.2.2⟩))
theorem gf4_28 (C : Cx p m c cc nL s args RX4) (h : Hx D g s A H0 ws H locs) (q0 : Nat) {a : Nat} {fs : List Value} {v : Value} (he : ws[q0]? = some (a, .inr (4, fs))) (hv : fs[4]? = some v) (hdg : decode cc pc = .ok (.getfield 28, 3)) (kk : W p l e R s m args below meth c H locs cells slots Q (F0 m (pc + 3) ls (v :: rest))) : W p l e R s m args below meth c H locs cells slots Q (F0 m pc ls (.ref a :: rest)) :=
  va_get (ref := "TraceQuestions$Reader") (T := TX4) (N := 11) C.1 C.2.1 C.2.2.2.2 inlX4 C.2.2.2.1 h.1.1 h.2.1 q0 he rfl 4 (by decide) (C.2.2.2.2 (Cond.fieldLink RX4 28 "TraceQuestions$Reader" "relation" "C") (List.mem_of_getElem? (i := 74) (by decide +kernel))) (fun _ h9 => h9) hv hdg kk
theorem pf4_28 (C : Cx p m c cc nL s args RX4) (h : Hx D g s A H0 ws H locs) (q0 : Nat) {a : Nat} {fs : List Value} {x : Int32} (ws' : va_W) (he : ws[q0]? = some (a, .inr (4, fs))) (hw : ws.set q0 (a, .inr (4, fs.set 4 (.int x))) = ws') (hl : 4 < fs.length) (hn : narrow .char (.int x) = .int x) (hf : fits .char (.int x) = true) (hdg : decode cc pc = .ok (.putfield 28, 3)) (kk : ∀ (H1 : Heap) (locs1 : List Loc), Hx D g s A H0 ws' H1 locs1 → W p l e R s m args below meth c H1 locs1 cells slots Q (F0 m (pc + 3) ls rest)) : W p l e R s m args below meth c H locs cells slots Q (F0 m pc ls (.int x :: .ref a :: rest)) :=
  va_put (ref := "TraceQuestions$Reader") (T := TX4) (N := 11) (v := .int x) C.1 C.2.1 C.2.2.2.2 inlX4 tyX4 tyX4_ok nmX4 C.2.2.2.1 h.1.1 h.2.1 h.2.2.1 h.2.2.2.1 q0 he rfl 4 (by decide) (C.2.2.2.2 (Cond.fieldLink RX4 28 "TraceQuestions$Reader" "relation" "C") (List.mem_of_getElem? (i := 74) (by decide +kernel))) (fun _ h9 => h9) rfl (tyX4_ok 4 (by decide)) hn hf hl hdg (fun H1 locs1 hP hD hS => kk H1 locs1 (by rw [hw] at hP hD; exact ⟨h.1, hP, hD, hS, h.2.2.2.2⟩))
theorem gf4_32 (C : Cx p m c cc nL s args RX4) (h : Hx D g s A H0 ws H locs) (q0 : Nat) {a : Nat} {fs : List Value} {v : Value} (he : ws[q0]? = some (a, .inr (4, fs))) (hv : fs[5]? = some v) (hdg : decode cc pc = .ok (.getfield 32, 3)) (kk : W p l e R s m args below meth c H locs cells slots Q (F0 m (pc + 3) ls (v :: rest))) : W p l e R s m args below meth c H locs cells slots Q (F0 m pc ls (.ref a :: rest)) :=
  va_get (ref := "TraceQuestions$Reader") (T := TX4) (N := 11) C.1 C.2.1 C.2.2.2.2 inlX4 C.2.2.2.1 h.1.1 h.2.1 q0 he rfl 5 (by decide) (C.2.2.2.2 (Cond.fieldLink RX4 32 "TraceQuestions$Reader" "number" "I") (List.mem_of_getElem? (i := 75) (by decide +kernel))) (fun _ h9 => h9) hv hdg kk
theorem pf4_32 (C : Cx p m c cc nL s args RX4) (h : Hx D g s A H0 ws H locs) (q0 : Nat) {a : Nat} {fs : List Value} {x : Int32} (ws' : va_W) (he : ws[q0]? = some (a, .inr (4, fs))) (hw : ws.set q0 (a, .inr (4, fs.set 5 (.int x))) = ws') (hl : 5 < fs.length) (hdg : decode cc pc = .ok (.putfield 32, 3)) (kk : ∀ (H1 : Heap) (locs1 : List Loc), Hx D g s A H0 ws' H1 locs1 → W p l e R s m args below meth c H1 locs1 cells slots Q (F0 m (pc + 3) ls rest)) : W p l e R s m args below meth c H locs cells slots Q (F0 m pc ls (.int x :: .ref a :: rest)) :=
  va_put (ref := "TraceQuestions$Reader") (T := TX4) (N := 11) (v := .int x) C.1 C.2.1 C.2.2.2.2 inlX4 tyX4 tyX4_ok nmX4 C.2.2.2.1 h.1.1 h.2.1 h.2.2.1 h.2.2.2.1 q0 he rfl 5 (by decide) (C.2.2.2.2 (Cond.fieldLink RX4 32 "TraceQuestions$Reader" "number" "I") (List.mem_of_getElem? (i := 75) (by decide +kernel))) (fun _ h9 => h9) rfl (tyX4_ok 5 (by decide)) rfl rfl hl hdg (fun H1 locs1 hP hD hS => kk H1 locs1 (by rw [hw] at hP hD; exact ⟨h.1, hP, hD, hS, h.2.2.2.2⟩))
theorem gf4_35 (C : Cx p m c cc nL s args RX4) (h : Hx D g s A H0 ws H locs) (q0 : Nat) {a : Nat} {fs : List Value} {v : Value} (he : ws[q0]? = some (a, .inr (4, fs))) (hv : fs[6]? = some v) (hdg : decode cc pc = .ok (.getfield 35, 3)) (kk : W p l e R s m args below meth c H locs cells slots Q (F0 m (pc + 3) ls (v :: rest))) : W p l e R s m args below meth c H locs cells slots Q (F0 m pc ls (.ref a :: rest)) :=
  va_get (ref := "TraceQuestions$Reader") (T := TX4) (N := 11) C.1 C.2.1 C.2.2.2.2 inlX4 C.2.2.2.1 h.1.1 h.2.1 q0 he rfl 6 (by decide) (C.2.2.2.2 (Cond.fieldLink RX4 35 "TraceQuestions$Reader" "figures" "I") (List.mem_of_getElem? (i := 76) (by decide +kernel))) (fun _ h9 => h9) hv hdg kk
theorem pf4_35 (C : Cx p m c cc nL s args RX4) (h : Hx D g s A H0 ws H locs) (q0 : Nat) {a : Nat} {fs : List Value} {x : Int32} (ws' : va_W) (he : ws[q0]? = some (a, .inr (4, fs))) (hw : ws.set q0 (a, .inr (4, fs.set 6 (.int x))) = ws') (hl : 6 < fs.length) (hdg : decode cc pc = .ok (.putfield 35, 3)) (kk : ∀ (H1 : Heap) (locs1 : List Loc), Hx D g s A H0 ws' H1 locs1 → W p l e R s m args below meth c H1 locs1 cells slots Q (F0 m (pc + 3) ls rest)) : W p l e R s m args below meth c H locs cells slots Q (F0 m pc ls (.int x :: .ref a :: rest)) :=
  va_put (ref := "TraceQuestions$Reader") (T := TX4) (N := 11) (v := .int x) C.1 C.2.1 C.2.2.2.2 inlX4 tyX4 tyX4_ok nmX4 C.2.2.2.1 h.1.1 h.2.1 h.2.2.1 h.2.2.2.1 q0 he rfl 6 (by decide) (C.2.2.2.2 (Cond.fieldLink RX4 35 "TraceQuestions$Reader" "figures" "I") (List.mem_of_getElem? (i := 76) (by decide +kernel))) (fun _ h9 => h9) rfl (tyX4_ok 6 (by decide)) rfl rfl hl hdg (fun H1 locs1 hP hD hS => kk H1 locs1 (by rw [hw] at hP hD; exact ⟨h.1, hP, hD, hS, h.2.2.2.2⟩))
theorem gf4_38 (C : Cx p m c cc nL s args RX4) (h : Hx D g s A H0 ws H locs) (q0 : Nat) {a : Nat} {fs : List Value} {v : Value} (he : ws[q0]? = some (a, .inr (4, fs))) (hv : fs[7]? = some v) (hdg : decode cc pc = .ok (.getfield 38, 3)) (kk : W p l e R s m args below meth c H locs cells slots Q (F0 m (pc + 3) ls (v :: rest))) : W p l e R s m args below meth c H locs cells slots Q (F0 m pc ls (.ref a :: rest)) :=
  va_get (ref := "TraceQuestions$Reader") (T := TX4) (N := 11) C.1 C.2.1 C.2.2.2.2 inlX4 C.2.2.2.1 h.1.1 h.2.1 q0 he rfl 7 (by decide) (C.2.2.2.2 (Cond.fieldLink RX4 38 "TraceQuestions$Reader" "nested" "I") (List.mem_of_getElem? (i := 77) (by decide +kernel))) (fun _ h9 => h9) hv hdg kk
theorem pf4_38 (C : Cx p m c cc nL s args RX4) (h : Hx D g s A H0 ws H locs) (q0 : Nat) {a : Nat} {fs : List Value} {x : Int32} (ws' : va_W) (he : ws[q0]? = some (a, .inr (4, fs))) (hw : ws.set q0 (a, .inr (4, fs.set 7 (.int x))) = ws') (hl : 7 < fs.length) (hdg : decode cc pc = .ok (.putfield 38, 3)) (kk : ∀ (H1 : Heap) (locs1 : List Loc), Hx D g s A H0 ws' H1 locs1 → W p l e R s m args below meth c H1 locs1 cells slots Q (F0 m (pc + 3) ls rest)) : W p l e R s m args below meth c H locs cells slots Q (F0 m pc ls (.int x :: .ref a :: rest)) :=
  va_put (ref := "TraceQuestions$Reader") (T := TX4) (N := 11) (v := .int x) C.1 C.2.1 C.2.2.2.2 inlX4 tyX4 tyX4_ok nmX4 C.2.2.2.1 h.1.1 h.2.1 h.2.2.1 h.2.2.2.1 q0 he rfl 7 (by decide) (C.2.2.2.2 (Cond.fieldLink RX4 38 "TraceQuestions$Reader" "nested" "I") (List.mem_of_getElem? (i := 77) (by decide +kernel))) (fun _ h9 => h9) rfl (tyX4_ok 7 (by decide)) rfl rfl hl hdg (fun H1 locs1 hP hD hS => kk H1 locs1 (by rw [hw] at hP hD; exact ⟨h.1, hP, hD, hS, h.2.2.2.2⟩))
theorem gf4_41 (C : Cx p m c cc nL s args RX4) (h : Hx D g s A H0 ws H locs) (q0 : Nat) {a : Nat} {fs : List Value} {v : Value} (he : ws[q0]? = some (a, .inr (4, fs))) (hv : fs[8]? = some v) (hdg : decode cc pc = .ok (.getfield 41, 3)) (kk : W p l e R s m args below meth c H locs cells slots Q (F0 m (pc + 3) ls (v :: rest))) : W p l e R s m args below meth c H locs cells slots Q (F0 m pc ls (.ref a :: rest)) :=
  va_get (ref := "TraceQuestions$Reader") (T := TX4) (N := 11) C.1 C.2.1 C.2.2.2.2 inlX4 C.2.2.2.1 h.1.1 h.2.1 q0 he rfl 8 (by decide) (C.2.2.2.2 (Cond.fieldLink RX4 41 "TraceQuestions$Reader" "turns" "I") (List.mem_of_getElem? (i := 78) (by decide +kernel))) (fun _ h9 => h9) hv hdg kk
theorem pf4_41 (C : Cx p m c cc nL s args RX4) (h : Hx D g s A H0 ws H locs) (q0 : Nat) {a : Nat} {fs : List Value} {x : Int32} (ws' : va_W) (he : ws[q0]? = some (a, .inr (4, fs))) (hw : ws.set q0 (a, .inr (4, fs.set 8 (.int x))) = ws') (hl : 8 < fs.length) (hdg : decode cc pc = .ok (.putfield 41, 3)) (kk : ∀ (H1 : Heap) (locs1 : List Loc), Hx D g s A H0 ws' H1 locs1 → W p l e R s m args below meth c H1 locs1 cells slots Q (F0 m (pc + 3) ls rest)) : W p l e R s m args below meth c H locs cells slots Q (F0 m pc ls (.int x :: .ref a :: rest)) :=
  va_put (ref := "TraceQuestions$Reader") (T := TX4) (N := 11) (v := .int x) C.1 C.2.1 C.2.2.2.2 inlX4 tyX4 tyX4_ok nmX4 C.2.2.2.1 h.1.1 h.2.1 h.2.2.1 h.2.2.2.1 q0 he rfl 8 (by decide) (C.2.2.2.2 (Cond.fieldLink RX4 41 "TraceQuestions$Reader" "turns" "I") (List.mem_of_getElem? (i := 78) (by decide +kernel))) (fun _ h9 => h9) rfl (tyX4_ok 8 (by decide)) rfl rfl hl hdg (fun H1 locs1 hP hD hS => kk H1 locs1 (by rw [hw] at hP hD; exact ⟨h.1, hP, hD, hS, h.2.2.2.2⟩))
theorem gf4_44 (C : Cx p m c cc nL s args RX4) (h : Hx D g s A H0 ws H locs) (q0 : Nat) {a : Nat} {fs : List Value} {v : Value} (he : ws[q0]? = some (a, .inr (4, fs))) (hv : fs[9]? = some v) (hdg : decode cc pc = .ok (.getfield 44, 3)) (kk : W p l e R s m args below meth c H locs cells slots Q (F0 m (pc + 3) ls (v :: rest))) : W p l e R s m args below meth c H locs cells slots Q (F0 m pc ls (.ref a :: rest)) :=
  va_get (ref := "TraceQuestions$Reader") (T := TX4) (N := 11) C.1 C.2.1 C.2.2.2.2 inlX4 C.2.2.2.1 h.1.1 h.2.1 q0 he rfl 9 (by decide) (C.2.2.2.2 (Cond.fieldLink RX4 44 "TraceQuestions$Reader" "turnsBefore" "[I") (List.mem_of_getElem? (i := 79) (by decide +kernel))) (fun _ h9 => h9) hv hdg kk
theorem pf4_44 (C : Cx p m c cc nL s args RX4) (h : Hx D g s A H0 ws H locs) (q0 : Nat) {a : Nat} {fs : List Value} {x : Nat} (ws' : va_W) (he : ws[q0]? = some (a, .inr (4, fs))) (hw : ws.set q0 (a, .inr (4, fs.set 9 (.ref x))) = ws') (hl : 9 < fs.length) (hin : meth.name = "<init>") (hdg : decode cc pc = .ok (.putfield 44, 3)) (kk : ∀ (H1 : Heap) (locs1 : List Loc), Hx D g s A H0 ws' H1 locs1 → W p l e R s m args below meth c H1 locs1 cells slots Q (F0 m (pc + 3) ls rest)) : W p l e R s m args below meth c H locs cells slots Q (F0 m pc ls (.ref x :: .ref a :: rest)) :=
  va_putF (ref := "TraceQuestions$Reader") (T := TX4) (N := 11) (v := .ref x) C.1 C.2.1 C.2.2.2.2 inlX4 tyX4 tyX4_ok nmX4 C.2.2.2.1 h.1.1 h.2.1 h.2.2.1 h.2.2.2.1 q0 he rfl 9 (by decide) (C.2.2.2.2 (Cond.fieldLink RX4 44 "TraceQuestions$Reader" "turnsBefore" "[I") (List.mem_of_getElem? (i := 79) (by decide +kernel))) (fun _ h9 => h9) rfl hin rfl (tyX4_ok 9 (by decide)) rfl rfl hl hdg (fun H1 locs1 hP hD hS => kk H1 locs1 (by rw [hw] at hP hD; exact ⟨h.1, hP, hD, hS, h.2.2.2.2⟩))
theorem gf4_48 (C : Cx p m c cc nL s args RX4) (h : Hx D g s A H0 ws H locs) (q0 : Nat) {a : Nat} {fs : List Value} {v : Value} (he : ws[q0]? = some (a, .inr (4, fs))) (hv : fs[10]? = some v) (hdg : decode cc pc = .ok (.getfield 48, 3)) (kk : W p l e R s m args below meth c H locs cells slots Q (F0 m (pc + 3) ls (v :: rest))) : W p l e R s m args below meth c H locs cells slots Q (F0 m pc ls (.ref a :: rest)) :=
  va_get (ref := "TraceQuestions$Reader") (T := TX4) (N := 11) C.1 C.2.1 C.2.2.2.2 inlX4 C.2.2.2.1 h.1.1 h.2.1 q0 he rfl 10 (by decide) (C.2.2.2.2 (Cond.fieldLink RX4 48 "TraceQuestions$Reader" "open" "I") (List.mem_of_getElem? (i := 80) (by decide +kernel))) (fun _ h9 => h9) hv hdg kk
theorem pf4_48 (C : Cx p m c cc nL s args RX4) (h : Hx D g s A H0 ws H locs) (q0 : Nat) {a : Nat} {fs : List Value} {x : Int32} (ws' : va_W) (he : ws[q0]? = some (a, .inr (4, fs))) (hw : ws.set q0 (a, .inr (4, fs.set 10 (.int x))) = ws') (hl : 10 < fs.length) (hdg : decode cc pc = .ok (.putfield 48, 3)) (kk : ∀ (H1 : Heap) (locs1 : List Loc), Hx D g s A H0 ws' H1 locs1 → W p l e R s m args below meth c H1 locs1 cells slots Q (F0 m (pc + 3) ls rest)) : W p l e R s m args below meth c H locs cells slots Q (F0 m pc ls (.int x :: .ref a :: rest)) :=
  va_put (ref := "TraceQuestions$Reader") (T := TX4) (N := 11) (v := .int x) C.1 C.2.1 C.2.2.2.2 inlX4 tyX4 tyX4_ok nmX4 C.2.2.2.1 h.1.1 h.2.1 h.2.2.1 h.2.2.2.1 q0 he rfl 10 (by decide) (C.2.2.2.2 (Cond.fieldLink RX4 48 "TraceQuestions$Reader" "open" "I") (List.mem_of_getElem? (i := 80) (by decide +kernel))) (fun _ h9 => h9) rfl (tyX4_ok 10 (by decide)) rfl rfl hl hdg (fun H1 locs1 hP hD hS => kk H1 locs1 (by rw [hw] at hP hD; exact ⟨h.1, hP, hD, hS, h.2.2.2.2⟩))
theorem gf3_9 (C : Cx p m c cc nL s args RX3) (h : Hx D g s A H0 ws H locs) (q0 : Nat) {a : Nat} {fs : List Value} {v : Value} (he : ws[q0]? = some (a, .inr (3, fs))) (hv : fs[0]? = some v) (hdg : decode cc pc = .ok (.getfield 9, 3)) (kk : W p l e R s m args below meth c H locs cells slots Q (F0 m (pc + 3) ls (v :: rest))) : W p l e R s m args below meth c H locs cells slots Q (F0 m pc ls (.ref a :: rest)) :=
  va_get (ref := "TraceQuestions$Question") (T := TX3) (N := 10) C.1 C.2.1 C.2.2.2.2 inlX3 C.2.2.2.1 h.1.1 h.2.1 q0 he rfl 0 (by decide) (C.2.2.2.2 (Cond.fieldLink RX3 9 "TraceQuestions$Question" "steps" "[I") (List.mem_of_getElem? (i := 84) (by decide +kernel))) (fun _ h9 => h9) hv hdg kk
theorem pf3_9 (C : Cx p m c cc nL s args RX3) (h : Hx D g s A H0 ws H locs) (q0 : Nat) {a : Nat} {fs : List Value} {x : Nat} (ws' : va_W) (he : ws[q0]? = some (a, .inr (3, fs))) (hw : ws.set q0 (a, .inr (3, fs.set 0 (.ref x))) = ws') (hl : 0 < fs.length) (hin : meth.name = "<init>") (hdg : decode cc pc = .ok (.putfield 9, 3)) (kk : ∀ (H1 : Heap) (locs1 : List Loc), Hx D g s A H0 ws' H1 locs1 → W p l e R s m args below meth c H1 locs1 cells slots Q (F0 m (pc + 3) ls rest)) : W p l e R s m args below meth c H locs cells slots Q (F0 m pc ls (.ref x :: .ref a :: rest)) :=
  va_putF (ref := "TraceQuestions$Question") (T := TX3) (N := 10) (v := .ref x) C.1 C.2.1 C.2.2.2.2 inlX3 tyX3 tyX3_ok nmX3 C.2.2.2.1 h.1.1 h.2.1 h.2.2.1 h.2.2.2.1 q0 he rfl 0 (by decide) (C.2.2.2.2 (Cond.fieldLink RX3 9 "TraceQuestions$Question" "steps" "[I") (List.mem_of_getElem? (i := 84) (by decide +kernel))) (fun _ h9 => h9) rfl hin rfl (tyX3_ok 0 (by decide)) rfl rfl hl hdg (fun H1 locs1 hP hD hS => kk H1 locs1 (by rw [hw] at hP hD; exact ⟨h.1, hP, hD, hS, h.2.2.2.2⟩))
theorem gf3_15 (C : Cx p m c cc nL s args RX3) (h : Hx D g s A H0 ws H locs) (q0 : Nat) {a : Nat} {fs : List Value} {v : Value} (he : ws[q0]? = some (a, .inr (3, fs))) (hv : fs[1]? = some v) (hdg : decode cc pc = .ok (.getfield 15, 3)) (kk : W p l e R s m args below meth c H locs cells slots Q (F0 m (pc + 3) ls (v :: rest))) : W p l e R s m args below meth c H locs cells slots Q (F0 m pc ls (.ref a :: rest)) :=
  va_get (ref := "TraceQuestions$Question") (T := TX3) (N := 10) C.1 C.2.1 C.2.2.2.2 inlX3 C.2.2.2.1 h.1.1 h.2.1 q0 he rfl 1 (by decide) (C.2.2.2.2 (Cond.fieldLink RX3 15 "TraceQuestions$Question" "testFields" "[I") (List.mem_of_getElem? (i := 85) (by decide +kernel))) (fun _ h9 => h9) hv hdg kk
theorem pf3_15 (C : Cx p m c cc nL s args RX3) (h : Hx D g s A H0 ws H locs) (q0 : Nat) {a : Nat} {fs : List Value} {x : Nat} (ws' : va_W) (he : ws[q0]? = some (a, .inr (3, fs))) (hw : ws.set q0 (a, .inr (3, fs.set 1 (.ref x))) = ws') (hl : 1 < fs.length) (hin : meth.name = "<init>") (hdg : decode cc pc = .ok (.putfield 15, 3)) (kk : ∀ (H1 : Heap) (locs1 : List Loc), Hx D g s A H0 ws' H1 locs1 → W p l e R s m args below meth c H1 locs1 cells slots Q (F0 m (pc + 3) ls rest)) : W p l e R s m args below meth c H locs cells slots Q (F0 m pc ls (.ref x :: .ref a :: rest)) :=
  va_putF (ref := "TraceQuestions$Question") (T := TX3) (N := 10) (v := .ref x) C.1 C.2.1 C.2.2.2.2 inlX3 tyX3 tyX3_ok nmX3 C.2.2.2.1 h.1.1 h.2.1 h.2.2.1 h.2.2.2.1 q0 he rfl 1 (by decide) (C.2.2.2.2 (Cond.fieldLink RX3 15 "TraceQuestions$Question" "testFields" "[I") (List.mem_of_getElem? (i := 85) (by decide +kernel))) (fun _ h9 => h9) rfl hin rfl (tyX3_ok 1 (by decide)) rfl rfl hl hdg (fun H1 locs1 hP hD hS => kk H1 locs1 (by rw [hw] at hP hD; exact ⟨h.1, hP, hD, hS, h.2.2.2.2⟩))
theorem gf3_18 (C : Cx p m c cc nL s args RX3) (h : Hx D g s A H0 ws H locs) (q0 : Nat) {a : Nat} {fs : List Value} {v : Value} (he : ws[q0]? = some (a, .inr (3, fs))) (hv : fs[2]? = some v) (hdg : decode cc pc = .ok (.getfield 18, 3)) (kk : W p l e R s m args below meth c H locs cells slots Q (F0 m (pc + 3) ls (v :: rest))) : W p l e R s m args below meth c H locs cells slots Q (F0 m pc ls (.ref a :: rest)) :=
  va_get (ref := "TraceQuestions$Question") (T := TX3) (N := 10) C.1 C.2.1 C.2.2.2.2 inlX3 C.2.2.2.1 h.1.1 h.2.1 q0 he rfl 2 (by decide) (C.2.2.2.2 (Cond.fieldLink RX3 18 "TraceQuestions$Question" "testRelations" "[C") (List.mem_of_getElem? (i := 86) (by decide +kernel))) (fun _ h9 => h9) hv hdg kk
theorem pf3_18 (C : Cx p m c cc nL s args RX3) (h : Hx D g s A H0 ws H locs) (q0 : Nat) {a : Nat} {fs : List Value} {x : Nat} (ws' : va_W) (he : ws[q0]? = some (a, .inr (3, fs))) (hw : ws.set q0 (a, .inr (3, fs.set 2 (.ref x))) = ws') (hl : 2 < fs.length) (hin : meth.name = "<init>") (hdg : decode cc pc = .ok (.putfield 18, 3)) (kk : ∀ (H1 : Heap) (locs1 : List Loc), Hx D g s A H0 ws' H1 locs1 → W p l e R s m args below meth c H1 locs1 cells slots Q (F0 m (pc + 3) ls rest)) : W p l e R s m args below meth c H locs cells slots Q (F0 m pc ls (.ref x :: .ref a :: rest)) :=
  va_putF (ref := "TraceQuestions$Question") (T := TX3) (N := 10) (v := .ref x) C.1 C.2.1 C.2.2.2.2 inlX3 tyX3 tyX3_ok nmX3 C.2.2.2.1 h.1.1 h.2.1 h.2.2.1 h.2.2.2.1 q0 he rfl 2 (by decide) (C.2.2.2.2 (Cond.fieldLink RX3 18 "TraceQuestions$Question" "testRelations" "[C") (List.mem_of_getElem? (i := 86) (by decide +kernel))) (fun _ h9 => h9) rfl hin rfl (tyX3_ok 2 (by decide)) rfl rfl hl hdg (fun H1 locs1 hP hD hS => kk H1 locs1 (by rw [hw] at hP hD; exact ⟨h.1, hP, hD, hS, h.2.2.2.2⟩))
theorem gf3_22 (C : Cx p m c cc nL s args RX3) (h : Hx D g s A H0 ws H locs) (q0 : Nat) {a : Nat} {fs : List Value} {v : Value} (he : ws[q0]? = some (a, .inr (3, fs))) (hv : fs[3]? = some v) (hdg : decode cc pc = .ok (.getfield 22, 3)) (kk : W p l e R s m args below meth c H locs cells slots Q (F0 m (pc + 3) ls (v :: rest))) : W p l e R s m args below meth c H locs cells slots Q (F0 m pc ls (.ref a :: rest)) :=
  va_get (ref := "TraceQuestions$Question") (T := TX3) (N := 10) C.1 C.2.1 C.2.2.2.2 inlX3 C.2.2.2.1 h.1.1 h.2.1 q0 he rfl 3 (by decide) (C.2.2.2.2 (Cond.fieldLink RX3 22 "TraceQuestions$Question" "testNumbers" "[I") (List.mem_of_getElem? (i := 87) (by decide +kernel))) (fun _ h9 => h9) hv hdg kk
theorem pf3_22 (C : Cx p m c cc nL s args RX3) (h : Hx D g s A H0 ws H locs) (q0 : Nat) {a : Nat} {fs : List Value} {x : Nat} (ws' : va_W) (he : ws[q0]? = some (a, .inr (3, fs))) (hw : ws.set q0 (a, .inr (3, fs.set 3 (.ref x))) = ws') (hl : 3 < fs.length) (hin : meth.name = "<init>") (hdg : decode cc pc = .ok (.putfield 22, 3)) (kk : ∀ (H1 : Heap) (locs1 : List Loc), Hx D g s A H0 ws' H1 locs1 → W p l e R s m args below meth c H1 locs1 cells slots Q (F0 m (pc + 3) ls rest)) : W p l e R s m args below meth c H locs cells slots Q (F0 m pc ls (.ref x :: .ref a :: rest)) :=
  va_putF (ref := "TraceQuestions$Question") (T := TX3) (N := 10) (v := .ref x) C.1 C.2.1 C.2.2.2.2 inlX3 tyX3 tyX3_ok nmX3 C.2.2.2.1 h.1.1 h.2.1 h.2.2.1 h.2.2.2.1 q0 he rfl 3 (by decide) (C.2.2.2.2 (Cond.fieldLink RX3 22 "TraceQuestions$Question" "testNumbers" "[I") (List.mem_of_getElem? (i := 87) (by decide +kernel))) (fun _ h9 => h9) rfl hin rfl (tyX3_ok 3 (by decide)) rfl rfl hl hdg (fun H1 locs1 hP hD hS => kk H1 locs1 (by rw [hw] at hP hD; exact ⟨h.1, hP, hD, hS, h.2.2.2.2⟩))
theorem gf3_25 (C : Cx p m c cc nL s args RX3) (h : Hx D g s A H0 ws H locs) (q0 : Nat) {a : Nat} {fs : List Value} {v : Value} (he : ws[q0]? = some (a, .inr (3, fs))) (hv : fs[4]? = some v) (hdg : decode cc pc = .ok (.getfield 25, 3)) (kk : W p l e R s m args below meth c H locs cells slots Q (F0 m (pc + 3) ls (v :: rest))) : W p l e R s m args below meth c H locs cells slots Q (F0 m pc ls (.ref a :: rest)) :=
  va_get (ref := "TraceQuestions$Question") (T := TX3) (N := 10) C.1 C.2.1 C.2.2.2.2 inlX3 C.2.2.2.1 h.1.1 h.2.1 q0 he rfl 4 (by decide) (C.2.2.2.2 (Cond.fieldLink RX3 25 "TraceQuestions$Question" "stepCount" "I") (List.mem_of_getElem? (i := 88) (by decide +kernel))) (fun _ h9 => h9) hv hdg kk
theorem pf3_25 (C : Cx p m c cc nL s args RX3) (h : Hx D g s A H0 ws H locs) (q0 : Nat) {a : Nat} {fs : List Value} {x : Int32} (ws' : va_W) (he : ws[q0]? = some (a, .inr (3, fs))) (hw : ws.set q0 (a, .inr (3, fs.set 4 (.int x))) = ws') (hl : 4 < fs.length) (hdg : decode cc pc = .ok (.putfield 25, 3)) (kk : ∀ (H1 : Heap) (locs1 : List Loc), Hx D g s A H0 ws' H1 locs1 → W p l e R s m args below meth c H1 locs1 cells slots Q (F0 m (pc + 3) ls rest)) : W p l e R s m args below meth c H locs cells slots Q (F0 m pc ls (.int x :: .ref a :: rest)) :=
  va_put (ref := "TraceQuestions$Question") (T := TX3) (N := 10) (v := .int x) C.1 C.2.1 C.2.2.2.2 inlX3 tyX3 tyX3_ok nmX3 C.2.2.2.1 h.1.1 h.2.1 h.2.2.1 h.2.2.2.1 q0 he rfl 4 (by decide) (C.2.2.2.2 (Cond.fieldLink RX3 25 "TraceQuestions$Question" "stepCount" "I") (List.mem_of_getElem? (i := 88) (by decide +kernel))) (fun _ h9 => h9) rfl (tyX3_ok 4 (by decide)) rfl rfl hl hdg (fun H1 locs1 hP hD hS => kk H1 locs1 (by rw [hw] at hP hD; exact ⟨h.1, hP, hD, hS, h.2.2.2.2⟩))
theorem gf3_29 (C : Cx p m c cc nL s args RX3) (h : Hx D g s A H0 ws H locs) (q0 : Nat) {a : Nat} {fs : List Value} {v : Value} (he : ws[q0]? = some (a, .inr (3, fs))) (hv : fs[5]? = some v) (hdg : decode cc pc = .ok (.getfield 29, 3)) (kk : W p l e R s m args below meth c H locs cells slots Q (F0 m (pc + 3) ls (v :: rest))) : W p l e R s m args below meth c H locs cells slots Q (F0 m pc ls (.ref a :: rest)) :=
  va_get (ref := "TraceQuestions$Question") (T := TX3) (N := 10) C.1 C.2.1 C.2.2.2.2 inlX3 C.2.2.2.1 h.1.1 h.2.1 q0 he rfl 5 (by decide) (C.2.2.2.2 (Cond.fieldLink RX3 29 "TraceQuestions$Question" "testCount" "I") (List.mem_of_getElem? (i := 89) (by decide +kernel))) (fun _ h9 => h9) hv hdg kk
theorem pf3_29 (C : Cx p m c cc nL s args RX3) (h : Hx D g s A H0 ws H locs) (q0 : Nat) {a : Nat} {fs : List Value} {x : Int32} (ws' : va_W) (he : ws[q0]? = some (a, .inr (3, fs))) (hw : ws.set q0 (a, .inr (3, fs.set 5 (.int x))) = ws') (hl : 5 < fs.length) (hdg : decode cc pc = .ok (.putfield 29, 3)) (kk : ∀ (H1 : Heap) (locs1 : List Loc), Hx D g s A H0 ws' H1 locs1 → W p l e R s m args below meth c H1 locs1 cells slots Q (F0 m (pc + 3) ls rest)) : W p l e R s m args below meth c H locs cells slots Q (F0 m pc ls (.int x :: .ref a :: rest)) :=
  va_put (ref := "TraceQuestions$Question") (T := TX3) (N := 10) (v := .int x) C.1 C.2.1 C.2.2.2.2 inlX3 tyX3 tyX3_ok nmX3 C.2.2.2.1 h.1.1 h.2.1 h.2.2.1 h.2.2.2.1 q0 he rfl 5 (by decide) (C.2.2.2.2 (Cond.fieldLink RX3 29 "TraceQuestions$Question" "testCount" "I") (List.mem_of_getElem? (i := 89) (by decide +kernel))) (fun _ h9 => h9) rfl (tyX3_ok 5 (by decide)) rfl rfl hl hdg (fun H1 locs1 hP hD hS => kk H1 locs1 (by rw [hw] at hP hD; exact ⟨h.1, hP, hD, hS, h.2.2.2.2⟩))
theorem gf3_32 (C : Cx p m c cc nL s args RX3) (h : Hx D g s A H0 ws H locs) (q0 : Nat) {a : Nat} {fs : List Value} {v : Value} (he : ws[q0]? = some (a, .inr (3, fs))) (hv : fs[6]? = some v) (hdg : decode cc pc = .ok (.getfield 32, 3)) (kk : W p l e R s m args below meth c H locs cells slots Q (F0 m (pc + 3) ls (v :: rest))) : W p l e R s m args below meth c H locs cells slots Q (F0 m pc ls (.ref a :: rest)) :=
  va_get (ref := "TraceQuestions$Question") (T := TX3) (N := 10) C.1 C.2.1 C.2.2.2.2 inlX3 C.2.2.2.1 h.1.1 h.2.1 q0 he rfl 6 (by decide) (C.2.2.2.2 (Cond.fieldLink RX3 32 "TraceQuestions$Question" "fields" "I") (List.mem_of_getElem? (i := 90) (by decide +kernel))) (fun _ h9 => h9) hv hdg kk
theorem pf3_32 (C : Cx p m c cc nL s args RX3) (h : Hx D g s A H0 ws H locs) (q0 : Nat) {a : Nat} {fs : List Value} {x : Int32} (ws' : va_W) (he : ws[q0]? = some (a, .inr (3, fs))) (hw : ws.set q0 (a, .inr (3, fs.set 6 (.int x))) = ws') (hl : 6 < fs.length) (hdg : decode cc pc = .ok (.putfield 32, 3)) (kk : ∀ (H1 : Heap) (locs1 : List Loc), Hx D g s A H0 ws' H1 locs1 → W p l e R s m args below meth c H1 locs1 cells slots Q (F0 m (pc + 3) ls rest)) : W p l e R s m args below meth c H locs cells slots Q (F0 m pc ls (.int x :: .ref a :: rest)) :=
  va_put (ref := "TraceQuestions$Question") (T := TX3) (N := 10) (v := .int x) C.1 C.2.1 C.2.2.2.2 inlX3 tyX3 tyX3_ok nmX3 C.2.2.2.1 h.1.1 h.2.1 h.2.2.1 h.2.2.2.1 q0 he rfl 6 (by decide) (C.2.2.2.2 (Cond.fieldLink RX3 32 "TraceQuestions$Question" "fields" "I") (List.mem_of_getElem? (i := 90) (by decide +kernel))) (fun _ h9 => h9) rfl (tyX3_ok 6 (by decide)) rfl rfl hl hdg (fun H1 locs1 hP hD hS => kk H1 locs1 (by rw [hw] at hP hD; exact ⟨h.1, hP, hD, hS, h.2.2.2.2⟩))
theorem gf3_35 (C : Cx p m c cc nL s args RX3) (h : Hx D g s A H0 ws H locs) (q0 : Nat) {a : Nat} {fs : List Value} {v : Value} (he : ws[q0]? = some (a, .inr (3, fs))) (hv : fs[7]? = some v) (hdg : decode cc pc = .ok (.getfield 35, 3)) (kk : W p l e R s m args below meth c H locs cells slots Q (F0 m (pc + 3) ls (v :: rest))) : W p l e R s m args below meth c H locs cells slots Q (F0 m pc ls (.ref a :: rest)) :=
  va_get (ref := "TraceQuestions$Question") (T := TX3) (N := 10) C.1 C.2.1 C.2.2.2.2 inlX3 C.2.2.2.1 h.1.1 h.2.1 q0 he rfl 7 (by decide) (C.2.2.2.2 (Cond.fieldLink RX3 35 "TraceQuestions$Question" "tail" "I") (List.mem_of_getElem? (i := 91) (by decide +kernel))) (fun _ h9 => h9) hv hdg kk
theorem pf3_35 (C : Cx p m c cc nL s args RX3) (h : Hx D g s A H0 ws H locs) (q0 : Nat) {a : Nat} {fs : List Value} {x : Int32} (ws' : va_W) (he : ws[q0]? = some (a, .inr (3, fs))) (hw : ws.set q0 (a, .inr (3, fs.set 7 (.int x))) = ws') (hl : 7 < fs.length) (hdg : decode cc pc = .ok (.putfield 35, 3)) (kk : ∀ (H1 : Heap) (locs1 : List Loc), Hx D g s A H0 ws' H1 locs1 → W p l e R s m args below meth c H1 locs1 cells slots Q (F0 m (pc + 3) ls rest)) : W p l e R s m args below meth c H locs cells slots Q (F0 m pc ls (.int x :: .ref a :: rest)) :=
  va_put (ref := "TraceQuestions$Question") (T := TX3) (N := 10) (v := .int x) C.1 C.2.1 C.2.2.2.2 inlX3 tyX3 tyX3_ok nmX3 C.2.2.2.1 h.1.1 h.2.1 h.2.2.1 h.2.2.2.1 q0 he rfl 7 (by decide) (C.2.2.2.2 (Cond.fieldLink RX3 35 "TraceQuestions$Question" "tail" "I") (List.mem_of_getElem? (i := 91) (by decide +kernel))) (fun _ h9 => h9) rfl (tyX3_ok 7 (by decide)) rfl rfl hl hdg (fun H1 locs1 hP hD hS => kk H1 locs1 (by rw [hw] at hP hD; exact ⟨h.1, hP, hD, hS, h.2.2.2.2⟩))
theorem gf3_38 (C : Cx p m c cc nL s args RX3) (h : Hx D g s A H0 ws H locs) (q0 : Nat) {a : Nat} {fs : List Value} {v : Value} (he : ws[q0]? = some (a, .inr (3, fs))) (hv : fs[8]? = some v) (hdg : decode cc pc = .ok (.getfield 38, 3)) (kk : W p l e R s m args below meth c H locs cells slots Q (F0 m (pc + 3) ls (v :: rest))) : W p l e R s m args below meth c H locs cells slots Q (F0 m pc ls (.ref a :: rest)) :=
  va_get (ref := "TraceQuestions$Question") (T := TX3) (N := 10) C.1 C.2.1 C.2.2.2.2 inlX3 C.2.2.2.1 h.1.1 h.2.1 q0 he rfl 8 (by decide) (C.2.2.2.2 (Cond.fieldLink RX3 38 "TraceQuestions$Question" "tailField" "I") (List.mem_of_getElem? (i := 92) (by decide +kernel))) (fun _ h9 => h9) hv hdg kk
theorem pf3_38 (C : Cx p m c cc nL s args RX3) (h : Hx D g s A H0 ws H locs) (q0 : Nat) {a : Nat} {fs : List Value} {x : Int32} (ws' : va_W) (he : ws[q0]? = some (a, .inr (3, fs))) (hw : ws.set q0 (a, .inr (3, fs.set 8 (.int x))) = ws') (hl : 8 < fs.length) (hdg : decode cc pc = .ok (.putfield 38, 3)) (kk : ∀ (H1 : Heap) (locs1 : List Loc), Hx D g s A H0 ws' H1 locs1 → W p l e R s m args below meth c H1 locs1 cells slots Q (F0 m (pc + 3) ls rest)) : W p l e R s m args below meth c H locs cells slots Q (F0 m pc ls (.int x :: .ref a :: rest)) :=
  va_put (ref := "TraceQuestions$Question") (T := TX3) (N := 10) (v := .int x) C.1 C.2.1 C.2.2.2.2 inlX3 tyX3 tyX3_ok nmX3 C.2.2.2.1 h.1.1 h.2.1 h.2.2.1 h.2.2.2.1 q0 he rfl 8 (by decide) (C.2.2.2.2 (Cond.fieldLink RX3 38 "TraceQuestions$Question" "tailField" "I") (List.mem_of_getElem? (i := 92) (by decide +kernel))) (fun _ h9 => h9) rfl (tyX3_ok 8 (by decide)) rfl rfl hl hdg (fun H1 locs1 hP hD hS => kk H1 locs1 (by rw [hw] at hP hD; exact ⟨h.1, hP, hD, hS, h.2.2.2.2⟩))
theorem gf3_41 (C : Cx p m c cc nL s args RX3) (h : Hx D g s A H0 ws H locs) (q0 : Nat) {a : Nat} {fs : List Value} {v : Value} (he : ws[q0]? = some (a, .inr (3, fs))) (hv : fs[9]? = some v) (hdg : decode cc pc = .ok (.getfield 41, 3)) (kk : W p l e R s m args below meth c H locs cells slots Q (F0 m (pc + 3) ls (v :: rest))) : W p l e R s m args below meth c H locs cells slots Q (F0 m pc ls (.ref a :: rest)) :=
  va_get (ref := "TraceQuestions$Question") (T := TX3) (N := 10) C.1 C.2.1 C.2.2.2.2 inlX3 C.2.2.2.1 h.1.1 h.2.1 q0 he rfl 9 (by decide) (C.2.2.2.2 (Cond.fieldLink RX3 41 "TraceQuestions$Question" "asker" "I") (List.mem_of_getElem? (i := 93) (by decide +kernel))) (fun _ h9 => h9) hv hdg kk
theorem pf3_41 (C : Cx p m c cc nL s args RX3) (h : Hx D g s A H0 ws H locs) (q0 : Nat) {a : Nat} {fs : List Value} {x : Int32} (ws' : va_W) (he : ws[q0]? = some (a, .inr (3, fs))) (hw : ws.set q0 (a, .inr (3, fs.set 9 (.int x))) = ws') (hl : 9 < fs.length) (hdg : decode cc pc = .ok (.putfield 41, 3)) (kk : ∀ (H1 : Heap) (locs1 : List Loc), Hx D g s A H0 ws' H1 locs1 → W p l e R s m args below meth c H1 locs1 cells slots Q (F0 m (pc + 3) ls rest)) : W p l e R s m args below meth c H locs cells slots Q (F0 m pc ls (.int x :: .ref a :: rest)) :=
  va_put (ref := "TraceQuestions$Question") (T := TX3) (N := 10) (v := .int x) C.1 C.2.1 C.2.2.2.2 inlX3 tyX3 tyX3_ok nmX3 C.2.2.2.1 h.1.1 h.2.1 h.2.2.1 h.2.2.2.1 q0 he rfl 9 (by decide) (C.2.2.2.2 (Cond.fieldLink RX3 41 "TraceQuestions$Question" "asker" "I") (List.mem_of_getElem? (i := 93) (by decide +kernel))) (fun _ h9 => h9) rfl (tyX3_ok 9 (by decide)) rfl rfl hl hdg (fun H1 locs1 hP hD hS => kk H1 locs1 (by rw [hw] at hP hD; exact ⟨h.1, hP, hD, hS, h.2.2.2.2⟩))
theorem gf1_7 (C : Cx p m c cc nL s args RX1) (h : Hx D g s A H0 ws H locs) (q0 : Nat) {a : Nat} {fs : List Value} {v : Value} (he : ws[q0]? = some (a, .inr (1, fs))) (hv : fs[0]? = some v) (hdg : decode cc pc = .ok (.getfield 7, 3)) (kk : W p l e R s m args below meth c H locs cells slots Q (F0 m (pc + 3) ls (v :: rest))) : W p l e R s m args below meth c H locs cells slots Q (F0 m pc ls (.ref a :: rest)) :=
  va_get (ref := "TraceQuestions$Judge") (T := TX1) (N := 4) C.1 C.2.1 C.2.2.2.2 inlX1 C.2.2.2.1 h.1.1 h.2.1 q0 he rfl 0 (by decide) (C.2.2.2.2 (Cond.fieldLink RX1 7 "TraceQuestions$Judge" "level" "I") (List.mem_of_getElem? (i := 97) (by decide +kernel))) (fun _ h9 => h9) hv hdg kk
theorem pf1_7 (C : Cx p m c cc nL s args RX1) (h : Hx D g s A H0 ws H locs) (q0 : Nat) {a : Nat} {fs : List Value} {x : Int32} (ws' : va_W) (he : ws[q0]? = some (a, .inr (1, fs))) (hw : ws.set q0 (a, .inr (1, fs.set 0 (.int x))) = ws') (hl : 0 < fs.length) (hdg : decode cc pc = .ok (.putfield 7, 3)) (kk : ∀ (H1 : Heap) (locs1 : List Loc), Hx D g s A H0 ws' H1 locs1 → W p l e R s m args below meth c H1 locs1 cells slots Q (F0 m (pc + 3) ls rest)) : W p l e R s m args below meth c H locs cells slots Q (F0 m pc ls (.int x :: .ref a :: rest)) :=
  va_put (ref := "TraceQuestions$Judge") (T := TX1) (N := 4) (v := .int x) C.1 C.2.1 C.2.2.2.2 inlX1 tyX1 tyX1_ok nmX1 C.2.2.2.1 h.1.1 h.2.1 h.2.2.1 h.2.2.2.1 q0 he rfl 0 (by decide) (C.2.2.2.2 (Cond.fieldLink RX1 7 "TraceQuestions$Judge" "level" "I") (List.mem_of_getElem? (i := 97) (by decide +kernel))) (fun _ h9 => h9) rfl (tyX1_ok 0 (by decide)) rfl rfl hl hdg (fun H1 locs1 hP hD hS => kk H1 locs1 (by rw [hw] at hP hD; exact ⟨h.1, hP, hD, hS, h.2.2.2.2⟩))
theorem gf1_13 (C : Cx p m c cc nL s args RX1) (h : Hx D g s A H0 ws H locs) (q0 : Nat) {a : Nat} {fs : List Value} {v : Value} (he : ws[q0]? = some (a, .inr (1, fs))) (hv : fs[1]? = some v) (hdg : decode cc pc = .ok (.getfield 13, 3)) (kk : W p l e R s m args below meth c H locs cells slots Q (F0 m (pc + 3) ls (v :: rest))) : W p l e R s m args below meth c H locs cells slots Q (F0 m pc ls (.ref a :: rest)) :=
  va_get (ref := "TraceQuestions$Judge") (T := TX1) (N := 4) C.1 C.2.1 C.2.2.2.2 inlX1 C.2.2.2.1 h.1.1 h.2.1 q0 he rfl 1 (by decide) (C.2.2.2.2 (Cond.fieldLink RX1 13 "TraceQuestions$Judge" "partsTrue" "I") (List.mem_of_getElem? (i := 98) (by decide +kernel))) (fun _ h9 => h9) hv hdg kk
theorem pf1_13 (C : Cx p m c cc nL s args RX1) (h : Hx D g s A H0 ws H locs) (q0 : Nat) {a : Nat} {fs : List Value} {x : Int32} (ws' : va_W) (he : ws[q0]? = some (a, .inr (1, fs))) (hw : ws.set q0 (a, .inr (1, fs.set 1 (.int x))) = ws') (hl : 1 < fs.length) (hdg : decode cc pc = .ok (.putfield 13, 3)) (kk : ∀ (H1 : Heap) (locs1 : List Loc), Hx D g s A H0 ws' H1 locs1 → W p l e R s m args below meth c H1 locs1 cells slots Q (F0 m (pc + 3) ls rest)) : W p l e R s m args below meth c H locs cells slots Q (F0 m pc ls (.int x :: .ref a :: rest)) :=
  va_put (ref := "TraceQuestions$Judge") (T := TX1) (N := 4) (v := .int x) C.1 C.2.1 C.2.2.2.2 inlX1 tyX1 tyX1_ok nmX1 C.2.2.2.1 h.1.1 h.2.1 h.2.2.1 h.2.2.2.1 q0 he rfl 1 (by decide) (C.2.2.2.2 (Cond.fieldLink RX1 13 "TraceQuestions$Judge" "partsTrue" "I") (List.mem_of_getElem? (i := 98) (by decide +kernel))) (fun _ h9 => h9) rfl (tyX1_ok 1 (by decide)) rfl rfl hl hdg (fun H1 locs1 hP hD hS => kk H1 locs1 (by rw [hw] at hP hD; exact ⟨h.1, hP, hD, hS, h.2.2.2.2⟩))
theorem gf1_16 (C : Cx p m c cc nL s args RX1) (h : Hx D g s A H0 ws H locs) (q0 : Nat) {a : Nat} {fs : List Value} {v : Value} (he : ws[q0]? = some (a, .inr (1, fs))) (hv : fs[2]? = some v) (hdg : decode cc pc = .ok (.getfield 16, 3)) (kk : W p l e R s m args below meth c H locs cells slots Q (F0 m (pc + 3) ls (v :: rest))) : W p l e R s m args below meth c H locs cells slots Q (F0 m pc ls (.ref a :: rest)) :=
  va_get (ref := "TraceQuestions$Judge") (T := TX1) (N := 4) C.1 C.2.1 C.2.2.2.2 inlX1 C.2.2.2.1 h.1.1 h.2.1 q0 he rfl 2 (by decide) (C.2.2.2.2 (Cond.fieldLink RX1 16 "TraceQuestions$Judge" "testsTrue" "I") (List.mem_of_getElem? (i := 99) (by decide +kernel))) (fun _ h9 => h9) hv hdg kk
theorem pf1_16 (C : Cx p m c cc nL s args RX1) (h : Hx D g s A H0 ws H locs) (q0 : Nat) {a : Nat} {fs : List Value} {x : Int32} (ws' : va_W) (he : ws[q0]? = some (a, .inr (1, fs))) (hw : ws.set q0 (a, .inr (1, fs.set 2 (.int x))) = ws') (hl : 2 < fs.length) (hdg : decode cc pc = .ok (.putfield 16, 3)) (kk : ∀ (H1 : Heap) (locs1 : List Loc), Hx D g s A H0 ws' H1 locs1 → W p l e R s m args below meth c H1 locs1 cells slots Q (F0 m (pc + 3) ls rest)) : W p l e R s m args below meth c H locs cells slots Q (F0 m pc ls (.int x :: .ref a :: rest)) :=
  va_put (ref := "TraceQuestions$Judge") (T := TX1) (N := 4) (v := .int x) C.1 C.2.1 C.2.2.2.2 inlX1 tyX1 tyX1_ok nmX1 C.2.2.2.1 h.1.1 h.2.1 h.2.2.1 h.2.2.2.1 q0 he rfl 2 (by decide) (C.2.2.2.2 (Cond.fieldLink RX1 16 "TraceQuestions$Judge" "testsTrue" "I") (List.mem_of_getElem? (i := 99) (by decide +kernel))) (fun _ h9 => h9) rfl (tyX1_ok 2 (by decide)) rfl rfl hl hdg (fun H1 locs1 hP hD hS => kk H1 locs1 (by rw [hw] at hP hD; exact ⟨h.1, hP, hD, hS, h.2.2.2.2⟩))
theorem gf1_19 (C : Cx p m c cc nL s args RX1) (h : Hx D g s A H0 ws H locs) (q0 : Nat) {a : Nat} {fs : List Value} {v : Value} (he : ws[q0]? = some (a, .inr (1, fs))) (hv : fs[3]? = some v) (hdg : decode cc pc = .ok (.getfield 19, 3)) (kk : W p l e R s m args below meth c H locs cells slots Q (F0 m (pc + 3) ls (v :: rest))) : W p l e R s m args below meth c H locs cells slots Q (F0 m pc ls (.ref a :: rest)) :=
  va_get (ref := "TraceQuestions$Judge") (T := TX1) (N := 4) C.1 C.2.1 C.2.2.2.2 inlX1 C.2.2.2.1 h.1.1 h.2.1 q0 he rfl 3 (by decide) (C.2.2.2.2 (Cond.fieldLink RX1 19 "TraceQuestions$Judge" "turned" "I") (List.mem_of_getElem? (i := 100) (by decide +kernel))) (fun _ h9 => h9) hv hdg kk
theorem pf1_19 (C : Cx p m c cc nL s args RX1) (h : Hx D g s A H0 ws H locs) (q0 : Nat) {a : Nat} {fs : List Value} {x : Int32} (ws' : va_W) (he : ws[q0]? = some (a, .inr (1, fs))) (hw : ws.set q0 (a, .inr (1, fs.set 3 (.int x))) = ws') (hl : 3 < fs.length) (hdg : decode cc pc = .ok (.putfield 19, 3)) (kk : ∀ (H1 : Heap) (locs1 : List Loc), Hx D g s A H0 ws' H1 locs1 → W p l e R s m args below meth c H1 locs1 cells slots Q (F0 m (pc + 3) ls rest)) : W p l e R s m args below meth c H locs cells slots Q (F0 m pc ls (.int x :: .ref a :: rest)) :=
  va_put (ref := "TraceQuestions$Judge") (T := TX1) (N := 4) (v := .int x) C.1 C.2.1 C.2.2.2.2 inlX1 tyX1 tyX1_ok nmX1 C.2.2.2.1 h.1.1 h.2.1 h.2.2.1 h.2.2.2.1 q0 he rfl 3 (by decide) (C.2.2.2.2 (Cond.fieldLink RX1 19 "TraceQuestions$Judge" "turned" "I") (List.mem_of_getElem? (i := 100) (by decide +kernel))) (fun _ h9 => h9) rfl (tyX1_ok 3 (by decide)) rfl rfl hl hdg (fun H1 locs1 hP hD hS => kk H1 locs1 (by rw [hw] at hP hD; exact ⟨h.1, hP, hD, hS, h.2.2.2.2⟩))
theorem gf0_9 (C : Cx p m c cc nL s args RX0) (h : Hx D g s A H0 ws H locs) (q0 : Nat) {a : Nat} {fs : List Value} {v : Value} (he : ws[q0]? = some (a, .inr (0, fs))) (hv : fs[0]? = some v) (hdg : decode cc pc = .ok (.getfield 9, 3)) (kk : W p l e R s m args below meth c H locs cells slots Q (F0 m (pc + 3) ls (v :: rest))) : W p l e R s m args below meth c H locs cells slots Q (F0 m pc ls (.ref a :: rest)) :=
  va_get (ref := "TraceQuestions$Found") (T := TX0) (N := 3) C.1 C.2.1 C.2.2.2.2 inlX0 C.2.2.2.1 h.1.1 h.2.1 q0 he rfl 0 (by decide) (C.2.2.2.2 (Cond.fieldLink RX0 9 "TraceQuestions$Found" "first" "[I") (List.mem_of_getElem? (i := 104) (by decide +kernel))) (fun _ h9 => h9) hv hdg kk
theorem pf0_9 (C : Cx p m c cc nL s args RX0) (h : Hx D g s A H0 ws H locs) (q0 : Nat) {a : Nat} {fs : List Value} {x : Nat} (ws' : va_W) (he : ws[q0]? = some (a, .inr (0, fs))) (hw : ws.set q0 (a, .inr (0, fs.set 0 (.ref x))) = ws') (hl : 0 < fs.length) (hin : meth.name = "<init>") (hdg : decode cc pc = .ok (.putfield 9, 3)) (kk : ∀ (H1 : Heap) (locs1 : List Loc), Hx D g s A H0 ws' H1 locs1 → W p l e R s m args below meth c H1 locs1 cells slots Q (F0 m (pc + 3) ls rest)) : W p l e R s m args below meth c H locs cells slots Q (F0 m pc ls (.ref x :: .ref a :: rest)) :=
  va_putF (ref := "TraceQuestions$Found") (T := TX0) (N := 3) (v := .ref x) C.1 C.2.1 C.2.2.2.2 inlX0 tyX0 tyX0_ok nmX0 C.2.2.2.1 h.1.1 h.2.1 h.2.2.1 h.2.2.2.1 q0 he rfl 0 (by decide) (C.2.2.2.2 (Cond.fieldLink RX0 9 "TraceQuestions$Found" "first" "[I") (List.mem_of_getElem? (i := 104) (by decide +kernel))) (fun _ h9 => h9) rfl hin rfl (tyX0_ok 0 (by decide)) rfl rfl hl hdg (fun H1 locs1 hP hD hS => kk H1 locs1 (by rw [hw] at hP hD; exact ⟨h.1, hP, hD, hS, h.2.2.2.2⟩))
theorem gf0_15 (C : Cx p m c cc nL s args RX0) (h : Hx D g s A H0 ws H locs) (q0 : Nat) {a : Nat} {fs : List Value} {v : Value} (he : ws[q0]? = some (a, .inr (0, fs))) (hv : fs[1]? = some v) (hdg : decode cc pc = .ok (.getfield 15, 3)) (kk : W p l e R s m args below meth c H locs cells slots Q (F0 m (pc + 3) ls (v :: rest))) : W p l e R s m args below meth c H locs cells slots Q (F0 m pc ls (.ref a :: rest)) :=
  va_get (ref := "TraceQuestions$Found") (T := TX0) (N := 3) C.1 C.2.1 C.2.2.2.2 inlX0 C.2.2.2.1 h.1.1 h.2.1 q0 he rfl 1 (by decide) (C.2.2.2.2 (Cond.fieldLink RX0 15 "TraceQuestions$Found" "howMany" "[I") (List.mem_of_getElem? (i := 105) (by decide +kernel))) (fun _ h9 => h9) hv hdg kk
theorem pf0_15 (C : Cx p m c cc nL s args RX0) (h : Hx D g s A H0 ws H locs) (q0 : Nat) {a : Nat} {fs : List Value} {x : Nat} (ws' : va_W) (he : ws[q0]? = some (a, .inr (0, fs))) (hw : ws.set q0 (a, .inr (0, fs.set 1 (.ref x))) = ws') (hl : 1 < fs.length) (hin : meth.name = "<init>") (hdg : decode cc pc = .ok (.putfield 15, 3)) (kk : ∀ (H1 : Heap) (locs1 : List Loc), Hx D g s A H0 ws' H1 locs1 → W p l e R s m args below meth c H1 locs1 cells slots Q (F0 m (pc + 3) ls rest)) : W p l e R s m args below meth c H locs cells slots Q (F0 m pc ls (.ref x :: .ref a :: rest)) :=
  va_putF (ref := "TraceQuestions$Found") (T := TX0) (N := 3) (v := .ref x) C.1 C.2.1 C.2.2.2.2 inlX0 tyX0 tyX0_ok nmX0 C.2.2.2.1 h.1.1 h.2.1 h.2.2.1 h.2.2.2.1 q0 he rfl 1 (by decide) (C.2.2.2.2 (Cond.fieldLink RX0 15 "TraceQuestions$Found" "howMany" "[I") (List.mem_of_getElem? (i := 105) (by decide +kernel))) (fun _ h9 => h9) rfl hin rfl (tyX0_ok 1 (by decide)) rfl rfl hl hdg (fun H1 locs1 hP hD hS => kk H1 locs1 (by rw [hw] at hP hD; exact ⟨h.1, hP, hD, hS, h.2.2.2.2⟩))
theorem gf0_18 (C : Cx p m c cc nL s args RX0) (h : Hx D g s A H0 ws H locs) (q0 : Nat) {a : Nat} {fs : List Value} {v : Value} (he : ws[q0]? = some (a, .inr (0, fs))) (hv : fs[2]? = some v) (hdg : decode cc pc = .ok (.getfield 18, 3)) (kk : W p l e R s m args below meth c H locs cells slots Q (F0 m (pc + 3) ls (v :: rest))) : W p l e R s m args below meth c H locs cells slots Q (F0 m pc ls (.ref a :: rest)) :=
  va_get (ref := "TraceQuestions$Found") (T := TX0) (N := 3) C.1 C.2.1 C.2.2.2.2 inlX0 C.2.2.2.1 h.1.1 h.2.1 q0 he rfl 2 (by decide) (C.2.2.2.2 (Cond.fieldLink RX0 18 "TraceQuestions$Found" "count" "I") (List.mem_of_getElem? (i := 106) (by decide +kernel))) (fun _ h9 => h9) hv hdg kk
theorem pf0_18 (C : Cx p m c cc nL s args RX0) (h : Hx D g s A H0 ws H locs) (q0 : Nat) {a : Nat} {fs : List Value} {x : Int32} (ws' : va_W) (he : ws[q0]? = some (a, .inr (0, fs))) (hw : ws.set q0 (a, .inr (0, fs.set 2 (.int x))) = ws') (hl : 2 < fs.length) (hdg : decode cc pc = .ok (.putfield 18, 3)) (kk : ∀ (H1 : Heap) (locs1 : List Loc), Hx D g s A H0 ws' H1 locs1 → W p l e R s m args below meth c H1 locs1 cells slots Q (F0 m (pc + 3) ls rest)) : W p l e R s m args below meth c H locs cells slots Q (F0 m pc ls (.int x :: .ref a :: rest)) :=
  va_put (ref := "TraceQuestions$Found") (T := TX0) (N := 3) (v := .int x) C.1 C.2.1 C.2.2.2.2 inlX0 tyX0 tyX0_ok nmX0 C.2.2.2.1 h.1.1 h.2.1 h.2.2.1 h.2.2.2.1 q0 he rfl 2 (by decide) (C.2.2.2.2 (Cond.fieldLink RX0 18 "TraceQuestions$Found" "count" "I") (List.mem_of_getElem? (i := 106) (by decide +kernel))) (fun _ h9 => h9) rfl (tyX0_ok 2 (by decide)) rfl rfl hl hdg (fun H1 locs1 hP hD hS => kk H1 locs1 (by rw [hw] at hP hD; exact ⟨h.1, hP, hD, hS, h.2.2.2.2⟩))
theorem gf8_7 (C : Cx p m c cc nL s args RX8) (h : Hx D g s A H0 ws H locs) (q0 : Nat) {a : Nat} {fs : List Value} {v : Value} (he : ws[q0]? = some (a, .inr (8, fs))) (hv : fs[2]? = some v) (hdg : decode cc pc = .ok (.getfield 7, 3)) (kk : W p l e R s m args below meth c H locs cells slots Q (F0 m (pc + 3) ls (v :: rest))) : W p l e R s m args below meth c H locs cells slots Q (F0 m pc ls (.ref a :: rest)) :=
  va_get (ref := "TraceQuestionsModel") (T := TX8) (N := 40) C.1 C.2.1 C.2.2.2.2 inlX8 C.2.2.2.1 h.1.1 h.2.1 q0 he rfl 2 (by decide) (C.2.2.2.2 (Cond.fieldLink RX8 7 "TraceQuestionsModel" "fields" "[I") (List.mem_of_getElem? (i := 111) (by decide +kernel))) (fun _ h9 => h9) hv hdg kk
theorem pf8_7 (C : Cx p m c cc nL s args RX8) (h : Hx D g s A H0 ws H locs) (q0 : Nat) {a : Nat} {fs : List Value} {x : Nat} (ws' : va_W) (he : ws[q0]? = some (a, .inr (8, fs))) (hw : ws.set q0 (a, .inr (8, fs.set 2 (.ref x))) = ws') (hl : 2 < fs.length) (hin : meth.name = "<init>") (hdg : decode cc pc = .ok (.putfield 7, 3)) (kk : ∀ (H1 : Heap) (locs1 : List Loc), Hx D g s A H0 ws' H1 locs1 → W p l e R s m args below meth c H1 locs1 cells slots Q (F0 m (pc + 3) ls rest)) : W p l e R s m args below meth c H locs cells slots Q (F0 m pc ls (.ref x :: .ref a :: rest)) :=
  va_putF (ref := "TraceQuestionsModel") (T := TX8) (N := 40) (v := .ref x) C.1 C.2.1 C.2.2.2.2 inlX8 tyX8 tyX8_ok nmX8 C.2.2.2.1 h.1.1 h.2.1 h.2.2.1 h.2.2.2.1 q0 he rfl 2 (by decide) (C.2.2.2.2 (Cond.fieldLink RX8 7 "TraceQuestionsModel" "fields" "[I") (List.mem_of_getElem? (i := 111) (by decide +kernel))) (fun _ h9 => h9) rfl hin rfl (tyX8_ok 2 (by decide)) rfl rfl hl hdg (fun H1 locs1 hP hD hS => kk H1 locs1 (by rw [hw] at hP hD; exact ⟨h.1, hP, hD, hS, h.2.2.2.2⟩))
theorem gf8_13 (C : Cx p m c cc nL s args RX8) (h : Hx D g s A H0 ws H locs) (q0 : Nat) {a : Nat} {fs : List Value} {v : Value} (he : ws[q0]? = some (a, .inr (8, fs))) (hv : fs[4]? = some v) (hdg : decode cc pc = .ok (.getfield 13, 3)) (kk : W p l e R s m args below meth c H locs cells slots Q (F0 m (pc + 3) ls (v :: rest))) : W p l e R s m args below meth c H locs cells slots Q (F0 m pc ls (.ref a :: rest)) :=
  va_get (ref := "TraceQuestionsModel") (T := TX8) (N := 40) C.1 C.2.1 C.2.2.2.2 inlX8 C.2.2.2.1 h.1.1 h.2.1 q0 he rfl 4 (by decide) (C.2.2.2.2 (Cond.fieldLink RX8 13 "TraceQuestionsModel" "rightOf" "[I") (List.mem_of_getElem? (i := 112) (by decide +kernel))) (fun _ h9 => h9) hv hdg kk
theorem pf8_13 (C : Cx p m c cc nL s args RX8) (h : Hx D g s A H0 ws H locs) (q0 : Nat) {a : Nat} {fs : List Value} {x : Nat} (ws' : va_W) (he : ws[q0]? = some (a, .inr (8, fs))) (hw : ws.set q0 (a, .inr (8, fs.set 4 (.ref x))) = ws') (hl : 4 < fs.length) (hin : meth.name = "<init>") (hdg : decode cc pc = .ok (.putfield 13, 3)) (kk : ∀ (H1 : Heap) (locs1 : List Loc), Hx D g s A H0 ws' H1 locs1 → W p l e R s m args below meth c H1 locs1 cells slots Q (F0 m (pc + 3) ls rest)) : W p l e R s m args below meth c H locs cells slots Q (F0 m pc ls (.ref x :: .ref a :: rest)) :=
  va_putF (ref := "TraceQuestionsModel") (T := TX8) (N := 40) (v := .ref x) C.1 C.2.1 C.2.2.2.2 inlX8 tyX8 tyX8_ok nmX8 C.2.2.2.1 h.1.1 h.2.1 h.2.2.1 h.2.2.2.1 q0 he rfl 4 (by decide) (C.2.2.2.2 (Cond.fieldLink RX8 13 "TraceQuestionsModel" "rightOf" "[I") (List.mem_of_getElem? (i := 112) (by decide +kernel))) (fun _ h9 => h9) rfl hin rfl (tyX8_ok 4 (by decide)) rfl rfl hl hdg (fun H1 locs1 hP hD hS => kk H1 locs1 (by rw [hw] at hP hD; exact ⟨h.1, hP, hD, hS, h.2.2.2.2⟩))
theorem gf8_16 (C : Cx p m c cc nL s args RX8) (h : Hx D g s A H0 ws H locs) (q0 : Nat) {a : Nat} {fs : List Value} {v : Value} (he : ws[q0]? = some (a, .inr (8, fs))) (hv : fs[5]? = some v) (hdg : decode cc pc = .ok (.getfield 16, 3)) (kk : W p l e R s m args below meth c H locs cells slots Q (F0 m (pc + 3) ls (v :: rest))) : W p l e R s m args below meth c H locs cells slots Q (F0 m pc ls (.ref a :: rest)) :=
  va_get (ref := "TraceQuestionsModel") (T := TX8) (N := 40) C.1 C.2.1 C.2.2.2.2 inlX8 C.2.2.2.1 h.1.1 h.2.1 q0 he rfl 5 (by decide) (C.2.2.2.2 (Cond.fieldLink RX8 16 "TraceQuestionsModel" "rightOwner" "[I") (List.mem_of_getElem? (i := 113) (by decide +kernel))) (fun _ h9 => h9) hv hdg kk
theorem pf8_16 (C : Cx p m c cc nL s args RX8) (h : Hx D g s A H0 ws H locs) (q0 : Nat) {a : Nat} {fs : List Value} {x : Nat} (ws' : va_W) (he : ws[q0]? = some (a, .inr (8, fs))) (hw : ws.set q0 (a, .inr (8, fs.set 5 (.ref x))) = ws') (hl : 5 < fs.length) (hin : meth.name = "<init>") (hdg : decode cc pc = .ok (.putfield 16, 3)) (kk : ∀ (H1 : Heap) (locs1 : List Loc), Hx D g s A H0 ws' H1 locs1 → W p l e R s m args below meth c H1 locs1 cells slots Q (F0 m (pc + 3) ls rest)) : W p l e R s m args below meth c H locs cells slots Q (F0 m pc ls (.ref x :: .ref a :: rest)) :=
  va_putF (ref := "TraceQuestionsModel") (T := TX8) (N := 40) (v := .ref x) C.1 C.2.1 C.2.2.2.2 inlX8 tyX8 tyX8_ok nmX8 C.2.2.2.1 h.1.1 h.2.1 h.2.2.1 h.2.2.2.1 q0 he rfl 5 (by decide) (C.2.2.2.2 (Cond.fieldLink RX8 16 "TraceQuestionsModel" "rightOwner" "[I") (List.mem_of_getElem? (i := 113) (by decide +kernel))) (fun _ h9 => h9) rfl hin rfl (tyX8_ok 5 (by decide)) rfl rfl hl hdg (fun H1 locs1 hP hD hS => kk H1 locs1 (by rw [hw] at hP hD; exact ⟨h.1, hP, hD, hS, h.2.2.2.2⟩))
theorem gf8_19 (C : Cx p m c cc nL s args RX8) (h : Hx D g s A H0 ws H locs) (q0 : Nat) {a : Nat} {fs : List Value} {v : Value} (he : ws[q0]? = some (a, .inr (8, fs))) (hv : fs[6]? = some v) (hdg : decode cc pc = .ok (.getfield 19, 3)) (kk : W p l e R s m args below meth c H locs cells slots Q (F0 m (pc + 3) ls (v :: rest))) : W p l e R s m args below meth c H locs cells slots Q (F0 m pc ls (.ref a :: rest)) :=
  va_get (ref := "TraceQuestionsModel") (T := TX8) (N := 40) C.1 C.2.1 C.2.2.2.2 inlX8 C.2.2.2.1 h.1.1 h.2.1 q0 he rfl 6 (by decide) (C.2.2.2.2 (Cond.fieldLink RX8 19 "TraceQuestionsModel" "rightKind" "[I") (List.mem_of_getElem? (i := 114) (by decide +kernel))) (fun _ h9 => h9) hv hdg kk
theorem pf8_19 (C : Cx p m c cc nL s args RX8) (h : Hx D g s A H0 ws H locs) (q0 : Nat) {a : Nat} {fs : List Value} {x : Nat} (ws' : va_W) (he : ws[q0]? = some (a, .inr (8, fs))) (hw : ws.set q0 (a, .inr (8, fs.set 6 (.ref x))) = ws') (hl : 6 < fs.length) (hin : meth.name = "<init>") (hdg : decode cc pc = .ok (.putfield 19, 3)) (kk : ∀ (H1 : Heap) (locs1 : List Loc), Hx D g s A H0 ws' H1 locs1 → W p l e R s m args below meth c H1 locs1 cells slots Q (F0 m (pc + 3) ls rest)) : W p l e R s m args below meth c H locs cells slots Q (F0 m pc ls (.ref x :: .ref a :: rest)) :=
  va_putF (ref := "TraceQuestionsModel") (T := TX8) (N := 40) (v := .ref x) C.1 C.2.1 C.2.2.2.2 inlX8 tyX8 tyX8_ok nmX8 C.2.2.2.1 h.1.1 h.2.1 h.2.2.1 h.2.2.2.1 q0 he rfl 6 (by decide) (C.2.2.2.2 (Cond.fieldLink RX8 19 "TraceQuestionsModel" "rightKind" "[I") (List.mem_of_getElem? (i := 114) (by decide +kernel))) (fun _ h9 => h9) rfl hin rfl (tyX8_ok 6 (by decide)) rfl rfl hl hdg (fun H1 locs1 hP hD hS => kk H1 locs1 (by rw [hw] at hP hD; exact ⟨h.1, hP, hD, hS, h.2.2.2.2⟩))
theorem gf8_22 (C : Cx p m c cc nL s args RX8) (h : Hx D g s A H0 ws H locs) (q0 : Nat) {a : Nat} {fs : List Value} {v : Value} (he : ws[q0]? = some (a, .inr (8, fs))) (hv : fs[7]? = some v) (hdg : decode cc pc = .ok (.getfield 22, 3)) (kk : W p l e R s m args below meth c H locs cells slots Q (F0 m (pc + 3) ls (v :: rest))) : W p l e R s m args below meth c H locs cells slots Q (F0 m pc ls (.ref a :: rest)) :=
  va_get (ref := "TraceQuestionsModel") (T := TX8) (N := 40) C.1 C.2.1 C.2.2.2.2 inlX8 C.2.2.2.1 h.1.1 h.2.1 q0 he rfl 7 (by decide) (C.2.2.2.2 (Cond.fieldLink RX8 22 "TraceQuestionsModel" "masks" "[Z") (List.mem_of_getElem? (i := 116) (by decide +kernel))) (fun _ h9 => h9) hv hdg kk
theorem pf8_22 (C : Cx p m c cc nL s args RX8) (h : Hx D g s A H0 ws H locs) (q0 : Nat) {a : Nat} {fs : List Value} {x : Nat} (ws' : va_W) (he : ws[q0]? = some (a, .inr (8, fs))) (hw : ws.set q0 (a, .inr (8, fs.set 7 (.ref x))) = ws') (hl : 7 < fs.length) (hin : meth.name = "<init>") (hdg : decode cc pc = .ok (.putfield 22, 3)) (kk : ∀ (H1 : Heap) (locs1 : List Loc), Hx D g s A H0 ws' H1 locs1 → W p l e R s m args below meth c H1 locs1 cells slots Q (F0 m (pc + 3) ls rest)) : W p l e R s m args below meth c H locs cells slots Q (F0 m pc ls (.ref x :: .ref a :: rest)) :=
  va_putF (ref := "TraceQuestionsModel") (T := TX8) (N := 40) (v := .ref x) C.1 C.2.1 C.2.2.2.2 inlX8 tyX8 tyX8_ok nmX8 C.2.2.2.1 h.1.1 h.2.1 h.2.2.1 h.2.2.2.1 q0 he rfl 7 (by decide) (C.2.2.2.2 (Cond.fieldLink RX8 22 "TraceQuestionsModel" "masks" "[Z") (List.mem_of_getElem? (i := 116) (by decide +kernel))) (fun _ h9 => h9) rfl hin rfl (tyX8_ok 7 (by decide)) rfl rfl hl hdg (fun H1 locs1 hP hD hS => kk H1 locs1 (by rw [hw] at hP hD; exact ⟨h.1, hP, hD, hS, h.2.2.2.2⟩))
theorem kl8_26 (C : Cx p m c cc nL s args RX8) (hdg : decode cc pc = .ok (.ldc2_w 26, 3)) (kk : W p l e R s m args below meth c H locs cells slots Q (F0 m (pc + 3) ls (.long (lI (100000)) :: rest))) : W p l e R s m args below meth c H locs cells slots Q (F0 m pc ls rest) :=
  lv_ldc2 (v := (100000)) C.1 C.2.1 C.2.2.2.1 (C.2.2.2.2 (Cond.constantLong RX8 26 (100000)) (List.mem_of_getElem? (i := 117) (by decide +kernel))) hdg (by rw [show ((100000) : Int64) = lI (100000) from by decide]; exact kk)
theorem gf8_28 (C : Cx p m c cc nL s args RX8) (h : Hx D g s A H0 ws H locs) (q0 : Nat) {a : Nat} {fs : List Value} {v : Value} (he : ws[q0]? = some (a, .inr (8, fs))) (hv : fs[8]? = some v) (hdg : decode cc pc = .ok (.getfield 28, 3)) (kk : W p l e R s m args below meth c H locs cells slots Q (F0 m (pc + 3) ls (v :: rest))) : W p l e R s m args below meth c H locs cells slots Q (F0 m pc ls (.ref a :: rest)) :=
  va_get (ref := "TraceQuestionsModel") (T := TX8) (N := 40) C.1 C.2.1 C.2.2.2.2 inlX8 C.2.2.2.1 h.1.1 h.2.1 q0 he rfl 8 (by decide) (C.2.2.2.2 (Cond.fieldLink RX8 28 "TraceQuestionsModel" "bound" "J") (List.mem_of_getElem? (i := 118) (by decide +kernel))) (fun _ h9 => h9) hv hdg kk
theorem pf8_28 (C : Cx p m c cc nL s args RX8) (h : Hx D g s A H0 ws H locs) (q0 : Nat) {a : Nat} {fs : List Value} {x : Int64} (ws' : va_W) (he : ws[q0]? = some (a, .inr (8, fs))) (hw : ws.set q0 (a, .inr (8, fs.set 8 (.long x))) = ws') (hl : 8 < fs.length) (hdg : decode cc pc = .ok (.putfield 28, 3)) (kk : ∀ (H1 : Heap) (locs1 : List Loc), Hx D g s A H0 ws' H1 locs1 → W p l e R s m args below meth c H1 locs1 cells slots Q (F0 m (pc + 3) ls rest)) : W p l e R s m args below meth c H locs cells slots Q (F0 m pc ls (.long x :: .ref a :: rest)) :=
  va_put (ref := "TraceQuestionsModel") (T := TX8) (N := 40) (v := .long x) C.1 C.2.1 C.2.2.2.2 inlX8 tyX8 tyX8_ok nmX8 C.2.2.2.1 h.1.1 h.2.1 h.2.2.1 h.2.2.2.1 q0 he rfl 8 (by decide) (C.2.2.2.2 (Cond.fieldLink RX8 28 "TraceQuestionsModel" "bound" "J") (List.mem_of_getElem? (i := 118) (by decide +kernel))) (fun _ h9 => h9) rfl (tyX8_ok 8 (by decide)) rfl rfl hl hdg (fun H1 locs1 hP hD hS => kk H1 locs1 (by rw [hw] at hP hD; exact ⟨h.1, hP, hD, hS, h.2.2.2.2⟩))
theorem gf8_32 (C : Cx p m c cc nL s args RX8) (h : Hx D g s A H0 ws H locs) (q0 : Nat) {a : Nat} {fs : List Value} {v : Value} (he : ws[q0]? = some (a, .inr (8, fs))) (hv : fs[12]? = some v) (hdg : decode cc pc = .ok (.getfield 32, 3)) (kk : W p l e R s m args below meth c H locs cells slots Q (F0 m (pc + 3) ls (v :: rest))) : W p l e R s m args below meth c H locs cells slots Q (F0 m pc ls (.ref a :: rest)) :=
  va_get (ref := "TraceQuestionsModel") (T := TX8) (N := 40) C.1 C.2.1 C.2.2.2.2 inlX8 C.2.2.2.1 h.1.1 h.2.1 q0 he rfl 12 (by decide) (C.2.2.2.2 (Cond.fieldLink RX8 32 "TraceQuestionsModel" "text" "[I") (List.mem_of_getElem? (i := 119) (by decide +kernel))) (fun _ h9 => h9) hv hdg kk
theorem pf8_32 (C : Cx p m c cc nL s args RX8) (h : Hx D g s A H0 ws H locs) (q0 : Nat) {a : Nat} {fs : List Value} {x : Nat} (ws' : va_W) (he : ws[q0]? = some (a, .inr (8, fs))) (hw : ws.set q0 (a, .inr (8, fs.set 12 (.ref x))) = ws') (hl : 12 < fs.length) (hin : meth.name = "<init>") (hdg : decode cc pc = .ok (.putfield 32, 3)) (kk : ∀ (H1 : Heap) (locs1 : List Loc), Hx D g s A H0 ws' H1 locs1 → W p l e R s m args below meth c H1 locs1 cells slots Q (F0 m (pc + 3) ls rest)) : W p l e R s m args below meth c H locs cells slots Q (F0 m pc ls (.ref x :: .ref a :: rest)) :=
  va_putF (ref := "TraceQuestionsModel") (T := TX8) (N := 40) (v := .ref x) C.1 C.2.1 C.2.2.2.2 inlX8 tyX8 tyX8_ok nmX8 C.2.2.2.1 h.1.1 h.2.1 h.2.2.1 h.2.2.2.1 q0 he rfl 12 (by decide) (C.2.2.2.2 (Cond.fieldLink RX8 32 "TraceQuestionsModel" "text" "[I") (List.mem_of_getElem? (i := 119) (by decide +kernel))) (fun _ h9 => h9) rfl hin rfl (tyX8_ok 12 (by decide)) rfl rfl hl hdg (fun H1 locs1 hP hD hS => kk H1 locs1 (by rw [hw] at hP hD; exact ⟨h.1, hP, hD, hS, h.2.2.2.2⟩))
theorem gf8_35 (C : Cx p m c cc nL s args RX8) (h : Hx D g s A H0 ws H locs) (q0 : Nat) {a : Nat} {fs : List Value} {v : Value} (he : ws[q0]? = some (a, .inr (8, fs))) (hv : fs[15]? = some v) (hdg : decode cc pc = .ok (.getfield 35, 3)) (kk : W p l e R s m args below meth c H locs cells slots Q (F0 m (pc + 3) ls (v :: rest))) : W p l e R s m args below meth c H locs cells slots Q (F0 m pc ls (.ref a :: rest)) :=
  va_get (ref := "TraceQuestionsModel") (T := TX8) (N := 40) C.1 C.2.1 C.2.2.2.2 inlX8 C.2.2.2.1 h.1.1 h.2.1 q0 he rfl 15 (by decide) (C.2.2.2.2 (Cond.fieldLink RX8 35 "TraceQuestionsModel" "asked" "[I") (List.mem_of_getElem? (i := 120) (by decide +kernel))) (fun _ h9 => h9) hv hdg kk
theorem pf8_35 (C : Cx p m c cc nL s args RX8) (h : Hx D g s A H0 ws H locs) (q0 : Nat) {a : Nat} {fs : List Value} {x : Nat} (ws' : va_W) (he : ws[q0]? = some (a, .inr (8, fs))) (hw : ws.set q0 (a, .inr (8, fs.set 15 (.ref x))) = ws') (hl : 15 < fs.length) (hin : meth.name = "<init>") (hdg : decode cc pc = .ok (.putfield 35, 3)) (kk : ∀ (H1 : Heap) (locs1 : List Loc), Hx D g s A H0 ws' H1 locs1 → W p l e R s m args below meth c H1 locs1 cells slots Q (F0 m (pc + 3) ls rest)) : W p l e R s m args below meth c H locs cells slots Q (F0 m pc ls (.ref x :: .ref a :: rest)) :=
  va_putF (ref := "TraceQuestionsModel") (T := TX8) (N := 40) (v := .ref x) C.1 C.2.1 C.2.2.2.2 inlX8 tyX8 tyX8_ok nmX8 C.2.2.2.1 h.1.1 h.2.1 h.2.2.1 h.2.2.2.1 q0 he rfl 15 (by decide) (C.2.2.2.2 (Cond.fieldLink RX8 35 "TraceQuestionsModel" "asked" "[I") (List.mem_of_getElem? (i := 120) (by decide +kernel))) (fun _ h9 => h9) rfl hin rfl (tyX8_ok 15 (by decide)) rfl rfl hl hdg (fun H1 locs1 hP hD hS => kk H1 locs1 (by rw [hw] at hP hD; exact ⟨h.1, hP, hD, hS, h.2.2.2.2⟩))
theorem gf8_38 (C : Cx p m c cc nL s args RX8) (h : Hx D g s A H0 ws H locs) (q0 : Nat) {a : Nat} {fs : List Value} {v : Value} (he : ws[q0]? = some (a, .inr (8, fs))) (hv : fs[18]? = some v) (hdg : decode cc pc = .ok (.getfield 38, 3)) (kk : W p l e R s m args below meth c H locs cells slots Q (F0 m (pc + 3) ls (v :: rest))) : W p l e R s m args below meth c H locs cells slots Q (F0 m pc ls (.ref a :: rest)) :=
  va_get (ref := "TraceQuestionsModel") (T := TX8) (N := 40) C.1 C.2.1 C.2.2.2.2 inlX8 C.2.2.2.1 h.1.1 h.2.1 q0 he rfl 18 (by decide) (C.2.2.2.2 (Cond.fieldLink RX8 38 "TraceQuestionsModel" "keptSize" "[I") (List.mem_of_getElem? (i := 121) (by decide +kernel))) (fun _ h9 => h9) hv hdg kk
theorem pf8_38 (C : Cx p m c cc nL s args RX8) (h : Hx D g s A H0 ws H locs) (q0 : Nat) {a : Nat} {fs : List Value} {x : Nat} (ws' : va_W) (he : ws[q0]? = some (a, .inr (8, fs))) (hw : ws.set q0 (a, .inr (8, fs.set 18 (.ref x))) = ws') (hl : 18 < fs.length) (hin : meth.name = "<init>") (hdg : decode cc pc = .ok (.putfield 38, 3)) (kk : ∀ (H1 : Heap) (locs1 : List Loc), Hx D g s A H0 ws' H1 locs1 → W p l e R s m args below meth c H1 locs1 cells slots Q (F0 m (pc + 3) ls rest)) : W p l e R s m args below meth c H locs cells slots Q (F0 m pc ls (.ref x :: .ref a :: rest)) :=
  va_putF (ref := "TraceQuestionsModel") (T := TX8) (N := 40) (v := .ref x) C.1 C.2.1 C.2.2.2.2 inlX8 tyX8 tyX8_ok nmX8 C.2.2.2.1 h.1.1 h.2.1 h.2.2.1 h.2.2.2.1 q0 he rfl 18 (by decide) (C.2.2.2.2 (Cond.fieldLink RX8 38 "TraceQuestionsModel" "keptSize" "[I") (List.mem_of_getElem? (i := 121) (by decide +kernel))) (fun _ h9 => h9) rfl hin rfl (tyX8_ok 18 (by decide)) rfl rfl hl hdg (fun H1 locs1 hP hD hS => kk H1 locs1 (by rw [hw] at hP hD; exact ⟨h.1, hP, hD, hS, h.2.2.2.2⟩))
theorem gf8_41 (C : Cx p m c cc nL s args RX8) (h : Hx D g s A H0 ws H locs) (q0 : Nat) {a : Nat} {fs : List Value} {v : Value} (he : ws[q0]? = some (a, .inr (8, fs))) (hv : fs[19]? = some v) (hdg : decode cc pc = .ok (.getfield 41, 3)) (kk : W p l e R s m args below meth c H locs cells slots Q (F0 m (pc + 3) ls (v :: rest))) : W p l e R s m args below meth c H locs cells slots Q (F0 m pc ls (.ref a :: rest)) :=
  va_get (ref := "TraceQuestionsModel") (T := TX8) (N := 40) C.1 C.2.1 C.2.2.2.2 inlX8 C.2.2.2.1 h.1.1 h.2.1 q0 he rfl 19 (by decide) (C.2.2.2.2 (Cond.fieldLink RX8 41 "TraceQuestionsModel" "keptText" "[I") (List.mem_of_getElem? (i := 122) (by decide +kernel))) (fun _ h9 => h9) hv hdg kk
theorem pf8_41 (C : Cx p m c cc nL s args RX8) (h : Hx D g s A H0 ws H locs) (q0 : Nat) {a : Nat} {fs : List Value} {x : Nat} (ws' : va_W) (he : ws[q0]? = some (a, .inr (8, fs))) (hw : ws.set q0 (a, .inr (8, fs.set 19 (.ref x))) = ws') (hl : 19 < fs.length) (hin : meth.name = "<init>") (hdg : decode cc pc = .ok (.putfield 41, 3)) (kk : ∀ (H1 : Heap) (locs1 : List Loc), Hx D g s A H0 ws' H1 locs1 → W p l e R s m args below meth c H1 locs1 cells slots Q (F0 m (pc + 3) ls rest)) : W p l e R s m args below meth c H locs cells slots Q (F0 m pc ls (.ref x :: .ref a :: rest)) :=
  va_putF (ref := "TraceQuestionsModel") (T := TX8) (N := 40) (v := .ref x) C.1 C.2.1 C.2.2.2.2 inlX8 tyX8 tyX8_ok nmX8 C.2.2.2.1 h.1.1 h.2.1 h.2.2.1 h.2.2.2.1 q0 he rfl 19 (by decide) (C.2.2.2.2 (Cond.fieldLink RX8 41 "TraceQuestionsModel" "keptText" "[I") (List.mem_of_getElem? (i := 122) (by decide +kernel))) (fun _ h9 => h9) rfl hin rfl (tyX8_ok 19 (by decide)) rfl rfl hl hdg (fun H1 locs1 hP hD hS => kk H1 locs1 (by rw [hw] at hP hD; exact ⟨h.1, hP, hD, hS, h.2.2.2.2⟩))
theorem gf8_44 (C : Cx p m c cc nL s args RX8) (h : Hx D g s A H0 ws H locs) (q0 : Nat) {a : Nat} {fs : List Value} {v : Value} (he : ws[q0]? = some (a, .inr (8, fs))) (hv : fs[20]? = some v) (hdg : decode cc pc = .ok (.getfield 44, 3)) (kk : W p l e R s m args below meth c H locs cells slots Q (F0 m (pc + 3) ls (v :: rest))) : W p l e R s m args below meth c H locs cells slots Q (F0 m pc ls (.ref a :: rest)) :=
  va_get (ref := "TraceQuestionsModel") (T := TX8) (N := 40) C.1 C.2.1 C.2.2.2.2 inlX8 C.2.2.2.1 h.1.1 h.2.1 q0 he rfl 20 (by decide) (C.2.2.2.2 (Cond.fieldLink RX8 44 "TraceQuestionsModel" "keptWho" "[I") (List.mem_of_getElem? (i := 123) (by decide +kernel))) (fun _ h9 => h9) hv hdg kk
theorem pf8_44 (C : Cx p m c cc nL s args RX8) (h : Hx D g s A H0 ws H locs) (q0 : Nat) {a : Nat} {fs : List Value} {x : Nat} (ws' : va_W) (he : ws[q0]? = some (a, .inr (8, fs))) (hw : ws.set q0 (a, .inr (8, fs.set 20 (.ref x))) = ws') (hl : 20 < fs.length) (hin : meth.name = "<init>") (hdg : decode cc pc = .ok (.putfield 44, 3)) (kk : ∀ (H1 : Heap) (locs1 : List Loc), Hx D g s A H0 ws' H1 locs1 → W p l e R s m args below meth c H1 locs1 cells slots Q (F0 m (pc + 3) ls rest)) : W p l e R s m args below meth c H locs cells slots Q (F0 m pc ls (.ref x :: .ref a :: rest)) :=
  va_putF (ref := "TraceQuestionsModel") (T := TX8) (N := 40) (v := .ref x) C.1 C.2.1 C.2.2.2.2 inlX8 tyX8 tyX8_ok nmX8 C.2.2.2.1 h.1.1 h.2.1 h.2.2.1 h.2.2.2.1 q0 he rfl 20 (by decide) (C.2.2.2.2 (Cond.fieldLink RX8 44 "TraceQuestionsModel" "keptWho" "[I") (List.mem_of_getElem? (i := 123) (by decide +kernel))) (fun _ h9 => h9) rfl hin rfl (tyX8_ok 20 (by decide)) rfl rfl hl hdg (fun H1 locs1 hP hD hS => kk H1 locs1 (by rw [hw] at hP hD; exact ⟨h.1, hP, hD, hS, h.2.2.2.2⟩))
theorem gf8_47 (C : Cx p m c cc nL s args RX8) (h : Hx D g s A H0 ws H locs) (q0 : Nat) {a : Nat} {fs : List Value} {v : Value} (he : ws[q0]? = some (a, .inr (8, fs))) (hv : fs[21]? = some v) (hdg : decode cc pc = .ok (.getfield 47, 3)) (kk : W p l e R s m args below meth c H locs cells slots Q (F0 m (pc + 3) ls (v :: rest))) : W p l e R s m args below meth c H locs cells slots Q (F0 m pc ls (.ref a :: rest)) :=
  va_get (ref := "TraceQuestionsModel") (T := TX8) (N := 40) C.1 C.2.1 C.2.2.2.2 inlX8 C.2.2.2.1 h.1.1 h.2.1 q0 he rfl 21 (by decide) (C.2.2.2.2 (Cond.fieldLink RX8 47 "TraceQuestionsModel" "every" "[J") (List.mem_of_getElem? (i := 125) (by decide +kernel))) (fun _ h9 => h9) hv hdg kk
theorem pf8_47 (C : Cx p m c cc nL s args RX8) (h : Hx D g s A H0 ws H locs) (q0 : Nat) {a : Nat} {fs : List Value} {x : Nat} (ws' : va_W) (he : ws[q0]? = some (a, .inr (8, fs))) (hw : ws.set q0 (a, .inr (8, fs.set 21 (.ref x))) = ws') (hl : 21 < fs.length) (hin : meth.name = "<init>") (hdg : decode cc pc = .ok (.putfield 47, 3)) (kk : ∀ (H1 : Heap) (locs1 : List Loc), Hx D g s A H0 ws' H1 locs1 → W p l e R s m args below meth c H1 locs1 cells slots Q (F0 m (pc + 3) ls rest)) : W p l e R s m args below meth c H locs cells slots Q (F0 m pc ls (.ref x :: .ref a :: rest)) :=
  va_putF (ref := "TraceQuestionsModel") (T := TX8) (N := 40) (v := .ref x) C.1 C.2.1 C.2.2.2.2 inlX8 tyX8 tyX8_ok nmX8 C.2.2.2.1 h.1.1 h.2.1 h.2.2.1 h.2.2.2.1 q0 he rfl 21 (by decide) (C.2.2.2.2 (Cond.fieldLink RX8 47 "TraceQuestionsModel" "every" "[J") (List.mem_of_getElem? (i := 125) (by decide +kernel))) (fun _ h9 => h9) rfl hin rfl (tyX8_ok 21 (by decide)) rfl rfl hl hdg (fun H1 locs1 hP hD hS => kk H1 locs1 (by rw [hw] at hP hD; exact ⟨h.1, hP, hD, hS, h.2.2.2.2⟩))
theorem gf8_51 (C : Cx p m c cc nL s args RX8) (h : Hx D g s A H0 ws H locs) (q0 : Nat) {a : Nat} {fs : List Value} {v : Value} (he : ws[q0]? = some (a, .inr (8, fs))) (hv : fs[22]? = some v) (hdg : decode cc pc = .ok (.getfield 51, 3)) (kk : W p l e R s m args below meth c H locs cells slots Q (F0 m (pc + 3) ls (v :: rest))) : W p l e R s m args below meth c H locs cells slots Q (F0 m pc ls (.ref a :: rest)) :=
  va_get (ref := "TraceQuestionsModel") (T := TX8) (N := 40) C.1 C.2.1 C.2.2.2.2 inlX8 C.2.2.2.1 h.1.1 h.2.1 q0 he rfl 22 (by decide) (C.2.2.2.2 (Cond.fieldLink RX8 51 "TraceQuestionsModel" "due" "[J") (List.mem_of_getElem? (i := 126) (by decide +kernel))) (fun _ h9 => h9) hv hdg kk
theorem pf8_51 (C : Cx p m c cc nL s args RX8) (h : Hx D g s A H0 ws H locs) (q0 : Nat) {a : Nat} {fs : List Value} {x : Nat} (ws' : va_W) (he : ws[q0]? = some (a, .inr (8, fs))) (hw : ws.set q0 (a, .inr (8, fs.set 22 (.ref x))) = ws') (hl : 22 < fs.length) (hin : meth.name = "<init>") (hdg : decode cc pc = .ok (.putfield 51, 3)) (kk : ∀ (H1 : Heap) (locs1 : List Loc), Hx D g s A H0 ws' H1 locs1 → W p l e R s m args below meth c H1 locs1 cells slots Q (F0 m (pc + 3) ls rest)) : W p l e R s m args below meth c H locs cells slots Q (F0 m pc ls (.ref x :: .ref a :: rest)) :=
  va_putF (ref := "TraceQuestionsModel") (T := TX8) (N := 40) (v := .ref x) C.1 C.2.1 C.2.2.2.2 inlX8 tyX8 tyX8_ok nmX8 C.2.2.2.1 h.1.1 h.2.1 h.2.2.1 h.2.2.2.1 q0 he rfl 22 (by decide) (C.2.2.2.2 (Cond.fieldLink RX8 51 "TraceQuestionsModel" "due" "[J") (List.mem_of_getElem? (i := 126) (by decide +kernel))) (fun _ h9 => h9) rfl hin rfl (tyX8_ok 22 (by decide)) rfl rfl hl hdg (fun H1 locs1 hP hD hS => kk H1 locs1 (by rw [hw] at hP hD; exact ⟨h.1, hP, hD, hS, h.2.2.2.2⟩))
theorem gf8_54 (C : Cx p m c cc nL s args RX8) (h : Hx D g s A H0 ws H locs) (q0 : Nat) {a : Nat} {fs : List Value} {v : Value} (he : ws[q0]? = some (a, .inr (8, fs))) (hv : fs[23]? = some v) (hdg : decode cc pc = .ok (.getfield 54, 3)) (kk : W p l e R s m args below meth c H locs cells slots Q (F0 m (pc + 3) ls (v :: rest))) : W p l e R s m args below meth c H locs cells slots Q (F0 m pc ls (.ref a :: rest)) :=
  va_get (ref := "TraceQuestionsModel") (T := TX8) (N := 40) C.1 C.2.1 C.2.2.2.2 inlX8 C.2.2.2.1 h.1.1 h.2.1 q0 he rfl 23 (by decide) (C.2.2.2.2 (Cond.fieldLink RX8 54 "TraceQuestionsModel" "saved" "[I") (List.mem_of_getElem? (i := 127) (by decide +kernel))) (fun _ h9 => h9) hv hdg kk
theorem pf8_54 (C : Cx p m c cc nL s args RX8) (h : Hx D g s A H0 ws H locs) (q0 : Nat) {a : Nat} {fs : List Value} {x : Nat} (ws' : va_W) (he : ws[q0]? = some (a, .inr (8, fs))) (hw : ws.set q0 (a, .inr (8, fs.set 23 (.ref x))) = ws') (hl : 23 < fs.length) (hin : meth.name = "<init>") (hdg : decode cc pc = .ok (.putfield 54, 3)) (kk : ∀ (H1 : Heap) (locs1 : List Loc), Hx D g s A H0 ws' H1 locs1 → W p l e R s m args below meth c H1 locs1 cells slots Q (F0 m (pc + 3) ls rest)) : W p l e R s m args below meth c H locs cells slots Q (F0 m pc ls (.ref x :: .ref a :: rest)) :=
  va_putF (ref := "TraceQuestionsModel") (T := TX8) (N := 40) (v := .ref x) C.1 C.2.1 C.2.2.2.2 inlX8 tyX8 tyX8_ok nmX8 C.2.2.2.1 h.1.1 h.2.1 h.2.2.1 h.2.2.2.1 q0 he rfl 23 (by decide) (C.2.2.2.2 (Cond.fieldLink RX8 54 "TraceQuestionsModel" "saved" "[I") (List.mem_of_getElem? (i := 127) (by decide +kernel))) (fun _ h9 => h9) rfl hin rfl (tyX8_ok 23 (by decide)) rfl rfl hl hdg (fun H1 locs1 hP hD hS => kk H1 locs1 (by rw [hw] at hP hD; exact ⟨h.1, hP, hD, hS, h.2.2.2.2⟩))
theorem gf8_57 (C : Cx p m c cc nL s args RX8) (h : Hx D g s A H0 ws H locs) (q0 : Nat) {a : Nat} {fs : List Value} {v : Value} (he : ws[q0]? = some (a, .inr (8, fs))) (hv : fs[28]? = some v) (hdg : decode cc pc = .ok (.getfield 57, 3)) (kk : W p l e R s m args below meth c H locs cells slots Q (F0 m (pc + 3) ls (v :: rest))) : W p l e R s m args below meth c H locs cells slots Q (F0 m pc ls (.ref a :: rest)) :=
  va_get (ref := "TraceQuestionsModel") (T := TX8) (N := 40) C.1 C.2.1 C.2.2.2.2 inlX8 C.2.2.2.1 h.1.1 h.2.1 q0 he rfl 28 (by decide) (C.2.2.2.2 (Cond.fieldLink RX8 57 "TraceQuestionsModel" "nots" "[I") (List.mem_of_getElem? (i := 128) (by decide +kernel))) (fun _ h9 => h9) hv hdg kk
theorem pf8_57 (C : Cx p m c cc nL s args RX8) (h : Hx D g s A H0 ws H locs) (q0 : Nat) {a : Nat} {fs : List Value} {x : Nat} (ws' : va_W) (he : ws[q0]? = some (a, .inr (8, fs))) (hw : ws.set q0 (a, .inr (8, fs.set 28 (.ref x))) = ws') (hl : 28 < fs.length) (hin : meth.name = "<init>") (hdg : decode cc pc = .ok (.putfield 57, 3)) (kk : ∀ (H1 : Heap) (locs1 : List Loc), Hx D g s A H0 ws' H1 locs1 → W p l e R s m args below meth c H1 locs1 cells slots Q (F0 m (pc + 3) ls rest)) : W p l e R s m args below meth c H locs cells slots Q (F0 m pc ls (.ref x :: .ref a :: rest)) :=
  va_putF (ref := "TraceQuestionsModel") (T := TX8) (N := 40) (v := .ref x) C.1 C.2.1 C.2.2.2.2 inlX8 tyX8 tyX8_ok nmX8 C.2.2.2.1 h.1.1 h.2.1 h.2.2.1 h.2.2.2.1 q0 he rfl 28 (by decide) (C.2.2.2.2 (Cond.fieldLink RX8 57 "TraceQuestionsModel" "nots" "[I") (List.mem_of_getElem? (i := 128) (by decide +kernel))) (fun _ h9 => h9) rfl hin rfl (tyX8_ok 28 (by decide)) rfl rfl hl hdg (fun H1 locs1 hP hD hS => kk H1 locs1 (by rw [hw] at hP hD; exact ⟨h.1, hP, hD, hS, h.2.2.2.2⟩))
theorem gf8_60 (C : Cx p m c cc nL s args RX8) (h : Hx D g s A H0 ws H locs) (q0 : Nat) {a : Nat} {fs : List Value} {v : Value} (he : ws[q0]? = some (a, .inr (8, fs))) (hv : fs[29]? = some v) (hdg : decode cc pc = .ok (.getfield 60, 3)) (kk : W p l e R s m args below meth c H locs cells slots Q (F0 m (pc + 3) ls (v :: rest))) : W p l e R s m args below meth c H locs cells slots Q (F0 m pc ls (.ref a :: rest)) :=
  va_get (ref := "TraceQuestionsModel") (T := TX8) (N := 40) C.1 C.2.1 C.2.2.2.2 inlX8 C.2.2.2.1 h.1.1 h.2.1 q0 he rfl 29 (by decide) (C.2.2.2.2 (Cond.fieldLink RX8 60 "TraceQuestionsModel" "ors" "[Z") (List.mem_of_getElem? (i := 129) (by decide +kernel))) (fun _ h9 => h9) hv hdg kk
theorem pf8_60 (C : Cx p m c cc nL s args RX8) (h : Hx D g s A H0 ws H locs) (q0 : Nat) {a : Nat} {fs : List Value} {x : Nat} (ws' : va_W) (he : ws[q0]? = some (a, .inr (8, fs))) (hw : ws.set q0 (a, .inr (8, fs.set 29 (.ref x))) = ws') (hl : 29 < fs.length) (hin : meth.name = "<init>") (hdg : decode cc pc = .ok (.putfield 60, 3)) (kk : ∀ (H1 : Heap) (locs1 : List Loc), Hx D g s A H0 ws' H1 locs1 → W p l e R s m args below meth c H1 locs1 cells slots Q (F0 m (pc + 3) ls rest)) : W p l e R s m args below meth c H locs cells slots Q (F0 m pc ls (.ref x :: .ref a :: rest)) :=
  va_putF (ref := "TraceQuestionsModel") (T := TX8) (N := 40) (v := .ref x) C.1 C.2.1 C.2.2.2.2 inlX8 tyX8 tyX8_ok nmX8 C.2.2.2.1 h.1.1 h.2.1 h.2.2.1 h.2.2.2.1 q0 he rfl 29 (by decide) (C.2.2.2.2 (Cond.fieldLink RX8 60 "TraceQuestionsModel" "ors" "[Z") (List.mem_of_getElem? (i := 129) (by decide +kernel))) (fun _ h9 => h9) rfl hin rfl (tyX8_ok 29 (by decide)) rfl rfl hl hdg (fun H1 locs1 hP hD hS => kk H1 locs1 (by rw [hw] at hP hD; exact ⟨h.1, hP, hD, hS, h.2.2.2.2⟩))
theorem gf8_63 (C : Cx p m c cc nL s args RX8) (h : Hx D g s A H0 ws H locs) (q0 : Nat) {a : Nat} {fs : List Value} {v : Value} (he : ws[q0]? = some (a, .inr (8, fs))) (hv : fs[30]? = some v) (hdg : decode cc pc = .ok (.getfield 63, 3)) (kk : W p l e R s m args below meth c H locs cells slots Q (F0 m (pc + 3) ls (v :: rest))) : W p l e R s m args below meth c H locs cells slots Q (F0 m pc ls (.ref a :: rest)) :=
  va_get (ref := "TraceQuestionsModel") (T := TX8) (N := 40) C.1 C.2.1 C.2.2.2.2 inlX8 C.2.2.2.1 h.1.1 h.2.1 q0 he rfl 30 (by decide) (C.2.2.2.2 (Cond.fieldLink RX8 63 "TraceQuestionsModel" "ands" "[Z") (List.mem_of_getElem? (i := 130) (by decide +kernel))) (fun _ h9 => h9) hv hdg kk
theorem pf8_63 (C : Cx p m c cc nL s args RX8) (h : Hx D g s A H0 ws H locs) (q0 : Nat) {a : Nat} {fs : List Value} {x : Nat} (ws' : va_W) (he : ws[q0]? = some (a, .inr (8, fs))) (hw : ws.set q0 (a, .inr (8, fs.set 30 (.ref x))) = ws') (hl : 30 < fs.length) (hin : meth.name = "<init>") (hdg : decode cc pc = .ok (.putfield 63, 3)) (kk : ∀ (H1 : Heap) (locs1 : List Loc), Hx D g s A H0 ws' H1 locs1 → W p l e R s m args below meth c H1 locs1 cells slots Q (F0 m (pc + 3) ls rest)) : W p l e R s m args below meth c H locs cells slots Q (F0 m pc ls (.ref x :: .ref a :: rest)) :=
  va_putF (ref := "TraceQuestionsModel") (T := TX8) (N := 40) (v := .ref x) C.1 C.2.1 C.2.2.2.2 inlX8 tyX8 tyX8_ok nmX8 C.2.2.2.1 h.1.1 h.2.1 h.2.2.1 h.2.2.2.1 q0 he rfl 30 (by decide) (C.2.2.2.2 (Cond.fieldLink RX8 63 "TraceQuestionsModel" "ands" "[Z") (List.mem_of_getElem? (i := 130) (by decide +kernel))) (fun _ h9 => h9) rfl hin rfl (tyX8_ok 30 (by decide)) rfl rfl hl hdg (fun H1 locs1 hP hD hS => kk H1 locs1 (by rw [hw] at hP hD; exact ⟨h.1, hP, hD, hS, h.2.2.2.2⟩))
theorem gf8_66 (C : Cx p m c cc nL s args RX8) (h : Hx D g s A H0 ws H locs) (q0 : Nat) {a : Nat} {fs : List Value} {v : Value} (he : ws[q0]? = some (a, .inr (8, fs))) (hv : fs[33]? = some v) (hdg : decode cc pc = .ok (.getfield 66, 3)) (kk : W p l e R s m args below meth c H locs cells slots Q (F0 m (pc + 3) ls (v :: rest))) : W p l e R s m args below meth c H locs cells slots Q (F0 m pc ls (.ref a :: rest)) :=
  va_get (ref := "TraceQuestionsModel") (T := TX8) (N := 40) C.1 C.2.1 C.2.2.2.2 inlX8 C.2.2.2.1 h.1.1 h.2.1 q0 he rfl 33 (by decide) (C.2.2.2.2 (Cond.fieldLink RX8 66 "TraceQuestionsModel" "first" "[I") (List.mem_of_getElem? (i := 131) (by decide +kernel))) (fun _ h9 => h9) hv hdg kk
theorem pf8_66 (C : Cx p m c cc nL s args RX8) (h : Hx D g s A H0 ws H locs) (q0 : Nat) {a : Nat} {fs : List Value} {x : Nat} (ws' : va_W) (he : ws[q0]? = some (a, .inr (8, fs))) (hw : ws.set q0 (a, .inr (8, fs.set 33 (.ref x))) = ws') (hl : 33 < fs.length) (hin : meth.name = "<init>") (hdg : decode cc pc = .ok (.putfield 66, 3)) (kk : ∀ (H1 : Heap) (locs1 : List Loc), Hx D g s A H0 ws' H1 locs1 → W p l e R s m args below meth c H1 locs1 cells slots Q (F0 m (pc + 3) ls rest)) : W p l e R s m args below meth c H locs cells slots Q (F0 m pc ls (.ref x :: .ref a :: rest)) :=
  va_putF (ref := "TraceQuestionsModel") (T := TX8) (N := 40) (v := .ref x) C.1 C.2.1 C.2.2.2.2 inlX8 tyX8 tyX8_ok nmX8 C.2.2.2.1 h.1.1 h.2.1 h.2.2.1 h.2.2.2.1 q0 he rfl 33 (by decide) (C.2.2.2.2 (Cond.fieldLink RX8 66 "TraceQuestionsModel" "first" "[I") (List.mem_of_getElem? (i := 131) (by decide +kernel))) (fun _ h9 => h9) rfl hin rfl (tyX8_ok 33 (by decide)) rfl rfl hl hdg (fun H1 locs1 hP hD hS => kk H1 locs1 (by rw [hw] at hP hD; exact ⟨h.1, hP, hD, hS, h.2.2.2.2⟩))
theorem gf8_69 (C : Cx p m c cc nL s args RX8) (h : Hx D g s A H0 ws H locs) (q0 : Nat) {a : Nat} {fs : List Value} {v : Value} (he : ws[q0]? = some (a, .inr (8, fs))) (hv : fs[34]? = some v) (hdg : decode cc pc = .ok (.getfield 69, 3)) (kk : W p l e R s m args below meth c H locs cells slots Q (F0 m (pc + 3) ls (v :: rest))) : W p l e R s m args below meth c H locs cells slots Q (F0 m pc ls (.ref a :: rest)) :=
  va_get (ref := "TraceQuestionsModel") (T := TX8) (N := 40) C.1 C.2.1 C.2.2.2.2 inlX8 C.2.2.2.1 h.1.1 h.2.1 q0 he rfl 34 (by decide) (C.2.2.2.2 (Cond.fieldLink RX8 69 "TraceQuestionsModel" "second" "[I") (List.mem_of_getElem? (i := 132) (by decide +kernel))) (fun _ h9 => h9) hv hdg kk
theorem pf8_69 (C : Cx p m c cc nL s args RX8) (h : Hx D g s A H0 ws H locs) (q0 : Nat) {a : Nat} {fs : List Value} {x : Nat} (ws' : va_W) (he : ws[q0]? = some (a, .inr (8, fs))) (hw : ws.set q0 (a, .inr (8, fs.set 34 (.ref x))) = ws') (hl : 34 < fs.length) (hin : meth.name = "<init>") (hdg : decode cc pc = .ok (.putfield 69, 3)) (kk : ∀ (H1 : Heap) (locs1 : List Loc), Hx D g s A H0 ws' H1 locs1 → W p l e R s m args below meth c H1 locs1 cells slots Q (F0 m (pc + 3) ls rest)) : W p l e R s m args below meth c H locs cells slots Q (F0 m pc ls (.ref x :: .ref a :: rest)) :=
  va_putF (ref := "TraceQuestionsModel") (T := TX8) (N := 40) (v := .ref x) C.1 C.2.1 C.2.2.2.2 inlX8 tyX8 tyX8_ok nmX8 C.2.2.2.1 h.1.1 h.2.1 h.2.2.1 h.2.2.2.1 q0 he rfl 34 (by decide) (C.2.2.2.2 (Cond.fieldLink RX8 69 "TraceQuestionsModel" "second" "[I") (List.mem_of_getElem? (i := 132) (by decide +kernel))) (fun _ h9 => h9) rfl hin rfl (tyX8_ok 34 (by decide)) rfl rfl hl hdg (fun H1 locs1 hP hD hS => kk H1 locs1 (by rw [hw] at hP hD; exact ⟨h.1, hP, hD, hS, h.2.2.2.2⟩))
theorem gf8_72 (C : Cx p m c cc nL s args RX8) (h : Hx D g s A H0 ws H locs) (q0 : Nat) {a : Nat} {fs : List Value} {v : Value} (he : ws[q0]? = some (a, .inr (8, fs))) (hv : fs[37]? = some v) (hdg : decode cc pc = .ok (.getfield 72, 3)) (kk : W p l e R s m args below meth c H locs cells slots Q (F0 m (pc + 3) ls (v :: rest))) : W p l e R s m args below meth c H locs cells slots Q (F0 m pc ls (.ref a :: rest)) :=
  va_get (ref := "TraceQuestionsModel") (T := TX8) (N := 40) C.1 C.2.1 C.2.2.2.2 inlX8 C.2.2.2.1 h.1.1 h.2.1 q0 he rfl 37 (by decide) (C.2.2.2.2 (Cond.fieldLink RX8 72 "TraceQuestionsModel" "gotFirst" "[I") (List.mem_of_getElem? (i := 133) (by decide +kernel))) (fun _ h9 => h9) hv hdg kk
theorem pf8_72 (C : Cx p m c cc nL s args RX8) (h : Hx D g s A H0 ws H locs) (q0 : Nat) {a : Nat} {fs : List Value} {x : Nat} (ws' : va_W) (he : ws[q0]? = some (a, .inr (8, fs))) (hw : ws.set q0 (a, .inr (8, fs.set 37 (.ref x))) = ws') (hl : 37 < fs.length) (hin : meth.name = "<init>") (hdg : decode cc pc = .ok (.putfield 72, 3)) (kk : ∀ (H1 : Heap) (locs1 : List Loc), Hx D g s A H0 ws' H1 locs1 → W p l e R s m args below meth c H1 locs1 cells slots Q (F0 m (pc + 3) ls rest)) : W p l e R s m args below meth c H locs cells slots Q (F0 m pc ls (.ref x :: .ref a :: rest)) :=
  va_putF (ref := "TraceQuestionsModel") (T := TX8) (N := 40) (v := .ref x) C.1 C.2.1 C.2.2.2.2 inlX8 tyX8 tyX8_ok nmX8 C.2.2.2.1 h.1.1 h.2.1 h.2.2.1 h.2.2.2.1 q0 he rfl 37 (by decide) (C.2.2.2.2 (Cond.fieldLink RX8 72 "TraceQuestionsModel" "gotFirst" "[I") (List.mem_of_getElem? (i := 133) (by decide +kernel))) (fun _ h9 => h9) rfl hin rfl (tyX8_ok 37 (by decide)) rfl rfl hl hdg (fun H1 locs1 hP hD hS => kk H1 locs1 (by rw [hw] at hP hD; exact ⟨h.1, hP, hD, hS, h.2.2.2.2⟩))
theorem gf8_75 (C : Cx p m c cc nL s args RX8) (h : Hx D g s A H0 ws H locs) (q0 : Nat) {a : Nat} {fs : List Value} {v : Value} (he : ws[q0]? = some (a, .inr (8, fs))) (hv : fs[38]? = some v) (hdg : decode cc pc = .ok (.getfield 75, 3)) (kk : W p l e R s m args below meth c H locs cells slots Q (F0 m (pc + 3) ls (v :: rest))) : W p l e R s m args below meth c H locs cells slots Q (F0 m pc ls (.ref a :: rest)) :=
  va_get (ref := "TraceQuestionsModel") (T := TX8) (N := 40) C.1 C.2.1 C.2.2.2.2 inlX8 C.2.2.2.1 h.1.1 h.2.1 q0 he rfl 38 (by decide) (C.2.2.2.2 (Cond.fieldLink RX8 75 "TraceQuestionsModel" "gotSecond" "[I") (List.mem_of_getElem? (i := 134) (by decide +kernel))) (fun _ h9 => h9) hv hdg kk
theorem pf8_75 (C : Cx p m c cc nL s args RX8) (h : Hx D g s A H0 ws H locs) (q0 : Nat) {a : Nat} {fs : List Value} {x : Nat} (ws' : va_W) (he : ws[q0]? = some (a, .inr (8, fs))) (hw : ws.set q0 (a, .inr (8, fs.set 38 (.ref x))) = ws') (hl : 38 < fs.length) (hin : meth.name = "<init>") (hdg : decode cc pc = .ok (.putfield 75, 3)) (kk : ∀ (H1 : Heap) (locs1 : List Loc), Hx D g s A H0 ws' H1 locs1 → W p l e R s m args below meth c H1 locs1 cells slots Q (F0 m (pc + 3) ls rest)) : W p l e R s m args below meth c H locs cells slots Q (F0 m pc ls (.ref x :: .ref a :: rest)) :=
  va_putF (ref := "TraceQuestionsModel") (T := TX8) (N := 40) (v := .ref x) C.1 C.2.1 C.2.2.2.2 inlX8 tyX8 tyX8_ok nmX8 C.2.2.2.1 h.1.1 h.2.1 h.2.2.1 h.2.2.2.1 q0 he rfl 38 (by decide) (C.2.2.2.2 (Cond.fieldLink RX8 75 "TraceQuestionsModel" "gotSecond" "[I") (List.mem_of_getElem? (i := 134) (by decide +kernel))) (fun _ h9 => h9) rfl hin rfl (tyX8_ok 38 (by decide)) rfl rfl hl hdg (fun H1 locs1 hP hD hS => kk H1 locs1 (by rw [hw] at hP hD; exact ⟨h.1, hP, hD, hS, h.2.2.2.2⟩))
theorem gf8_78 (C : Cx p m c cc nL s args RX8) (h : Hx D g s A H0 ws H locs) (q0 : Nat) {a : Nat} {fs : List Value} {v : Value} (he : ws[q0]? = some (a, .inr (8, fs))) (hv : fs[39]? = some v) (hdg : decode cc pc = .ok (.getfield 78, 3)) (kk : W p l e R s m args below meth c H locs cells slots Q (F0 m (pc + 3) ls (v :: rest))) : W p l e R s m args below meth c H locs cells slots Q (F0 m pc ls (.ref a :: rest)) :=
  va_get (ref := "TraceQuestionsModel") (T := TX8) (N := 40) C.1 C.2.1 C.2.2.2.2 inlX8 C.2.2.2.1 h.1.1 h.2.1 q0 he rfl 39 (by decide) (C.2.2.2.2 (Cond.fieldLink RX8 78 "TraceQuestionsModel" "is" "[Z") (List.mem_of_getElem? (i := 135) (by decide +kernel))) (fun _ h9 => h9) hv hdg kk
theorem pf8_78 (C : Cx p m c cc nL s args RX8) (h : Hx D g s A H0 ws H locs) (q0 : Nat) {a : Nat} {fs : List Value} {x : Nat} (ws' : va_W) (he : ws[q0]? = some (a, .inr (8, fs))) (hw : ws.set q0 (a, .inr (8, fs.set 39 (.ref x))) = ws') (hl : 39 < fs.length) (hin : meth.name = "<init>") (hdg : decode cc pc = .ok (.putfield 78, 3)) (kk : ∀ (H1 : Heap) (locs1 : List Loc), Hx D g s A H0 ws' H1 locs1 → W p l e R s m args below meth c H1 locs1 cells slots Q (F0 m (pc + 3) ls rest)) : W p l e R s m args below meth c H locs cells slots Q (F0 m pc ls (.ref x :: .ref a :: rest)) :=
  va_putF (ref := "TraceQuestionsModel") (T := TX8) (N := 40) (v := .ref x) C.1 C.2.1 C.2.2.2.2 inlX8 tyX8 tyX8_ok nmX8 C.2.2.2.1 h.1.1 h.2.1 h.2.2.1 h.2.2.2.1 q0 he rfl 39 (by decide) (C.2.2.2.2 (Cond.fieldLink RX8 78 "TraceQuestionsModel" "is" "[Z") (List.mem_of_getElem? (i := 135) (by decide +kernel))) (fun _ h9 => h9) rfl hin rfl (tyX8_ok 39 (by decide)) rfl rfl hl hdg (fun H1 locs1 hP hD hS => kk H1 locs1 (by rw [hw] at hP hD; exact ⟨h.1, hP, hD, hS, h.2.2.2.2⟩))
theorem gf8_81 (C : Cx p m c cc nL s args RX8) (h : Hx D g s A H0 ws H locs) (q0 : Nat) {a : Nat} {fs : List Value} {v : Value} (he : ws[q0]? = some (a, .inr (8, fs))) (hv : fs[1]? = some v) (hdg : decode cc pc = .ok (.getfield 81, 3)) (kk : W p l e R s m args below meth c H locs cells slots Q (F0 m (pc + 3) ls (v :: rest))) : W p l e R s m args below meth c H locs cells slots Q (F0 m pc ls (.ref a :: rest)) :=
  va_get (ref := "TraceQuestionsModel") (T := TX8) (N := 40) C.1 C.2.1 C.2.2.2.2 inlX8 C.2.2.2.1 h.1.1 h.2.1 q0 he rfl 1 (by decide) (C.2.2.2.2 (Cond.fieldLink RX8 81 "TraceQuestionsModel" "rows" "I") (List.mem_of_getElem? (i := 136) (by decide +kernel))) (fun _ h9 => h9) hv hdg kk
theorem pf8_81 (C : Cx p m c cc nL s args RX8) (h : Hx D g s A H0 ws H locs) (q0 : Nat) {a : Nat} {fs : List Value} {x : Int32} (ws' : va_W) (he : ws[q0]? = some (a, .inr (8, fs))) (hw : ws.set q0 (a, .inr (8, fs.set 1 (.int x))) = ws') (hl : 1 < fs.length) (hdg : decode cc pc = .ok (.putfield 81, 3)) (kk : ∀ (H1 : Heap) (locs1 : List Loc), Hx D g s A H0 ws' H1 locs1 → W p l e R s m args below meth c H1 locs1 cells slots Q (F0 m (pc + 3) ls rest)) : W p l e R s m args below meth c H locs cells slots Q (F0 m pc ls (.int x :: .ref a :: rest)) :=
  va_put (ref := "TraceQuestionsModel") (T := TX8) (N := 40) (v := .int x) C.1 C.2.1 C.2.2.2.2 inlX8 tyX8 tyX8_ok nmX8 C.2.2.2.1 h.1.1 h.2.1 h.2.2.1 h.2.2.2.1 q0 he rfl 1 (by decide) (C.2.2.2.2 (Cond.fieldLink RX8 81 "TraceQuestionsModel" "rows" "I") (List.mem_of_getElem? (i := 136) (by decide +kernel))) (fun _ h9 => h9) rfl (tyX8_ok 1 (by decide)) rfl rfl hl hdg (fun H1 locs1 hP hD hS => kk H1 locs1 (by rw [hw] at hP hD; exact ⟨h.1, hP, hD, hS, h.2.2.2.2⟩))
theorem kc7_93 (C : Cx p m c cc nL s args RX7) (hdg : decode cc pc = .ok (.ldc 93, 2)) (kk : W p l e R s m args below meth c H locs cells slots Q (F0 m (pc + 2) ls (.int (iI (-1000002)) :: rest))) : W p l e R s m args below meth c H locs cells slots Q (F0 m pc ls rest) :=
  lv_ldc (v := (-1000002)) C.1 C.2.1 C.2.2.2.1 (C.2.2.2.2 (Cond.constant RX7 93 (-1000002)) (List.mem_of_getElem? (i := 141) (by decide +kernel))) hdg (by rw [show ((-1000002) : Int32) = iI (-1000002) from by decide]; exact kk)
theorem kc7_98 (C : Cx p m c cc nL s args RX7) (hdg : decode cc pc = .ok (.ldc 98, 2)) (kk : W p l e R s m args below meth c H locs cells slots Q (F0 m (pc + 2) ls (.int (iI (-1000004)) :: rest))) : W p l e R s m args below meth c H locs cells slots Q (F0 m pc ls rest) :=
  lv_ldc (v := (-1000004)) C.1 C.2.1 C.2.2.2.1 (C.2.2.2.2 (Cond.constant RX7 98 (-1000004)) (List.mem_of_getElem? (i := 142) (by decide +kernel))) hdg (by rw [show ((-1000004) : Int32) = iI (-1000004) from by decide]; exact kk)
theorem kc6_26 (C : Cx p m c cc nL s args RX6) (hdg : decode cc pc = .ok (.ldc 26, 2)) (kk : W p l e R s m args below meth c H locs cells slots Q (F0 m (pc + 2) ls (.int (iI (-1000004)) :: rest))) : W p l e R s m args below meth c H locs cells slots Q (F0 m pc ls rest) :=
  lv_ldc (v := (-1000004)) C.1 C.2.1 C.2.2.2.1 (C.2.2.2.2 (Cond.constant RX6 26 (-1000004)) (List.mem_of_getElem? (i := 154) (by decide +kernel))) hdg (by rw [show ((-1000004) : Int32) = iI (-1000004) from by decide]; exact kk)
theorem gf8_85 (C : Cx p m c cc nL s args RX8) (h : Hx D g s A H0 ws H locs) (q0 : Nat) {a : Nat} {fs : List Value} {v : Value} (he : ws[q0]? = some (a, .inr (8, fs))) (hv : fs[0]? = some v) (hdg : decode cc pc = .ok (.getfield 85, 3)) (kk : W p l e R s m args below meth c H locs cells slots Q (F0 m (pc + 3) ls (v :: rest))) : W p l e R s m args below meth c H locs cells slots Q (F0 m pc ls (.ref a :: rest)) :=
  va_get (ref := "TraceQuestionsModel") (T := TX8) (N := 40) C.1 C.2.1 C.2.2.2.2 inlX8 C.2.2.2.1 h.1.1 h.2.1 q0 he rfl 0 (by decide) (C.2.2.2.2 (Cond.fieldLink RX8 85 "TraceQuestionsModel" "thrown" "I") (List.mem_of_getElem? (i := 179) (by decide +kernel))) (fun _ h9 => h9) hv hdg kk
theorem pf8_85 (C : Cx p m c cc nL s args RX8) (h : Hx D g s A H0 ws H locs) (q0 : Nat) {a : Nat} {fs : List Value} {x : Int32} (ws' : va_W) (he : ws[q0]? = some (a, .inr (8, fs))) (hw : ws.set q0 (a, .inr (8, fs.set 0 (.int x))) = ws') (hl : 0 < fs.length) (hdg : decode cc pc = .ok (.putfield 85, 3)) (kk : ∀ (H1 : Heap) (locs1 : List Loc), Hx D g s A H0 ws' H1 locs1 → W p l e R s m args below meth c H1 locs1 cells slots Q (F0 m (pc + 3) ls rest)) : W p l e R s m args below meth c H locs cells slots Q (F0 m pc ls (.int x :: .ref a :: rest)) :=
  va_put (ref := "TraceQuestionsModel") (T := TX8) (N := 40) (v := .int x) C.1 C.2.1 C.2.2.2.2 inlX8 tyX8 tyX8_ok nmX8 C.2.2.2.1 h.1.1 h.2.1 h.2.2.1 h.2.2.2.1 q0 he rfl 0 (by decide) (C.2.2.2.2 (Cond.fieldLink RX8 85 "TraceQuestionsModel" "thrown" "I") (List.mem_of_getElem? (i := 179) (by decide +kernel))) (fun _ h9 => h9) rfl (tyX8_ok 0 (by decide)) rfl rfl hl hdg (fun H1 locs1 hP hD hS => kk H1 locs1 (by rw [hw] at hP hD; exact ⟨h.1, hP, hD, hS, h.2.2.2.2⟩))
theorem kl8_94 (C : Cx p m c cc nL s args RX8) (hdg : decode cc pc = .ok (.ldc2_w 94, 3)) (kk : W p l e R s m args below meth c H locs cells slots Q (F0 m (pc + 3) ls (.long (lI (999)) :: rest))) : W p l e R s m args below meth c H locs cells slots Q (F0 m pc ls rest) :=
  lv_ldc2 (v := (999)) C.1 C.2.1 C.2.2.2.1 (C.2.2.2.2 (Cond.constantLong RX8 94 (999)) (List.mem_of_getElem? (i := 180) (by decide +kernel))) hdg (by rw [show ((999) : Int64) = lI (999) from by decide]; exact kk)
theorem kl8_96 (C : Cx p m c cc nL s args RX8) (hdg : decode cc pc = .ok (.ldc2_w 96, 3)) (kk : W p l e R s m args below meth c H locs cells slots Q (F0 m (pc + 3) ls (.long (lI (19)) :: rest))) : W p l e R s m args below meth c H locs cells slots Q (F0 m pc ls rest) :=
  lv_ldc2 (v := (19)) C.1 C.2.1 C.2.2.2.1 (C.2.2.2.2 (Cond.constantLong RX8 96 (19)) (List.mem_of_getElem? (i := 181) (by decide +kernel))) hdg (by rw [show ((19) : Int64) = lI (19) from by decide]; exact kk)
theorem kl8_88 (C : Cx p m c cc nL s args RX8) (hdg : decode cc pc = .ok (.ldc2_w 88, 3)) (kk : W p l e R s m args below meth c H locs cells slots Q (F0 m (pc + 3) ls (.long (lI (49)) :: rest))) : W p l e R s m args below meth c H locs cells slots Q (F0 m pc ls rest) :=
  lv_ldc2 (v := (49)) C.1 C.2.1 C.2.2.2.1 (C.2.2.2.2 (Cond.constantLong RX8 88 (49)) (List.mem_of_getElem? (i := 182) (by decide +kernel))) hdg (by rw [show ((49) : Int64) = lI (49) from by decide]; exact kk)
theorem kl8_98 (C : Cx p m c cc nL s args RX8) (hdg : decode cc pc = .ok (.ldc2_w 98, 3)) (kk : W p l e R s m args below meth c H locs cells slots Q (F0 m (pc + 3) ls (.long (lI (20000)) :: rest))) : W p l e R s m args below meth c H locs cells slots Q (F0 m pc ls rest) :=
  lv_ldc2 (v := (20000)) C.1 C.2.1 C.2.2.2.1 (C.2.2.2.2 (Cond.constantLong RX8 98 (20000)) (List.mem_of_getElem? (i := 183) (by decide +kernel))) hdg (by rw [show ((20000) : Int64) = lI (20000) from by decide]; exact kk)
theorem kl8_100 (C : Cx p m c cc nL s args RX8) (hdg : decode cc pc = .ok (.ldc2_w 100, 3)) (kk : W p l e R s m args below meth c H locs cells slots Q (F0 m (pc + 3) ls (.long (lI (99)) :: rest))) : W p l e R s m args below meth c H locs cells slots Q (F0 m pc ls rest) :=
  lv_ldc2 (v := (99)) C.1 C.2.1 C.2.2.2.1 (C.2.2.2.2 (Cond.constantLong RX8 100 (99)) (List.mem_of_getElem? (i := 184) (by decide +kernel))) hdg (by rw [show ((99) : Int64) = lI (99) from by decide]; exact kk)
theorem kc8_102 (C : Cx p m c cc nL s args RX8) (hdg : decode cc pc = .ok (.ldc 102, 2)) (kk : W p l e R s m args below meth c H locs cells slots Q (F0 m (pc + 2) ls (.int (iI (-1000002)) :: rest))) : W p l e R s m args below meth c H locs cells slots Q (F0 m pc ls rest) :=
  lv_ldc (v := (-1000002)) C.1 C.2.1 C.2.2.2.1 (C.2.2.2.2 (Cond.constant RX8 102 (-1000002)) (List.mem_of_getElem? (i := 185) (by decide +kernel))) hdg (by rw [show ((-1000002) : Int32) = iI (-1000002) from by decide]; exact kk)
theorem kc8_103 (C : Cx p m c cc nL s args RX8) (hdg : decode cc pc = .ok (.ldc 103, 2)) (kk : W p l e R s m args below meth c H locs cells slots Q (F0 m (pc + 2) ls (.int (iI (-1000004)) :: rest))) : W p l e R s m args below meth c H locs cells slots Q (F0 m pc ls rest) :=
  lv_ldc (v := (-1000004)) C.1 C.2.1 C.2.2.2.1 (C.2.2.2.2 (Cond.constant RX8 103 (-1000004)) (List.mem_of_getElem? (i := 186) (by decide +kernel))) hdg (by rw [show ((-1000004) : Int32) = iI (-1000004) from by decide]; exact kk)
theorem gf8_104 (C : Cx p m c cc nL s args RX8) (h : Hx D g s A H0 ws H locs) (q0 : Nat) {a : Nat} {fs : List Value} {v : Value} (he : ws[q0]? = some (a, .inr (8, fs))) (hv : fs[11]? = some v) (hdg : decode cc pc = .ok (.getfield 104, 3)) (kk : W p l e R s m args below meth c H locs cells slots Q (F0 m (pc + 3) ls (v :: rest))) : W p l e R s m args below meth c H locs cells slots Q (F0 m pc ls (.ref a :: rest)) :=
  va_get (ref := "TraceQuestionsModel") (T := TX8) (N := 40) C.1 C.2.1 C.2.2.2.2 inlX8 C.2.2.2.1 h.1.1 h.2.1 q0 he rfl 11 (by decide) (C.2.2.2.2 (Cond.fieldLink RX8 104 "TraceQuestionsModel" "size" "I") (List.mem_of_getElem? (i := 198) (by decide +kernel))) (fun _ h9 => h9) hv hdg kk
theorem pf8_104 (C : Cx p m c cc nL s args RX8) (h : Hx D g s A H0 ws H locs) (q0 : Nat) {a : Nat} {fs : List Value} {x : Int32} (ws' : va_W) (he : ws[q0]? = some (a, .inr (8, fs))) (hw : ws.set q0 (a, .inr (8, fs.set 11 (.int x))) = ws') (hl : 11 < fs.length) (hdg : decode cc pc = .ok (.putfield 104, 3)) (kk : ∀ (H1 : Heap) (locs1 : List Loc), Hx D g s A H0 ws' H1 locs1 → W p l e R s m args below meth c H1 locs1 cells slots Q (F0 m (pc + 3) ls rest)) : W p l e R s m args below meth c H locs cells slots Q (F0 m pc ls (.int x :: .ref a :: rest)) :=
  va_put (ref := "TraceQuestionsModel") (T := TX8) (N := 40) (v := .int x) C.1 C.2.1 C.2.2.2.2 inlX8 tyX8 tyX8_ok nmX8 C.2.2.2.1 h.1.1 h.2.1 h.2.2.1 h.2.2.2.1 q0 he rfl 11 (by decide) (C.2.2.2.2 (Cond.fieldLink RX8 104 "TraceQuestionsModel" "size" "I") (List.mem_of_getElem? (i := 198) (by decide +kernel))) (fun _ h9 => h9) rfl (tyX8_ok 11 (by decide)) rfl rfl hl hdg (fun H1 locs1 hP hD hS => kk H1 locs1 (by rw [hw] at hP hD; exact ⟨h.1, hP, hD, hS, h.2.2.2.2⟩))
theorem kl8_107 (C : Cx p m c cc nL s args RX8) (hdg : decode cc pc = .ok (.ldc2_w 107, 3)) (kk : W p l e R s m args below meth c H locs cells slots Q (F0 m (pc + 3) ls (.long (lI (32)) :: rest))) : W p l e R s m args below meth c H locs cells slots Q (F0 m pc ls rest) :=
  lv_ldc2 (v := (32)) C.1 C.2.1 C.2.2.2.1 (C.2.2.2.2 (Cond.constantLong RX8 107 (32)) (List.mem_of_getElem? (i := 199) (by decide +kernel))) hdg (by rw [show ((32) : Int64) = lI (32) from by decide]; exact kk)
theorem kl8_109 (C : Cx p m c cc nL s args RX8) (hdg : decode cc pc = .ok (.ldc2_w 109, 3)) (kk : W p l e R s m args below meth c H locs cells slots Q (F0 m (pc + 3) ls (.long (lI (126)) :: rest))) : W p l e R s m args below meth c H locs cells slots Q (F0 m pc ls rest) :=
  lv_ldc2 (v := (126)) C.1 C.2.1 C.2.2.2.1 (C.2.2.2.2 (Cond.constantLong RX8 109 (126)) (List.mem_of_getElem? (i := 200) (by decide +kernel))) hdg (by rw [show ((126) : Int64) = lI (126) from by decide]; exact kk)
theorem kc7_103 (C : Cx p m c cc nL s args RX7) (hdg : decode cc pc = .ok (.ldc 103, 2)) (kk : W p l e R s m args below meth c H locs cells slots Q (F0 m (pc + 2) ls (.int (iI (-1000001)) :: rest))) : W p l e R s m args below meth c H locs cells slots Q (F0 m pc ls rest) :=
  lv_ldc (v := (-1000001)) C.1 C.2.1 C.2.2.2.1 (C.2.2.2.2 (Cond.constant RX7 103 (-1000001)) (List.mem_of_getElem? (i := 205) (by decide +kernel))) hdg (by rw [show ((-1000001) : Int32) = iI (-1000001) from by decide]; exact kk)
theorem kc7_116 (C : Cx p m c cc nL s args RX7) (hdg : decode cc pc = .ok (.ldc 116, 2)) (kk : W p l e R s m args below meth c H locs cells slots Q (F0 m (pc + 2) ls (.int (iI (-1000003)) :: rest))) : W p l e R s m args below meth c H locs cells slots Q (F0 m pc ls rest) :=
  lv_ldc (v := (-1000003)) C.1 C.2.1 C.2.2.2.1 (C.2.2.2.2 (Cond.constant RX7 116 (-1000003)) (List.mem_of_getElem? (i := 206) (by decide +kernel))) hdg (by rw [show ((-1000003) : Int32) = iI (-1000003) from by decide]; exact kk)
theorem kc8_180 (C : Cx p m c cc nL s args RX8) (hdg : decode cc pc = .ok (.ldc 180, 2)) (kk : W p l e R s m args below meth c H locs cells slots Q (F0 m (pc + 2) ls (.int (iI (-1000001)) :: rest))) : W p l e R s m args below meth c H locs cells slots Q (F0 m pc ls rest) :=
  lv_ldc (v := (-1000001)) C.1 C.2.1 C.2.2.2.1 (C.2.2.2.2 (Cond.constant RX8 180 (-1000001)) (List.mem_of_getElem? (i := 411) (by decide +kernel))) hdg (by rw [show ((-1000001) : Int32) = iI (-1000001) from by decide]; exact kk)
theorem gf8_114 (C : Cx p m c cc nL s args RX8) (h : Hx D g s A H0 ws H locs) (q0 : Nat) {a : Nat} {fs : List Value} {v : Value} (he : ws[q0]? = some (a, .inr (8, fs))) (hv : fs[24]? = some v) (hdg : decode cc pc = .ok (.getfield 114, 3)) (kk : W p l e R s m args below meth c H locs cells slots Q (F0 m (pc + 3) ls (v :: rest))) : W p l e R s m args below meth c H locs cells slots Q (F0 m pc ls (.ref a :: rest)) :=
  va_get (ref := "TraceQuestionsModel") (T := TX8) (N := 40) C.1 C.2.1 C.2.2.2.2 inlX8 C.2.2.2.1 h.1.1 h.2.1 q0 he rfl 24 (by decide) (C.2.2.2.2 (Cond.fieldLink RX8 114 "TraceQuestionsModel" "fault" "I") (List.mem_of_getElem? (i := 412) (by decide +kernel))) (fun _ h9 => h9) hv hdg kk
theorem pf8_114 (C : Cx p m c cc nL s args RX8) (h : Hx D g s A H0 ws H locs) (q0 : Nat) {a : Nat} {fs : List Value} {x : Int32} (ws' : va_W) (he : ws[q0]? = some (a, .inr (8, fs))) (hw : ws.set q0 (a, .inr (8, fs.set 24 (.int x))) = ws') (hl : 24 < fs.length) (hdg : decode cc pc = .ok (.putfield 114, 3)) (kk : ∀ (H1 : Heap) (locs1 : List Loc), Hx D g s A H0 ws' H1 locs1 → W p l e R s m args below meth c H1 locs1 cells slots Q (F0 m (pc + 3) ls rest)) : W p l e R s m args below meth c H locs cells slots Q (F0 m pc ls (.int x :: .ref a :: rest)) :=
  va_put (ref := "TraceQuestionsModel") (T := TX8) (N := 40) (v := .int x) C.1 C.2.1 C.2.2.2.2 inlX8 tyX8 tyX8_ok nmX8 C.2.2.2.1 h.1.1 h.2.1 h.2.2.1 h.2.2.2.1 q0 he rfl 24 (by decide) (C.2.2.2.2 (Cond.fieldLink RX8 114 "TraceQuestionsModel" "fault" "I") (List.mem_of_getElem? (i := 412) (by decide +kernel))) (fun _ h9 => h9) rfl (tyX8_ok 24 (by decide)) rfl rfl hl hdg (fun H1 locs1 hP hD hS => kk H1 locs1 (by rw [hw] at hP hD; exact ⟨h.1, hP, hD, hS, h.2.2.2.2⟩))
theorem gf8_188 (C : Cx p m c cc nL s args RX8) (h : Hx D g s A H0 ws H locs) (q0 : Nat) {a : Nat} {fs : List Value} {v : Value} (he : ws[q0]? = some (a, .inr (8, fs))) (hv : fs[10]? = some v) (hdg : decode cc pc = .ok (.getfield 188, 3)) (kk : W p l e R s m args below meth c H locs cells slots Q (F0 m (pc + 3) ls (v :: rest))) : W p l e R s m args below meth c H locs cells slots Q (F0 m pc ls (.ref a :: rest)) :=
  va_get (ref := "TraceQuestionsModel") (T := TX8) (N := 40) C.1 C.2.1 C.2.2.2.2 inlX8 C.2.2.2.1 h.1.1 h.2.1 q0 he rfl 10 (by decide) (C.2.2.2.2 (Cond.fieldLink RX8 188 "TraceQuestionsModel" "lastCost" "J") (List.mem_of_getElem? (i := 413) (by decide +kernel))) (fun _ h9 => h9) hv hdg kk
theorem pf8_188 (C : Cx p m c cc nL s args RX8) (h : Hx D g s A H0 ws H locs) (q0 : Nat) {a : Nat} {fs : List Value} {x : Int64} (ws' : va_W) (he : ws[q0]? = some (a, .inr (8, fs))) (hw : ws.set q0 (a, .inr (8, fs.set 10 (.long x))) = ws') (hl : 10 < fs.length) (hdg : decode cc pc = .ok (.putfield 188, 3)) (kk : ∀ (H1 : Heap) (locs1 : List Loc), Hx D g s A H0 ws' H1 locs1 → W p l e R s m args below meth c H1 locs1 cells slots Q (F0 m (pc + 3) ls rest)) : W p l e R s m args below meth c H locs cells slots Q (F0 m pc ls (.long x :: .ref a :: rest)) :=
  va_put (ref := "TraceQuestionsModel") (T := TX8) (N := 40) (v := .long x) C.1 C.2.1 C.2.2.2.2 inlX8 tyX8 tyX8_ok nmX8 C.2.2.2.1 h.1.1 h.2.1 h.2.2.1 h.2.2.2.1 q0 he rfl 10 (by decide) (C.2.2.2.2 (Cond.fieldLink RX8 188 "TraceQuestionsModel" "lastCost" "J") (List.mem_of_getElem? (i := 413) (by decide +kernel))) (fun _ h9 => h9) rfl (tyX8_ok 10 (by decide)) rfl rfl hl hdg (fun H1 locs1 hP hD hS => kk H1 locs1 (by rw [hw] at hP hD; exact ⟨h.1, hP, hD, hS, h.2.2.2.2⟩))
theorem kc8_191 (C : Cx p m c cc nL s args RX8) (hdg : decode cc pc = .ok (.ldc 191, 2)) (kk : W p l e R s m args below meth c H locs cells slots Q (F0 m (pc + 2) ls (.int (iI (-1000003)) :: rest))) : W p l e R s m args below meth c H locs cells slots Q (F0 m pc ls rest) :=
  lv_ldc (v := (-1000003)) C.1 C.2.1 C.2.2.2.1 (C.2.2.2.2 (Cond.constant RX8 191 (-1000003)) (List.mem_of_getElem? (i := 414) (by decide +kernel))) hdg (by rw [show ((-1000003) : Int32) = iI (-1000003) from by decide]; exact kk)
theorem gf8_196 (C : Cx p m c cc nL s args RX8) (h : Hx D g s A H0 ws H locs) (q0 : Nat) {a : Nat} {fs : List Value} {v : Value} (he : ws[q0]? = some (a, .inr (8, fs))) (hv : fs[13]? = some v) (hdg : decode cc pc = .ok (.getfield 196, 3)) (kk : W p l e R s m args below meth c H locs cells slots Q (F0 m (pc + 3) ls (v :: rest))) : W p l e R s m args below meth c H locs cells slots Q (F0 m pc ls (.ref a :: rest)) :=
  va_get (ref := "TraceQuestionsModel") (T := TX8) (N := 40) C.1 C.2.1 C.2.2.2.2 inlX8 C.2.2.2.1 h.1.1 h.2.1 q0 he rfl 13 (by decide) (C.2.2.2.2 (Cond.fieldLink RX8 196 "TraceQuestionsModel" "answered" "Z") (List.mem_of_getElem? (i := 415) (by decide +kernel))) (fun _ h9 => h9) hv hdg kk
theorem pf8_196 (C : Cx p m c cc nL s args RX8) (h : Hx D g s A H0 ws H locs) (q0 : Nat) {a : Nat} {fs : List Value} {b : Bool} (ws' : va_W) (he : ws[q0]? = some (a, .inr (8, fs))) (hw : ws.set q0 (a, .inr (8, fs.set 13 (.int (bI b)))) = ws') (hl : 13 < fs.length) (hdg : decode cc pc = .ok (.putfield 196, 3)) (kk : ∀ (H1 : Heap) (locs1 : List Loc), Hx D g s A H0 ws' H1 locs1 → W p l e R s m args below meth c H1 locs1 cells slots Q (F0 m (pc + 3) ls rest)) : W p l e R s m args below meth c H locs cells slots Q (F0 m pc ls (.int (bI b) :: .ref a :: rest)) :=
  va_put (ref := "TraceQuestionsModel") (T := TX8) (N := 40) (v := .int (bI b)) C.1 C.2.1 C.2.2.2.2 inlX8 tyX8 tyX8_ok nmX8 C.2.2.2.1 h.1.1 h.2.1 h.2.2.1 h.2.2.2.1 q0 he rfl 13 (by decide) (C.2.2.2.2 (Cond.fieldLink RX8 196 "TraceQuestionsModel" "answered" "Z") (List.mem_of_getElem? (i := 415) (by decide +kernel))) (fun _ h9 => h9) rfl (tyX8_ok 13 (by decide)) (bI_nar b) (by cases b <;> rfl) hl hdg (fun H1 locs1 hP hD hS => kk H1 locs1 (by rw [hw] at hP hD; exact ⟨h.1, hP, hD, hS, h.2.2.2.2⟩))
theorem gf8_199 (C : Cx p m c cc nL s args RX8) (h : Hx D g s A H0 ws H locs) (q0 : Nat) {a : Nat} {fs : List Value} {v : Value} (he : ws[q0]? = some (a, .inr (8, fs))) (hv : fs[16]? = some v) (hdg : decode cc pc = .ok (.getfield 199, 3)) (kk : W p l e R s m args below meth c H locs cells slots Q (F0 m (pc + 3) ls (v :: rest))) : W p l e R s m args below meth c H locs cells slots Q (F0 m pc ls (.ref a :: rest)) :=
  va_get (ref := "TraceQuestionsModel") (T := TX8) (N := 40) C.1 C.2.1 C.2.2.2.2 inlX8 C.2.2.2.1 h.1.1 h.2.1 q0 he rfl 16 (by decide) (C.2.2.2.2 (Cond.fieldLink RX8 199 "TraceQuestionsModel" "asker" "I") (List.mem_of_getElem? (i := 416) (by decide +kernel))) (fun _ h9 => h9) hv hdg kk
theorem pf8_199 (C : Cx p m c cc nL s args RX8) (h : Hx D g s A H0 ws H locs) (q0 : Nat) {a : Nat} {fs : List Value} {x : Int32} (ws' : va_W) (he : ws[q0]? = some (a, .inr (8, fs))) (hw : ws.set q0 (a, .inr (8, fs.set 16 (.int x))) = ws') (hl : 16 < fs.length) (hdg : decode cc pc = .ok (.putfield 199, 3)) (kk : ∀ (H1 : Heap) (locs1 : List Loc), Hx D g s A H0 ws' H1 locs1 → W p l e R s m args below meth c H1 locs1 cells slots Q (F0 m (pc + 3) ls rest)) : W p l e R s m args below meth c H locs cells slots Q (F0 m pc ls (.int x :: .ref a :: rest)) :=
  va_put (ref := "TraceQuestionsModel") (T := TX8) (N := 40) (v := .int x) C.1 C.2.1 C.2.2.2.2 inlX8 tyX8 tyX8_ok nmX8 C.2.2.2.1 h.1.1 h.2.1 h.2.2.1 h.2.2.2.1 q0 he rfl 16 (by decide) (C.2.2.2.2 (Cond.fieldLink RX8 199 "TraceQuestionsModel" "asker" "I") (List.mem_of_getElem? (i := 416) (by decide +kernel))) (fun _ h9 => h9) rfl (tyX8_ok 16 (by decide)) rfl rfl hl hdg (fun H1 locs1 hP hD hS => kk H1 locs1 (by rw [hw] at hP hD; exact ⟨h.1, hP, hD, hS, h.2.2.2.2⟩))
theorem gf8_202 (C : Cx p m c cc nL s args RX8) (h : Hx D g s A H0 ws H locs) (q0 : Nat) {a : Nat} {fs : List Value} {v : Value} (he : ws[q0]? = some (a, .inr (8, fs))) (hv : fs[14]? = some v) (hdg : decode cc pc = .ok (.getfield 202, 3)) (kk : W p l e R s m args below meth c H locs cells slots Q (F0 m (pc + 3) ls (v :: rest))) : W p l e R s m args below meth c H locs cells slots Q (F0 m pc ls (.ref a :: rest)) :=
  va_get (ref := "TraceQuestionsModel") (T := TX8) (N := 40) C.1 C.2.1 C.2.2.2.2 inlX8 C.2.2.2.1 h.1.1 h.2.1 q0 he rfl 14 (by decide) (C.2.2.2.2 (Cond.fieldLink RX8 202 "TraceQuestionsModel" "askedSize" "I") (List.mem_of_getElem? (i := 417) (by decide +kernel))) (fun _ h9 => h9) hv hdg kk
theorem pf8_202 (C : Cx p m c cc nL s args RX8) (h : Hx D g s A H0 ws H locs) (q0 : Nat) {a : Nat} {fs : List Value} {x : Int32} (ws' : va_W) (he : ws[q0]? = some (a, .inr (8, fs))) (hw : ws.set q0 (a, .inr (8, fs.set 14 (.int x))) = ws') (hl : 14 < fs.length) (hdg : decode cc pc = .ok (.putfield 202, 3)) (kk : ∀ (H1 : Heap) (locs1 : List Loc), Hx D g s A H0 ws' H1 locs1 → W p l e R s m args below meth c H1 locs1 cells slots Q (F0 m (pc + 3) ls rest)) : W p l e R s m args below meth c H locs cells slots Q (F0 m pc ls (.int x :: .ref a :: rest)) :=
  va_put (ref := "TraceQuestionsModel") (T := TX8) (N := 40) (v := .int x) C.1 C.2.1 C.2.2.2.2 inlX8 tyX8 tyX8_ok nmX8 C.2.2.2.1 h.1.1 h.2.1 h.2.2.1 h.2.2.2.1 q0 he rfl 14 (by decide) (C.2.2.2.2 (Cond.fieldLink RX8 202 "TraceQuestionsModel" "askedSize" "I") (List.mem_of_getElem? (i := 417) (by decide +kernel))) (fun _ h9 => h9) rfl (tyX8_ok 14 (by decide)) rfl rfl hl hdg (fun H1 locs1 hP hD hS => kk H1 locs1 (by rw [hw] at hP hD; exact ⟨h.1, hP, hD, hS, h.2.2.2.2⟩))
theorem gf8_158 (C : Cx p m c cc nL s args RX8) (h : Hx D g s A H0 ws H locs) (q0 : Nat) {a : Nat} {fs : List Value} {v : Value} (he : ws[q0]? = some (a, .inr (8, fs))) (hv : fs[35]? = some v) (hdg : decode cc pc = .ok (.getfield 158, 3)) (kk : W p l e R s m args below meth c H locs cells slots Q (F0 m (pc + 3) ls (v :: rest))) : W p l e R s m args below meth c H locs cells slots Q (F0 m pc ls (.ref a :: rest)) :=
  va_get (ref := "TraceQuestionsModel") (T := TX8) (N := 40) C.1 C.2.1 C.2.2.2.2 inlX8 C.2.2.2.1 h.1.1 h.2.1 q0 he rfl 35 (by decide) (C.2.2.2.2 (Cond.fieldLink RX8 158 "TraceQuestionsModel" "got" "I") (List.mem_of_getElem? (i := 418) (by decide +kernel))) (fun _ h9 => h9) hv hdg kk
theorem pf8_158 (C : Cx p m c cc nL s args RX8) (h : Hx D g s A H0 ws H locs) (q0 : Nat) {a : Nat} {fs : List Value} {x : Int32} (ws' : va_W) (he : ws[q0]? = some (a, .inr (8, fs))) (hw : ws.set q0 (a, .inr (8, fs.set 35 (.int x))) = ws') (hl : 35 < fs.length) (hdg : decode cc pc = .ok (.putfield 158, 3)) (kk : ∀ (H1 : Heap) (locs1 : List Loc), Hx D g s A H0 ws' H1 locs1 → W p l e R s m args below meth c H1 locs1 cells slots Q (F0 m (pc + 3) ls rest)) : W p l e R s m args below meth c H locs cells slots Q (F0 m pc ls (.int x :: .ref a :: rest)) :=
  va_put (ref := "TraceQuestionsModel") (T := TX8) (N := 40) (v := .int x) C.1 C.2.1 C.2.2.2.2 inlX8 tyX8 tyX8_ok nmX8 C.2.2.2.1 h.1.1 h.2.1 h.2.2.1 h.2.2.2.1 q0 he rfl 35 (by decide) (C.2.2.2.2 (Cond.fieldLink RX8 158 "TraceQuestionsModel" "got" "I") (List.mem_of_getElem? (i := 418) (by decide +kernel))) (fun _ h9 => h9) rfl (tyX8_ok 35 (by decide)) rfl rfl hl hdg (fun H1 locs1 hP hD hS => kk H1 locs1 (by rw [hw] at hP hD; exact ⟨h.1, hP, hD, hS, h.2.2.2.2⟩))
theorem gf8_205 (C : Cx p m c cc nL s args RX8) (h : Hx D g s A H0 ws H locs) (q0 : Nat) {a : Nat} {fs : List Value} {v : Value} (he : ws[q0]? = some (a, .inr (8, fs))) (hv : fs[31]? = some v) (hdg : decode cc pc = .ok (.getfield 205, 3)) (kk : W p l e R s m args below meth c H locs cells slots Q (F0 m (pc + 3) ls (v :: rest))) : W p l e R s m args below meth c H locs cells slots Q (F0 m pc ls (.ref a :: rest)) :=
  va_get (ref := "TraceQuestionsModel") (T := TX8) (N := 40) C.1 C.2.1 C.2.2.2.2 inlX8 C.2.2.2.1 h.1.1 h.2.1 q0 he rfl 31 (by decide) (C.2.2.2.2 (Cond.fieldLink RX8 205 "TraceQuestionsModel" "count" "I") (List.mem_of_getElem? (i := 419) (by decide +kernel))) (fun _ h9 => h9) hv hdg kk
theorem pf8_205 (C : Cx p m c cc nL s args RX8) (h : Hx D g s A H0 ws H locs) (q0 : Nat) {a : Nat} {fs : List Value} {x : Int32} (ws' : va_W) (he : ws[q0]? = some (a, .inr (8, fs))) (hw : ws.set q0 (a, .inr (8, fs.set 31 (.int x))) = ws') (hl : 31 < fs.length) (hdg : decode cc pc = .ok (.putfield 205, 3)) (kk : ∀ (H1 : Heap) (locs1 : List Loc), Hx D g s A H0 ws' H1 locs1 → W p l e R s m args below meth c H1 locs1 cells slots Q (F0 m (pc + 3) ls rest)) : W p l e R s m args below meth c H locs cells slots Q (F0 m pc ls (.int x :: .ref a :: rest)) :=
  va_put (ref := "TraceQuestionsModel") (T := TX8) (N := 40) (v := .int x) C.1 C.2.1 C.2.2.2.2 inlX8 tyX8 tyX8_ok nmX8 C.2.2.2.1 h.1.1 h.2.1 h.2.2.1 h.2.2.2.1 q0 he rfl 31 (by decide) (C.2.2.2.2 (Cond.fieldLink RX8 205 "TraceQuestionsModel" "count" "I") (List.mem_of_getElem? (i := 419) (by decide +kernel))) (fun _ h9 => h9) rfl (tyX8_ok 31 (by decide)) rfl rfl hl hdg (fun H1 locs1 hP hD hS => kk H1 locs1 (by rw [hw] at hP hD; exact ⟨h.1, hP, hD, hS, h.2.2.2.2⟩))
theorem gf8_161 (C : Cx p m c cc nL s args RX8) (h : Hx D g s A H0 ws H locs) (q0 : Nat) {a : Nat} {fs : List Value} {v : Value} (he : ws[q0]? = some (a, .inr (8, fs))) (hv : fs[36]? = some v) (hdg : decode cc pc = .ok (.getfield 161, 3)) (kk : W p l e R s m args below meth c H locs cells slots Q (F0 m (pc + 3) ls (v :: rest))) : W p l e R s m args below meth c H locs cells slots Q (F0 m pc ls (.ref a :: rest)) :=
  va_get (ref := "TraceQuestionsModel") (T := TX8) (N := 40) C.1 C.2.1 C.2.2.2.2 inlX8 C.2.2.2.1 h.1.1 h.2.1 q0 he rfl 36 (by decide) (C.2.2.2.2 (Cond.fieldLink RX8 161 "TraceQuestionsModel" "gotGroups" "Z") (List.mem_of_getElem? (i := 420) (by decide +kernel))) (fun _ h9 => h9) hv hdg kk
theorem pf8_161 (C : Cx p m c cc nL s args RX8) (h : Hx D g s A H0 ws H locs) (q0 : Nat) {a : Nat} {fs : List Value} {b : Bool} (ws' : va_W) (he : ws[q0]? = some (a, .inr (8, fs))) (hw : ws.set q0 (a, .inr (8, fs.set 36 (.int (bI b)))) = ws') (hl : 36 < fs.length) (hdg : decode cc pc = .ok (.putfield 161, 3)) (kk : ∀ (H1 : Heap) (locs1 : List Loc), Hx D g s A H0 ws' H1 locs1 → W p l e R s m args below meth c H1 locs1 cells slots Q (F0 m (pc + 3) ls rest)) : W p l e R s m args below meth c H locs cells slots Q (F0 m pc ls (.int (bI b) :: .ref a :: rest)) :=
  va_put (ref := "TraceQuestionsModel") (T := TX8) (N := 40) (v := .int (bI b)) C.1 C.2.1 C.2.2.2.2 inlX8 tyX8 tyX8_ok nmX8 C.2.2.2.1 h.1.1 h.2.1 h.2.2.1 h.2.2.2.1 q0 he rfl 36 (by decide) (C.2.2.2.2 (Cond.fieldLink RX8 161 "TraceQuestionsModel" "gotGroups" "Z") (List.mem_of_getElem? (i := 420) (by decide +kernel))) (fun _ h9 => h9) rfl (tyX8_ok 36 (by decide)) (bI_nar b) (by cases b <;> rfl) hl hdg (fun H1 locs1 hP hD hS => kk H1 locs1 (by rw [hw] at hP hD; exact ⟨h.1, hP, hD, hS, h.2.2.2.2⟩))
theorem gf8_208 (C : Cx p m c cc nL s args RX8) (h : Hx D g s A H0 ws H locs) (q0 : Nat) {a : Nat} {fs : List Value} {v : Value} (he : ws[q0]? = some (a, .inr (8, fs))) (hv : fs[32]? = some v) (hdg : decode cc pc = .ok (.getfield 208, 3)) (kk : W p l e R s m args below meth c H locs cells slots Q (F0 m (pc + 3) ls (v :: rest))) : W p l e R s m args below meth c H locs cells slots Q (F0 m pc ls (.ref a :: rest)) :=
  va_get (ref := "TraceQuestionsModel") (T := TX8) (N := 40) C.1 C.2.1 C.2.2.2.2 inlX8 C.2.2.2.1 h.1.1 h.2.1 q0 he rfl 32 (by decide) (C.2.2.2.2 (Cond.fieldLink RX8 208 "TraceQuestionsModel" "groups" "Z") (List.mem_of_getElem? (i := 421) (by decide +kernel))) (fun _ h9 => h9) hv hdg kk
theorem pf8_208 (C : Cx p m c cc nL s args RX8) (h : Hx D g s A H0 ws H locs) (q0 : Nat) {a : Nat} {fs : List Value} {b : Bool} (ws' : va_W) (he : ws[q0]? = some (a, .inr (8, fs))) (hw : ws.set q0 (a, .inr (8, fs.set 32 (.int (bI b)))) = ws') (hl : 32 < fs.length) (hdg : decode cc pc = .ok (.putfield 208, 3)) (kk : ∀ (H1 : Heap) (locs1 : List Loc), Hx D g s A H0 ws' H1 locs1 → W p l e R s m args below meth c H1 locs1 cells slots Q (F0 m (pc + 3) ls rest)) : W p l e R s m args below meth c H locs cells slots Q (F0 m pc ls (.int (bI b) :: .ref a :: rest)) :=
  va_put (ref := "TraceQuestionsModel") (T := TX8) (N := 40) (v := .int (bI b)) C.1 C.2.1 C.2.2.2.2 inlX8 tyX8 tyX8_ok nmX8 C.2.2.2.1 h.1.1 h.2.1 h.2.2.1 h.2.2.2.1 q0 he rfl 32 (by decide) (C.2.2.2.2 (Cond.fieldLink RX8 208 "TraceQuestionsModel" "groups" "Z") (List.mem_of_getElem? (i := 421) (by decide +kernel))) (fun _ h9 => h9) rfl (tyX8_ok 32 (by decide)) (bI_nar b) (by cases b <;> rfl) hl hdg (fun H1 locs1 hP hD hS => kk H1 locs1 (by rw [hw] at hP hD; exact ⟨h.1, hP, hD, hS, h.2.2.2.2⟩))
theorem gf8_117 (C : Cx p m c cc nL s args RX8) (h : Hx D g s A H0 ws H locs) (q0 : Nat) {a : Nat} {fs : List Value} {v : Value} (he : ws[q0]? = some (a, .inr (8, fs))) (hv : fs[25]? = some v) (hdg : decode cc pc = .ok (.getfield 117, 3)) (kk : W p l e R s m args below meth c H locs cells slots Q (F0 m (pc + 3) ls (v :: rest))) : W p l e R s m args below meth c H locs cells slots Q (F0 m pc ls (.ref a :: rest)) :=
  va_get (ref := "TraceQuestionsModel") (T := TX8) (N := 40) C.1 C.2.1 C.2.2.2.2 inlX8 C.2.2.2.1 h.1.1 h.2.1 q0 he rfl 25 (by decide) (C.2.2.2.2 (Cond.fieldLink RX8 117 "TraceQuestionsModel" "tests" "I") (List.mem_of_getElem? (i := 429) (by decide +kernel))) (fun _ h9 => h9) hv hdg kk
theorem pf8_117 (C : Cx p m c cc nL s args RX8) (h : Hx D g s A H0 ws H locs) (q0 : Nat) {a : Nat} {fs : List Value} {x : Int32} (ws' : va_W) (he : ws[q0]? = some (a, .inr (8, fs))) (hw : ws.set q0 (a, .inr (8, fs.set 25 (.int x))) = ws') (hl : 25 < fs.length) (hdg : decode cc pc = .ok (.putfield 117, 3)) (kk : ∀ (H1 : Heap) (locs1 : List Loc), Hx D g s A H0 ws' H1 locs1 → W p l e R s m args below meth c H1 locs1 cells slots Q (F0 m (pc + 3) ls rest)) : W p l e R s m args below meth c H locs cells slots Q (F0 m pc ls (.int x :: .ref a :: rest)) :=
  va_put (ref := "TraceQuestionsModel") (T := TX8) (N := 40) (v := .int x) C.1 C.2.1 C.2.2.2.2 inlX8 tyX8 tyX8_ok nmX8 C.2.2.2.1 h.1.1 h.2.1 h.2.2.1 h.2.2.2.1 q0 he rfl 25 (by decide) (C.2.2.2.2 (Cond.fieldLink RX8 117 "TraceQuestionsModel" "tests" "I") (List.mem_of_getElem? (i := 429) (by decide +kernel))) (fun _ h9 => h9) rfl (tyX8_ok 25 (by decide)) rfl rfl hl hdg (fun H1 locs1 hP hD hS => kk H1 locs1 (by rw [hw] at hP hD; exact ⟨h.1, hP, hD, hS, h.2.2.2.2⟩))
theorem gf8_111 (C : Cx p m c cc nL s args RX8) (h : Hx D g s A H0 ws H locs) (q0 : Nat) {a : Nat} {fs : List Value} {v : Value} (he : ws[q0]? = some (a, .inr (8, fs))) (hv : fs[27]? = some v) (hdg : decode cc pc = .ok (.getfield 111, 3)) (kk : W p l e R s m args below meth c H locs cells slots Q (F0 m (pc + 3) ls (v :: rest))) : W p l e R s m args below meth c H locs cells slots Q (F0 m pc ls (.ref a :: rest)) :=
  va_get (ref := "TraceQuestionsModel") (T := TX8) (N := 40) C.1 C.2.1 C.2.2.2.2 inlX8 C.2.2.2.1 h.1.1 h.2.1 q0 he rfl 27 (by decide) (C.2.2.2.2 (Cond.fieldLink RX8 111 "TraceQuestionsModel" "level" "I") (List.mem_of_getElem? (i := 430) (by decide +kernel))) (fun _ h9 => h9) hv hdg kk
theorem pf8_111 (C : Cx p m c cc nL s args RX8) (h : Hx D g s A H0 ws H locs) (q0 : Nat) {a : Nat} {fs : List Value} {x : Int32} (ws' : va_W) (he : ws[q0]? = some (a, .inr (8, fs))) (hw : ws.set q0 (a, .inr (8, fs.set 27 (.int x))) = ws') (hl : 27 < fs.length) (hdg : decode cc pc = .ok (.putfield 111, 3)) (kk : ∀ (H1 : Heap) (locs1 : List Loc), Hx D g s A H0 ws' H1 locs1 → W p l e R s m args below meth c H1 locs1 cells slots Q (F0 m (pc + 3) ls rest)) : W p l e R s m args below meth c H locs cells slots Q (F0 m pc ls (.int x :: .ref a :: rest)) :=
  va_put (ref := "TraceQuestionsModel") (T := TX8) (N := 40) (v := .int x) C.1 C.2.1 C.2.2.2.2 inlX8 tyX8 tyX8_ok nmX8 C.2.2.2.1 h.1.1 h.2.1 h.2.2.1 h.2.2.2.1 q0 he rfl 27 (by decide) (C.2.2.2.2 (Cond.fieldLink RX8 111 "TraceQuestionsModel" "level" "I") (List.mem_of_getElem? (i := 430) (by decide +kernel))) (fun _ h9 => h9) rfl (tyX8_ok 27 (by decide)) rfl rfl hl hdg (fun H1 locs1 hP hD hS => kk H1 locs1 (by rw [hw] at hP hD; exact ⟨h.1, hP, hD, hS, h.2.2.2.2⟩))
theorem kl8_132 (C : Cx p m c cc nL s args RX8) (hdg : decode cc pc = .ok (.ldc2_w 132, 3)) (kk : W p l e R s m args below meth c H locs cells slots Q (F0 m (pc + 3) ls (.long (lI (48)) :: rest))) : W p l e R s m args below meth c H locs cells slots Q (F0 m pc ls rest) :=
  lv_ldc2 (v := (48)) C.1 C.2.1 C.2.2.2.1 (C.2.2.2.2 (Cond.constantLong RX8 132 (48)) (List.mem_of_getElem? (i := 431) (by decide +kernel))) hdg (by rw [show ((48) : Int64) = lI (48) from by decide]; exact kk)
theorem kl8_134 (C : Cx p m c cc nL s args RX8) (hdg : decode cc pc = .ok (.ldc2_w 134, 3)) (kk : W p l e R s m args below meth c H locs cells slots Q (F0 m (pc + 3) ls (.long (lI (57)) :: rest))) : W p l e R s m args below meth c H locs cells slots Q (F0 m pc ls rest) :=
  lv_ldc2 (v := (57)) C.1 C.2.1 C.2.2.2.1 (C.2.2.2.2 (Cond.constantLong RX8 134 (57)) (List.mem_of_getElem? (i := 432) (by decide +kernel))) hdg (by rw [show ((57) : Int64) = lI (57) from by decide]; exact kk)
theorem gf8_140 (C : Cx p m c cc nL s args RX8) (h : Hx D g s A H0 ws H locs) (q0 : Nat) {a : Nat} {fs : List Value} {v : Value} (he : ws[q0]? = some (a, .inr (8, fs))) (hv : fs[26]? = some v) (hdg : decode cc pc = .ok (.getfield 140, 3)) (kk : W p l e R s m args below meth c H locs cells slots Q (F0 m (pc + 3) ls (v :: rest))) : W p l e R s m args below meth c H locs cells slots Q (F0 m pc ls (.ref a :: rest)) :=
  va_get (ref := "TraceQuestionsModel") (T := TX8) (N := 40) C.1 C.2.1 C.2.2.2.2 inlX8 C.2.2.2.1 h.1.1 h.2.1 q0 he rfl 26 (by decide) (C.2.2.2.2 (Cond.fieldLink RX8 140 "TraceQuestionsModel" "tail" "I") (List.mem_of_getElem? (i := 433) (by decide +kernel))) (fun _ h9 => h9) hv hdg kk
theorem pf8_140 (C : Cx p m c cc nL s args RX8) (h : Hx D g s A H0 ws H locs) (q0 : Nat) {a : Nat} {fs : List Value} {x : Int32} (ws' : va_W) (he : ws[q0]? = some (a, .inr (8, fs))) (hw : ws.set q0 (a, .inr (8, fs.set 26 (.int x))) = ws') (hl : 26 < fs.length) (hdg : decode cc pc = .ok (.putfield 140, 3)) (kk : ∀ (H1 : Heap) (locs1 : List Loc), Hx D g s A H0 ws' H1 locs1 → W p l e R s m args below meth c H1 locs1 cells slots Q (F0 m (pc + 3) ls rest)) : W p l e R s m args below meth c H locs cells slots Q (F0 m pc ls (.int x :: .ref a :: rest)) :=
  va_put (ref := "TraceQuestionsModel") (T := TX8) (N := 40) (v := .int x) C.1 C.2.1 C.2.2.2.2 inlX8 tyX8 tyX8_ok nmX8 C.2.2.2.1 h.1.1 h.2.1 h.2.2.1 h.2.2.2.1 q0 he rfl 26 (by decide) (C.2.2.2.2 (Cond.fieldLink RX8 140 "TraceQuestionsModel" "tail" "I") (List.mem_of_getElem? (i := 433) (by decide +kernel))) (fun _ h9 => h9) rfl (tyX8_ok 26 (by decide)) rfl rfl hl hdg (fun H1 locs1 hP hD hS => kk H1 locs1 (by rw [hw] at hP hD; exact ⟨h.1, hP, hD, hS, h.2.2.2.2⟩))
theorem gf8_155 (C : Cx p m c cc nL s args RX8) (h : Hx D g s A H0 ws H locs) (q0 : Nat) {a : Nat} {fs : List Value} {v : Value} (he : ws[q0]? = some (a, .inr (8, fs))) (hv : fs[3]? = some v) (hdg : decode cc pc = .ok (.getfield 155, 3)) (kk : W p l e R s m args below meth c H locs cells slots Q (F0 m (pc + 3) ls (v :: rest))) : W p l e R s m args below meth c H locs cells slots Q (F0 m pc ls (.ref a :: rest)) :=
  va_get (ref := "TraceQuestionsModel") (T := TX8) (N := 40) C.1 C.2.1 C.2.2.2.2 inlX8 C.2.2.2.1 h.1.1 h.2.1 q0 he rfl 3 (by decide) (C.2.2.2.2 (Cond.fieldLink RX8 155 "TraceQuestionsModel" "rights" "I") (List.mem_of_getElem? (i := 463) (by decide +kernel))) (fun _ h9 => h9) hv hdg kk
theorem pf8_155 (C : Cx p m c cc nL s args RX8) (h : Hx D g s A H0 ws H locs) (q0 : Nat) {a : Nat} {fs : List Value} {x : Int32} (ws' : va_W) (he : ws[q0]? = some (a, .inr (8, fs))) (hw : ws.set q0 (a, .inr (8, fs.set 3 (.int x))) = ws') (hl : 3 < fs.length) (hdg : decode cc pc = .ok (.putfield 155, 3)) (kk : ∀ (H1 : Heap) (locs1 : List Loc), Hx D g s A H0 ws' H1 locs1 → W p l e R s m args below meth c H1 locs1 cells slots Q (F0 m (pc + 3) ls rest)) : W p l e R s m args below meth c H locs cells slots Q (F0 m pc ls (.int x :: .ref a :: rest)) :=
  va_put (ref := "TraceQuestionsModel") (T := TX8) (N := 40) (v := .int x) C.1 C.2.1 C.2.2.2.2 inlX8 tyX8 tyX8_ok nmX8 C.2.2.2.1 h.1.1 h.2.1 h.2.2.1 h.2.2.2.1 q0 he rfl 3 (by decide) (C.2.2.2.2 (Cond.fieldLink RX8 155 "TraceQuestionsModel" "rights" "I") (List.mem_of_getElem? (i := 463) (by decide +kernel))) (fun _ h9 => h9) rfl (tyX8_ok 3 (by decide)) rfl rfl hl hdg (fun H1 locs1 hP hD hS => kk H1 locs1 (by rw [hw] at hP hD; exact ⟨h.1, hP, hD, hS, h.2.2.2.2⟩))
theorem kl7_126 (C : Cx p m c cc nL s args RX7) (hdg : decode cc pc = .ok (.ldc2_w 126, 3)) (kk : W p l e R s m args below meth c H locs cells slots Q (F0 m (pc + 3) ls (.long (lI (-1)) :: rest))) : W p l e R s m args below meth c H locs cells slots Q (F0 m pc ls rest) :=
  lv_ldc2 (v := (-1)) C.1 C.2.1 C.2.2.2.1 (C.2.2.2.2 (Cond.constantLong RX7 126 (-1)) (List.mem_of_getElem? (i := 484) (by decide +kernel))) hdg (by rw [show ((-1) : Int64) = lI (-1) from by decide]; exact kk)
theorem kl8_211 (C : Cx p m c cc nL s args RX8) (hdg : decode cc pc = .ok (.ldc2_w 211, 3)) (kk : W p l e R s m args below meth c H locs cells slots Q (F0 m (pc + 3) ls (.long (lI (5)) :: rest))) : W p l e R s m args below meth c H locs cells slots Q (F0 m pc ls rest) :=
  lv_ldc2 (v := (5)) C.1 C.2.1 C.2.2.2.1 (C.2.2.2.2 (Cond.constantLong RX8 211 (5)) (List.mem_of_getElem? (i := 501) (by decide +kernel))) hdg (by rw [show ((5) : Int64) = lI (5) from by decide]; exact kk)
theorem kl8_213 (C : Cx p m c cc nL s args RX8) (hdg : decode cc pc = .ok (.ldc2_w 213, 3)) (kk : W p l e R s m args below meth c H locs cells slots Q (F0 m (pc + 3) ls (.long (lI (-1)) :: rest))) : W p l e R s m args below meth c H locs cells slots Q (F0 m pc ls rest) :=
  lv_ldc2 (v := (-1)) C.1 C.2.1 C.2.2.2.1 (C.2.2.2.2 (Cond.constantLong RX8 213 (-1)) (List.mem_of_getElem? (i := 502) (by decide +kernel))) hdg (by rw [show ((-1) : Int64) = lI (-1) from by decide]; exact kk)
theorem kl7_145 (C : Cx p m c cc nL s args RX7) (hdg : decode cc pc = .ok (.ldc2_w 145, 3)) (kk : W p l e R s m args below meth c H locs cells slots Q (F0 m (pc + 3) ls (.long (lI (10)) :: rest))) : W p l e R s m args below meth c H locs cells slots Q (F0 m pc ls rest) :=
  lv_ldc2 (v := (10)) C.1 C.2.1 C.2.2.2.1 (C.2.2.2.2 (Cond.constantLong RX7 145 (10)) (List.mem_of_getElem? (i := 507) (by decide +kernel))) hdg (by rw [show ((10) : Int64) = lI (10) from by decide]; exact kk)
theorem kl8_215 (C : Cx p m c cc nL s args RX8) (hdg : decode cc pc = .ok (.ldc2_w 215, 3)) (kk : W p l e R s m args below meth c H locs cells slots Q (F0 m (pc + 3) ls (.long (lI (9)) :: rest))) : W p l e R s m args below meth c H locs cells slots Q (F0 m pc ls rest) :=
  lv_ldc2 (v := (9)) C.1 C.2.1 C.2.2.2.1 (C.2.2.2.2 (Cond.constantLong RX8 215 (9)) (List.mem_of_getElem? (i := 512) (by decide +kernel))) hdg (by rw [show ((9) : Int64) = lI (9) from by decide]; exact kk)
theorem kl8_217 (C : Cx p m c cc nL s args RX8) (hdg : decode cc pc = .ok (.ldc2_w 217, 3)) (kk : W p l e R s m args below meth c H locs cells slots Q (F0 m (pc + 3) ls (.long (lI (10)) :: rest))) : W p l e R s m args below meth c H locs cells slots Q (F0 m pc ls rest) :=
  lv_ldc2 (v := (10)) C.1 C.2.1 C.2.2.2.1 (C.2.2.2.2 (Cond.constantLong RX8 217 (10)) (List.mem_of_getElem? (i := 513) (by decide +kernel))) hdg (by rw [show ((10) : Int64) = lI (10) from by decide]; exact kk)
theorem kl8_219 (C : Cx p m c cc nL s args RX8) (hdg : decode cc pc = .ok (.ldc2_w 219, 3)) (kk : W p l e R s m args below meth c H locs cells slots Q (F0 m (pc + 3) ls (.long (lI (4)) :: rest))) : W p l e R s m args below meth c H locs cells slots Q (F0 m pc ls rest) :=
  lv_ldc2 (v := (4)) C.1 C.2.1 C.2.2.2.1 (C.2.2.2.2 (Cond.constantLong RX8 219 (4)) (List.mem_of_getElem? (i := 546) (by decide +kernel))) hdg (by rw [show ((4) : Int64) = lI (4) from by decide]; exact kk)
theorem kl7_158 (C : Cx p m c cc nL s args RX7) (hdg : decode cc pc = .ok (.ldc2_w 158, 3)) (kk : W p l e R s m args below meth c H locs cells slots Q (F0 m (pc + 3) ls (.long (lI (1000000)) :: rest))) : W p l e R s m args below meth c H locs cells slots Q (F0 m pc ls rest) :=
  lv_ldc2 (v := (1000000)) C.1 C.2.1 C.2.2.2.1 (C.2.2.2.2 (Cond.constantLong RX7 158 (1000000)) (List.mem_of_getElem? (i := 559) (by decide +kernel))) hdg (by rw [show ((1000000) : Int64) = lI (1000000) from by decide]; exact kk)
theorem kl8_221 (C : Cx p m c cc nL s args RX8) (hdg : decode cc pc = .ok (.ldc2_w 221, 3)) (kk : W p l e R s m args below meth c H locs cells slots Q (F0 m (pc + 3) ls (.long (lI (1000000)) :: rest))) : W p l e R s m args below meth c H locs cells slots Q (F0 m pc ls rest) :=
  lv_ldc2 (v := (1000000)) C.1 C.2.1 C.2.2.2.1 (C.2.2.2.2 (Cond.constantLong RX8 221 (1000000)) (List.mem_of_getElem? (i := 564) (by decide +kernel))) hdg (by rw [show ((1000000) : Int64) = lI (1000000) from by decide]; exact kk)
theorem kl7_160 (C : Cx p m c cc nL s args RX7) (hdg : decode cc pc = .ok (.ldc2_w 160, 3)) (kk : W p l e R s m args below meth c H locs cells slots Q (F0 m (pc + 3) ls (.long (lI (1000)) :: rest))) : W p l e R s m args below meth c H locs cells slots Q (F0 m pc ls rest) :=
  lv_ldc2 (v := (1000)) C.1 C.2.1 C.2.2.2.1 (C.2.2.2.2 (Cond.constantLong RX7 160 (1000)) (List.mem_of_getElem? (i := 569) (by decide +kernel))) hdg (by rw [show ((1000) : Int64) = lI (1000) from by decide]; exact kk)
theorem gf2_9 (C : Cx p m c cc nL s args RX2) (h : Hx D g s A H0 ws H locs) (q0 : Nat) {a : Nat} {fs : List Value} {v : Value} (he : ws[q0]? = some (a, .inr (2, fs))) (hv : fs[3]? = some v) (hdg : decode cc pc = .ok (.getfield 9, 3)) (kk : W p l e R s m args below meth c H locs cells slots Q (F0 m (pc + 3) ls (v :: rest))) : W p l e R s m args below meth c H locs cells slots Q (F0 m pc ls (.ref a :: rest)) :=
  va_get (ref := "TraceQuestions$Kept") (T := TX2) (N := 4) C.1 C.2.1 C.2.2.2.2 inlX2 C.2.2.2.1 h.1.1 h.2.1 q0 he rfl 3 (by decide) (C.2.2.2.2 (Cond.fieldLink RX2 9 "TraceQuestions$Kept" "latestCount" "I") (List.mem_of_getElem? (i := 576) (by decide +kernel))) (fun _ h9 => h9) hv hdg kk
theorem pf2_9 (C : Cx p m c cc nL s args RX2) (h : Hx D g s A H0 ws H locs) (q0 : Nat) {a : Nat} {fs : List Value} {x : Int32} (ws' : va_W) (he : ws[q0]? = some (a, .inr (2, fs))) (hw : ws.set q0 (a, .inr (2, fs.set 3 (.int x))) = ws') (hl : 3 < fs.length) (hdg : decode cc pc = .ok (.putfield 9, 3)) (kk : ∀ (H1 : Heap) (locs1 : List Loc), Hx D g s A H0 ws' H1 locs1 → W p l e R s m args below meth c H1 locs1 cells slots Q (F0 m (pc + 3) ls rest)) : W p l e R s m args below meth c H locs cells slots Q (F0 m pc ls (.int x :: .ref a :: rest)) :=
  va_put (ref := "TraceQuestions$Kept") (T := TX2) (N := 4) (v := .int x) C.1 C.2.1 C.2.2.2.2 inlX2 tyX2 tyX2_ok nmX2 C.2.2.2.1 h.1.1 h.2.1 h.2.2.1 h.2.2.2.1 q0 he rfl 3 (by decide) (C.2.2.2.2 (Cond.fieldLink RX2 9 "TraceQuestions$Kept" "latestCount" "I") (List.mem_of_getElem? (i := 576) (by decide +kernel))) (fun _ h9 => h9) rfl (tyX2_ok 3 (by decide)) rfl rfl hl hdg (fun H1 locs1 hP hD hS => kk H1 locs1 (by rw [hw] at hP hD; exact ⟨h.1, hP, hD, hS, h.2.2.2.2⟩))
theorem gf2_15 (C : Cx p m c cc nL s args RX2) (h : Hx D g s A H0 ws H locs) (q0 : Nat) {a : Nat} {fs : List Value} {v : Value} (he : ws[q0]? = some (a, .inr (2, fs))) (hv : fs[0]? = some v) (hdg : decode cc pc = .ok (.getfield 15, 3)) (kk : W p l e R s m args below meth c H locs cells slots Q (F0 m (pc + 3) ls (v :: rest))) : W p l e R s m args below meth c H locs cells slots Q (F0 m pc ls (.ref a :: rest)) :=
  va_get (ref := "TraceQuestions$Kept") (T := TX2) (N := 4) C.1 C.2.1 C.2.2.2.2 inlX2 C.2.2.2.1 h.1.1 h.2.1 q0 he rfl 0 (by decide) (C.2.2.2.2 (Cond.fieldLink RX2 15 "TraceQuestions$Kept" "question" "LTraceQuestions$Question;") (List.mem_of_getElem? (i := 577) (by decide +kernel))) (fun _ h9 => h9) hv hdg kk
theorem pf2_15 (C : Cx p m c cc nL s args RX2) (h : Hx D g s A H0 ws H locs) (q0 : Nat) {a : Nat} {fs : List Value} {x : Nat} (ws' : va_W) (he : ws[q0]? = some (a, .inr (2, fs))) (hw : ws.set q0 (a, .inr (2, fs.set 0 (.ref x))) = ws') (hl : 0 < fs.length) (hin : meth.name = "<init>") (hdg : decode cc pc = .ok (.putfield 15, 3)) (kk : ∀ (H1 : Heap) (locs1 : List Loc), Hx D g s A H0 ws' H1 locs1 → W p l e R s m args below meth c H1 locs1 cells slots Q (F0 m (pc + 3) ls rest)) : W p l e R s m args below meth c H locs cells slots Q (F0 m pc ls (.ref x :: .ref a :: rest)) :=
  va_putF (ref := "TraceQuestions$Kept") (T := TX2) (N := 4) (v := .ref x) C.1 C.2.1 C.2.2.2.2 inlX2 tyX2 tyX2_ok nmX2 C.2.2.2.1 h.1.1 h.2.1 h.2.2.1 h.2.2.2.1 q0 he rfl 0 (by decide) (C.2.2.2.2 (Cond.fieldLink RX2 15 "TraceQuestions$Kept" "question" "LTraceQuestions$Question;") (List.mem_of_getElem? (i := 577) (by decide +kernel))) (fun _ h9 => h9) rfl hin rfl (tyX2_ok 0 (by decide)) rfl rfl hl hdg (fun H1 locs1 hP hD hS => kk H1 locs1 (by rw [hw] at hP hD; exact ⟨h.1, hP, hD, hS, h.2.2.2.2⟩))
theorem gf2_19 (C : Cx p m c cc nL s args RX2) (h : Hx D g s A H0 ws H locs) (q0 : Nat) {a : Nat} {fs : List Value} {v : Value} (he : ws[q0]? = some (a, .inr (2, fs))) (hv : fs[1]? = some v) (hdg : decode cc pc = .ok (.getfield 19, 3)) (kk : W p l e R s m args below meth c H locs cells slots Q (F0 m (pc + 3) ls (v :: rest))) : W p l e R s m args below meth c H locs cells slots Q (F0 m pc ls (.ref a :: rest)) :=
  va_get (ref := "TraceQuestions$Kept") (T := TX2) (N := 4) C.1 C.2.1 C.2.2.2.2 inlX2 C.2.2.2.1 h.1.1 h.2.1 q0 he rfl 1 (by decide) (C.2.2.2.2 (Cond.fieldLink RX2 19 "TraceQuestions$Kept" "every" "J") (List.mem_of_getElem? (i := 578) (by decide +kernel))) (fun _ h9 => h9) hv hdg kk
theorem pf2_19 (C : Cx p m c cc nL s args RX2) (h : Hx D g s A H0 ws H locs) (q0 : Nat) {a : Nat} {fs : List Value} {x : Int64} (ws' : va_W) (he : ws[q0]? = some (a, .inr (2, fs))) (hw : ws.set q0 (a, .inr (2, fs.set 1 (.long x))) = ws') (hl : 1 < fs.length) (hin : meth.name = "<init>") (hdg : decode cc pc = .ok (.putfield 19, 3)) (kk : ∀ (H1 : Heap) (locs1 : List Loc), Hx D g s A H0 ws' H1 locs1 → W p l e R s m args below meth c H1 locs1 cells slots Q (F0 m (pc + 3) ls rest)) : W p l e R s m args below meth c H locs cells slots Q (F0 m pc ls (.long x :: .ref a :: rest)) :=
  va_putF (ref := "TraceQuestions$Kept") (T := TX2) (N := 4) (v := .long x) C.1 C.2.1 C.2.2.2.2 inlX2 tyX2 tyX2_ok nmX2 C.2.2.2.1 h.1.1 h.2.1 h.2.2.1 h.2.2.2.1 q0 he rfl 1 (by decide) (C.2.2.2.2 (Cond.fieldLink RX2 19 "TraceQuestions$Kept" "every" "J") (List.mem_of_getElem? (i := 578) (by decide +kernel))) (fun _ h9 => h9) rfl hin rfl (tyX2_ok 1 (by decide)) rfl rfl hl hdg (fun H1 locs1 hP hD hS => kk H1 locs1 (by rw [hw] at hP hD; exact ⟨h.1, hP, hD, hS, h.2.2.2.2⟩))
theorem gf2_23 (C : Cx p m c cc nL s args RX2) (h : Hx D g s A H0 ws H locs) (q0 : Nat) {a : Nat} {fs : List Value} {v : Value} (he : ws[q0]? = some (a, .inr (2, fs))) (hv : fs[2]? = some v) (hdg : decode cc pc = .ok (.getfield 23, 3)) (kk : W p l e R s m args below meth c H locs cells slots Q (F0 m (pc + 3) ls (v :: rest))) : W p l e R s m args below meth c H locs cells slots Q (F0 m pc ls (.ref a :: rest)) :=
  va_get (ref := "TraceQuestions$Kept") (T := TX2) (N := 4) C.1 C.2.1 C.2.2.2.2 inlX2 C.2.2.2.1 h.1.1 h.2.1 q0 he rfl 2 (by decide) (C.2.2.2.2 (Cond.fieldLink RX2 23 "TraceQuestions$Kept" "next" "J") (List.mem_of_getElem? (i := 579) (by decide +kernel))) (fun _ h9 => h9) hv hdg kk
theorem pf2_23 (C : Cx p m c cc nL s args RX2) (h : Hx D g s A H0 ws H locs) (q0 : Nat) {a : Nat} {fs : List Value} {x : Int64} (ws' : va_W) (he : ws[q0]? = some (a, .inr (2, fs))) (hw : ws.set q0 (a, .inr (2, fs.set 2 (.long x))) = ws') (hl : 2 < fs.length) (hdg : decode cc pc = .ok (.putfield 23, 3)) (kk : ∀ (H1 : Heap) (locs1 : List Loc), Hx D g s A H0 ws' H1 locs1 → W p l e R s m args below meth c H1 locs1 cells slots Q (F0 m (pc + 3) ls rest)) : W p l e R s m args below meth c H locs cells slots Q (F0 m pc ls (.long x :: .ref a :: rest)) :=
  va_put (ref := "TraceQuestions$Kept") (T := TX2) (N := 4) (v := .long x) C.1 C.2.1 C.2.2.2.2 inlX2 tyX2 tyX2_ok nmX2 C.2.2.2.1 h.1.1 h.2.1 h.2.2.1 h.2.2.2.1 q0 he rfl 2 (by decide) (C.2.2.2.2 (Cond.fieldLink RX2 23 "TraceQuestions$Kept" "next" "J") (List.mem_of_getElem? (i := 579) (by decide +kernel))) (fun _ h9 => h9) rfl (tyX2_ok 2 (by decide)) rfl rfl hl hdg (fun H1 locs1 hP hD hS => kk H1 locs1 (by rw [hw] at hP hD; exact ⟨h.1, hP, hD, hS, h.2.2.2.2⟩))
theorem kl8_223 (C : Cx p m c cc nL s args RX8) (hdg : decode cc pc = .ok (.ldc2_w 223, 3)) (kk : W p l e R s m args below meth c H locs cells slots Q (F0 m (pc + 3) ls (.long (lI (1000)) :: rest))) : W p l e R s m args below meth c H locs cells slots Q (F0 m pc ls rest) :=
  lv_ldc2 (v := (1000)) C.1 C.2.1 C.2.2.2.1 (C.2.2.2.2 (Cond.constantLong RX8 223 (1000)) (List.mem_of_getElem? (i := 584) (by decide +kernel))) hdg (by rw [show ((1000) : Int64) = lI (1000) from by decide]; exact kk)
theorem gf8_225 (C : Cx p m c cc nL s args RX8) (h : Hx D g s A H0 ws H locs) (q0 : Nat) {a : Nat} {fs : List Value} {v : Value} (he : ws[q0]? = some (a, .inr (8, fs))) (hv : fs[17]? = some v) (hdg : decode cc pc = .ok (.getfield 225, 3)) (kk : W p l e R s m args below meth c H locs cells slots Q (F0 m (pc + 3) ls (v :: rest))) : W p l e R s m args below meth c H locs cells slots Q (F0 m pc ls (.ref a :: rest)) :=
  va_get (ref := "TraceQuestionsModel") (T := TX8) (N := 40) C.1 C.2.1 C.2.2.2.2 inlX8 C.2.2.2.1 h.1.1 h.2.1 q0 he rfl 17 (by decide) (C.2.2.2.2 (Cond.fieldLink RX8 225 "TraceQuestionsModel" "kept" "I") (List.mem_of_getElem? (i := 585) (by decide +kernel))) (fun _ h9 => h9) hv hdg kk
theorem pf8_225 (C : Cx p m c cc nL s args RX8) (h : Hx D g s A H0 ws H locs) (q0 : Nat) {a : Nat} {fs : List Value} {x : Int32} (ws' : va_W) (he : ws[q0]? = some (a, .inr (8, fs))) (hw : ws.set q0 (a, .inr (8, fs.set 17 (.int x))) = ws') (hl : 17 < fs.length) (hdg : decode cc pc = .ok (.putfield 225, 3)) (kk : ∀ (H1 : Heap) (locs1 : List Loc), Hx D g s A H0 ws' H1 locs1 → W p l e R s m args below meth c H1 locs1 cells slots Q (F0 m (pc + 3) ls rest)) : W p l e R s m args below meth c H locs cells slots Q (F0 m pc ls (.int x :: .ref a :: rest)) :=
  va_put (ref := "TraceQuestionsModel") (T := TX8) (N := 40) (v := .int x) C.1 C.2.1 C.2.2.2.2 inlX8 tyX8 tyX8_ok nmX8 C.2.2.2.1 h.1.1 h.2.1 h.2.2.1 h.2.2.2.1 q0 he rfl 17 (by decide) (C.2.2.2.2 (Cond.fieldLink RX8 225 "TraceQuestionsModel" "kept" "I") (List.mem_of_getElem? (i := 585) (by decide +kernel))) (fun _ h9 => h9) rfl (tyX8_ok 17 (by decide)) rfl rfl hl hdg (fun H1 locs1 hP hD hS => kk H1 locs1 (by rw [hw] at hP hD; exact ⟨h.1, hP, hD, hS, h.2.2.2.2⟩))
theorem gf8_228 (C : Cx p m c cc nL s args RX8) (h : Hx D g s A H0 ws H locs) (q0 : Nat) {a : Nat} {fs : List Value} {v : Value} (he : ws[q0]? = some (a, .inr (8, fs))) (hv : fs[9]? = some v) (hdg : decode cc pc = .ok (.getfield 228, 3)) (kk : W p l e R s m args below meth c H locs cells slots Q (F0 m (pc + 3) ls (v :: rest))) : W p l e R s m args below meth c H locs cells slots Q (F0 m pc ls (.ref a :: rest)) :=
  va_get (ref := "TraceQuestionsModel") (T := TX8) (N := 40) C.1 C.2.1 C.2.2.2.2 inlX8 C.2.2.2.1 h.1.1 h.2.1 q0 he rfl 9 (by decide) (C.2.2.2.2 (Cond.fieldLink RX8 228 "TraceQuestionsModel" "now" "J") (List.mem_of_getElem? (i := 586) (by decide +kernel))) (fun _ h9 => h9) hv hdg kk
theorem pf8_228 (C : Cx p m c cc nL s args RX8) (h : Hx D g s A H0 ws H locs) (q0 : Nat) {a : Nat} {fs : List Value} {x : Int64} (ws' : va_W) (he : ws[q0]? = some (a, .inr (8, fs))) (hw : ws.set q0 (a, .inr (8, fs.set 9 (.long x))) = ws') (hl : 9 < fs.length) (hdg : decode cc pc = .ok (.putfield 228, 3)) (kk : ∀ (H1 : Heap) (locs1 : List Loc), Hx D g s A H0 ws' H1 locs1 → W p l e R s m args below meth c H1 locs1 cells slots Q (F0 m (pc + 3) ls rest)) : W p l e R s m args below meth c H locs cells slots Q (F0 m pc ls (.long x :: .ref a :: rest)) :=
  va_put (ref := "TraceQuestionsModel") (T := TX8) (N := 40) (v := .long x) C.1 C.2.1 C.2.2.2.2 inlX8 tyX8 tyX8_ok nmX8 C.2.2.2.1 h.1.1 h.2.1 h.2.2.1 h.2.2.2.1 q0 he rfl 9 (by decide) (C.2.2.2.2 (Cond.fieldLink RX8 228 "TraceQuestionsModel" "now" "J") (List.mem_of_getElem? (i := 586) (by decide +kernel))) (fun _ h9 => h9) rfl (tyX8_ok 9 (by decide)) rfl rfl hl hdg (fun H1 locs1 hP hD hS => kk H1 locs1 (by rw [hw] at hP hD; exact ⟨h.1, hP, hD, hS, h.2.2.2.2⟩))
theorem csL_9 (C : Cx p m c cc nL s args RL) (hR : rmX7_init.frames + 1 ≤ R.frames ∧ 8 + (1 + 11) + rmX7_init.locals ≤ R.locals) : CallB R s args RL 9 yX7_init cX7_init 1 none (wd yX7_init cX7_init 1 none) rmX7_init rmX7_init.cells rmX7_init.slots 0 ∧ yX7_init.name = "<init>" ∧ (Cond.instanceMethod yX7_init).before args s = true :=
  kI C (List.mem_of_getElem? (i := 9) (by decide +kernel)) (List.mem_of_getElem? (i := 7) (by decide +kernel)) (List.mem_of_getElem? (i := 8) (by decide +kernel)) (List.mem_of_getElem? (i := 2) (by decide +kernel)) rfl ⟨by decide +kernel, by decide +kernel, by decide +kernel⟩ hR
theorem csL_12 (C : Cx p m c cc nL s args RL) (hR : rmX8_init.frames + 1 ≤ R.frames ∧ 8 + (1 + 11) + rmX8_init.locals ≤ R.locals) : CallB R s args RL 12 yX8_init cX8_init 1 none (wd yX8_init cX8_init 1 none) rmX8_init rmX8_init.cells rmX8_init.slots 0 ∧ yX8_init.name = "<init>" ∧ (Cond.instanceMethod yX8_init).before args s = true :=
  kI C (List.mem_of_getElem? (i := 109) (by decide +kernel)) (List.mem_of_getElem? (i := 107) (by decide +kernel)) (List.mem_of_getElem? (i := 108) (by decide +kernel)) (List.mem_of_getElem? (i := 5) (by decide +kernel)) rfl ⟨by decide +kernel, by decide +kernel, by decide +kernel⟩ hR
theorem csL_15 (C : Cx p m c cc nL s args RL) (hR : rmX7_row.frames + 1 ≤ R.frames ∧ 8 + (7 + 11) + rmX7_row.locals ≤ R.locals) : CallW R s args RL (RX7, TX7, 16).1 15 yX7_row cX7_row 7 (some .int) (wd yX7_row cX7_row 7 (some .int)) rmX7_row rmX7_row.cells rmX7_row.slots 5 :=
  kV C (List.mem_of_getElem? (i := 140) (by decide +kernel)) (List.mem_of_getElem? (i := 137) (by decide +kernel)) (List.mem_of_getElem? (i := 138) (by decide +kernel)) (List.mem_of_getElem? (i := 139) (by decide +kernel)) (List.mem_of_getElem? (i := 2) (by decide +kernel)) ⟨by decide +kernel, by decide +kernel, by decide +kernel⟩ hR
theorem csL_19 (C : Cx p m c cc nL s args RL) (hR : rmX8_row.frames + 1 ≤ R.frames ∧ 8 + (7 + 11) + rmX8_row.locals ≤ R.locals) : CallW R s args RL (RX8, TX8, 40).1 19 yX8_row cX8_row 7 (some .int) (wd yX8_row cX8_row 7 (some .int)) rmX8_row rmX8_row.cells rmX8_row.slots 5 :=
  kV C (List.mem_of_getElem? (i := 178) (by decide +kernel)) (List.mem_of_getElem? (i := 175) (by decide +kernel)) (List.mem_of_getElem? (i := 176) (by decide +kernel)) (List.mem_of_getElem? (i := 177) (by decide +kernel)) (List.mem_of_getElem? (i := 5) (by decide +kernel)) ⟨by decide +kernel, by decide +kernel, by decide +kernel⟩ hR
theorem csL_20 (C : Cx p m c cc nL s args RL) (hR : rmX7_sign.frames + 1 ≤ R.frames ∧ 8 + (2 + 11) + rmX7_sign.locals ≤ R.locals) : CallW R s args RL (RX7, TX7, 16).1 20 yX7_sign cX7_sign 2 none (wd yX7_sign cX7_sign 2 none) rmX7_sign rmX7_sign.cells rmX7_sign.slots 1 :=
  kV C (List.mem_of_getElem? (i := 193) (by decide +kernel)) (List.mem_of_getElem? (i := 190) (by decide +kernel)) (List.mem_of_getElem? (i := 191) (by decide +kernel)) (List.mem_of_getElem? (i := 192) (by decide +kernel)) (List.mem_of_getElem? (i := 2) (by decide +kernel)) ⟨by decide +kernel, by decide +kernel, by decide +kernel⟩ hR
theorem csL_24 (C : Cx p m c cc nL s args RL) (hR : rmX8_sign.frames + 1 ≤ R.frames ∧ 8 + (2 + 11) + rmX8_sign.locals ≤ R.locals) : CallW R s args RL (RX8, TX8, 40).1 24 yX8_sign cX8_sign 2 none (wd yX8_sign cX8_sign 2 none) rmX8_sign rmX8_sign.cells rmX8_sign.slots 1 :=
  kV C (List.mem_of_getElem? (i := 197) (by decide +kernel)) (List.mem_of_getElem? (i := 194) (by decide +kernel)) (List.mem_of_getElem? (i := 195) (by decide +kernel)) (List.mem_of_getElem? (i := 196) (by decide +kernel)) (List.mem_of_getElem? (i := 5) (by decide +kernel)) ⟨by decide +kernel, by decide +kernel, by decide +kernel⟩ hR
theorem csL_25 (C : Cx p m c cc nL s args RL) (hR : rmX7_ask.frames + 1 ≤ R.frames ∧ 8 + (4 + 11) + rmX7_ask.locals ≤ R.locals) : CallW R s args RL (RX7, TX7, 16).1 25 yX7_ask cX7_ask 4 (some .int) (wd yX7_ask cX7_ask 4 (some .int)) rmX7_ask rmX7_ask.cells rmX7_ask.slots 1 :=
  kV C (List.mem_of_getElem? (i := 204) (by decide +kernel)) (List.mem_of_getElem? (i := 201) (by decide +kernel)) (List.mem_of_getElem? (i := 202) (by decide +kernel)) (List.mem_of_getElem? (i := 203) (by decide +kernel)) (List.mem_of_getElem? (i := 2) (by decide +kernel)) ⟨by decide +kernel, by decide +kernel, by decide +kernel⟩ hR
theorem csL_29 (C : Cx p m c cc nL s args RL) (hR : rmX8_ask.frames + 1 ≤ R.frames ∧ 8 + (4 + 11) + rmX8_ask.locals ≤ R.locals) : CallW R s args RL (RX8, TX8, 40).1 29 yX8_ask cX8_ask 4 (some .int) (wd yX8_ask cX8_ask 4 (some .int)) rmX8_ask rmX8_ask.cells rmX8_ask.slots 1 :=
  kV C (List.mem_of_getElem? (i := 410) (by decide +kernel)) (List.mem_of_getElem? (i := 407) (by decide +kernel)) (List.mem_of_getElem? (i := 408) (by decide +kernel)) (List.mem_of_getElem? (i := 409) (by decide +kernel)) (List.mem_of_getElem? (i := 5) (by decide +kernel)) ⟨by decide +kernel, by decide +kernel, by decide +kernel⟩ hR
theorem csL_30 (C : Cx p m c cc nL s args RL) (hR : rmX7_found.frames + 1 ≤ R.frames ∧ 8 + (4 + 11) + rmX7_found.locals ≤ R.locals) : CallW R s args RL (RX7, TX7, 16).1 30 yX7_found cX7_found 4 (some .long) (wd yX7_found cX7_found 4 (some .long)) rmX7_found rmX7_found.cells rmX7_found.slots 2 :=
  kV C (List.mem_of_getElem? (i := 483) (by decide +kernel)) (List.mem_of_getElem? (i := 480) (by decide +kernel)) (List.mem_of_getElem? (i := 481) (by decide +kernel)) (List.mem_of_getElem? (i := 482) (by decide +kernel)) (List.mem_of_getElem? (i := 2) (by decide +kernel)) ⟨by decide +kernel, by decide +kernel, by decide +kernel⟩ hR
theorem csL_34 (C : Cx p m c cc nL s args RL) (hR : rmX8_found.frames + 1 ≤ R.frames ∧ 8 + (3 + 11) + rmX8_found.locals ≤ R.locals) : CallW R s args RL (RX8, TX8, 40).1 34 yX8_found cX8_found 3 (some .long) (wd yX8_found cX8_found 3 (some .long)) rmX8_found rmX8_found.cells rmX8_found.slots 2 :=
  kV C (List.mem_of_getElem? (i := 500) (by decide +kernel)) (List.mem_of_getElem? (i := 497) (by decide +kernel)) (List.mem_of_getElem? (i := 498) (by decide +kernel)) (List.mem_of_getElem? (i := 499) (by decide +kernel)) (List.mem_of_getElem? (i := 5) (by decide +kernel)) ⟨by decide +kernel, by decide +kernel, by decide +kernel⟩ hR
theorem csL_35 (C : Cx p m c cc nL s args RL) (hR : rmX7_page.frames + 1 ≤ R.frames ∧ 8 + (7 + 11) + rmX7_page.locals ≤ R.locals) : CallW R s args RL (RX7, TX7, 16).1 35 yX7_page cX7_page 7 (some .int) (wd yX7_page cX7_page 7 (some .int)) rmX7_page rmX7_page.cells rmX7_page.slots 3 :=
  kV C (List.mem_of_getElem? (i := 506) (by decide +kernel)) (List.mem_of_getElem? (i := 503) (by decide +kernel)) (List.mem_of_getElem? (i := 504) (by decide +kernel)) (List.mem_of_getElem? (i := 505) (by decide +kernel)) (List.mem_of_getElem? (i := 2) (by decide +kernel)) ⟨by decide +kernel, by decide +kernel, by decide +kernel⟩ hR
theorem csL_39 (C : Cx p m c cc nL s args RL) (hR : rmX8_page.frames + 1 ≤ R.frames ∧ 8 + (12 + 11) + rmX8_page.locals ≤ R.locals) : CallW R s args RL (RX8, TX8, 40).1 39 yX8_page cX8_page 12 (some .int) (wd yX8_page cX8_page 12 (some .int)) rmX8_page rmX8_page.cells rmX8_page.slots 3 :=
  kV C (List.mem_of_getElem? (i := 511) (by decide +kernel)) (List.mem_of_getElem? (i := 508) (by decide +kernel)) (List.mem_of_getElem? (i := 509) (by decide +kernel)) (List.mem_of_getElem? (i := 510) (by decide +kernel)) (List.mem_of_getElem? (i := 5) (by decide +kernel)) ⟨by decide +kernel, by decide +kernel, by decide +kernel⟩ hR
theorem csL_40 (C : Cx p m c cc nL s args RL) (hR : rmX7_right.frames + 1 ≤ R.frames ∧ 8 + (4 + 11) + rmX7_right.locals ≤ R.locals) : CallW R s args RL (RX7, TX7, 16).1 40 yX7_right cX7_right 4 (some .int) (wd yX7_right cX7_right 4 (some .int)) rmX7_right rmX7_right.cells rmX7_right.slots 3 :=
  kV C (List.mem_of_getElem? (i := 517) (by decide +kernel)) (List.mem_of_getElem? (i := 514) (by decide +kernel)) (List.mem_of_getElem? (i := 515) (by decide +kernel)) (List.mem_of_getElem? (i := 516) (by decide +kernel)) (List.mem_of_getElem? (i := 2) (by decide +kernel)) ⟨by decide +kernel, by decide +kernel, by decide +kernel⟩ hR
theorem csL_44 (C : Cx p m c cc nL s args RL) (hR : rmX8_right.frames + 1 ≤ R.frames ∧ 8 + (7 + 11) + rmX8_right.locals ≤ R.locals) : CallW R s args RL (RX8, TX8, 40).1 44 yX8_right cX8_right 7 (some .int) (wd yX8_right cX8_right 7 (some .int)) rmX8_right rmX8_right.cells rmX8_right.slots 3 :=
  kV C (List.mem_of_getElem? (i := 537) (by decide +kernel)) (List.mem_of_getElem? (i := 534) (by decide +kernel)) (List.mem_of_getElem? (i := 535) (by decide +kernel)) (List.mem_of_getElem? (i := 536) (by decide +kernel)) (List.mem_of_getElem? (i := 5) (by decide +kernel)) ⟨by decide +kernel, by decide +kernel, by decide +kernel⟩ hR
theorem csL_45 (C : Cx p m c cc nL s args RL) (hR : rmX7_masked.frames + 1 ≤ R.frames ∧ 8 + (3 + 11) + rmX7_masked.locals ≤ R.locals) : CallW R s args RL (RX7, TX7, 16).1 45 yX7_masked cX7_masked 3 (some .int) (wd yX7_masked cX7_masked 3 (some .int)) rmX7_masked rmX7_masked.cells rmX7_masked.slots 2 :=
  kV C (List.mem_of_getElem? (i := 541) (by decide +kernel)) (List.mem_of_getElem? (i := 538) (by decide +kernel)) (List.mem_of_getElem? (i := 539) (by decide +kernel)) (List.mem_of_getElem? (i := 540) (by decide +kernel)) (List.mem_of_getElem? (i := 2) (by decide +kernel)) ⟨by decide +kernel, by decide +kernel, by decide +kernel⟩ hR
theorem csL_49 (C : Cx p m c cc nL s args RL) (hR : rmX8_masked.frames + 1 ≤ R.frames ∧ 8 + (4 + 11) + rmX8_masked.locals ≤ R.locals) : CallW R s args RL (RX8, TX8, 40).1 49 yX8_masked cX8_masked 4 (some .int) (wd yX8_masked cX8_masked 4 (some .int)) rmX8_masked rmX8_masked.cells rmX8_masked.slots 2 :=
  kV C (List.mem_of_getElem? (i := 545) (by decide +kernel)) (List.mem_of_getElem? (i := 542) (by decide +kernel)) (List.mem_of_getElem? (i := 543) (by decide +kernel)) (List.mem_of_getElem? (i := 544) (by decide +kernel)) (List.mem_of_getElem? (i := 5) (by decide +kernel)) ⟨by decide +kernel, by decide +kernel, by decide +kernel⟩ hR
theorem csL_50 (C : Cx p m c cc nL s args RL) (hR : rmX7_cost.frames + 1 ≤ R.frames ∧ 8 + (1 + 11) + rmX7_cost.locals ≤ R.locals) : CallW R s args RL (RX7, TX7, 16).1 50 yX7_cost cX7_cost 1 (some .long) (wd yX7_cost cX7_cost 1 (some .long)) rmX7_cost rmX7_cost.cells rmX7_cost.slots 0 :=
  kV C (List.mem_of_getElem? (i := 550) (by decide +kernel)) (List.mem_of_getElem? (i := 547) (by decide +kernel)) (List.mem_of_getElem? (i := 548) (by decide +kernel)) (List.mem_of_getElem? (i := 549) (by decide +kernel)) (List.mem_of_getElem? (i := 2) (by decide +kernel)) ⟨by decide +kernel, by decide +kernel, by decide +kernel⟩ hR
theorem csL_54 (C : Cx p m c cc nL s args RL) (hR : rmX8_cost.frames + 1 ≤ R.frames ∧ 8 + (1 + 11) + rmX8_cost.locals ≤ R.locals) : CallW R s args RL (RX8, TX8, 40).1 54 yX8_cost cX8_cost 1 (some .long) (wd yX8_cost cX8_cost 1 (some .long)) rmX8_cost rmX8_cost.cells rmX8_cost.slots 0 :=
  kV C (List.mem_of_getElem? (i := 554) (by decide +kernel)) (List.mem_of_getElem? (i := 551) (by decide +kernel)) (List.mem_of_getElem? (i := 552) (by decide +kernel)) (List.mem_of_getElem? (i := 553) (by decide +kernel)) (List.mem_of_getElem? (i := 5) (by decide +kernel)) ⟨by decide +kernel, by decide +kernel, by decide +kernel⟩ hR
theorem csL_55 (C : Cx p m c cc nL s args RL) (hR : rmX7_bound.frames + 1 ≤ R.frames ∧ 8 + (4 + 11) + rmX7_bound.locals ≤ R.locals) : CallW R s args RL (RX7, TX7, 16).1 55 yX7_bound cX7_bound 4 (some .int) (wd yX7_bound cX7_bound 4 (some .int)) rmX7_bound rmX7_bound.cells rmX7_bound.slots 1 :=
  kV C (List.mem_of_getElem? (i := 558) (by decide +kernel)) (List.mem_of_getElem? (i := 555) (by decide +kernel)) (List.mem_of_getElem? (i := 556) (by decide +kernel)) (List.mem_of_getElem? (i := 557) (by decide +kernel)) (List.mem_of_getElem? (i := 2) (by decide +kernel)) ⟨by decide +kernel, by decide +kernel, by decide +kernel⟩ hR
theorem csL_59 (C : Cx p m c cc nL s args RL) (hR : rmX8_bound.frames + 1 ≤ R.frames ∧ 8 + (5 + 11) + rmX8_bound.locals ≤ R.locals) : CallW R s args RL (RX8, TX8, 40).1 59 yX8_bound cX8_bound 5 (some .int) (wd yX8_bound cX8_bound 5 (some .int)) rmX8_bound rmX8_bound.cells rmX8_bound.slots 1 :=
  kV C (List.mem_of_getElem? (i := 563) (by decide +kernel)) (List.mem_of_getElem? (i := 560) (by decide +kernel)) (List.mem_of_getElem? (i := 561) (by decide +kernel)) (List.mem_of_getElem? (i := 562) (by decide +kernel)) (List.mem_of_getElem? (i := 5) (by decide +kernel)) ⟨by decide +kernel, by decide +kernel, by decide +kernel⟩ hR
theorem csL_60 (C : Cx p m c cc nL s args RL) (hR : rmX7_save.frames + 1 ≤ R.frames ∧ 8 + (5 + 11) + rmX7_save.locals ≤ R.locals) : CallW R s args RL (RX7, TX7, 16).1 60 yX7_save cX7_save 5 (some .int) (wd yX7_save cX7_save 5 (some .int)) rmX7_save rmX7_save.cells rmX7_save.slots 2 :=
  kV C (List.mem_of_getElem? (i := 568) (by decide +kernel)) (List.mem_of_getElem? (i := 565) (by decide +kernel)) (List.mem_of_getElem? (i := 566) (by decide +kernel)) (List.mem_of_getElem? (i := 567) (by decide +kernel)) (List.mem_of_getElem? (i := 2) (by decide +kernel)) ⟨by decide +kernel, by decide +kernel, by decide +kernel⟩ hR
theorem csL_64 (C : Cx p m c cc nL s args RL) (hR : rmX8_save.frames + 1 ≤ R.frames ∧ 8 + (6 + 11) + rmX8_save.locals ≤ R.locals) : CallW R s args RL (RX8, TX8, 40).1 64 yX8_save cX8_save 6 (some .int) (wd yX8_save cX8_save 6 (some .int)) rmX8_save rmX8_save.cells rmX8_save.slots 2 :=
  kV C (List.mem_of_getElem? (i := 583) (by decide +kernel)) (List.mem_of_getElem? (i := 580) (by decide +kernel)) (List.mem_of_getElem? (i := 581) (by decide +kernel)) (List.mem_of_getElem? (i := 582) (by decide +kernel)) (List.mem_of_getElem? (i := 5) (by decide +kernel)) ⟨by decide +kernel, by decide +kernel, by decide +kernel⟩ hR
theorem csL_65 (C : Cx p m c cc nL s args RL) (hR : rmX7_tick.frames + 1 ≤ R.frames ∧ 8 + (5 + 11) + rmX7_tick.locals ≤ R.locals) : CallW R s args RL (RX7, TX7, 16).1 65 yX7_tick cX7_tick 5 (some .int) (wd yX7_tick cX7_tick 5 (some .int)) rmX7_tick rmX7_tick.cells rmX7_tick.slots 1 :=
  kV C (List.mem_of_getElem? (i := 590) (by decide +kernel)) (List.mem_of_getElem? (i := 587) (by decide +kernel)) (List.mem_of_getElem? (i := 588) (by decide +kernel)) (List.mem_of_getElem? (i := 589) (by decide +kernel)) (List.mem_of_getElem? (i := 2) (by decide +kernel)) ⟨by decide +kernel, by decide +kernel, by decide +kernel⟩ hR
theorem csL_68 (C : Cx p m c cc nL s args RL) (hR : rmX8_tick.frames + 1 ≤ R.frames ∧ 8 + (6 + 11) + rmX8_tick.locals ≤ R.locals) : CallW R s args RL (RX8, TX8, 40).1 68 yX8_tick cX8_tick 6 (some .int) (wd yX8_tick cX8_tick 6 (some .int)) rmX8_tick rmX8_tick.cells rmX8_tick.slots 1 :=
  kV C (List.mem_of_getElem? (i := 618) (by decide +kernel)) (List.mem_of_getElem? (i := 615) (by decide +kernel)) (List.mem_of_getElem? (i := 616) (by decide +kernel)) (List.mem_of_getElem? (i := 617) (by decide +kernel)) (List.mem_of_getElem? (i := 5) (by decide +kernel)) ⟨by decide +kernel, by decide +kernel, by decide +kernel⟩ hR
theorem csL_69 (C : Cx p m c cc nL s args RL) (hR : rmX7_saved.frames + 1 ≤ R.frames ∧ 8 + (3 + 11) + rmX7_saved.locals ≤ R.locals) : CallW R s args RL (RX7, TX7, 16).1 69 yX7_saved cX7_saved 3 (some .int) (wd yX7_saved cX7_saved 3 (some .int)) rmX7_saved rmX7_saved.cells rmX7_saved.slots 1 :=
  kV C (List.mem_of_getElem? (i := 626) (by decide +kernel)) (List.mem_of_getElem? (i := 623) (by decide +kernel)) (List.mem_of_getElem? (i := 624) (by decide +kernel)) (List.mem_of_getElem? (i := 625) (by decide +kernel)) (List.mem_of_getElem? (i := 2) (by decide +kernel)) ⟨by decide +kernel, by decide +kernel, by decide +kernel⟩ hR
theorem csL_72 (C : Cx p m c cc nL s args RL) (hR : rmX8_saved.frames + 1 ≤ R.frames ∧ 8 + (2 + 11) + rmX8_saved.locals ≤ R.locals) : CallW R s args RL (RX8, TX8, 40).1 72 yX8_saved cX8_saved 2 (some .int) (wd yX8_saved cX8_saved 2 (some .int)) rmX8_saved rmX8_saved.cells rmX8_saved.slots 1 :=
  kV C (List.mem_of_getElem? (i := 634) (by decide +kernel)) (List.mem_of_getElem? (i := 631) (by decide +kernel)) (List.mem_of_getElem? (i := 632) (by decide +kernel)) (List.mem_of_getElem? (i := 633) (by decide +kernel)) (List.mem_of_getElem? (i := 5) (by decide +kernel)) ⟨by decide +kernel, by decide +kernel, by decide +kernel⟩ hR
theorem csL_73 (C : Cx p m c cc nL s args RL) (hR : rmX7_scan.frames + 1 ≤ R.frames ∧ 8 + (4 + 11) + rmX7_scan.locals ≤ R.locals) : CallW R s args RL (RX7, TX7, 16).1 73 yX7_scan cX7_scan 4 (some .int) (wd yX7_scan cX7_scan 4 (some .int)) rmX7_scan rmX7_scan.cells rmX7_scan.slots 1 :=
  kV C (List.mem_of_getElem? (i := 638) (by decide +kernel)) (List.mem_of_getElem? (i := 635) (by decide +kernel)) (List.mem_of_getElem? (i := 636) (by decide +kernel)) (List.mem_of_getElem? (i := 637) (by decide +kernel)) (List.mem_of_getElem? (i := 2) (by decide +kernel)) ⟨by decide +kernel, by decide +kernel, by decide +kernel⟩ hR
theorem csL_76 (C : Cx p m c cc nL s args RL) (hR : rmX8_scan.frames + 1 ≤ R.frames ∧ 8 + (4 + 11) + rmX8_scan.locals ≤ R.locals) : CallW R s args RL (RX8, TX8, 40).1 76 yX8_scan cX8_scan 4 (some .int) (wd yX8_scan cX8_scan 4 (some .int)) rmX8_scan rmX8_scan.cells rmX8_scan.slots 1 :=
  kV C (List.mem_of_getElem? (i := 642) (by decide +kernel)) (List.mem_of_getElem? (i := 639) (by decide +kernel)) (List.mem_of_getElem? (i := 640) (by decide +kernel)) (List.mem_of_getElem? (i := 641) (by decide +kernel)) (List.mem_of_getElem? (i := 5) (by decide +kernel)) ⟨by decide +kernel, by decide +kernel, by decide +kernel⟩ hR
theorem cs0_22 (C : Cx p m c cc nL s args RX0) (hR : rmX0_add.frames + 1 ≤ R.frames ∧ 8 + (2 + 11) + rmX0_add.locals ≤ R.locals) : CallW R s args RX0 (RX0, TX0, 3).1 22 yX0_add cX0_add 2 none (wd yX0_add cX0_add 2 none) rmX0_add rmX0_add.cells rmX0_add.slots 1 :=
  kV C (List.mem_of_getElem? (i := 397) (by decide +kernel)) (List.mem_of_getElem? (i := 394) (by decide +kernel)) (List.mem_of_getElem? (i := 395) (by decide +kernel)) (List.mem_of_getElem? (i := 396) (by decide +kernel)) (List.mem_of_getElem? (i := 43) (by decide +kernel)) ⟨by decide +kernel, by decide +kernel, by decide +kernel⟩ hR
theorem cs1_22 (C : Cx p m c cc nL s args RX1) (hR : rmX1_beginLevel.frames + 1 ≤ R.frames ∧ 8 + (1 + 11) + rmX1_beginLevel.locals ≤ R.locals) : CallW R s args RX1 (RX1, TX1, 4).1 22 yX1_beginLevel cX1_beginLevel 1 none (wd yX1_beginLevel cX1_beginLevel 1 none) rmX1_beginLevel rmX1_beginLevel.cells rmX1_beginLevel.slots 0 :=
  kV C (List.mem_of_getElem? (i := 364) (by decide +kernel)) (List.mem_of_getElem? (i := 361) (by decide +kernel)) (List.mem_of_getElem? (i := 362) (by decide +kernel)) (List.mem_of_getElem? (i := 363) (by decide +kernel)) (List.mem_of_getElem? (i := 27) (by decide +kernel)) ⟨by decide +kernel, by decide +kernel, by decide +kernel⟩ hR
theorem cs1_25 (C : Cx p m c cc nL s args RX1) (hR : rmX3_stepCount.frames + 1 ≤ R.frames ∧ 8 + (1 + 11) + rmX3_stepCount.locals ≤ R.locals) : CallW R s args RX1 (RX3, TX3, 10).1 25 yX3_stepCount cX3_stepCount 1 (some .int) (wd yX3_stepCount cX3_stepCount 1 (some .int)) rmX3_stepCount rmX3_stepCount.cells rmX3_stepCount.slots 0 :=
  kV C (List.mem_of_getElem? (i := 368) (by decide +kernel)) (List.mem_of_getElem? (i := 365) (by decide +kernel)) (List.mem_of_getElem? (i := 366) (by decide +kernel)) (List.mem_of_getElem? (i := 367) (by decide +kernel)) (List.mem_of_getElem? (i := 38) (by decide +kernel)) ⟨by decide +kernel, by decide +kernel, by decide +kernel⟩ hR
theorem cs1_31 (C : Cx p m c cc nL s args RX1) (hR : rmX3_step.frames + 1 ≤ R.frames ∧ 8 + (2 + 11) + rmX3_step.locals ≤ R.locals) : CallW R s args RX1 (RX3, TX3, 10).1 31 yX3_step cX3_step 2 (some .int) (wd yX3_step cX3_step 2 (some .int)) rmX3_step rmX3_step.cells rmX3_step.slots 1 :=
  kV C (List.mem_of_getElem? (i := 372) (by decide +kernel)) (List.mem_of_getElem? (i := 369) (by decide +kernel)) (List.mem_of_getElem? (i := 370) (by decide +kernel)) (List.mem_of_getElem? (i := 371) (by decide +kernel)) (List.mem_of_getElem? (i := 38) (by decide +kernel)) ⟨by decide +kernel, by decide +kernel, by decide +kernel⟩ hR
theorem cs1_35 (C : Cx p m c cc nL s args RX1) (hR : rmX1_endLevel.frames + 1 ≤ R.frames ∧ 8 + (2 + 11) + rmX1_endLevel.locals ≤ R.locals) : CallW R s args RX1 (RX1, TX1, 4).1 35 yX1_endLevel cX1_endLevel 2 none (wd yX1_endLevel cX1_endLevel 2 none) rmX1_endLevel rmX1_endLevel.cells rmX1_endLevel.slots 0 :=
  kV C (List.mem_of_getElem? (i := 376) (by decide +kernel)) (List.mem_of_getElem? (i := 373) (by decide +kernel)) (List.mem_of_getElem? (i := 374) (by decide +kernel)) (List.mem_of_getElem? (i := 375) (by decide +kernel)) (List.mem_of_getElem? (i := 27) (by decide +kernel)) ⟨by decide +kernel, by decide +kernel, by decide +kernel⟩ hR
theorem cs1_38 (C : Cx p m c cc nL s args RX1) (hR : rmX3_isTestTrue.frames + 1 ≤ R.frames ∧ 8 + (5 + 11) + rmX3_isTestTrue.locals ≤ R.locals) : CallW R s args RX1 (RX3, TX3, 10).1 38 yX3_isTestTrue cX3_isTestTrue 5 (some .boolean) (wd yX3_isTestTrue cX3_isTestTrue 5 (some .boolean)) rmX3_isTestTrue rmX3_isTestTrue.cells rmX3_isTestTrue.slots 3 :=
  kV C (List.mem_of_getElem? (i := 388) (by decide +kernel)) (List.mem_of_getElem? (i := 385) (by decide +kernel)) (List.mem_of_getElem? (i := 386) (by decide +kernel)) (List.mem_of_getElem? (i := 387) (by decide +kernel)) (List.mem_of_getElem? (i := 38) (by decide +kernel)) ⟨by decide +kernel, by decide +kernel, by decide +kernel⟩ hR
theorem cs1_42 (C : Cx p m c cc nL s args RX1) (hR : rmX1_take.frames + 1 ≤ R.frames ∧ 8 + (3 + 11) + rmX1_take.locals ≤ R.locals) : CallW R s args RX1 (RX1, TX1, 4).1 42 yX1_take cX1_take 3 none (wd yX1_take cX1_take 3 none) rmX1_take rmX1_take.cells rmX1_take.slots 1 :=
  kV C (List.mem_of_getElem? (i := 384) (by decide +kernel)) (List.mem_of_getElem? (i := 381) (by decide +kernel)) (List.mem_of_getElem? (i := 382) (by decide +kernel)) (List.mem_of_getElem? (i := 383) (by decide +kernel)) (List.mem_of_getElem? (i := 27) (by decide +kernel)) ⟨by decide +kernel, by decide +kernel, by decide +kernel⟩ hR
theorem cs1_46 (C : Cx p m c cc nL s args RX1) (hR : rmX1_isLevelTrue.frames + 1 ≤ R.frames ∧ 8 + (1 + 11) + rmX1_isLevelTrue.locals ≤ R.locals) : CallW R s args RX1 (RX1, TX1, 4).1 46 yX1_isLevelTrue cX1_isLevelTrue 1 (some .boolean) (wd yX1_isLevelTrue cX1_isLevelTrue 1 (some .boolean)) rmX1_isLevelTrue rmX1_isLevelTrue.cells rmX1_isLevelTrue.slots 0 :=
  kV C (List.mem_of_getElem? (i := 380) (by decide +kernel)) (List.mem_of_getElem? (i := 377) (by decide +kernel)) (List.mem_of_getElem? (i := 378) (by decide +kernel)) (List.mem_of_getElem? (i := 379) (by decide +kernel)) (List.mem_of_getElem? (i := 27) (by decide +kernel)) ⟨by decide +kernel, by decide +kernel, by decide +kernel⟩ hR
theorem cs3_44 (C : Cx p m c cc nL s args RX3) (hR : rmX3_addStep.frames + 1 ≤ R.frames ∧ 8 + (2 + 11) + rmX3_addStep.locals ≤ R.locals) : CallW R s args RX3 (RX3, TX3, 10).1 44 yX3_addStep cX3_addStep 2 none (wd yX3_addStep cX3_addStep 2 none) rmX3_addStep rmX3_addStep.cells rmX3_addStep.slots 1 :=
  kV C (List.mem_of_getElem? (i := 249) (by decide +kernel)) (List.mem_of_getElem? (i := 285) (by decide +kernel)) (List.mem_of_getElem? (i := 247) (by decide +kernel)) (List.mem_of_getElem? (i := 248) (by decide +kernel)) (List.mem_of_getElem? (i := 38) (by decide +kernel)) ⟨by decide +kernel, by decide +kernel, by decide +kernel⟩ hR
theorem cs3_48 (C : Cx p m c cc nL s args RX3) (hR : rmX6_value.frames + 1 ≤ R.frames ∧ 8 + (3 + 11) + rmX6_value.locals ≤ R.locals) : CallW R s args RX3 (RX6, TX6, 4).1 48 yX6_value cX6_value 3 (some .int) (wd yX6_value cX6_value 3 (some .int)) rmX6_value rmX6_value.cells rmX6_value.slots 2 :=
  kV C (List.mem_of_getElem? (i := 162) (by decide +kernel)) (List.mem_of_getElem? (i := 389) (by decide +kernel)) (List.mem_of_getElem? (i := 160) (by decide +kernel)) (List.mem_of_getElem? (i := 161) (by decide +kernel)) (List.mem_of_getElem? (i := 15) (by decide +kernel)) ⟨by decide +kernel, by decide +kernel, by decide +kernel⟩ hR
theorem cs4_51 (C : Cx p m c cc nL s args RX4) (hR : rmX4_begin.frames + 1 ≤ R.frames ∧ 8 + (2 + 11) + rmX4_begin.locals ≤ R.locals) : CallW R s args RX4 (RX4, TX4, 11).1 51 yX4_begin cX4_begin 2 none (wd yX4_begin cX4_begin 2 none) rmX4_begin rmX4_begin.cells rmX4_begin.slots 1 :=
  kV C (List.mem_of_getElem? (i := 218) (by decide +kernel)) (List.mem_of_getElem? (i := 215) (by decide +kernel)) (List.mem_of_getElem? (i := 216) (by decide +kernel)) (List.mem_of_getElem? (i := 217) (by decide +kernel)) (List.mem_of_getElem? (i := 23) (by decide +kernel)) ⟨by decide +kernel, by decide +kernel, by decide +kernel⟩ hR
theorem cs4_55 (C : Cx p m c cc nL s args RX4) (hR : rmX4_takes.frames + 1 ≤ R.frames ∧ 8 + (2 + 11) + rmX4_takes.locals ≤ R.locals) : CallW R s args RX4 (RX4, TX4, 11).1 55 yX4_takes cX4_takes 2 (some .boolean) (wd yX4_takes cX4_takes 2 (some .boolean)) rmX4_takes rmX4_takes.cells rmX4_takes.slots 1 :=
  kV C (List.mem_of_getElem? (i := 226) (by decide +kernel)) (List.mem_of_getElem? (i := 223) (by decide +kernel)) (List.mem_of_getElem? (i := 224) (by decide +kernel)) (List.mem_of_getElem? (i := 225) (by decide +kernel)) (List.mem_of_getElem? (i := 23) (by decide +kernel)) ⟨by decide +kernel, by decide +kernel, by decide +kernel⟩ hR
theorem cs4_59 (C : Cx p m c cc nL s args RX4) (hR : rmX4_takesEnd.frames + 1 ≤ R.frames ∧ 8 + (1 + 11) + rmX4_takesEnd.locals ≤ R.locals) : CallW R s args RX4 (RX4, TX4, 11).1 59 yX4_takesEnd cX4_takesEnd 1 (some .boolean) (wd yX4_takesEnd cX4_takesEnd 1 (some .boolean)) rmX4_takesEnd rmX4_takesEnd.cells rmX4_takesEnd.slots 0 :=
  kV C (List.mem_of_getElem? (i := 309) (by decide +kernel)) (List.mem_of_getElem? (i := 306) (by decide +kernel)) (List.mem_of_getElem? (i := 307) (by decide +kernel)) (List.mem_of_getElem? (i := 308) (by decide +kernel)) (List.mem_of_getElem? (i := 23) (by decide +kernel)) ⟨by decide +kernel, by decide +kernel, by decide +kernel⟩ hR
theorem cs4_63 (C : Cx p m c cc nL s args RX4) (hR : rmX3_clear.frames + 1 ≤ R.frames ∧ 8 + (1 + 11) + rmX3_clear.locals ≤ R.locals) : CallW R s args RX4 (RX3, TX3, 10).1 63 yX3_clear cX3_clear 1 none (wd yX3_clear cX3_clear 1 none) rmX3_clear rmX3_clear.cells rmX3_clear.slots 0 :=
  kV C (List.mem_of_getElem? (i := 222) (by decide +kernel)) (List.mem_of_getElem? (i := 219) (by decide +kernel)) (List.mem_of_getElem? (i := 220) (by decide +kernel)) (List.mem_of_getElem? (i := 221) (by decide +kernel)) (List.mem_of_getElem? (i := 38) (by decide +kernel)) ⟨by decide +kernel, by decide +kernel, by decide +kernel⟩ hR
theorem cs4_66 (C : Cx p m c cc nL s args RX4) (hR : rmX4_takesTail.frames + 1 ≤ R.frames ∧ 8 + (3 + 11) + rmX4_takesTail.locals ≤ R.locals) : CallW R s args RX4 (RX4, TX4, 11).1 66 yX4_takesTail cX4_takesTail 3 (some .boolean) (wd yX4_takesTail cX4_takesTail 3 (some .boolean)) rmX4_takesTail rmX4_takesTail.cells rmX4_takesTail.slots 1 :=
  kV C (List.mem_of_getElem? (i := 230) (by decide +kernel)) (List.mem_of_getElem? (i := 227) (by decide +kernel)) (List.mem_of_getElem? (i := 228) (by decide +kernel)) (List.mem_of_getElem? (i := 229) (by decide +kernel)) (List.mem_of_getElem? (i := 23) (by decide +kernel)) ⟨by decide +kernel, by decide +kernel, by decide +kernel⟩ hR
theorem cs4_69 (C : Cx p m c cc nL s args RX4) (hR : rmX4_takesTest.frames + 1 ≤ R.frames ∧ 8 + (2 + 11) + rmX4_takesTest.locals ≤ R.locals) : CallW R s args RX4 (RX4, TX4, 11).1 69 yX4_takesTest cX4_takesTest 2 (some .boolean) (wd yX4_takesTest cX4_takesTest 2 (some .boolean)) rmX4_takesTest rmX4_takesTest.cells rmX4_takesTest.slots 1 :=
  kV C (List.mem_of_getElem? (i := 241) (by decide +kernel)) (List.mem_of_getElem? (i := 238) (by decide +kernel)) (List.mem_of_getElem? (i := 239) (by decide +kernel)) (List.mem_of_getElem? (i := 240) (by decide +kernel)) (List.mem_of_getElem? (i := 23) (by decide +kernel)) ⟨by decide +kernel, by decide +kernel, by decide +kernel⟩ hR
theorem cs4_72 (C : Cx p m c cc nL s args RX4) (hR : rmX4_takesRelation.frames + 1 ≤ R.frames ∧ 8 + (2 + 11) + rmX4_takesRelation.locals ≤ R.locals) : CallW R s args RX4 (RX4, TX4, 11).1 72 yX4_takesRelation cX4_takesRelation 2 (some .boolean) (wd yX4_takesRelation cX4_takesRelation 2 (some .boolean)) rmX4_takesRelation rmX4_takesRelation.cells rmX4_takesRelation.slots 1 :=
  kV C (List.mem_of_getElem? (i := 272) (by decide +kernel)) (List.mem_of_getElem? (i := 269) (by decide +kernel)) (List.mem_of_getElem? (i := 270) (by decide +kernel)) (List.mem_of_getElem? (i := 271) (by decide +kernel)) (List.mem_of_getElem? (i := 23) (by decide +kernel)) ⟨by decide +kernel, by decide +kernel, by decide +kernel⟩ hR
theorem cs4_75 (C : Cx p m c cc nL s args RX4) (hR : rmX4_takesFigure.frames + 1 ≤ R.frames ∧ 8 + (2 + 11) + rmX4_takesFigure.locals ≤ R.locals) : CallW R s args RX4 (RX4, TX4, 11).1 75 yX4_takesFigure cX4_takesFigure 2 (some .boolean) (wd yX4_takesFigure cX4_takesFigure 2 (some .boolean)) rmX4_takesFigure rmX4_takesFigure.cells rmX4_takesFigure.slots 1 :=
  kV C (List.mem_of_getElem? (i := 276) (by decide +kernel)) (List.mem_of_getElem? (i := 273) (by decide +kernel)) (List.mem_of_getElem? (i := 274) (by decide +kernel)) (List.mem_of_getElem? (i := 275) (by decide +kernel)) (List.mem_of_getElem? (i := 23) (by decide +kernel)) ⟨by decide +kernel, by decide +kernel, by decide +kernel⟩ hR
theorem cs4_78 (C : Cx p m c cc nL s args RX4) (hR : rmX4_endFieldTest.frames + 1 ≤ R.frames ∧ 8 + (1 + 11) + rmX4_endFieldTest.locals ≤ R.locals) : CallW R s args RX4 (RX4, TX4, 11).1 78 yX4_endFieldTest cX4_endFieldTest 1 none (wd yX4_endFieldTest cX4_endFieldTest 1 none) rmX4_endFieldTest rmX4_endFieldTest.cells rmX4_endFieldTest.slots 0 :=
  kV C (List.mem_of_getElem? (i := 280) (by decide +kernel)) (List.mem_of_getElem? (i := 277) (by decide +kernel)) (List.mem_of_getElem? (i := 278) (by decide +kernel)) (List.mem_of_getElem? (i := 279) (by decide +kernel)) (List.mem_of_getElem? (i := 23) (by decide +kernel)) ⟨by decide +kernel, by decide +kernel, by decide +kernel⟩ hR
theorem cs4_81 (C : Cx p m c cc nL s args RX4) (hR : rmX4_takesBehindTest.frames + 1 ≤ R.frames ∧ 8 + (2 + 11) + rmX4_takesBehindTest.locals ≤ R.locals) : CallW R s args RX4 (RX4, TX4, 11).1 81 yX4_takesBehindTest cX4_takesBehindTest 2 (some .boolean) (wd yX4_takesBehindTest cX4_takesBehindTest 2 (some .boolean)) rmX4_takesBehindTest rmX4_takesBehindTest.cells rmX4_takesBehindTest.slots 1 :=
  kV C (List.mem_of_getElem? (i := 293) (by decide +kernel)) (List.mem_of_getElem? (i := 290) (by decide +kernel)) (List.mem_of_getElem? (i := 291) (by decide +kernel)) (List.mem_of_getElem? (i := 292) (by decide +kernel)) (List.mem_of_getElem? (i := 23) (by decide +kernel)) ⟨by decide +kernel, by decide +kernel, by decide +kernel⟩ hR
theorem cs4_84 (C : Cx p m c cc nL s args RX4) (hR : rmX4_takesTailField.frames + 1 ≤ R.frames ∧ 8 + (2 + 11) + rmX4_takesTailField.locals ≤ R.locals) : CallW R s args RX4 (RX4, TX4, 11).1 84 yX4_takesTailField cX4_takesTailField 2 (some .boolean) (wd yX4_takesTailField cX4_takesTailField 2 (some .boolean)) rmX4_takesTailField rmX4_takesTailField.cells rmX4_takesTailField.slots 1 :=
  kV C (List.mem_of_getElem? (i := 301) (by decide +kernel)) (List.mem_of_getElem? (i := 298) (by decide +kernel)) (List.mem_of_getElem? (i := 299) (by decide +kernel)) (List.mem_of_getElem? (i := 300) (by decide +kernel)) (List.mem_of_getElem? (i := 23) (by decide +kernel)) ⟨by decide +kernel, by decide +kernel, by decide +kernel⟩ hR
theorem cs4_87 (C : Cx p m c cc nL s args RX4) (hR : rmX4_takesTurn.frames + 1 ≤ R.frames ∧ 8 + (1 + 11) + rmX4_takesTurn.locals ≤ R.locals) : CallW R s args RX4 (RX4, TX4, 11).1 87 yX4_takesTurn cX4_takesTurn 1 (some .boolean) (wd yX4_takesTurn cX4_takesTurn 1 (some .boolean)) rmX4_takesTurn rmX4_takesTurn.cells rmX4_takesTurn.slots 0 :=
  kV C (List.mem_of_getElem? (i := 245) (by decide +kernel)) (List.mem_of_getElem? (i := 242) (by decide +kernel)) (List.mem_of_getElem? (i := 243) (by decide +kernel)) (List.mem_of_getElem? (i := 244) (by decide +kernel)) (List.mem_of_getElem? (i := 23) (by decide +kernel)) ⟨by decide +kernel, by decide +kernel, by decide +kernel⟩ hR
theorem cs4_90 (C : Cx p m c cc nL s args RX4) (hR : rmX4_takesOpen.frames + 1 ≤ R.frames ∧ 8 + (1 + 11) + rmX4_takesOpen.locals ≤ R.locals) : CallW R s args RX4 (RX4, TX4, 11).1 90 yX4_takesOpen cX4_takesOpen 1 (some .boolean) (wd yX4_takesOpen cX4_takesOpen 1 (some .boolean)) rmX4_takesOpen rmX4_takesOpen.cells rmX4_takesOpen.slots 0 :=
  kV C (List.mem_of_getElem? (i := 253) (by decide +kernel)) (List.mem_of_getElem? (i := 250) (by decide +kernel)) (List.mem_of_getElem? (i := 251) (by decide +kernel)) (List.mem_of_getElem? (i := 252) (by decide +kernel)) (List.mem_of_getElem? (i := 23) (by decide +kernel)) ⟨by decide +kernel, by decide +kernel, by decide +kernel⟩ hR
theorem cs4_93 (C : Cx p m c cc nL s args RX4) (hR : rmX4_takesTestField.frames + 1 ≤ R.frames ∧ 8 + (2 + 11) + rmX4_takesTestField.locals ≤ R.locals) : CallW R s args RX4 (RX4, TX4, 11).1 93 yX4_takesTestField cX4_takesTestField 2 (some .boolean) (wd yX4_takesTestField cX4_takesTestField 2 (some .boolean)) rmX4_takesTestField rmX4_takesTestField.cells rmX4_takesTestField.slots 1 :=
  kV C (List.mem_of_getElem? (i := 257) (by decide +kernel)) (List.mem_of_getElem? (i := 254) (by decide +kernel)) (List.mem_of_getElem? (i := 255) (by decide +kernel)) (List.mem_of_getElem? (i := 256) (by decide +kernel)) (List.mem_of_getElem? (i := 23) (by decide +kernel)) ⟨by decide +kernel, by decide +kernel, by decide +kernel⟩ hR
theorem cs4_96 (C : Cx p m c cc nL s args RX4) (hR : rmX3_addStep.frames + 1 ≤ R.frames ∧ 8 + (2 + 11) + rmX3_addStep.locals ≤ R.locals) : CallW R s args RX4 (RX3, TX3, 10).1 96 yX3_addStep cX3_addStep 2 none (wd yX3_addStep cX3_addStep 2 none) rmX3_addStep rmX3_addStep.cells rmX3_addStep.slots 1 :=
  kV C (List.mem_of_getElem? (i := 249) (by decide +kernel)) (List.mem_of_getElem? (i := 246) (by decide +kernel)) (List.mem_of_getElem? (i := 247) (by decide +kernel)) (List.mem_of_getElem? (i := 248) (by decide +kernel)) (List.mem_of_getElem? (i := 38) (by decide +kernel)) ⟨by decide +kernel, by decide +kernel, by decide +kernel⟩ hR
theorem cs4_99 (C : Cx p m c cc nL s args RX4) (hR : rmX4_endTest.frames + 1 ≤ R.frames ∧ 8 + (1 + 11) + rmX4_endTest.locals ≤ R.locals) : CallW R s args RX4 (RX4, TX4, 11).1 99 yX4_endTest cX4_endTest 1 none (wd yX4_endTest cX4_endTest 1 none) rmX4_endTest rmX4_endTest.cells rmX4_endTest.slots 0 :=
  kV C (List.mem_of_getElem? (i := 289) (by decide +kernel)) (List.mem_of_getElem? (i := 286) (by decide +kernel)) (List.mem_of_getElem? (i := 287) (by decide +kernel)) (List.mem_of_getElem? (i := 288) (by decide +kernel)) (List.mem_of_getElem? (i := 23) (by decide +kernel)) ⟨by decide +kernel, by decide +kernel, by decide +kernel⟩ hR
theorem cs4_102 (C : Cx p m c cc nL s args RX4) (hR : rmX4_isOpenField.frames + 1 ≤ R.frames ∧ 8 + (3 + 11) + rmX4_isOpenField.locals ≤ R.locals) : CallW R s args RX4 (RX4, TX4, 11).1 102 yX4_isOpenField cX4_isOpenField 3 (some .boolean) (wd yX4_isOpenField cX4_isOpenField 3 (some .boolean)) rmX4_isOpenField rmX4_isOpenField.cells rmX4_isOpenField.slots 1 :=
  kV C (List.mem_of_getElem? (i := 261) (by decide +kernel)) (List.mem_of_getElem? (i := 258) (by decide +kernel)) (List.mem_of_getElem? (i := 259) (by decide +kernel)) (List.mem_of_getElem? (i := 260) (by decide +kernel)) (List.mem_of_getElem? (i := 23) (by decide +kernel)) ⟨by decide +kernel, by decide +kernel, by decide +kernel⟩ hR
theorem cs4_105 (C : Cx p m c cc nL s args RX4) (hR : rmX3_tests.frames + 1 ≤ R.frames ∧ 8 + (1 + 11) + rmX3_tests.locals ≤ R.locals) : CallW R s args RX4 (RX3, TX3, 10).1 105 yX3_tests cX3_tests 1 (some .int) (wd yX3_tests cX3_tests 1 (some .int)) rmX3_tests rmX3_tests.cells rmX3_tests.slots 0 :=
  kV C (List.mem_of_getElem? (i := 268) (by decide +kernel)) (List.mem_of_getElem? (i := 265) (by decide +kernel)) (List.mem_of_getElem? (i := 266) (by decide +kernel)) (List.mem_of_getElem? (i := 267) (by decide +kernel)) (List.mem_of_getElem? (i := 38) (by decide +kernel)) ⟨by decide +kernel, by decide +kernel, by decide +kernel⟩ hR
theorem cs4_109 (C : Cx p m c cc nL s args RX4) (hR : rmX4_fieldOf.frames + 1 ≤ R.frames ∧ 8 + (1 + 11) + rmX4_fieldOf.locals ≤ R.locals) : CallB R s args RX4 109 yX4_fieldOf cX4_fieldOf 1 (some .int) (wd yX4_fieldOf cX4_fieldOf 1 (some .int)) rmX4_fieldOf rmX4_fieldOf.cells rmX4_fieldOf.slots 1 ∧ (Cond.static yX4_fieldOf).before args s = true :=
  kS C (List.mem_of_getElem? (i := 264) (by decide +kernel)) (List.mem_of_getElem? (i := 262) (by decide +kernel)) (List.mem_of_getElem? (i := 263) (by decide +kernel)) (List.mem_of_getElem? (i := 23) (by decide +kernel)) ⟨by decide +kernel, by decide +kernel, by decide +kernel⟩ hR
theorem cs4_113 (C : Cx p m c cc nL s args RX4) (hR : rmX4_takesClose.frames + 1 ≤ R.frames ∧ 8 + (1 + 11) + rmX4_takesClose.locals ≤ R.locals) : CallW R s args RX4 (RX4, TX4, 11).1 113 yX4_takesClose cX4_takesClose 1 (some .boolean) (wd yX4_takesClose cX4_takesClose 1 (some .boolean)) rmX4_takesClose rmX4_takesClose.cells rmX4_takesClose.slots 0 :=
  kV C (List.mem_of_getElem? (i := 297) (by decide +kernel)) (List.mem_of_getElem? (i := 294) (by decide +kernel)) (List.mem_of_getElem? (i := 295) (by decide +kernel)) (List.mem_of_getElem? (i := 296) (by decide +kernel)) (List.mem_of_getElem? (i := 23) (by decide +kernel)) ⟨by decide +kernel, by decide +kernel, by decide +kernel⟩ hR
theorem cs4_116 (C : Cx p m c cc nL s args RX4) (hR : rmX4_tailOf.frames + 1 ≤ R.frames ∧ 8 + (1 + 11) + rmX4_tailOf.locals ≤ R.locals) : CallB R s args RX4 116 yX4_tailOf cX4_tailOf 1 (some .int) (wd yX4_tailOf cX4_tailOf 1 (some .int)) rmX4_tailOf rmX4_tailOf.cells rmX4_tailOf.slots 1 ∧ (Cond.static yX4_tailOf).before args s = true :=
  kS C (List.mem_of_getElem? (i := 233) (by decide +kernel)) (List.mem_of_getElem? (i := 231) (by decide +kernel)) (List.mem_of_getElem? (i := 232) (by decide +kernel)) (List.mem_of_getElem? (i := 23) (by decide +kernel)) ⟨by decide +kernel, by decide +kernel, by decide +kernel⟩ hR
theorem cs4_119 (C : Cx p m c cc nL s args RX4) (hR : rmX3_setTail.frames + 1 ≤ R.frames ∧ 8 + (2 + 11) + rmX3_setTail.locals ≤ R.locals) : CallW R s args RX4 (RX3, TX3, 10).1 119 yX3_setTail cX3_setTail 2 none (wd yX3_setTail cX3_setTail 2 none) rmX3_setTail rmX3_setTail.cells rmX3_setTail.slots 1 :=
  kV C (List.mem_of_getElem? (i := 237) (by decide +kernel)) (List.mem_of_getElem? (i := 234) (by decide +kernel)) (List.mem_of_getElem? (i := 235) (by decide +kernel)) (List.mem_of_getElem? (i := 236) (by decide +kernel)) (List.mem_of_getElem? (i := 38) (by decide +kernel)) ⟨by decide +kernel, by decide +kernel, by decide +kernel⟩ hR
theorem cs4_122 (C : Cx p m c cc nL s args RX4) (hR : rmX3_setTailField.frames + 1 ≤ R.frames ∧ 8 + (2 + 11) + rmX3_setTailField.locals ≤ R.locals) : CallW R s args RX4 (RX3, TX3, 10).1 122 yX3_setTailField cX3_setTailField 2 none (wd yX3_setTailField cX3_setTailField 2 none) rmX3_setTailField rmX3_setTailField.cells rmX3_setTailField.slots 1 :=
  kV C (List.mem_of_getElem? (i := 305) (by decide +kernel)) (List.mem_of_getElem? (i := 302) (by decide +kernel)) (List.mem_of_getElem? (i := 303) (by decide +kernel)) (List.mem_of_getElem? (i := 304) (by decide +kernel)) (List.mem_of_getElem? (i := 38) (by decide +kernel)) ⟨by decide +kernel, by decide +kernel, by decide +kernel⟩ hR
theorem cs4_125 (C : Cx p m c cc nL s args RX4) (hR : rmX3_addTest.frames + 1 ≤ R.frames ∧ 8 + (4 + 11) + rmX3_addTest.locals ≤ R.locals) : CallW R s args RX4 (RX3, TX3, 10).1 125 yX3_addTest cX3_addTest 4 none (wd yX3_addTest cX3_addTest 4 none) rmX3_addTest rmX3_addTest.cells rmX3_addTest.slots 3 :=
  kV C (List.mem_of_getElem? (i := 284) (by decide +kernel)) (List.mem_of_getElem? (i := 281) (by decide +kernel)) (List.mem_of_getElem? (i := 282) (by decide +kernel)) (List.mem_of_getElem? (i := 283) (by decide +kernel)) (List.mem_of_getElem? (i := 38) (by decide +kernel)) ⟨by decide +kernel, by decide +kernel, by decide +kernel⟩ hR
theorem cs5_24 (C : Cx p m c cc nL s args RX5) (hR : rmX5_kindsOf.frames + 1 ≤ R.frames ∧ 8 + (3 + 11) + rmX5_kindsOf.locals ≤ R.locals) : CallW R s args RX5 (RX5, TX5, 3).1 24 yX5_kindsOf cX5_kindsOf 3 (some .int) (wd yX5_kindsOf cX5_kindsOf 3 (some .int)) rmX5_kindsOf rmX5_kindsOf.cells rmX5_kindsOf.slots 2 :=
  kV C (List.mem_of_getElem? (i := 356) (by decide +kernel)) (List.mem_of_getElem? (i := 353) (by decide +kernel)) (List.mem_of_getElem? (i := 354) (by decide +kernel)) (List.mem_of_getElem? (i := 355) (by decide +kernel)) (List.mem_of_getElem? (i := 19) (by decide +kernel)) ⟨by decide +kernel, by decide +kernel, by decide +kernel⟩ hR
theorem cs6_27 (C : Cx p m c cc nL s args RX6) (hR : rmX6_putInOrders.frames + 1 ≤ R.frames ∧ 8 + (3 + 11) + rmX6_putInOrders.locals ≤ R.locals) : CallW R s args RX6 (RX6, TX6, 4).1 27 yX6_putInOrders cX6_putInOrders 3 none (wd yX6_putInOrders cX6_putInOrders 3 none) rmX6_putInOrders rmX6_putInOrders.cells rmX6_putInOrders.slots 0 :=
  kV C (List.mem_of_getElem? (i := 158) (by decide +kernel)) (List.mem_of_getElem? (i := 155) (by decide +kernel)) (List.mem_of_getElem? (i := 156) (by decide +kernel)) (List.mem_of_getElem? (i := 157) (by decide +kernel)) (List.mem_of_getElem? (i := 15) (by decide +kernel)) ⟨by decide +kernel, by decide +kernel, by decide +kernel⟩ hR
theorem cs6_32 (C : Cx p m c cc nL s args RX6) (hR : rmX6_value.frames + 1 ≤ R.frames ∧ 8 + (3 + 11) + rmX6_value.locals ≤ R.locals) : CallW R s args RX6 (RX6, TX6, 4).1 32 yX6_value cX6_value 3 (some .int) (wd yX6_value cX6_value 3 (some .int)) rmX6_value rmX6_value.cells rmX6_value.slots 2 :=
  kV C (List.mem_of_getElem? (i := 162) (by decide +kernel)) (List.mem_of_getElem? (i := 159) (by decide +kernel)) (List.mem_of_getElem? (i := 160) (by decide +kernel)) (List.mem_of_getElem? (i := 161) (by decide +kernel)) (List.mem_of_getElem? (i := 15) (by decide +kernel)) ⟨by decide +kernel, by decide +kernel, by decide +kernel⟩ hR
theorem cs6_36 (C : Cx p m c cc nL s args RX6) (hR : rmX6_behindLast.frames + 1 ≤ R.frames ∧ 8 + (7 + 11) + rmX6_behindLast.locals ≤ R.locals) : CallW R s args RX6 (RX6, TX6, 4).1 36 yX6_behindLast cX6_behindLast 7 (some .int) (wd yX6_behindLast cX6_behindLast 7 (some .int)) rmX6_behindLast rmX6_behindLast.cells rmX6_behindLast.slots 3 :=
  kV C (List.mem_of_getElem? (i := 166) (by decide +kernel)) (List.mem_of_getElem? (i := 163) (by decide +kernel)) (List.mem_of_getElem? (i := 164) (by decide +kernel)) (List.mem_of_getElem? (i := 165) (by decide +kernel)) (List.mem_of_getElem? (i := 15) (by decide +kernel)) ⟨by decide +kernel, by decide +kernel, by decide +kernel⟩ hR
theorem cs6_40 (C : Cx p m c cc nL s args RX6) (hR : rmX6_insert.frames + 1 ≤ R.frames ∧ 8 + (4 + 11) + rmX6_insert.locals ≤ R.locals) : CallW R s args RX6 (RX6, TX6, 4).1 40 yX6_insert cX6_insert 4 none (wd yX6_insert cX6_insert 4 none) rmX6_insert rmX6_insert.cells rmX6_insert.slots 2 :=
  kV C (List.mem_of_getElem? (i := 174) (by decide +kernel)) (List.mem_of_getElem? (i := 171) (by decide +kernel)) (List.mem_of_getElem? (i := 172) (by decide +kernel)) (List.mem_of_getElem? (i := 173) (by decide +kernel)) (List.mem_of_getElem? (i := 15) (by decide +kernel)) ⟨by decide +kernel, by decide +kernel, by decide +kernel⟩ hR
theorem cs6_44 (C : Cx p m c cc nL s args RX6) (hR : rmX6_numberAt.frames + 1 ≤ R.frames ∧ 8 + (4 + 11) + rmX6_numberAt.locals ≤ R.locals) : CallW R s args RX6 (RX6, TX6, 4).1 44 yX6_numberAt cX6_numberAt 4 (some .int) (wd yX6_numberAt cX6_numberAt 4 (some .int)) rmX6_numberAt rmX6_numberAt.cells rmX6_numberAt.slots 3 :=
  kV C (List.mem_of_getElem? (i := 170) (by decide +kernel)) (List.mem_of_getElem? (i := 167) (by decide +kernel)) (List.mem_of_getElem? (i := 168) (by decide +kernel)) (List.mem_of_getElem? (i := 169) (by decide +kernel)) (List.mem_of_getElem? (i := 15) (by decide +kernel)) ⟨by decide +kernel, by decide +kernel, by decide +kernel⟩ hR
theorem cs7_89 (C : Cx p m c cc nL s args RX7) (hR : rmX7_isBelow.frames + 1 ≤ R.frames ∧ 8 + (3 + 11) + rmX7_isBelow.locals ≤ R.locals) : CallB R s args RX7 89 yX7_isBelow cX7_isBelow 3 (some .boolean) (wd yX7_isBelow cX7_isBelow 3 (some .boolean)) rmX7_isBelow rmX7_isBelow.cells rmX7_isBelow.slots 2 ∧ (Cond.static yX7_isBelow).before args s = true :=
  kS C (List.mem_of_getElem? (i := 145) (by decide +kernel)) (List.mem_of_getElem? (i := 143) (by decide +kernel)) (List.mem_of_getElem? (i := 144) (by decide +kernel)) (List.mem_of_getElem? (i := 2) (by decide +kernel)) ⟨by decide +kernel, by decide +kernel, by decide +kernel⟩ hR
theorem cs7_94 (C : Cx p m c cc nL s args RX7) (hR : rmX6_count.frames + 1 ≤ R.frames ∧ 8 + (1 + 11) + rmX6_count.locals ≤ R.locals) : CallW R s args RX7 (RX6, TX6, 4).1 94 yX6_count cX6_count 1 (some .int) (wd yX6_count cX6_count 1 (some .int)) rmX6_count rmX6_count.cells rmX6_count.slots 0 :=
  kV C (List.mem_of_getElem? (i := 149) (by decide +kernel)) (List.mem_of_getElem? (i := 146) (by decide +kernel)) (List.mem_of_getElem? (i := 147) (by decide +kernel)) (List.mem_of_getElem? (i := 148) (by decide +kernel)) (List.mem_of_getElem? (i := 15) (by decide +kernel)) ⟨by decide +kernel, by decide +kernel, by decide +kernel⟩ hR
theorem cs7_99 (C : Cx p m c cc nL s args RX7) (hR : rmX6_add.frames + 1 ≤ R.frames ∧ 8 + (6 + 11) + rmX6_add.locals ≤ R.locals) : CallW R s args RX7 (RX6, TX6, 4).1 99 yX6_add cX6_add 6 (some .int) (wd yX6_add cX6_add 6 (some .int)) rmX6_add rmX6_add.cells rmX6_add.slots 5 :=
  kV C (List.mem_of_getElem? (i := 153) (by decide +kernel)) (List.mem_of_getElem? (i := 150) (by decide +kernel)) (List.mem_of_getElem? (i := 151) (by decide +kernel)) (List.mem_of_getElem? (i := 152) (by decide +kernel)) (List.mem_of_getElem? (i := 15) (by decide +kernel)) ⟨by decide +kernel, by decide +kernel, by decide +kernel⟩ hR
theorem cs7_104 (C : Cx p m c cc nL s args RX7) (hR : rmX7_readText.frames + 1 ≤ R.frames ∧ 8 + (3 + 11) + rmX7_readText.locals ≤ R.locals) : CallW R s args RX7 (RX7, TX7, 16).1 104 yX7_readText cX7_readText 3 (some .int) (wd yX7_readText cX7_readText 3 (some .int)) rmX7_readText rmX7_readText.cells rmX7_readText.slots 1 :=
  kV C (List.mem_of_getElem? (i := 210) (by decide +kernel)) (List.mem_of_getElem? (i := 207) (by decide +kernel)) (List.mem_of_getElem? (i := 208) (by decide +kernel)) (List.mem_of_getElem? (i := 209) (by decide +kernel)) (List.mem_of_getElem? (i := 2) (by decide +kernel)) ⟨by decide +kernel, by decide +kernel, by decide +kernel⟩ hR
theorem cs7_108 (C : Cx p m c cc nL s args RX7) (hR : rmX4_draft.frames + 1 ≤ R.frames ∧ 8 + (1 + 11) + rmX4_draft.locals ≤ R.locals) : CallW R s args RX7 (RX4, TX4, 11).1 108 yX4_draft cX4_draft 1 (some (.object "TraceQuestions$Question")) (wd yX4_draft cX4_draft 1 (some (.object "TraceQuestions$Question"))) rmX4_draft rmX4_draft.cells rmX4_draft.slots 0 :=
  kV C (List.mem_of_getElem? (i := 313) (by decide +kernel)) (List.mem_of_getElem? (i := 310) (by decide +kernel)) (List.mem_of_getElem? (i := 311) (by decide +kernel)) (List.mem_of_getElem? (i := 312) (by decide +kernel)) (List.mem_of_getElem? (i := 23) (by decide +kernel)) ⟨by decide +kernel, by decide +kernel, by decide +kernel⟩ hR
theorem cs7_112 (C : Cx p m c cc nL s args RX7) (hR : rmX7_costOf.frames + 1 ≤ R.frames ∧ 8 + (2 + 11) + rmX7_costOf.locals ≤ R.locals) : CallW R s args RX7 (RX7, TX7, 16).1 112 yX7_costOf cX7_costOf 2 (some .long) (wd yX7_costOf cX7_costOf 2 (some .long)) rmX7_costOf rmX7_costOf.cells rmX7_costOf.slots 1 :=
  kV C (List.mem_of_getElem? (i := 321) (by decide +kernel)) (List.mem_of_getElem? (i := 318) (by decide +kernel)) (List.mem_of_getElem? (i := 319) (by decide +kernel)) (List.mem_of_getElem? (i := 320) (by decide +kernel)) (List.mem_of_getElem? (i := 2) (by decide +kernel)) ⟨by decide +kernel, by decide +kernel, by decide +kernel⟩ hR
theorem cs7_117 (C : Cx p m c cc nL s args RX7) (hR : rmX7_search.frames + 1 ≤ R.frames ∧ 8 + (6 + 11) + rmX7_search.locals ≤ R.locals) : CallW R s args RX7 (RX7, TX7, 16).1 117 yX7_search cX7_search 6 none (wd yX7_search cX7_search 6 none) rmX7_search rmX7_search.cells rmX7_search.slots 3 :=
  kV C (List.mem_of_getElem? (i := 326) (by decide +kernel)) (List.mem_of_getElem? (i := 323) (by decide +kernel)) (List.mem_of_getElem? (i := 324) (by decide +kernel)) (List.mem_of_getElem? (i := 325) (by decide +kernel)) (List.mem_of_getElem? (i := 2) (by decide +kernel)) ⟨by decide +kernel, by decide +kernel, by decide +kernel⟩ hR
theorem cs7_121 (C : Cx p m c cc nL s args RX7) (hR : rmX4_writeNextInto.frames + 1 ≤ R.frames ∧ 8 + (2 + 11) + rmX4_writeNextInto.locals ≤ R.locals) : CallW R s args RX7 (RX4, TX4, 11).1 121 yX4_writeNextInto cX4_writeNextInto 2 none (wd yX4_writeNextInto cX4_writeNextInto 2 none) rmX4_writeNextInto rmX4_writeNextInto.cells rmX4_writeNextInto.slots 1 :=
  kV C (List.mem_of_getElem? (i := 402) (by decide +kernel)) (List.mem_of_getElem? (i := 399) (by decide +kernel)) (List.mem_of_getElem? (i := 400) (by decide +kernel)) (List.mem_of_getElem? (i := 401) (by decide +kernel)) (List.mem_of_getElem? (i := 23) (by decide +kernel)) ⟨by decide +kernel, by decide +kernel, by decide +kernel⟩ hR
theorem cs7_125 (C : Cx p m c cc nL s args RX7) (hR : rmX0_count.frames + 1 ≤ R.frames ∧ 8 + (1 + 11) + rmX0_count.locals ≤ R.locals) : CallW R s args RX7 (RX0, TX0, 3).1 125 yX0_count cX0_count 1 (some .int) (wd yX0_count cX0_count 1 (some .int)) rmX0_count rmX0_count.cells rmX0_count.slots 0 :=
  kV C (List.mem_of_getElem? (i := 406) (by decide +kernel)) (List.mem_of_getElem? (i := 403) (by decide +kernel)) (List.mem_of_getElem? (i := 404) (by decide +kernel)) (List.mem_of_getElem? (i := 405) (by decide +kernel)) (List.mem_of_getElem? (i := 43) (by decide +kernel)) ⟨by decide +kernel, by decide +kernel, by decide +kernel⟩ hR
theorem cs7_128 (C : Cx p m c cc nL s args RX7) (hR : rmX0_first.frames + 1 ≤ R.frames ∧ 8 + (2 + 11) + rmX0_first.locals ≤ R.locals) : CallW R s args RX7 (RX0, TX0, 3).1 128 yX0_first cX0_first 2 (some .int) (wd yX0_first cX0_first 2 (some .int)) rmX0_first rmX0_first.cells rmX0_first.slots 1 :=
  kV C (List.mem_of_getElem? (i := 488) (by decide +kernel)) (List.mem_of_getElem? (i := 485) (by decide +kernel)) (List.mem_of_getElem? (i := 486) (by decide +kernel)) (List.mem_of_getElem? (i := 487) (by decide +kernel)) (List.mem_of_getElem? (i := 43) (by decide +kernel)) ⟨by decide +kernel, by decide +kernel, by decide +kernel⟩ hR
theorem cs7_131 (C : Cx p m c cc nL s args RX7) (hR : rmX3_tail.frames + 1 ≤ R.frames ∧ 8 + (1 + 11) + rmX3_tail.locals ≤ R.locals) : CallW R s args RX7 (RX3, TX3, 10).1 131 yX3_tail cX3_tail 1 (some .int) (wd yX3_tail cX3_tail 1 (some .int)) rmX3_tail rmX3_tail.cells rmX3_tail.slots 0 :=
  kV C (List.mem_of_getElem? (i := 334) (by decide +kernel)) (List.mem_of_getElem? (i := 331) (by decide +kernel)) (List.mem_of_getElem? (i := 332) (by decide +kernel)) (List.mem_of_getElem? (i := 333) (by decide +kernel)) (List.mem_of_getElem? (i := 38) (by decide +kernel)) ⟨by decide +kernel, by decide +kernel, by decide +kernel⟩ hR
theorem cs7_134 (C : Cx p m c cc nL s args RX7) (hR : rmX0_howMany.frames + 1 ≤ R.frames ∧ 8 + (2 + 11) + rmX0_howMany.locals ≤ R.locals) : CallW R s args RX7 (RX0, TX0, 3).1 134 yX0_howMany cX0_howMany 2 (some .int) (wd yX0_howMany cX0_howMany 2 (some .int)) rmX0_howMany rmX0_howMany.cells rmX0_howMany.slots 1 :=
  kV C (List.mem_of_getElem? (i := 492) (by decide +kernel)) (List.mem_of_getElem? (i := 489) (by decide +kernel)) (List.mem_of_getElem? (i := 490) (by decide +kernel)) (List.mem_of_getElem? (i := 491) (by decide +kernel)) (List.mem_of_getElem? (i := 43) (by decide +kernel)) ⟨by decide +kernel, by decide +kernel, by decide +kernel⟩ hR
theorem cs7_137 (C : Cx p m c cc nL s args RX7) (hR : rmX7_isMasked.frames + 1 ≤ R.frames ∧ 8 + (2 + 11) + rmX7_isMasked.locals ≤ R.locals) : CallW R s args RX7 (RX7, TX7, 16).1 137 yX7_isMasked cX7_isMasked 2 (some .boolean) (wd yX7_isMasked cX7_isMasked 2 (some .boolean)) rmX7_isMasked rmX7_isMasked.cells rmX7_isMasked.slots 1 :=
  kV C (List.mem_of_getElem? (i := 496) (by decide +kernel)) (List.mem_of_getElem? (i := 493) (by decide +kernel)) (List.mem_of_getElem? (i := 494) (by decide +kernel)) (List.mem_of_getElem? (i := 495) (by decide +kernel)) (List.mem_of_getElem? (i := 2) (by decide +kernel)) ⟨by decide +kernel, by decide +kernel, by decide +kernel⟩ hR
theorem cs7_141 (C : Cx p m c cc nL s args RX7) (hR : rmX6_value.frames + 1 ≤ R.frames ∧ 8 + (3 + 11) + rmX6_value.locals ≤ R.locals) : CallW R s args RX7 (RX6, TX6, 4).1 141 yX6_value cX6_value 3 (some .int) (wd yX6_value cX6_value 3 (some .int)) rmX6_value rmX6_value.cells rmX6_value.slots 2 :=
  kV C (List.mem_of_getElem? (i := 162) (by decide +kernel)) (List.mem_of_getElem? (i := 348) (by decide +kernel)) (List.mem_of_getElem? (i := 160) (by decide +kernel)) (List.mem_of_getElem? (i := 161) (by decide +kernel)) (List.mem_of_getElem? (i := 15) (by decide +kernel)) ⟨by decide +kernel, by decide +kernel, by decide +kernel⟩ hR
theorem cs7_147 (C : Cx p m c cc nL s args RX7) (hR : rmX5_holds.frames + 1 ≤ R.frames ∧ 8 + (4 + 11) + rmX5_holds.locals ≤ R.locals) : CallW R s args RX7 (RX5, TX5, 3).1 147 yX5_holds cX5_holds 4 (some .boolean) (wd yX5_holds cX5_holds 4 (some .boolean)) rmX5_holds rmX5_holds.cells rmX5_holds.slots 3 :=
  kV C (List.mem_of_getElem? (i := 521) (by decide +kernel)) (List.mem_of_getElem? (i := 518) (by decide +kernel)) (List.mem_of_getElem? (i := 519) (by decide +kernel)) (List.mem_of_getElem? (i := 520) (by decide +kernel)) (List.mem_of_getElem? (i := 19) (by decide +kernel)) ⟨by decide +kernel, by decide +kernel, by decide +kernel⟩ hR
theorem cs7_151 (C : Cx p m c cc nL s args RX7) (hR : rmX5_count.frames + 1 ≤ R.frames ∧ 8 + (1 + 11) + rmX5_count.locals ≤ R.locals) : CallW R s args RX7 (RX5, TX5, 3).1 151 yX5_count cX5_count 1 (some .int) (wd yX5_count cX5_count 1 (some .int)) rmX5_count rmX5_count.cells rmX5_count.slots 0 :=
  kV C (List.mem_of_getElem? (i := 525) (by decide +kernel)) (List.mem_of_getElem? (i := 522) (by decide +kernel)) (List.mem_of_getElem? (i := 523) (by decide +kernel)) (List.mem_of_getElem? (i := 524) (by decide +kernel)) (List.mem_of_getElem? (i := 19) (by decide +kernel)) ⟨by decide +kernel, by decide +kernel, by decide +kernel⟩ hR
theorem cs7_152 (C : Cx p m c cc nL s args RX7) (hR : rmX5_add.frames + 1 ≤ R.frames ∧ 8 + (4 + 11) + rmX5_add.locals ≤ R.locals) : CallW R s args RX7 (RX5, TX5, 3).1 152 yX5_add cX5_add 4 none (wd yX5_add cX5_add 4 none) rmX5_add rmX5_add.cells rmX5_add.slots 3 :=
  kV C (List.mem_of_getElem? (i := 529) (by decide +kernel)) (List.mem_of_getElem? (i := 526) (by decide +kernel)) (List.mem_of_getElem? (i := 527) (by decide +kernel)) (List.mem_of_getElem? (i := 528) (by decide +kernel)) (List.mem_of_getElem? (i := 19) (by decide +kernel)) ⟨by decide +kernel, by decide +kernel, by decide +kernel⟩ hR
theorem cs7_155 (C : Cx p m c cc nL s args RX7) (hR : rmX5_countOf.frames + 1 ≤ R.frames ∧ 8 + (2 + 11) + rmX5_countOf.locals ≤ R.locals) : CallW R s args RX7 (RX5, TX5, 3).1 155 yX5_countOf cX5_countOf 2 (some .int) (wd yX5_countOf cX5_countOf 2 (some .int)) rmX5_countOf rmX5_countOf.cells rmX5_countOf.slots 1 :=
  kV C (List.mem_of_getElem? (i := 533) (by decide +kernel)) (List.mem_of_getElem? (i := 530) (by decide +kernel)) (List.mem_of_getElem? (i := 531) (by decide +kernel)) (List.mem_of_getElem? (i := 532) (by decide +kernel)) (List.mem_of_getElem? (i := 19) (by decide +kernel)) ⟨by decide +kernel, by decide +kernel, by decide +kernel⟩ hR
theorem cs7_162 (C : Cx p m c cc nL s args RX7) (hR : rmX2_init.frames + 1 ≤ R.frames ∧ 8 + (6 + 11) + rmX2_init.locals ≤ R.locals) : CallB R s args RX7 162 yX2_init cX2_init 6 none (wd yX2_init cX2_init 6 none) rmX2_init rmX2_init.cells rmX2_init.slots 3 ∧ yX2_init.name = "<init>" ∧ (Cond.instanceMethod yX2_init).before args s = true :=
  kI C (List.mem_of_getElem? (i := 574) (by decide +kernel)) (List.mem_of_getElem? (i := 572) (by decide +kernel)) (List.mem_of_getElem? (i := 573) (by decide +kernel)) (List.mem_of_getElem? (i := 571) (by decide +kernel)) rfl ⟨by decide +kernel, by decide +kernel, by decide +kernel⟩ hR
theorem cs7_165 (C : Cx p m c cc nL s args RX7) (hR : rmX7_askKept.frames + 1 ≤ R.frames ∧ 8 + (3 + 11) + rmX7_askKept.locals ≤ R.locals) : CallW R s args RX7 (RX7, TX7, 16).1 165 yX7_askKept cX7_askKept 3 (some .int) (wd yX7_askKept cX7_askKept 3 (some .int)) rmX7_askKept rmX7_askKept.cells rmX7_askKept.slots 1 :=
  kV C (List.mem_of_getElem? (i := 594) (by decide +kernel)) (List.mem_of_getElem? (i := 591) (by decide +kernel)) (List.mem_of_getElem? (i := 592) (by decide +kernel)) (List.mem_of_getElem? (i := 593) (by decide +kernel)) (List.mem_of_getElem? (i := 2) (by decide +kernel)) ⟨by decide +kernel, by decide +kernel, by decide +kernel⟩ hR
theorem cs7_169 (C : Cx p m c cc nL s args RX7) (hR : rmX2_latestCount.frames + 1 ≤ R.frames ∧ 8 + (1 + 11) + rmX2_latestCount.locals ≤ R.locals) : CallW R s args RX7 (RX2, TX2, 4).1 169 yX2_latestCount cX2_latestCount 1 (some .int) (wd yX2_latestCount cX2_latestCount 1 (some .int)) rmX2_latestCount rmX2_latestCount.cells rmX2_latestCount.slots 0 :=
  kV C (List.mem_of_getElem? (i := 630) (by decide +kernel)) (List.mem_of_getElem? (i := 627) (by decide +kernel)) (List.mem_of_getElem? (i := 628) (by decide +kernel)) (List.mem_of_getElem? (i := 629) (by decide +kernel)) (List.mem_of_getElem? (i := 571) (by decide +kernel)) ⟨by decide +kernel, by decide +kernel, by decide +kernel⟩ hR
theorem cs7_172 (C : Cx p m c cc nL s args RX7) (hR : rmX7_sees.frames + 1 ≤ R.frames ∧ 8 + (3 + 11) + rmX7_sees.locals ≤ R.locals) : CallW R s args RX7 (RX7, TX7, 16).1 172 yX7_sees cX7_sees 3 (some .boolean) (wd yX7_sees cX7_sees 3 (some .boolean)) rmX7_sees rmX7_sees.cells rmX7_sees.slots 2 :=
  kV C (List.mem_of_getElem? (i := 347) (by decide +kernel)) (List.mem_of_getElem? (i := 344) (by decide +kernel)) (List.mem_of_getElem? (i := 345) (by decide +kernel)) (List.mem_of_getElem? (i := 346) (by decide +kernel)) (List.mem_of_getElem? (i := 2) (by decide +kernel)) ⟨by decide +kernel, by decide +kernel, by decide +kernel⟩ hR
theorem cs7_176 (C : Cx p m c cc nL s args RX7) (hR : rmX5_letSee.frames + 1 ≤ R.frames ∧ 8 + (5 + 11) + rmX5_letSee.locals ≤ R.locals) : CallW R s args RX7 (RX5, TX5, 3).1 176 yX5_letSee cX5_letSee 5 (some .boolean) (wd yX5_letSee cX5_letSee 5 (some .boolean)) rmX5_letSee rmX5_letSee.cells rmX5_letSee.slots 3 :=
  kV C (List.mem_of_getElem? (i := 352) (by decide +kernel)) (List.mem_of_getElem? (i := 349) (by decide +kernel)) (List.mem_of_getElem? (i := 350) (by decide +kernel)) (List.mem_of_getElem? (i := 351) (by decide +kernel)) (List.mem_of_getElem? (i := 19) (by decide +kernel)) ⟨by decide +kernel, by decide +kernel, by decide +kernel⟩ hR
theorem cs7_179 (C : Cx p m c cc nL s args RX7) (hR : rmX4_firstFault.frames + 1 ≤ R.frames ∧ 8 + (5 + 11) + rmX4_firstFault.locals ≤ R.locals) : CallW R s args RX7 (RX4, TX4, 11).1 179 yX4_firstFault cX4_firstFault 5 (some .int) (wd yX4_firstFault cX4_firstFault 5 (some .int)) rmX4_firstFault rmX4_firstFault.cells rmX4_firstFault.slots 3 :=
  kV C (List.mem_of_getElem? (i := 214) (by decide +kernel)) (List.mem_of_getElem? (i := 211) (by decide +kernel)) (List.mem_of_getElem? (i := 212) (by decide +kernel)) (List.mem_of_getElem? (i := 213) (by decide +kernel)) (List.mem_of_getElem? (i := 23) (by decide +kernel)) ⟨by decide +kernel, by decide +kernel, by decide +kernel⟩ hR
theorem cs7_183 (C : Cx p m c cc nL s args RX7) (hR : rmX3_setAsker.frames + 1 ≤ R.frames ∧ 8 + (2 + 11) + rmX3_setAsker.locals ≤ R.locals) : CallW R s args RX7 (RX3, TX3, 10).1 183 yX3_setAsker cX3_setAsker 2 none (wd yX3_setAsker cX3_setAsker 2 none) rmX3_setAsker rmX3_setAsker.cells rmX3_setAsker.slots 1 :=
  kV C (List.mem_of_getElem? (i := 317) (by decide +kernel)) (List.mem_of_getElem? (i := 314) (by decide +kernel)) (List.mem_of_getElem? (i := 315) (by decide +kernel)) (List.mem_of_getElem? (i := 316) (by decide +kernel)) (List.mem_of_getElem? (i := 38) (by decide +kernel)) ⟨by decide +kernel, by decide +kernel, by decide +kernel⟩ hR
theorem cs7_187 (C : Cx p m c cc nL s args RX7) (hR : rmX3_tests.frames + 1 ≤ R.frames ∧ 8 + (1 + 11) + rmX3_tests.locals ≤ R.locals) : CallW R s args RX7 (RX3, TX3, 10).1 187 yX3_tests cX3_tests 1 (some .int) (wd yX3_tests cX3_tests 1 (some .int)) rmX3_tests rmX3_tests.cells rmX3_tests.slots 0 :=
  kV C (List.mem_of_getElem? (i := 268) (by decide +kernel)) (List.mem_of_getElem? (i := 322) (by decide +kernel)) (List.mem_of_getElem? (i := 266) (by decide +kernel)) (List.mem_of_getElem? (i := 267) (by decide +kernel)) (List.mem_of_getElem? (i := 38) (by decide +kernel)) ⟨by decide +kernel, by decide +kernel, by decide +kernel⟩ hR
theorem cs7_190 (C : Cx p m c cc nL s args RX7) (hR : rmX0_clear.frames + 1 ≤ R.frames ∧ 8 + (1 + 11) + rmX0_clear.locals ≤ R.locals) : CallW R s args RX7 (RX0, TX0, 3).1 190 yX0_clear cX0_clear 1 none (wd yX0_clear cX0_clear 1 none) rmX0_clear rmX0_clear.cells rmX0_clear.slots 0 :=
  kV C (List.mem_of_getElem? (i := 330) (by decide +kernel)) (List.mem_of_getElem? (i := 327) (by decide +kernel)) (List.mem_of_getElem? (i := 328) (by decide +kernel)) (List.mem_of_getElem? (i := 329) (by decide +kernel)) (List.mem_of_getElem? (i := 43) (by decide +kernel)) ⟨by decide +kernel, by decide +kernel, by decide +kernel⟩ hR
theorem cs7_193 (C : Cx p m c cc nL s args RX7) (hR : rmX3_tailField.frames + 1 ≤ R.frames ∧ 8 + (1 + 11) + rmX3_tailField.locals ≤ R.locals) : CallW R s args RX7 (RX3, TX3, 10).1 193 yX3_tailField cX3_tailField 1 (some .int) (wd yX3_tailField cX3_tailField 1 (some .int)) rmX3_tailField rmX3_tailField.cells rmX3_tailField.slots 0 :=
  kV C (List.mem_of_getElem? (i := 338) (by decide +kernel)) (List.mem_of_getElem? (i := 335) (by decide +kernel)) (List.mem_of_getElem? (i := 336) (by decide +kernel)) (List.mem_of_getElem? (i := 337) (by decide +kernel)) (List.mem_of_getElem? (i := 38) (by decide +kernel)) ⟨by decide +kernel, by decide +kernel, by decide +kernel⟩ hR
theorem cs7_196 (C : Cx p m c cc nL s args RX7) (hR : rmX6_numberAt.frames + 1 ≤ R.frames ∧ 8 + (4 + 11) + rmX6_numberAt.locals ≤ R.locals) : CallW R s args RX7 (RX6, TX6, 4).1 196 yX6_numberAt cX6_numberAt 4 (some .int) (wd yX6_numberAt cX6_numberAt 4 (some .int)) rmX6_numberAt rmX6_numberAt.cells rmX6_numberAt.slots 3 :=
  kV C (List.mem_of_getElem? (i := 170) (by decide +kernel)) (List.mem_of_getElem? (i := 339) (by decide +kernel)) (List.mem_of_getElem? (i := 168) (by decide +kernel)) (List.mem_of_getElem? (i := 169) (by decide +kernel)) (List.mem_of_getElem? (i := 15) (by decide +kernel)) ⟨by decide +kernel, by decide +kernel, by decide +kernel⟩ hR
theorem cs7_200 (C : Cx p m c cc nL s args RX7) (hR : rmX3_asker.frames + 1 ≤ R.frames ∧ 8 + (1 + 11) + rmX3_asker.locals ≤ R.locals) : CallW R s args RX7 (RX3, TX3, 10).1 200 yX3_asker cX3_asker 1 (some .int) (wd yX3_asker cX3_asker 1 (some .int)) rmX3_asker rmX3_asker.cells rmX3_asker.slots 0 :=
  kV C (List.mem_of_getElem? (i := 343) (by decide +kernel)) (List.mem_of_getElem? (i := 340) (by decide +kernel)) (List.mem_of_getElem? (i := 341) (by decide +kernel)) (List.mem_of_getElem? (i := 342) (by decide +kernel)) (List.mem_of_getElem? (i := 38) (by decide +kernel)) ⟨by decide +kernel, by decide +kernel, by decide +kernel⟩ hR
theorem cs7_203 (C : Cx p m c cc nL s args RX7) (hR : rmX1_isTrue.frames + 1 ≤ R.frames ∧ 8 + (6 + 11) + rmX1_isTrue.locals ≤ R.locals) : CallW R s args RX7 (RX1, TX1, 4).1 203 yX1_isTrue cX1_isTrue 6 (some .boolean) (wd yX1_isTrue cX1_isTrue 6 (some .boolean)) rmX1_isTrue rmX1_isTrue.cells rmX1_isTrue.slots 3 :=
  kV C (List.mem_of_getElem? (i := 360) (by decide +kernel)) (List.mem_of_getElem? (i := 357) (by decide +kernel)) (List.mem_of_getElem? (i := 358) (by decide +kernel)) (List.mem_of_getElem? (i := 359) (by decide +kernel)) (List.mem_of_getElem? (i := 27) (by decide +kernel)) ⟨by decide +kernel, by decide +kernel, by decide +kernel⟩ hR
theorem cs7_207 (C : Cx p m c cc nL s args RX7) (hR : rmX0_addToGroup.frames + 1 ≤ R.frames ∧ 8 + (3 + 11) + rmX0_addToGroup.locals ≤ R.locals) : CallW R s args RX7 (RX0, TX0, 3).1 207 yX0_addToGroup cX0_addToGroup 3 none (wd yX0_addToGroup cX0_addToGroup 3 none) rmX0_addToGroup rmX0_addToGroup.cells rmX0_addToGroup.slots 1 :=
  kV C (List.mem_of_getElem? (i := 393) (by decide +kernel)) (List.mem_of_getElem? (i := 390) (by decide +kernel)) (List.mem_of_getElem? (i := 391) (by decide +kernel)) (List.mem_of_getElem? (i := 392) (by decide +kernel)) (List.mem_of_getElem? (i := 43) (by decide +kernel)) ⟨by decide +kernel, by decide +kernel, by decide +kernel⟩ hR
theorem cs7_210 (C : Cx p m c cc nL s args RX7) (hR : rmX0_add.frames + 1 ≤ R.frames ∧ 8 + (2 + 11) + rmX0_add.locals ≤ R.locals) : CallW R s args RX7 (RX0, TX0, 3).1 210 yX0_add cX0_add 2 none (wd yX0_add cX0_add 2 none) rmX0_add rmX0_add.cells rmX0_add.slots 1 :=
  kV C (List.mem_of_getElem? (i := 397) (by decide +kernel)) (List.mem_of_getElem? (i := 398) (by decide +kernel)) (List.mem_of_getElem? (i := 395) (by decide +kernel)) (List.mem_of_getElem? (i := 396) (by decide +kernel)) (List.mem_of_getElem? (i := 43) (by decide +kernel)) ⟨by decide +kernel, by decide +kernel, by decide +kernel⟩ hR
theorem cs7_212 (C : Cx p m c cc nL s args RX7) (hR : rmX2_passTo.frames + 1 ≤ R.frames ∧ 8 + (5 + 11) + rmX2_passTo.locals ≤ R.locals) : CallW R s args RX7 (RX2, TX2, 4).1 212 yX2_passTo cX2_passTo 5 (some .int) (wd yX2_passTo cX2_passTo 5 (some .int)) rmX2_passTo rmX2_passTo.cells rmX2_passTo.slots 1 :=
  kV C (List.mem_of_getElem? (i := 598) (by decide +kernel)) (List.mem_of_getElem? (i := 595) (by decide +kernel)) (List.mem_of_getElem? (i := 596) (by decide +kernel)) (List.mem_of_getElem? (i := 597) (by decide +kernel)) (List.mem_of_getElem? (i := 571) (by decide +kernel)) ⟨by decide +kernel, by decide +kernel, by decide +kernel⟩ hR
theorem cs7_216 (C : Cx p m c cc nL s args RX7) (hR : rmX2_question.frames + 1 ≤ R.frames ∧ 8 + (1 + 11) + rmX2_question.locals ≤ R.locals) : CallW R s args RX7 (RX2, TX2, 4).1 216 yX2_question cX2_question 1 (some (.object "TraceQuestions$Question")) (wd yX2_question cX2_question 1 (some (.object "TraceQuestions$Question"))) rmX2_question rmX2_question.cells rmX2_question.slots 0 :=
  kV C (List.mem_of_getElem? (i := 602) (by decide +kernel)) (List.mem_of_getElem? (i := 599) (by decide +kernel)) (List.mem_of_getElem? (i := 600) (by decide +kernel)) (List.mem_of_getElem? (i := 601) (by decide +kernel)) (List.mem_of_getElem? (i := 571) (by decide +kernel)) ⟨by decide +kernel, by decide +kernel, by decide +kernel⟩ hR
theorem cs7_219 (C : Cx p m c cc nL s args RX7) (hR : rmX7_countFound.frames + 1 ≤ R.frames ∧ 8 + (2 + 11) + rmX7_countFound.locals ≤ R.locals) : CallW R s args RX7 (RX7, TX7, 16).1 219 yX7_countFound cX7_countFound 2 (some .int) (wd yX7_countFound cX7_countFound 2 (some .int)) rmX7_countFound rmX7_countFound.cells rmX7_countFound.slots 1 :=
  kV C (List.mem_of_getElem? (i := 606) (by decide +kernel)) (List.mem_of_getElem? (i := 603) (by decide +kernel)) (List.mem_of_getElem? (i := 604) (by decide +kernel)) (List.mem_of_getElem? (i := 605) (by decide +kernel)) (List.mem_of_getElem? (i := 2) (by decide +kernel)) ⟨by decide +kernel, by decide +kernel, by decide +kernel⟩ hR
theorem cs7_223 (C : Cx p m c cc nL s args RX7) (hR : rmX2_setLatestCount.frames + 1 ≤ R.frames ∧ 8 + (2 + 11) + rmX2_setLatestCount.locals ≤ R.locals) : CallW R s args RX7 (RX2, TX2, 4).1 223 yX2_setLatestCount cX2_setLatestCount 2 none (wd yX2_setLatestCount cX2_setLatestCount 2 none) rmX2_setLatestCount rmX2_setLatestCount.cells rmX2_setLatestCount.slots 1 :=
  kV C (List.mem_of_getElem? (i := 614) (by decide +kernel)) (List.mem_of_getElem? (i := 611) (by decide +kernel)) (List.mem_of_getElem? (i := 612) (by decide +kernel)) (List.mem_of_getElem? (i := 613) (by decide +kernel)) (List.mem_of_getElem? (i := 571) (by decide +kernel)) ⟨by decide +kernel, by decide +kernel, by decide +kernel⟩ hR
theorem cs7_226 (C : Cx p m c cc nL s args RX7) (hR : rmX3_fields.frames + 1 ≤ R.frames ∧ 8 + (1 + 11) + rmX3_fields.locals ≤ R.locals) : CallW R s args RX7 (RX3, TX3, 10).1 226 yX3_fields cX3_fields 1 (some .int) (wd yX3_fields cX3_fields 1 (some .int)) rmX3_fields rmX3_fields.cells rmX3_fields.slots 0 :=
  kV C (List.mem_of_getElem? (i := 610) (by decide +kernel)) (List.mem_of_getElem? (i := 607) (by decide +kernel)) (List.mem_of_getElem? (i := 608) (by decide +kernel)) (List.mem_of_getElem? (i := 609) (by decide +kernel)) (List.mem_of_getElem? (i := 38) (by decide +kernel)) ⟨by decide +kernel, by decide +kernel, by decide +kernel⟩ hR
theorem cs8_90 (C : Cx p m c cc nL s args RX8) (hR : rmX8_within.frames + 1 ≤ R.frames ∧ 8 + (6 + 11) + rmX8_within.locals ≤ R.locals) : CallB R s args RX8 90 yX8_within cX8_within 6 (some .boolean) (wd yX8_within cX8_within 6 (some .boolean)) rmX8_within rmX8_within.cells rmX8_within.slots 3 ∧ (Cond.static yX8_within).before args s = true :=
  kS C (List.mem_of_getElem? (i := 189) (by decide +kernel)) (List.mem_of_getElem? (i := 187) (by decide +kernel)) (List.mem_of_getElem? (i := 188) (by decide +kernel)) (List.mem_of_getElem? (i := 5) (by decide +kernel)) ⟨by decide +kernel, by decide +kernel, by decide +kernel⟩ hR
theorem cs8_120 (C : Cx p m c cc nL s args RX8) (hR : rmX8_at.frames + 1 ≤ R.frames ∧ 8 + (4 + 11) + rmX8_at.locals ≤ R.locals) : CallB R s args RX8 120 yX8_at cX8_at 4 (some .int) (wd yX8_at cX8_at 4 (some .int)) rmX8_at rmX8_at.cells rmX8_at.slots 4 ∧ (Cond.static yX8_at).before args s = true :=
  kS C (List.mem_of_getElem? (i := 436) (by decide +kernel)) (List.mem_of_getElem? (i := 434) (by decide +kernel)) (List.mem_of_getElem? (i := 435) (by decide +kernel)) (List.mem_of_getElem? (i := 5) (by decide +kernel)) ⟨by decide +kernel, by decide +kernel, by decide +kernel⟩ hR
theorem cs8_124 (C : Cx p m c cc nL s args RX8) (hR : rmX8_isTail.frames + 1 ≤ R.frames ∧ 8 + (1 + 11) + rmX8_isTail.locals ≤ R.locals) : CallB R s args RX8 124 yX8_isTail cX8_isTail 1 (some .boolean) (wd yX8_isTail cX8_isTail 1 (some .boolean)) rmX8_isTail rmX8_isTail.cells rmX8_isTail.slots 1 ∧ (Cond.static yX8_isTail).before args s = true :=
  kS C (List.mem_of_getElem? (i := 439) (by decide +kernel)) (List.mem_of_getElem? (i := 437) (by decide +kernel)) (List.mem_of_getElem? (i := 438) (by decide +kernel)) (List.mem_of_getElem? (i := 5) (by decide +kernel)) ⟨by decide +kernel, by decide +kernel, by decide +kernel⟩ hR
theorem cs8_128 (C : Cx p m c cc nL s args RX8) (hR : rmX8_fieldOf.frames + 1 ≤ R.frames ∧ 8 + (1 + 11) + rmX8_fieldOf.locals ≤ R.locals) : CallB R s args RX8 128 yX8_fieldOf cX8_fieldOf 1 (some .int) (wd yX8_fieldOf cX8_fieldOf 1 (some .int)) rmX8_fieldOf rmX8_fieldOf.cells rmX8_fieldOf.slots 1 ∧ (Cond.static yX8_fieldOf).before args s = true :=
  kS C (List.mem_of_getElem? (i := 442) (by decide +kernel)) (List.mem_of_getElem? (i := 440) (by decide +kernel)) (List.mem_of_getElem? (i := 441) (by decide +kernel)) (List.mem_of_getElem? (i := 5) (by decide +kernel)) ⟨by decide +kernel, by decide +kernel, by decide +kernel⟩ hR
theorem cs8_136 (C : Cx p m c cc nL s args RX8) (hR : rmX8_overs.frames + 1 ≤ R.frames ∧ 8 + (2 + 11) + rmX8_overs.locals ≤ R.locals) : CallW R s args RX8 (RX8, TX8, 40).1 136 yX8_overs cX8_overs 2 (some .int) (wd yX8_overs cX8_overs 2 (some .int)) rmX8_overs rmX8_overs.cells rmX8_overs.slots 0 :=
  kV C (List.mem_of_getElem? (i := 446) (by decide +kernel)) (List.mem_of_getElem? (i := 443) (by decide +kernel)) (List.mem_of_getElem? (i := 444) (by decide +kernel)) (List.mem_of_getElem? (i := 445) (by decide +kernel)) (List.mem_of_getElem? (i := 5) (by decide +kernel)) ⟨by decide +kernel, by decide +kernel, by decide +kernel⟩ hR
theorem cs8_143 (C : Cx p m c cc nL s args RX8) (hR : rmX8_lookAtTail.frames + 1 ≤ R.frames ∧ 8 + (5 + 11) + rmX8_lookAtTail.locals ≤ R.locals) : CallW R s args RX8 (RX8, TX8, 40).1 143 yX8_lookAtTail cX8_lookAtTail 5 none (wd yX8_lookAtTail cX8_lookAtTail 5 none) rmX8_lookAtTail rmX8_lookAtTail.cells rmX8_lookAtTail.slots 3 :=
  kV C (List.mem_of_getElem? (i := 450) (by decide +kernel)) (List.mem_of_getElem? (i := 447) (by decide +kernel)) (List.mem_of_getElem? (i := 448) (by decide +kernel)) (List.mem_of_getElem? (i := 449) (by decide +kernel)) (List.mem_of_getElem? (i := 5) (by decide +kernel)) ⟨by decide +kernel, by decide +kernel, by decide +kernel⟩ hR
theorem cs8_147 (C : Cx p m c cc nL s args RX8) (hR : rmX8_test.frames + 1 ≤ R.frames ∧ 8 + (3 + 11) + rmX8_test.locals ≤ R.locals) : CallW R s args RX8 (RX8, TX8, 40).1 147 yX8_test cX8_test 3 none (wd yX8_test cX8_test 3 none) rmX8_test rmX8_test.cells rmX8_test.slots 1 :=
  kV C (List.mem_of_getElem? (i := 475) (by decide +kernel)) (List.mem_of_getElem? (i := 472) (by decide +kernel)) (List.mem_of_getElem? (i := 473) (by decide +kernel)) (List.mem_of_getElem? (i := 474) (by decide +kernel)) (List.mem_of_getElem? (i := 5) (by decide +kernel)) ⟨by decide +kernel, by decide +kernel, by decide +kernel⟩ hR
theorem cs8_151 (C : Cx p m c cc nL s args RX8) (hR : rmX8_field.frames + 1 ≤ R.frames ∧ 8 + (3 + 11) + rmX8_field.locals ≤ R.locals) : CallW R s args RX8 (RX8, TX8, 40).1 151 yX8_field cX8_field 3 (some .int) (wd yX8_field cX8_field 3 (some .int)) rmX8_field rmX8_field.cells rmX8_field.slots 2 :=
  kV C (List.mem_of_getElem? (i := 467) (by decide +kernel)) (List.mem_of_getElem? (i := 464) (by decide +kernel)) (List.mem_of_getElem? (i := 465) (by decide +kernel)) (List.mem_of_getElem? (i := 466) (by decide +kernel)) (List.mem_of_getElem? (i := 5) (by decide +kernel)) ⟨by decide +kernel, by decide +kernel, by decide +kernel⟩ hR
theorem cs8_165 (C : Cx p m c cc nL s args RX8) (hR : rmX8_sees.frames + 1 ≤ R.frames ∧ 8 + (5 + 11) + rmX8_sees.locals ≤ R.locals) : CallW R s args RX8 (RX8, TX8, 40).1 165 yX8_sees cX8_sees 5 (some .boolean) (wd yX8_sees cX8_sees 5 (some .boolean)) rmX8_sees rmX8_sees.cells rmX8_sees.slots 2 :=
  kV C (List.mem_of_getElem? (i := 462) (by decide +kernel)) (List.mem_of_getElem? (i := 459) (by decide +kernel)) (List.mem_of_getElem? (i := 460) (by decide +kernel)) (List.mem_of_getElem? (i := 461) (by decide +kernel)) (List.mem_of_getElem? (i := 5) (by decide +kernel)) ⟨by decide +kernel, by decide +kernel, by decide +kernel⟩ hR
theorem cs8_169 (C : Cx p m c cc nL s args RX8) (hR : rmX8_isTrue.frames + 1 ≤ R.frames ∧ 8 + (9 + 11) + rmX8_isTrue.locals ≤ R.locals) : CallW R s args RX8 (RX8, TX8, 40).1 169 yX8_isTrue cX8_isTrue 9 (some .boolean) (wd yX8_isTrue cX8_isTrue 9 (some .boolean)) rmX8_isTrue rmX8_isTrue.cells rmX8_isTrue.slots 3 :=
  kV C (List.mem_of_getElem? (i := 471) (by decide +kernel)) (List.mem_of_getElem? (i := 468) (by decide +kernel)) (List.mem_of_getElem? (i := 469) (by decide +kernel)) (List.mem_of_getElem? (i := 470) (by decide +kernel)) (List.mem_of_getElem? (i := 5) (by decide +kernel)) ⟨by decide +kernel, by decide +kernel, by decide +kernel⟩ hR
theorem cs8_173 (C : Cx p m c cc nL s args RX8) (hR : rmX8_take.frames + 1 ≤ R.frames ∧ 8 + (5 + 11) + rmX8_take.locals ≤ R.locals) : CallW R s args RX8 (RX8, TX8, 40).1 173 yX8_take cX8_take 5 none (wd yX8_take cX8_take 5 none) rmX8_take rmX8_take.cells rmX8_take.slots 3 :=
  kV C (List.mem_of_getElem? (i := 479) (by decide +kernel)) (List.mem_of_getElem? (i := 476) (by decide +kernel)) (List.mem_of_getElem? (i := 477) (by decide +kernel)) (List.mem_of_getElem? (i := 478) (by decide +kernel)) (List.mem_of_getElem? (i := 5) (by decide +kernel)) ⟨by decide +kernel, by decide +kernel, by decide +kernel⟩ hR
theorem cs8_177 (C : Cx p m c cc nL s args RX8) (hR : rmX8_isAsker.frames + 1 ≤ R.frames ∧ 8 + (1 + 11) + rmX8_isAsker.locals ≤ R.locals) : CallB R s args RX8 177 yX8_isAsker cX8_isAsker 1 (some .boolean) (wd yX8_isAsker cX8_isAsker 1 (some .boolean)) rmX8_isAsker rmX8_isAsker.cells rmX8_isAsker.slots 1 ∧ (Cond.static yX8_isAsker).before args s = true :=
  kS C (List.mem_of_getElem? (i := 424) (by decide +kernel)) (List.mem_of_getElem? (i := 422) (by decide +kernel)) (List.mem_of_getElem? (i := 423) (by decide +kernel)) (List.mem_of_getElem? (i := 5) (by decide +kernel)) ⟨by decide +kernel, by decide +kernel, by decide +kernel⟩ hR
theorem cs8_181 (C : Cx p m c cc nL s args RX8) (hR : rmX8_look.frames + 1 ≤ R.frames ∧ 8 + (12 + 11) + rmX8_look.locals ≤ R.locals) : CallW R s args RX8 (RX8, TX8, 40).1 181 yX8_look cX8_look 12 none (wd yX8_look cX8_look 12 none) rmX8_look rmX8_look.cells rmX8_look.slots 3 :=
  kV C (List.mem_of_getElem? (i := 428) (by decide +kernel)) (List.mem_of_getElem? (i := 425) (by decide +kernel)) (List.mem_of_getElem? (i := 426) (by decide +kernel)) (List.mem_of_getElem? (i := 427) (by decide +kernel)) (List.mem_of_getElem? (i := 5) (by decide +kernel)) ⟨by decide +kernel, by decide +kernel, by decide +kernel⟩ hR
theorem cs8_184 (C : Cx p m c cc nL s args RX8) (hR : rmX8_costNow.frames + 1 ≤ R.frames ∧ 8 + (1 + 11) + rmX8_costNow.locals ≤ R.locals) : CallW R s args RX8 (RX8, TX8, 40).1 184 yX8_costNow cX8_costNow 1 (some .long) (wd yX8_costNow cX8_costNow 1 (some .long)) rmX8_costNow rmX8_costNow.cells rmX8_costNow.slots 0 :=
  kV C (List.mem_of_getElem? (i := 454) (by decide +kernel)) (List.mem_of_getElem? (i := 451) (by decide +kernel)) (List.mem_of_getElem? (i := 452) (by decide +kernel)) (List.mem_of_getElem? (i := 453) (by decide +kernel)) (List.mem_of_getElem? (i := 5) (by decide +kernel)) ⟨by decide +kernel, by decide +kernel, by decide +kernel⟩ hR
theorem cs8_192 (C : Cx p m c cc nL s args RX8) (hR : rmX8_find.frames + 1 ≤ R.frames ∧ 8 + (12 + 11) + rmX8_find.locals ≤ R.locals) : CallW R s args RX8 (RX8, TX8, 40).1 192 yX8_find cX8_find 12 none (wd yX8_find cX8_find 12 none) rmX8_find rmX8_find.cells rmX8_find.slots 5 :=
  kV C (List.mem_of_getElem? (i := 458) (by decide +kernel)) (List.mem_of_getElem? (i := 455) (by decide +kernel)) (List.mem_of_getElem? (i := 456) (by decide +kernel)) (List.mem_of_getElem? (i := 457) (by decide +kernel)) (List.mem_of_getElem? (i := 5) (by decide +kernel)) ⟨by decide +kernel, by decide +kernel, by decide +kernel⟩ hR
theorem cs8_231 (C : Cx p m c cc nL s args RX8) (hR : rmX8_askKept.frames + 1 ≤ R.frames ∧ 8 + (2 + 11) + rmX8_askKept.locals ≤ R.locals) : CallW R s args RX8 (RX8, TX8, 40).1 231 yX8_askKept cX8_askKept 2 none (wd yX8_askKept cX8_askKept 2 none) rmX8_askKept rmX8_askKept.cells rmX8_askKept.slots 1 :=
  kV C (List.mem_of_getElem? (i := 622) (by decide +kernel)) (List.mem_of_getElem? (i := 619) (by decide +kernel)) (List.mem_of_getElem? (i := 620) (by decide +kernel)) (List.mem_of_getElem? (i := 621) (by decide +kernel)) (List.mem_of_getElem? (i := 5) (by decide +kernel)) ⟨by decide +kernel, by decide +kernel, by decide +kernel⟩ hR
theorem cs4_11 (C : Cx p m c cc nL s args RX4) (hK : Kx D g s) (hR : rmX3_init.frames + 1 ≤ R.frames ∧ 8 + (1 + 11) + rmX3_init.locals ≤ R.locals) : va_CN R s args RX4 11 yX3_init "TraceQuestions" cX3_init 1 none (wd yX3_init cX3_init 1 none) rmX3_init rmX3_init.cells rmX3_init.slots 0 ∧ yX3_init.name = "<init>" ∧ (Cond.instanceMethod yX3_init).before args s = true :=
  kIN C hK (List.mem_of_getElem? (i := 82) (by decide +kernel)) (List.mem_of_getElem? (i := 6) rfl) (List.mem_of_getElem? (i := 81) (by decide +kernel)) (List.mem_of_getElem? (i := 38) (by decide +kernel)) rfl ⟨by decide +kernel, by decide +kernel, by decide +kernel⟩ hR
theorem cs7_9 (C : Cx p m c cc nL s args RX7) (hK : Kx D g s) (hR : rmX6_init.frames + 1 ≤ R.frames ∧ 8 + (1 + 11) + rmX6_init.locals ≤ R.locals) : va_CN R s args RX7 9 yX6_init "TraceQuestions" cX6_init 1 none (wd yX6_init cX6_init 1 none) rmX6_init rmX6_init.cells rmX6_init.slots 0 ∧ yX6_init.name = "<init>" ∧ (Cond.instanceMethod yX6_init).before args s = true :=
  kIN C hK (List.mem_of_getElem? (i := 51) (by decide +kernel)) (List.mem_of_getElem? (i := 0) rfl) (List.mem_of_getElem? (i := 50) (by decide +kernel)) (List.mem_of_getElem? (i := 15) (by decide +kernel)) rfl ⟨by decide +kernel, by decide +kernel, by decide +kernel⟩ hR
theorem cs7_18 (C : Cx p m c cc nL s args RX7) (hK : Kx D g s) (hR : rmX5_init.frames + 1 ≤ R.frames ∧ 8 + (1 + 11) + rmX5_init.locals ≤ R.locals) : va_CN R s args RX7 18 yX5_init "TraceQuestions" cX5_init 1 none (wd yX5_init cX5_init 1 none) rmX5_init rmX5_init.cells rmX5_init.slots 0 ∧ yX5_init.name = "<init>" ∧ (Cond.instanceMethod yX5_init).before args s = true :=
  kIN C hK (List.mem_of_getElem? (i := 60) (by decide +kernel)) (List.mem_of_getElem? (i := 1) rfl) (List.mem_of_getElem? (i := 59) (by decide +kernel)) (List.mem_of_getElem? (i := 19) (by decide +kernel)) rfl ⟨by decide +kernel, by decide +kernel, by decide +kernel⟩ hR
theorem cs7_25 (C : Cx p m c cc nL s args RX7) (hK : Kx D g s) (hR : rmX4_init.frames + 1 ≤ R.frames ∧ 8 + (1 + 11) + rmX4_init.locals ≤ R.locals) : va_CN R s args RX7 25 yX4_init "TraceQuestions" cX4_init 1 none (wd yX4_init cX4_init 1 none) rmX4_init rmX4_init.cells rmX4_init.slots 0 ∧ yX4_init.name = "<init>" ∧ (Cond.instanceMethod yX4_init).before args s = true :=
  kIN C hK (List.mem_of_getElem? (i := 67) (by decide +kernel)) (List.mem_of_getElem? (i := 2) rfl) (List.mem_of_getElem? (i := 66) (by decide +kernel)) (List.mem_of_getElem? (i := 23) (by decide +kernel)) rfl ⟨by decide +kernel, by decide +kernel, by decide +kernel⟩ hR
theorem cs7_32 (C : Cx p m c cc nL s args RX7) (hK : Kx D g s) (hR : rmX1_init.frames + 1 ≤ R.frames ∧ 8 + (1 + 11) + rmX1_init.locals ≤ R.locals) : va_CN R s args RX7 32 yX1_init "TraceQuestions" cX1_init 1 none (wd yX1_init cX1_init 1 none) rmX1_init rmX1_init.cells rmX1_init.slots 0 ∧ yX1_init.name = "<init>" ∧ (Cond.instanceMethod yX1_init).before args s = true :=
  kIN C hK (List.mem_of_getElem? (i := 95) (by decide +kernel)) (List.mem_of_getElem? (i := 3) rfl) (List.mem_of_getElem? (i := 94) (by decide +kernel)) (List.mem_of_getElem? (i := 27) (by decide +kernel)) rfl ⟨by decide +kernel, by decide +kernel, by decide +kernel⟩ hR
theorem cs7_58 (C : Cx p m c cc nL s args RX7) (hK : Kx D g s) (hR : rmX3_init.frames + 1 ≤ R.frames ∧ 8 + (1 + 11) + rmX3_init.locals ≤ R.locals) : va_CN R s args RX7 58 yX3_init "TraceQuestions" cX3_init 1 none (wd yX3_init cX3_init 1 none) rmX3_init rmX3_init.cells rmX3_init.slots 0 ∧ yX3_init.name = "<init>" ∧ (Cond.instanceMethod yX3_init).before args s = true :=
  kIN C hK (List.mem_of_getElem? (i := 82) (by decide +kernel)) (List.mem_of_getElem? (i := 4) rfl) (List.mem_of_getElem? (i := 81) (by decide +kernel)) (List.mem_of_getElem? (i := 38) (by decide +kernel)) rfl ⟨by decide +kernel, by decide +kernel, by decide +kernel⟩ hR
theorem cs7_69 (C : Cx p m c cc nL s args RX7) (hK : Kx D g s) (hR : rmX0_init.frames + 1 ≤ R.frames ∧ 8 + (1 + 11) + rmX0_init.locals ≤ R.locals) : va_CN R s args RX7 69 yX0_init "TraceQuestions" cX0_init 1 none (wd yX0_init cX0_init 1 none) rmX0_init rmX0_init.cells rmX0_init.slots 0 ∧ yX0_init.name = "<init>" ∧ (Cond.instanceMethod yX0_init).before args s = true :=
  kIN C hK (List.mem_of_getElem? (i := 102) (by decide +kernel)) (List.mem_of_getElem? (i := 5) rfl) (List.mem_of_getElem? (i := 101) (by decide +kernel)) (List.mem_of_getElem? (i := 43) (by decide +kernel)) rfl ⟨by decide +kernel, by decide +kernel, by decide +kernel⟩ hR
theorem oi7 (C : Cx p m c cc nL s args RX7) (hl : ls.size = nL) {a : Nat} (hdg : decode cc pc = .ok (.invokespecial 1, 3)) (hf : 1 ≤ R.frames) (hlo : 20 ≤ R.locals) (kk : W p l e R s m args below meth c H locs cells slots Q (F0 m (pc + 3) ls [])) : W p l e R s m args below meth c H locs cells slots Q (F0 m pc ls [.ref a]) :=
  W.objInit C.1 C.2.1 C.2.2.2.1 (C.2.2.2.2 (Cond.methodLink RX7 1 objectInit) (List.mem_of_getElem? (i := 10) (by decide +kernel))) (C.2.2.2.2 (Cond.instanceMethod objectInit) (List.mem_of_getElem? (i := 11) (by decide +kernel))) (C.2.2.2.2 (Cond.code objectInit ⟨#[0xb1]⟩ 1 none) (List.mem_of_getElem? (i := 12) (by decide +kernel))) rfl (by rw [C.2.2.1]; exact hl) rfl hdg hf (by show 0 + 0 + 12 ≤ R.locals; omega) kk
theorem oi6 (C : Cx p m c cc nL s args RX6) (hl : ls.size = nL) {a : Nat} (hdg : decode cc pc = .ok (.invokespecial 3, 3)) (hf : 1 ≤ R.frames) (hlo : 20 ≤ R.locals) (kk : W p l e R s m args below meth c H locs cells slots Q (F0 m (pc + 3) ls [])) : W p l e R s m args below meth c H locs cells slots Q (F0 m pc ls [.ref a]) :=
  W.objInit C.1 C.2.1 C.2.2.2.1 (C.2.2.2.2 (Cond.methodLink RX6 3 objectInit) (List.mem_of_getElem? (i := 52) (by decide +kernel))) (C.2.2.2.2 (Cond.instanceMethod objectInit) (List.mem_of_getElem? (i := 11) (by decide +kernel))) (C.2.2.2.2 (Cond.code objectInit ⟨#[0xb1]⟩ 1 none) (List.mem_of_getElem? (i := 12) (by decide +kernel))) rfl (by rw [C.2.2.1]; exact hl) rfl hdg hf (by show 0 + 0 + 12 ≤ R.locals; omega) kk
theorem oi5 (C : Cx p m c cc nL s args RX5) (hl : ls.size = nL) {a : Nat} (hdg : decode cc pc = .ok (.invokespecial 3, 3)) (hf : 1 ≤ R.frames) (hlo : 20 ≤ R.locals) (kk : W p l e R s m args below meth c H locs cells slots Q (F0 m (pc + 3) ls [])) : W p l e R s m args below meth c H locs cells slots Q (F0 m pc ls [.ref a]) :=
  W.objInit C.1 C.2.1 C.2.2.2.1 (C.2.2.2.2 (Cond.methodLink RX5 3 objectInit) (List.mem_of_getElem? (i := 61) (by decide +kernel))) (C.2.2.2.2 (Cond.instanceMethod objectInit) (List.mem_of_getElem? (i := 11) (by decide +kernel))) (C.2.2.2.2 (Cond.code objectInit ⟨#[0xb1]⟩ 1 none) (List.mem_of_getElem? (i := 12) (by decide +kernel))) rfl (by rw [C.2.2.1]; exact hl) rfl hdg hf (by show 0 + 0 + 12 ≤ R.locals; omega) kk
theorem oi4 (C : Cx p m c cc nL s args RX4) (hl : ls.size = nL) {a : Nat} (hdg : decode cc pc = .ok (.invokespecial 3, 3)) (hf : 1 ≤ R.frames) (hlo : 20 ≤ R.locals) (kk : W p l e R s m args below meth c H locs cells slots Q (F0 m (pc + 3) ls [])) : W p l e R s m args below meth c H locs cells slots Q (F0 m pc ls [.ref a]) :=
  W.objInit C.1 C.2.1 C.2.2.2.1 (C.2.2.2.2 (Cond.methodLink RX4 3 objectInit) (List.mem_of_getElem? (i := 68) (by decide +kernel))) (C.2.2.2.2 (Cond.instanceMethod objectInit) (List.mem_of_getElem? (i := 11) (by decide +kernel))) (C.2.2.2.2 (Cond.code objectInit ⟨#[0xb1]⟩ 1 none) (List.mem_of_getElem? (i := 12) (by decide +kernel))) rfl (by rw [C.2.2.1]; exact hl) rfl hdg hf (by show 0 + 0 + 12 ≤ R.locals; omega) kk
theorem oi3 (C : Cx p m c cc nL s args RX3) (hl : ls.size = nL) {a : Nat} (hdg : decode cc pc = .ok (.invokespecial 3, 3)) (hf : 1 ≤ R.frames) (hlo : 20 ≤ R.locals) (kk : W p l e R s m args below meth c H locs cells slots Q (F0 m (pc + 3) ls [])) : W p l e R s m args below meth c H locs cells slots Q (F0 m pc ls [.ref a]) :=
  W.objInit C.1 C.2.1 C.2.2.2.1 (C.2.2.2.2 (Cond.methodLink RX3 3 objectInit) (List.mem_of_getElem? (i := 83) (by decide +kernel))) (C.2.2.2.2 (Cond.instanceMethod objectInit) (List.mem_of_getElem? (i := 11) (by decide +kernel))) (C.2.2.2.2 (Cond.code objectInit ⟨#[0xb1]⟩ 1 none) (List.mem_of_getElem? (i := 12) (by decide +kernel))) rfl (by rw [C.2.2.1]; exact hl) rfl hdg hf (by show 0 + 0 + 12 ≤ R.locals; omega) kk
theorem oi1 (C : Cx p m c cc nL s args RX1) (hl : ls.size = nL) {a : Nat} (hdg : decode cc pc = .ok (.invokespecial 1, 3)) (hf : 1 ≤ R.frames) (hlo : 20 ≤ R.locals) (kk : W p l e R s m args below meth c H locs cells slots Q (F0 m (pc + 3) ls [])) : W p l e R s m args below meth c H locs cells slots Q (F0 m pc ls [.ref a]) :=
  W.objInit C.1 C.2.1 C.2.2.2.1 (C.2.2.2.2 (Cond.methodLink RX1 1 objectInit) (List.mem_of_getElem? (i := 96) (by decide +kernel))) (C.2.2.2.2 (Cond.instanceMethod objectInit) (List.mem_of_getElem? (i := 11) (by decide +kernel))) (C.2.2.2.2 (Cond.code objectInit ⟨#[0xb1]⟩ 1 none) (List.mem_of_getElem? (i := 12) (by decide +kernel))) rfl (by rw [C.2.2.1]; exact hl) rfl hdg hf (by show 0 + 0 + 12 ≤ R.locals; omega) kk
theorem oi0 (C : Cx p m c cc nL s args RX0) (hl : ls.size = nL) {a : Nat} (hdg : decode cc pc = .ok (.invokespecial 3, 3)) (hf : 1 ≤ R.frames) (hlo : 20 ≤ R.locals) (kk : W p l e R s m args below meth c H locs cells slots Q (F0 m (pc + 3) ls [])) : W p l e R s m args below meth c H locs cells slots Q (F0 m pc ls [.ref a]) :=
  W.objInit C.1 C.2.1 C.2.2.2.1 (C.2.2.2.2 (Cond.methodLink RX0 3 objectInit) (List.mem_of_getElem? (i := 103) (by decide +kernel))) (C.2.2.2.2 (Cond.instanceMethod objectInit) (List.mem_of_getElem? (i := 11) (by decide +kernel))) (C.2.2.2.2 (Cond.code objectInit ⟨#[0xb1]⟩ 1 none) (List.mem_of_getElem? (i := 12) (by decide +kernel))) rfl (by rw [C.2.2.1]; exact hl) rfl hdg hf (by show 0 + 0 + 12 ≤ R.locals; omega) kk
theorem oi8 (C : Cx p m c cc nL s args RX8) (hl : ls.size = nL) {a : Nat} (hdg : decode cc pc = .ok (.invokespecial 1, 3)) (hf : 1 ≤ R.frames) (hlo : 20 ≤ R.locals) (kk : W p l e R s m args below meth c H locs cells slots Q (F0 m (pc + 3) ls [])) : W p l e R s m args below meth c H locs cells slots Q (F0 m pc ls [.ref a]) :=
  W.objInit C.1 C.2.1 C.2.2.2.1 (C.2.2.2.2 (Cond.methodLink RX8 1 objectInit) (List.mem_of_getElem? (i := 110) (by decide +kernel))) (C.2.2.2.2 (Cond.instanceMethod objectInit) (List.mem_of_getElem? (i := 11) (by decide +kernel))) (C.2.2.2.2 (Cond.code objectInit ⟨#[0xb1]⟩ 1 none) (List.mem_of_getElem? (i := 12) (by decide +kernel))) rfl (by rw [C.2.2.1]; exact hl) rfl hdg hf (by show 0 + 0 + 12 ≤ R.locals; omega) kk
theorem oi2 (C : Cx p m c cc nL s args RX2) (hl : ls.size = nL) {a : Nat} (hdg : decode cc pc = .ok (.invokespecial 3, 3)) (hf : 1 ≤ R.frames) (hlo : 20 ≤ R.locals) (kk : W p l e R s m args below meth c H locs cells slots Q (F0 m (pc + 3) ls [])) : W p l e R s m args below meth c H locs cells slots Q (F0 m pc ls [.ref a]) :=
  W.objInit C.1 C.2.1 C.2.2.2.1 (C.2.2.2.2 (Cond.methodLink RX2 3 objectInit) (List.mem_of_getElem? (i := 575) (by decide +kernel))) (C.2.2.2.2 (Cond.instanceMethod objectInit) (List.mem_of_getElem? (i := 11) (by decide +kernel))) (C.2.2.2.2 (Cond.code objectInit ⟨#[0xb1]⟩ 1 none) (List.mem_of_getElem? (i := 12) (by decide +kernel))) rfl (by rw [C.2.2.1]; exact hl) rfl hdg hf (by show 0 + 0 + 12 ≤ R.locals; omega) kk
end TABLES
end
section
/-! FOUND: what a question found -/
def wFound (g : Nat → ClassId) (a : Nat → Nat) (F Hm : Nat → Int) (n : Nat) : va_W := [(a 0, .inr (0, [.ref (a 1), .ref (a 2), .int (iI (n : Int))])), (a 1, cI g 300 F), (a 2, cI g 300 Hm)]
theorem wFound_mem {g : Nat → ClassId} {a : Nat → Nat} {F Hm : Nat → Int} {n : Nat} : (a 0, .inr (0, [.ref (a 1), .ref (a 2), .int (iI (n : Int))])) ∈ wFound g a F Hm n := .head _

set_option maxHeartbeats 4000000 in
set_option maxRecDepth 100000 in
theorem c_X0_count (l : Launch) (D : va_G) (g : Nat → ClassId) (a : Nat → Nat) (F Hm : Nat → Int) (n : Nat) : Ct (S := Unit) l D g yX0_count cX0_count 1 (some .int) rmX0_count [.ref (a 0)] (wFound g a F Hm n) (fun u => some (.int (iI (n : Int)))) (fun _ => True) (fun u => wFound g a F Hm n) := by
  refine Ct.of RX0 rfl (by decide +kernel) [(0, .ref (a 0))] rfl (Nat.le_of_ble_eq_true rfl) ?_
  intro pg evn sT mI bl mtd cd aA ls ar qQ zC zr zk zi zQ h hl
  have zx := zC.1
  have zb := zC.2.1
  have h : Hx D g sT aA sT.heap ([(a 0, .inr (0, [.ref (a 1), .ref (a 2), .int (iI (n : Int))])), (a 1, cI g 300 F), (a 2, cI g 300 Hm)]) sT.heap [] := h
  skip
  refine lv_aload_n zx zb dX0_count_0 rfl (lv_at hl 0 rfl) ?_
  refine gf0_18 (v := .int (iI (n : Int))) zC h 0 rfl rfl dX0_count_1 ?_
  exact r_iret zC zQ zr zk h dX0_count_4 (u := ()) rfl (List.Perm.refl _) trivial (Nat.le_of_ble_eq_true rfl) (Nat.le_of_ble_eq_true rfl)

set_option maxHeartbeats 4000000 in
set_option maxRecDepth 100000 in
theorem c_X0_clear (l : Launch) (D : va_G) (g : Nat → ClassId) (a : Nat → Nat) (F Hm : Nat → Int) (n : Nat) : Ct (S := Unit) l D g yX0_clear cX0_clear 1 none rmX0_clear [.ref (a 0)] (wFound g a F Hm n) (fun u => none) (fun _ => True) (fun u => wFound g a F Hm 0) := by
  refine Ct.of RX0 rfl (by decide +kernel) [(0, .ref (a 0))] rfl (Nat.le_of_ble_eq_true rfl) ?_
  intro pg evn sT mI bl mtd cd aA ls ar qQ zC zr zk zi zQ h hl
  have zx := zC.1
  have zb := zC.2.1
  have h : Hx D g sT aA sT.heap ([(a 0, .inr (0, [.ref (a 1), .ref (a 2), .int (iI (n : Int))])), (a 1, cI g 300 F), (a 2, cI g 300 Hm)]) sT.heap [] := h
  skip
  refine lv_aload_n zx zb dX0_clear_0 rfl (lv_at hl 0 rfl) ?_
  refine lv_iconst (v := iI (0)) zx zb dX0_clear_1 rfl ?_
  refine pf0_18 (x := iI 0) zC h 0 (ws' := [(a 0, .inr (0, [.ref (a 1), .ref (a 2), .int (iI 0)])), (a 1, cI g 300 F), (a 2, cI g 300 Hm)]) rfl rfl (Nat.le_of_ble_eq_true rfl) dX0_clear_2 (fun H locs h => ?_)
  exact r_vret zC zQ zr zk h dX0_clear_5 (u := ()) rfl (List.Perm.refl _) trivial (Nat.le_of_ble_eq_true rfl) (Nat.le_of_ble_eq_true rfl)

set_option maxHeartbeats 4000000 in
set_option maxRecDepth 100000 in
theorem c_X0_add (l : Launch) (D : va_G) (g : Nat → ClassId) (a : Nat → Nat) (F Hm : Nat → Int) (n : Nat) (x : Int) (hn : n < 300) : Ct (S := Unit) l D g yX0_add cX0_add 2 none rmX0_add [.ref (a 0), .int (iI x)] (wFound g a F Hm n) (fun u => none) (fun _ => True) (fun u => wFound g a (up F n x) (up Hm n 1) (n + 1)) := by
  refine Ct.of RX0 rfl (by decide +kernel) [(0, .ref (a 0)), (1, .int (iI x))] rfl (Nat.le_of_ble_eq_true rfl) ?_
  intro pg evn sT mI bl mtd cd aA ls ar qQ zC zr zk zi zQ h hl
  have zx := zC.1
  have zb := zC.2.1
  have h : Hx D g sT aA sT.heap ([(a 0, .inr (0, [.ref (a 1), .ref (a 2), .int (iI (n : Int))])), (a 1, cI g 300 F), (a 2, cI g 300 Hm)]) sT.heap [] := h
  skip
  refine lv_aload_n zx zb dX0_add_0 rfl (lv_at hl 0 rfl) ?_
  refine gf0_18 (v := .int (iI (n : Int))) zC h 0 rfl rfl dX0_add_1 ?_
  refine i_zlt (a := (n : Int)) (tgt := 47) zC dX0_add_4 (by decide) (by omega) (fun c_1 => absurd c_1 (by omega)) (fun c_1 => ?_)
  refine lv_aload_n zx zb dX0_add_7 rfl (lv_at hl 0 rfl) ?_
  refine gf0_18 (v := .int (iI (n : Int))) zC h 0 rfl rfl dX0_add_8 ?_
  refine lv_sipush (v := iI (300)) zx zb dX0_add_11 rfl ?_
  refine i_cge (a := (n : Int)) (b := 300) (tgt := 47) zC dX0_add_14 (by decide) (by omega) (fun c_2 => absurd c_2 (by omega)) (fun c_2 => ?_)
  refine lv_aload_n zx zb dX0_add_17 rfl (lv_at hl 0 rfl) ?_
  refine gf0_9 (v := .ref (a 1)) zC h 0 rfl rfl dX0_add_18 ?_
  refine lv_aload_n zx zb dX0_add_21 rfl (lv_at hl 0 rfl) ?_
  refine gf0_18 (v := .int (iI (n : Int))) zC h 0 rfl rfl dX0_add_22 ?_
  refine lv_iload_n zx zb dX0_add_25 rfl (lv_at hl 1 rfl) ?_
  refine a_ist (x := x) zC h 1 (ws' := [(a 0, .inr (0, [.ref (a 1), .ref (a 2), .int (iI (n : Int))])), (a 1, cI g 300 (up F n x)), (a 2, cI g 300 Hm)]) rfl (z := (n : Int)) n rfl (by omega) (by omega) (by decide) dX0_add_26 (fun H locs h => ?_)
  refine lv_aload_n zx zb dX0_add_27 rfl (lv_at hl 0 rfl) ?_
  refine gf0_15 (v := .ref (a 2)) zC h 0 rfl rfl dX0_add_28 ?_
  refine lv_aload_n zx zb dX0_add_31 rfl (lv_at hl 0 rfl) ?_
  refine gf0_18 (v := .int (iI (n : Int))) zC h 0 rfl rfl dX0_add_32 ?_
  refine lv_iconst (v := iI (1)) zx zb dX0_add_35 rfl ?_
  refine a_ist (x := 1) zC h 2 (ws' := [(a 0, .inr (0, [.ref (a 1), .ref (a 2), .int (iI (n : Int))])), (a 1, cI g 300 (up F n x)), (a 2, cI g 300 (up Hm n 1))]) rfl (z := (n : Int)) n rfl (by omega) (by omega) (by decide) dX0_add_36 (fun H locs h => ?_)
  refine lv_aload_n zx zb dX0_add_37 rfl (lv_at hl 0 rfl) ?_
  refine lv_dup zx zb dX0_add_38 rfl ?_
  refine gf0_18 (v := .int (iI (n : Int))) zC h 0 rfl rfl dX0_add_39 ?_
  refine lv_iconst (v := iI (1)) zx zb dX0_add_42 rfl ?_
  refine i_add zC (a := (n : Int)) (b := 1) dX0_add_43 ?_
  refine pf0_18 (x := iI ((n : Int) + 1)) zC h 0 (ws' := [(a 0, .inr (0, [.ref (a 1), .ref (a 2), .int (iI ((n : Int) + 1))])), (a 1, cI g 300 (up F n x)), (a 2, cI g 300 (up Hm n 1))]) rfl rfl (Nat.le_of_ble_eq_true rfl) dX0_add_44 (fun H locs h => ?_)
  exact r_vret zC zQ zr zk h dX0_add_47 (u := ()) rfl (List.Perm.refl _) trivial (Nat.le_of_ble_eq_true rfl) (Nat.le_of_ble_eq_true rfl)

set_option maxHeartbeats 4000000 in
set_option maxRecDepth 100000 in
theorem c_X0_addToGroup (l : Launch) (D : va_G) (g : Nat → ClassId) (a : Nat → Nat) (F Hm : Nat → Int) (n : Nat) (x : Int) (hn : n < 300) (hx : R32 x) (hF : ∀ k, k < n → R32 (F k)) : Ct (S := (Nat → Int) × (Nat → Int) × Nat) l D g yX0_addToGroup cX0_addToGroup 3 none rmX0_addToGroup [.ref (a 0), .int (iI x)] (wFound g a F Hm n) (fun u => none) (fun u => u = if 0 < n ∧ F (n - 1) = x then (F, up Hm (n - 1) (Hm (n - 1) + 1), n) else (up F n x, up Hm n 1, n + 1)) (fun u => wFound g a u.1 u.2.1 u.2.2) := by
  refine Ct.of RX0 rfl (by decide +kernel) [(0, .ref (a 0)), (1, .int (iI x))] rfl (Nat.le_of_ble_eq_true rfl) ?_
  intro pg evn sT mI bl mtd cd aA ls ar qQ zC zr zk zi zQ h hl
  have zx := zC.1
  have zb := zC.2.1
  have h : Hx D g sT aA sT.heap ([(a 0, .inr (0, [.ref (a 1), .ref (a 2), .int (iI (n : Int))])), (a 1, cI g 300 F), (a 2, cI g 300 Hm)]) sT.heap [] := h
  skip
  refine lv_aload_n zx zb dX0_addToGroup_0 rfl (lv_at hl 0 rfl) ?_
  refine gf0_18 (v := .int (iI (n : Int))) zC h 0 rfl rfl dX0_addToGroup_1 ?_
  refine lv_iconst (v := iI (1)) zx zb dX0_addToGroup_4 rfl ?_
  refine i_sub zC (a := (n : Int)) (b := 1) dX0_addToGroup_5 ?_
  refine lv_istore_n (lv' := [(2, .int (iI ((n : Int) - 1))), (0, .ref (a 0)), (1, .int (iI x))]) zx zb dX0_addToGroup_6 rfl hl (by decide) rfl (fun ls hl => ?_)
  refine lv_iload_n zx zb dX0_addToGroup_7 rfl (lv_at hl 0 rfl) ?_
  refine i_zlt (a := (n : Int) - 1) (tgt := 41) zC dX0_addToGroup_8 (by decide) (by omega) (fun c_1 => ?_) (fun c_1 => ?_)
  · skip
    refine lv_aload_n zx zb dX0_addToGroup_41 rfl (lv_at hl 1 rfl) ?_
    refine lv_iload_n zx zb dX0_addToGroup_42 rfl (lv_at hl 2 rfl) ?_
    refine r_invV (As := [.int (iI x)]) (rest := []) (wr := []) (ws2 := fun u_2 => [(a 0, .inr (0, [.ref (a 1), .ref (a 2), .int (iI ((n + 1 : Nat) : Int))])), (a 1, cI g 300 (up F n x)), (a 2, cI g 300 (up Hm n 1))]) 0 0 zC h hl.1 (c_X0_add l D g a F Hm n x hn) (cs0_22 zC ⟨(Nat.le_of_ble_eq_true rfl), (Nat.le_of_ble_eq_true rfl)⟩) (.head _) rfl rfl rfl (Nat.le_of_ble_eq_true rfl) (List.Perm.of_eq (List.append_nil _).symm) (fun u => List.Perm.of_eq (List.append_nil _)) ⟨(Nat.le_of_ble_eq_true rfl), (Nat.le_of_ble_eq_true rfl)⟩ (Nat.le_of_ble_eq_true rfl) (Nat.le_of_ble_eq_true rfl) dX0_addToGroup_43 (fun u_2 H locs hu_2 hz_2 h => ?_)
    exact r_vret zC zQ zr zk h dX0_addToGroup_46 (u := (up F n x, up Hm n 1, n + 1)) rfl (List.Perm.refl _) (by rw [if_neg (by omega)]) (Nat.le_of_ble_eq_true rfl) (Nat.le_of_ble_eq_true rfl)
  · skip
    refine lv_iload_n zx zb dX0_addToGroup_11 rfl (lv_at hl 0 rfl) ?_
    refine lv_sipush (v := iI (300)) zx zb dX0_addToGroup_12 rfl ?_
    refine i_cge (a := (n : Int) - 1) (b := 300) (tgt := 41) zC dX0_addToGroup_15 (by decide) (by omega) (fun c_3 => absurd c_3 (by omega)) (fun c_3 => ?_)
    refine lv_aload_n zx zb dX0_addToGroup_18 rfl (lv_at hl 1 rfl) ?_
    refine gf0_9 (v := .ref (a 1)) zC h 0 rfl rfl dX0_addToGroup_19 ?_
    refine lv_iload_n zx zb dX0_addToGroup_22 rfl (lv_at hl 0 rfl) ?_
    refine a_ild zC h 1 rfl (z := (n : Int) - 1) (n - 1) (by omega) (by omega) (by decide) dX0_addToGroup_23 ?_
    refine lv_iload_n zx zb dX0_addToGroup_24 rfl (lv_at hl 2 rfl) ?_
    have hF1 := hF (n - 1) (by omega)
    refine i_cne (a := F (n - 1)) (b := x) (tgt := 41) zC dX0_addToGroup_25 (by decide) (by omega) (fun c_4 => ?_) (fun c_4 => ?_)
    · skip
      refine lv_aload_n zx zb dX0_addToGroup_41 rfl (lv_at hl 1 rfl) ?_
      refine lv_iload_n zx zb dX0_addToGroup_42 rfl (lv_at hl 2 rfl) ?_
      refine r_invV (As := [.int (iI x)]) (rest := []) (wr := []) (ws2 := fun u_5 => [(a 0, .inr (0, [.ref (a 1), .ref (a 2), .int (iI ((n + 1 : Nat) : Int))])), (a 1, cI g 300 (up F n x)), (a 2, cI g 300 (up Hm n 1))]) 0 0 zC h hl.1 (c_X0_add l D g a F Hm n x hn) (cs0_22 zC ⟨(Nat.le_of_ble_eq_true rfl), (Nat.le_of_ble_eq_true rfl)⟩) (.head _) rfl rfl rfl (Nat.le_of_ble_eq_true rfl) (List.Perm.of_eq (List.append_nil _).symm) (fun u => List.Perm.of_eq (List.append_nil _)) ⟨(Nat.le_of_ble_eq_true rfl), (Nat.le_of_ble_eq_true rfl)⟩ (Nat.le_of_ble_eq_true rfl) (Nat.le_of_ble_eq_true rfl) dX0_addToGroup_43 (fun u_5 H locs hu_5 hz_5 h => ?_)
      exact r_vret zC zQ zr zk h dX0_addToGroup_46 (u := (up F n x, up Hm n 1, n + 1)) rfl (List.Perm.refl _) (by rw [if_neg (by omega)]) (Nat.le_of_ble_eq_true rfl) (Nat.le_of_ble_eq_true rfl)
    · skip
      refine lv_aload_n zx zb dX0_addToGroup_28 rfl (lv_at hl 1 rfl) ?_
      refine gf0_15 (v := .ref (a 2)) zC h 0 rfl rfl dX0_addToGroup_29 ?_
      refine lv_iload_n zx zb dX0_addToGroup_32 rfl (lv_at hl 0 rfl) ?_
      refine lv_dup2_11 zx zb dX0_addToGroup_33 rfl rfl ?_
      refine a_ild zC h 2 rfl (z := (n : Int) - 1) (n - 1) (by omega) (by omega) (by decide) dX0_addToGroup_34 ?_
      refine lv_iconst (v := iI (1)) zx zb dX0_addToGroup_35 rfl ?_
      refine i_add zC (a := Hm (n - 1)) (b := 1) dX0_addToGroup_36 ?_
      refine a_ist (x := Hm (n - 1) + 1) zC h 2 (ws' := [(a 0, .inr (0, [.ref (a 1), .ref (a 2), .int (iI (n : Int))])), (a 1, cI g 300 F), (a 2, cI g 300 (up Hm (n - 1) (Hm (n - 1) + 1)))]) rfl (z := (n : Int) - 1) (n - 1) rfl (by omega) (by omega) (by decide) dX0_addToGroup_37 (fun H locs h => ?_)
      refine lv_goto (tgt := 46) zx zb dX0_addToGroup_38 (by decide) ?_
      exact r_vret zC zQ zr zk h dX0_addToGroup_46 (u := (F, up Hm (n - 1) (Hm (n - 1) + 1), n)) rfl (List.Perm.refl _) (by rw [if_pos ⟨by omega, by omega⟩]) (Nat.le_of_ble_eq_true rfl) (Nat.le_of_ble_eq_true rfl)

set_option maxHeartbeats 4000000 in
set_option maxRecDepth 100000 in
theorem c_X0_first (l : Launch) (D : va_G) (g : Nat → ClassId) (a : Nat → Nat) (F Hm : Nat → Int) (n : Nat) (k : Nat) (hk : k < 300) : Ct (S := Unit) l D g yX0_first cX0_first 2 (some .int) rmX0_first [.ref (a 0), .int (iI (k : Int))] (wFound g a F Hm n) (fun u => some (.int (iI (F k)))) (fun _ => True) (fun u => wFound g a F Hm n) := by
  refine Ct.of RX0 rfl (by decide +kernel) [(0, .ref (a 0)), (1, .int (iI (k : Int)))] rfl (Nat.le_of_ble_eq_true rfl) ?_
  intro pg evn sT mI bl mtd cd aA ls ar qQ zC zr zk zi zQ h hl
  have zx := zC.1
  have zb := zC.2.1
  have h : Hx D g sT aA sT.heap ([(a 0, .inr (0, [.ref (a 1), .ref (a 2), .int (iI (n : Int))])), (a 1, cI g 300 F), (a 2, cI g 300 Hm)]) sT.heap [] := h
  skip
  refine lv_iload_n zx zb dX0_first_0 rfl (lv_at hl 1 rfl) ?_
  refine i_zlt (a := (k : Int)) (tgt := 20) zC dX0_first_1 (by decide) (by omega) (fun c_1 => absurd c_1 (by omega)) (fun c_1 => ?_)
  refine lv_iload_n zx zb dX0_first_4 rfl (lv_at hl 1 rfl) ?_
  refine lv_sipush (v := iI (300)) zx zb dX0_first_5 rfl ?_
  refine i_cge (a := (k : Int)) (b := 300) (tgt := 20) zC dX0_first_8 (by decide) (by omega) (fun c_2 => absurd c_2 (by omega)) (fun c_2 => ?_)
  refine lv_aload_n zx zb dX0_first_11 rfl (lv_at hl 0 rfl) ?_
  refine gf0_9 (v := .ref (a 1)) zC h 0 rfl rfl dX0_first_12 ?_
  refine lv_iload_n zx zb dX0_first_15 rfl (lv_at hl 1 rfl) ?_
  refine a_ild zC h 1 rfl (z := (k : Int)) k (by omega) (by omega) (by decide) dX0_first_16 ?_
  refine lv_goto (tgt := 21) zx zb dX0_first_17 (by decide) ?_
  exact r_iret zC zQ zr zk h dX0_first_21 (u := ()) rfl (List.Perm.refl _) trivial (Nat.le_of_ble_eq_true rfl) (Nat.le_of_ble_eq_true rfl)

set_option maxHeartbeats 4000000 in
set_option maxRecDepth 100000 in
theorem c_X0_howMany (l : Launch) (D : va_G) (g : Nat → ClassId) (a : Nat → Nat) (F Hm : Nat → Int) (n : Nat) (k : Nat) (hk : k < 300) : Ct (S := Unit) l D g yX0_howMany cX0_howMany 2 (some .int) rmX0_howMany [.ref (a 0), .int (iI (k : Int))] (wFound g a F Hm n) (fun u => some (.int (iI (Hm k)))) (fun _ => True) (fun u => wFound g a F Hm n) := by
  refine Ct.of RX0 rfl (by decide +kernel) [(0, .ref (a 0)), (1, .int (iI (k : Int)))] rfl (Nat.le_of_ble_eq_true rfl) ?_
  intro pg evn sT mI bl mtd cd aA ls ar qQ zC zr zk zi zQ h hl
  have zx := zC.1
  have zb := zC.2.1
  have h : Hx D g sT aA sT.heap ([(a 0, .inr (0, [.ref (a 1), .ref (a 2), .int (iI (n : Int))])), (a 1, cI g 300 F), (a 2, cI g 300 Hm)]) sT.heap [] := h
  skip
  refine lv_iload_n zx zb dX0_howMany_0 rfl (lv_at hl 1 rfl) ?_
  refine i_zlt (a := (k : Int)) (tgt := 20) zC dX0_howMany_1 (by decide) (by omega) (fun c_1 => absurd c_1 (by omega)) (fun c_1 => ?_)
  refine lv_iload_n zx zb dX0_howMany_4 rfl (lv_at hl 1 rfl) ?_
  refine lv_sipush (v := iI (300)) zx zb dX0_howMany_5 rfl ?_
  refine i_cge (a := (k : Int)) (b := 300) (tgt := 20) zC dX0_howMany_8 (by decide) (by omega) (fun c_2 => absurd c_2 (by omega)) (fun c_2 => ?_)
  refine lv_aload_n zx zb dX0_howMany_11 rfl (lv_at hl 0 rfl) ?_
  refine gf0_15 (v := .ref (a 2)) zC h 0 rfl rfl dX0_howMany_12 ?_
  refine lv_iload_n zx zb dX0_howMany_15 rfl (lv_at hl 1 rfl) ?_
  refine a_ild zC h 2 rfl (z := (k : Int)) k (by omega) (by omega) (by decide) dX0_howMany_16 ?_
  refine lv_goto (tgt := 21) zx zb dX0_howMany_17 (by decide) ?_
  exact r_iret zC zQ zr zk h dX0_howMany_21 (u := ()) rfl (List.Perm.refl _) trivial (Nat.le_of_ble_eq_true rfl) (Nat.le_of_ble_eq_true rfl)
end
section
/-! BITS: an int that is a set of places below 32. The first rows (bt, b_..) began as the kit's family in laws/BITS -/
def bt (x : Int32) (i : Nat) : Bool := x.toBitVec.getLsbD i
theorem b_ext {x y : Int32} (h : ∀ i, i < 32 → bt x i = bt y i) : x = y := Int32.toBitVec_inj.mp (BitVec.eq_of_getLsbD_eq (fun i hi => h i hi))
theorem b_or (x y : Int32) (i : Nat) : bt (x ||| y) i = (bt x i || bt y i) := by unfold bt; rw [Int32.toBitVec_or, BitVec.getLsbD_or]
theorem b_and (x y : Int32) (i : Nat) : bt (x &&& y) i = (bt x i && bt y i) := by unfold bt; rw [Int32.toBitVec_and, BitVec.getLsbD_and]
theorem b_xor (x y : Int32) (i : Nat) : bt (x ^^^ y) i = (bt x i ^^ bt y i) := by unfold bt; rw [Int32.toBitVec_xor, BitVec.getLsbD_xor]
theorem b_m1 : ∀ i, i < 32 → bt (-1) i = true := by decide +kernel
theorem b_1 : ∀ i, i < 32 → bt 1 i = (i == 0) := by decide +kernel
theorem b_0 (i : Nat) : bt 0 i = false := BitVec.getLsbD_zero
theorem s_l : ∀ n, n < 32 → ((nI n &&& 31).toBitVec.smod 32).toNat = n := by decide +kernel
theorem s_u : ∀ n, n < 32 → (((nI n).toUInt32 &&& Int32.toUInt32 31).toBitVec % 32).toNat = n := by decide +kernel
theorem b_shl (n : Nat) (hn : n < 32) (x : Int32) {i : Nat} (hi : i < 32) : bt (x <<< (nI n &&& 31)) i = (decide (n ≤ i) && bt x (i - n)) := by
  unfold bt
  rw [Int32.toBitVec_shiftLeft]
  show (x.toBitVec <<< ((nI n &&& 31).toBitVec.smod 32).toNat).getLsbD i = _
  rw [s_l n hn, BitVec.getLsbD_shiftLeft]
  rcases Nat.lt_or_ge i n with h | h
  · simp [h, Nat.not_le.mpr h]
  · simp [hi, h, Nat.not_lt.mpr h]
theorem b_ushr (n : Nat) (hn : n < 32) (x : Int32) (i : Nat) : bt ((x.toUInt32 >>> ((nI n).toUInt32 &&& Int32.toUInt32 31)).toInt32) i = bt x (n + i) := by
  show (x.toUInt32 >>> ((nI n).toUInt32 &&& Int32.toUInt32 31)).toBitVec.getLsbD i = x.toUInt32.toBitVec.getLsbD (n + i)
  rw [UInt32.toBitVec_shiftRight]
  show (x.toUInt32.toBitVec >>> (((nI n).toUInt32 &&& Int32.toUInt32 31).toBitVec % 32).toNat).getLsbD i = _
  rw [s_u n hn, BitVec.getLsbD_ushiftRight]
theorem b_sshr (n : Nat) (hn : n < 32) (x : Int32) {i : Nat} (hi : i < 32) : bt (x >>> (nI n &&& 31)) i = if n + i < 32 then bt x (n + i) else bt x 31 := by
  unfold bt
  rw [Int32.toBitVec_shiftRight]
  show (x.toBitVec.sshiftRight ((nI n &&& 31).toBitVec.smod 32).toNat).getLsbD i = _
  rw [s_l n hn, BitVec.getLsbD_sshiftRight, BitVec.msb_eq_getLsbD_last]
  simp [hi]
theorem iI_nI {n : Nat} (h : n < 2147483648) : iI (n : Int) = nI n := by
  apply Int32.toInt_inj.mp
  rw [iI_toInt (by constructor <;> omega), nI_toInt (by omega)]
theorem bS_ex (f : Nat → Bool) : ∀ n, ∃ x : Int32, ∀ i, i < 32 → bt x i = (decide (i < n) && f i)
  | 0 => ⟨0, fun i _ => by rw [b_0]; simp⟩
  | n + 1 => by
    obtain ⟨x, hx⟩ := bS_ex f n
    by_cases hn : f n = true ∧ n < 32
    · refine ⟨x ||| ((1 : Int32) <<< (nI n &&& 31)), fun i hi => ?_⟩
      rw [b_or, hx i hi, b_shl n hn.2 1 hi]
      rcases Nat.lt_trichotomy i n with h | h | h
      · simp [h, Nat.not_le.mpr h, Nat.lt_succ_of_lt h]
      · subst h
        simp [hn.1, b_1 0 (by omega)]
      · rw [b_1 (i - n) (by omega)]
        have h1 : ¬ i < n := by omega
        have h2 : ¬ i < n + 1 := by omega
        have h3 : ¬ i - n = 0 := by omega
        simp [h1, h2, h3]
    · refine ⟨x, fun i hi => ?_⟩
      rw [hx i hi]
      by_cases h : i = n
      · subst h
        have : f i = false := by
          cases hf : f i with
          | false => rfl
          | true => exact absurd ⟨hf, hi⟩ hn
        simp [this]
      · have h1 : (i < n) ↔ (i < n + 1) := by omega
        simp [h1]
noncomputable def bS (f : Nat → Bool) : Int32 := Classical.choose (bS_ex f 32)
theorem bS_bt {f : Nat → Bool} {i : Nat} (hi : i < 32) : bt (bS f) i = f i := by
  have h := Classical.choose_spec (bS_ex f 32) i hi
  unfold bS
  rw [h]
  simp [hi]
theorem bS_ext {x : Int32} {f : Nat → Bool} (h : ∀ i, i < 32 → bt x i = f i) : x = bS f := b_ext fun i hi => by rw [h i hi, bS_bt hi]
noncomputable def bZ (f : Nat → Bool) : Int := (bS f).toInt
theorem bZ_I (f : Nat → Bool) : iI (bZ f) = bS f := iI_of _
theorem bZ_R (f : Nat → Bool) : R32 (bZ f) := R32_of _
theorem bZ_of {x : Int32} {f : Nat → Bool} (h : ∀ i, i < 32 → bt x i = f i) : x = iI (bZ f) := by rw [bZ_I]; exact bS_ext h
theorem bZ_bt {f : Nat → Bool} {i : Nat} (hi : i < 32) : bt (iI (bZ f)) i = f i := by rw [bZ_I]; exact bS_bt hi
theorem bZ_congr {f h : Nat → Bool} (e : ∀ i, i < 32 → f i = h i) : bZ f = bZ h := by
  unfold bZ
  rw [show bS f = bS h from bS_ext fun i hi => by rw [bS_bt hi, e i hi]]
theorem bZ_inj {f h : Nat → Bool} (e : bZ f = bZ h) {i : Nat} (hi : i < 32) : f i = h i := by
  rw [← bZ_bt (f := f) hi, e, bZ_bt hi]
theorem bZ_or (f h : Nat → Bool) : iI (bZ f) ||| iI (bZ h) = iI (bZ fun i => f i || h i) := bZ_of fun i hi => by rw [b_or, bZ_bt hi, bZ_bt hi]
theorem bZ_and (f h : Nat → Bool) : iI (bZ f) &&& iI (bZ h) = iI (bZ fun i => f i && h i) := bZ_of fun i hi => by rw [b_and, bZ_bt hi, bZ_bt hi]
theorem bZ_xor (f h : Nat → Bool) : iI (bZ f) ^^^ iI (bZ h) = iI (bZ fun i => f i ^^ h i) := bZ_of fun i hi => by rw [b_xor, bZ_bt hi, bZ_bt hi]
theorem bZ_0 : iI 0 = iI (bZ fun _ => false) := bZ_of fun i _ => b_0 i
theorem bZ_m1 : iI (-1) = iI (bZ fun _ => true) := bZ_of fun i hi => b_m1 i hi
theorem bZ_1 : iI 1 = iI (bZ fun i => i == 0) := bZ_of fun i hi => b_1 i hi
theorem bZ_z : bZ (fun _ => false) = 0 := by
  have h := bZ_0
  rw [iI_eq (by decide) (bZ_R _)] at h
  exact h.symm
theorem bZ_o : bZ (fun i => i == 0) = 1 := by
  have h := bZ_1
  rw [iI_eq (by decide) (bZ_R _)] at h
  exact h.symm
theorem bZ_not (f : Nat → Bool) : iI (bZ f) ^^^ iI (-1) = iI (bZ fun i => !f i) := by
  rw [bZ_m1, bZ_xor]
  refine congrArg iI (bZ_congr fun i _ => ?_)
  cases f i <;> rfl
theorem bZ_sh {k : Nat} (hk : k < 32) : iI 1 <<< (iI (k : Int) &&& 31) = iI (bZ fun i => i == k) := bZ_of fun i hi => by
  rw [iI_nI (by omega), b_shl k hk _ hi]
  show (decide (k ≤ i) && bt 1 (i - k)) = (i == k)
  rw [b_1 (i - k) (by omega)]
  rcases Nat.lt_trichotomy i k with h | h | h
  · have h1 : ¬ k ≤ i := by omega
    have h2 : ¬ i = k := by omega
    simp [h1, h2]
  · subst h; simp
  · rw [decide_eq_true (show k ≤ i by omega), beq_eq_false_iff_ne.mpr (show i - k ≠ 0 by omega), beq_eq_false_iff_ne.mpr (show i ≠ k by omega)]
    rfl
theorem bZ_shl1 {k : Nat} (hk : k + 1 < 32) : iI (bZ fun i => i == k) <<< (iI 1 &&& 31) = iI (bZ fun i => i == k + 1) := bZ_of fun i hi => by
  show bt (iI (bZ fun i => i == k) <<< (nI 1 &&& 31)) i = _
  rw [b_shl 1 (by omega) _ hi, bZ_bt (by omega)]
  cases i with
  | zero => simp
  | succ i => simp
theorem bZ_ushr1 {k : Nat} (hk : k + 1 < 32) : ((iI (bZ fun i => i == k + 1)).toUInt32 >>> ((iI 1).toUInt32 &&& Int32.toUInt32 31)).toInt32 = iI (bZ fun i => i == k) := bZ_of fun i hi => by
  show bt (((iI (bZ fun i => i == k + 1)).toUInt32 >>> ((nI 1).toUInt32 &&& Int32.toUInt32 31)).toInt32) i = _
  rw [b_ushr 1 (by omega)]
  by_cases h : 1 + i < 32
  · rw [bZ_bt h]
    rw [show ((1 + i == k + 1) : Bool) = (i == k) from by rw [Nat.add_comm 1 i]; simp]
  · have h1 : bt (iI (bZ fun i => i == k + 1)) (1 + i) = false := BitVec.getLsbD_of_ge _ _ (by omega)
    have h2 : ¬ i = k := by omega
    rw [h1]
    simp [h2]
theorem bZ_tst {f : Nat → Bool} {k : Nat} (hk : k < 32) : (iI (bZ f) >>> (iI (k : Int) &&& 31)) &&& iI 1 = bI (f k) := by
  apply b_ext
  intro i hi
  rw [b_and, iI_nI (by omega), b_sshr k hk _ hi, show iI 1 = (1 : Int32) from rfl, b_1 i hi]
  by_cases h : i = 0
  · subst h
    rw [if_pos (by omega), show k + 0 = k from rfl, bZ_bt hk]
    cases f k
    · simp [bI, b_0]
    · simp [bI, b_1 0 (by omega)]
  · have e : (i == 0) = false := by simp [h]
    rw [e, Bool.and_false]
    cases f k
    · simp [bI, b_0]
    · simp [bI, b_1 i hi, h]
theorem bZ_eq0 {f : Nat → Bool} : bZ f = 0 ↔ ∀ i, i < 32 → f i = false := by
  constructor
  · intro e i hi
    have h1 : bt (iI (bZ f)) i = f i := bZ_bt hi
    rw [e] at h1
    rw [← h1]
    exact b_0 i
  · intro e
    rw [← bZ_z]
    exact bZ_congr e
theorem bnf {b : Bool} (h : b ≠ false) : b = true := by cases b <;> simp_all
theorem bnt {b : Bool} (h : b ≠ true) : b = false := by cases b <;> simp_all
end
section
/-! ROWS: the rows' values, and the two orders of each field -/
def pV (V : Nat → Nat → Int) (f k : Nat) (x : Int) : Nat → Nat → Int := up V f (up (V f) k x)
theorem sG_putV {g : Nat → ClassId} {r : Nat → Nat} {n len : Nat} {F : Nat → Nat → Int} {i k : Nat} {x : Int} (h : i < n) : (sG g r n len (pV F i k x)).Perm ((r i, cI g len (up (F i) k x)) :: sGx g r n len F i) := sG_put h
def wRows (g : Nat → ClassId) (a r1 r2 r3 : Nat → Nat) (n : Nat) (Vv U Dn : Nat → Nat → Int) : va_W := (a 0, .inr (6, [.ref (a 1), .ref (a 2), .ref (a 3), .int (iI (n : Int))])) :: (a 1, cG g 5 r1) :: (a 2, cG g 5 r2) :: (a 3, cG g 5 r3) :: (sG g r1 5 300 Vv ++ (sG g r2 5 300 U ++ sG g r3 5 300 Dn))
theorem wRows_mem {g : Nat → ClassId} {a r1 r2 r3 : Nat → Nat} {n : Nat} {Vv U Dn : Nat → Nat → Int} : (a 0, .inr (6, [.ref (a 1), .ref (a 2), .ref (a 3), .int (iI (n : Int))])) ∈ wRows g a r1 r2 r3 n Vv U Dn := .head _
/-- the newest row's number put at a place of an order -/
def insF (F : Nat → Int) (n p : Nat) : Nat → Int := fun j => if j < p then F j else if j = p then (n : Int) else if j < n then F (j - 1) else F j
def insG (F : Nat → Int) (n q : Nat) : Nat → Int := fun j => if q < j ∧ j < n then F (j - 1) else F j
theorem insG_step {F : Nat → Int} {n q : Nat} (h0 : 0 < q) (h : q < n) : up (insG F n q) q (insG F n q (q - 1)) = insG F n (q - 1) := by
  funext j
  simp only [up, insG]
  split
  · next e =>
    subst e
    rw [if_neg (by omega), if_pos ⟨by omega, by omega⟩]
  · next e =>
    by_cases h1 : q < j ∧ j < n
    · rw [if_pos h1, if_pos ⟨by omega, h1.2⟩]
    · rw [if_neg h1, if_neg (by omega)]
theorem insG_0 {F : Nat → Int} {n : Nat} : F = insG F n (n - 1) := by
  funext j
  simp only [insG]
  rw [if_neg (by omega)]
theorem insG_end {F : Nat → Int} {n p : Nat} (h : p < n) : up (insG F n p) p (n : Int) = insF F n p := by
  funext j
  simp only [up, insG, insF]
  by_cases h1 : j = p
  · rw [if_pos h1, if_neg (by omega), if_pos h1]
  · rw [if_neg h1]
    by_cases h2 : j < p
    · rw [if_pos h2, if_neg (by omega)]
    · rw [if_neg h2, if_neg h1]
      by_cases h3 : j < n
      · rw [if_pos ⟨by omega, h3⟩, if_pos h3]
      · rw [if_neg (by omega), if_neg h3]
/-- where the newest row goes in an order from the least on -/
def plU (Vf O : Nat → Int) (n : Nat) (v : Int) (p : Nat) : Prop := p < n ∧ (0 < p → Vf (O (p - 1) - 1).toNat ≤ v) ∧ ∀ j, p ≤ j → j + 1 < n → v < Vf (O j - 1).toNat
def plD (Vf O : Nat → Int) (n : Nat) (v : Int) (p : Nat) : Prop := p < n ∧ (0 < p → v ≤ Vf (O (p - 1) - 1).toNat) ∧ ∀ j, p ≤ j → j + 1 < n → Vf (O j - 1).toNat < v
theorem stepI {P : Nat → Prop} {n p : Nat} (h0 : p - 1 + 1 < n → P (p - 1)) (hi : ∀ j, p ≤ j → j + 1 < n → P j) : ∀ j, p - 1 ≤ j → j + 1 < n → P j := fun j h1 h2 => by
  rcases Nat.lt_or_ge j p with q | q
  · have e : j = p - 1 := by omega
    subst e
    exact h0 h2
  · exact hi j q h2
theorem putI {Vv U Dn Uc Dc : Nat → Nat → Int} {n f p q : Nat} (hi : ∀ e, e < f → (∃ p, plU (Vv e) (U e) n (Vv e (n - 1)) p ∧ Uc e = insF (U e) n p) ∧ ∃ p, plD (Vv e) (Dn e) n (Vv e (n - 1)) p ∧ Dc e = insF (Dn e) n p)
    (hr : ∀ e, f ≤ e → Uc e = U e ∧ Dc e = Dn e) (hu : plU (Vv f) (Uc f) n (Vv f (n - 1)) p) (hd : plD (Vv f) (Dc f) n (Vv f (n - 1)) q) :
    ∀ e, e < f + 1 → (∃ p', plU (Vv e) (U e) n (Vv e (n - 1)) p' ∧ up Uc f (insF (Uc f) n p) e = insF (U e) n p') ∧ ∃ p', plD (Vv e) (Dn e) n (Vv e (n - 1)) p' ∧ up Dc f (insF (Dc f) n q) e = insF (Dn e) n p' := by
  intro e he
  by_cases h : e = f
  · subst h
    obtain ⟨e1, e2⟩ := hr e (Nat.le_refl e)
    rw [e1] at hu
    rw [e2] at hd
    refine ⟨⟨p, hu, ?_⟩, q, hd, ?_⟩
    · rw [up_s, e1]
    · rw [up_s, e2]
  · obtain ⟨⟨p1, h1, h2⟩, q1, h3, h4⟩ := hi e (by omega)
    exact ⟨⟨p1, h1, by rw [up_n h]; exact h2⟩, q1, h3, by rw [up_n h]; exact h4⟩
theorem putR {U Dn Uc Dc : Nat → Nat → Int} {f : Nat} {x y : Nat → Int} (hr : ∀ e, f ≤ e → Uc e = U e ∧ Dc e = Dn e) : ∀ e, f + 1 ≤ e → up Uc f x e = U e ∧ up Dc f y e = Dn e := fun e he => by
  rw [up_n (by omega), up_n (by omega)]
  exact hr e (by omega)

theorem addV {Vv : Nat → Nat → Int} {n : Nat} {x0 x1 x2 x3 x4 : Int} (hx : R32 x0 ∧ R32 x1 ∧ R32 x2 ∧ R32 x3 ∧ R32 x4) (hV : ∀ f k, f < 5 → k < n → R32 (Vv f k)) : ∀ f k, f < 5 → k < n + 1 → R32 ((pV (pV (pV (pV (pV Vv 0 n x0) 1 n x1) 2 n x2) 3 n x3) 4 n x4) f k) := by
  intro f k hf hk
  obtain ⟨h0, h1, h2, h3, h4⟩ := hx
  have e : f = 0 ∨ f = 1 ∨ f = 2 ∨ f = 3 ∨ f = 4 := by omega
  by_cases q : k = n
  · subst q
    rcases e with rfl | rfl | rfl | rfl | rfl <;> simpa [pV, up]
  · have hh := hV f k hf (by omega)
    rcases e with rfl | rfl | rfl | rfl | rfl <;> simpa [pV, up, q]

set_option maxHeartbeats 4000000 in
set_option maxRecDepth 100000 in
theorem c_X6_count (l : Launch) (D : va_G) (g : Nat → ClassId) (a r1 r2 r3 : Nat → Nat) (n : Nat) (Vv U Dn : Nat → Nat → Int) : Ct (S := Unit) l D g yX6_count cX6_count 1 (some .int) rmX6_count [.ref (a 0)] (wRows g a r1 r2 r3 n Vv U Dn) (fun u => some (.int (iI (n : Int)))) (fun _ => True) (fun u => wRows g a r1 r2 r3 n Vv U Dn) := by
  refine Ct.of RX6 rfl (by decide +kernel) [(0, .ref (a 0))] rfl (Nat.le_of_ble_eq_true rfl) ?_
  intro pg evn sT mI bl mtd cd aA ls ar qQ zC zr zk zi zQ h hl
  have zx := zC.1
  have zb := zC.2.1
  have h : Hx D g sT aA sT.heap ((a 0, .inr (6, [.ref (a 1), .ref (a 2), .ref (a 3), .int (iI (n : Int))])) :: (a 1, cG g 5 r1) :: (a 2, cG g 5 r2) :: (a 3, cG g 5 r3) :: ((sG g r1 5 300 Vv) ++ ((sG g r2 5 300 U) ++ (sG g r3 5 300 Dn)))) sT.heap [] := h
  skip
  refine lv_aload_n zx zb dX6_count_0 rfl (lv_at hl 0 rfl) ?_
  refine gf6_22 (v := .int (iI (n : Int))) zC h 0 rfl rfl dX6_count_1 ?_
  exact r_iret zC zQ zr zk h dX6_count_4 (u := ()) rfl (List.Perm.refl _) trivial (Nat.le_of_ble_eq_true rfl) (Nat.le_of_ble_eq_true rfl)

set_option maxHeartbeats 4000000 in
set_option maxRecDepth 100000 in
theorem c_X6_value (l : Launch) (D : va_G) (g : Nat → ClassId) (a r1 r2 r3 : Nat → Nat) (n : Nat) (Vv U Dn : Nat → Nat → Int) (k f : Nat) (z : Int) (hz : z = (k : Int) + 1) (hk : k < n) (hn : n ≤ 300) (hf : f < 5) : Ct (S := Unit) l D g yX6_value cX6_value 3 (some .int) rmX6_value [.ref (a 0), .int (iI z), .int (iI (f : Int))] (wRows g a r1 r2 r3 n Vv U Dn) (fun u => some (.int (iI (Vv f k)))) (fun _ => True) (fun u => wRows g a r1 r2 r3 n Vv U Dn) := by
  refine Ct.of RX6 rfl (by decide +kernel) [(0, .ref (a 0)), (1, .int (iI z)), (2, .int (iI (f : Int)))] rfl (Nat.le_of_ble_eq_true rfl) ?_
  intro pg evn sT mI bl mtd cd aA ls ar qQ zC zr zk zi zQ h hl
  have zx := zC.1
  have zb := zC.2.1
  have h : Hx D g sT aA sT.heap ((a 0, .inr (6, [.ref (a 1), .ref (a 2), .ref (a 3), .int (iI (n : Int))])) :: (a 1, cG g 5 r1) :: (a 2, cG g 5 r2) :: (a 3, cG g 5 r3) :: ((sG g r1 5 300 Vv) ++ ((sG g r2 5 300 U) ++ (sG g r3 5 300 Dn)))) sT.heap [] := h
  skip
  refine lv_iload_n zx zb dX6_value_0 rfl (lv_at hl 1 rfl) ?_
  refine lv_iconst (v := iI (1)) zx zb dX6_value_1 rfl ?_
  refine i_clt (a := z) (b := 1) (tgt := 29) zC dX6_value_2 (by decide) (by omega) (fun c_1 => absurd c_1 (by omega)) (fun c_1 => ?_)
  refine lv_iload_n zx zb dX6_value_5 rfl (lv_at hl 1 rfl) ?_
  refine lv_aload_n zx zb dX6_value_6 rfl (lv_at hl 0 rfl) ?_
  refine gf6_22 (v := .int (iI (n : Int))) zC h 0 rfl rfl dX6_value_7 ?_
  refine i_cgt (a := z) (b := (n : Int)) (tgt := 29) zC dX6_value_10 (by decide) (by omega) (fun c_2 => absurd c_2 (by omega)) (fun c_2 => ?_)
  refine lv_iload_n zx zb dX6_value_13 rfl (lv_at hl 1 rfl) ?_
  refine lv_sipush (v := iI (300)) zx zb dX6_value_14 rfl ?_
  refine i_cgt (a := z) (b := 300) (tgt := 29) zC dX6_value_17 (by decide) (by omega) (fun c_3 => absurd c_3 (by omega)) (fun c_3 => ?_)
  refine lv_iload_n zx zb dX6_value_20 rfl (lv_at hl 2 rfl) ?_
  refine i_zlt (a := (f : Int)) (tgt := 29) zC dX6_value_21 (by decide) (by omega) (fun c_4 => absurd c_4 (by omega)) (fun c_4 => ?_)
  refine lv_iload_n zx zb dX6_value_24 rfl (lv_at hl 2 rfl) ?_
  refine lv_iconst (v := iI (5)) zx zb dX6_value_25 rfl ?_
  refine i_clt (a := (f : Int)) (b := 5) (tgt := 31) zC dX6_value_26 (by decide) (by omega) (fun c_5 => ?_) (fun c_5 => absurd c_5 (by omega))
  refine lv_aload_n zx zb dX6_value_31 rfl (lv_at hl 0 rfl) ?_
  refine gf6_11 (v := .ref (a 1)) zC h 0 rfl rfl dX6_value_32 ?_
  refine lv_iload_n zx zb dX6_value_35 rfl (lv_at hl 2 rfl) ?_
  refine a_gld zC h 1 rfl (z := (f : Int)) f (by omega) (by omega) (by decide) dX6_value_36 ?_
  refine lv_iload_n zx zb dX6_value_37 rfl (lv_at hl 1 rfl) ?_
  refine lv_iconst (v := iI (1)) zx zb dX6_value_38 rfl ?_
  refine i_sub zC (a := z) (b := 1) dX6_value_39 ?_
  refine a_ildM (n := 300) (F := Vv f) zC h (.tail _ (.tail _ (.tail _ (.tail _ (List.mem_append_left _ (sG_get (by omega))))))) (z := z - 1) k (by omega) (by omega) (by decide) dX6_value_40 ?_
  exact r_iret zC zQ zr zk h dX6_value_41 (u := ()) rfl (List.Perm.refl _) trivial (Nat.le_of_ble_eq_true rfl) (Nat.le_of_ble_eq_true rfl)

set_option maxHeartbeats 4000000 in
set_option maxRecDepth 100000 in
theorem c_X6_numberAt0 (l : Launch) (D : va_G) (g : Nat → ClassId) (a r1 r2 r3 : Nat → Nat) (n : Nat) (Vv U Dn : Nat → Nat → Int) (f : Int) (p : Nat) (hp : p < 300) : Ct (S := Unit) l D g yX6_numberAt cX6_numberAt 4 (some .int) rmX6_numberAt [.ref (a 0), .int (iI 0), .int (iI f), .int (iI (p : Int))] (wRows g a r1 r2 r3 n Vv U Dn) (fun u => some (.int (iI ((p : Int) + 1)))) (fun _ => True) (fun u => wRows g a r1 r2 r3 n Vv U Dn) := by
  refine Ct.of RX6 rfl (by decide +kernel) [(0, .ref (a 0)), (1, .int (iI 0)), (2, .int (iI f)), (3, .int (iI (p : Int)))] rfl (Nat.le_of_ble_eq_true rfl) ?_
  intro pg evn sT mI bl mtd cd aA ls ar qQ zC zr zk zi zQ h hl
  have zx := zC.1
  have zb := zC.2.1
  have h : Hx D g sT aA sT.heap ((a 0, .inr (6, [.ref (a 1), .ref (a 2), .ref (a 3), .int (iI (n : Int))])) :: (a 1, cG g 5 r1) :: (a 2, cG g 5 r2) :: (a 3, cG g 5 r3) :: ((sG g r1 5 300 Vv) ++ ((sG g r2 5 300 U) ++ (sG g r3 5 300 Dn)))) sT.heap [] := h
  skip
  refine lv_iload_n zx zb dX6_numberAt_0 rfl (lv_at hl 1 rfl) ?_
  refine i_zeq (a := 0) (tgt := 24) zC dX6_numberAt_1 (by decide) (by omega) (fun c_1 => ?_) (fun c_1 => absurd c_1 (by omega))
  refine lv_iload_n zx zb dX6_numberAt_24 rfl (lv_at hl 3 rfl) ?_
  refine lv_iconst (v := iI (1)) zx zb dX6_numberAt_25 rfl ?_
  refine i_add zC (a := (p : Int)) (b := 1) dX6_numberAt_26 ?_
  exact r_iret zC zQ zr zk h dX6_numberAt_27 (u := ()) rfl (List.Perm.refl _) trivial (Nat.le_of_ble_eq_true rfl) (Nat.le_of_ble_eq_true rfl)

set_option maxHeartbeats 4000000 in
set_option maxRecDepth 100000 in
theorem c_X6_numberAtU (l : Launch) (D : va_G) (g : Nat → ClassId) (a r1 r2 r3 : Nat → Nat) (n : Nat) (Vv U Dn : Nat → Nat → Int) (t : Int) (f p : Nat) (ht : t = 1 ∨ t = 2) (hf : f < 5) (hp : p < 300) : Ct (S := Unit) l D g yX6_numberAt cX6_numberAt 4 (some .int) rmX6_numberAt [.ref (a 0), .int (iI t), .int (iI (f : Int)), .int (iI (p : Int))] (wRows g a r1 r2 r3 n Vv U Dn) (fun u => some (.int (iI (U f p)))) (fun _ => True) (fun u => wRows g a r1 r2 r3 n Vv U Dn) := by
  refine Ct.of RX6 rfl (by decide +kernel) [(0, .ref (a 0)), (1, .int (iI t)), (2, .int (iI (f : Int))), (3, .int (iI (p : Int)))] rfl (Nat.le_of_ble_eq_true rfl) ?_
  intro pg evn sT mI bl mtd cd aA ls ar qQ zC zr zk zi zQ h hl
  have zx := zC.1
  have zb := zC.2.1
  have h : Hx D g sT aA sT.heap ((a 0, .inr (6, [.ref (a 1), .ref (a 2), .ref (a 3), .int (iI (n : Int))])) :: (a 1, cG g 5 r1) :: (a 2, cG g 5 r2) :: (a 3, cG g 5 r3) :: ((sG g r1 5 300 Vv) ++ ((sG g r2 5 300 U) ++ (sG g r3 5 300 Dn)))) sT.heap [] := h
  skip
  refine lv_iload_n zx zb dX6_numberAt_0 rfl (lv_at hl 1 rfl) ?_
  refine i_zeq (a := t) (tgt := 24) zC dX6_numberAt_1 (by decide) (by omega) (fun c_1 => absurd c_1 (by omega)) (fun c_1 => ?_)
  refine lv_iload_n zx zb dX6_numberAt_4 rfl (lv_at hl 2 rfl) ?_
  refine i_zlt (a := (f : Int)) (tgt := 24) zC dX6_numberAt_5 (by decide) (by omega) (fun c_2 => absurd c_2 (by omega)) (fun c_2 => ?_)
  refine lv_iload_n zx zb dX6_numberAt_8 rfl (lv_at hl 2 rfl) ?_
  refine lv_iconst (v := iI (5)) zx zb dX6_numberAt_9 rfl ?_
  refine i_cge (a := (f : Int)) (b := 5) (tgt := 24) zC dX6_numberAt_10 (by decide) (by omega) (fun c_3 => absurd c_3 (by omega)) (fun c_3 => ?_)
  refine lv_iload_n zx zb dX6_numberAt_13 rfl (lv_at hl 3 rfl) ?_
  refine i_zlt (a := (p : Int)) (tgt := 24) zC dX6_numberAt_14 (by decide) (by omega) (fun c_4 => absurd c_4 (by omega)) (fun c_4 => ?_)
  refine lv_iload_n zx zb dX6_numberAt_17 rfl (lv_at hl 3 rfl) ?_
  refine lv_sipush (v := iI (300)) zx zb dX6_numberAt_18 rfl ?_
  refine i_clt (a := (p : Int)) (b := 300) (tgt := 28) zC dX6_numberAt_21 (by decide) (by omega) (fun c_5 => ?_) (fun c_5 => absurd c_5 (by omega))
  refine lv_iload_n zx zb dX6_numberAt_28 rfl (lv_at hl 1 rfl) ?_
  refine lv_iconst (v := iI (3)) zx zb dX6_numberAt_29 rfl ?_
  refine i_cne (a := t) (b := 3) (tgt := 44) zC dX6_numberAt_30 (by decide) (by omega) (fun c_6 => ?_) (fun c_6 => absurd c_6 (by omega))
  refine lv_aload_n zx zb dX6_numberAt_44 rfl (lv_at hl 0 rfl) ?_
  refine gf6_16 (v := .ref (a 2)) zC h 0 rfl rfl dX6_numberAt_45 ?_
  refine lv_iload_n zx zb dX6_numberAt_48 rfl (lv_at hl 2 rfl) ?_
  refine a_gld zC h 2 rfl (z := (f : Int)) f (by omega) (by omega) (by decide) dX6_numberAt_49 ?_
  refine lv_iload_n zx zb dX6_numberAt_50 rfl (lv_at hl 3 rfl) ?_
  refine a_ildM (n := 300) (F := U f) zC h (.tail _ (.tail _ (.tail _ (.tail _ (List.mem_append_right _ (List.mem_append_left _ (sG_get (by omega)))))))) (z := (p : Int)) p (by omega) (by omega) (by decide) dX6_numberAt_51 ?_
  exact r_iret zC zQ zr zk h dX6_numberAt_52 (u := ()) rfl (List.Perm.refl _) trivial (Nat.le_of_ble_eq_true rfl) (Nat.le_of_ble_eq_true rfl)

set_option maxHeartbeats 4000000 in
set_option maxRecDepth 100000 in
theorem c_X6_numberAtD (l : Launch) (D : va_G) (g : Nat → ClassId) (a r1 r2 r3 : Nat → Nat) (n : Nat) (Vv U Dn : Nat → Nat → Int) (t : Int) (f p : Nat) (ht : t = 3) (hf : f < 5) (hp : p < 300) : Ct (S := Unit) l D g yX6_numberAt cX6_numberAt 4 (some .int) rmX6_numberAt [.ref (a 0), .int (iI t), .int (iI (f : Int)), .int (iI (p : Int))] (wRows g a r1 r2 r3 n Vv U Dn) (fun u => some (.int (iI (Dn f p)))) (fun _ => True) (fun u => wRows g a r1 r2 r3 n Vv U Dn) := by
  refine Ct.of RX6 rfl (by decide +kernel) [(0, .ref (a 0)), (1, .int (iI t)), (2, .int (iI (f : Int))), (3, .int (iI (p : Int)))] rfl (Nat.le_of_ble_eq_true rfl) ?_
  intro pg evn sT mI bl mtd cd aA ls ar qQ zC zr zk zi zQ h hl
  have zx := zC.1
  have zb := zC.2.1
  have h : Hx D g sT aA sT.heap ((a 0, .inr (6, [.ref (a 1), .ref (a 2), .ref (a 3), .int (iI (n : Int))])) :: (a 1, cG g 5 r1) :: (a 2, cG g 5 r2) :: (a 3, cG g 5 r3) :: ((sG g r1 5 300 Vv) ++ ((sG g r2 5 300 U) ++ (sG g r3 5 300 Dn)))) sT.heap [] := h
  skip
  refine lv_iload_n zx zb dX6_numberAt_0 rfl (lv_at hl 1 rfl) ?_
  refine i_zeq (a := t) (tgt := 24) zC dX6_numberAt_1 (by decide) (by omega) (fun c_1 => absurd c_1 (by omega)) (fun c_1 => ?_)
  refine lv_iload_n zx zb dX6_numberAt_4 rfl (lv_at hl 2 rfl) ?_
  refine i_zlt (a := (f : Int)) (tgt := 24) zC dX6_numberAt_5 (by decide) (by omega) (fun c_2 => absurd c_2 (by omega)) (fun c_2 => ?_)
  refine lv_iload_n zx zb dX6_numberAt_8 rfl (lv_at hl 2 rfl) ?_
  refine lv_iconst (v := iI (5)) zx zb dX6_numberAt_9 rfl ?_
  refine i_cge (a := (f : Int)) (b := 5) (tgt := 24) zC dX6_numberAt_10 (by decide) (by omega) (fun c_3 => absurd c_3 (by omega)) (fun c_3 => ?_)
  refine lv_iload_n zx zb dX6_numberAt_13 rfl (lv_at hl 3 rfl) ?_
  refine i_zlt (a := (p : Int)) (tgt := 24) zC dX6_numberAt_14 (by decide) (by omega) (fun c_4 => absurd c_4 (by omega)) (fun c_4 => ?_)
  refine lv_iload_n zx zb dX6_numberAt_17 rfl (lv_at hl 3 rfl) ?_
  refine lv_sipush (v := iI (300)) zx zb dX6_numberAt_18 rfl ?_
  refine i_clt (a := (p : Int)) (b := 300) (tgt := 28) zC dX6_numberAt_21 (by decide) (by omega) (fun c_5 => ?_) (fun c_5 => absurd c_5 (by omega))
  refine lv_iload_n zx zb dX6_numberAt_28 rfl (lv_at hl 1 rfl) ?_
  refine lv_iconst (v := iI (3)) zx zb dX6_numberAt_29 rfl ?_
  refine i_cne (a := t) (b := 3) (tgt := 44) zC dX6_numberAt_30 (by decide) (by omega) (fun c_6 => absurd c_6 (by omega)) (fun c_6 => ?_)
  refine lv_aload_n zx zb dX6_numberAt_33 rfl (lv_at hl 0 rfl) ?_
  refine gf6_19 (v := .ref (a 3)) zC h 0 rfl rfl dX6_numberAt_34 ?_
  refine lv_iload_n zx zb dX6_numberAt_37 rfl (lv_at hl 2 rfl) ?_
  refine a_gld zC h 3 rfl (z := (f : Int)) f (by omega) (by omega) (by decide) dX6_numberAt_38 ?_
  refine lv_iload_n zx zb dX6_numberAt_39 rfl (lv_at hl 3 rfl) ?_
  refine a_ildM (n := 300) (F := Dn f) zC h (.tail _ (.tail _ (.tail _ (.tail _ (List.mem_append_right _ (List.mem_append_right _ (sG_get (by omega)))))))) (z := (p : Int)) p (by omega) (by omega) (by decide) dX6_numberAt_40 ?_
  refine lv_goto (tgt := 52) zx zb dX6_numberAt_41 (by decide) ?_
  exact r_iret zC zQ zr zk h dX6_numberAt_52 (u := ()) rfl (List.Perm.refl _) trivial (Nat.le_of_ble_eq_true rfl) (Nat.le_of_ble_eq_true rfl)

set_option maxHeartbeats 4000000 in
set_option maxRecDepth 100000 in
theorem c_X6_behindLastU (l : Launch) (D : va_G) (g : Nat → ClassId) (a r1 r2 r3 : Nat → Nat) (n : Nat) (Vv U Dn : Nat → Nat → Int) (f : Nat) (v : Int) (hf : f < 5) (h1 : 1 ≤ n) (hn : n ≤ 300) (hv : R32 v) (hO : ∀ j, j + 1 < n → 1 ≤ U f j ∧ U f j ≤ (n : Int)) (hV : ∀ k, k < n → R32 (Vv f k)) : Ct (S := Nat) l D g yX6_behindLast cX6_behindLast 7 (some .int) rmX6_behindLast [.ref (a 0), .int (iI (f : Int)), .int (iI v), .int (bI false)] (wRows g a r1 r2 r3 n Vv U Dn) (fun u => some (.int (iI (u : Int)))) (plU (Vv f) (U f) n v) (fun u => wRows g a r1 r2 r3 n Vv U Dn) := by
  refine Ct.of RX6 rfl (by decide +kernel) [(0, .ref (a 0)), (1, .int (iI (f : Int))), (2, .int (iI v)), (3, .int (bI false))] rfl (Nat.le_of_ble_eq_true rfl) ?_
  intro pg evn sT mI bl mtd cd aA ls ar qQ zC zr zk zi zQ h hl
  have zx := zC.1
  have zb := zC.2.1
  have h : Hx D g sT aA sT.heap ((a 0, .inr (6, [.ref (a 1), .ref (a 2), .ref (a 3), .int (iI (n : Int))])) :: (a 1, cG g 5 r1) :: (a 2, cG g 5 r2) :: (a 3, cG g 5 r3) :: ((sG g r1 5 300 Vv) ++ ((sG g r2 5 300 U) ++ (sG g r3 5 300 Dn)))) sT.heap [] := h
  skip
  refine lv_iload_n zx zb dX6_behindLast_0 rfl (lv_at hl 3 rfl) ?_
  refine b_zeq (b := false) (tgt := 8) zC dX6_behindLast_1 (by decide) (fun c_1 => ?_) (fun c_1 => absurd c_1 (by decide))
  refine lv_iconst (v := iI (2)) zx zb dX6_behindLast_8 rfl ?_
  refine lv_istore (lv' := [(4, .int (iI 2)), (0, .ref (a 0)), (1, .int (iI (f : Int))), (2, .int (iI v)), (3, .int (bI false))]) zx zb dX6_behindLast_9 hl (by decide) rfl (fun ls hl => ?_)
  refine lv_aload_n zx zb dX6_behindLast_11 rfl (lv_at hl 1 rfl) ?_
  refine gf6_22 (v := .int (iI (n : Int))) zC h 0 rfl rfl dX6_behindLast_12 ?_
  refine lv_iconst (v := iI (1)) zx zb dX6_behindLast_15 rfl ?_
  refine i_sub zC (a := (n : Int)) (b := 1) dX6_behindLast_16 ?_
  rw [show ((n : Int) - 1 : Int) = ((n - 1 : Nat) : Int) from (by omega)]
  refine lv_istore (lv' := [(5, .int (iI ((n - 1 : Nat) : Int))), (4, .int (iI 2)), (0, .ref (a 0)), (1, .int (iI (f : Int))), (2, .int (iI v)), (3, .int (bI false))]) zx zb dX6_behindLast_17 hl (by decide) rfl (fun ls hl => ?_)
  have L19_2 : ∀ (fuel : Nat) (p : Nat) (H : Heap) (locs : List Loc) (ls : Array Slot), p < fuel → (p < n) → (∀ j, p ≤ j → j + 1 < n → v < Vv f (U f j - 1).toNat) → Hx D g sT aA sT.heap ((a 0, .inr (6, [.ref (a 1), .ref (a 2), .ref (a 3), .int (iI (n : Int))])) :: (a 1, cG g 5 r1) :: (a 2, cG g 5 r2) :: (a 3, cG g 5 r3) :: ((sG g r1 5 300 Vv) ++ ((sG g r2 5 300 U) ++ (sG g r3 5 300 Dn)))) H locs → lv_has ls 7 [(0, .ref (a 0)), (1, .int (iI (f : Int))), (2, .int (iI v)), (3, .int (bI false)), (4, .int (iI 2)), (5, .int (iI (p : Int)))] → W pg l evn rmX6_behindLast sT mI ar bl mtd cd H locs 0 0 qQ (F0 mI 19 ls []) := by
    intro fuel
    induction fuel with
    | zero => intro p H locs ls hm; exact absurd hm (Nat.not_lt_zero _)
    | succ fuel ih =>
      intro p H locs ls hm hp hi h hl
      refine lv_iload zx zb dX6_behindLast_19 (lv_at hl 5 rfl) ?_
      refine i_zle (a := (p : Int)) (tgt := 70) zC dX6_behindLast_21 (by decide) (by omega) (fun c_3 => ?_) (fun c_3 => ?_)
      · skip
        refine lv_iconst (v := iI (0)) zx zb dX6_behindLast_70 rfl ?_
        exact r_iret zC zQ zr zk h dX6_behindLast_71 (u := 0) rfl (List.Perm.refl _) ⟨by omega, fun q => absurd q (by omega), fun j _ h2 => hi j (by omega) h2⟩ (Nat.le_of_ble_eq_true rfl) (Nat.le_of_ble_eq_true rfl)
      · skip
        have hO1 := hO (p - 1) (by omega)
        have hV1 := hV (U f (p - 1) - 1).toNat (by omega)
        refine lv_aload_n zx zb dX6_behindLast_24 rfl (lv_at hl 0 rfl) ?_
        refine lv_aload_n zx zb dX6_behindLast_25 rfl (lv_at hl 0 rfl) ?_
        refine lv_iload zx zb dX6_behindLast_26 (lv_at hl 4 rfl) ?_
        refine lv_iload_n zx zb dX6_behindLast_28 rfl (lv_at hl 1 rfl) ?_
        refine lv_iload zx zb dX6_behindLast_29 (lv_at hl 5 rfl) ?_
        refine lv_iconst (v := iI (1)) zx zb dX6_behindLast_31 rfl ?_
        refine i_sub zC (a := (p : Int)) (b := 1) dX6_behindLast_32 ?_
        rw [show ((p : Int) - 1 : Int) = ((p - 1 : Nat) : Int) from (by omega)]
        refine r_invV (As := [.int (iI 2), .int (iI (f : Int)), .int (iI ((p - 1 : Nat) : Int))]) (rest := [.ref (a 0)]) (wr := []) (ws2 := fun u_4 => (a 0, .inr (6, [.ref (a 1), .ref (a 2), .ref (a 3), .int (iI (n : Int))])) :: (a 1, cG g 5 r1) :: (a 2, cG g 5 r2) :: (a 3, cG g 5 r3) :: ((sG g r1 5 300 Vv) ++ ((sG g r2 5 300 U) ++ (sG g r3 5 300 Dn)))) 0 0 zC h hl.1 (c_X6_numberAtU l D g a r1 r2 r3 n Vv U Dn 2 f (p - 1) (Or.inr rfl) hf (by omega)) (cs6_44 zC ⟨(Nat.le_of_ble_eq_true rfl), (Nat.le_of_ble_eq_true rfl)⟩) (.head _) rfl rfl rfl (Nat.le_of_ble_eq_true rfl) (List.Perm.of_eq (List.append_nil _).symm) (fun u => List.Perm.of_eq (List.append_nil _)) ⟨(Nat.le_of_ble_eq_true rfl), (Nat.le_of_ble_eq_true rfl)⟩ (Nat.le_of_ble_eq_true rfl) (Nat.le_of_ble_eq_true rfl) dX6_behindLast_33 (fun u_4 H locs hu_4 hz_4 h => ?_)
        refine lv_iload_n zx zb dX6_behindLast_36 rfl (lv_at hl 1 rfl) ?_
        refine r_invV (As := [.int (iI (U f (p - 1))), .int (iI (f : Int))]) (rest := []) (wr := []) (ws2 := fun u_5 => (a 0, .inr (6, [.ref (a 1), .ref (a 2), .ref (a 3), .int (iI (n : Int))])) :: (a 1, cG g 5 r1) :: (a 2, cG g 5 r2) :: (a 3, cG g 5 r3) :: ((sG g r1 5 300 Vv) ++ ((sG g r2 5 300 U) ++ (sG g r3 5 300 Dn)))) 0 0 zC h hl.1 (c_X6_value l D g a r1 r2 r3 n Vv U Dn (U f (p - 1) - 1).toNat f (U f (p - 1)) (by omega) (by omega) hn hf) (cs6_32 zC ⟨(Nat.le_of_ble_eq_true rfl), (Nat.le_of_ble_eq_true rfl)⟩) (.head _) rfl rfl rfl (Nat.le_of_ble_eq_true rfl) (List.Perm.of_eq (List.append_nil _).symm) (fun u => List.Perm.of_eq (List.append_nil _)) ⟨(Nat.le_of_ble_eq_true rfl), (Nat.le_of_ble_eq_true rfl)⟩ (Nat.le_of_ble_eq_true rfl) (Nat.le_of_ble_eq_true rfl) dX6_behindLast_37 (fun u_5 H locs hu_5 hz_5 h => ?_)
        refine lv_istore (lv' := [(6, .int (iI (Vv f (U f (p - 1) - 1).toNat))), (0, .ref (a 0)), (1, .int (iI (f : Int))), (2, .int (iI v)), (3, .int (bI false)), (4, .int (iI 2)), (5, .int (iI (p : Int)))]) zx zb dX6_behindLast_40 hl (by decide) rfl (fun ls hl => ?_)
        refine lv_iload_n zx zb dX6_behindLast_42 rfl (lv_at hl 4 rfl) ?_
        refine b_zeq (b := false) (tgt := 55) zC dX6_behindLast_43 (by decide) (fun c_6 => ?_) (fun c_6 => absurd c_6 (by decide))
        refine lv_iload zx zb dX6_behindLast_55 (lv_at hl 0 rfl) ?_
        refine lv_iload_n zx zb dX6_behindLast_57 rfl (lv_at hl 3 rfl) ?_
        refine i_cgt (a := Vv f (U f (p - 1) - 1).toNat) (b := v) (tgt := 64) zC dX6_behindLast_58 (by decide) (by omega) (fun c_7 => ?_) (fun c_7 => ?_)
        · skip
          refine i_inc (q := 6) (a := (p : Int)) (lv' := [(5, .int (iI ((p : Int) + (-1)))), (6, .int (iI (Vv f (U f (p - 1) - 1).toNat))), (0, .ref (a 0)), (1, .int (iI (f : Int))), (2, .int (iI v)), (3, .int (bI false)), (4, .int (iI 2))]) zC hl dX6_behindLast_64 rfl (by decide) rfl (fun ls hl => ?_)
          rw [show ((p : Int) + (-1) : Int) = ((p - 1 : Nat) : Int) from (by omega)] at hl
          refine lv_goto (tgt := 19) zx zb dX6_behindLast_67 (by decide) ?_
          exact ih (p - 1) _ _ _ (by omega) (by omega) (stepI (P := fun j => v < Vv f (U f j - 1).toNat) (fun _ => by omega) hi) h (lv_sub hl [2, 3, 4, 5, 6, 0] rfl)
        · skip
          refine lv_iload zx zb dX6_behindLast_61 (lv_at hl 6 rfl) ?_
          exact r_iret zC zQ zr zk h dX6_behindLast_63 (u := p) rfl (List.Perm.refl _) ⟨hp, fun _ => by omega, hi⟩ (Nat.le_of_ble_eq_true rfl) (Nat.le_of_ble_eq_true rfl)
  exact L19_2 _ (n - 1) _ _ _ (Nat.lt_succ_self _) (by omega) (fun j h1 h2 => absurd h2 (by omega)) h (lv_sub hl [2, 3, 4, 5, 1, 0] rfl)

set_option maxHeartbeats 4000000 in
set_option maxRecDepth 100000 in
theorem c_X6_behindLastD (l : Launch) (D : va_G) (g : Nat → ClassId) (a r1 r2 r3 : Nat → Nat) (n : Nat) (Vv U Dn : Nat → Nat → Int) (f : Nat) (v : Int) (hf : f < 5) (h1 : 1 ≤ n) (hn : n ≤ 300) (hv : R32 v) (hO : ∀ j, j + 1 < n → 1 ≤ Dn f j ∧ Dn f j ≤ (n : Int)) (hV : ∀ k, k < n → R32 (Vv f k)) : Ct (S := Nat) l D g yX6_behindLast cX6_behindLast 7 (some .int) rmX6_behindLast [.ref (a 0), .int (iI (f : Int)), .int (iI v), .int (bI true)] (wRows g a r1 r2 r3 n Vv U Dn) (fun u => some (.int (iI (u : Int)))) (plD (Vv f) (Dn f) n v) (fun u => wRows g a r1 r2 r3 n Vv U Dn) := by
  refine Ct.of RX6 rfl (by decide +kernel) [(0, .ref (a 0)), (1, .int (iI (f : Int))), (2, .int (iI v)), (3, .int (bI true))] rfl (Nat.le_of_ble_eq_true rfl) ?_
  intro pg evn sT mI bl mtd cd aA ls ar qQ zC zr zk zi zQ h hl
  have zx := zC.1
  have zb := zC.2.1
  have h : Hx D g sT aA sT.heap ((a 0, .inr (6, [.ref (a 1), .ref (a 2), .ref (a 3), .int (iI (n : Int))])) :: (a 1, cG g 5 r1) :: (a 2, cG g 5 r2) :: (a 3, cG g 5 r3) :: ((sG g r1 5 300 Vv) ++ ((sG g r2 5 300 U) ++ (sG g r3 5 300 Dn)))) sT.heap [] := h
  skip
  refine lv_iload_n zx zb dX6_behindLast_0 rfl (lv_at hl 3 rfl) ?_
  refine b_zeq (b := true) (tgt := 8) zC dX6_behindLast_1 (by decide) (fun c_1 => absurd c_1 (by decide)) (fun c_1 => ?_)
  refine lv_iconst (v := iI (3)) zx zb dX6_behindLast_4 rfl ?_
  refine lv_goto (tgt := 9) zx zb dX6_behindLast_5 (by decide) ?_
  refine lv_istore (lv' := [(4, .int (iI 3)), (0, .ref (a 0)), (1, .int (iI (f : Int))), (2, .int (iI v)), (3, .int (bI true))]) zx zb dX6_behindLast_9 hl (by decide) rfl (fun ls hl => ?_)
  refine lv_aload_n zx zb dX6_behindLast_11 rfl (lv_at hl 1 rfl) ?_
  refine gf6_22 (v := .int (iI (n : Int))) zC h 0 rfl rfl dX6_behindLast_12 ?_
  refine lv_iconst (v := iI (1)) zx zb dX6_behindLast_15 rfl ?_
  refine i_sub zC (a := (n : Int)) (b := 1) dX6_behindLast_16 ?_
  rw [show ((n : Int) - 1 : Int) = ((n - 1 : Nat) : Int) from (by omega)]
  refine lv_istore (lv' := [(5, .int (iI ((n - 1 : Nat) : Int))), (4, .int (iI 3)), (0, .ref (a 0)), (1, .int (iI (f : Int))), (2, .int (iI v)), (3, .int (bI true))]) zx zb dX6_behindLast_17 hl (by decide) rfl (fun ls hl => ?_)
  have L19_2 : ∀ (fuel : Nat) (p : Nat) (H : Heap) (locs : List Loc) (ls : Array Slot), p < fuel → (p < n) → (∀ j, p ≤ j → j + 1 < n → Vv f (Dn f j - 1).toNat < v) → Hx D g sT aA sT.heap ((a 0, .inr (6, [.ref (a 1), .ref (a 2), .ref (a 3), .int (iI (n : Int))])) :: (a 1, cG g 5 r1) :: (a 2, cG g 5 r2) :: (a 3, cG g 5 r3) :: ((sG g r1 5 300 Vv) ++ ((sG g r2 5 300 U) ++ (sG g r3 5 300 Dn)))) H locs → lv_has ls 7 [(0, .ref (a 0)), (1, .int (iI (f : Int))), (2, .int (iI v)), (3, .int (bI true)), (4, .int (iI 3)), (5, .int (iI (p : Int)))] → W pg l evn rmX6_behindLast sT mI ar bl mtd cd H locs 0 0 qQ (F0 mI 19 ls []) := by
    intro fuel
    induction fuel with
    | zero => intro p H locs ls hm; exact absurd hm (Nat.not_lt_zero _)
    | succ fuel ih =>
      intro p H locs ls hm hp hi h hl
      refine lv_iload zx zb dX6_behindLast_19 (lv_at hl 5 rfl) ?_
      refine i_zle (a := (p : Int)) (tgt := 70) zC dX6_behindLast_21 (by decide) (by omega) (fun c_3 => ?_) (fun c_3 => ?_)
      · skip
        refine lv_iconst (v := iI (0)) zx zb dX6_behindLast_70 rfl ?_
        exact r_iret zC zQ zr zk h dX6_behindLast_71 (u := 0) rfl (List.Perm.refl _) ⟨by omega, fun q => absurd q (by omega), fun j _ h2 => hi j (by omega) h2⟩ (Nat.le_of_ble_eq_true rfl) (Nat.le_of_ble_eq_true rfl)
      · skip
        have hO1 := hO (p - 1) (by omega)
        have hV1 := hV (Dn f (p - 1) - 1).toNat (by omega)
        refine lv_aload_n zx zb dX6_behindLast_24 rfl (lv_at hl 0 rfl) ?_
        refine lv_aload_n zx zb dX6_behindLast_25 rfl (lv_at hl 0 rfl) ?_
        refine lv_iload zx zb dX6_behindLast_26 (lv_at hl 4 rfl) ?_
        refine lv_iload_n zx zb dX6_behindLast_28 rfl (lv_at hl 1 rfl) ?_
        refine lv_iload zx zb dX6_behindLast_29 (lv_at hl 5 rfl) ?_
        refine lv_iconst (v := iI (1)) zx zb dX6_behindLast_31 rfl ?_
        refine i_sub zC (a := (p : Int)) (b := 1) dX6_behindLast_32 ?_
        rw [show ((p : Int) - 1 : Int) = ((p - 1 : Nat) : Int) from (by omega)]
        refine r_invV (As := [.int (iI 3), .int (iI (f : Int)), .int (iI ((p - 1 : Nat) : Int))]) (rest := [.ref (a 0)]) (wr := []) (ws2 := fun u_4 => (a 0, .inr (6, [.ref (a 1), .ref (a 2), .ref (a 3), .int (iI (n : Int))])) :: (a 1, cG g 5 r1) :: (a 2, cG g 5 r2) :: (a 3, cG g 5 r3) :: ((sG g r1 5 300 Vv) ++ ((sG g r2 5 300 U) ++ (sG g r3 5 300 Dn)))) 0 0 zC h hl.1 (c_X6_numberAtD l D g a r1 r2 r3 n Vv U Dn 3 f (p - 1) rfl hf (by omega)) (cs6_44 zC ⟨(Nat.le_of_ble_eq_true rfl), (Nat.le_of_ble_eq_true rfl)⟩) (.head _) rfl rfl rfl (Nat.le_of_ble_eq_true rfl) (List.Perm.of_eq (List.append_nil _).symm) (fun u => List.Perm.of_eq (List.append_nil _)) ⟨(Nat.le_of_ble_eq_true rfl), (Nat.le_of_ble_eq_true rfl)⟩ (Nat.le_of_ble_eq_true rfl) (Nat.le_of_ble_eq_true rfl) dX6_behindLast_33 (fun u_4 H locs hu_4 hz_4 h => ?_)
        refine lv_iload_n zx zb dX6_behindLast_36 rfl (lv_at hl 1 rfl) ?_
        refine r_invV (As := [.int (iI (Dn f (p - 1))), .int (iI (f : Int))]) (rest := []) (wr := []) (ws2 := fun u_5 => (a 0, .inr (6, [.ref (a 1), .ref (a 2), .ref (a 3), .int (iI (n : Int))])) :: (a 1, cG g 5 r1) :: (a 2, cG g 5 r2) :: (a 3, cG g 5 r3) :: ((sG g r1 5 300 Vv) ++ ((sG g r2 5 300 U) ++ (sG g r3 5 300 Dn)))) 0 0 zC h hl.1 (c_X6_value l D g a r1 r2 r3 n Vv U Dn (Dn f (p - 1) - 1).toNat f (Dn f (p - 1)) (by omega) (by omega) hn hf) (cs6_32 zC ⟨(Nat.le_of_ble_eq_true rfl), (Nat.le_of_ble_eq_true rfl)⟩) (.head _) rfl rfl rfl (Nat.le_of_ble_eq_true rfl) (List.Perm.of_eq (List.append_nil _).symm) (fun u => List.Perm.of_eq (List.append_nil _)) ⟨(Nat.le_of_ble_eq_true rfl), (Nat.le_of_ble_eq_true rfl)⟩ (Nat.le_of_ble_eq_true rfl) (Nat.le_of_ble_eq_true rfl) dX6_behindLast_37 (fun u_5 H locs hu_5 hz_5 h => ?_)
        refine lv_istore (lv' := [(6, .int (iI (Vv f (Dn f (p - 1) - 1).toNat))), (0, .ref (a 0)), (1, .int (iI (f : Int))), (2, .int (iI v)), (3, .int (bI true)), (4, .int (iI 3)), (5, .int (iI (p : Int)))]) zx zb dX6_behindLast_40 hl (by decide) rfl (fun ls hl => ?_)
        refine lv_iload_n zx zb dX6_behindLast_42 rfl (lv_at hl 4 rfl) ?_
        refine b_zeq (b := true) (tgt := 55) zC dX6_behindLast_43 (by decide) (fun c_6 => absurd c_6 (by decide)) (fun c_6 => ?_)
        refine lv_iload zx zb dX6_behindLast_46 (lv_at hl 0 rfl) ?_
        refine lv_iload_n zx zb dX6_behindLast_48 rfl (lv_at hl 3 rfl) ?_
        refine i_clt (a := Vv f (Dn f (p - 1) - 1).toNat) (b := v) (tgt := 64) zC dX6_behindLast_49 (by decide) (by omega) (fun c_7 => ?_) (fun c_7 => ?_)
        · skip
          refine i_inc (q := 6) (a := (p : Int)) (lv' := [(5, .int (iI ((p : Int) + (-1)))), (6, .int (iI (Vv f (Dn f (p - 1) - 1).toNat))), (0, .ref (a 0)), (1, .int (iI (f : Int))), (2, .int (iI v)), (3, .int (bI true)), (4, .int (iI 3))]) zC hl dX6_behindLast_64 rfl (by decide) rfl (fun ls hl => ?_)
          rw [show ((p : Int) + (-1) : Int) = ((p - 1 : Nat) : Int) from (by omega)] at hl
          refine lv_goto (tgt := 19) zx zb dX6_behindLast_67 (by decide) ?_
          exact ih (p - 1) _ _ _ (by omega) (by omega) (stepI (P := fun j => Vv f (Dn f j - 1).toNat < v) (fun _ => by omega) hi) h (lv_sub hl [2, 3, 4, 5, 6, 0] rfl)
        · skip
          refine lv_goto (tgt := 61) zx zb dX6_behindLast_52 (by decide) ?_
          refine lv_iload zx zb dX6_behindLast_61 (lv_at hl 6 rfl) ?_
          exact r_iret zC zQ zr zk h dX6_behindLast_63 (u := p) rfl (List.Perm.refl _) ⟨hp, fun _ => by omega, hi⟩ (Nat.le_of_ble_eq_true rfl) (Nat.le_of_ble_eq_true rfl)
  exact L19_2 _ (n - 1) _ _ _ (Nat.lt_succ_self _) (by omega) (fun j h1 h2 => absurd h2 (by omega)) h (lv_sub hl [2, 3, 4, 5, 1, 0] rfl)

set_option maxHeartbeats 4000000 in
set_option maxRecDepth 100000 in
theorem c_X6_insert (l : Launch) (D : va_G) (g : Nat → ClassId) (a : Nat → Nat) (ro n p : Nat) (F : Nat → Int) (hp : p < n) (hn : n ≤ 300) : Ct (S := Unit) l D g yX6_insert cX6_insert 4 none rmX6_insert [.ref (a 0), .ref ro, .int (iI (p : Int))] ([(a 0, .inr (6, [.ref (a 1), .ref (a 2), .ref (a 3), .int (iI (n : Int))])), (ro, cI g 300 F)]) (fun u => none) (fun _ => True) (fun u => [(a 0, .inr (6, [.ref (a 1), .ref (a 2), .ref (a 3), .int (iI (n : Int))])), (ro, cI g 300 (insF F n p))]) := by
  refine Ct.of RX6 rfl (by decide +kernel) [(0, .ref (a 0)), (1, .ref ro), (2, .int (iI (p : Int)))] rfl (Nat.le_of_ble_eq_true rfl) ?_
  intro pg evn sT mI bl mtd cd aA ls ar qQ zC zr zk zi zQ h hl
  have zx := zC.1
  have zb := zC.2.1
  skip
  refine lv_aload_n zx zb dX6_insert_0 rfl (lv_at hl 0 rfl) ?_
  refine gf6_22 (v := .int (iI (n : Int))) zC h 0 rfl rfl dX6_insert_1 ?_
  refine lv_iconst (v := iI (1)) zx zb dX6_insert_4 rfl ?_
  refine i_sub zC (a := (n : Int)) (b := 1) dX6_insert_5 ?_
  rw [show ((n : Int) - 1 : Int) = ((n - 1 : Nat) : Int) from (by omega)]
  refine lv_istore_n (lv' := [(3, .int (iI ((n - 1 : Nat) : Int))), (0, .ref (a 0)), (1, .ref ro), (2, .int (iI (p : Int)))]) zx zb dX6_insert_6 rfl hl (by decide) rfl (fun ls hl => ?_)
  have L7_1 : ∀ (fuel : Nat) (q : Nat) (H : Heap) (locs : List Loc) (ls : Array Slot), q < fuel → (p ≤ q) → (q < n) → Hx D g sT aA sT.heap ([(a 0, .inr (6, [.ref (a 1), .ref (a 2), .ref (a 3), .int (iI (n : Int))])), (ro, cI g 300 (insG F n q))]) H locs → lv_has ls 4 [(0, .ref (a 0)), (1, .ref ro), (2, .int (iI (p : Int))), (3, .int (iI (q : Int)))] → W pg l evn rmX6_insert sT mI ar bl mtd cd H locs 0 0 qQ (F0 mI 7 ls []) := by
    intro fuel
    induction fuel with
    | zero => intro q H locs ls hm; exact absurd hm (Nat.not_lt_zero _)
    | succ fuel ih =>
      intro q H locs ls hm hq1 hq2 h hl
      refine lv_iload_n zx zb dX6_insert_7 rfl (lv_at hl 3 rfl) ?_
      refine lv_iload_n zx zb dX6_insert_8 rfl (lv_at hl 2 rfl) ?_
      refine i_cle (a := (q : Int)) (b := (p : Int)) (tgt := 36) zC dX6_insert_9 (by decide) (by omega) (fun c_2 => ?_) (fun c_2 => ?_)
      · skip
        refine lv_iload_n zx zb dX6_insert_36 rfl (lv_at hl 2 rfl) ?_
        refine i_zlt (a := (p : Int)) (tgt := 53) zC dX6_insert_37 (by decide) (by omega) (fun c_3 => absurd c_3 (by omega)) (fun c_3 => ?_)
        refine lv_iload_n zx zb dX6_insert_40 rfl (lv_at hl 2 rfl) ?_
        refine lv_aload_n zx zb dX6_insert_41 rfl (lv_at hl 1 rfl) ?_
        refine a_len zC h 1 0 rfl rfl (300) rfl dX6_insert_42 ?_
        refine i_cge (a := (p : Int)) (b := 300) (tgt := 53) zC dX6_insert_43 (by decide) (by omega) (fun c_4 => absurd c_4 (by omega)) (fun c_4 => ?_)
        refine lv_aload_n zx zb dX6_insert_46 rfl (lv_at hl 1 rfl) ?_
        refine lv_iload_n zx zb dX6_insert_47 rfl (lv_at hl 2 rfl) ?_
        refine lv_aload_n zx zb dX6_insert_48 rfl (lv_at hl 0 rfl) ?_
        refine gf6_22 (v := .int (iI (n : Int))) zC h 0 rfl rfl dX6_insert_49 ?_
        refine a_ist (x := (n : Int)) zC h 1 (ws' := [(a 0, .inr (6, [.ref (a 1), .ref (a 2), .ref (a 3), .int (iI (n : Int))])), (ro, cI g 300 (insF F n p))]) rfl (z := (p : Int)) p (by rw [show up (insG F n q) p (n : Int) = insF F n p from (by rw [show q = p by omega]; exact insG_end hp)]; rfl) (by omega) (by omega) (by decide) dX6_insert_52 (fun H locs h => ?_)
        exact r_vret zC zQ zr zk h dX6_insert_53 (u := ()) rfl (List.Perm.refl _) trivial (Nat.le_of_ble_eq_true rfl) (Nat.le_of_ble_eq_true rfl)
      · skip
        refine lv_iload_n zx zb dX6_insert_12 rfl (lv_at hl 3 rfl) ?_
        refine i_zle (a := (q : Int)) (tgt := 36) zC dX6_insert_13 (by decide) (by omega) (fun c_5 => absurd c_5 (by omega)) (fun c_5 => ?_)
        refine lv_iload_n zx zb dX6_insert_16 rfl (lv_at hl 3 rfl) ?_
        refine lv_aload_n zx zb dX6_insert_17 rfl (lv_at hl 1 rfl) ?_
        refine a_len zC h 1 0 rfl rfl (300) rfl dX6_insert_18 ?_
        refine i_cge (a := (q : Int)) (b := 300) (tgt := 36) zC dX6_insert_19 (by decide) (by omega) (fun c_6 => absurd c_6 (by omega)) (fun c_6 => ?_)
        refine lv_aload_n zx zb dX6_insert_22 rfl (lv_at hl 1 rfl) ?_
        refine lv_iload_n zx zb dX6_insert_23 rfl (lv_at hl 3 rfl) ?_
        refine lv_aload_n zx zb dX6_insert_24 rfl (lv_at hl 1 rfl) ?_
        refine lv_iload_n zx zb dX6_insert_25 rfl (lv_at hl 3 rfl) ?_
        refine lv_iconst (v := iI (1)) zx zb dX6_insert_26 rfl ?_
        refine i_sub zC (a := (q : Int)) (b := 1) dX6_insert_27 ?_
        rw [show ((q : Int) - 1 : Int) = ((q - 1 : Nat) : Int) from (by omega)]
        refine a_ild zC h 1 rfl (z := ((q - 1 : Nat) : Int)) (q - 1) (by omega) (by omega) (by decide) dX6_insert_28 ?_
        refine a_ist (x := (insG F n q) (q - 1)) zC h 1 (ws' := [(a 0, .inr (6, [.ref (a 1), .ref (a 2), .ref (a 3), .int (iI (n : Int))])), (ro, cI g 300 (insG F n (q - 1)))]) rfl (z := (q : Int)) q (by rw [show up (insG F n q) q ((insG F n q) (q - 1)) = insG F n (q - 1) from (insG_step (by omega) hq2)]; rfl) (by omega) (by omega) (by decide) dX6_insert_29 (fun H locs h => ?_)
        refine i_inc (q := 3) (a := (q : Int)) (lv' := [(3, .int (iI ((q : Int) + (-1)))), (0, .ref (a 0)), (1, .ref ro), (2, .int (iI (p : Int)))]) zC hl dX6_insert_30 rfl (by decide) rfl (fun ls hl => ?_)
        rw [show ((q : Int) + (-1) : Int) = ((q - 1 : Nat) : Int) from (by omega)] at hl
        refine lv_goto (tgt := 7) zx zb dX6_insert_33 (by decide) ?_
        exact ih (q - 1) _ _ _ (by omega) (by omega) (by omega) h (lv_sub hl [1, 2, 3, 0] rfl)
  exact L7_1 _ (n - 1) _ _ _ (Nat.lt_succ_self _) (by omega) (by omega) (by rw [← insG_0]; exact h) (lv_sub hl [1, 2, 3, 0] rfl)

set_option maxHeartbeats 4000000 in
set_option maxRecDepth 100000 in
theorem c_X6_putInOrders (l : Launch) (D : va_G) (g : Nat → ClassId) (a r1 r2 r3 : Nat → Nat) (n : Nat) (Vv U Dn : Nat → Nat → Int) (h1 : 1 ≤ n) (hn : n ≤ 300) (hV : ∀ f k, f < 5 → k < n → R32 (Vv f k)) (hU : ∀ f j, f < 5 → j + 1 < n → 1 ≤ U f j ∧ U f j ≤ (n : Int)) (hD : ∀ f j, f < 5 → j + 1 < n → 1 ≤ Dn f j ∧ Dn f j ≤ (n : Int)) : Ct (S := (Nat → Nat → Int) × (Nat → Nat → Int)) l D g yX6_putInOrders cX6_putInOrders 3 none rmX6_putInOrders [.ref (a 0)] (wRows g a r1 r2 r3 n Vv U Dn) (fun u => none) (fun u => ∀ e, e < 5 → (∃ p, plU (Vv e) (U e) n (Vv e (n - 1)) p ∧ u.1 e = insF (U e) n p) ∧ ∃ p, plD (Vv e) (Dn e) n (Vv e (n - 1)) p ∧ u.2 e = insF (Dn e) n p) (fun u => wRows g a r1 r2 r3 n Vv u.1 u.2) := by
  refine Ct.of RX6 rfl (by decide +kernel) [(0, .ref (a 0))] rfl (Nat.le_of_ble_eq_true rfl) ?_
  intro pg evn sT mI bl mtd cd aA ls ar qQ zC zr zk zi zQ h hl
  have zx := zC.1
  have zb := zC.2.1
  have h : Hx D g sT aA sT.heap ((a 0, .inr (6, [.ref (a 1), .ref (a 2), .ref (a 3), .int (iI (n : Int))])) :: (a 1, cG g 5 r1) :: (a 2, cG g 5 r2) :: (a 3, cG g 5 r3) :: ((sG g r1 5 300 Vv) ++ ((sG g r2 5 300 U) ++ (sG g r3 5 300 Dn)))) sT.heap [] := h
  skip
  refine lv_iconst (v := iI (0)) zx zb dX6_putInOrders_0 rfl ?_
  refine lv_istore_n (lv' := [(1, .int (iI 0)), (0, .ref (a 0))]) zx zb dX6_putInOrders_1 rfl hl (by decide) rfl (fun ls hl => ?_)
  have L2_1 : ∀ (fuel : Nat) (f : Nat) (Uc : Nat → Nat → Int) (Dc : Nat → Nat → Int) (H : Heap) (locs : List Loc) (ls : Array Slot), 5 - f < fuel → (f ≤ 5) → (∀ e, e < f → (∃ p, plU (Vv e) (U e) n (Vv e (n - 1)) p ∧ Uc e = insF (U e) n p) ∧ ∃ p, plD (Vv e) (Dn e) n (Vv e (n - 1)) p ∧ Dc e = insF (Dn e) n p) → (∀ e, f ≤ e → Uc e = U e ∧ Dc e = Dn e) → Hx D g sT aA sT.heap ((a 0, .inr (6, [.ref (a 1), .ref (a 2), .ref (a 3), .int (iI (n : Int))])) :: (a 1, cG g 5 r1) :: (a 2, cG g 5 r2) :: (a 3, cG g 5 r3) :: ((sG g r1 5 300 Vv) ++ ((sG g r2 5 300 Uc) ++ (sG g r3 5 300 Dc)))) H locs → lv_has ls 3 [(0, .ref (a 0)), (1, .int (iI (f : Int)))] → W pg l evn rmX6_putInOrders sT mI ar bl mtd cd H locs 0 0 qQ (F0 mI 2 ls []) := by
    intro fuel
    induction fuel with
    | zero => intro f Uc Dc H locs ls hm; exact absurd hm (Nat.not_lt_zero _)
    | succ fuel ih =>
      intro f Uc Dc H locs ls hm hf hi hr h hl
      refine lv_iload_n zx zb dX6_putInOrders_2 rfl (lv_at hl 1 rfl) ?_
      refine lv_iconst (v := iI (5)) zx zb dX6_putInOrders_3 rfl ?_
      refine i_cge (a := (f : Int)) (b := 5) (tgt := 57) zC dX6_putInOrders_4 (by decide) (by omega) (fun c_2 => ?_) (fun c_2 => ?_)
      · skip
        exact r_vret zC zQ zr zk h dX6_putInOrders_57 (u := (Uc, Dc)) rfl (List.Perm.refl _) (fun e he => hi e (by omega)) (Nat.le_of_ble_eq_true rfl) (Nat.le_of_ble_eq_true rfl)
      · skip
        refine lv_aload_n zx zb dX6_putInOrders_7 rfl (lv_at hl 0 rfl) ?_
        refine lv_aload_n zx zb dX6_putInOrders_8 rfl (lv_at hl 0 rfl) ?_
        refine gf6_22 (v := .int (iI (n : Int))) zC h 0 rfl rfl dX6_putInOrders_9 ?_
        refine lv_iload_n zx zb dX6_putInOrders_12 rfl (lv_at hl 1 rfl) ?_
        refine r_invV (As := [.int (iI (n : Int)), .int (iI (f : Int))]) (rest := []) (wr := []) (ws2 := fun u_3 => (a 0, .inr (6, [.ref (a 1), .ref (a 2), .ref (a 3), .int (iI (n : Int))])) :: (a 1, cG g 5 r1) :: (a 2, cG g 5 r2) :: (a 3, cG g 5 r3) :: ((sG g r1 5 300 Vv) ++ ((sG g r2 5 300 Uc) ++ (sG g r3 5 300 Dc)))) 0 0 zC h hl.1 (c_X6_value l D g a r1 r2 r3 n Vv Uc Dc (n - 1) f (n : Int) (by omega) (by omega) hn (by omega)) (cs6_32 zC ⟨(Nat.le_of_ble_eq_true rfl), (Nat.le_of_ble_eq_true rfl)⟩) (.head _) rfl rfl rfl (Nat.le_of_ble_eq_true rfl) (List.Perm.of_eq (List.append_nil _).symm) (fun u => List.Perm.of_eq (List.append_nil _)) ⟨(Nat.le_of_ble_eq_true rfl), (Nat.le_of_ble_eq_true rfl)⟩ (Nat.le_of_ble_eq_true rfl) (Nat.le_of_ble_eq_true rfl) dX6_putInOrders_13 (fun u_3 H locs hu_3 hz_3 h => ?_)
        refine lv_istore_n (lv' := [(2, .int (iI (Vv f (n - 1)))), (0, .ref (a 0)), (1, .int (iI (f : Int)))]) zx zb dX6_putInOrders_16 rfl hl (by decide) rfl (fun ls hl => ?_)
        refine lv_aload_n zx zb dX6_putInOrders_17 rfl (lv_at hl 1 rfl) ?_
        refine lv_aload_n zx zb dX6_putInOrders_18 rfl (lv_at hl 1 rfl) ?_
        refine gf6_16 (v := .ref (a 2)) zC h 0 rfl rfl dX6_putInOrders_19 ?_
        refine lv_iload_n zx zb dX6_putInOrders_22 rfl (lv_at hl 2 rfl) ?_
        refine a_gld zC h 2 rfl (z := (f : Int)) f (by omega) (by omega) (by decide) dX6_putInOrders_23 ?_
        refine lv_aload_n zx zb dX6_putInOrders_24 rfl (lv_at hl 1 rfl) ?_
        refine lv_iload_n zx zb dX6_putInOrders_25 rfl (lv_at hl 2 rfl) ?_
        refine lv_iload_n zx zb dX6_putInOrders_26 rfl (lv_at hl 0 rfl) ?_
        refine lv_iconst (v := iI (0)) zx zb dX6_putInOrders_27 rfl ?_
        refine r_invV (As := [.int (iI (f : Int)), .int (iI (Vv f (n - 1))), .int (bI false)]) (rest := [.ref (r2 f), .ref (a 0)]) (wr := []) (ws2 := fun u_4 => (a 0, .inr (6, [.ref (a 1), .ref (a 2), .ref (a 3), .int (iI (n : Int))])) :: (a 1, cG g 5 r1) :: (a 2, cG g 5 r2) :: (a 3, cG g 5 r3) :: ((sG g r1 5 300 Vv) ++ ((sG g r2 5 300 Uc) ++ (sG g r3 5 300 Dc)))) 0 0 zC h hl.1 (c_X6_behindLastU l D g a r1 r2 r3 n Vv Uc Dc f (Vv f (n - 1)) (by omega) h1 hn (hV f (n - 1) (by omega) (by omega)) (fun j hj => by rw [(hr f (Nat.le_refl f)).1]; exact hU f j (by omega) hj) (fun k hk => hV f k (by omega) hk)) (cs6_36 zC ⟨(Nat.le_of_ble_eq_true rfl), (Nat.le_of_ble_eq_true rfl)⟩) (.head _) rfl rfl rfl (Nat.le_of_ble_eq_true rfl) (List.Perm.of_eq (List.append_nil _).symm) (fun u => List.Perm.of_eq (List.append_nil _)) ⟨(Nat.le_of_ble_eq_true rfl), (Nat.le_of_ble_eq_true rfl)⟩ (Nat.le_of_ble_eq_true rfl) (Nat.le_of_ble_eq_true rfl) dX6_putInOrders_28 (fun u_4 H locs hu_4 hz_4 h => ?_)
        refine r_invV (As := [.ref (r2 f), .int (iI (u_4 : Int))]) (rest := []) (wr := (a 1, cG g 5 r1) :: (a 2, cG g 5 r2) :: (a 3, cG g 5 r3) :: ((sG g r1 5 300 Vv) ++ ((sG g r3 5 300 Dc) ++ (sGx g r2 5 300 Uc f)))) (ws2 := fun u_5 => (a 0, .inr (6, [.ref (a 1), .ref (a 2), .ref (a 3), .int (iI (n : Int))])) :: (a 1, cG g 5 r1) :: (a 2, cG g 5 r2) :: (a 3, cG g 5 r3) :: ((sG g r1 5 300 Vv) ++ ((sG g r2 5 300 (up Uc f (insF (Uc f) n u_4))) ++ (sG g r3 5 300 Dc)))) 0 0 zC h hl.1 (c_X6_insert l D g a (r2 f) n u_4 (Uc f) hu_4.1 hn) (cs6_40 zC ⟨(Nat.le_of_ble_eq_true rfl), (Nat.le_of_ble_eq_true rfl)⟩) (.head _) rfl rfl rfl (Nat.le_of_ble_eq_true rfl) (pm fun cp_q => by simp only [cp_o, List.countP_append, List.countP_nil, (sG_split (g := g) (r := r2) (len := 300) (F := Uc) (show f < 5 by omega)).countP_eq cp_q] <;> omega) (fun u => (pm fun cp_q => by simp only [cp_o, List.countP_append, List.countP_nil, (sG_put (g := g) (r := r2) (len := 300) (F := Uc) (f := insF (Uc f) n u_4) (show f < 5 by omega)).countP_eq cp_q] <;> omega)) ⟨(Nat.le_of_ble_eq_true rfl), (Nat.le_of_ble_eq_true rfl)⟩ (Nat.le_of_ble_eq_true rfl) (Nat.le_of_ble_eq_true rfl) dX6_putInOrders_31 (fun u_5 H locs hu_5 hz_5 h => ?_)
        refine lv_aload_n zx zb dX6_putInOrders_34 rfl (lv_at hl 1 rfl) ?_
        refine lv_aload_n zx zb dX6_putInOrders_35 rfl (lv_at hl 1 rfl) ?_
        refine gf6_19 (v := .ref (a 3)) zC h 0 rfl rfl dX6_putInOrders_36 ?_
        refine lv_iload_n zx zb dX6_putInOrders_39 rfl (lv_at hl 2 rfl) ?_
        refine a_gld zC h 3 rfl (z := (f : Int)) f (by omega) (by omega) (by decide) dX6_putInOrders_40 ?_
        refine lv_aload_n zx zb dX6_putInOrders_41 rfl (lv_at hl 1 rfl) ?_
        refine lv_iload_n zx zb dX6_putInOrders_42 rfl (lv_at hl 2 rfl) ?_
        refine lv_iload_n zx zb dX6_putInOrders_43 rfl (lv_at hl 0 rfl) ?_
        refine lv_iconst (v := iI (1)) zx zb dX6_putInOrders_44 rfl ?_
        refine r_invV (As := [.int (iI (f : Int)), .int (iI (Vv f (n - 1))), .int (bI true)]) (rest := [.ref (r3 f), .ref (a 0)]) (wr := []) (ws2 := fun u_6 => (a 0, .inr (6, [.ref (a 1), .ref (a 2), .ref (a 3), .int (iI (n : Int))])) :: (a 1, cG g 5 r1) :: (a 2, cG g 5 r2) :: (a 3, cG g 5 r3) :: ((sG g r1 5 300 Vv) ++ ((sG g r2 5 300 (up Uc f (insF (Uc f) n u_4))) ++ (sG g r3 5 300 Dc)))) 0 0 zC h hl.1 (c_X6_behindLastD l D g a r1 r2 r3 n Vv (up Uc f (insF (Uc f) n u_4)) Dc f (Vv f (n - 1)) (by omega) h1 hn (hV f (n - 1) (by omega) (by omega)) (fun j hj => by rw [(hr f (Nat.le_refl f)).2]; exact hD f j (by omega) hj) (fun k hk => hV f k (by omega) hk)) (cs6_36 zC ⟨(Nat.le_of_ble_eq_true rfl), (Nat.le_of_ble_eq_true rfl)⟩) (.head _) rfl rfl rfl (Nat.le_of_ble_eq_true rfl) (List.Perm.of_eq (List.append_nil _).symm) (fun u => List.Perm.of_eq (List.append_nil _)) ⟨(Nat.le_of_ble_eq_true rfl), (Nat.le_of_ble_eq_true rfl)⟩ (Nat.le_of_ble_eq_true rfl) (Nat.le_of_ble_eq_true rfl) dX6_putInOrders_45 (fun u_6 H locs hu_6 hz_6 h => ?_)
        refine r_invV (As := [.ref (r3 f), .int (iI (u_6 : Int))]) (rest := []) (wr := (a 1, cG g 5 r1) :: (a 2, cG g 5 r2) :: (a 3, cG g 5 r3) :: ((sG g r1 5 300 Vv) ++ ((sG g r2 5 300 (up Uc f (insF (Uc f) n u_4))) ++ (sGx g r3 5 300 Dc f)))) (ws2 := fun u_7 => (a 0, .inr (6, [.ref (a 1), .ref (a 2), .ref (a 3), .int (iI (n : Int))])) :: (a 1, cG g 5 r1) :: (a 2, cG g 5 r2) :: (a 3, cG g 5 r3) :: ((sG g r1 5 300 Vv) ++ ((sG g r2 5 300 (up Uc f (insF (Uc f) n u_4))) ++ (sG g r3 5 300 (up Dc f (insF (Dc f) n u_6)))))) 0 0 zC h hl.1 (c_X6_insert l D g a (r3 f) n u_6 (Dc f) hu_6.1 hn) (cs6_40 zC ⟨(Nat.le_of_ble_eq_true rfl), (Nat.le_of_ble_eq_true rfl)⟩) (.head _) rfl rfl rfl (Nat.le_of_ble_eq_true rfl) (pm fun cp_q => by simp only [cp_o, List.countP_append, List.countP_nil, (sG_split (g := g) (r := r3) (len := 300) (F := Dc) (show f < 5 by omega)).countP_eq cp_q] <;> omega) (fun u => (pm fun cp_q => by simp only [cp_o, List.countP_append, List.countP_nil, (sG_put (g := g) (r := r3) (len := 300) (F := Dc) (f := insF (Dc f) n u_6) (show f < 5 by omega)).countP_eq cp_q] <;> omega)) ⟨(Nat.le_of_ble_eq_true rfl), (Nat.le_of_ble_eq_true rfl)⟩ (Nat.le_of_ble_eq_true rfl) (Nat.le_of_ble_eq_true rfl) dX6_putInOrders_48 (fun u_7 H locs hu_7 hz_7 h => ?_)
        refine i_inc (q := 2) (a := (f : Int)) (lv' := [(1, .int (iI ((f : Int) + 1))), (2, .int (iI (Vv f (n - 1)))), (0, .ref (a 0))]) zC hl dX6_putInOrders_51 rfl (by decide) rfl (fun ls hl => ?_)
        refine lv_goto (tgt := 2) zx zb dX6_putInOrders_54 (by decide) ?_
        exact ih (f + 1) (up Uc f (insF (Uc f) n u_4)) (up Dc f (insF (Dc f) n u_6)) _ _ _ (by omega) (by omega) (putI hi hr hu_4 hu_6) (putR hr) h (lv_sub hl [2, 0] rfl)
  exact L2_1 _ 0 U Dn _ _ _ (Nat.lt_succ_self _) (by omega) (fun e q => absurd q (Nat.not_lt_zero _)) (fun e _ => ⟨rfl, rfl⟩) h (lv_sub hl [1, 0] rfl)

set_option maxHeartbeats 4000000 in
set_option maxRecDepth 100000 in
theorem c_X6_add (l : Launch) (D : va_G) (g : Nat → ClassId) (a r1 r2 r3 : Nat → Nat) (n : Nat) (Vv U Dn : Nat → Nat → Int) (x0 x1 x2 x3 x4 : Int) (hn : n < 300) (hx : R32 x0 ∧ R32 x1 ∧ R32 x2 ∧ R32 x3 ∧ R32 x4) (hV : ∀ f k, f < 5 → k < n → R32 (Vv f k)) (hU : ∀ f j, f < 5 → j < n → 1 ≤ U f j ∧ U f j ≤ (n : Int)) (hD : ∀ f j, f < 5 → j < n → 1 ≤ Dn f j ∧ Dn f j ≤ (n : Int)) : Ct (S := (Nat → Nat → Int) × (Nat → Nat → Int)) l D g yX6_add cX6_add 6 (some .int) rmX6_add [.ref (a 0), .int (iI x0), .int (iI x1), .int (iI x2), .int (iI x3), .int (iI x4)] (wRows g a r1 r2 r3 n Vv U Dn) (fun u => some (.int (iI ((n : Int) + 1)))) (fun u => ∀ e, e < 5 → (∃ p, plU ((pV (pV (pV (pV (pV Vv 0 n x0) 1 n x1) 2 n x2) 3 n x3) 4 n x4) e) (U e) (n + 1) ((pV (pV (pV (pV (pV Vv 0 n x0) 1 n x1) 2 n x2) 3 n x3) 4 n x4) e n) p ∧ u.1 e = insF (U e) (n + 1) p) ∧ ∃ p, plD ((pV (pV (pV (pV (pV Vv 0 n x0) 1 n x1) 2 n x2) 3 n x3) 4 n x4) e) (Dn e) (n + 1) ((pV (pV (pV (pV (pV Vv 0 n x0) 1 n x1) 2 n x2) 3 n x3) 4 n x4) e n) p ∧ u.2 e = insF (Dn e) (n + 1) p) (fun u => wRows g a r1 r2 r3 (n + 1) (pV (pV (pV (pV (pV Vv 0 n x0) 1 n x1) 2 n x2) 3 n x3) 4 n x4) u.1 u.2) := by
  refine Ct.of RX6 rfl (by decide +kernel) [(0, .ref (a 0)), (1, .int (iI x0)), (2, .int (iI x1)), (3, .int (iI x2)), (4, .int (iI x3)), (5, .int (iI x4))] rfl (Nat.le_of_ble_eq_true rfl) ?_
  intro pg evn sT mI bl mtd cd aA ls ar qQ zC zr zk zi zQ h hl
  have zx := zC.1
  have zb := zC.2.1
  have h : Hx D g sT aA sT.heap ((a 0, .inr (6, [.ref (a 1), .ref (a 2), .ref (a 3), .int (iI (n : Int))])) :: (a 1, cG g 5 r1) :: (a 2, cG g 5 r2) :: (a 3, cG g 5 r3) :: ((sG g r1 5 300 Vv) ++ ((sG g r2 5 300 U) ++ (sG g r3 5 300 Dn)))) sT.heap [] := h
  skip
  refine lv_aload_n zx zb dX6_add_0 rfl (lv_at hl 0 rfl) ?_
  refine gf6_22 (v := .int (iI (n : Int))) zC h 0 rfl rfl dX6_add_1 ?_
  refine i_zlt (a := (n : Int)) (tgt := 17) zC dX6_add_4 (by decide) (by omega) (fun c_1 => absurd c_1 (by omega)) (fun c_1 => ?_)
  refine lv_aload_n zx zb dX6_add_7 rfl (lv_at hl 0 rfl) ?_
  refine gf6_22 (v := .int (iI (n : Int))) zC h 0 rfl rfl dX6_add_8 ?_
  refine lv_sipush (v := iI (300)) zx zb dX6_add_11 rfl ?_
  refine i_clt (a := (n : Int)) (b := 300) (tgt := 20) zC dX6_add_14 (by decide) (by omega) (fun c_2 => ?_) (fun c_2 => absurd c_2 (by omega))
  refine lv_aload_n zx zb dX6_add_20 rfl (lv_at hl 0 rfl) ?_
  refine gf6_11 (v := .ref (a 1)) zC h 0 rfl rfl dX6_add_21 ?_
  refine lv_iconst (v := iI (0)) zx zb dX6_add_24 rfl ?_
  refine a_gld zC h 1 rfl (z := 0) 0 rfl (by omega) (by decide) dX6_add_25 ?_
  refine lv_aload_n zx zb dX6_add_26 rfl (lv_at hl 0 rfl) ?_
  refine gf6_22 (v := .int (iI (n : Int))) zC h 0 rfl rfl dX6_add_27 ?_
  refine lv_iload_n zx zb dX6_add_30 rfl (lv_at hl 1 rfl) ?_
  refine a_istM (n := 300) (F := Vv 0) (wr := (a 0, .inr (6, [.ref (a 1), .ref (a 2), .ref (a 3), .int (iI (n : Int))])) :: (a 1, cG g 5 r1) :: (a 2, cG g 5 r2) :: (a 3, cG g 5 r3) :: ((sG g r2 5 300 U) ++ ((sG g r3 5 300 Dn) ++ (sGx g r1 5 300 Vv 0)))) zC h (pm fun cp_q => by simp only [cp_o, List.countP_append, List.countP_nil, (sG_split (g := g) (r := r1) (len := 300) (F := Vv) (show 0 < 5 by omega)).countP_eq cp_q] <;> omega) (x := x0) n (ws' := (a 0, .inr (6, [.ref (a 1), .ref (a 2), .ref (a 3), .int (iI (n : Int))])) :: (a 1, cG g 5 r1) :: (a 2, cG g 5 r2) :: (a 3, cG g 5 r3) :: ((sG g r1 5 300 (pV Vv 0 n x0)) ++ ((sG g r2 5 300 U) ++ (sG g r3 5 300 Dn)))) (pm fun cp_q => by simp only [cp_o, List.countP_append, List.countP_nil, (sG_putV (g := g) (r := r1) (len := 300) (F := Vv) (k := n) (x := x0) (show 0 < 5 by omega)).countP_eq cp_q] <;> omega) (by omega) (by omega) (by decide) dX6_add_31 (fun H locs h => ?_)
  refine lv_aload_n zx zb dX6_add_32 rfl (lv_at hl 0 rfl) ?_
  refine gf6_11 (v := .ref (a 1)) zC h 0 rfl rfl dX6_add_33 ?_
  refine lv_iconst (v := iI (1)) zx zb dX6_add_36 rfl ?_
  refine a_gld zC h 1 rfl (z := 1) 1 rfl (by omega) (by decide) dX6_add_37 ?_
  refine lv_aload_n zx zb dX6_add_38 rfl (lv_at hl 0 rfl) ?_
  refine gf6_22 (v := .int (iI (n : Int))) zC h 0 rfl rfl dX6_add_39 ?_
  refine lv_iload_n zx zb dX6_add_42 rfl (lv_at hl 2 rfl) ?_
  refine a_istM (n := 300) (F := (pV Vv 0 n x0) 1) (wr := (a 0, .inr (6, [.ref (a 1), .ref (a 2), .ref (a 3), .int (iI (n : Int))])) :: (a 1, cG g 5 r1) :: (a 2, cG g 5 r2) :: (a 3, cG g 5 r3) :: ((sG g r2 5 300 U) ++ ((sG g r3 5 300 Dn) ++ (sGx g r1 5 300 (pV Vv 0 n x0) 1)))) zC h (pm fun cp_q => by simp only [cp_o, List.countP_append, List.countP_nil, (sG_split (g := g) (r := r1) (len := 300) (F := pV Vv 0 n x0) (show 1 < 5 by omega)).countP_eq cp_q] <;> omega) (x := x1) n (ws' := (a 0, .inr (6, [.ref (a 1), .ref (a 2), .ref (a 3), .int (iI (n : Int))])) :: (a 1, cG g 5 r1) :: (a 2, cG g 5 r2) :: (a 3, cG g 5 r3) :: ((sG g r1 5 300 (pV (pV Vv 0 n x0) 1 n x1)) ++ ((sG g r2 5 300 U) ++ (sG g r3 5 300 Dn)))) (pm fun cp_q => by simp only [cp_o, List.countP_append, List.countP_nil, (sG_putV (g := g) (r := r1) (len := 300) (F := pV Vv 0 n x0) (k := n) (x := x1) (show 1 < 5 by omega)).countP_eq cp_q] <;> omega) (by omega) (by omega) (by decide) dX6_add_43 (fun H locs h => ?_)
  refine lv_aload_n zx zb dX6_add_44 rfl (lv_at hl 0 rfl) ?_
  refine gf6_11 (v := .ref (a 1)) zC h 0 rfl rfl dX6_add_45 ?_
  refine lv_iconst (v := iI (2)) zx zb dX6_add_48 rfl ?_
  refine a_gld zC h 1 rfl (z := 2) 2 rfl (by omega) (by decide) dX6_add_49 ?_
  refine lv_aload_n zx zb dX6_add_50 rfl (lv_at hl 0 rfl) ?_
  refine gf6_22 (v := .int (iI (n : Int))) zC h 0 rfl rfl dX6_add_51 ?_
  refine lv_iload_n zx zb dX6_add_54 rfl (lv_at hl 3 rfl) ?_
  refine a_istM (n := 300) (F := (pV (pV Vv 0 n x0) 1 n x1) 2) (wr := (a 0, .inr (6, [.ref (a 1), .ref (a 2), .ref (a 3), .int (iI (n : Int))])) :: (a 1, cG g 5 r1) :: (a 2, cG g 5 r2) :: (a 3, cG g 5 r3) :: ((sG g r2 5 300 U) ++ ((sG g r3 5 300 Dn) ++ (sGx g r1 5 300 (pV (pV Vv 0 n x0) 1 n x1) 2)))) zC h (pm fun cp_q => by simp only [cp_o, List.countP_append, List.countP_nil, (sG_split (g := g) (r := r1) (len := 300) (F := pV (pV Vv 0 n x0) 1 n x1) (show 2 < 5 by omega)).countP_eq cp_q] <;> omega) (x := x2) n (ws' := (a 0, .inr (6, [.ref (a 1), .ref (a 2), .ref (a 3), .int (iI (n : Int))])) :: (a 1, cG g 5 r1) :: (a 2, cG g 5 r2) :: (a 3, cG g 5 r3) :: ((sG g r1 5 300 (pV (pV (pV Vv 0 n x0) 1 n x1) 2 n x2)) ++ ((sG g r2 5 300 U) ++ (sG g r3 5 300 Dn)))) (pm fun cp_q => by simp only [cp_o, List.countP_append, List.countP_nil, (sG_putV (g := g) (r := r1) (len := 300) (F := pV (pV Vv 0 n x0) 1 n x1) (k := n) (x := x2) (show 2 < 5 by omega)).countP_eq cp_q] <;> omega) (by omega) (by omega) (by decide) dX6_add_55 (fun H locs h => ?_)
  refine lv_aload_n zx zb dX6_add_56 rfl (lv_at hl 0 rfl) ?_
  refine gf6_11 (v := .ref (a 1)) zC h 0 rfl rfl dX6_add_57 ?_
  refine lv_iconst (v := iI (3)) zx zb dX6_add_60 rfl ?_
  refine a_gld zC h 1 rfl (z := 3) 3 rfl (by omega) (by decide) dX6_add_61 ?_
  refine lv_aload_n zx zb dX6_add_62 rfl (lv_at hl 0 rfl) ?_
  refine gf6_22 (v := .int (iI (n : Int))) zC h 0 rfl rfl dX6_add_63 ?_
  refine lv_iload zx zb dX6_add_66 (lv_at hl 4 rfl) ?_
  refine a_istM (n := 300) (F := (pV (pV (pV Vv 0 n x0) 1 n x1) 2 n x2) 3) (wr := (a 0, .inr (6, [.ref (a 1), .ref (a 2), .ref (a 3), .int (iI (n : Int))])) :: (a 1, cG g 5 r1) :: (a 2, cG g 5 r2) :: (a 3, cG g 5 r3) :: ((sG g r2 5 300 U) ++ ((sG g r3 5 300 Dn) ++ (sGx g r1 5 300 (pV (pV (pV Vv 0 n x0) 1 n x1) 2 n x2) 3)))) zC h (pm fun cp_q => by simp only [cp_o, List.countP_append, List.countP_nil, (sG_split (g := g) (r := r1) (len := 300) (F := pV (pV (pV Vv 0 n x0) 1 n x1) 2 n x2) (show 3 < 5 by omega)).countP_eq cp_q] <;> omega) (x := x3) n (ws' := (a 0, .inr (6, [.ref (a 1), .ref (a 2), .ref (a 3), .int (iI (n : Int))])) :: (a 1, cG g 5 r1) :: (a 2, cG g 5 r2) :: (a 3, cG g 5 r3) :: ((sG g r1 5 300 (pV (pV (pV (pV Vv 0 n x0) 1 n x1) 2 n x2) 3 n x3)) ++ ((sG g r2 5 300 U) ++ (sG g r3 5 300 Dn)))) (pm fun cp_q => by simp only [cp_o, List.countP_append, List.countP_nil, (sG_putV (g := g) (r := r1) (len := 300) (F := pV (pV (pV Vv 0 n x0) 1 n x1) 2 n x2) (k := n) (x := x3) (show 3 < 5 by omega)).countP_eq cp_q] <;> omega) (by omega) (by omega) (by decide) dX6_add_68 (fun H locs h => ?_)
  refine lv_aload_n zx zb dX6_add_69 rfl (lv_at hl 0 rfl) ?_
  refine gf6_11 (v := .ref (a 1)) zC h 0 rfl rfl dX6_add_70 ?_
  refine lv_iconst (v := iI (4)) zx zb dX6_add_73 rfl ?_
  refine a_gld zC h 1 rfl (z := 4) 4 rfl (by omega) (by decide) dX6_add_74 ?_
  refine lv_aload_n zx zb dX6_add_75 rfl (lv_at hl 0 rfl) ?_
  refine gf6_22 (v := .int (iI (n : Int))) zC h 0 rfl rfl dX6_add_76 ?_
  refine lv_iload zx zb dX6_add_79 (lv_at hl 5 rfl) ?_
  refine a_istM (n := 300) (F := (pV (pV (pV (pV Vv 0 n x0) 1 n x1) 2 n x2) 3 n x3) 4) (wr := (a 0, .inr (6, [.ref (a 1), .ref (a 2), .ref (a 3), .int (iI (n : Int))])) :: (a 1, cG g 5 r1) :: (a 2, cG g 5 r2) :: (a 3, cG g 5 r3) :: ((sG g r2 5 300 U) ++ ((sG g r3 5 300 Dn) ++ (sGx g r1 5 300 (pV (pV (pV (pV Vv 0 n x0) 1 n x1) 2 n x2) 3 n x3) 4)))) zC h (pm fun cp_q => by simp only [cp_o, List.countP_append, List.countP_nil, (sG_split (g := g) (r := r1) (len := 300) (F := pV (pV (pV (pV Vv 0 n x0) 1 n x1) 2 n x2) 3 n x3) (show 4 < 5 by omega)).countP_eq cp_q] <;> omega) (x := x4) n (ws' := (a 0, .inr (6, [.ref (a 1), .ref (a 2), .ref (a 3), .int (iI (n : Int))])) :: (a 1, cG g 5 r1) :: (a 2, cG g 5 r2) :: (a 3, cG g 5 r3) :: ((sG g r1 5 300 (pV (pV (pV (pV (pV Vv 0 n x0) 1 n x1) 2 n x2) 3 n x3) 4 n x4)) ++ ((sG g r2 5 300 U) ++ (sG g r3 5 300 Dn)))) (pm fun cp_q => by simp only [cp_o, List.countP_append, List.countP_nil, (sG_putV (g := g) (r := r1) (len := 300) (F := pV (pV (pV (pV Vv 0 n x0) 1 n x1) 2 n x2) 3 n x3) (k := n) (x := x4) (show 4 < 5 by omega)).countP_eq cp_q] <;> omega) (by omega) (by omega) (by decide) dX6_add_81 (fun H locs h => ?_)
  refine lv_aload_n zx zb dX6_add_82 rfl (lv_at hl 0 rfl) ?_
  refine lv_dup zx zb dX6_add_83 rfl ?_
  refine gf6_22 (v := .int (iI (n : Int))) zC h 0 rfl rfl dX6_add_84 ?_
  refine lv_iconst (v := iI (1)) zx zb dX6_add_87 rfl ?_
  refine i_add zC (a := (n : Int)) (b := 1) dX6_add_88 ?_
  refine pf6_22 (x := iI ((n : Int) + 1)) zC h 0 (ws' := (a 0, .inr (6, [.ref (a 1), .ref (a 2), .ref (a 3), .int (iI ((n : Int) + 1))])) :: (a 1, cG g 5 r1) :: (a 2, cG g 5 r2) :: (a 3, cG g 5 r3) :: ((sG g r1 5 300 (pV (pV (pV (pV (pV Vv 0 n x0) 1 n x1) 2 n x2) 3 n x3) 4 n x4)) ++ ((sG g r2 5 300 U) ++ (sG g r3 5 300 Dn)))) rfl rfl (Nat.le_of_ble_eq_true rfl) dX6_add_89 (fun H locs h => ?_)
  refine lv_aload_n zx zb dX6_add_92 rfl (lv_at hl 0 rfl) ?_
  refine r_invV (As := []) (rest := []) (wr := []) (ws2 := fun u_3 => (a 0, .inr (6, [.ref (a 1), .ref (a 2), .ref (a 3), .int (iI ((n + 1 : Nat) : Int))])) :: (a 1, cG g 5 r1) :: (a 2, cG g 5 r2) :: (a 3, cG g 5 r3) :: ((sG g r1 5 300 (pV (pV (pV (pV (pV Vv 0 n x0) 1 n x1) 2 n x2) 3 n x3) 4 n x4)) ++ ((sG g r2 5 300 u_3.1) ++ (sG g r3 5 300 u_3.2)))) 0 0 zC h hl.1 (c_X6_putInOrders l D g a r1 r2 r3 (n + 1) (pV (pV (pV (pV (pV Vv 0 n x0) 1 n x1) 2 n x2) 3 n x3) 4 n x4) U Dn (by omega) (by omega) (addV hx hV) (fun f j hf hj => by have := hU f j hf (by omega); omega) (fun f j hf hj => by have := hD f j hf (by omega); omega)) (cs6_27 zC ⟨(Nat.le_of_ble_eq_true rfl), (Nat.le_of_ble_eq_true rfl)⟩) (.head _) rfl rfl rfl (Nat.le_of_ble_eq_true rfl) (List.Perm.of_eq (List.append_nil _).symm) (fun u => List.Perm.of_eq (List.append_nil _)) ⟨(Nat.le_of_ble_eq_true rfl), (Nat.le_of_ble_eq_true rfl)⟩ (Nat.le_of_ble_eq_true rfl) (Nat.le_of_ble_eq_true rfl) dX6_add_93 (fun u_3 H locs hu_3 hz_3 h => ?_)
  refine lv_aload_n zx zb dX6_add_96 rfl (lv_at hl 0 rfl) ?_
  refine gf6_22 (v := .int (iI ((n + 1 : Nat) : Int))) zC h 0 rfl rfl dX6_add_97 ?_
  exact r_iret zC zQ zr zk h dX6_add_100 (u := u_3) rfl (List.Perm.refl _) hu_3 (Nat.le_of_ble_eq_true rfl) (Nat.le_of_ble_eq_true rfl)
end
section
/-! RIGHTS: for each asker and each owner (or any) the kinds (or any), as bits -/
noncomputable def bG (B : Nat → Nat → Nat → Bool) : Nat → Nat → Int := fun w o => bZ (B w o)
def bAdd (B : Nat → Nat → Nat → Bool) (w o k : Nat) : Nat → Nat → Nat → Bool := fun w' o' i => B w' o' i || (w' == w && (o' == o && i == k))
theorem bG_add {B : Nat → Nat → Nat → Bool} {w o k : Nat} : pV (bG B) w o (bZ fun i => B w o i || i == k) = bG (bAdd B w o k) := by
  funext w' o'
  unfold pV
  by_cases h1 : w' = w
  · subst h1
    rw [up_s]
    by_cases h2 : o' = o
    · subst h2
      rw [up_s]
      refine bZ_congr fun i _ => ?_
      simp [bAdd]
    · rw [up_n h2]
      refine bZ_congr fun i _ => ?_
      simp [bAdd, h2]
  · rw [up_n h1]
    refine bZ_congr fun i _ => ?_
    simp [bAdd, h1]
noncomputable def wRights (g : Nat → ClassId) (a r : Nat → Nat) (n : Nat) (B : Nat → Nat → Nat → Bool) (Cn : Nat → Int) : va_W := (a 0, .inr (5, [.ref (a 1), .ref (a 2), .int (iI (n : Int))])) :: (a 1, cG g 50 r) :: (a 2, cI g 50 Cn) :: sG g r 50 101 (bG B)
theorem wRights_mem {g : Nat → ClassId} {a r : Nat → Nat} {n : Nat} {B : Nat → Nat → Nat → Bool} {Cn : Nat → Int} : (a 0, .inr (5, [.ref (a 1), .ref (a 2), .int (iI (n : Int))])) ∈ wRights g a r n B Cn := .head _
theorem see_mask {x y : Nat → Bool} {k : Nat} (hk : k < 20) : (bZ fun i => (x i || y i) && (i == 0 || i == k + 1)) = 0 ↔ (x 0 || y 0 || (x (k + 1) || y (k + 1))) = false := by
  rw [bZ_eq0]
  constructor
  · intro h
    have h0 := h 0 (by omega)
    have h1 := h (k + 1) (by omega)
    simp at h0 h1
    simp [h0, h1]
  · intro h i hi
    simp at h
    by_cases e0 : i = 0
    · subst e0; simp [h]
    · by_cases e1 : i = k + 1
      · subst e1; simp [h]
      · simp [e0, e1]

set_option maxHeartbeats 4000000 in
set_option maxRecDepth 100000 in
theorem c_X5_count (l : Launch) (D : va_G) (g : Nat → ClassId) (a r : Nat → Nat) (n : Nat) (B : Nat → Nat → Nat → Bool) (Cn : Nat → Int) : Ct (S := Unit) l D g yX5_count cX5_count 1 (some .int) rmX5_count [.ref (a 0)] (wRights g a r n B Cn) (fun u => some (.int (iI (n : Int)))) (fun _ => True) (fun u => wRights g a r n B Cn) := by
  refine Ct.of RX5 rfl (by decide +kernel) [(0, .ref (a 0))] rfl (Nat.le_of_ble_eq_true rfl) ?_
  intro pg evn sT mI bl mtd cd aA ls ar qQ zC zr zk zi zQ h hl
  have zx := zC.1
  have zb := zC.2.1
  have h : Hx D g sT aA sT.heap ((a 0, .inr (5, [.ref (a 1), .ref (a 2), .int (iI (n : Int))])) :: (a 1, cG g 50 r) :: (a 2, cI g 50 Cn) :: (sG g r 50 101 (bG B))) sT.heap [] := h
  skip
  refine lv_aload_n zx zb dX5_count_0 rfl (lv_at hl 0 rfl) ?_
  refine gf5_20 (v := .int (iI (n : Int))) zC h 0 rfl rfl dX5_count_1 ?_
  exact r_iret zC zQ zr zk h dX5_count_4 (u := ()) rfl (List.Perm.refl _) trivial (Nat.le_of_ble_eq_true rfl) (Nat.le_of_ble_eq_true rfl)

set_option maxHeartbeats 4000000 in
set_option maxRecDepth 100000 in
theorem c_X5_countOf (l : Launch) (D : va_G) (g : Nat → ClassId) (a r : Nat → Nat) (n : Nat) (B : Nat → Nat → Nat → Bool) (Cn : Nat → Int) (w : Nat) (hw : w < 50) : Ct (S := Unit) l D g yX5_countOf cX5_countOf 2 (some .int) rmX5_countOf [.ref (a 0), .int (iI (w : Int))] (wRights g a r n B Cn) (fun u => some (.int (iI (Cn w)))) (fun _ => True) (fun u => wRights g a r n B Cn) := by
  refine Ct.of RX5 rfl (by decide +kernel) [(0, .ref (a 0)), (1, .int (iI (w : Int)))] rfl (Nat.le_of_ble_eq_true rfl) ?_
  intro pg evn sT mI bl mtd cd aA ls ar qQ zC zr zk zi zQ h hl
  have zx := zC.1
  have zb := zC.2.1
  have h : Hx D g sT aA sT.heap ((a 0, .inr (5, [.ref (a 1), .ref (a 2), .int (iI (n : Int))])) :: (a 1, cG g 50 r) :: (a 2, cI g 50 Cn) :: (sG g r 50 101 (bG B))) sT.heap [] := h
  skip
  refine lv_iload_n zx zb dX5_countOf_0 rfl (lv_at hl 1 rfl) ?_
  refine i_zlt (a := (w : Int)) (tgt := 19) zC dX5_countOf_1 (by decide) (by omega) (fun c_1 => absurd c_1 (by omega)) (fun c_1 => ?_)
  refine lv_iload_n zx zb dX5_countOf_4 rfl (lv_at hl 1 rfl) ?_
  refine lv_bipush (v := iI (50)) zx zb dX5_countOf_5 rfl ?_
  refine i_cge (a := (w : Int)) (b := 50) (tgt := 19) zC dX5_countOf_7 (by decide) (by omega) (fun c_2 => absurd c_2 (by omega)) (fun c_2 => ?_)
  refine lv_aload_n zx zb dX5_countOf_10 rfl (lv_at hl 0 rfl) ?_
  refine gf5_16 (v := .ref (a 2)) zC h 0 rfl rfl dX5_countOf_11 ?_
  refine lv_iload_n zx zb dX5_countOf_14 rfl (lv_at hl 1 rfl) ?_
  refine a_ild zC h 2 rfl (z := (w : Int)) w (by omega) (by omega) (by decide) dX5_countOf_15 ?_
  refine lv_goto (tgt := 20) zx zb dX5_countOf_16 (by decide) ?_
  exact r_iret zC zQ zr zk h dX5_countOf_20 (u := ()) rfl (List.Perm.refl _) trivial (Nat.le_of_ble_eq_true rfl) (Nat.le_of_ble_eq_true rfl)

set_option maxHeartbeats 4000000 in
set_option maxRecDepth 100000 in
theorem c_X5_kindsOf (l : Launch) (D : va_G) (g : Nat → ClassId) (a r : Nat → Nat) (n : Nat) (B : Nat → Nat → Nat → Bool) (Cn : Nat → Int) (w : Nat) (z : Int) (hw : w < 50) (hz : -1 ≤ z ∧ z < 100) : Ct (S := Unit) l D g yX5_kindsOf cX5_kindsOf 3 (some .int) rmX5_kindsOf [.ref (a 0), .int (iI (w : Int)), .int (iI z)] (wRights g a r n B Cn) (fun u => some (.int (iI (bZ (B w (z + 1).toNat))))) (fun _ => True) (fun u => wRights g a r n B Cn) := by
  refine Ct.of RX5 rfl (by decide +kernel) [(0, .ref (a 0)), (1, .int (iI (w : Int))), (2, .int (iI z))] rfl (Nat.le_of_ble_eq_true rfl) ?_
  intro pg evn sT mI bl mtd cd aA ls ar qQ zC zr zk zi zQ h hl
  have zx := zC.1
  have zb := zC.2.1
  have h : Hx D g sT aA sT.heap ((a 0, .inr (5, [.ref (a 1), .ref (a 2), .int (iI (n : Int))])) :: (a 1, cG g 50 r) :: (a 2, cI g 50 Cn) :: (sG g r 50 101 (bG B))) sT.heap [] := h
  skip
  refine lv_iload_n zx zb dX5_kindsOf_0 rfl (lv_at hl 1 rfl) ?_
  refine i_zlt (a := (w : Int)) (tgt := 21) zC dX5_kindsOf_1 (by decide) (by omega) (fun c_1 => absurd c_1 (by omega)) (fun c_1 => ?_)
  refine lv_iload_n zx zb dX5_kindsOf_4 rfl (lv_at hl 1 rfl) ?_
  refine lv_bipush (v := iI (50)) zx zb dX5_kindsOf_5 rfl ?_
  refine i_cge (a := (w : Int)) (b := 50) (tgt := 21) zC dX5_kindsOf_7 (by decide) (by omega) (fun c_2 => absurd c_2 (by omega)) (fun c_2 => ?_)
  refine lv_iload_n zx zb dX5_kindsOf_10 rfl (lv_at hl 2 rfl) ?_
  refine lv_iconst (v := iI (-1)) zx zb dX5_kindsOf_11 rfl ?_
  refine i_clt (a := z) (b := -1) (tgt := 21) zC dX5_kindsOf_12 (by decide) (by omega) (fun c_3 => absurd c_3 (by omega)) (fun c_3 => ?_)
  refine lv_iload_n zx zb dX5_kindsOf_15 rfl (lv_at hl 2 rfl) ?_
  refine lv_bipush (v := iI (100)) zx zb dX5_kindsOf_16 rfl ?_
  refine i_clt (a := z) (b := 100) (tgt := 23) zC dX5_kindsOf_18 (by decide) (by omega) (fun c_4 => ?_) (fun c_4 => absurd c_4 (by omega))
  refine lv_aload_n zx zb dX5_kindsOf_23 rfl (lv_at hl 0 rfl) ?_
  refine gf5_11 (v := .ref (a 1)) zC h 0 rfl rfl dX5_kindsOf_24 ?_
  refine lv_iload_n zx zb dX5_kindsOf_27 rfl (lv_at hl 1 rfl) ?_
  refine a_gld zC h 1 rfl (z := (w : Int)) w (by omega) (by omega) (by decide) dX5_kindsOf_28 ?_
  refine lv_iload_n zx zb dX5_kindsOf_29 rfl (lv_at hl 2 rfl) ?_
  refine lv_iconst (v := iI (1)) zx zb dX5_kindsOf_30 rfl ?_
  refine i_add zC (a := z) (b := 1) dX5_kindsOf_31 ?_
  refine a_ildM (n := 101) (F := bG B w) zC h (.tail _ (.tail _ (.tail _ (sG_get (by omega))))) (z := z + 1) ((z + 1).toNat) (by omega) (by omega) (by decide) dX5_kindsOf_32 ?_
  exact r_iret zC zQ zr zk h dX5_kindsOf_33 (u := ()) rfl (List.Perm.refl _) trivial (Nat.le_of_ble_eq_true rfl) (Nat.le_of_ble_eq_true rfl)

set_option maxHeartbeats 4000000 in
set_option maxRecDepth 100000 in
theorem c_X5_holds (l : Launch) (D : va_G) (g : Nat → ClassId) (a r : Nat → Nat) (n : Nat) (B : Nat → Nat → Nat → Bool) (Cn : Nat → Int) (w : Nat) (z q : Int) (hw : w < 50) (hz : -1 ≤ z ∧ z < 100) (hq : -1 ≤ q ∧ q < 20) : Ct (S := Unit) l D g yX5_holds cX5_holds 4 (some .boolean) rmX5_holds [.ref (a 0), .int (iI (w : Int)), .int (iI z), .int (iI q)] (wRights g a r n B Cn) (fun u => some (.int (bI (B w (z + 1).toNat (q + 1).toNat)))) (fun _ => True) (fun u => wRights g a r n B Cn) := by
  refine Ct.of RX5 rfl (by decide +kernel) [(0, .ref (a 0)), (1, .int (iI (w : Int))), (2, .int (iI z)), (3, .int (iI q))] rfl (Nat.le_of_ble_eq_true rfl) ?_
  intro pg evn sT mI bl mtd cd aA ls ar qQ zC zr zk zi zQ h hl
  have zx := zC.1
  have zb := zC.2.1
  have h : Hx D g sT aA sT.heap ((a 0, .inr (5, [.ref (a 1), .ref (a 2), .int (iI (n : Int))])) :: (a 1, cG g 50 r) :: (a 2, cI g 50 Cn) :: (sG g r 50 101 (bG B))) sT.heap [] := h
  skip
  refine lv_aload_n zx zb dX5_holds_0 rfl (lv_at hl 0 rfl) ?_
  refine lv_iload_n zx zb dX5_holds_1 rfl (lv_at hl 1 rfl) ?_
  refine lv_iload_n zx zb dX5_holds_2 rfl (lv_at hl 2 rfl) ?_
  refine r_invV (As := [.int (iI (w : Int)), .int (iI z)]) (rest := []) (wr := []) (ws2 := fun u_1 => (a 0, .inr (5, [.ref (a 1), .ref (a 2), .int (iI (n : Int))])) :: (a 1, cG g 50 r) :: (a 2, cI g 50 Cn) :: (sG g r 50 101 (bG B))) 0 0 zC h hl.1 (c_X5_kindsOf l D g a r n B Cn w z hw hz) (cs5_24 zC ⟨(Nat.le_of_ble_eq_true rfl), (Nat.le_of_ble_eq_true rfl)⟩) (.head _) rfl rfl rfl (Nat.le_of_ble_eq_true rfl) (List.Perm.of_eq (List.append_nil _).symm) (fun u => List.Perm.of_eq (List.append_nil _)) ⟨(Nat.le_of_ble_eq_true rfl), (Nat.le_of_ble_eq_true rfl)⟩ (Nat.le_of_ble_eq_true rfl) (Nat.le_of_ble_eq_true rfl) dX5_holds_3 (fun u_1 H locs hu_1 hz_1 h => ?_)
  refine lv_iload_n zx zb dX5_holds_6 rfl (lv_at hl 3 rfl) ?_
  refine lv_iconst (v := iI (1)) zx zb dX5_holds_7 rfl ?_
  refine i_add zC (a := q) (b := 1) dX5_holds_8 ?_
  refine lv_ishr zx zb dX5_holds_9 ?_
  refine lv_iconst (v := iI (1)) zx zb dX5_holds_10 rfl ?_
  refine lv_iand zx zb dX5_holds_11 ?_
  rw [show (q + 1 : Int) = (((q + 1).toNat : Nat) : Int) from by omega, bZ_tst (f := B w (z + 1).toNat) (show (q + 1).toNat < 32 by omega)]
  refine b_zeq (b := (B w (z + 1).toNat) ((q + 1).toNat)) (tgt := 19) zC dX5_holds_12 (by decide) (fun c_2 => ?_) (fun c_2 => ?_)
  · skip
    refine lv_iconst (v := iI (0)) zx zb dX5_holds_19 rfl ?_
    exact r_zret (b := false) zC zQ zr zk h dX5_holds_20 rfl (u := ()) (by rw [show B w (z + 1).toNat (q + 1).toNat = false from c_2]; rfl) (List.Perm.refl _) trivial (Nat.le_of_ble_eq_true rfl) (Nat.le_of_ble_eq_true rfl)
  · skip
    refine lv_iconst (v := iI (1)) zx zb dX5_holds_15 rfl ?_
    refine lv_goto (tgt := 20) zx zb dX5_holds_16 (by decide) ?_
    exact r_zret (b := true) zC zQ zr zk h dX5_holds_20 rfl (u := ()) (by rw [show B w (z + 1).toNat (q + 1).toNat = true from c_2]; rfl) (List.Perm.refl _) trivial (Nat.le_of_ble_eq_true rfl) (Nat.le_of_ble_eq_true rfl)

set_option maxHeartbeats 4000000 in
set_option maxRecDepth 100000 in
theorem c_X5_add (l : Launch) (D : va_G) (g : Nat → ClassId) (a r : Nat → Nat) (n : Nat) (B : Nat → Nat → Nat → Bool) (Cn : Nat → Int) (w : Nat) (z q : Int) (hw : w < 50) (hz : -1 ≤ z ∧ z < 100) (hq : -1 ≤ q ∧ q < 20) : Ct (S := Unit) l D g yX5_add cX5_add 4 none rmX5_add [.ref (a 0), .int (iI (w : Int)), .int (iI z), .int (iI q)] (wRights g a r n B Cn) (fun u => none) (fun _ => True) (fun u => wRights g a r (n + 1) (bAdd B w (z + 1).toNat (q + 1).toNat) (up Cn w (Cn w + 1))) := by
  refine Ct.of RX5 rfl (by decide +kernel) [(0, .ref (a 0)), (1, .int (iI (w : Int))), (2, .int (iI z)), (3, .int (iI q))] rfl (Nat.le_of_ble_eq_true rfl) ?_
  intro pg evn sT mI bl mtd cd aA ls ar qQ zC zr zk zi zQ h hl
  have zx := zC.1
  have zb := zC.2.1
  have h : Hx D g sT aA sT.heap ((a 0, .inr (5, [.ref (a 1), .ref (a 2), .int (iI (n : Int))])) :: (a 1, cG g 50 r) :: (a 2, cI g 50 Cn) :: (sG g r 50 101 (bG B))) sT.heap [] := h
  skip
  refine lv_iload_n zx zb dX5_add_0 rfl (lv_at hl 1 rfl) ?_
  refine i_zlt (a := (w : Int)) (tgt := 21) zC dX5_add_1 (by decide) (by omega) (fun c_1 => absurd c_1 (by omega)) (fun c_1 => ?_)
  refine lv_iload_n zx zb dX5_add_4 rfl (lv_at hl 1 rfl) ?_
  refine lv_bipush (v := iI (50)) zx zb dX5_add_5 rfl ?_
  refine i_cge (a := (w : Int)) (b := 50) (tgt := 21) zC dX5_add_7 (by decide) (by omega) (fun c_2 => absurd c_2 (by omega)) (fun c_2 => ?_)
  refine lv_iload_n zx zb dX5_add_10 rfl (lv_at hl 2 rfl) ?_
  refine lv_iconst (v := iI (-1)) zx zb dX5_add_11 rfl ?_
  refine i_clt (a := z) (b := -1) (tgt := 21) zC dX5_add_12 (by decide) (by omega) (fun c_3 => absurd c_3 (by omega)) (fun c_3 => ?_)
  refine lv_iload_n zx zb dX5_add_15 rfl (lv_at hl 2 rfl) ?_
  refine lv_bipush (v := iI (100)) zx zb dX5_add_16 rfl ?_
  refine i_clt (a := z) (b := 100) (tgt := 22) zC dX5_add_18 (by decide) (by omega) (fun c_4 => ?_) (fun c_4 => absurd c_4 (by omega))
  refine lv_aload_n zx zb dX5_add_22 rfl (lv_at hl 0 rfl) ?_
  refine gf5_11 (v := .ref (a 1)) zC h 0 rfl rfl dX5_add_23 ?_
  refine lv_iload_n zx zb dX5_add_26 rfl (lv_at hl 1 rfl) ?_
  refine a_gld zC h 1 rfl (z := (w : Int)) w (by omega) (by omega) (by decide) dX5_add_27 ?_
  refine lv_iload_n zx zb dX5_add_28 rfl (lv_at hl 2 rfl) ?_
  refine lv_iconst (v := iI (1)) zx zb dX5_add_29 rfl ?_
  refine i_add zC (a := z) (b := 1) dX5_add_30 ?_
  refine lv_dup2_11 zx zb dX5_add_31 rfl rfl ?_
  refine a_ildM (n := 101) (F := bG B w) zC h (.tail _ (.tail _ (.tail _ (sG_get (by omega))))) (z := z + 1) ((z + 1).toNat) (by omega) (by omega) (by decide) dX5_add_32 ?_
  rw [show bG B w (z + 1).toNat = bZ (B w (z + 1).toNat) from rfl]
  refine lv_iconst (v := iI (1)) zx zb dX5_add_33 rfl ?_
  refine lv_iload_n zx zb dX5_add_34 rfl (lv_at hl 3 rfl) ?_
  refine lv_iconst (v := iI (1)) zx zb dX5_add_35 rfl ?_
  refine i_add zC (a := q) (b := 1) dX5_add_36 ?_
  refine lv_ishl zx zb dX5_add_37 ?_
  rw [show (q + 1 : Int) = (((q + 1).toNat : Nat) : Int) from by omega, bZ_sh (show (q + 1).toNat < 32 by omega)]
  refine lv_ior zx zb dX5_add_38 ?_
  rw [bZ_or (B w (z + 1).toNat) (fun i => i == (q + 1).toNat)]
  refine a_istM (n := 101) (F := (bG B) w) (wr := (a 0, .inr (5, [.ref (a 1), .ref (a 2), .int (iI (n : Int))])) :: (a 1, cG g 50 r) :: (a 2, cI g 50 Cn) :: (sGx g r 50 101 (bG B) w)) zC h (pm fun cp_q => by simp only [cp_o, List.countP_append, List.countP_nil, (sG_split (g := g) (r := r) (len := 101) (F := bG B) (show w < 50 by omega)).countP_eq cp_q] <;> omega) (x := bZ fun i => (B w (z + 1).toNat) i || i == (q + 1).toNat) ((z + 1).toNat) (ws' := (a 0, .inr (5, [.ref (a 1), .ref (a 2), .int (iI (n : Int))])) :: (a 1, cG g 50 r) :: (a 2, cI g 50 Cn) :: (sG g r 50 101 (pV (bG B) w ((z + 1).toNat) (bZ fun i => (B w (z + 1).toNat) i || i == (q + 1).toNat)))) (pm fun cp_q => by simp only [cp_o, List.countP_append, List.countP_nil, (sG_putV (g := g) (r := r) (len := 101) (F := bG B) (k := ((z + 1).toNat)) (x := (bZ fun i => (B w (z + 1).toNat) i || i == (q + 1).toNat)) (show w < 50 by omega)).countP_eq cp_q] <;> omega) (by omega) (by omega) (by decide) dX5_add_39 (fun H locs h => ?_)
  refine lv_aload_n zx zb dX5_add_40 rfl (lv_at hl 0 rfl) ?_
  refine gf5_16 (v := .ref (a 2)) zC h 0 rfl rfl dX5_add_41 ?_
  refine lv_iload_n zx zb dX5_add_44 rfl (lv_at hl 1 rfl) ?_
  refine lv_dup2_11 zx zb dX5_add_45 rfl rfl ?_
  refine a_ild zC h 2 rfl (z := (w : Int)) w (by omega) (by omega) (by decide) dX5_add_46 ?_
  refine lv_iconst (v := iI (1)) zx zb dX5_add_47 rfl ?_
  refine i_add zC (a := Cn w) (b := 1) dX5_add_48 ?_
  refine a_ist (x := Cn w + 1) zC h 2 (ws' := (a 0, .inr (5, [.ref (a 1), .ref (a 2), .int (iI (n : Int))])) :: (a 1, cG g 50 r) :: (a 2, cI g 50 (up Cn w (Cn w + 1))) :: (sG g r 50 101 (pV (bG B) w ((z + 1).toNat) (bZ fun i => (B w (z + 1).toNat) i || i == (q + 1).toNat)))) rfl (z := (w : Int)) w rfl (by omega) (by omega) (by decide) dX5_add_49 (fun H locs h => ?_)
  refine lv_aload_n zx zb dX5_add_50 rfl (lv_at hl 0 rfl) ?_
  refine lv_dup zx zb dX5_add_51 rfl ?_
  refine gf5_20 (v := .int (iI (n : Int))) zC h 0 rfl rfl dX5_add_52 ?_
  refine lv_iconst (v := iI (1)) zx zb dX5_add_55 rfl ?_
  refine i_add zC (a := (n : Int)) (b := 1) dX5_add_56 ?_
  refine pf5_20 (x := iI ((n : Int) + 1)) zC h 0 (ws' := (a 0, .inr (5, [.ref (a 1), .ref (a 2), .int (iI ((n : Int) + 1))])) :: (a 1, cG g 50 r) :: (a 2, cI g 50 (up Cn w (Cn w + 1))) :: (sG g r 50 101 (pV (bG B) w ((z + 1).toNat) (bZ fun i => (B w (z + 1).toNat) i || i == (q + 1).toNat)))) rfl rfl (Nat.le_of_ble_eq_true rfl) dX5_add_57 (fun H locs h => ?_)
  exact r_vret zC zQ zr zk h dX5_add_60 (u := ()) rfl (List.Perm.of_eq (by rw [bG_add]; rfl)) trivial (Nat.le_of_ble_eq_true rfl) (Nat.le_of_ble_eq_true rfl)

set_option maxHeartbeats 4000000 in
set_option maxRecDepth 100000 in
theorem c_X5_letSee (l : Launch) (D : va_G) (g : Nat → ClassId) (a r : Nat → Nat) (n : Nat) (B : Nat → Nat → Nat → Bool) (Cn : Nat → Int) (w o k : Nat) (hw : w < 50) (ho : o < 100) (hk : k < 20) : Ct (S := Unit) l D g yX5_letSee cX5_letSee 5 (some .boolean) rmX5_letSee [.ref (a 0), .int (iI (w : Int)), .int (iI (o : Int)), .int (iI (k : Int))] (wRights g a r n B Cn) (fun u => some (.int (bI (B w 0 0 || B w (o + 1) 0 || (B w 0 (k + 1) || B w (o + 1) (k + 1)))))) (fun _ => True) (fun u => wRights g a r n B Cn) := by
  refine Ct.of RX5 rfl (by decide +kernel) [(0, .ref (a 0)), (1, .int (iI (w : Int))), (2, .int (iI (o : Int))), (3, .int (iI (k : Int)))] rfl (Nat.le_of_ble_eq_true rfl) ?_
  intro pg evn sT mI bl mtd cd aA ls ar qQ zC zr zk zi zQ h hl
  have zx := zC.1
  have zb := zC.2.1
  have h : Hx D g sT aA sT.heap ((a 0, .inr (5, [.ref (a 1), .ref (a 2), .int (iI (n : Int))])) :: (a 1, cG g 50 r) :: (a 2, cI g 50 Cn) :: (sG g r 50 101 (bG B))) sT.heap [] := h
  skip
  refine lv_aload_n zx zb dX5_letSee_0 rfl (lv_at hl 0 rfl) ?_
  refine lv_iload_n zx zb dX5_letSee_1 rfl (lv_at hl 1 rfl) ?_
  refine lv_iconst (v := iI (-1)) zx zb dX5_letSee_2 rfl ?_
  refine r_invV (As := [.int (iI (w : Int)), .int (iI (-1))]) (rest := []) (wr := []) (ws2 := fun u_1 => (a 0, .inr (5, [.ref (a 1), .ref (a 2), .int (iI (n : Int))])) :: (a 1, cG g 50 r) :: (a 2, cI g 50 Cn) :: (sG g r 50 101 (bG B))) 0 0 zC h hl.1 (c_X5_kindsOf l D g a r n B Cn w (-1) hw (by omega)) (cs5_24 zC ⟨(Nat.le_of_ble_eq_true rfl), (Nat.le_of_ble_eq_true rfl)⟩) (.head _) rfl rfl rfl (Nat.le_of_ble_eq_true rfl) (List.Perm.of_eq (List.append_nil _).symm) (fun u => List.Perm.of_eq (List.append_nil _)) ⟨(Nat.le_of_ble_eq_true rfl), (Nat.le_of_ble_eq_true rfl)⟩ (Nat.le_of_ble_eq_true rfl) (Nat.le_of_ble_eq_true rfl) dX5_letSee_3 (fun u_1 H locs hu_1 hz_1 h => ?_)
  refine lv_aload_n zx zb dX5_letSee_6 rfl (lv_at hl 0 rfl) ?_
  refine lv_iload_n zx zb dX5_letSee_7 rfl (lv_at hl 1 rfl) ?_
  refine lv_iload_n zx zb dX5_letSee_8 rfl (lv_at hl 2 rfl) ?_
  refine r_invV (As := [.int (iI (w : Int)), .int (iI (o : Int))]) (rest := [.int (iI (bZ (B w 0)))]) (wr := []) (ws2 := fun u_2 => (a 0, .inr (5, [.ref (a 1), .ref (a 2), .int (iI (n : Int))])) :: (a 1, cG g 50 r) :: (a 2, cI g 50 Cn) :: (sG g r 50 101 (bG B))) 0 0 zC h hl.1 (c_X5_kindsOf l D g a r n B Cn w (o : Int) hw (by omega)) (cs5_24 zC ⟨(Nat.le_of_ble_eq_true rfl), (Nat.le_of_ble_eq_true rfl)⟩) (.head _) rfl rfl rfl (Nat.le_of_ble_eq_true rfl) (List.Perm.of_eq (List.append_nil _).symm) (fun u => List.Perm.of_eq (List.append_nil _)) ⟨(Nat.le_of_ble_eq_true rfl), (Nat.le_of_ble_eq_true rfl)⟩ (Nat.le_of_ble_eq_true rfl) (Nat.le_of_ble_eq_true rfl) dX5_letSee_9 (fun u_2 H locs hu_2 hz_2 h => ?_)
  rw [show ((o : Int) + 1).toNat = o + 1 from by omega]
  refine lv_ior zx zb dX5_letSee_12 ?_
  rw [bZ_or (B w 0) (B w (o + 1))]
  refine lv_istore (lv' := [(4, .int (iI (bZ fun i => (B w 0) i || (B w (o + 1)) i))), (0, .ref (a 0)), (1, .int (iI (w : Int))), (2, .int (iI (o : Int))), (3, .int (iI (k : Int)))]) zx zb dX5_letSee_13 hl (by decide) rfl (fun ls hl => ?_)
  refine lv_iload zx zb dX5_letSee_15 (lv_at hl 0 rfl) ?_
  refine lv_iconst (v := iI (1)) zx zb dX5_letSee_17 rfl ?_
  refine lv_iconst (v := iI (1)) zx zb dX5_letSee_18 rfl ?_
  refine lv_iload_n zx zb dX5_letSee_19 rfl (lv_at hl 4 rfl) ?_
  refine lv_iconst (v := iI (1)) zx zb dX5_letSee_20 rfl ?_
  refine i_add zC (a := (k : Int)) (b := 1) dX5_letSee_21 ?_
  refine lv_ishl zx zb dX5_letSee_22 ?_
  rw [show ((k : Int) + 1 : Int) = ((k + 1 : Nat) : Int) from by omega, bZ_sh (show k + 1 < 32 by omega)]
  rw [bZ_1]
  refine lv_ior zx zb dX5_letSee_23 ?_
  rw [bZ_or (fun i => i == 0) (fun i => i == k + 1)]
  refine lv_iand zx zb dX5_letSee_24 ?_
  rw [bZ_and (fun i => B w 0 i || B w (o + 1) i) (fun i => i == 0 || i == k + 1)]
  refine i_zeq (a := bZ fun i => (B w 0 i || B w (o + 1) i) && (i == 0 || i == k + 1)) (tgt := 32) zC dX5_letSee_25 (by decide) (bZ_R _) (fun c_3 => ?_) (fun c_3 => ?_)
  · skip
    refine lv_iconst (v := iI (0)) zx zb dX5_letSee_32 rfl ?_
    exact r_zret (b := false) zC zQ zr zk h dX5_letSee_33 rfl (u := ()) (by rw [(see_mask hk).mp c_3]; rfl) (List.Perm.refl _) trivial (Nat.le_of_ble_eq_true rfl) (Nat.le_of_ble_eq_true rfl)
  · skip
    refine lv_iconst (v := iI (1)) zx zb dX5_letSee_28 rfl ?_
    refine lv_goto (tgt := 33) zx zb dX5_letSee_29 (by decide) ?_
    exact r_zret (b := true) zC zQ zr zk h dX5_letSee_33 rfl (u := ()) (by rw [bnf (mt (see_mask hk).mpr c_3)]; rfl) (List.Perm.refl _) trivial (Nat.le_of_ble_eq_true rfl) (Nat.le_of_ble_eq_true rfl)
end
section
/-! KEPT, QUESTION -/
theorem lI_div {a b : Int} (ha : 0 ≤ a ∧ a < 4611686018427387904) (hb : 0 < b ∧ b < 4611686018427387904) : lI a / lI b = lI (a / b) := by
  obtain ⟨x, rfl⟩ := Int.eq_ofNat_of_zero_le ha.1
  obtain ⟨y, rfl⟩ := Int.eq_ofNat_of_zero_le (Int.le_of_lt hb.1)
  have e : ∀ n : Nat, n < 9223372036854775808 → lI (n : Int) = lN n := fun n hn => by
    apply Int64.toInt_inj.mp
    rw [lI_toInt (by constructor <;> omega), pk_lT (by omega)]
  have h := pk_lDiv (a := x) (b := y) (by omega) (by omega) (by omega)
  have hd : x / y ≤ x := Nat.div_le_self x y
  rw [e x (by omega), e y (by omega), h, ← e _ (by omega)]
  rfl
def wKept (k : Nat) (q : Nat) (ev nx lc : Int) : va_W := [(k, .inr (2, [.ref q, .long (lI ev), .long (lI nx), .int (iI lc)]))]
def passU (ev nx t : Int) : Int × Int := if t < nx then (0, nx) else ((t - nx) / ev + 1, nx + ((t - nx) / ev + 1) * ev)
noncomputable def wQ (g : Nat → ClassId) (a : Nat → Nat) (ST TF TR TN : Nat → Int) (sc tc : Nat) (fl : Nat → Bool) (tl tf aw : Nat) : va_W :=
  [(a 0, .inr (3, [.ref (a 1), .ref (a 2), .ref (a 3), .ref (a 4), .int (iI (sc : Int)), .int (iI (tc : Int)), .int (iI (bZ fl)), .int (iI (tl : Int)), .int (iI (tf : Int)), .int (iI (aw : Int))])), (a 1, cI g 200 ST), (a 2, cI g 40 TF), (a 3, cC g 40 TR), (a 4, cI g 40 TN)]
/-- a test's truth of a value -/
def tstV (r v x : Int) : Bool := if r = 61 then decide (v = x) else if r = 60 then decide (v < x) else decide (x < v)
def bAdd1 (fl : Nat → Bool) (k : Nat) : Nat → Bool := fun i => fl i || i == k

set_option maxHeartbeats 4000000 in
set_option maxRecDepth 100000 in
theorem c_X2_question (l : Launch) (D : va_G) (g : Nat → ClassId) (k q : Nat) (ev nx lc : Int) : Ct (S := Unit) l D g yX2_question cX2_question 1 (some (.object "TraceQuestions$Question")) rmX2_question [.ref k] (wKept k q ev nx lc) (fun u => some (.ref q)) (fun _ => True) (fun u => wKept k q ev nx lc) := by
  refine Ct.of RX2 rfl (by decide +kernel) [(0, .ref k)] rfl (Nat.le_of_ble_eq_true rfl) ?_
  intro pg evn sT mI bl mtd cd aA ls ar qQ zC zr zk zi zQ h hl
  have zx := zC.1
  have zb := zC.2.1
  have h : Hx D g sT aA sT.heap ([(k, .inr (2, [.ref q, .long (lI ev), .long (lI nx), .int (iI lc)]))]) sT.heap [] := h
  skip
  refine lv_aload_n zx zb dX2_question_0 rfl (lv_at hl 0 rfl) ?_
  refine gf2_15 (v := .ref q) zC h 0 rfl rfl dX2_question_1 ?_
  exact r_aret zC zQ zr zk h dX2_question_4 (u := ()) rfl (List.Perm.refl _) trivial (Nat.le_of_ble_eq_true rfl) (Nat.le_of_ble_eq_true rfl)

set_option maxHeartbeats 4000000 in
set_option maxRecDepth 100000 in
theorem c_X2_latestCount (l : Launch) (D : va_G) (g : Nat → ClassId) (k q : Nat) (ev nx lc : Int) : Ct (S := Unit) l D g yX2_latestCount cX2_latestCount 1 (some .int) rmX2_latestCount [.ref k] (wKept k q ev nx lc) (fun u => some (.int (iI lc))) (fun _ => True) (fun u => wKept k q ev nx lc) := by
  refine Ct.of RX2 rfl (by decide +kernel) [(0, .ref k)] rfl (Nat.le_of_ble_eq_true rfl) ?_
  intro pg evn sT mI bl mtd cd aA ls ar qQ zC zr zk zi zQ h hl
  have zx := zC.1
  have zb := zC.2.1
  have h : Hx D g sT aA sT.heap ([(k, .inr (2, [.ref q, .long (lI ev), .long (lI nx), .int (iI lc)]))]) sT.heap [] := h
  skip
  refine lv_aload_n zx zb dX2_latestCount_0 rfl (lv_at hl 0 rfl) ?_
  refine gf2_9 (v := .int (iI lc)) zC h 0 rfl rfl dX2_latestCount_1 ?_
  exact r_iret zC zQ zr zk h dX2_latestCount_4 (u := ()) rfl (List.Perm.refl _) trivial (Nat.le_of_ble_eq_true rfl) (Nat.le_of_ble_eq_true rfl)

set_option maxHeartbeats 4000000 in
set_option maxRecDepth 100000 in
theorem c_X2_setLatestCount (l : Launch) (D : va_G) (g : Nat → ClassId) (k q : Nat) (ev nx lc : Int) (x : Int) : Ct (S := Unit) l D g yX2_setLatestCount cX2_setLatestCount 2 none rmX2_setLatestCount [.ref k, .int (iI x)] (wKept k q ev nx lc) (fun u => none) (fun _ => True) (fun u => wKept k q ev nx x) := by
  refine Ct.of RX2 rfl (by decide +kernel) [(0, .ref k), (1, .int (iI x))] rfl (Nat.le_of_ble_eq_true rfl) ?_
  intro pg evn sT mI bl mtd cd aA ls ar qQ zC zr zk zi zQ h hl
  have zx := zC.1
  have zb := zC.2.1
  have h : Hx D g sT aA sT.heap ([(k, .inr (2, [.ref q, .long (lI ev), .long (lI nx), .int (iI lc)]))]) sT.heap [] := h
  skip
  refine lv_aload_n zx zb dX2_setLatestCount_0 rfl (lv_at hl 0 rfl) ?_
  refine lv_iload_n zx zb dX2_setLatestCount_1 rfl (lv_at hl 1 rfl) ?_
  refine pf2_9 (x := iI x) zC h 0 (ws' := [(k, .inr (2, [.ref q, .long (lI ev), .long (lI nx), .int (iI x)]))]) rfl rfl (Nat.le_of_ble_eq_true rfl) dX2_setLatestCount_2 (fun H locs h => ?_)
  exact r_vret zC zQ zr zk h dX2_setLatestCount_5 (u := ()) rfl (List.Perm.refl _) trivial (Nat.le_of_ble_eq_true rfl) (Nat.le_of_ble_eq_true rfl)

set_option maxHeartbeats 4000000 in
set_option maxRecDepth 100000 in
theorem c_X2_init (l : Launch) (D : va_G) (g : Nat → ClassId) (k q : Nat) (e0 n0 : Int) : Ct (S := Unit) l D g yX2_init cX2_init 6 none rmX2_init [.ref k, .ref q, .long (lI e0), .long (lI n0)] ([(k, .inr (2, [.null, .long (lI 0), .long (lI 0), .int (iI 0)]))]) (fun u => none) (fun _ => True) (fun u => wKept k q e0 n0 (-1)) := by
  refine Ct.of RX2 rfl (by decide +kernel) [(0, .ref k), (1, .ref q), (2, .long (lI e0)), (4, .long (lI n0))] rfl (Nat.le_of_ble_eq_true rfl) ?_
  intro pg evn sT mI bl mtd cd aA ls ar qQ zC zr zk zi zQ h hl
  have zx := zC.1
  have zb := zC.2.1
  skip
  refine lv_aload_n zx zb dX2_init_0 rfl (lv_at hl 0 rfl) ?_
  refine oi2 zC hl.1 dX2_init_1 (Nat.le_of_ble_eq_true rfl) (Nat.le_of_ble_eq_true rfl) ?_
  refine lv_aload_n zx zb dX2_init_4 rfl (lv_at hl 0 rfl) ?_
  refine lv_iconst (v := iI (-1)) zx zb dX2_init_5 rfl ?_
  refine pf2_9 (x := iI (-1)) zC h 0 (ws' := [(k, .inr (2, [.null, .long (lI 0), .long (lI 0), .int (iI (-1))]))]) rfl rfl (Nat.le_of_ble_eq_true rfl) dX2_init_6 (fun H locs h => ?_)
  refine lv_aload_n zx zb dX2_init_9 rfl (lv_at hl 0 rfl) ?_
  refine lv_aload_n zx zb dX2_init_10 rfl (lv_at hl 1 rfl) ?_
  refine pf2_15 (x := q) zC h 0 (ws' := [(k, .inr (2, [.ref q, .long (lI 0), .long (lI 0), .int (iI (-1))]))]) rfl rfl (Nat.le_of_ble_eq_true rfl) zi dX2_init_11 (fun H locs h => ?_)
  refine lv_aload_n zx zb dX2_init_14 rfl (lv_at hl 0 rfl) ?_
  refine lv_lload_n zx zb dX2_init_15 rfl (lv_at hl 2 rfl) ?_
  refine pf2_19 (x := lI e0) zC h 0 (ws' := [(k, .inr (2, [.ref q, .long (lI e0), .long (lI 0), .int (iI (-1))]))]) rfl rfl (Nat.le_of_ble_eq_true rfl) zi dX2_init_16 (fun H locs h => ?_)
  refine lv_aload_n zx zb dX2_init_19 rfl (lv_at hl 0 rfl) ?_
  refine lv_lload zx zb dX2_init_20 (lv_at hl 3 rfl) ?_
  refine pf2_23 (x := lI n0) zC h 0 (ws' := [(k, .inr (2, [.ref q, .long (lI e0), .long (lI n0), .int (iI (-1))]))]) rfl rfl (Nat.le_of_ble_eq_true rfl) dX2_init_22 (fun H locs h => ?_)
  exact r_vret zC zQ zr zk h dX2_init_25 (u := ()) rfl (List.Perm.refl _) trivial (Nat.le_of_ble_eq_true rfl) (Nat.le_of_ble_eq_true rfl)

set_option maxHeartbeats 4000000 in
set_option maxRecDepth 100000 in
theorem c_X2_passTo (l : Launch) (D : va_G) (g : Nat → ClassId) (k q : Nat) (ev nx lc : Int) (t : Int) (he : 1 ≤ ev ∧ ev ≤ 1000) (hn : 0 ≤ nx ∧ nx < 1000000000) (ht : 0 ≤ t ∧ t < 1000000000) : Ct (S := Int × Int) l D g yX2_passTo cX2_passTo 5 (some .int) rmX2_passTo [.ref k, .long (lI t)] (wKept k q ev nx lc) (fun u => some (.int (iI u.1))) (fun u => u = passU ev nx t) (fun u => wKept k q ev u.2 lc) := by
  refine Ct.of RX2 rfl (by decide +kernel) [(0, .ref k), (1, .long (lI t))] rfl (Nat.le_of_ble_eq_true rfl) ?_
  intro pg evn sT mI bl mtd cd aA ls ar qQ zC zr zk zi zQ h hl
  have zx := zC.1
  have zb := zC.2.1
  have h : Hx D g sT aA sT.heap ([(k, .inr (2, [.ref q, .long (lI ev), .long (lI nx), .int (iI lc)]))]) sT.heap [] := h
  skip
  refine lv_aload_n zx zb dX2_passTo_0 rfl (lv_at hl 0 rfl) ?_
  refine gf2_19 (v := .long (lI ev)) zC h 0 rfl rfl dX2_passTo_1 ?_
  refine lv_lconst (v := lI 1) zx zb dX2_passTo_4 rfl ?_
  refine l_cmp zC (a := ev) (b := 1) dX2_passTo_5 (by omega) (by omega) ?_
  refine i_zlt (a := lC ev 1) (tgt := 18) zC dX2_passTo_6 (by decide) (lC_R _ _) (fun c_1 => absurd (lC_lt.mp c_1) (by omega)) (fun c_1 => ?_)
  have c_1 := lC_ge.mp c_1
  refine lv_lload_n zx zb dX2_passTo_9 rfl (lv_at hl 1 rfl) ?_
  refine lv_aload_n zx zb dX2_passTo_10 rfl (lv_at hl 0 rfl) ?_
  refine gf2_23 (v := .long (lI nx)) zC h 0 rfl rfl dX2_passTo_11 ?_
  refine l_cmp zC (a := t) (b := nx) dX2_passTo_14 (by omega) (by omega) ?_
  refine i_zge (a := lC t nx) (tgt := 20) zC dX2_passTo_15 (by decide) (lC_R _ _) (fun c_2 => ?_) (fun c_2 => ?_)
  · have c_2 := lC_ge.mp c_2
    refine lv_lload_n zx zb dX2_passTo_20 rfl (lv_at hl 1 rfl) ?_
    refine lv_aload_n zx zb dX2_passTo_21 rfl (lv_at hl 0 rfl) ?_
    refine gf2_23 (v := .long (lI nx)) zC h 0 rfl rfl dX2_passTo_22 ?_
    refine l_sub zC (a := t) (b := nx) dX2_passTo_25 ?_
    refine lv_aload_n zx zb dX2_passTo_26 rfl (lv_at hl 0 rfl) ?_
    refine gf2_19 (v := .long (lI ev)) zC h 0 rfl rfl dX2_passTo_27 ?_
    refine lv_ldiv zx zb dX2_passTo_30 (fun z => absurd ((lI_eq (a := ev) (b := 0) (by omega) (by decide)).mp z) (by omega)) ?_
    rw [lI_div (by omega) (by omega)]
    refine lv_lconst (v := lI 1) zx zb dX2_passTo_31 rfl ?_
    refine l_add zC (a := (t - nx) / ev) (b := 1) dX2_passTo_32 ?_
    refine lv_lstore_n (lv' := [(3, .long (lI ((t - nx) / ev + 1))), (0, .ref k), (1, .long (lI t))]) zx zb dX2_passTo_33 rfl hl (by decide) rfl (fun ls hl => ?_)
    refine lv_aload_n zx zb dX2_passTo_34 rfl (lv_at hl 1 rfl) ?_
    refine lv_dup zx zb dX2_passTo_35 rfl ?_
    refine gf2_23 (v := .long (lI nx)) zC h 0 rfl rfl dX2_passTo_36 ?_
    refine lv_lload_n zx zb dX2_passTo_39 rfl (lv_at hl 0 rfl) ?_
    refine lv_aload_n zx zb dX2_passTo_40 rfl (lv_at hl 1 rfl) ?_
    refine gf2_19 (v := .long (lI ev)) zC h 0 rfl rfl dX2_passTo_41 ?_
    refine l_mul zC (a := (t - nx) / ev + 1) (b := ev) dX2_passTo_44 ?_
    refine l_add zC (a := nx) (b := ((t - nx) / ev + 1) * ev) dX2_passTo_45 ?_
    refine pf2_23 (x := lI (nx + (((t - nx) / ev + 1) * ev))) zC h 0 (ws' := [(k, .inr (2, [.ref q, .long (lI ev), .long (lI (nx + (((t - nx) / ev + 1) * ev))), .int (iI lc)]))]) rfl rfl (Nat.le_of_ble_eq_true rfl) dX2_passTo_46 (fun H locs h => ?_)
    refine lv_lload_n zx zb dX2_passTo_49 rfl (lv_at hl 0 rfl) ?_
    refine l_l2i zC (a := (t - nx) / ev + 1) dX2_passTo_50 ?_
    exact r_iret zC zQ zr zk h dX2_passTo_51 (u := ((t - nx) / ev + 1, nx + ((t - nx) / ev + 1) * ev)) rfl (List.Perm.refl _) (by unfold passU; rw [if_neg (by omega)]) (Nat.le_of_ble_eq_true rfl) (Nat.le_of_ble_eq_true rfl)
  · have c_2 := lC_lt.mp c_2
    refine lv_iconst (v := iI (0)) zx zb dX2_passTo_18 rfl ?_
    exact r_iret zC zQ zr zk h dX2_passTo_19 (u := (0, nx)) rfl (List.Perm.refl _) (by unfold passU; rw [if_pos (by omega)]) (Nat.le_of_ble_eq_true rfl) (Nat.le_of_ble_eq_true rfl)

set_option maxHeartbeats 4000000 in
set_option maxRecDepth 100000 in
theorem c_X3_asker (l : Launch) (D : va_G) (g : Nat → ClassId) (a : Nat → Nat) (ST TF TR TN : Nat → Int) (sc tc : Nat) (fl : Nat → Bool) (tl tf aw : Nat) : Ct (S := Unit) l D g yX3_asker cX3_asker 1 (some .int) rmX3_asker [.ref (a 0)] (wQ g a ST TF TR TN sc tc fl tl tf aw) (fun u => some (.int (iI (aw : Int)))) (fun _ => True) (fun u => wQ g a ST TF TR TN sc tc fl tl tf aw) := by
  refine Ct.of RX3 rfl (by decide +kernel) [(0, .ref (a 0))] rfl (Nat.le_of_ble_eq_true rfl) ?_
  intro pg evn sT mI bl mtd cd aA ls ar qQ zC zr zk zi zQ h hl
  have zx := zC.1
  have zb := zC.2.1
  have h : Hx D g sT aA sT.heap ([(a 0, .inr (3, [.ref (a 1), .ref (a 2), .ref (a 3), .ref (a 4), .int (iI (sc : Int)), .int (iI (tc : Int)), .int (iI (bZ fl)), .int (iI (tl : Int)), .int (iI (tf : Int)), .int (iI (aw : Int))])), (a 1, cI g 200 ST), (a 2, cI g 40 TF), (a 3, cC g 40 TR), (a 4, cI g 40 TN)]) sT.heap [] := h
  skip
  refine lv_aload_n zx zb dX3_asker_0 rfl (lv_at hl 0 rfl) ?_
  refine gf3_41 (v := .int (iI (aw : Int))) zC h 0 rfl rfl dX3_asker_1 ?_
  exact r_iret zC zQ zr zk h dX3_asker_4 (u := ()) rfl (List.Perm.refl _) trivial (Nat.le_of_ble_eq_true rfl) (Nat.le_of_ble_eq_true rfl)

set_option maxHeartbeats 4000000 in
set_option maxRecDepth 100000 in
theorem c_X3_tests (l : Launch) (D : va_G) (g : Nat → ClassId) (a : Nat → Nat) (ST TF TR TN : Nat → Int) (sc tc : Nat) (fl : Nat → Bool) (tl tf aw : Nat) : Ct (S := Unit) l D g yX3_tests cX3_tests 1 (some .int) rmX3_tests [.ref (a 0)] (wQ g a ST TF TR TN sc tc fl tl tf aw) (fun u => some (.int (iI (tc : Int)))) (fun _ => True) (fun u => wQ g a ST TF TR TN sc tc fl tl tf aw) := by
  refine Ct.of RX3 rfl (by decide +kernel) [(0, .ref (a 0))] rfl (Nat.le_of_ble_eq_true rfl) ?_
  intro pg evn sT mI bl mtd cd aA ls ar qQ zC zr zk zi zQ h hl
  have zx := zC.1
  have zb := zC.2.1
  have h : Hx D g sT aA sT.heap ([(a 0, .inr (3, [.ref (a 1), .ref (a 2), .ref (a 3), .ref (a 4), .int (iI (sc : Int)), .int (iI (tc : Int)), .int (iI (bZ fl)), .int (iI (tl : Int)), .int (iI (tf : Int)), .int (iI (aw : Int))])), (a 1, cI g 200 ST), (a 2, cI g 40 TF), (a 3, cC g 40 TR), (a 4, cI g 40 TN)]) sT.heap [] := h
  skip
  refine lv_aload_n zx zb dX3_tests_0 rfl (lv_at hl 0 rfl) ?_
  refine gf3_29 (v := .int (iI (tc : Int))) zC h 0 rfl rfl dX3_tests_1 ?_
  exact r_iret zC zQ zr zk h dX3_tests_4 (u := ()) rfl (List.Perm.refl _) trivial (Nat.le_of_ble_eq_true rfl) (Nat.le_of_ble_eq_true rfl)

set_option maxHeartbeats 4000000 in
set_option maxRecDepth 100000 in
theorem c_X3_tail (l : Launch) (D : va_G) (g : Nat → ClassId) (a : Nat → Nat) (ST TF TR TN : Nat → Int) (sc tc : Nat) (fl : Nat → Bool) (tl tf aw : Nat) : Ct (S := Unit) l D g yX3_tail cX3_tail 1 (some .int) rmX3_tail [.ref (a 0)] (wQ g a ST TF TR TN sc tc fl tl tf aw) (fun u => some (.int (iI (tl : Int)))) (fun _ => True) (fun u => wQ g a ST TF TR TN sc tc fl tl tf aw) := by
  refine Ct.of RX3 rfl (by decide +kernel) [(0, .ref (a 0))] rfl (Nat.le_of_ble_eq_true rfl) ?_
  intro pg evn sT mI bl mtd cd aA ls ar qQ zC zr zk zi zQ h hl
  have zx := zC.1
  have zb := zC.2.1
  have h : Hx D g sT aA sT.heap ([(a 0, .inr (3, [.ref (a 1), .ref (a 2), .ref (a 3), .ref (a 4), .int (iI (sc : Int)), .int (iI (tc : Int)), .int (iI (bZ fl)), .int (iI (tl : Int)), .int (iI (tf : Int)), .int (iI (aw : Int))])), (a 1, cI g 200 ST), (a 2, cI g 40 TF), (a 3, cC g 40 TR), (a 4, cI g 40 TN)]) sT.heap [] := h
  skip
  refine lv_aload_n zx zb dX3_tail_0 rfl (lv_at hl 0 rfl) ?_
  refine gf3_35 (v := .int (iI (tl : Int))) zC h 0 rfl rfl dX3_tail_1 ?_
  exact r_iret zC zQ zr zk h dX3_tail_4 (u := ()) rfl (List.Perm.refl _) trivial (Nat.le_of_ble_eq_true rfl) (Nat.le_of_ble_eq_true rfl)

set_option maxHeartbeats 4000000 in
set_option maxRecDepth 100000 in
theorem c_X3_tailField (l : Launch) (D : va_G) (g : Nat → ClassId) (a : Nat → Nat) (ST TF TR TN : Nat → Int) (sc tc : Nat) (fl : Nat → Bool) (tl tf aw : Nat) : Ct (S := Unit) l D g yX3_tailField cX3_tailField 1 (some .int) rmX3_tailField [.ref (a 0)] (wQ g a ST TF TR TN sc tc fl tl tf aw) (fun u => some (.int (iI (tf : Int)))) (fun _ => True) (fun u => wQ g a ST TF TR TN sc tc fl tl tf aw) := by
  refine Ct.of RX3 rfl (by decide +kernel) [(0, .ref (a 0))] rfl (Nat.le_of_ble_eq_true rfl) ?_
  intro pg evn sT mI bl mtd cd aA ls ar qQ zC zr zk zi zQ h hl
  have zx := zC.1
  have zb := zC.2.1
  have h : Hx D g sT aA sT.heap ([(a 0, .inr (3, [.ref (a 1), .ref (a 2), .ref (a 3), .ref (a 4), .int (iI (sc : Int)), .int (iI (tc : Int)), .int (iI (bZ fl)), .int (iI (tl : Int)), .int (iI (tf : Int)), .int (iI (aw : Int))])), (a 1, cI g 200 ST), (a 2, cI g 40 TF), (a 3, cC g 40 TR), (a 4, cI g 40 TN)]) sT.heap [] := h
  skip
  refine lv_aload_n zx zb dX3_tailField_0 rfl (lv_at hl 0 rfl) ?_
  refine gf3_38 (v := .int (iI (tf : Int))) zC h 0 rfl rfl dX3_tailField_1 ?_
  exact r_iret zC zQ zr zk h dX3_tailField_4 (u := ()) rfl (List.Perm.refl _) trivial (Nat.le_of_ble_eq_true rfl) (Nat.le_of_ble_eq_true rfl)

set_option maxHeartbeats 4000000 in
set_option maxRecDepth 100000 in
theorem c_X3_stepCount (l : Launch) (D : va_G) (g : Nat → ClassId) (a : Nat → Nat) (ST TF TR TN : Nat → Int) (sc tc : Nat) (fl : Nat → Bool) (tl tf aw : Nat) : Ct (S := Unit) l D g yX3_stepCount cX3_stepCount 1 (some .int) rmX3_stepCount [.ref (a 0)] (wQ g a ST TF TR TN sc tc fl tl tf aw) (fun u => some (.int (iI (sc : Int)))) (fun _ => True) (fun u => wQ g a ST TF TR TN sc tc fl tl tf aw) := by
  refine Ct.of RX3 rfl (by decide +kernel) [(0, .ref (a 0))] rfl (Nat.le_of_ble_eq_true rfl) ?_
  intro pg evn sT mI bl mtd cd aA ls ar qQ zC zr zk zi zQ h hl
  have zx := zC.1
  have zb := zC.2.1
  have h : Hx D g sT aA sT.heap ([(a 0, .inr (3, [.ref (a 1), .ref (a 2), .ref (a 3), .ref (a 4), .int (iI (sc : Int)), .int (iI (tc : Int)), .int (iI (bZ fl)), .int (iI (tl : Int)), .int (iI (tf : Int)), .int (iI (aw : Int))])), (a 1, cI g 200 ST), (a 2, cI g 40 TF), (a 3, cC g 40 TR), (a 4, cI g 40 TN)]) sT.heap [] := h
  skip
  refine lv_aload_n zx zb dX3_stepCount_0 rfl (lv_at hl 0 rfl) ?_
  refine gf3_25 (v := .int (iI (sc : Int))) zC h 0 rfl rfl dX3_stepCount_1 ?_
  exact r_iret zC zQ zr zk h dX3_stepCount_4 (u := ()) rfl (List.Perm.refl _) trivial (Nat.le_of_ble_eq_true rfl) (Nat.le_of_ble_eq_true rfl)

set_option maxHeartbeats 4000000 in
set_option maxRecDepth 100000 in
theorem c_X3_fields (l : Launch) (D : va_G) (g : Nat → ClassId) (a : Nat → Nat) (ST TF TR TN : Nat → Int) (sc tc : Nat) (fl : Nat → Bool) (tl tf aw : Nat) : Ct (S := Unit) l D g yX3_fields cX3_fields 1 (some .int) rmX3_fields [.ref (a 0)] (wQ g a ST TF TR TN sc tc fl tl tf aw) (fun u => some (.int (iI (bZ fl)))) (fun _ => True) (fun u => wQ g a ST TF TR TN sc tc fl tl tf aw) := by
  refine Ct.of RX3 rfl (by decide +kernel) [(0, .ref (a 0))] rfl (Nat.le_of_ble_eq_true rfl) ?_
  intro pg evn sT mI bl mtd cd aA ls ar qQ zC zr zk zi zQ h hl
  have zx := zC.1
  have zb := zC.2.1
  have h : Hx D g sT aA sT.heap ([(a 0, .inr (3, [.ref (a 1), .ref (a 2), .ref (a 3), .ref (a 4), .int (iI (sc : Int)), .int (iI (tc : Int)), .int (iI (bZ fl)), .int (iI (tl : Int)), .int (iI (tf : Int)), .int (iI (aw : Int))])), (a 1, cI g 200 ST), (a 2, cI g 40 TF), (a 3, cC g 40 TR), (a 4, cI g 40 TN)]) sT.heap [] := h
  skip
  refine lv_aload_n zx zb dX3_fields_0 rfl (lv_at hl 0 rfl) ?_
  refine gf3_32 (v := .int (iI (bZ fl))) zC h 0 rfl rfl dX3_fields_1 ?_
  exact r_iret zC zQ zr zk h dX3_fields_4 (u := ()) rfl (List.Perm.refl _) trivial (Nat.le_of_ble_eq_true rfl) (Nat.le_of_ble_eq_true rfl)

set_option maxHeartbeats 4000000 in
set_option maxRecDepth 100000 in
theorem c_X3_clear (l : Launch) (D : va_G) (g : Nat → ClassId) (a : Nat → Nat) (ST TF TR TN : Nat → Int) (sc tc : Nat) (fl : Nat → Bool) (tl tf aw : Nat) : Ct (S := Unit) l D g yX3_clear cX3_clear 1 none rmX3_clear [.ref (a 0)] (wQ g a ST TF TR TN sc tc fl tl tf aw) (fun u => none) (fun _ => True) (fun u => wQ g a ST TF TR TN 0 0 (fun _ => false) 0 0 aw) := by
  refine Ct.of RX3 rfl (by decide +kernel) [(0, .ref (a 0))] rfl (Nat.le_of_ble_eq_true rfl) ?_
  intro pg evn sT mI bl mtd cd aA ls ar qQ zC zr zk zi zQ h hl
  have zx := zC.1
  have zb := zC.2.1
  have h : Hx D g sT aA sT.heap ([(a 0, .inr (3, [.ref (a 1), .ref (a 2), .ref (a 3), .ref (a 4), .int (iI (sc : Int)), .int (iI (tc : Int)), .int (iI (bZ fl)), .int (iI (tl : Int)), .int (iI (tf : Int)), .int (iI (aw : Int))])), (a 1, cI g 200 ST), (a 2, cI g 40 TF), (a 3, cC g 40 TR), (a 4, cI g 40 TN)]) sT.heap [] := h
  skip
  refine lv_aload_n zx zb dX3_clear_0 rfl (lv_at hl 0 rfl) ?_
  refine lv_iconst (v := iI (0)) zx zb dX3_clear_1 rfl ?_
  refine pf3_25 (x := iI 0) zC h 0 (ws' := [(a 0, .inr (3, [.ref (a 1), .ref (a 2), .ref (a 3), .ref (a 4), .int (iI 0), .int (iI (tc : Int)), .int (iI (bZ fl)), .int (iI (tl : Int)), .int (iI (tf : Int)), .int (iI (aw : Int))])), (a 1, cI g 200 ST), (a 2, cI g 40 TF), (a 3, cC g 40 TR), (a 4, cI g 40 TN)]) rfl rfl (Nat.le_of_ble_eq_true rfl) dX3_clear_2 (fun H locs h => ?_)
  refine lv_aload_n zx zb dX3_clear_5 rfl (lv_at hl 0 rfl) ?_
  refine lv_iconst (v := iI (0)) zx zb dX3_clear_6 rfl ?_
  refine pf3_29 (x := iI 0) zC h 0 (ws' := [(a 0, .inr (3, [.ref (a 1), .ref (a 2), .ref (a 3), .ref (a 4), .int (iI 0), .int (iI 0), .int (iI (bZ fl)), .int (iI (tl : Int)), .int (iI (tf : Int)), .int (iI (aw : Int))])), (a 1, cI g 200 ST), (a 2, cI g 40 TF), (a 3, cC g 40 TR), (a 4, cI g 40 TN)]) rfl rfl (Nat.le_of_ble_eq_true rfl) dX3_clear_7 (fun H locs h => ?_)
  refine lv_aload_n zx zb dX3_clear_10 rfl (lv_at hl 0 rfl) ?_
  refine lv_iconst (v := iI (0)) zx zb dX3_clear_11 rfl ?_
  rw [bZ_0]
  refine pf3_32 (x := iI (bZ fun _ => false)) zC h 0 (ws' := [(a 0, .inr (3, [.ref (a 1), .ref (a 2), .ref (a 3), .ref (a 4), .int (iI 0), .int (iI 0), .int (iI (bZ fun _ => false)), .int (iI (tl : Int)), .int (iI (tf : Int)), .int (iI (aw : Int))])), (a 1, cI g 200 ST), (a 2, cI g 40 TF), (a 3, cC g 40 TR), (a 4, cI g 40 TN)]) rfl rfl (Nat.le_of_ble_eq_true rfl) dX3_clear_12 (fun H locs h => ?_)
  refine lv_aload_n zx zb dX3_clear_15 rfl (lv_at hl 0 rfl) ?_
  refine lv_iconst (v := iI (0)) zx zb dX3_clear_16 rfl ?_
  refine pf3_35 (x := iI 0) zC h 0 (ws' := [(a 0, .inr (3, [.ref (a 1), .ref (a 2), .ref (a 3), .ref (a 4), .int (iI 0), .int (iI 0), .int (iI (bZ fun _ => false)), .int (iI 0), .int (iI (tf : Int)), .int (iI (aw : Int))])), (a 1, cI g 200 ST), (a 2, cI g 40 TF), (a 3, cC g 40 TR), (a 4, cI g 40 TN)]) rfl rfl (Nat.le_of_ble_eq_true rfl) dX3_clear_17 (fun H locs h => ?_)
  refine lv_aload_n zx zb dX3_clear_20 rfl (lv_at hl 0 rfl) ?_
  refine lv_iconst (v := iI (0)) zx zb dX3_clear_21 rfl ?_
  refine pf3_38 (x := iI 0) zC h 0 (ws' := [(a 0, .inr (3, [.ref (a 1), .ref (a 2), .ref (a 3), .ref (a 4), .int (iI 0), .int (iI 0), .int (iI (bZ fun _ => false)), .int (iI 0), .int (iI 0), .int (iI (aw : Int))])), (a 1, cI g 200 ST), (a 2, cI g 40 TF), (a 3, cC g 40 TR), (a 4, cI g 40 TN)]) rfl rfl (Nat.le_of_ble_eq_true rfl) dX3_clear_22 (fun H locs h => ?_)
  exact r_vret zC zQ zr zk h dX3_clear_25 (u := ()) rfl (List.Perm.refl _) trivial (Nat.le_of_ble_eq_true rfl) (Nat.le_of_ble_eq_true rfl)

set_option maxHeartbeats 4000000 in
set_option maxRecDepth 100000 in
theorem c_X3_setAsker (l : Launch) (D : va_G) (g : Nat → ClassId) (a : Nat → Nat) (ST TF TR TN : Nat → Int) (sc tc : Nat) (fl : Nat → Bool) (tl tf aw : Nat) (x : Nat) : Ct (S := Unit) l D g yX3_setAsker cX3_setAsker 2 none rmX3_setAsker [.ref (a 0), .int (iI (x : Int))] (wQ g a ST TF TR TN sc tc fl tl tf aw) (fun u => none) (fun _ => True) (fun u => wQ g a ST TF TR TN sc tc fl tl tf x) := by
  refine Ct.of RX3 rfl (by decide +kernel) [(0, .ref (a 0)), (1, .int (iI (x : Int)))] rfl (Nat.le_of_ble_eq_true rfl) ?_
  intro pg evn sT mI bl mtd cd aA ls ar qQ zC zr zk zi zQ h hl
  have zx := zC.1
  have zb := zC.2.1
  have h : Hx D g sT aA sT.heap ([(a 0, .inr (3, [.ref (a 1), .ref (a 2), .ref (a 3), .ref (a 4), .int (iI (sc : Int)), .int (iI (tc : Int)), .int (iI (bZ fl)), .int (iI (tl : Int)), .int (iI (tf : Int)), .int (iI (aw : Int))])), (a 1, cI g 200 ST), (a 2, cI g 40 TF), (a 3, cC g 40 TR), (a 4, cI g 40 TN)]) sT.heap [] := h
  skip
  refine lv_aload_n zx zb dX3_setAsker_0 rfl (lv_at hl 0 rfl) ?_
  refine lv_iload_n zx zb dX3_setAsker_1 rfl (lv_at hl 1 rfl) ?_
  refine pf3_41 (x := iI (x : Int)) zC h 0 (ws' := [(a 0, .inr (3, [.ref (a 1), .ref (a 2), .ref (a 3), .ref (a 4), .int (iI (sc : Int)), .int (iI (tc : Int)), .int (iI (bZ fl)), .int (iI (tl : Int)), .int (iI (tf : Int)), .int (iI (x : Int))])), (a 1, cI g 200 ST), (a 2, cI g 40 TF), (a 3, cC g 40 TR), (a 4, cI g 40 TN)]) rfl rfl (Nat.le_of_ble_eq_true rfl) dX3_setAsker_2 (fun H locs h => ?_)
  exact r_vret zC zQ zr zk h dX3_setAsker_5 (u := ()) rfl (List.Perm.refl _) trivial (Nat.le_of_ble_eq_true rfl) (Nat.le_of_ble_eq_true rfl)

set_option maxHeartbeats 4000000 in
set_option maxRecDepth 100000 in
theorem c_X3_setTail (l : Launch) (D : va_G) (g : Nat → ClassId) (a : Nat → Nat) (ST TF TR TN : Nat → Int) (sc tc : Nat) (fl : Nat → Bool) (tl tf aw : Nat) (x : Nat) : Ct (S := Unit) l D g yX3_setTail cX3_setTail 2 none rmX3_setTail [.ref (a 0), .int (iI (x : Int))] (wQ g a ST TF TR TN sc tc fl tl tf aw) (fun u => none) (fun _ => True) (fun u => wQ g a ST TF TR TN sc tc fl x tf aw) := by
  refine Ct.of RX3 rfl (by decide +kernel) [(0, .ref (a 0)), (1, .int (iI (x : Int)))] rfl (Nat.le_of_ble_eq_true rfl) ?_
  intro pg evn sT mI bl mtd cd aA ls ar qQ zC zr zk zi zQ h hl
  have zx := zC.1
  have zb := zC.2.1
  have h : Hx D g sT aA sT.heap ([(a 0, .inr (3, [.ref (a 1), .ref (a 2), .ref (a 3), .ref (a 4), .int (iI (sc : Int)), .int (iI (tc : Int)), .int (iI (bZ fl)), .int (iI (tl : Int)), .int (iI (tf : Int)), .int (iI (aw : Int))])), (a 1, cI g 200 ST), (a 2, cI g 40 TF), (a 3, cC g 40 TR), (a 4, cI g 40 TN)]) sT.heap [] := h
  skip
  refine lv_aload_n zx zb dX3_setTail_0 rfl (lv_at hl 0 rfl) ?_
  refine lv_iload_n zx zb dX3_setTail_1 rfl (lv_at hl 1 rfl) ?_
  refine pf3_35 (x := iI (x : Int)) zC h 0 (ws' := [(a 0, .inr (3, [.ref (a 1), .ref (a 2), .ref (a 3), .ref (a 4), .int (iI (sc : Int)), .int (iI (tc : Int)), .int (iI (bZ fl)), .int (iI (x : Int)), .int (iI (tf : Int)), .int (iI (aw : Int))])), (a 1, cI g 200 ST), (a 2, cI g 40 TF), (a 3, cC g 40 TR), (a 4, cI g 40 TN)]) rfl rfl (Nat.le_of_ble_eq_true rfl) dX3_setTail_2 (fun H locs h => ?_)
  exact r_vret zC zQ zr zk h dX3_setTail_5 (u := ()) rfl (List.Perm.refl _) trivial (Nat.le_of_ble_eq_true rfl) (Nat.le_of_ble_eq_true rfl)

set_option maxHeartbeats 4000000 in
set_option maxRecDepth 100000 in
theorem c_X3_setTailField (l : Launch) (D : va_G) (g : Nat → ClassId) (a : Nat → Nat) (ST TF TR TN : Nat → Int) (sc tc : Nat) (fl : Nat → Bool) (tl tf aw : Nat) (x : Nat) (hx : x < 5) : Ct (S := Unit) l D g yX3_setTailField cX3_setTailField 2 none rmX3_setTailField [.ref (a 0), .int (iI (x : Int))] (wQ g a ST TF TR TN sc tc fl tl tf aw) (fun u => none) (fun _ => True) (fun u => wQ g a ST TF TR TN sc tc (bAdd1 fl x) tl x aw) := by
  refine Ct.of RX3 rfl (by decide +kernel) [(0, .ref (a 0)), (1, .int (iI (x : Int)))] rfl (Nat.le_of_ble_eq_true rfl) ?_
  intro pg evn sT mI bl mtd cd aA ls ar qQ zC zr zk zi zQ h hl
  have zx := zC.1
  have zb := zC.2.1
  have h : Hx D g sT aA sT.heap ([(a 0, .inr (3, [.ref (a 1), .ref (a 2), .ref (a 3), .ref (a 4), .int (iI (sc : Int)), .int (iI (tc : Int)), .int (iI (bZ fl)), .int (iI (tl : Int)), .int (iI (tf : Int)), .int (iI (aw : Int))])), (a 1, cI g 200 ST), (a 2, cI g 40 TF), (a 3, cC g 40 TR), (a 4, cI g 40 TN)]) sT.heap [] := h
  skip
  refine lv_aload_n zx zb dX3_setTailField_0 rfl (lv_at hl 0 rfl) ?_
  refine lv_iload_n zx zb dX3_setTailField_1 rfl (lv_at hl 1 rfl) ?_
  refine pf3_38 (x := iI (x : Int)) zC h 0 (ws' := [(a 0, .inr (3, [.ref (a 1), .ref (a 2), .ref (a 3), .ref (a 4), .int (iI (sc : Int)), .int (iI (tc : Int)), .int (iI (bZ fl)), .int (iI (tl : Int)), .int (iI (x : Int)), .int (iI (aw : Int))])), (a 1, cI g 200 ST), (a 2, cI g 40 TF), (a 3, cC g 40 TR), (a 4, cI g 40 TN)]) rfl rfl (Nat.le_of_ble_eq_true rfl) dX3_setTailField_2 (fun H locs h => ?_)
  refine lv_aload_n zx zb dX3_setTailField_5 rfl (lv_at hl 0 rfl) ?_
  refine lv_dup zx zb dX3_setTailField_6 rfl ?_
  refine gf3_32 (v := .int (iI (bZ fl))) zC h 0 rfl rfl dX3_setTailField_7 ?_
  refine lv_iconst (v := iI (1)) zx zb dX3_setTailField_10 rfl ?_
  refine lv_iload_n zx zb dX3_setTailField_11 rfl (lv_at hl 1 rfl) ?_
  refine lv_ishl zx zb dX3_setTailField_12 ?_
  rw [bZ_sh (show x < 32 by omega)]
  refine lv_ior zx zb dX3_setTailField_13 ?_
  rw [bZ_or fl (fun i => i == x), show (fun i => fl i || i == x) = bAdd1 fl x from rfl]
  refine pf3_32 (x := iI (bZ (bAdd1 fl x))) zC h 0 (ws' := [(a 0, .inr (3, [.ref (a 1), .ref (a 2), .ref (a 3), .ref (a 4), .int (iI (sc : Int)), .int (iI (tc : Int)), .int (iI (bZ (bAdd1 fl x))), .int (iI (tl : Int)), .int (iI (x : Int)), .int (iI (aw : Int))])), (a 1, cI g 200 ST), (a 2, cI g 40 TF), (a 3, cC g 40 TR), (a 4, cI g 40 TN)]) rfl rfl (Nat.le_of_ble_eq_true rfl) dX3_setTailField_14 (fun H locs h => ?_)
  exact r_vret zC zQ zr zk h dX3_setTailField_17 (u := ()) rfl (List.Perm.refl _) trivial (Nat.le_of_ble_eq_true rfl) (Nat.le_of_ble_eq_true rfl)

set_option maxHeartbeats 4000000 in
set_option maxRecDepth 100000 in
theorem c_X3_addStep (l : Launch) (D : va_G) (g : Nat → ClassId) (a : Nat → Nat) (ST TF TR TN : Nat → Int) (sc tc : Nat) (fl : Nat → Bool) (tl tf aw : Nat) (x : Int) (hs : sc < 200) : Ct (S := Unit) l D g yX3_addStep cX3_addStep 2 none rmX3_addStep [.ref (a 0), .int (iI x)] (wQ g a ST TF TR TN sc tc fl tl tf aw) (fun u => none) (fun _ => True) (fun u => wQ g a (up ST sc x) TF TR TN (sc + 1) tc fl tl tf aw) := by
  refine Ct.of RX3 rfl (by decide +kernel) [(0, .ref (a 0)), (1, .int (iI x))] rfl (Nat.le_of_ble_eq_true rfl) ?_
  intro pg evn sT mI bl mtd cd aA ls ar qQ zC zr zk zi zQ h hl
  have zx := zC.1
  have zb := zC.2.1
  have h : Hx D g sT aA sT.heap ([(a 0, .inr (3, [.ref (a 1), .ref (a 2), .ref (a 3), .ref (a 4), .int (iI (sc : Int)), .int (iI (tc : Int)), .int (iI (bZ fl)), .int (iI (tl : Int)), .int (iI (tf : Int)), .int (iI (aw : Int))])), (a 1, cI g 200 ST), (a 2, cI g 40 TF), (a 3, cC g 40 TR), (a 4, cI g 40 TN)]) sT.heap [] := h
  skip
  refine lv_aload_n zx zb dX3_addStep_0 rfl (lv_at hl 0 rfl) ?_
  refine gf3_25 (v := .int (iI (sc : Int))) zC h 0 rfl rfl dX3_addStep_1 ?_
  refine i_zlt (a := (sc : Int)) (tgt := 39) zC dX3_addStep_4 (by decide) (by omega) (fun c_1 => absurd c_1 (by omega)) (fun c_1 => ?_)
  refine lv_aload_n zx zb dX3_addStep_7 rfl (lv_at hl 0 rfl) ?_
  refine gf3_25 (v := .int (iI (sc : Int))) zC h 0 rfl rfl dX3_addStep_8 ?_
  refine lv_aload_n zx zb dX3_addStep_11 rfl (lv_at hl 0 rfl) ?_
  refine gf3_9 (v := .ref (a 1)) zC h 0 rfl rfl dX3_addStep_12 ?_
  refine a_len zC h 1 0 rfl rfl (200) rfl dX3_addStep_15 ?_
  refine i_cge (a := (sc : Int)) (b := 200) (tgt := 39) zC dX3_addStep_16 (by decide) (by omega) (fun c_2 => absurd c_2 (by omega)) (fun c_2 => ?_)
  refine lv_aload_n zx zb dX3_addStep_19 rfl (lv_at hl 0 rfl) ?_
  refine gf3_9 (v := .ref (a 1)) zC h 0 rfl rfl dX3_addStep_20 ?_
  refine lv_aload_n zx zb dX3_addStep_23 rfl (lv_at hl 0 rfl) ?_
  refine gf3_25 (v := .int (iI (sc : Int))) zC h 0 rfl rfl dX3_addStep_24 ?_
  refine lv_iload_n zx zb dX3_addStep_27 rfl (lv_at hl 1 rfl) ?_
  refine a_ist (x := x) zC h 1 (ws' := [(a 0, .inr (3, [.ref (a 1), .ref (a 2), .ref (a 3), .ref (a 4), .int (iI (sc : Int)), .int (iI (tc : Int)), .int (iI (bZ fl)), .int (iI (tl : Int)), .int (iI (tf : Int)), .int (iI (aw : Int))])), (a 1, cI g 200 (up ST sc x)), (a 2, cI g 40 TF), (a 3, cC g 40 TR), (a 4, cI g 40 TN)]) rfl (z := (sc : Int)) sc rfl (by omega) (by omega) (by decide) dX3_addStep_28 (fun H locs h => ?_)
  refine lv_aload_n zx zb dX3_addStep_29 rfl (lv_at hl 0 rfl) ?_
  refine lv_dup zx zb dX3_addStep_30 rfl ?_
  refine gf3_25 (v := .int (iI (sc : Int))) zC h 0 rfl rfl dX3_addStep_31 ?_
  refine lv_iconst (v := iI (1)) zx zb dX3_addStep_34 rfl ?_
  refine i_add zC (a := (sc : Int)) (b := 1) dX3_addStep_35 ?_
  refine pf3_25 (x := iI ((sc : Int) + 1)) zC h 0 (ws' := [(a 0, .inr (3, [.ref (a 1), .ref (a 2), .ref (a 3), .ref (a 4), .int (iI ((sc : Int) + 1)), .int (iI (tc : Int)), .int (iI (bZ fl)), .int (iI (tl : Int)), .int (iI (tf : Int)), .int (iI (aw : Int))])), (a 1, cI g 200 (up ST sc x)), (a 2, cI g 40 TF), (a 3, cC g 40 TR), (a 4, cI g 40 TN)]) rfl rfl (Nat.le_of_ble_eq_true rfl) dX3_addStep_36 (fun H locs h => ?_)
  exact r_vret zC zQ zr zk h dX3_addStep_39 (u := ()) rfl (List.Perm.refl _) trivial (Nat.le_of_ble_eq_true rfl) (Nat.le_of_ble_eq_true rfl)

set_option maxHeartbeats 4000000 in
set_option maxRecDepth 100000 in
theorem c_X3_addTest (l : Launch) (D : va_G) (g : Nat → ClassId) (a : Nat → Nat) (ST TF TR TN : Nat → Int) (sc tc : Nat) (fl : Nat → Bool) (tl tf aw : Nat) (f : Nat) (r x : Int) (hf : f < 5) (hr : vp_nar .char (iI r) = iI r) (hs : sc < 200) (ht : tc < 40) : Ct (S := Unit) l D g yX3_addTest cX3_addTest 4 none rmX3_addTest [.ref (a 0), .int (iI (f : Int)), .int (iI r), .int (iI x)] (wQ g a ST TF TR TN sc tc fl tl tf aw) (fun u => none) (fun _ => True) (fun u => wQ g a (up ST sc 5) (up TF tc (f : Int)) (up TR tc r) (up TN tc x) (sc + 1) (tc + 1) (bAdd1 fl f) tl tf aw) := by
  refine Ct.of RX3 rfl (by decide +kernel) [(0, .ref (a 0)), (1, .int (iI (f : Int))), (2, .int (iI r)), (3, .int (iI x))] rfl (Nat.le_of_ble_eq_true rfl) ?_
  intro pg evn sT mI bl mtd cd aA ls ar qQ zC zr zk zi zQ h hl
  have zx := zC.1
  have zb := zC.2.1
  have h : Hx D g sT aA sT.heap ([(a 0, .inr (3, [.ref (a 1), .ref (a 2), .ref (a 3), .ref (a 4), .int (iI (sc : Int)), .int (iI (tc : Int)), .int (iI (bZ fl)), .int (iI (tl : Int)), .int (iI (tf : Int)), .int (iI (aw : Int))])), (a 1, cI g 200 ST), (a 2, cI g 40 TF), (a 3, cC g 40 TR), (a 4, cI g 40 TN)]) sT.heap [] := h
  skip
  refine lv_aload_n zx zb dX3_addTest_0 rfl (lv_at hl 0 rfl) ?_
  refine gf3_29 (v := .int (iI (tc : Int))) zC h 0 rfl rfl dX3_addTest_1 ?_
  refine i_zlt (a := (tc : Int)) (tgt := 73) zC dX3_addTest_4 (by decide) (by omega) (fun c_1 => absurd c_1 (by omega)) (fun c_1 => ?_)
  refine lv_aload_n zx zb dX3_addTest_7 rfl (lv_at hl 0 rfl) ?_
  refine gf3_29 (v := .int (iI (tc : Int))) zC h 0 rfl rfl dX3_addTest_8 ?_
  refine lv_bipush (v := iI (40)) zx zb dX3_addTest_11 rfl ?_
  refine i_cge (a := (tc : Int)) (b := 40) (tgt := 73) zC dX3_addTest_13 (by decide) (by omega) (fun c_2 => absurd c_2 (by omega)) (fun c_2 => ?_)
  refine lv_aload_n zx zb dX3_addTest_16 rfl (lv_at hl 0 rfl) ?_
  refine gf3_15 (v := .ref (a 2)) zC h 0 rfl rfl dX3_addTest_17 ?_
  refine lv_aload_n zx zb dX3_addTest_20 rfl (lv_at hl 0 rfl) ?_
  refine gf3_29 (v := .int (iI (tc : Int))) zC h 0 rfl rfl dX3_addTest_21 ?_
  refine lv_iload_n zx zb dX3_addTest_24 rfl (lv_at hl 1 rfl) ?_
  refine a_ist (x := (f : Int)) zC h 2 (ws' := [(a 0, .inr (3, [.ref (a 1), .ref (a 2), .ref (a 3), .ref (a 4), .int (iI (sc : Int)), .int (iI (tc : Int)), .int (iI (bZ fl)), .int (iI (tl : Int)), .int (iI (tf : Int)), .int (iI (aw : Int))])), (a 1, cI g 200 ST), (a 2, cI g 40 (up TF tc (f : Int))), (a 3, cC g 40 TR), (a 4, cI g 40 TN)]) rfl (z := (tc : Int)) tc rfl (by omega) (by omega) (by decide) dX3_addTest_25 (fun H locs h => ?_)
  refine lv_aload_n zx zb dX3_addTest_26 rfl (lv_at hl 0 rfl) ?_
  refine gf3_18 (v := .ref (a 3)) zC h 0 rfl rfl dX3_addTest_27 ?_
  refine lv_aload_n zx zb dX3_addTest_30 rfl (lv_at hl 0 rfl) ?_
  refine gf3_29 (v := .int (iI (tc : Int))) zC h 0 rfl rfl dX3_addTest_31 ?_
  refine lv_iload_n zx zb dX3_addTest_34 rfl (lv_at hl 2 rfl) ?_
  refine a_cst (x := r) zC h 3 (ws' := [(a 0, .inr (3, [.ref (a 1), .ref (a 2), .ref (a 3), .ref (a 4), .int (iI (sc : Int)), .int (iI (tc : Int)), .int (iI (bZ fl)), .int (iI (tl : Int)), .int (iI (tf : Int)), .int (iI (aw : Int))])), (a 1, cI g 200 ST), (a 2, cI g 40 (up TF tc (f : Int))), (a 3, cC g 40 (up TR tc r)), (a 4, cI g 40 TN)]) rfl (z := (tc : Int)) tc rfl hr (by omega) (by omega) (by decide) dX3_addTest_35 (fun H locs h => ?_)
  refine lv_aload_n zx zb dX3_addTest_36 rfl (lv_at hl 0 rfl) ?_
  refine gf3_22 (v := .ref (a 4)) zC h 0 rfl rfl dX3_addTest_37 ?_
  refine lv_aload_n zx zb dX3_addTest_40 rfl (lv_at hl 0 rfl) ?_
  refine gf3_29 (v := .int (iI (tc : Int))) zC h 0 rfl rfl dX3_addTest_41 ?_
  refine lv_iload_n zx zb dX3_addTest_44 rfl (lv_at hl 3 rfl) ?_
  refine a_ist (x := x) zC h 4 (ws' := [(a 0, .inr (3, [.ref (a 1), .ref (a 2), .ref (a 3), .ref (a 4), .int (iI (sc : Int)), .int (iI (tc : Int)), .int (iI (bZ fl)), .int (iI (tl : Int)), .int (iI (tf : Int)), .int (iI (aw : Int))])), (a 1, cI g 200 ST), (a 2, cI g 40 (up TF tc (f : Int))), (a 3, cC g 40 (up TR tc r)), (a 4, cI g 40 (up TN tc x))]) rfl (z := (tc : Int)) tc rfl (by omega) (by omega) (by decide) dX3_addTest_45 (fun H locs h => ?_)
  refine lv_aload_n zx zb dX3_addTest_46 rfl (lv_at hl 0 rfl) ?_
  refine lv_dup zx zb dX3_addTest_47 rfl ?_
  refine gf3_29 (v := .int (iI (tc : Int))) zC h 0 rfl rfl dX3_addTest_48 ?_
  refine lv_iconst (v := iI (1)) zx zb dX3_addTest_51 rfl ?_
  refine i_add zC (a := (tc : Int)) (b := 1) dX3_addTest_52 ?_
  refine pf3_29 (x := iI ((tc : Int) + 1)) zC h 0 (ws' := [(a 0, .inr (3, [.ref (a 1), .ref (a 2), .ref (a 3), .ref (a 4), .int (iI (sc : Int)), .int (iI ((tc : Int) + 1)), .int (iI (bZ fl)), .int (iI (tl : Int)), .int (iI (tf : Int)), .int (iI (aw : Int))])), (a 1, cI g 200 ST), (a 2, cI g 40 (up TF tc (f : Int))), (a 3, cC g 40 (up TR tc r)), (a 4, cI g 40 (up TN tc x))]) rfl rfl (Nat.le_of_ble_eq_true rfl) dX3_addTest_53 (fun H locs h => ?_)
  refine lv_aload_n zx zb dX3_addTest_56 rfl (lv_at hl 0 rfl) ?_
  refine lv_dup zx zb dX3_addTest_57 rfl ?_
  refine gf3_32 (v := .int (iI (bZ fl))) zC h 0 rfl rfl dX3_addTest_58 ?_
  refine lv_iconst (v := iI (1)) zx zb dX3_addTest_61 rfl ?_
  refine lv_iload_n zx zb dX3_addTest_62 rfl (lv_at hl 1 rfl) ?_
  refine lv_ishl zx zb dX3_addTest_63 ?_
  rw [bZ_sh (show f < 32 by omega)]
  refine lv_ior zx zb dX3_addTest_64 ?_
  rw [bZ_or fl (fun i => i == f), show (fun i => fl i || i == f) = bAdd1 fl f from rfl]
  refine pf3_32 (x := iI (bZ (bAdd1 fl f))) zC h 0 (ws' := [(a 0, .inr (3, [.ref (a 1), .ref (a 2), .ref (a 3), .ref (a 4), .int (iI (sc : Int)), .int (iI ((tc : Int) + 1)), .int (iI (bZ (bAdd1 fl f))), .int (iI (tl : Int)), .int (iI (tf : Int)), .int (iI (aw : Int))])), (a 1, cI g 200 ST), (a 2, cI g 40 (up TF tc (f : Int))), (a 3, cC g 40 (up TR tc r)), (a 4, cI g 40 (up TN tc x))]) rfl rfl (Nat.le_of_ble_eq_true rfl) dX3_addTest_65 (fun H locs h => ?_)
  refine lv_aload_n zx zb dX3_addTest_68 rfl (lv_at hl 0 rfl) ?_
  refine lv_iconst (v := iI (5)) zx zb dX3_addTest_69 rfl ?_
  refine r_invV (As := [.int (iI 5)]) (rest := []) (wr := []) (ws2 := fun u_3 => [(a 0, .inr (3, [.ref (a 1), .ref (a 2), .ref (a 3), .ref (a 4), .int (iI ((sc + 1 : Nat) : Int)), .int (iI ((tc + 1 : Nat) : Int)), .int (iI (bZ (bAdd1 fl f))), .int (iI (tl : Int)), .int (iI (tf : Int)), .int (iI (aw : Int))])), (a 1, cI g 200 (up ST sc 5)), (a 2, cI g 40 (up TF tc (f : Int))), (a 3, cC g 40 (up TR tc r)), (a 4, cI g 40 (up TN tc x))]) 0 0 zC h hl.1 (c_X3_addStep l D g a ST (up TF tc (f : Int)) (up TR tc r) (up TN tc x) sc (tc + 1) (bAdd1 fl f) tl tf aw 5 hs) (cs3_44 zC ⟨(Nat.le_of_ble_eq_true rfl), (Nat.le_of_ble_eq_true rfl)⟩) (.head _) rfl rfl rfl (Nat.le_of_ble_eq_true rfl) (List.Perm.of_eq (List.append_nil _).symm) (fun u => List.Perm.of_eq (List.append_nil _)) ⟨(Nat.le_of_ble_eq_true rfl), (Nat.le_of_ble_eq_true rfl)⟩ (Nat.le_of_ble_eq_true rfl) (Nat.le_of_ble_eq_true rfl) dX3_addTest_70 (fun u_3 H locs hu_3 hz_3 h => ?_)
  exact r_vret zC zQ zr zk h dX3_addTest_73 (u := ()) rfl (List.Perm.refl _) trivial (Nat.le_of_ble_eq_true rfl) (Nat.le_of_ble_eq_true rfl)

set_option maxHeartbeats 4000000 in
set_option maxRecDepth 100000 in
theorem c_X3_step (l : Launch) (D : va_G) (g : Nat → ClassId) (a : Nat → Nat) (ST TF TR TN : Nat → Int) (sc tc : Nat) (fl : Nat → Bool) (tl tf aw : Nat) (k : Nat) (hk : k < 200) : Ct (S := Unit) l D g yX3_step cX3_step 2 (some .int) rmX3_step [.ref (a 0), .int (iI (k : Int))] (wQ g a ST TF TR TN sc tc fl tl tf aw) (fun u => some (.int (iI (ST k)))) (fun _ => True) (fun u => wQ g a ST TF TR TN sc tc fl tl tf aw) := by
  refine Ct.of RX3 rfl (by decide +kernel) [(0, .ref (a 0)), (1, .int (iI (k : Int)))] rfl (Nat.le_of_ble_eq_true rfl) ?_
  intro pg evn sT mI bl mtd cd aA ls ar qQ zC zr zk zi zQ h hl
  have zx := zC.1
  have zb := zC.2.1
  have h : Hx D g sT aA sT.heap ([(a 0, .inr (3, [.ref (a 1), .ref (a 2), .ref (a 3), .ref (a 4), .int (iI (sc : Int)), .int (iI (tc : Int)), .int (iI (bZ fl)), .int (iI (tl : Int)), .int (iI (tf : Int)), .int (iI (aw : Int))])), (a 1, cI g 200 ST), (a 2, cI g 40 TF), (a 3, cC g 40 TR), (a 4, cI g 40 TN)]) sT.heap [] := h
  skip
  refine lv_iload_n zx zb dX3_step_0 rfl (lv_at hl 1 rfl) ?_
  refine i_zlt (a := (k : Int)) (tgt := 22) zC dX3_step_1 (by decide) (by omega) (fun c_1 => absurd c_1 (by omega)) (fun c_1 => ?_)
  refine lv_iload_n zx zb dX3_step_4 rfl (lv_at hl 1 rfl) ?_
  refine lv_aload_n zx zb dX3_step_5 rfl (lv_at hl 0 rfl) ?_
  refine gf3_9 (v := .ref (a 1)) zC h 0 rfl rfl dX3_step_6 ?_
  refine a_len zC h 1 0 rfl rfl (200) rfl dX3_step_9 ?_
  refine i_cge (a := (k : Int)) (b := 200) (tgt := 22) zC dX3_step_10 (by decide) (by omega) (fun c_2 => absurd c_2 (by omega)) (fun c_2 => ?_)
  refine lv_aload_n zx zb dX3_step_13 rfl (lv_at hl 0 rfl) ?_
  refine gf3_9 (v := .ref (a 1)) zC h 0 rfl rfl dX3_step_14 ?_
  refine lv_iload_n zx zb dX3_step_17 rfl (lv_at hl 1 rfl) ?_
  refine a_ild zC h 1 rfl (z := (k : Int)) k (by omega) (by omega) (by decide) dX3_step_18 ?_
  refine lv_goto (tgt := 23) zx zb dX3_step_19 (by decide) ?_
  exact r_iret zC zQ zr zk h dX3_step_23 (u := ()) rfl (List.Perm.refl _) trivial (Nat.le_of_ble_eq_true rfl) (Nat.le_of_ble_eq_true rfl)

set_option maxHeartbeats 4000000 in
set_option maxRecDepth 100000 in
theorem c_X3_isTestTrue (l : Launch) (D : va_G) (g : Nat → ClassId) (a : Nat → Nat) (ST TF TR TN : Nat → Int) (sc tc : Nat) (fl : Nat → Bool) (tl tf aw : Nat) (b r1 r2 r3 : Nat → Nat) (n : Nat) (Vv U Dn : Nat → Nat → Int) (t f k : Nat) (z : Int) (ht : t < 40) (hf : f < 5) (hk : k < n) (hn : n ≤ 300) (hz : z = (k : Int) + 1) (hF : TF t = (f : Int)) (hr : TR t = 60 ∨ TR t = 61 ∨ TR t = 62) (hV : R32 (Vv f k)) (hN : R32 (TN t)) : Ct (S := Unit) l D g yX3_isTestTrue cX3_isTestTrue 5 (some .boolean) rmX3_isTestTrue [.ref (a 0), .int (iI (t : Int)), .ref (b 0), .int (iI z)] (wQ g a ST TF TR TN sc tc fl tl tf aw ++ wRows g b r1 r2 r3 n Vv U Dn) (fun u => some (.int (bI (tstV (TR t) (Vv f k) (TN t))))) (fun _ => True) (fun u => wQ g a ST TF TR TN sc tc fl tl tf aw ++ wRows g b r1 r2 r3 n Vv U Dn) := by
  refine Ct.of RX3 rfl (by decide +kernel) [(0, .ref (a 0)), (1, .int (iI (t : Int))), (2, .ref (b 0)), (3, .int (iI z))] rfl (Nat.le_of_ble_eq_true rfl) ?_
  intro pg evn sT mI bl mtd cd aA ls ar qQ zC zr zk zi zQ h hl
  have zx := zC.1
  have zb := zC.2.1
  have h : Hx D g sT aA sT.heap ((a 0, .inr (3, [.ref (a 1), .ref (a 2), .ref (a 3), .ref (a 4), .int (iI (sc : Int)), .int (iI (tc : Int)), .int (iI (bZ fl)), .int (iI (tl : Int)), .int (iI (tf : Int)), .int (iI (aw : Int))])) :: (a 1, cI g 200 ST) :: (a 2, cI g 40 TF) :: (a 3, cC g 40 TR) :: (a 4, cI g 40 TN) :: (wRows g b r1 r2 r3 n Vv U Dn)) sT.heap [] := h
  skip
  refine lv_iload_n zx zb dX3_isTestTrue_0 rfl (lv_at hl 1 rfl) ?_
  refine i_zlt (a := (t : Int)) (tgt := 10) zC dX3_isTestTrue_1 (by decide) (by omega) (fun c_1 => absurd c_1 (by omega)) (fun c_1 => ?_)
  refine lv_iload_n zx zb dX3_isTestTrue_4 rfl (lv_at hl 1 rfl) ?_
  refine lv_bipush (v := iI (40)) zx zb dX3_isTestTrue_5 rfl ?_
  refine i_clt (a := (t : Int)) (b := 40) (tgt := 12) zC dX3_isTestTrue_7 (by decide) (by omega) (fun c_2 => ?_) (fun c_2 => absurd c_2 (by omega))
  refine lv_aload_n zx zb dX3_isTestTrue_12 rfl (lv_at hl 2 rfl) ?_
  refine lv_iload_n zx zb dX3_isTestTrue_13 rfl (lv_at hl 3 rfl) ?_
  refine lv_aload_n zx zb dX3_isTestTrue_14 rfl (lv_at hl 0 rfl) ?_
  refine gf3_15 (v := .ref (a 2)) zC h 0 rfl rfl dX3_isTestTrue_15 ?_
  refine lv_iload_n zx zb dX3_isTestTrue_18 rfl (lv_at hl 1 rfl) ?_
  refine a_ild zC h 2 rfl (z := (t : Int)) t (by omega) (by omega) (by decide) dX3_isTestTrue_19 ?_
  rw [hF]
  refine r_invV (As := [.int (iI z), .int (iI (f : Int))]) (rest := []) (wr := [(a 0, .inr (3, [.ref (a 1), .ref (a 2), .ref (a 3), .ref (a 4), .int (iI (sc : Int)), .int (iI (tc : Int)), .int (iI (bZ fl)), .int (iI (tl : Int)), .int (iI (tf : Int)), .int (iI (aw : Int))])), (a 1, cI g 200 ST), (a 2, cI g 40 TF), (a 3, cC g 40 TR), (a 4, cI g 40 TN)]) (ws2 := fun u_3 => (a 0, .inr (3, [.ref (a 1), .ref (a 2), .ref (a 3), .ref (a 4), .int (iI (sc : Int)), .int (iI (tc : Int)), .int (iI (bZ fl)), .int (iI (tl : Int)), .int (iI (tf : Int)), .int (iI (aw : Int))])) :: (a 1, cI g 200 ST) :: (a 2, cI g 40 TF) :: (a 3, cC g 40 TR) :: (a 4, cI g 40 TN) :: (wRows g b r1 r2 r3 n Vv U Dn)) 0 0 zC h hl.1 (c_X6_value l D g b r1 r2 r3 n Vv U Dn k f z hz hk hn hf) (cs3_48 zC ⟨(Nat.le_of_ble_eq_true rfl), (Nat.le_of_ble_eq_true rfl)⟩) (.tail _ (.tail _ (.tail _ (.tail _ (.tail _ wRows_mem))))) rfl rfl rfl (Nat.le_of_ble_eq_true rfl) (pm fun cp_q => by simp only [cp_o, List.countP_append, List.countP_nil] <;> omega) (fun u => (pm fun cp_q => by simp only [cp_o, List.countP_append, List.countP_nil] <;> omega)) ⟨(Nat.le_of_ble_eq_true rfl), (Nat.le_of_ble_eq_true rfl)⟩ (Nat.le_of_ble_eq_true rfl) (Nat.le_of_ble_eq_true rfl) dX3_isTestTrue_20 (fun u_3 H locs hu_3 hz_3 h => ?_)
  refine lv_istore (lv' := [(4, .int (iI (Vv f k))), (0, .ref (a 0)), (1, .int (iI (t : Int))), (2, .ref (b 0)), (3, .int (iI z))]) zx zb dX3_isTestTrue_23 hl (by decide) rfl (fun ls hl => ?_)
  refine lv_aload_n zx zb dX3_isTestTrue_25 rfl (lv_at hl 1 rfl) ?_
  refine gf3_18 (v := .ref (a 3)) zC h 0 rfl rfl dX3_isTestTrue_26 ?_
  refine lv_iload_n zx zb dX3_isTestTrue_29 rfl (lv_at hl 2 rfl) ?_
  refine a_cld zC h 3 rfl (z := (t : Int)) t (by omega) (by omega) (by decide) dX3_isTestTrue_30 ?_
  rcases hr with e_r | e_r | e_r
  · rw [e_r]
    refine lv_lookup (tgt := 73) (off := 42) zx zb dX3_isTestTrue_31 (by decide) (by decide) (by decide) ?_
    refine lv_iload zx zb dX3_isTestTrue_73 (lv_at hl 0 rfl) ?_
    refine lv_aload_n zx zb dX3_isTestTrue_75 rfl (lv_at hl 1 rfl) ?_
    refine gf3_22 (v := .ref (a 4)) zC h 0 rfl rfl dX3_isTestTrue_76 ?_
    refine lv_iload_n zx zb dX3_isTestTrue_79 rfl (lv_at hl 2 rfl) ?_
    refine a_ild zC h 4 rfl (z := (t : Int)) t (by omega) (by omega) (by decide) dX3_isTestTrue_80 ?_
    refine i_cge (a := Vv f k) (b := TN t) (tgt := 88) zC dX3_isTestTrue_81 (by decide) (by omega) (fun c_4 => ?_) (fun c_4 => ?_)
    · skip
      refine lv_iconst (v := iI (0)) zx zb dX3_isTestTrue_88 rfl ?_
      exact r_zret (b := false) zC zQ zr zk h dX3_isTestTrue_89 rfl (u := ()) (by rw [show tstV (TR t) (Vv f k) (TN t) = false from by unfold tstV; simp [e_r]; omega]; rfl) (List.Perm.refl _) trivial (Nat.le_of_ble_eq_true rfl) (Nat.le_of_ble_eq_true rfl)
    · skip
      refine lv_iconst (v := iI (1)) zx zb dX3_isTestTrue_84 rfl ?_
      refine lv_goto (tgt := 89) zx zb dX3_isTestTrue_85 (by decide) ?_
      exact r_zret (b := true) zC zQ zr zk h dX3_isTestTrue_89 rfl (u := ()) (by rw [show tstV (TR t) (Vv f k) (TN t) = true from by unfold tstV; simp [e_r]; omega]; rfl) (List.Perm.refl _) trivial (Nat.le_of_ble_eq_true rfl) (Nat.le_of_ble_eq_true rfl)
  · rw [e_r]
    refine lv_lookup (tgt := 56) (off := 25) zx zb dX3_isTestTrue_31 (by decide) (by decide) (by decide) ?_
    refine lv_iload zx zb dX3_isTestTrue_56 (lv_at hl 0 rfl) ?_
    refine lv_aload_n zx zb dX3_isTestTrue_58 rfl (lv_at hl 1 rfl) ?_
    refine gf3_22 (v := .ref (a 4)) zC h 0 rfl rfl dX3_isTestTrue_59 ?_
    refine lv_iload_n zx zb dX3_isTestTrue_62 rfl (lv_at hl 2 rfl) ?_
    refine a_ild zC h 4 rfl (z := (t : Int)) t (by omega) (by omega) (by decide) dX3_isTestTrue_63 ?_
    refine i_cne (a := Vv f k) (b := TN t) (tgt := 71) zC dX3_isTestTrue_64 (by decide) (by omega) (fun c_5 => ?_) (fun c_5 => ?_)
    · skip
      refine lv_iconst (v := iI (0)) zx zb dX3_isTestTrue_71 rfl ?_
      exact r_zret (b := false) zC zQ zr zk h dX3_isTestTrue_72 rfl (u := ()) (by rw [show tstV (TR t) (Vv f k) (TN t) = false from by unfold tstV; simp [e_r]; omega]; rfl) (List.Perm.refl _) trivial (Nat.le_of_ble_eq_true rfl) (Nat.le_of_ble_eq_true rfl)
    · skip
      refine lv_iconst (v := iI (1)) zx zb dX3_isTestTrue_67 rfl ?_
      refine lv_goto (tgt := 72) zx zb dX3_isTestTrue_68 (by decide) ?_
      exact r_zret (b := true) zC zQ zr zk h dX3_isTestTrue_72 rfl (u := ()) (by rw [show tstV (TR t) (Vv f k) (TN t) = true from by unfold tstV; simp [e_r]; omega]; rfl) (List.Perm.refl _) trivial (Nat.le_of_ble_eq_true rfl) (Nat.le_of_ble_eq_true rfl)
  · rw [e_r]
    refine lv_lookup (tgt := 90) (off := 59) zx zb dX3_isTestTrue_31 (by decide) (by decide) (by decide) ?_
    refine lv_iload zx zb dX3_isTestTrue_90 (lv_at hl 0 rfl) ?_
    refine lv_aload_n zx zb dX3_isTestTrue_92 rfl (lv_at hl 1 rfl) ?_
    refine gf3_22 (v := .ref (a 4)) zC h 0 rfl rfl dX3_isTestTrue_93 ?_
    refine lv_iload_n zx zb dX3_isTestTrue_96 rfl (lv_at hl 2 rfl) ?_
    refine a_ild zC h 4 rfl (z := (t : Int)) t (by omega) (by omega) (by decide) dX3_isTestTrue_97 ?_
    refine i_cle (a := Vv f k) (b := TN t) (tgt := 105) zC dX3_isTestTrue_98 (by decide) (by omega) (fun c_6 => ?_) (fun c_6 => ?_)
    · skip
      refine lv_iconst (v := iI (0)) zx zb dX3_isTestTrue_105 rfl ?_
      exact r_zret (b := false) zC zQ zr zk h dX3_isTestTrue_106 rfl (u := ()) (by rw [show tstV (TR t) (Vv f k) (TN t) = false from by unfold tstV; simp [e_r]; omega]; rfl) (List.Perm.refl _) trivial (Nat.le_of_ble_eq_true rfl) (Nat.le_of_ble_eq_true rfl)
    · skip
      refine lv_iconst (v := iI (1)) zx zb dX3_isTestTrue_101 rfl ?_
      refine lv_goto (tgt := 106) zx zb dX3_isTestTrue_102 (by decide) ?_
      exact r_zret (b := true) zC zQ zr zk h dX3_isTestTrue_106 rfl (u := ()) (by rw [show tstV (TR t) (Vv f k) (TN t) = true from by unfold tstV; simp [e_r]; omega]; rfl) (List.Perm.refl _) trivial (Nat.le_of_ble_eq_true rfl) (Nat.le_of_ble_eq_true rfl)
end
section
/-! JUDGE: a condition's steps gone through for a row. A level's word: a part before is true; this part's tests are; the next is turned -/
noncomputable def wJ (j L : Nat) (O T N : Nat → Bool) : va_W := [(j, .inr (1, [.int (iI (bZ fun i => i == L)), .int (iI (bZ O)), .int (iI (bZ T)), .int (iI (bZ N))]))]
theorem jb_clr {O : Nat → Bool} {L : Nat} : (bZ fun i => O i && !(i == L)) = bZ (up O L false) := bZ_congr fun i _ => by
  by_cases h : i = L
  · subst h; rw [up_s]; simp
  · rw [up_n h]; simp [h]
theorem jb_set {O : Nat → Bool} {L : Nat} : (bZ fun i => O i || i == L) = bZ (up O L true) := bZ_congr fun i _ => by
  by_cases h : i = L
  · subst h; rw [up_s]; simp
  · rw [up_n h]; simp [h]
theorem jb_flip {O : Nat → Bool} {L : Nat} : (bZ fun i => O i ^^ (i == L)) = bZ (up O L (!O L)) := bZ_congr fun i _ => by
  by_cases h : i = L
  · subst h; rw [up_s]; simp
  · rw [up_n h]
    show (O i ^^ (i == L)) = O i
    rw [beq_eq_false_iff_ne.mpr h, Bool.xor_false]
theorem jb_or {O T : Nat → Bool} {L : Nat} : (bZ fun i => O i || (T i && i == L)) = bZ (up O L (O L || T L)) := bZ_congr fun i _ => by
  by_cases h : i = L
  · subst h; rw [up_s]; simp
  · rw [up_n h]; simp [h]
theorem jb_tst {O : Nat → Bool} {L : Nat} (hL : L < 32) : (bZ fun i => O i && i == L) = 0 ↔ O L = false := by
  rw [bZ_eq0]
  constructor
  · intro h
    have := h L hL
    simpa using this
  · intro h i _
    by_cases e : i = L
    · subst e; simp [h]
    · simp [e]
theorem jb_keep {O : Nat → Bool} {L : Nat} : bZ O = bZ (up O L (O L)) := bZ_congr fun i _ => by
  by_cases h : i = L
  · subst h; rw [up_s]
  · rw [up_n h]

set_option maxHeartbeats 4000000 in
set_option maxRecDepth 100000 in
theorem c_X1_beginLevel (l : Launch) (D : va_G) (g : Nat → ClassId) (j L : Nat) (O T N : Nat → Bool) (hL : L < 32) : Ct (S := Unit) l D g yX1_beginLevel cX1_beginLevel 1 none rmX1_beginLevel [.ref j] (wJ j L O T N) (fun u => none) (fun _ => True) (fun u => wJ j L (up O L false) (up T L true) (up N L false)) := by
  refine Ct.of RX1 rfl (by decide +kernel) [(0, .ref j)] rfl (Nat.le_of_ble_eq_true rfl) ?_
  intro pg evn sT mI bl mtd cd aA ls ar qQ zC zr zk zi zQ h hl
  have zx := zC.1
  have zb := zC.2.1
  have h : Hx D g sT aA sT.heap ([(j, .inr (1, [.int (iI (bZ fun i => i == L)), .int (iI (bZ O)), .int (iI (bZ T)), .int (iI (bZ N))]))]) sT.heap [] := h
  skip
  refine lv_aload_n zx zb dX1_beginLevel_0 rfl (lv_at hl 0 rfl) ?_
  refine lv_dup zx zb dX1_beginLevel_1 rfl ?_
  refine gf1_13 (v := .int (iI (bZ O))) zC h 0 rfl rfl dX1_beginLevel_2 ?_
  refine lv_aload_n zx zb dX1_beginLevel_5 rfl (lv_at hl 0 rfl) ?_
  refine gf1_7 (v := .int (iI (bZ fun i => i == L))) zC h 0 rfl rfl dX1_beginLevel_6 ?_
  refine lv_iconst (v := iI (-1)) zx zb dX1_beginLevel_9 rfl ?_
  refine lv_ixor zx zb dX1_beginLevel_10 ?_
  rw [bZ_not (fun i => i == L)]
  refine lv_iand zx zb dX1_beginLevel_11 ?_
  rw [bZ_and O (fun i => !(i == L)), jb_clr]
  refine pf1_13 (x := iI (bZ (up O L false))) zC h 0 (ws' := [(j, .inr (1, [.int (iI (bZ fun i => i == L)), .int (iI (bZ (up O L false))), .int (iI (bZ T)), .int (iI (bZ N))]))]) rfl rfl (Nat.le_of_ble_eq_true rfl) dX1_beginLevel_12 (fun H locs h => ?_)
  refine lv_aload_n zx zb dX1_beginLevel_15 rfl (lv_at hl 0 rfl) ?_
  refine lv_dup zx zb dX1_beginLevel_16 rfl ?_
  refine gf1_16 (v := .int (iI (bZ T))) zC h 0 rfl rfl dX1_beginLevel_17 ?_
  refine lv_aload_n zx zb dX1_beginLevel_20 rfl (lv_at hl 0 rfl) ?_
  refine gf1_7 (v := .int (iI (bZ fun i => i == L))) zC h 0 rfl rfl dX1_beginLevel_21 ?_
  refine lv_ior zx zb dX1_beginLevel_24 ?_
  rw [bZ_or T (fun i => i == L), jb_set]
  refine pf1_16 (x := iI (bZ (up T L true))) zC h 0 (ws' := [(j, .inr (1, [.int (iI (bZ fun i => i == L)), .int (iI (bZ (up O L false))), .int (iI (bZ (up T L true))), .int (iI (bZ N))]))]) rfl rfl (Nat.le_of_ble_eq_true rfl) dX1_beginLevel_25 (fun H locs h => ?_)
  refine lv_aload_n zx zb dX1_beginLevel_28 rfl (lv_at hl 0 rfl) ?_
  refine lv_dup zx zb dX1_beginLevel_29 rfl ?_
  refine gf1_19 (v := .int (iI (bZ N))) zC h 0 rfl rfl dX1_beginLevel_30 ?_
  refine lv_aload_n zx zb dX1_beginLevel_33 rfl (lv_at hl 0 rfl) ?_
  refine gf1_7 (v := .int (iI (bZ fun i => i == L))) zC h 0 rfl rfl dX1_beginLevel_34 ?_
  refine lv_iconst (v := iI (-1)) zx zb dX1_beginLevel_37 rfl ?_
  refine lv_ixor zx zb dX1_beginLevel_38 ?_
  rw [bZ_not (fun i => i == L)]
  refine lv_iand zx zb dX1_beginLevel_39 ?_
  rw [bZ_and N (fun i => !(i == L)), jb_clr]
  refine pf1_19 (x := iI (bZ (up N L false))) zC h 0 (ws' := [(j, .inr (1, [.int (iI (bZ fun i => i == L)), .int (iI (bZ (up O L false))), .int (iI (bZ (up T L true))), .int (iI (bZ (up N L false)))]))]) rfl rfl (Nat.le_of_ble_eq_true rfl) dX1_beginLevel_40 (fun H locs h => ?_)
  exact r_vret zC zQ zr zk h dX1_beginLevel_43 (u := ()) rfl (List.Perm.refl _) trivial (Nat.le_of_ble_eq_true rfl) (Nat.le_of_ble_eq_true rfl)

set_option maxHeartbeats 4000000 in
set_option maxRecDepth 100000 in
theorem c_X1_isLevelTrue (l : Launch) (D : va_G) (g : Nat → ClassId) (j L : Nat) (O T N : Nat → Bool) (hL : L < 32) : Ct (S := Unit) l D g yX1_isLevelTrue cX1_isLevelTrue 1 (some .boolean) rmX1_isLevelTrue [.ref j] (wJ j L O T N) (fun u => some (.int (bI (O L || T L)))) (fun _ => True) (fun u => wJ j L O T N) := by
  refine Ct.of RX1 rfl (by decide +kernel) [(0, .ref j)] rfl (Nat.le_of_ble_eq_true rfl) ?_
  intro pg evn sT mI bl mtd cd aA ls ar qQ zC zr zk zi zQ h hl
  have zx := zC.1
  have zb := zC.2.1
  have h : Hx D g sT aA sT.heap ([(j, .inr (1, [.int (iI (bZ fun i => i == L)), .int (iI (bZ O)), .int (iI (bZ T)), .int (iI (bZ N))]))]) sT.heap [] := h
  skip
  refine lv_aload_n zx zb dX1_isLevelTrue_0 rfl (lv_at hl 0 rfl) ?_
  refine gf1_13 (v := .int (iI (bZ O))) zC h 0 rfl rfl dX1_isLevelTrue_1 ?_
  refine lv_aload_n zx zb dX1_isLevelTrue_4 rfl (lv_at hl 0 rfl) ?_
  refine gf1_16 (v := .int (iI (bZ T))) zC h 0 rfl rfl dX1_isLevelTrue_5 ?_
  refine lv_ior zx zb dX1_isLevelTrue_8 ?_
  rw [bZ_or O T]
  refine lv_aload_n zx zb dX1_isLevelTrue_9 rfl (lv_at hl 0 rfl) ?_
  refine gf1_7 (v := .int (iI (bZ fun i => i == L))) zC h 0 rfl rfl dX1_isLevelTrue_10 ?_
  refine lv_iand zx zb dX1_isLevelTrue_13 ?_
  rw [bZ_and (fun i => O i || T i) (fun i => i == L)]
  refine i_zeq (a := bZ fun i => (O i || T i) && i == L) (tgt := 21) zC dX1_isLevelTrue_14 (by decide) (bZ_R _) (fun c_1 => ?_) (fun c_1 => ?_)
  · skip
    refine lv_iconst (v := iI (0)) zx zb dX1_isLevelTrue_21 rfl ?_
    exact r_zret (b := false) zC zQ zr zk h dX1_isLevelTrue_22 rfl (u := ()) (by rw [(jb_tst (O := fun i => O i || T i) hL).mp c_1]; rfl) (List.Perm.refl _) trivial (Nat.le_of_ble_eq_true rfl) (Nat.le_of_ble_eq_true rfl)
  · skip
    refine lv_iconst (v := iI (1)) zx zb dX1_isLevelTrue_17 rfl ?_
    refine lv_goto (tgt := 22) zx zb dX1_isLevelTrue_18 (by decide) ?_
    exact r_zret (b := true) zC zQ zr zk h dX1_isLevelTrue_22 rfl (u := ()) (by rw [bnf (mt (jb_tst (O := fun i => O i || T i) hL).mpr c_1)]; rfl) (List.Perm.refl _) trivial (Nat.le_of_ble_eq_true rfl) (Nat.le_of_ble_eq_true rfl)

set_option maxHeartbeats 4000000 in
set_option maxRecDepth 100000 in
theorem c_X1_take (l : Launch) (D : va_G) (g : Nat → ClassId) (j L : Nat) (O T N : Nat → Bool) (hL : L < 32) (b : Bool) : Ct (S := Unit) l D g yX1_take cX1_take 3 none rmX1_take [.ref j, .int (bI b)] (wJ j L O T N) (fun u => none) (fun _ => True) (fun u => wJ j L O (up T L (T L && (b != N L))) (up N L false)) := by
  refine Ct.of RX1 rfl (by decide +kernel) [(0, .ref j), (1, .int (bI b))] rfl (Nat.le_of_ble_eq_true rfl) ?_
  intro pg evn sT mI bl mtd cd aA ls ar qQ zC zr zk zi zQ h hl
  have zx := zC.1
  have zb := zC.2.1
  have h : Hx D g sT aA sT.heap ([(j, .inr (1, [.int (iI (bZ fun i => i == L)), .int (iI (bZ O)), .int (iI (bZ T)), .int (iI (bZ N))]))]) sT.heap [] := h
  skip
  refine lv_aload_n zx zb dX1_take_0 rfl (lv_at hl 0 rfl) ?_
  refine gf1_19 (v := .int (iI (bZ N))) zC h 0 rfl rfl dX1_take_1 ?_
  refine lv_aload_n zx zb dX1_take_4 rfl (lv_at hl 0 rfl) ?_
  refine gf1_7 (v := .int (iI (bZ fun i => i == L))) zC h 0 rfl rfl dX1_take_5 ?_
  refine lv_iand zx zb dX1_take_8 ?_
  rw [bZ_and N (fun i => i == L)]
  refine i_zeq (a := bZ fun i => N i && i == L) (tgt := 16) zC dX1_take_9 (by decide) (bZ_R _) (fun c_1 => ?_) (fun c_1 => ?_)
  · skip
    have hN : N L = false := (jb_tst hL).mp c_1
    refine lv_iconst (v := iI (0)) zx zb dX1_take_16 rfl ?_
    refine lv_istore_n (lv' := [(2, .int (iI 0)), (0, .ref j), (1, .int (bI b))]) zx zb dX1_take_17 rfl hl (by decide) rfl (fun ls hl => ?_)
    refine lv_iload_n zx zb dX1_take_18 rfl (lv_at hl 2 rfl) ?_
    refine lv_iload_n zx zb dX1_take_19 rfl (lv_at hl 0 rfl) ?_
    refine b_cne (a := b) (b := false) (tgt := 38) zC dX1_take_20 (by decide) (fun c_2 => ?_) (fun c_2 => ?_)
    · skip
      refine lv_aload_n zx zb dX1_take_38 rfl (lv_at hl 1 rfl) ?_
      refine lv_dup zx zb dX1_take_39 rfl ?_
      refine gf1_19 (v := .int (iI (bZ N))) zC h 0 rfl rfl dX1_take_40 ?_
      refine lv_aload_n zx zb dX1_take_43 rfl (lv_at hl 1 rfl) ?_
      refine gf1_7 (v := .int (iI (bZ fun i => i == L))) zC h 0 rfl rfl dX1_take_44 ?_
      refine lv_iconst (v := iI (-1)) zx zb dX1_take_47 rfl ?_
      refine lv_ixor zx zb dX1_take_48 ?_
      rw [bZ_not (fun i => i == L)]
      refine lv_iand zx zb dX1_take_49 ?_
      rw [bZ_and N (fun i => !(i == L)), jb_clr]
      refine pf1_19 (x := iI (bZ (up N L false))) zC h 0 (ws' := [(j, .inr (1, [.int (iI (bZ fun i => i == L)), .int (iI (bZ O)), .int (iI (bZ T)), .int (iI (bZ (up N L false)))]))]) rfl rfl (Nat.le_of_ble_eq_true rfl) dX1_take_50 (fun H locs h => ?_)
      exact r_vret zC zQ zr zk h dX1_take_53 (u := ()) rfl (List.Perm.of_eq (by rw [show bZ T = bZ (up T L (T L && (b != N L))) from by rw [show (T L && (b != N L)) = T L from by simp_all]; exact jb_keep]; rfl)) trivial (Nat.le_of_ble_eq_true rfl) (Nat.le_of_ble_eq_true rfl)
    · skip
      refine lv_aload_n zx zb dX1_take_23 rfl (lv_at hl 1 rfl) ?_
      refine lv_dup zx zb dX1_take_24 rfl ?_
      refine gf1_16 (v := .int (iI (bZ T))) zC h 0 rfl rfl dX1_take_25 ?_
      refine lv_aload_n zx zb dX1_take_28 rfl (lv_at hl 1 rfl) ?_
      refine gf1_7 (v := .int (iI (bZ fun i => i == L))) zC h 0 rfl rfl dX1_take_29 ?_
      refine lv_iconst (v := iI (-1)) zx zb dX1_take_32 rfl ?_
      refine lv_ixor zx zb dX1_take_33 ?_
      rw [bZ_not (fun i => i == L)]
      refine lv_iand zx zb dX1_take_34 ?_
      rw [bZ_and T (fun i => !(i == L)), jb_clr]
      refine pf1_16 (x := iI (bZ (up T L false))) zC h 0 (ws' := [(j, .inr (1, [.int (iI (bZ fun i => i == L)), .int (iI (bZ O)), .int (iI (bZ (up T L false))), .int (iI (bZ N))]))]) rfl rfl (Nat.le_of_ble_eq_true rfl) dX1_take_35 (fun H locs h => ?_)
      refine lv_aload_n zx zb dX1_take_38 rfl (lv_at hl 1 rfl) ?_
      refine lv_dup zx zb dX1_take_39 rfl ?_
      refine gf1_19 (v := .int (iI (bZ N))) zC h 0 rfl rfl dX1_take_40 ?_
      refine lv_aload_n zx zb dX1_take_43 rfl (lv_at hl 1 rfl) ?_
      refine gf1_7 (v := .int (iI (bZ fun i => i == L))) zC h 0 rfl rfl dX1_take_44 ?_
      refine lv_iconst (v := iI (-1)) zx zb dX1_take_47 rfl ?_
      refine lv_ixor zx zb dX1_take_48 ?_
      rw [bZ_not (fun i => i == L)]
      refine lv_iand zx zb dX1_take_49 ?_
      rw [bZ_and N (fun i => !(i == L)), jb_clr]
      refine pf1_19 (x := iI (bZ (up N L false))) zC h 0 (ws' := [(j, .inr (1, [.int (iI (bZ fun i => i == L)), .int (iI (bZ O)), .int (iI (bZ (up T L false))), .int (iI (bZ (up N L false)))]))]) rfl rfl (Nat.le_of_ble_eq_true rfl) dX1_take_50 (fun H locs h => ?_)
      exact r_vret zC zQ zr zk h dX1_take_53 (u := ()) rfl (List.Perm.of_eq (by rw [show up T L false = up T L (T L && (b != N L)) from by rw [show (T L && (b != N L)) = false from by simp_all]]; rfl)) trivial (Nat.le_of_ble_eq_true rfl) (Nat.le_of_ble_eq_true rfl)
  · skip
    have hN : N L = true := bnf (mt (jb_tst hL).mpr c_1)
    refine lv_iconst (v := iI (1)) zx zb dX1_take_12 rfl ?_
    refine lv_goto (tgt := 17) zx zb dX1_take_13 (by decide) ?_
    refine lv_istore_n (lv' := [(2, .int (iI 1)), (0, .ref j), (1, .int (bI b))]) zx zb dX1_take_17 rfl hl (by decide) rfl (fun ls hl => ?_)
    refine lv_iload_n zx zb dX1_take_18 rfl (lv_at hl 2 rfl) ?_
    refine lv_iload_n zx zb dX1_take_19 rfl (lv_at hl 0 rfl) ?_
    refine b_cne (a := b) (b := true) (tgt := 38) zC dX1_take_20 (by decide) (fun c_3 => ?_) (fun c_3 => ?_)
    · skip
      refine lv_aload_n zx zb dX1_take_38 rfl (lv_at hl 1 rfl) ?_
      refine lv_dup zx zb dX1_take_39 rfl ?_
      refine gf1_19 (v := .int (iI (bZ N))) zC h 0 rfl rfl dX1_take_40 ?_
      refine lv_aload_n zx zb dX1_take_43 rfl (lv_at hl 1 rfl) ?_
      refine gf1_7 (v := .int (iI (bZ fun i => i == L))) zC h 0 rfl rfl dX1_take_44 ?_
      refine lv_iconst (v := iI (-1)) zx zb dX1_take_47 rfl ?_
      refine lv_ixor zx zb dX1_take_48 ?_
      rw [bZ_not (fun i => i == L)]
      refine lv_iand zx zb dX1_take_49 ?_
      rw [bZ_and N (fun i => !(i == L)), jb_clr]
      refine pf1_19 (x := iI (bZ (up N L false))) zC h 0 (ws' := [(j, .inr (1, [.int (iI (bZ fun i => i == L)), .int (iI (bZ O)), .int (iI (bZ T)), .int (iI (bZ (up N L false)))]))]) rfl rfl (Nat.le_of_ble_eq_true rfl) dX1_take_50 (fun H locs h => ?_)
      exact r_vret zC zQ zr zk h dX1_take_53 (u := ()) rfl (List.Perm.of_eq (by rw [show bZ T = bZ (up T L (T L && (b != N L))) from by rw [show (T L && (b != N L)) = T L from by simp_all]; exact jb_keep]; rfl)) trivial (Nat.le_of_ble_eq_true rfl) (Nat.le_of_ble_eq_true rfl)
    · skip
      refine lv_aload_n zx zb dX1_take_23 rfl (lv_at hl 1 rfl) ?_
      refine lv_dup zx zb dX1_take_24 rfl ?_
      refine gf1_16 (v := .int (iI (bZ T))) zC h 0 rfl rfl dX1_take_25 ?_
      refine lv_aload_n zx zb dX1_take_28 rfl (lv_at hl 1 rfl) ?_
      refine gf1_7 (v := .int (iI (bZ fun i => i == L))) zC h 0 rfl rfl dX1_take_29 ?_
      refine lv_iconst (v := iI (-1)) zx zb dX1_take_32 rfl ?_
      refine lv_ixor zx zb dX1_take_33 ?_
      rw [bZ_not (fun i => i == L)]
      refine lv_iand zx zb dX1_take_34 ?_
      rw [bZ_and T (fun i => !(i == L)), jb_clr]
      refine pf1_16 (x := iI (bZ (up T L false))) zC h 0 (ws' := [(j, .inr (1, [.int (iI (bZ fun i => i == L)), .int (iI (bZ O)), .int (iI (bZ (up T L false))), .int (iI (bZ N))]))]) rfl rfl (Nat.le_of_ble_eq_true rfl) dX1_take_35 (fun H locs h => ?_)
      refine lv_aload_n zx zb dX1_take_38 rfl (lv_at hl 1 rfl) ?_
      refine lv_dup zx zb dX1_take_39 rfl ?_
      refine gf1_19 (v := .int (iI (bZ N))) zC h 0 rfl rfl dX1_take_40 ?_
      refine lv_aload_n zx zb dX1_take_43 rfl (lv_at hl 1 rfl) ?_
      refine gf1_7 (v := .int (iI (bZ fun i => i == L))) zC h 0 rfl rfl dX1_take_44 ?_
      refine lv_iconst (v := iI (-1)) zx zb dX1_take_47 rfl ?_
      refine lv_ixor zx zb dX1_take_48 ?_
      rw [bZ_not (fun i => i == L)]
      refine lv_iand zx zb dX1_take_49 ?_
      rw [bZ_and N (fun i => !(i == L)), jb_clr]
      refine pf1_19 (x := iI (bZ (up N L false))) zC h 0 (ws' := [(j, .inr (1, [.int (iI (bZ fun i => i == L)), .int (iI (bZ O)), .int (iI (bZ (up T L false))), .int (iI (bZ (up N L false)))]))]) rfl rfl (Nat.le_of_ble_eq_true rfl) dX1_take_50 (fun H locs h => ?_)
      exact r_vret zC zQ zr zk h dX1_take_53 (u := ()) rfl (List.Perm.of_eq (by rw [show up T L false = up T L (T L && (b != N L)) from by rw [show (T L && (b != N L)) = false from by simp_all]]; rfl)) trivial (Nat.le_of_ble_eq_true rfl) (Nat.le_of_ble_eq_true rfl)

set_option maxHeartbeats 4000000 in
set_option maxRecDepth 100000 in
theorem c_X1_endLevel (l : Launch) (D : va_G) (g : Nat → ClassId) (j L : Nat) (O T N : Nat → Bool) (hL : L + 1 < 32) : Ct (S := Unit) l D g yX1_endLevel cX1_endLevel 2 none rmX1_endLevel [.ref j] (wJ j (L + 1) O T N) (fun u => none) (fun _ => True) (fun u => wJ j L O (up T L (T L && ((O (L + 1) || T (L + 1)) != N L))) (up N L false)) := by
  refine Ct.of RX1 rfl (by decide +kernel) [(0, .ref j)] rfl (Nat.le_of_ble_eq_true rfl) ?_
  intro pg evn sT mI bl mtd cd aA ls ar qQ zC zr zk zi zQ h hl
  have zx := zC.1
  have zb := zC.2.1
  have h : Hx D g sT aA sT.heap ([(j, .inr (1, [.int (iI (bZ fun i => i == L + 1)), .int (iI (bZ O)), .int (iI (bZ T)), .int (iI (bZ N))]))]) sT.heap [] := h
  skip
  refine lv_aload_n zx zb dX1_endLevel_0 rfl (lv_at hl 0 rfl) ?_
  refine r_invV (As := []) (rest := []) (wr := []) (ws2 := fun u_1 => [(j, .inr (1, [.int (iI (bZ fun i => i == L + 1)), .int (iI (bZ O)), .int (iI (bZ T)), .int (iI (bZ N))]))]) 0 0 zC h hl.1 (c_X1_isLevelTrue l D g j (L + 1) O T N hL) (cs1_46 zC ⟨(Nat.le_of_ble_eq_true rfl), (Nat.le_of_ble_eq_true rfl)⟩) (.head _) rfl rfl rfl (Nat.le_of_ble_eq_true rfl) (List.Perm.of_eq (List.append_nil _).symm) (fun u => List.Perm.of_eq (List.append_nil _)) ⟨(Nat.le_of_ble_eq_true rfl), (Nat.le_of_ble_eq_true rfl)⟩ (Nat.le_of_ble_eq_true rfl) (Nat.le_of_ble_eq_true rfl) dX1_endLevel_1 (fun u_1 H locs hu_1 hz_1 h => ?_)
  refine lv_istore_n (lv' := [(1, .int (bI (O (L + 1) || T (L + 1)))), (0, .ref j)]) zx zb dX1_endLevel_4 rfl hl (by decide) rfl (fun ls hl => ?_)
  refine lv_aload_n zx zb dX1_endLevel_5 rfl (lv_at hl 1 rfl) ?_
  refine lv_dup zx zb dX1_endLevel_6 rfl ?_
  refine gf1_7 (v := .int (iI (bZ fun i => i == L + 1))) zC h 0 rfl rfl dX1_endLevel_7 ?_
  refine lv_iconst (v := iI (1)) zx zb dX1_endLevel_10 rfl ?_
  refine lv_iushr zx zb dX1_endLevel_11 rfl ?_
  rw [bZ_ushr1 hL]
  refine pf1_7 (x := iI (bZ fun i => i == L)) zC h 0 (ws' := [(j, .inr (1, [.int (iI (bZ fun i => i == L)), .int (iI (bZ O)), .int (iI (bZ T)), .int (iI (bZ N))]))]) rfl rfl (Nat.le_of_ble_eq_true rfl) dX1_endLevel_12 (fun H locs h => ?_)
  refine lv_aload_n zx zb dX1_endLevel_15 rfl (lv_at hl 1 rfl) ?_
  refine lv_iload_n zx zb dX1_endLevel_16 rfl (lv_at hl 0 rfl) ?_
  refine r_invV (As := [.int (bI (O (L + 1) || T (L + 1)))]) (rest := []) (wr := []) (ws2 := fun u_2 => [(j, .inr (1, [.int (iI (bZ fun i => i == L)), .int (iI (bZ O)), .int (iI (bZ (up T L (T L && ((O (L + 1) || T (L + 1)) != N L))))), .int (iI (bZ (up N L false)))]))]) 0 0 zC h hl.1 (c_X1_take l D g j L O T N (by omega) (O (L + 1) || T (L + 1))) (cs1_42 zC ⟨(Nat.le_of_ble_eq_true rfl), (Nat.le_of_ble_eq_true rfl)⟩) (.head _) rfl rfl rfl (Nat.le_of_ble_eq_true rfl) (List.Perm.of_eq (List.append_nil _).symm) (fun u => List.Perm.of_eq (List.append_nil _)) ⟨(Nat.le_of_ble_eq_true rfl), (Nat.le_of_ble_eq_true rfl)⟩ (Nat.le_of_ble_eq_true rfl) (Nat.le_of_ble_eq_true rfl) dX1_endLevel_17 (fun u_2 H locs hu_2 hz_2 h => ?_)
  exact r_vret zC zQ zr zk h dX1_endLevel_20 (u := ()) rfl (List.Perm.refl _) trivial (Nat.le_of_ble_eq_true rfl) (Nat.le_of_ble_eq_true rfl)
end
