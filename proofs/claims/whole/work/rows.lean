section
-- ===== PART A: goes FIRST, ahead of the names: the tables' words, and 'selects' of the private methods out of them =====
/-- a private method of a class that the tables say can be made, by its rows of tables_1 -/
def lw_okq (q : MethodName × Nat) : Prop := (q.1.cls ≠ "java/lang/invoke/MethodHandle" ∧ q.1.cls ≠ "java/lang/invoke/VarHandle") ∧ Cond.instantiable q.1.cls q.2 ∈ tables_1 ∧ Cond.privateMethod q.1 ∈ tables_1 ∧ Cond.instanceMethod q.1 ∈ tables_1
theorem lw_p0 : lw_okq (⟨"RangePlanner$Reade\x72", "next", "()V"⟩, 10) := ⟨⟨by decide +kernel, by decide +kernel⟩, List.mem_of_getElem? (i := 33) (by decide +kernel), List.mem_of_getElem? (i := 367) (by decide +kernel), List.mem_of_getElem? (i := 368) (by decide +kernel)⟩
theorem lw_p1 : lw_okq (⟨"RangePlanner$Reade\x72", "byteAt", "(I)I"⟩, 10) := ⟨⟨by decide +kernel, by decide +kernel⟩, List.mem_of_getElem? (i := 33) (by decide +kernel), List.mem_of_getElem? (i := 371) (by decide +kernel), List.mem_of_getElem? (i := 372) (by decide +kernel)⟩
theorem lw_p2 : lw_okq (⟨"RangePlanner$Reade\x72", "readWord", "()V"⟩, 10) := ⟨⟨by decide +kernel, by decide +kernel⟩, List.mem_of_getElem? (i := 33) (by decide +kernel), List.mem_of_getElem? (i := 381) (by decide +kernel), List.mem_of_getElem? (i := 382) (by decide +kernel)⟩
theorem lw_p3 : lw_okq (⟨"RangePlanner$Reade\x72", "readWhole", "()V"⟩, 10) := ⟨⟨by decide +kernel, by decide +kernel⟩, List.mem_of_getElem? (i := 33) (by decide +kernel), List.mem_of_getElem? (i := 388) (by decide +kernel), List.mem_of_getElem? (i := 389) (by decide +kernel)⟩
theorem lw_p4 : lw_okq (⟨"RangePlanner$Reade\x72", "readLine", "()Z"⟩, 10) := ⟨⟨by decide +kernel, by decide +kernel⟩, List.mem_of_getElem? (i := 33) (by decide +kernel), List.mem_of_getElem? (i := 392) (by decide +kernel), List.mem_of_getElem? (i := 393) (by decide +kernel)⟩
theorem lw_p5 : lw_okq (⟨"RangePlanner$Reade\x72", "isWord", "(Ljava/lang/String;)Z"⟩, 10) := ⟨⟨by decide +kernel, by decide +kernel⟩, List.mem_of_getElem? (i := 33) (by decide +kernel), List.mem_of_getElem? (i := 397) (by decide +kernel), List.mem_of_getElem? (i := 398) (by decide +kernel)⟩
theorem lw_p6 : lw_okq (⟨"RangePlanner$Reade\x72", "readRow", "()Z"⟩, 10) := ⟨⟨by decide +kernel, by decide +kernel⟩, List.mem_of_getElem? (i := 33) (by decide +kernel), List.mem_of_getElem? (i := 449) (by decide +kernel), List.mem_of_getElem? (i := 450) (by decide +kernel)⟩
theorem lw_p7 : lw_okq (⟨"RangePlanner$Reade\x72", "refuse", "(I)Z"⟩, 10) := ⟨⟨by decide +kernel, by decide +kernel⟩, List.mem_of_getElem? (i := 33) (by decide +kernel), List.mem_of_getElem? (i := 453) (by decide +kernel), List.mem_of_getElem? (i := 454) (by decide +kernel)⟩
theorem lw_p8 : lw_okq (⟨"RangePlanner$Reade\x72", "readCell", "()Z"⟩, 10) := ⟨⟨by decide +kernel, by decide +kernel⟩, List.mem_of_getElem? (i := 33) (by decide +kernel), List.mem_of_getElem? (i := 457) (by decide +kernel), List.mem_of_getElem? (i := 458) (by decide +kernel)⟩
theorem lw_p9 : lw_okq (⟨"RangePlanner$Reade\x72", "isWhole", "(II)Z"⟩, 10) := ⟨⟨by decide +kernel, by decide +kernel⟩, List.mem_of_getElem? (i := 33) (by decide +kernel), List.mem_of_getElem? (i := 461) (by decide +kernel), List.mem_of_getElem? (i := 462) (by decide +kernel)⟩
theorem lw_p10 : lw_okq (⟨"RangePlanner$Reade\x72", "readSet", "()Z"⟩, 10) := ⟨⟨by decide +kernel, by decide +kernel⟩, List.mem_of_getElem? (i := 33) (by decide +kernel), List.mem_of_getElem? (i := 475) (by decide +kernel), List.mem_of_getElem? (i := 476) (by decide +kernel)⟩
theorem lw_p11 : lw_okq (⟨"RangePlanner$Reade\x72", "readAsk", "()Z"⟩, 10) := ⟨⟨by decide +kernel, by decide +kernel⟩, List.mem_of_getElem? (i := 33) (by decide +kernel), List.mem_of_getElem? (i := 489) (by decide +kernel), List.mem_of_getElem? (i := 490) (by decide +kernel)⟩
theorem lw_p12 : lw_okq (⟨"RangePlanner$Reade\x72", "kindHere", "()I"⟩, 10) := ⟨⟨by decide +kernel, by decide +kernel⟩, List.mem_of_getElem? (i := 33) (by decide +kernel), List.mem_of_getElem? (i := 493) (by decide +kernel), List.mem_of_getElem? (i := 494) (by decide +kernel)⟩
theorem lw_p13 : lw_okq (⟨"RangePlanner$Reade\x72", "readTime", "(III)Z"⟩, 10) := ⟨⟨by decide +kernel, by decide +kernel⟩, List.mem_of_getElem? (i := 33) (by decide +kernel), List.mem_of_getElem? (i := 505) (by decide +kernel), List.mem_of_getElem? (i := 506) (by decide +kernel)⟩
theorem lw_p14 : lw_okq (⟨"RangePlanner$Reade\x72", "pass", "(I)Z"⟩, 10) := ⟨⟨by decide +kernel, by decide +kernel⟩, List.mem_of_getElem? (i := 33) (by decide +kernel), List.mem_of_getElem? (i := 514) (by decide +kernel), List.mem_of_getElem? (i := 515) (by decide +kernel)⟩
theorem lw_p15 : lw_okq (⟨"RangePlanne\x72", "isQuestion", "(IIII)Z"⟩, 12) := ⟨⟨by decide +kernel, by decide +kernel⟩, List.mem_of_getElem? (i := 25) (by decide +kernel), List.mem_of_getElem? (i := 564) (by decide +kernel), List.mem_of_getElem? (i := 565) (by decide +kernel)⟩
def lw_privs_1 : List (MethodName × Nat) := [(⟨"RangePlanner$Reade\x72", "next", "()V"⟩, 10), (⟨"RangePlanner$Reade\x72", "byteAt", "(I)I"⟩, 10), (⟨"RangePlanner$Reade\x72", "readWord", "()V"⟩, 10), (⟨"RangePlanner$Reade\x72", "readWhole", "()V"⟩, 10), (⟨"RangePlanner$Reade\x72", "readLine", "()Z"⟩, 10), (⟨"RangePlanner$Reade\x72", "isWord", "(Ljava/lang/String;)Z"⟩, 10), (⟨"RangePlanner$Reade\x72", "readRow", "()Z"⟩, 10), (⟨"RangePlanner$Reade\x72", "refuse", "(I)Z"⟩, 10), (⟨"RangePlanner$Reade\x72", "readCell", "()Z"⟩, 10), (⟨"RangePlanner$Reade\x72", "isWhole", "(II)Z"⟩, 10), (⟨"RangePlanner$Reade\x72", "readSet", "()Z"⟩, 10), (⟨"RangePlanner$Reade\x72", "readAsk", "()Z"⟩, 10), (⟨"RangePlanner$Reade\x72", "kindHere", "()I"⟩, 10), (⟨"RangePlanner$Reade\x72", "readTime", "(III)Z"⟩, 10), (⟨"RangePlanner$Reade\x72", "pass", "(I)Z"⟩, 10), (⟨"RangePlanne\x72", "isQuestion", "(IIII)Z"⟩, 12)]
theorem lw_r1 : ∀ q ∈ lw_privs_1, lw_okq q := List.forall_mem_cons.mpr ⟨lw_p0, List.forall_mem_cons.mpr ⟨lw_p1, List.forall_mem_cons.mpr ⟨lw_p2, List.forall_mem_cons.mpr ⟨lw_p3, List.forall_mem_cons.mpr ⟨lw_p4, List.forall_mem_cons.mpr ⟨lw_p5, List.forall_mem_cons.mpr ⟨lw_p6, List.forall_mem_cons.mpr ⟨lw_p7, List.forall_mem_cons.mpr ⟨lw_p8, List.forall_mem_cons.mpr ⟨lw_p9, List.forall_mem_cons.mpr ⟨lw_p10, List.forall_mem_cons.mpr ⟨lw_p11, List.forall_mem_cons.mpr ⟨lw_p12, List.forall_mem_cons.mpr ⟨lw_p13, List.forall_mem_cons.mpr ⟨lw_p14, List.forall_mem_cons.mpr ⟨lw_p15, fun _ h => absurd h List.not_mem_nil⟩⟩⟩⟩⟩⟩⟩⟩⟩⟩⟩⟩⟩⟩⟩⟩
theorem lw_p16 : lw_okq (⟨"RangePlanne\x72", "timeMeant", "(I)I"⟩, 12) := ⟨⟨by decide +kernel, by decide +kernel⟩, List.mem_of_getElem? (i := 25) (by decide +kernel), List.mem_of_getElem? (i := 575) (by decide +kernel), List.mem_of_getElem? (i := 576) (by decide +kernel)⟩
theorem lw_p17 : lw_okq (⟨"RangePlanne\x72", "takeBackChange", "()V"⟩, 12) := ⟨⟨by decide +kernel, by decide +kernel⟩, List.mem_of_getElem? (i := 25) (by decide +kernel), List.mem_of_getElem? (i := 614) (by decide +kernel), List.mem_of_getElem? (i := 615) (by decide +kernel)⟩
theorem lw_p18 : lw_okq (⟨"RangePlanne\x72", "bound", "(I)I"⟩, 12) := ⟨⟨by decide +kernel, by decide +kernel⟩, List.mem_of_getElem? (i := 25) (by decide +kernel), List.mem_of_getElem? (i := 728) (by decide +kernel), List.mem_of_getElem? (i := 729) (by decide +kernel)⟩
theorem lw_p19 : lw_okq (⟨"RangePlanne\x72", "costOf", "(III)I"⟩, 12) := ⟨⟨by decide +kernel, by decide +kernel⟩, List.mem_of_getElem? (i := 25) (by decide +kernel), List.mem_of_getElem? (i := 736) (by decide +kernel), List.mem_of_getElem? (i := 737) (by decide +kernel)⟩
theorem lw_p20 : lw_okq (⟨"RangePlanner$Split", "leastFrom", "(II)I"⟩, 5) := ⟨⟨by decide +kernel, by decide +kernel⟩, List.mem_of_getElem? (i := 231) (by decide +kernel), List.mem_of_getElem? (i := 760) (by decide +kernel), List.mem_of_getElem? (i := 761) (by decide +kernel)⟩
theorem lw_p21 : lw_okq (⟨"RangePlanner$Split", "costOfRow", "(II)I"⟩, 5) := ⟨⟨by decide +kernel, by decide +kernel⟩, List.mem_of_getElem? (i := 231) (by decide +kernel), List.mem_of_getElem? (i := 764) (by decide +kernel), List.mem_of_getElem? (i := 765) (by decide +kernel)⟩
theorem lw_p22 : lw_okq (⟨"RangePlanner$Split", "furthest", "(III)I"⟩, 5) := ⟨⟨by decide +kernel, by decide +kernel⟩, List.mem_of_getElem? (i := 231) (by decide +kernel), List.mem_of_getElem? (i := 778) (by decide +kernel), List.mem_of_getElem? (i := 779) (by decide +kernel)⟩
theorem lw_p23 : lw_okq (⟨"RangePlanner$Undoing", "come", "(IIII)I"⟩, 4) := ⟨⟨by decide +kernel, by decide +kernel⟩, List.mem_of_getElem? (i := 257) (by decide +kernel), List.mem_of_getElem? (i := 832) (by decide +kernel), List.mem_of_getElem? (i := 833) (by decide +kernel)⟩
theorem lw_p24 : lw_okq (⟨"RangePlanne\x72", "tallyWindow", "()V"⟩, 12) := ⟨⟨by decide +kernel, by decide +kernel⟩, List.mem_of_getElem? (i := 25) (by decide +kernel), List.mem_of_getElem? (i := 853) (by decide +kernel), List.mem_of_getElem? (i := 854) (by decide +kernel)⟩
theorem lw_p25 : lw_okq (⟨"RangePlanner$Tally", "sum", "()J"⟩, 2) := ⟨⟨by decide +kernel, by decide +kernel⟩, List.mem_of_getElem? (i := 145) (by decide +kernel), List.mem_of_getElem? (i := 874) (by decide +kernel), List.mem_of_getElem? (i := 875) (by decide +kernel)⟩
theorem lw_p26 : lw_okq (⟨"RangePlanner$Tally", "unlike", "()J"⟩, 2) := ⟨⟨by decide +kernel, by decide +kernel⟩, List.mem_of_getElem? (i := 145) (by decide +kernel), List.mem_of_getElem? (i := 878) (by decide +kernel), List.mem_of_getElem? (i := 879) (by decide +kernel)⟩
theorem lw_p27 : lw_okq (⟨"RangePlanner$Tally", "mostFrequent", "()I"⟩, 2) := ⟨⟨by decide +kernel, by decide +kernel⟩, List.mem_of_getElem? (i := 145) (by decide +kernel), List.mem_of_getElem? (i := 882) (by decide +kernel), List.mem_of_getElem? (i := 883) (by decide +kernel)⟩
theorem lw_p28 : lw_okq (⟨"RangePlanner$Tally", "powe\x72", "()J"⟩, 2) := ⟨⟨by decide +kernel, by decide +kernel⟩, List.mem_of_getElem? (i := 145) (by decide +kernel), List.mem_of_getElem? (i := 886) (by decide +kernel), List.mem_of_getElem? (i := 887) (by decide +kernel)⟩
theorem lw_p29 : lw_okq (⟨"RangePlanner$Tally", "missing", "()J"⟩, 2) := ⟨⟨by decide +kernel, by decide +kernel⟩, List.mem_of_getElem? (i := 145) (by decide +kernel), List.mem_of_getElem? (i := 890) (by decide +kernel), List.mem_of_getElem? (i := 891) (by decide +kernel)⟩
theorem lw_p30 : lw_okq (⟨"RangePlanner$Tally", "parts", "()J"⟩, 2) := ⟨⟨by decide +kernel, by decide +kernel⟩, List.mem_of_getElem? (i := 145) (by decide +kernel), List.mem_of_getElem? (i := 894) (by decide +kernel), List.mem_of_getElem? (i := 895) (by decide +kernel)⟩
theorem lw_p31 : lw_okq (⟨"RangePlanner$Tally", "join", "(II)Z"⟩, 2) := ⟨⟨by decide +kernel, by decide +kernel⟩, List.mem_of_getElem? (i := 145) (by decide +kernel), List.mem_of_getElem? (i := 899) (by decide +kernel), List.mem_of_getElem? (i := 900) (by decide +kernel)⟩
def lw_privs_2 : List (MethodName × Nat) := [(⟨"RangePlanne\x72", "timeMeant", "(I)I"⟩, 12), (⟨"RangePlanne\x72", "takeBackChange", "()V"⟩, 12), (⟨"RangePlanne\x72", "bound", "(I)I"⟩, 12), (⟨"RangePlanne\x72", "costOf", "(III)I"⟩, 12), (⟨"RangePlanner$Split", "leastFrom", "(II)I"⟩, 5), (⟨"RangePlanner$Split", "costOfRow", "(II)I"⟩, 5), (⟨"RangePlanner$Split", "furthest", "(III)I"⟩, 5), (⟨"RangePlanner$Undoing", "come", "(IIII)I"⟩, 4), (⟨"RangePlanne\x72", "tallyWindow", "()V"⟩, 12), (⟨"RangePlanner$Tally", "sum", "()J"⟩, 2), (⟨"RangePlanner$Tally", "unlike", "()J"⟩, 2), (⟨"RangePlanner$Tally", "mostFrequent", "()I"⟩, 2), (⟨"RangePlanner$Tally", "powe\x72", "()J"⟩, 2), (⟨"RangePlanner$Tally", "missing", "()J"⟩, 2), (⟨"RangePlanner$Tally", "parts", "()J"⟩, 2), (⟨"RangePlanner$Tally", "join", "(II)Z"⟩, 2)]
theorem lw_r2 : ∀ q ∈ lw_privs_2, lw_okq q := List.forall_mem_cons.mpr ⟨lw_p16, List.forall_mem_cons.mpr ⟨lw_p17, List.forall_mem_cons.mpr ⟨lw_p18, List.forall_mem_cons.mpr ⟨lw_p19, List.forall_mem_cons.mpr ⟨lw_p20, List.forall_mem_cons.mpr ⟨lw_p21, List.forall_mem_cons.mpr ⟨lw_p22, List.forall_mem_cons.mpr ⟨lw_p23, List.forall_mem_cons.mpr ⟨lw_p24, List.forall_mem_cons.mpr ⟨lw_p25, List.forall_mem_cons.mpr ⟨lw_p26, List.forall_mem_cons.mpr ⟨lw_p27, List.forall_mem_cons.mpr ⟨lw_p28, List.forall_mem_cons.mpr ⟨lw_p29, List.forall_mem_cons.mpr ⟨lw_p30, List.forall_mem_cons.mpr ⟨lw_p31, fun _ h => absurd h List.not_mem_nil⟩⟩⟩⟩⟩⟩⟩⟩⟩⟩⟩⟩⟩⟩⟩⟩
theorem lw_p32 : lw_okq (⟨"RangePlanner$Tally", "pairs", "()J"⟩, 2) := ⟨⟨by decide +kernel, by decide +kernel⟩, List.mem_of_getElem? (i := 145) (by decide +kernel), List.mem_of_getElem? (i := 903) (by decide +kernel), List.mem_of_getElem? (i := 904) (by decide +kernel)⟩
theorem lw_p33 : lw_okq (⟨"RangePlanne\x72", "answerOf", "(I)J"⟩, 12) := ⟨⟨by decide +kernel, by decide +kernel⟩, List.mem_of_getElem? (i := 25) (by decide +kernel), List.mem_of_getElem? (i := 922) (by decide +kernel), List.mem_of_getElem? (i := 923) (by decide +kernel)⟩
theorem lw_p34 : lw_okq (⟨"RangePlanne\x72", "busiestCell", "()I"⟩, 12) := ⟨⟨by decide +kernel, by decide +kernel⟩, List.mem_of_getElem? (i := 25) (by decide +kernel), List.mem_of_getElem? (i := 935) (by decide +kernel), List.mem_of_getElem? (i := 936) (by decide +kernel)⟩
theorem lw_p35 : lw_okq (⟨"java/lang/Throwable", "fillInStackTrace", "(I)Ljava/lang/Throwable;"⟩, 6) := ⟨⟨by decide +kernel, by decide +kernel⟩, List.mem_of_getElem? (i := 987) (by decide +kernel), List.mem_of_getElem? (i := 985) (by decide +kernel), List.mem_of_getElem? (i := 986) (by decide +kernel)⟩
theorem lw_p36 : lw_okq (⟨"RangePlannerModel", "puts", "(I)V"⟩, 50) := ⟨⟨by decide +kernel, by decide +kernel⟩, List.mem_of_getElem? (i := 1016) (by decide +kernel), List.mem_of_getElem? (i := 1181) (by decide +kernel), List.mem_of_getElem? (i := 1182) (by decide +kernel)⟩
theorem lw_p37 : lw_okq (⟨"RangePlannerModel", "go", "()V"⟩, 50) := ⟨⟨by decide +kernel, by decide +kernel⟩, List.mem_of_getElem? (i := 1016) (by decide +kernel), List.mem_of_getElem? (i := 1192) (by decide +kernel), List.mem_of_getElem? (i := 1193) (by decide +kernel)⟩
theorem lw_p38 : lw_okq (⟨"RangePlannerModel", "byteAt", "(I)I"⟩, 50) := ⟨⟨by decide +kernel, by decide +kernel⟩, List.mem_of_getElem? (i := 1016) (by decide +kernel), List.mem_of_getElem? (i := 1196) (by decide +kernel), List.mem_of_getElem? (i := 1197) (by decide +kernel)⟩
theorem lw_p39 : lw_okq (⟨"RangePlannerModel", "line", "()Z"⟩, 50) := ⟨⟨by decide +kernel, by decide +kernel⟩, List.mem_of_getElem? (i := 1016) (by decide +kernel), List.mem_of_getElem? (i := 1210) (by decide +kernel), List.mem_of_getElem? (i := 1211) (by decide +kernel)⟩
theorem lw_p40 : lw_okq (⟨"RangePlannerModel", "isRow", "()Z"⟩, 50) := ⟨⟨by decide +kernel, by decide +kernel⟩, List.mem_of_getElem? (i := 1016) (by decide +kernel), List.mem_of_getElem? (i := 1214) (by decide +kernel), List.mem_of_getElem? (i := 1215) (by decide +kernel)⟩
theorem lw_p41 : lw_okq (⟨"RangePlannerModel", "isWord", "(IIIIIII)Z"⟩, 50) := ⟨⟨by decide +kernel, by decide +kernel⟩, List.mem_of_getElem? (i := 1016) (by decide +kernel), List.mem_of_getElem? (i := 1218) (by decide +kernel), List.mem_of_getElem? (i := 1219) (by decide +kernel)⟩
theorem lw_p42 : lw_okq (⟨"RangePlannerModel", "byteOf", "(I)I"⟩, 50) := ⟨⟨by decide +kernel, by decide +kernel⟩, List.mem_of_getElem? (i := 1016) (by decide +kernel), List.mem_of_getElem? (i := 1222) (by decide +kernel), List.mem_of_getElem? (i := 1223) (by decide +kernel)⟩
theorem lw_p43 : lw_okq (⟨"RangePlannerModel", "rowLine", "()Z"⟩, 50) := ⟨⟨by decide +kernel, by decide +kernel⟩, List.mem_of_getElem? (i := 1016) (by decide +kernel), List.mem_of_getElem? (i := 1226) (by decide +kernel), List.mem_of_getElem? (i := 1227) (by decide +kernel)⟩
theorem lw_p44 : lw_okq (⟨"RangePlannerModel", "wrong", "(I)Z"⟩, 50) := ⟨⟨by decide +kernel, by decide +kernel⟩, List.mem_of_getElem? (i := 1016) (by decide +kernel), List.mem_of_getElem? (i := 1230) (by decide +kernel), List.mem_of_getElem? (i := 1231) (by decide +kernel)⟩
theorem lw_p45 : lw_okq (⟨"RangePlannerModel", "rowCell", "()Z"⟩, 50) := ⟨⟨by decide +kernel, by decide +kernel⟩, List.mem_of_getElem? (i := 1016) (by decide +kernel), List.mem_of_getElem? (i := 1234) (by decide +kernel), List.mem_of_getElem? (i := 1235) (by decide +kernel)⟩
theorem lw_p46 : lw_okq (⟨"RangePlannerModel", "numbe\x72", "(II)Z"⟩, 50) := ⟨⟨by decide +kernel, by decide +kernel⟩, List.mem_of_getElem? (i := 1016) (by decide +kernel), List.mem_of_getElem? (i := 1238) (by decide +kernel), List.mem_of_getElem? (i := 1239) (by decide +kernel)⟩
theorem lw_p47 : lw_okq (⟨"RangePlannerModel", "isSign", "(I)Z"⟩, 50) := ⟨⟨by decide +kernel, by decide +kernel⟩, List.mem_of_getElem? (i := 1016) (by decide +kernel), List.mem_of_getElem? (i := 1242) (by decide +kernel), List.mem_of_getElem? (i := 1243) (by decide +kernel)⟩
def lw_privs_3 : List (MethodName × Nat) := [(⟨"RangePlanner$Tally", "pairs", "()J"⟩, 2), (⟨"RangePlanne\x72", "answerOf", "(I)J"⟩, 12), (⟨"RangePlanne\x72", "busiestCell", "()I"⟩, 12), (⟨"java/lang/Throwable", "fillInStackTrace", "(I)Ljava/lang/Throwable;"⟩, 6), (⟨"RangePlannerModel", "puts", "(I)V"⟩, 50), (⟨"RangePlannerModel", "go", "()V"⟩, 50), (⟨"RangePlannerModel", "byteAt", "(I)I"⟩, 50), (⟨"RangePlannerModel", "line", "()Z"⟩, 50), (⟨"RangePlannerModel", "isRow", "()Z"⟩, 50), (⟨"RangePlannerModel", "isWord", "(IIIIIII)Z"⟩, 50), (⟨"RangePlannerModel", "byteOf", "(I)I"⟩, 50), (⟨"RangePlannerModel", "rowLine", "()Z"⟩, 50), (⟨"RangePlannerModel", "wrong", "(I)Z"⟩, 50), (⟨"RangePlannerModel", "rowCell", "()Z"⟩, 50), (⟨"RangePlannerModel", "numbe\x72", "(II)Z"⟩, 50), (⟨"RangePlannerModel", "isSign", "(I)Z"⟩, 50)]
theorem lw_r3 : ∀ q ∈ lw_privs_3, lw_okq q := List.forall_mem_cons.mpr ⟨lw_p32, List.forall_mem_cons.mpr ⟨lw_p33, List.forall_mem_cons.mpr ⟨lw_p34, List.forall_mem_cons.mpr ⟨lw_p35, List.forall_mem_cons.mpr ⟨lw_p36, List.forall_mem_cons.mpr ⟨lw_p37, List.forall_mem_cons.mpr ⟨lw_p38, List.forall_mem_cons.mpr ⟨lw_p39, List.forall_mem_cons.mpr ⟨lw_p40, List.forall_mem_cons.mpr ⟨lw_p41, List.forall_mem_cons.mpr ⟨lw_p42, List.forall_mem_cons.mpr ⟨lw_p43, List.forall_mem_cons.mpr ⟨lw_p44, List.forall_mem_cons.mpr ⟨lw_p45, List.forall_mem_cons.mpr ⟨lw_p46, List.forall_mem_cons.mpr ⟨lw_p47, fun _ h => absurd h List.not_mem_nil⟩⟩⟩⟩⟩⟩⟩⟩⟩⟩⟩⟩⟩⟩⟩⟩
theorem lw_p48 : lw_okq (⟨"RangePlannerModel", "isSet", "()Z"⟩, 50) := ⟨⟨by decide +kernel, by decide +kernel⟩, List.mem_of_getElem? (i := 1016) (by decide +kernel), List.mem_of_getElem? (i := 1246) (by decide +kernel), List.mem_of_getElem? (i := 1247) (by decide +kernel)⟩
theorem lw_p49 : lw_okq (⟨"RangePlannerModel", "setLine", "()Z"⟩, 50) := ⟨⟨by decide +kernel, by decide +kernel⟩, List.mem_of_getElem? (i := 1016) (by decide +kernel), List.mem_of_getElem? (i := 1250) (by decide +kernel), List.mem_of_getElem? (i := 1251) (by decide +kernel)⟩
theorem lw_p50 : lw_okq (⟨"RangePlannerModel", "isAsk", "()Z"⟩, 50) := ⟨⟨by decide +kernel, by decide +kernel⟩, List.mem_of_getElem? (i := 1016) (by decide +kernel), List.mem_of_getElem? (i := 1254) (by decide +kernel), List.mem_of_getElem? (i := 1255) (by decide +kernel)⟩
theorem lw_p51 : lw_okq (⟨"RangePlannerModel", "askLine", "()Z"⟩, 50) := ⟨⟨by decide +kernel, by decide +kernel⟩, List.mem_of_getElem? (i := 1016) (by decide +kernel), List.mem_of_getElem? (i := 1258) (by decide +kernel), List.mem_of_getElem? (i := 1259) (by decide +kernel)⟩
theorem lw_p52 : lw_okq (⟨"RangePlannerModel", "kindHere", "()I"⟩, 50) := ⟨⟨by decide +kernel, by decide +kernel⟩, List.mem_of_getElem? (i := 1016) (by decide +kernel), List.mem_of_getElem? (i := 1262) (by decide +kernel), List.mem_of_getElem? (i := 1263) (by decide +kernel)⟩
theorem lw_p53 : lw_okq (⟨"RangePlannerModel", "takes", "()V"⟩, 50) := ⟨⟨by decide +kernel, by decide +kernel⟩, List.mem_of_getElem? (i := 1016) (by decide +kernel), List.mem_of_getElem? (i := 1266) (by decide +kernel), List.mem_of_getElem? (i := 1267) (by decide +kernel)⟩
theorem lw_p54 : lw_okq (⟨"RangePlannerModel", "isCell", "(I)Z"⟩, 50) := ⟨⟨by decide +kernel, by decide +kernel⟩, List.mem_of_getElem? (i := 1016) (by decide +kernel), List.mem_of_getElem? (i := 1274) (by decide +kernel), List.mem_of_getElem? (i := 1275) (by decide +kernel)⟩
theorem lw_p55 : lw_okq (⟨"RangePlannerModel", "keeps", "(IIIII)V"⟩, 50) := ⟨⟨by decide +kernel, by decide +kernel⟩, List.mem_of_getElem? (i := 1016) (by decide +kernel), List.mem_of_getElem? (i := 1279) (by decide +kernel), List.mem_of_getElem? (i := 1280) (by decide +kernel)⟩
theorem lw_p56 : lw_okq (⟨"RangePlannerModel", "canAsk", "(IIII)Z"⟩, 50) := ⟨⟨by decide +kernel, by decide +kernel⟩, List.mem_of_getElem? (i := 1016) (by decide +kernel), List.mem_of_getElem? (i := 1291) (by decide +kernel), List.mem_of_getElem? (i := 1292) (by decide +kernel)⟩
theorem lw_p57 : lw_okq (⟨"RangePlannerModel", "asks", "(IIII)V"⟩, 50) := ⟨⟨by decide +kernel, by decide +kernel⟩, List.mem_of_getElem? (i := 1016) (by decide +kernel), List.mem_of_getElem? (i := 1297) (by decide +kernel), List.mem_of_getElem? (i := 1298) (by decide +kernel)⟩
theorem lw_p58 : lw_okq (⟨"RangePlannerModel", "cellAt", "(II)I"⟩, 50) := ⟨⟨by decide +kernel, by decide +kernel⟩, List.mem_of_getElem? (i := 1016) (by decide +kernel), List.mem_of_getElem? (i := 1327) (by decide +kernel), List.mem_of_getElem? (i := 1328) (by decide +kernel)⟩
theorem lw_p59 : lw_okq (⟨"RangePlannerModel", "isQuestion", "(I)Z"⟩, 50) := ⟨⟨by decide +kernel, by decide +kernel⟩, List.mem_of_getElem? (i := 1016) (by decide +kernel), List.mem_of_getElem? (i := 1335) (by decide +kernel), List.mem_of_getElem? (i := 1336) (by decide +kernel)⟩
theorem lw_p60 : lw_okq (⟨"RangePlannerModel", "answerOf", "(I)J"⟩, 50) := ⟨⟨by decide +kernel, by decide +kernel⟩, List.mem_of_getElem? (i := 1016) (by decide +kernel), List.mem_of_getElem? (i := 1339) (by decide +kernel), List.mem_of_getElem? (i := 1340) (by decide +kernel)⟩
theorem lw_p61 : lw_okq (⟨"RangePlannerModel", "lays", "(III)V"⟩, 50) := ⟨⟨by decide +kernel, by decide +kernel⟩, List.mem_of_getElem? (i := 1016) (by decide +kernel), List.mem_of_getElem? (i := 1343) (by decide +kernel), List.mem_of_getElem? (i := 1344) (by decide +kernel)⟩
theorem lw_p62 : lw_okq (⟨"RangePlannerModel", "tellsOf", "(I)J"⟩, 50) := ⟨⟨by decide +kernel, by decide +kernel⟩, List.mem_of_getElem? (i := 1016) (by decide +kernel), List.mem_of_getElem? (i := 1347) (by decide +kernel), List.mem_of_getElem? (i := 1348) (by decide +kernel)⟩
theorem lw_p63 : lw_okq (⟨"RangePlannerModel", "most", "()I"⟩, 50) := ⟨⟨by decide +kernel, by decide +kernel⟩, List.mem_of_getElem? (i := 1016) (by decide +kernel), List.mem_of_getElem? (i := 1351) (by decide +kernel), List.mem_of_getElem? (i := 1352) (by decide +kernel)⟩
def lw_privs_4 : List (MethodName × Nat) := [(⟨"RangePlannerModel", "isSet", "()Z"⟩, 50), (⟨"RangePlannerModel", "setLine", "()Z"⟩, 50), (⟨"RangePlannerModel", "isAsk", "()Z"⟩, 50), (⟨"RangePlannerModel", "askLine", "()Z"⟩, 50), (⟨"RangePlannerModel", "kindHere", "()I"⟩, 50), (⟨"RangePlannerModel", "takes", "()V"⟩, 50), (⟨"RangePlannerModel", "isCell", "(I)Z"⟩, 50), (⟨"RangePlannerModel", "keeps", "(IIIII)V"⟩, 50), (⟨"RangePlannerModel", "canAsk", "(IIII)Z"⟩, 50), (⟨"RangePlannerModel", "asks", "(IIII)V"⟩, 50), (⟨"RangePlannerModel", "cellAt", "(II)I"⟩, 50), (⟨"RangePlannerModel", "isQuestion", "(I)Z"⟩, 50), (⟨"RangePlannerModel", "answerOf", "(I)J"⟩, 50), (⟨"RangePlannerModel", "lays", "(III)V"⟩, 50), (⟨"RangePlannerModel", "tellsOf", "(I)J"⟩, 50), (⟨"RangePlannerModel", "most", "()I"⟩, 50)]
theorem lw_r4 : ∀ q ∈ lw_privs_4, lw_okq q := List.forall_mem_cons.mpr ⟨lw_p48, List.forall_mem_cons.mpr ⟨lw_p49, List.forall_mem_cons.mpr ⟨lw_p50, List.forall_mem_cons.mpr ⟨lw_p51, List.forall_mem_cons.mpr ⟨lw_p52, List.forall_mem_cons.mpr ⟨lw_p53, List.forall_mem_cons.mpr ⟨lw_p54, List.forall_mem_cons.mpr ⟨lw_p55, List.forall_mem_cons.mpr ⟨lw_p56, List.forall_mem_cons.mpr ⟨lw_p57, List.forall_mem_cons.mpr ⟨lw_p58, List.forall_mem_cons.mpr ⟨lw_p59, List.forall_mem_cons.mpr ⟨lw_p60, List.forall_mem_cons.mpr ⟨lw_p61, List.forall_mem_cons.mpr ⟨lw_p62, List.forall_mem_cons.mpr ⟨lw_p63, fun _ h => absurd h List.not_mem_nil⟩⟩⟩⟩⟩⟩⟩⟩⟩⟩⟩⟩⟩⟩⟩⟩
theorem lw_p64 : lw_okq (⟨"RangePlannerModel", "parts", "()I"⟩, 50) := ⟨⟨by decide +kernel, by decide +kernel⟩, List.mem_of_getElem? (i := 1016) (by decide +kernel), List.mem_of_getElem? (i := 1356) (by decide +kernel), List.mem_of_getElem? (i := 1357) (by decide +kernel)⟩
theorem lw_p65 : lw_okq (⟨"RangePlannerModel", "firstAlike", "(I)I"⟩, 50) := ⟨⟨by decide +kernel, by decide +kernel⟩, List.mem_of_getElem? (i := 1016) (by decide +kernel), List.mem_of_getElem? (i := 1365) (by decide +kernel), List.mem_of_getElem? (i := 1366) (by decide +kernel)⟩
theorem lw_p66 : lw_okq (⟨"RangePlannerModel", "areAlike", "(II)Z"⟩, 50) := ⟨⟨by decide +kernel, by decide +kernel⟩, List.mem_of_getElem? (i := 1016) (by decide +kernel), List.mem_of_getElem? (i := 1369) (by decide +kernel), List.mem_of_getElem? (i := 1370) (by decide +kernel)⟩
theorem lw_p67 : lw_okq (⟨"RangePlannerModel", "plans", "(II)V"⟩, 50) := ⟨⟨by decide +kernel, by decide +kernel⟩, List.mem_of_getElem? (i := 1016) (by decide +kernel), List.mem_of_getElem? (i := 1381) (by decide +kernel), List.mem_of_getElem? (i := 1382) (by decide +kernel)⟩
theorem lw_p68 : lw_okq (⟨"RangePlannerModel", "weightOf", "(III)J"⟩, 50) := ⟨⟨by decide +kernel, by decide +kernel⟩, List.mem_of_getElem? (i := 1016) (by decide +kernel), List.mem_of_getElem? (i := 1388) (by decide +kernel), List.mem_of_getElem? (i := 1389) (by decide +kernel)⟩
theorem lw_p69 : lw_okq (⟨"RangePlannerModel", "costOf", "(II)I"⟩, 50) := ⟨⟨by decide +kernel, by decide +kernel⟩, List.mem_of_getElem? (i := 1016) (by decide +kernel), List.mem_of_getElem? (i := 1399) (by decide +kernel), List.mem_of_getElem? (i := 1400) (by decide +kernel)⟩
theorem lw_p70 : lw_okq (⟨"RangePlannerModel", "cost", "(II)I"⟩, 50) := ⟨⟨by decide +kernel, by decide +kernel⟩, List.mem_of_getElem? (i := 1016) (by decide +kernel), List.mem_of_getElem? (i := 1403) (by decide +kernel), List.mem_of_getElem? (i := 1404) (by decide +kernel)⟩
theorem lw_p71 : lw_okq (⟨"RangePlannerModel", "along", "(II)V"⟩, 50) := ⟨⟨by decide +kernel, by decide +kernel⟩, List.mem_of_getElem? (i := 1016) (by decide +kernel), List.mem_of_getElem? (i := 1407) (by decide +kernel), List.mem_of_getElem? (i := 1408) (by decide +kernel)⟩
theorem lw_p72 : lw_okq (⟨"RangePlannerModel", "laysSplit", "(I)V"⟩, 50) := ⟨⟨by decide +kernel, by decide +kernel⟩, List.mem_of_getElem? (i := 1016) (by decide +kernel), List.mem_of_getElem? (i := 1423) (by decide +kernel), List.mem_of_getElem? (i := 1424) (by decide +kernel)⟩
theorem lw_p73 : lw_okq (⟨"RangePlannerModel", "share", "(II)I"⟩, 50) := ⟨⟨by decide +kernel, by decide +kernel⟩, List.mem_of_getElem? (i := 1016) (by decide +kernel), List.mem_of_getElem? (i := 1428) (by decide +kernel), List.mem_of_getElem? (i := 1429) (by decide +kernel)⟩
theorem lw_p74 : lw_okq (⟨"RangePlannerModel", "moves", "(I)Z"⟩, 50) := ⟨⟨by decide +kernel, by decide +kernel⟩, List.mem_of_getElem? (i := 1016) (by decide +kernel), List.mem_of_getElem? (i := 1445) (by decide +kernel), List.mem_of_getElem? (i := 1446) (by decide +kernel)⟩
theorem lw_p75 : lw_okq (⟨"RangePlannerModel", "tells", "(II)V"⟩, 50) := ⟨⟨by decide +kernel, by decide +kernel⟩, List.mem_of_getElem? (i := 1016) (by decide +kernel), List.mem_of_getElem? (i := 1449) (by decide +kernel), List.mem_of_getElem? (i := 1450) (by decide +kernel)⟩
theorem lw_p76 : lw_okq (⟨"RangePlannerModel", "laysWindow", "()V"⟩, 50) := ⟨⟨by decide +kernel, by decide +kernel⟩, List.mem_of_getElem? (i := 1016) (by decide +kernel), List.mem_of_getElem? (i := 1466) (by decide +kernel), List.mem_of_getElem? (i := 1467) (by decide +kernel)⟩
theorem lw_p77 : lw_okq (⟨"RangePlannerModel", "laysUndone", "(I)V"⟩, 50) := ⟨⟨by decide +kernel, by decide +kernel⟩, List.mem_of_getElem? (i := 1016) (by decide +kernel), List.mem_of_getElem? (i := 1482) (by decide +kernel), List.mem_of_getElem? (i := 1483) (by decide +kernel)⟩
theorem lw_p78 : lw_okq (⟨"RangePlannerModel", "isUndone", "(I)Z"⟩, 50) := ⟨⟨by decide +kernel, by decide +kernel⟩, List.mem_of_getElem? (i := 1016) (by decide +kernel), List.mem_of_getElem? (i := 1486) (by decide +kernel), List.mem_of_getElem? (i := 1487) (by decide +kernel)⟩
theorem lw_p79 : lw_okq (⟨"RangePlannerModel", "undoneWeight", "(II)J"⟩, 50) := ⟨⟨by decide +kernel, by decide +kernel⟩, List.mem_of_getElem? (i := 1016) (by decide +kernel), List.mem_of_getElem? (i := 1490) (by decide +kernel), List.mem_of_getElem? (i := 1491) (by decide +kernel)⟩
def lw_privs_5 : List (MethodName × Nat) := [(⟨"RangePlannerModel", "parts", "()I"⟩, 50), (⟨"RangePlannerModel", "firstAlike", "(I)I"⟩, 50), (⟨"RangePlannerModel", "areAlike", "(II)Z"⟩, 50), (⟨"RangePlannerModel", "plans", "(II)V"⟩, 50), (⟨"RangePlannerModel", "weightOf", "(III)J"⟩, 50), (⟨"RangePlannerModel", "costOf", "(II)I"⟩, 50), (⟨"RangePlannerModel", "cost", "(II)I"⟩, 50), (⟨"RangePlannerModel", "along", "(II)V"⟩, 50), (⟨"RangePlannerModel", "laysSplit", "(I)V"⟩, 50), (⟨"RangePlannerModel", "share", "(II)I"⟩, 50), (⟨"RangePlannerModel", "moves", "(I)Z"⟩, 50), (⟨"RangePlannerModel", "tells", "(II)V"⟩, 50), (⟨"RangePlannerModel", "laysWindow", "()V"⟩, 50), (⟨"RangePlannerModel", "laysUndone", "(I)V"⟩, 50), (⟨"RangePlannerModel", "isUndone", "(I)Z"⟩, 50), (⟨"RangePlannerModel", "undoneWeight", "(II)J"⟩, 50)]
theorem lw_r5 : ∀ q ∈ lw_privs_5, lw_okq q := List.forall_mem_cons.mpr ⟨lw_p64, List.forall_mem_cons.mpr ⟨lw_p65, List.forall_mem_cons.mpr ⟨lw_p66, List.forall_mem_cons.mpr ⟨lw_p67, List.forall_mem_cons.mpr ⟨lw_p68, List.forall_mem_cons.mpr ⟨lw_p69, List.forall_mem_cons.mpr ⟨lw_p70, List.forall_mem_cons.mpr ⟨lw_p71, List.forall_mem_cons.mpr ⟨lw_p72, List.forall_mem_cons.mpr ⟨lw_p73, List.forall_mem_cons.mpr ⟨lw_p74, List.forall_mem_cons.mpr ⟨lw_p75, List.forall_mem_cons.mpr ⟨lw_p76, List.forall_mem_cons.mpr ⟨lw_p77, List.forall_mem_cons.mpr ⟨lw_p78, List.forall_mem_cons.mpr ⟨lw_p79, fun _ h => absurd h List.not_mem_nil⟩⟩⟩⟩⟩⟩⟩⟩⟩⟩⟩⟩⟩⟩⟩⟩
theorem lw_p80 : lw_okq (⟨"RangePlannerModel", "having", "(I)I"⟩, 50) := ⟨⟨by decide +kernel, by decide +kernel⟩, List.mem_of_getElem? (i := 1016) (by decide +kernel), List.mem_of_getElem? (i := 1502) (by decide +kernel), List.mem_of_getElem? (i := 1503) (by decide +kernel)⟩
def lw_privs_6 : List (MethodName × Nat) := [(⟨"RangePlannerModel", "having", "(I)I"⟩, 50)]
theorem lw_r6 : ∀ q ∈ lw_privs_6, lw_okq q := List.forall_mem_cons.mpr ⟨lw_p80, fun _ h => absurd h List.not_mem_nil⟩
def lw_privs : List (MethodName × Nat) := lw_privs_1 ++ (lw_privs_2 ++ (lw_privs_3 ++ (lw_privs_4 ++ (lw_privs_5 ++ (lw_privs_6)))))
def lw_tbl : List Cond := k2_sels lw_privs ++ tables_1
theorem lw_privs_ok : ∀ q ∈ lw_privs, lw_okq q := by
  show ∀ q ∈ lw_privs_1 ++ (lw_privs_2 ++ (lw_privs_3 ++ (lw_privs_4 ++ (lw_privs_5 ++ (lw_privs_6))))), lw_okq q
  exact List.forall_mem_append.mpr ⟨lw_r1, List.forall_mem_append.mpr ⟨lw_r2, List.forall_mem_append.mpr ⟨lw_r3, List.forall_mem_append.mpr ⟨lw_r4, List.forall_mem_append.mpr ⟨lw_r5, lw_r6⟩⟩⟩⟩⟩
end
section
def RX0 : String := "RangePlanner$Acts"
def TX0 : u_T := fun k => match k with
  | 0 => ("RangePlanner$Acts", "kind", "[I", true)
  | 1 => ("RangePlanner$Acts", "was", "[[I", true)
  | 2 => ("RangePlanner$Acts", "size", "I", false)
  | _ => ("RangePlanner$Acts", "next", "I", false)
def tyX0 : Nat → FieldType := fun k => match k with
  | 0 => .array .int
  | 1 => .array (.array .int)
  | 2 => .int
  | _ => .int
abbrev wsX00 : List Cond := u_ws RX0 TX0 4
theorem nmX0 : ∀ a, a < 4 → ∀ b, b < 4 → a ≠ b → (TX0 a).2.1 ≠ (TX0 b).2.1 := by decide +kernel
theorem tyX0_ok : ∀ k, k < 4 → parseFieldDescriptor (TX0 k).2.2.1 = some (tyX0 k) := by decide +kernel
abbrev cX0_init : ByteArray := prog_2_method_1_code
def yX0_init : MethodName := ⟨RX0, "<init>", "()V"⟩
abbrev cX0_note : ByteArray := prog_2_method_2_code
def yX0_note : MethodName := ⟨RX0, "note", "(IIIII)V"⟩
abbrev cX0_takeLast : ByteArray := prog_2_method_3_code
def yX0_takeLast : MethodName := ⟨RX0, "takeLast", "()I"⟩
def RX1 : String := "RangePlanner$Plan"
def TX1 : u_T := fun k => match k with
  | 0 => ("RangePlanner$Plan", "sorted", "LRangePlanner$Sorted;", true)
  | 1 => ("RangePlanner$Plan", "probe", "LRangePlanner$Window;", true)
  | _ => ("RangePlanner$Plan", "most", "I", false)
def tyX1 : Nat → FieldType := fun k => match k with
  | 0 => .object "RangePlanner$Sorted"
  | 1 => .object "RangePlanner$Window"
  | _ => .int
abbrev wsX10 : List Cond := u_ws RX1 TX1 3
theorem nmX1 : ∀ a, a < 3 → ∀ b, b < 3 → a ≠ b → (TX1 a).2.1 ≠ (TX1 b).2.1 := by decide +kernel
theorem tyX1_ok : ∀ k, k < 3 → parseFieldDescriptor (TX1 k).2.2.1 = some (tyX1 k) := by decide +kernel
abbrev cX1_init : ByteArray := prog_3_method_1_code
def yX1_init : MethodName := ⟨RX1, "<init>", "()V"⟩
abbrev cX1_lay : ByteArray := prog_3_method_2_code
def yX1_lay : MethodName := ⟨RX1, "lay", "(LRangePlanner$Questions;III)V"⟩
abbrev cX1_keyOf : ByteArray := prog_3_method_3_code
def yX1_keyOf : MethodName := ⟨RX1, "keyOf", "(LRangePlanner$Questions;III)I"⟩
abbrev cX1_thereAndBack : ByteArray := prog_3_method_4_code
def yX1_thereAndBack : MethodName := ⟨RX1, "thereAndBack", "(II)I"⟩
abbrev cX1_curve : ByteArray := prog_3_method_5_code
def yX1_curve : MethodName := ⟨RX1, "curve", "(II)I"⟩
abbrev cX1_follow : ByteArray := prog_3_method_6_code
def yX1_follow : MethodName := ⟨RX1, "follow", "(LRangePlanner$Questions;)V"⟩
abbrev cX1_goAhead : ByteArray := prog_3_method_7_code
def yX1_goAhead : MethodName := ⟨RX1, "goAhead", "(LRangePlanner$Questions;I)I"⟩
def RX2 : String := "RangePlanner$Questions"
def TX2 : u_T := fun k => match k with
  | 0 => ("RangePlanner$Questions", "kind", "[I", true)
  | 1 => ("RangePlanner$Questions", "first", "[I", true)
  | 2 => ("RangePlanner$Questions", "last", "[I", true)
  | 3 => ("RangePlanner$Questions", "time", "[I", true)
  | _ => ("RangePlanner$Questions", "size", "I", false)
def tyX2 : Nat → FieldType := fun k => match k with
  | 0 => .array .int
  | 1 => .array .int
  | 2 => .array .int
  | 3 => .array .int
  | _ => .int
abbrev wsX20 : List Cond := u_ws RX2 TX2 5
theorem nmX2 : ∀ a, a < 5 → ∀ b, b < 5 → a ≠ b → (TX2 a).2.1 ≠ (TX2 b).2.1 := by decide +kernel
theorem tyX2_ok : ∀ k, k < 5 → parseFieldDescriptor (TX2 k).2.2.1 = some (tyX2 k) := by decide +kernel
abbrev cX2_init : ByteArray := prog_4_method_1_code
def yX2_init : MethodName := ⟨RX2, "<init>", "()V"⟩
abbrev cX2_isPlannedKind : ByteArray := prog_4_method_2_code
def yX2_isPlannedKind : MethodName := ⟨RX2, "isPlannedKind", "(I)Z"⟩
abbrev cX2_copyFrom : ByteArray := prog_4_method_3_code
def yX2_copyFrom : MethodName := ⟨RX2, "copyFrom", "(LRangePlanner$Questions;)V"⟩
abbrev cX2_has : ByteArray := prog_4_method_4_code
def yX2_has : MethodName := ⟨RX2, "has", "(I)Z"⟩
abbrev cX2_add : ByteArray := prog_4_method_5_code
def yX2_add : MethodName := ⟨RX2, "add", "(IIII)V"⟩
abbrev cX2_removeLast : ByteArray := prog_4_method_6_code
def yX2_removeLast : MethodName := ⟨RX2, "removeLast", "()V"⟩
abbrev cX2_isPlanned : ByteArray := prog_4_method_7_code
def yX2_isPlanned : MethodName := ⟨RX2, "isPlanned", "(I)Z"⟩
abbrev cX2_areAlike : ByteArray := prog_4_method_8_code
def yX2_areAlike : MethodName := ⟨RX2, "areAlike", "(II)Z"⟩
abbrev cX2_firstAlike : ByteArray := prog_4_method_9_code
def yX2_firstAlike : MethodName := ⟨RX2, "firstAlike", "(I)I"⟩
abbrev cX2_howManyAlike : ByteArray := prog_4_method_10_code
def yX2_howManyAlike : MethodName := ⟨RX2, "howManyAlike", "(I)I"⟩
abbrev cX2_unlikeOnes : ByteArray := prog_4_method_11_code
def yX2_unlikeOnes : MethodName := ⟨RX2, "unlikeOnes", "()I"⟩
abbrev cX2_howManyHave : ByteArray := prog_4_method_12_code
def yX2_howManyHave : MethodName := ⟨RX2, "howManyHave", "(I)I"⟩
abbrev cX2_aim : ByteArray := prog_4_method_13_code
def yX2_aim : MethodName := ⟨RX2, "aim", "(LRangePlanner$Window;I)V"⟩
def RX3 : String := "RangePlanner$Reade\x72"
def TX3 : u_T := fun k => match k with
  | 0 => ("RangePlanner$Reade\x72", "tape", "[B", true)
  | 1 => ("RangePlanner$Reade\x72", "row", "LRangePlanner$Row;", true)
  | 2 => ("RangePlanner$Reade\x72", "questions", "LRangePlanner$Questions;", true)
  | 3 => ("RangePlanner$Reade\x72", "size", "I", false)
  | 4 => ("RangePlanner$Reade\x72", "end", "I", false)
  | 5 => ("RangePlanner$Reade\x72", "sort", "I", false)
  | 6 => ("RangePlanner$Reade\x72", "place", "I", false)
  | 7 => ("RangePlanner$Reade\x72", "behind", "I", false)
  | 8 => ("RangePlanner$Reade\x72", "value", "I", false)
  | _ => ("RangePlanner$Reade\x72", "fault", "I", false)
def tyX3 : Nat → FieldType := fun k => match k with
  | 0 => .array .byte
  | 1 => .object "RangePlanner$Row"
  | 2 => .object "RangePlanner$Questions"
  | 3 => .int
  | 4 => .int
  | 5 => .int
  | 6 => .int
  | 7 => .int
  | 8 => .int
  | _ => .int
abbrev wsX30 : List Cond := u_ws RX3 TX3 10
theorem nmX3 : ∀ a, a < 10 → ∀ b, b < 10 → a ≠ b → (TX3 a).2.1 ≠ (TX3 b).2.1 := by decide +kernel
theorem tyX3_ok : ∀ k, k < 10 → parseFieldDescriptor (TX3 k).2.2.1 = some (tyX3 k) := by decide +kernel
abbrev cX3_init : ByteArray := prog_5_method_1_code
def yX3_init : MethodName := ⟨RX3, "<init>", "()V"⟩
abbrev cX3_put : ByteArray := prog_5_method_2_code
def yX3_put : MethodName := ⟨RX3, "put", "(I)V"⟩
abbrev cX3_read : ByteArray := prog_5_method_3_code
def yX3_read : MethodName := ⟨RX3, "read", "(I)I"⟩
abbrev cX3_readLine : ByteArray := prog_5_method_4_code
def yX3_readLine : MethodName := ⟨RX3, "readLine", "()Z"⟩
abbrev cX3_readRow : ByteArray := prog_5_method_5_code
def yX3_readRow : MethodName := ⟨RX3, "readRow", "()Z"⟩
abbrev cX3_readCell : ByteArray := prog_5_method_6_code
def yX3_readCell : MethodName := ⟨RX3, "readCell", "()Z"⟩
abbrev cX3_readSet : ByteArray := prog_5_method_7_code
def yX3_readSet : MethodName := ⟨RX3, "readSet", "()Z"⟩
abbrev cX3_readAsk : ByteArray := prog_5_method_8_code
def yX3_readAsk : MethodName := ⟨RX3, "readAsk", "()Z"⟩
abbrev cX3_readTime : ByteArray := prog_5_method_9_code
def yX3_readTime : MethodName := ⟨RX3, "readTime", "(III)Z"⟩
abbrev cX3_kindHere : ByteArray := prog_5_method_10_code
def yX3_kindHere : MethodName := ⟨RX3, "kindHere", "()I"⟩
abbrev cX3_refuse : ByteArray := prog_5_method_11_code
def yX3_refuse : MethodName := ⟨RX3, "refuse", "(I)Z"⟩
abbrev cX3_pass : ByteArray := prog_5_method_12_code
def yX3_pass : MethodName := ⟨RX3, "pass", "(I)Z"⟩
abbrev cX3_isWhole : ByteArray := prog_5_method_13_code
def yX3_isWhole : MethodName := ⟨RX3, "isWhole", "(II)Z"⟩
abbrev cX3_isWord : ByteArray := prog_5_method_14_code
def yX3_isWord : MethodName := ⟨RX3, "isWord", "(Ljava/lang/String;)Z"⟩
abbrev cX3_next : ByteArray := prog_5_method_15_code
def yX3_next : MethodName := ⟨RX3, "next", "()V"⟩
abbrev cX3_readWord : ByteArray := prog_5_method_16_code
def yX3_readWord : MethodName := ⟨RX3, "readWord", "()V"⟩
abbrev cX3_readWhole : ByteArray := prog_5_method_17_code
def yX3_readWhole : MethodName := ⟨RX3, "readWhole", "()V"⟩
abbrev cX3_byteAt : ByteArray := prog_5_method_18_code
def yX3_byteAt : MethodName := ⟨RX3, "byteAt", "(I)I"⟩
abbrev cX3_isBlank : ByteArray := prog_5_method_19_code
def yX3_isBlank : MethodName := ⟨RX3, "isBlank", "(I)Z"⟩
abbrev cX3_isLetter : ByteArray := prog_5_method_20_code
def yX3_isLetter : MethodName := ⟨RX3, "isLette\x72", "(I)Z"⟩
abbrev cX3_isDigit : ByteArray := prog_5_method_21_code
def yX3_isDigit : MethodName := ⟨RX3, "isDigit", "(I)Z"⟩
def RX4 : String := "RangePlanner$Row"
def TX4 : u_T := fun k => match k with
  | 0 => ("RangePlanner$Row", "cells", "[I", true)
  | 1 => ("RangePlanner$Row", "changedCell", "[I", true)
  | 2 => ("RangePlanner$Row", "changedTo", "[I", true)
  | 3 => ("RangePlanner$Row", "shown", "[I", true)
  | 4 => ("RangePlanner$Row", "size", "I", false)
  | _ => ("RangePlanner$Row", "changes", "I", false)
def tyX4 : Nat → FieldType := fun k => match k with
  | 0 => .array .int
  | 1 => .array .int
  | 2 => .array .int
  | 3 => .array .int
  | 4 => .int
  | _ => .int
abbrev wsX40 : List Cond := u_ws RX4 TX4 6
theorem nmX4 : ∀ a, a < 6 → ∀ b, b < 6 → a ≠ b → (TX4 a).2.1 ≠ (TX4 b).2.1 := by decide +kernel
theorem tyX4_ok : ∀ k, k < 6 → parseFieldDescriptor (TX4 k).2.2.1 = some (tyX4 k) := by decide +kernel
abbrev cX4_init : ByteArray := prog_6_method_1_code
def yX4_init : MethodName := ⟨RX4, "<init>", "()V"⟩
abbrev cX4_clear : ByteArray := prog_6_method_2_code
def yX4_clear : MethodName := ⟨RX4, "clea\x72", "()V"⟩
abbrev cX4_copyFrom : ByteArray := prog_6_method_3_code
def yX4_copyFrom : MethodName := ⟨RX4, "copyFrom", "(LRangePlanner$Row;)V"⟩
abbrev cX4_has : ByteArray := prog_6_method_4_code
def yX4_has : MethodName := ⟨RX4, "has", "(I)Z"⟩
abbrev cX4_hasTime : ByteArray := prog_6_method_5_code
def yX4_hasTime : MethodName := ⟨RX4, "hasTime", "(I)Z"⟩
abbrev cX4_hasRoomForCell : ByteArray := prog_6_method_6_code
def yX4_hasRoomForCell : MethodName := ⟨RX4, "hasRoomForCell", "()Z"⟩
abbrev cX4_hasRoomForChange : ByteArray := prog_6_method_7_code
def yX4_hasRoomForChange : MethodName := ⟨RX4, "hasRoomForChange", "()Z"⟩
abbrev cX4_addCell : ByteArray := prog_6_method_8_code
def yX4_addCell : MethodName := ⟨RX4, "addCell", "(I)V"⟩
abbrev cX4_setCell : ByteArray := prog_6_method_9_code
def yX4_setCell : MethodName := ⟨RX4, "setCell", "(II)V"⟩
abbrev cX4_addChange : ByteArray := prog_6_method_10_code
def yX4_addChange : MethodName := ⟨RX4, "addChange", "(II)V"⟩
abbrev cX4_removeLastChange : ByteArray := prog_6_method_11_code
def yX4_removeLastChange : MethodName := ⟨RX4, "removeLastChange", "()V"⟩
abbrev cX4_numberAt : ByteArray := prog_6_method_12_code
def yX4_numberAt : MethodName := ⟨RX4, "numberAt", "(II)I"⟩
abbrev cX4_asAt : ByteArray := prog_6_method_13_code
def yX4_asAt : MethodName := ⟨RX4, "asAt", "(I)[I"⟩
def RX5 : String := "RangePlanner$Sorted"
def TX5 : u_T := fun k => match k with
  | 0 => ("RangePlanner$Sorted", "keys", "[I", true)
  | _ => ("RangePlanner$Sorted", "size", "I", false)
def tyX5 : Nat → FieldType := fun k => match k with
  | 0 => .array .int
  | _ => .int
abbrev wsX50 : List Cond := u_ws RX5 TX5 2
theorem nmX5 : ∀ a, a < 2 → ∀ b, b < 2 → a ≠ b → (TX5 a).2.1 ≠ (TX5 b).2.1 := by decide +kernel
theorem tyX5_ok : ∀ k, k < 2 → parseFieldDescriptor (TX5 k).2.2.1 = some (tyX5 k) := by decide +kernel
abbrev cX5_init : ByteArray := prog_7_method_1_code
def yX5_init : MethodName := ⟨RX5, "<init>", "()V"⟩
abbrev cX5_key : ByteArray := prog_7_method_2_code
def yX5_key : MethodName := ⟨RX5, "key", "(IIII)I"⟩
abbrev cX5_insert : ByteArray := prog_7_method_3_code
def yX5_insert : MethodName := ⟨RX5, "insert", "(I)V"⟩
abbrev cX5_question : ByteArray := prog_7_method_4_code
def yX5_question : MethodName := ⟨RX5, "question", "(I)I"⟩
abbrev cX5_goesOn : ByteArray := prog_7_method_5_code
def yX5_goesOn : MethodName := ⟨RX5, "goesOn", "(I)Z"⟩
def RX6 : String := "RangePlanner$Split"
def TX6 : u_T := fun k => match k with
  | 0 => ("RangePlanner$Split", "anew", "[I", true)
  | 1 => ("RangePlanner$Split", "onward", "[I", true)
  | 2 => ("RangePlanner$Split", "least", "[[I", true)
  | 3 => ("RangePlanner$Split", "fresh", "LRangePlanner$Window;", true)
  | _ => ("RangePlanner$Split", "size", "I", false)
def tyX6 : Nat → FieldType := fun k => match k with
  | 0 => .array .int
  | 1 => .array .int
  | 2 => .array (.array .int)
  | 3 => .object "RangePlanner$Window"
  | _ => .int
abbrev wsX60 : List Cond := u_ws RX6 TX6 5
theorem nmX6 : ∀ a, a < 5 → ∀ b, b < 5 → a ≠ b → (TX6 a).2.1 ≠ (TX6 b).2.1 := by decide +kernel
theorem tyX6_ok : ∀ k, k < 5 → parseFieldDescriptor (TX6 k).2.2.1 = some (tyX6 k) := by decide +kernel
abbrev cX6_init : ByteArray := prog_8_method_1_code
def yX6_init : MethodName := ⟨RX6, "<init>", "()V"⟩
abbrev cX6_measure : ByteArray := prog_8_method_2_code
def yX6_measure : MethodName := ⟨RX6, "measure", "(LRangePlanner$Plan;LRangePlanner$Questions;I)V"⟩
abbrev cX6_costOfRow : ByteArray := prog_8_method_3_code
def yX6_costOfRow : MethodName := ⟨RX6, "costOfRow", "(II)I"⟩
abbrev cX6_solve : ByteArray := prog_8_method_4_code
def yX6_solve : MethodName := ⟨RX6, "solve", "(I)V"⟩
abbrev cX6_leastFrom : ByteArray := prog_8_method_5_code
def yX6_leastFrom : MethodName := ⟨RX6, "leastFrom", "(II)I"⟩
abbrev cX6_greatest : ByteArray := prog_8_method_6_code
def yX6_greatest : MethodName := ⟨RX6, "greatest", "(I)I"⟩
abbrev cX6_share : ByteArray := prog_8_method_7_code
def yX6_share : MethodName := ⟨RX6, "share", "(II)I"⟩
abbrev cX6_furthest : ByteArray := prog_8_method_8_code
def yX6_furthest : MethodName := ⟨RX6, "furthest", "(III)I"⟩
def RX7 : String := "RangePlanner$Tally"
def TX7 : u_T := fun k => match k with
  | 0 => ("RangePlanner$Tally", "times", "[I", true)
  | _ => ("RangePlanner$Tally", "partOf", "[I", true)
def tyX7 : Nat → FieldType := fun k => match k with
  | 0 => .array .int
  | _ => .array .int
abbrev wsX70 : List Cond := u_ws RX7 TX7 2
theorem nmX7 : ∀ a, a < 2 → ∀ b, b < 2 → a ≠ b → (TX7 a).2.1 ≠ (TX7 b).2.1 := by decide +kernel
theorem tyX7_ok : ∀ k, k < 2 → parseFieldDescriptor (TX7 k).2.2.1 = some (tyX7 k) := by decide +kernel
abbrev cX7_init : ByteArray := prog_9_method_1_code
def yX7_init : MethodName := ⟨RX7, "<init>", "()V"⟩
abbrev cX7_take : ByteArray := prog_9_method_2_code
def yX7_take : MethodName := ⟨RX7, "take", "([III)V"⟩
abbrev cX7_tell : ByteArray := prog_9_method_3_code
def yX7_tell : MethodName := ⟨RX7, "tell", "(I)J"⟩
abbrev cX7_sum : ByteArray := prog_9_method_4_code
def yX7_sum : MethodName := ⟨RX7, "sum", "()J"⟩
abbrev cX7_unlike : ByteArray := prog_9_method_5_code
def yX7_unlike : MethodName := ⟨RX7, "unlike", "()J"⟩
abbrev cX7_mostFrequent : ByteArray := prog_9_method_6_code
def yX7_mostFrequent : MethodName := ⟨RX7, "mostFrequent", "()I"⟩
abbrev cX7_power : ByteArray := prog_9_method_7_code
def yX7_power : MethodName := ⟨RX7, "powe\x72", "()J"⟩
abbrev cX7_missing : ByteArray := prog_9_method_8_code
def yX7_missing : MethodName := ⟨RX7, "missing", "()J"⟩
abbrev cX7_parts : ByteArray := prog_9_method_9_code
def yX7_parts : MethodName := ⟨RX7, "parts", "()J"⟩
abbrev cX7_join : ByteArray := prog_9_method_10_code
def yX7_join : MethodName := ⟨RX7, "join", "(II)Z"⟩
abbrev cX7_pairs : ByteArray := prog_9_method_11_code
def yX7_pairs : MethodName := ⟨RX7, "pairs", "()J"⟩
def RX8 : String := "RangePlanner$Undoing"
def TX8 : u_T := fun k => match k with
  | 0 => ("RangePlanner$Undoing", "sorted", "LRangePlanner$Sorted;", true)
  | 1 => ("RangePlanner$Undoing", "adds", "I", false)
  | 2 => ("RangePlanner$Undoing", "groups", "I", false)
  | _ => ("RangePlanner$Undoing", "deepest", "I", false)
def tyX8 : Nat → FieldType := fun k => match k with
  | 0 => .object "RangePlanner$Sorted"
  | 1 => .int
  | 2 => .int
  | _ => .int
abbrev wsX80 : List Cond := u_ws RX8 TX8 4
theorem nmX8 : ∀ a, a < 4 → ∀ b, b < 4 → a ≠ b → (TX8 a).2.1 ≠ (TX8 b).2.1 := by decide +kernel
theorem tyX8_ok : ∀ k, k < 4 → parseFieldDescriptor (TX8 k).2.2.1 = some (tyX8 k) := by decide +kernel
abbrev cX8_init : ByteArray := prog_10_method_1_code
def yX8_init : MethodName := ⟨RX8, "<init>", "()V"⟩
abbrev cX8_lay : ByteArray := prog_10_method_2_code
def yX8_lay : MethodName := ⟨RX8, "lay", "(LRangePlanner$Questions;I)V"⟩
abbrev cX8_follow : ByteArray := prog_10_method_3_code
def yX8_follow : MethodName := ⟨RX8, "follow", "(LRangePlanner$Questions;II)V"⟩
abbrev cX8_come : ByteArray := prog_10_method_4_code
def yX8_come : MethodName := ⟨RX8, "come", "(IIII)I"⟩
def RX9 : String := "RangePlanner$Window"
def TX9 : u_T := fun k => match k with
  | 0 => ("RangePlanner$Window", "ahead", "[I", true)
  | 1 => ("RangePlanner$Window", "left", "I", false)
  | 2 => ("RangePlanner$Window", "right", "I", false)
  | 3 => ("RangePlanner$Window", "now", "I", false)
  | 4 => ("RangePlanner$Window", "ends", "I", false)
  | 5 => ("RangePlanner$Window", "turns", "I", false)
  | _ => ("RangePlanner$Window", "cameTo", "I", false)
def tyX9 : Nat → FieldType := fun k => match k with
  | 0 => .array .int
  | 1 => .int
  | 2 => .int
  | 3 => .int
  | 4 => .int
  | 5 => .int
  | _ => .int
abbrev wsX90 : List Cond := u_ws RX9 TX9 7
theorem nmX9 : ∀ a, a < 7 → ∀ b, b < 7 → a ≠ b → (TX9 a).2.1 ≠ (TX9 b).2.1 := by decide +kernel
theorem tyX9_ok : ∀ k, k < 7 → parseFieldDescriptor (TX9 k).2.2.1 = some (tyX9 k) := by decide +kernel
abbrev cX9_init : ByteArray := prog_11_method_1_code
def yX9_init : MethodName := ⟨RX9, "<init>", "()V"⟩
abbrev cX9_begin : ByteArray := prog_11_method_2_code
def yX9_begin : MethodName := ⟨RX9, "begin", "()V"⟩
abbrev cX9_has : ByteArray := prog_11_method_3_code
def yX9_has : MethodName := ⟨RX9, "has", "(I)Z"⟩
abbrev cX9_cost : ByteArray := prog_11_method_4_code
def yX9_cost : MethodName := ⟨RX9, "cost", "(I)I"⟩
abbrev cX9_aim : ByteArray := prog_11_method_5_code
def yX9_aim : MethodName := ⟨RX9, "aim", "(III)V"⟩
abbrev cX9_distance : ByteArray := prog_11_method_6_code
def yX9_distance : MethodName := ⟨RX9, "distance", "()I"⟩
abbrev cX9_nextKind : ByteArray := prog_11_method_7_code
def yX9_nextKind : MethodName := ⟨RX9, "nextKind", "()I"⟩
abbrev cX9_make : ByteArray := prog_11_method_8_code
def yX9_make : MethodName := ⟨RX9, "make", "(I)I"⟩
abbrev cX9_shift : ByteArray := prog_11_method_9_code
def yX9_shift : MethodName := ⟨RX9, "shift", "(II)I"⟩
abbrev cX9_movedBy : ByteArray := prog_11_method_10_code
def yX9_movedBy : MethodName := ⟨RX9, "movedBy", "(I)I"⟩
def RX10 : String := "RangePlanne\x72"
def TX10 : u_T := fun k => match k with
  | 0 => ("RangePlanne\x72", "reade\x72", "LRangePlanner$Reader;", true)
  | 1 => ("RangePlanne\x72", "row", "LRangePlanner$Row;", true)
  | 2 => ("RangePlanne\x72", "questions", "LRangePlanner$Questions;", true)
  | 3 => ("RangePlanne\x72", "tally", "LRangePlanner$Tally;", true)
  | 4 => ("RangePlanne\x72", "plan", "LRangePlanner$Plan;", true)
  | 5 => ("RangePlanne\x72", "workers", "LRangePlanner$Split;", true)
  | 6 => ("RangePlanne\x72", "undoing", "LRangePlanner$Undoing;", true)
  | 7 => ("RangePlanne\x72", "walke\x72", "LRangePlanner$Window;", true)
  | 8 => ("RangePlanne\x72", "acts", "LRangePlanner$Acts;", true)
  | 9 => ("RangePlanne\x72", "weight", "I", false)
  | 10 => ("RangePlanne\x72", "orde\x72", "I", false)
  | _ => ("RangePlanne\x72", "block", "I", false)
def tyX10 : Nat → FieldType := fun k => match k with
  | 0 => .object "RangePlanner$Reade\x72"
  | 1 => .object "RangePlanner$Row"
  | 2 => .object "RangePlanner$Questions"
  | 3 => .object "RangePlanner$Tally"
  | 4 => .object "RangePlanner$Plan"
  | 5 => .object "RangePlanner$Split"
  | 6 => .object "RangePlanner$Undoing"
  | 7 => .object "RangePlanner$Window"
  | 8 => .object "RangePlanner$Acts"
  | 9 => .int
  | 10 => .int
  | _ => .int
abbrev wsX100 : List Cond := u_ws RX10 TX10 12
theorem nmX10 : ∀ a, a < 12 → ∀ b, b < 12 → a ≠ b → (TX10 a).2.1 ≠ (TX10 b).2.1 := by decide +kernel
theorem tyX10_ok : ∀ k, k < 12 → parseFieldDescriptor (TX10 k).2.2.1 = some (tyX10 k) := by decide +kernel
abbrev cX10_init : ByteArray := prog_1_method_1_code
def yX10_init : MethodName := ⟨RX10, "<init>", "()V"⟩
abbrev cX10_feed : ByteArray := prog_1_method_2_code
def yX10_feed : MethodName := ⟨RX10, "feed", "(IIIII)I"⟩
abbrev cX10_text : ByteArray := prog_1_method_3_code
def yX10_text : MethodName := ⟨RX10, "text", "(I)I"⟩
abbrev cX10_cell : ByteArray := prog_1_method_4_code
def yX10_cell : MethodName := ⟨RX10, "cell", "(II)I"⟩
abbrev cX10_change : ByteArray := prog_1_method_5_code
def yX10_change : MethodName := ⟨RX10, "change", "(II)I"⟩
abbrev cX10_ask : ByteArray := prog_1_method_6_code
def yX10_ask : MethodName := ⟨RX10, "ask", "(IIII)I"⟩
abbrev cX10_drop : ByteArray := prog_1_method_7_code
def yX10_drop : MethodName := ⟨RX10, "drop", "()I"⟩
abbrev cX10_weight : ByteArray := prog_1_method_8_code
def yX10_weight : MethodName := ⟨RX10, "weight", "(I)I"⟩
abbrev cX10_set : ByteArray := prog_1_method_9_code
def yX10_set : MethodName := ⟨RX10, "set", "(II)I"⟩
abbrev cX10_back : ByteArray := prog_1_method_10_code
def yX10_back : MethodName := ⟨RX10, "back", "()Z"⟩
abbrev cX10_answer : ByteArray := prog_1_method_11_code
def yX10_answer : MethodName := ⟨RX10, "answe\x72", "(I)J"⟩
abbrev cX10_at : ByteArray := prog_1_method_12_code
def yX10_at : MethodName := ⟨RX10, "at", "(II)I"⟩
abbrev cX10_of : ByteArray := prog_1_method_13_code
def yX10_of : MethodName := ⟨RX10, "of", "(II)I"⟩
abbrev cX10_planned : ByteArray := prog_1_method_14_code
def yX10_planned : MethodName := ⟨RX10, "planned", "(III)I"⟩
abbrev cX10_moves : ByteArray := prog_1_method_15_code
def yX10_moves : MethodName := ⟨RX10, "moves", "(III)I"⟩
abbrev cX10_best : ByteArray := prog_1_method_16_code
def yX10_best : MethodName := ⟨RX10, "best", "(II)I"⟩
abbrev cX10_split : ByteArray := prog_1_method_17_code
def yX10_split : MethodName := ⟨RX10, "split", "(II)I"⟩
abbrev cX10_move : ByteArray := prog_1_method_18_code
def yX10_move : MethodName := ⟨RX10, "move", "(II)I"⟩
abbrev cX10_saves : ByteArray := prog_1_method_19_code
def yX10_saves : MethodName := ⟨RX10, "saves", "(I)I"⟩
abbrev cX10_would : ByteArray := prog_1_method_20_code
def yX10_would : MethodName := ⟨RX10, "would", "(IIII)I"⟩
abbrev cX10_undone : ByteArray := prog_1_method_21_code
def yX10_undone : MethodName := ⟨RX10, "undone", "(II)I"⟩
abbrev cX10_adds : ByteArray := prog_1_method_22_code
def yX10_adds : MethodName := ⟨RX10, "adds", "(II)I"⟩
abbrev cX10_walk : ByteArray := prog_1_method_23_code
def yX10_walk : MethodName := ⟨RX10, "walk", "(I)I"⟩
abbrev cX10_home : ByteArray := prog_1_method_24_code
def yX10_home : MethodName := ⟨RX10, "home", "()I"⟩
abbrev cX10_window : ByteArray := prog_1_method_25_code
def yX10_window : MethodName := ⟨RX10, "window", "(I)I"⟩
abbrev cX10_holds : ByteArray := prog_1_method_26_code
def yX10_holds : MethodName := ⟨RX10, "holds", "(I)I"⟩
abbrev cX10_tells : ByteArray := prog_1_method_27_code
def yX10_tells : MethodName := ⟨RX10, "tells", "(I)J"⟩
abbrev cX10_touched : ByteArray := prog_1_method_28_code
def yX10_touched : MethodName := ⟨RX10, "touched", "(II)I"⟩
abbrev cX10_count : ByteArray := prog_1_method_29_code
def yX10_count : MethodName := ⟨RX10, "count", "(I)I"⟩
abbrev cX10_isNumber : ByteArray := prog_1_method_30_code
def yX10_isNumber : MethodName := ⟨RX10, "isNumbe\x72", "(I)Z"⟩
abbrev cX10_isKind : ByteArray := prog_1_method_31_code
def yX10_isKind : MethodName := ⟨RX10, "isKind", "(I)Z"⟩
abbrev cX10_isBlock : ByteArray := prog_1_method_32_code
def yX10_isBlock : MethodName := ⟨RX10, "isBlock", "(I)Z"⟩
abbrev cX10_isPlan : ByteArray := prog_1_method_33_code
def yX10_isPlan : MethodName := ⟨RX10, "isPlan", "(II)Z"⟩
abbrev cX10_isQuestion : ByteArray := prog_1_method_34_code
def yX10_isQuestion : MethodName := ⟨RX10, "isQuestion", "(IIII)Z"⟩
abbrev cX10_timeMeant : ByteArray := prog_1_method_35_code
def yX10_timeMeant : MethodName := ⟨RX10, "timeMeant", "(I)I"⟩
abbrev cX10_takeBackChange : ByteArray := prog_1_method_36_code
def yX10_takeBackChange : MethodName := ⟨RX10, "takeBackChange", "()V"⟩
abbrev cX10_answerOf : ByteArray := prog_1_method_37_code
def yX10_answerOf : MethodName := ⟨RX10, "answerOf", "(I)J"⟩
abbrev cX10_tallyWindow : ByteArray := prog_1_method_38_code
def yX10_tallyWindow : MethodName := ⟨RX10, "tallyWindow", "()V"⟩
abbrev cX10_costOf : ByteArray := prog_1_method_39_code
def yX10_costOf : MethodName := ⟨RX10, "costOf", "(III)I"⟩
abbrev cX10_bound : ByteArray := prog_1_method_40_code
def yX10_bound : MethodName := ⟨RX10, "bound", "(I)I"⟩
abbrev cX10_busiestCell : ByteArray := prog_1_method_41_code
def yX10_busiestCell : MethodName := ⟨RX10, "busiestCell", "()I"⟩
def RX11 : String := "RangePlannerModel"
def TX11 : u_T := fun k => match k with
  | 0 => ("RangePlannerModel", "thrown", "I", false)
  | 1 => ("RangePlannerModel", "tape", "[B", true)
  | 2 => ("RangePlannerModel", "taped", "I", false)
  | 3 => ("RangePlannerModel", "cells", "I", false)
  | 4 => ("RangePlannerModel", "cell", "[I", true)
  | 5 => ("RangePlannerModel", "changes", "I", false)
  | 6 => ("RangePlannerModel", "changeCell", "[I", true)
  | 7 => ("RangePlannerModel", "changeTo", "[I", true)
  | 8 => ("RangePlannerModel", "questions", "I", false)
  | 9 => ("RangePlannerModel", "ask", "[I", true)
  | 10 => ("RangePlannerModel", "weight", "I", false)
  | 11 => ("RangePlannerModel", "orde\x72", "I", false)
  | 12 => ("RangePlannerModel", "block", "I", false)
  | 13 => ("RangePlannerModel", "toldCells", "I", false)
  | 14 => ("RangePlannerModel", "toldCell", "[I", true)
  | 15 => ("RangePlannerModel", "toldChanges", "I", false)
  | 16 => ("RangePlannerModel", "toldChangeCell", "[I", true)
  | 17 => ("RangePlannerModel", "toldChangeTo", "[I", true)
  | 18 => ("RangePlannerModel", "toldQuestions", "I", false)
  | 19 => ("RangePlannerModel", "toldAsk", "[I", true)
  | 20 => ("RangePlannerModel", "size", "I", false)
  | 21 => ("RangePlannerModel", "at", "I", false)
  | 22 => ("RangePlannerModel", "next", "I", false)
  | 23 => ("RangePlannerModel", "token", "I", false)
  | 24 => ("RangePlannerModel", "whole", "I", false)
  | 25 => ("RangePlannerModel", "sign", "I", false)
  | 26 => ("RangePlannerModel", "fault", "I", false)
  | 27 => ("RangePlannerModel", "told", "I", false)
  | 28 => ("RangePlannerModel", "backs", "[I", true)
  | 29 => ("RangePlannerModel", "backMany", "I", false)
  | 30 => ("RangePlannerModel", "often", "[I", true)
  | 31 => ("RangePlannerModel", "node", "[I", true)
  | 32 => ("RangePlannerModel", "plan", "[I", true)
  | 33 => ("RangePlannerModel", "planned", "I", false)
  | 34 => ("RangePlannerModel", "without", "I", false)
  | 35 => ("RangePlannerModel", "endsOf", "I", false)
  | 36 => ("RangePlannerModel", "turnsOf", "I", false)
  | 37 => ("RangePlannerModel", "mostOf", "I", false)
  | 38 => ("RangePlannerModel", "least", "[I", true)
  | 39 => ("RangePlannerModel", "left", "I", false)
  | 40 => ("RangePlannerModel", "right", "I", false)
  | 41 => ("RangePlannerModel", "now", "I", false)
  | 42 => ("RangePlannerModel", "done", "I", false)
  | 43 => ("RangePlannerModel", "ends", "I", false)
  | 44 => ("RangePlannerModel", "turns", "I", false)
  | 45 => ("RangePlannerModel", "l", "I", false)
  | 46 => ("RangePlannerModel", "\x72", "I", false)
  | 47 => ("RangePlannerModel", "t", "I", false)
  | 48 => ("RangePlannerModel", "moved", "I", false)
  | _ => ("RangePlannerModel", "movedCell", "I", false)
def tyX11 : Nat → FieldType := fun k => match k with
  | 0 => .int
  | 1 => .array .byte
  | 2 => .int
  | 3 => .int
  | 4 => .array .int
  | 5 => .int
  | 6 => .array .int
  | 7 => .array .int
  | 8 => .int
  | 9 => .array .int
  | 10 => .int
  | 11 => .int
  | 12 => .int
  | 13 => .int
  | 14 => .array .int
  | 15 => .int
  | 16 => .array .int
  | 17 => .array .int
  | 18 => .int
  | 19 => .array .int
  | 20 => .int
  | 21 => .int
  | 22 => .int
  | 23 => .int
  | 24 => .int
  | 25 => .int
  | 26 => .int
  | 27 => .int
  | 28 => .array .int
  | 29 => .int
  | 30 => .array .int
  | 31 => .array .int
  | 32 => .array .int
  | 33 => .int
  | 34 => .int
  | 35 => .int
  | 36 => .int
  | 37 => .int
  | 38 => .array .int
  | 39 => .int
  | 40 => .int
  | 41 => .int
  | 42 => .int
  | 43 => .int
  | 44 => .int
  | 45 => .int
  | 46 => .int
  | 47 => .int
  | 48 => .int
  | _ => .int
abbrev wsX110 : List Cond := u_ws RX11 TX11 50
theorem nmX11 : ∀ a, a < 50 → ∀ b, b < 50 → a ≠ b → (TX11 a).2.1 ≠ (TX11 b).2.1 := by decide +kernel
theorem tyX11_ok : ∀ k, k < 50 → parseFieldDescriptor (TX11 k).2.2.1 = some (tyX11 k) := by decide +kernel
abbrev cX11_init : ByteArray := prog_13_method_1_code
def yX11_init : MethodName := ⟨RX11, "<init>", "()V"⟩
abbrev cX11_thrown : ByteArray := prog_13_method_2_code
def yX11_thrown : MethodName := ⟨RX11, "thrown", "()I"⟩
abbrev cX11_within : ByteArray := prog_13_method_3_code
def yX11_within : MethodName := ⟨RX11, "within", "(JJJ)Z"⟩
abbrev cX11_feed : ByteArray := prog_13_method_4_code
def yX11_feed : MethodName := ⟨RX11, "feed", "(IIIII)I"⟩
abbrev cX11_puts : ByteArray := prog_13_method_5_code
def yX11_puts : MethodName := ⟨RX11, "puts", "(I)V"⟩
abbrev cX11_byteAt : ByteArray := prog_13_method_6_code
def yX11_byteAt : MethodName := ⟨RX11, "byteAt", "(I)I"⟩
abbrev cX11_isLetter : ByteArray := prog_13_method_7_code
def yX11_isLetter : MethodName := ⟨RX11, "isLette\x72", "(I)Z"⟩
abbrev cX11_isDigit : ByteArray := prog_13_method_8_code
def yX11_isDigit : MethodName := ⟨RX11, "isDigit", "(I)Z"⟩
abbrev cX11_go : ByteArray := prog_13_method_9_code
def yX11_go : MethodName := ⟨RX11, "go", "()V"⟩
abbrev cX11_wrong : ByteArray := prog_13_method_10_code
def yX11_wrong : MethodName := ⟨RX11, "wrong", "(I)Z"⟩
abbrev cX11_isSign : ByteArray := prog_13_method_11_code
def yX11_isSign : MethodName := ⟨RX11, "isSign", "(I)Z"⟩
abbrev cX11_isWord : ByteArray := prog_13_method_12_code
def yX11_isWord : MethodName := ⟨RX11, "isWord", "(IIIIIII)Z"⟩
abbrev cX11_byteOf : ByteArray := prog_13_method_13_code
def yX11_byteOf : MethodName := ⟨RX11, "byteOf", "(I)I"⟩
abbrev cX11_isSet : ByteArray := prog_13_method_14_code
def yX11_isSet : MethodName := ⟨RX11, "isSet", "()Z"⟩
abbrev cX11_isAsk : ByteArray := prog_13_method_15_code
def yX11_isAsk : MethodName := ⟨RX11, "isAsk", "()Z"⟩
abbrev cX11_isRow : ByteArray := prog_13_method_16_code
def yX11_isRow : MethodName := ⟨RX11, "isRow", "()Z"⟩
abbrev cX11_kindHere : ByteArray := prog_13_method_17_code
def yX11_kindHere : MethodName := ⟨RX11, "kindHere", "()I"⟩
abbrev cX11_number : ByteArray := prog_13_method_18_code
def yX11_number : MethodName := ⟨RX11, "numbe\x72", "(II)Z"⟩
abbrev cX11_rowCell : ByteArray := prog_13_method_19_code
def yX11_rowCell : MethodName := ⟨RX11, "rowCell", "()Z"⟩
abbrev cX11_rowLine : ByteArray := prog_13_method_20_code
def yX11_rowLine : MethodName := ⟨RX11, "rowLine", "()Z"⟩
abbrev cX11_setLine : ByteArray := prog_13_method_21_code
def yX11_setLine : MethodName := ⟨RX11, "setLine", "()Z"⟩
abbrev cX11_askLine : ByteArray := prog_13_method_22_code
def yX11_askLine : MethodName := ⟨RX11, "askLine", "()Z"⟩
abbrev cX11_line : ByteArray := prog_13_method_23_code
def yX11_line : MethodName := ⟨RX11, "line", "()Z"⟩
abbrev cX11_text : ByteArray := prog_13_method_24_code
def yX11_text : MethodName := ⟨RX11, "text", "(I)I"⟩
abbrev cX11_takes : ByteArray := prog_13_method_25_code
def yX11_takes : MethodName := ⟨RX11, "takes", "()V"⟩
abbrev cX11_keeps : ByteArray := prog_13_method_26_code
def yX11_keeps : MethodName := ⟨RX11, "keeps", "(IIIII)V"⟩
abbrev cX11_isCell : ByteArray := prog_13_method_27_code
def yX11_isCell : MethodName := ⟨RX11, "isCell", "(I)Z"⟩
abbrev cX11_isQuestion : ByteArray := prog_13_method_28_code
def yX11_isQuestion : MethodName := ⟨RX11, "isQuestion", "(I)Z"⟩
abbrev cX11_cell : ByteArray := prog_13_method_29_code
def yX11_cell : MethodName := ⟨RX11, "cell", "(II)I"⟩
abbrev cX11_change : ByteArray := prog_13_method_30_code
def yX11_change : MethodName := ⟨RX11, "change", "(II)I"⟩
abbrev cX11_canAsk : ByteArray := prog_13_method_31_code
def yX11_canAsk : MethodName := ⟨RX11, "canAsk", "(IIII)Z"⟩
abbrev cX11_asks : ByteArray := prog_13_method_32_code
def yX11_asks : MethodName := ⟨RX11, "asks", "(IIII)V"⟩
abbrev cX11_ask : ByteArray := prog_13_method_33_code
def yX11_ask : MethodName := ⟨RX11, "ask", "(IIII)I"⟩
abbrev cX11_drop : ByteArray := prog_13_method_34_code
def yX11_drop : MethodName := ⟨RX11, "drop", "()I"⟩
abbrev cX11_weight : ByteArray := prog_13_method_35_code
def yX11_weight : MethodName := ⟨RX11, "weight", "(I)I"⟩
abbrev cX11_isPlan : ByteArray := prog_13_method_36_code
def yX11_isPlan : MethodName := ⟨RX11, "isPlan", "(II)Z"⟩
abbrev cX11_set : ByteArray := prog_13_method_37_code
def yX11_set : MethodName := ⟨RX11, "set", "(II)I"⟩
abbrev cX11_back : ByteArray := prog_13_method_38_code
def yX11_back : MethodName := ⟨RX11, "back", "()Z"⟩
abbrev cX11_cellAt : ByteArray := prog_13_method_39_code
def yX11_cellAt : MethodName := ⟨RX11, "cellAt", "(II)I"⟩
abbrev cX11_at : ByteArray := prog_13_method_40_code
def yX11_at : MethodName := ⟨RX11, "at", "(II)I"⟩
abbrev cX11_lays : ByteArray := prog_13_method_41_code
def yX11_lays : MethodName := ⟨RX11, "lays", "(III)V"⟩
abbrev cX11_parts : ByteArray := prog_13_method_42_code
def yX11_parts : MethodName := ⟨RX11, "parts", "()I"⟩
abbrev cX11_most : ByteArray := prog_13_method_43_code
def yX11_most : MethodName := ⟨RX11, "most", "()I"⟩
abbrev cX11_tellsOf : ByteArray := prog_13_method_44_code
def yX11_tellsOf : MethodName := ⟨RX11, "tellsOf", "(I)J"⟩
abbrev cX11_answerOf : ByteArray := prog_13_method_45_code
def yX11_answerOf : MethodName := ⟨RX11, "answerOf", "(I)J"⟩
abbrev cX11_answer : ByteArray := prog_13_method_46_code
def yX11_answer : MethodName := ⟨RX11, "answe\x72", "(I)J"⟩
abbrev cX11_areAlike : ByteArray := prog_13_method_47_code
def yX11_areAlike : MethodName := ⟨RX11, "areAlike", "(II)Z"⟩
abbrev cX11_firstAlike : ByteArray := prog_13_method_48_code
def yX11_firstAlike : MethodName := ⟨RX11, "firstAlike", "(I)I"⟩
abbrev cX11_of : ByteArray := prog_13_method_49_code
def yX11_of : MethodName := ⟨RX11, "of", "(II)I"⟩
abbrev cX11_touched : ByteArray := prog_13_method_50_code
def yX11_touched : MethodName := ⟨RX11, "touched", "(II)I"⟩
abbrev cX11_isPlanned : ByteArray := prog_13_method_51_code
def yX11_isPlanned : MethodName := ⟨RX11, "isPlanned", "(I)Z"⟩
abbrev cX11_curve : ByteArray := prog_13_method_52_code
def yX11_curve : MethodName := ⟨RX11, "curve", "(II)I"⟩
abbrev cX11_weightOf : ByteArray := prog_13_method_53_code
def yX11_weightOf : MethodName := ⟨RX11, "weightOf", "(III)J"⟩
abbrev cX11_plans : ByteArray := prog_13_method_54_code
def yX11_plans : MethodName := ⟨RX11, "plans", "(II)V"⟩
abbrev cX11_planned : ByteArray := prog_13_method_55_code
def yX11_planned : MethodName := ⟨RX11, "planned", "(III)I"⟩
abbrev cX11_apart : ByteArray := prog_13_method_56_code
def yX11_apart : MethodName := ⟨RX11, "apart", "(II)I"⟩
abbrev cX11_along : ByteArray := prog_13_method_57_code
def yX11_along : MethodName := ⟨RX11, "along", "(II)V"⟩
abbrev cX11_cost : ByteArray := prog_13_method_58_code
def yX11_cost : MethodName := ⟨RX11, "cost", "(II)I"⟩
abbrev cX11_costOf : ByteArray := prog_13_method_59_code
def yX11_costOf : MethodName := ⟨RX11, "costOf", "(II)I"⟩
abbrev cX11_moves : ByteArray := prog_13_method_60_code
def yX11_moves : MethodName := ⟨RX11, "moves", "(III)I"⟩
abbrev cX11_best : ByteArray := prog_13_method_61_code
def yX11_best : MethodName := ⟨RX11, "best", "(II)I"⟩
abbrev cX11_laysSplit : ByteArray := prog_13_method_62_code
def yX11_laysSplit : MethodName := ⟨RX11, "laysSplit", "(I)V"⟩
abbrev cX11_share : ByteArray := prog_13_method_63_code
def yX11_share : MethodName := ⟨RX11, "share", "(II)I"⟩
abbrev cX11_split : ByteArray := prog_13_method_64_code
def yX11_split : MethodName := ⟨RX11, "split", "(II)I"⟩
abbrev cX11_saves : ByteArray := prog_13_method_65_code
def yX11_saves : MethodName := ⟨RX11, "saves", "(I)I"⟩
abbrev cX11_would : ByteArray := prog_13_method_66_code
def yX11_would : MethodName := ⟨RX11, "would", "(IIII)I"⟩
abbrev cX11_moves_ : ByteArray := prog_13_method_67_code
def yX11_moves_ : MethodName := ⟨RX11, "moves", "(I)Z"⟩
abbrev cX11_tells : ByteArray := prog_13_method_68_code
def yX11_tells : MethodName := ⟨RX11, "tells", "(II)V"⟩
abbrev cX11_move : ByteArray := prog_13_method_69_code
def yX11_move : MethodName := ⟨RX11, "move", "(II)I"⟩
abbrev cX11_walk : ByteArray := prog_13_method_70_code
def yX11_walk : MethodName := ⟨RX11, "walk", "(I)I"⟩
abbrev cX11_home : ByteArray := prog_13_method_71_code
def yX11_home : MethodName := ⟨RX11, "home", "()I"⟩
abbrev cX11_laysWindow : ByteArray := prog_13_method_72_code
def yX11_laysWindow : MethodName := ⟨RX11, "laysWindow", "()V"⟩
abbrev cX11_window : ByteArray := prog_13_method_73_code
def yX11_window : MethodName := ⟨RX11, "window", "(I)I"⟩
abbrev cX11_holds : ByteArray := prog_13_method_74_code
def yX11_holds : MethodName := ⟨RX11, "holds", "(I)I"⟩
abbrev cX11_tells_ : ByteArray := prog_13_method_75_code
def yX11_tells_ : MethodName := ⟨RX11, "tells", "(I)J"⟩
abbrev cX11_isUndone : ByteArray := prog_13_method_76_code
def yX11_isUndone : MethodName := ⟨RX11, "isUndone", "(I)Z"⟩
abbrev cX11_undoneWeight : ByteArray := prog_13_method_77_code
def yX11_undoneWeight : MethodName := ⟨RX11, "undoneWeight", "(II)J"⟩
abbrev cX11_laysUndone : ByteArray := prog_13_method_78_code
def yX11_laysUndone : MethodName := ⟨RX11, "laysUndone", "(I)V"⟩
abbrev cX11_undone : ByteArray := prog_13_method_79_code
def yX11_undone : MethodName := ⟨RX11, "undone", "(II)I"⟩
abbrev cX11_adds : ByteArray := prog_13_method_80_code
def yX11_adds : MethodName := ⟨RX11, "adds", "(II)I"⟩
abbrev cX11_having : ByteArray := prog_13_method_81_code
def yX11_having : MethodName := ⟨RX11, "having", "(I)I"⟩
abbrev cX11_count : ByteArray := prog_13_method_82_code
def yX11_count : MethodName := ⟨RX11, "count", "(I)I"⟩
def RJ9 : String := "java/lang/Math"
def TJ9 : u_T := fun k => match k with
  | _ => ("", "", "", false)
def tyJ9 : Nat → FieldType := fun k => match k with
  | _ => .int
abbrev cJ9_max_7cf53 : ByteArray := prog_18_method_65_code
def yJ9_max_7cf53 : MethodName := ⟨RJ9, "max", "(II)I"⟩
abbrev cJ9_min_7cf53 : ByteArray := prog_18_method_69_code
def yJ9_min_7cf53 : MethodName := ⟨RJ9, "min", "(II)I"⟩
def RJ0 : String := "java/lang/String"
def TJ0 : u_T := fun k => match k with
  | _ => ("", "", "", false)
def tyJ0 : Nat → FieldType := fun k => match k with
  | _ => .int
abbrev cJ0_length_8abf5 : ByteArray := prog_20_method_54_code
def yJ0_length_8abf5 : MethodName := ⟨RJ0, "length", "()I"⟩
abbrev cJ0_charAt_5068e : ByteArray := prog_20_method_56_code
def yJ0_charAt_5068e : MethodName := ⟨RJ0, "charAt", "(I)C"⟩
abbrev cJ0_coder_7d493 : ByteArray := prog_20_method_152_code
def yJ0_coder_7d493 : MethodName := ⟨RJ0, "code\x72", "()B"⟩
abbrev cJ0_isLatin1_aae02 : ByteArray := prog_20_method_154_code
def yJ0_isLatin1_aae02 : MethodName := ⟨RJ0, "isLatin1", "()Z"⟩
abbrev cJ0_checkIndex_df160 : ByteArray := prog_20_method_155_code
def yJ0_checkIndex_df160 : MethodName := ⟨RJ0, "checkIndex", "(II)V"⟩
def RJ1 : String := "java/lang/StringLatin1"
def TJ1 : u_T := fun k => match k with
  | _ => ("", "", "", false)
def tyJ1 : Nat → FieldType := fun k => match k with
  | _ => .int
abbrev cJ1_charAt_3b067 : ByteArray := prog_21_method_2_code
def yJ1_charAt_3b067 : MethodName := ⟨RJ1, "charAt", "([BI)C"⟩
def RJ2 : String := "java/lang/StringUTF16"
def TJ2 : u_T := fun k => match k with
  | _ => ("", "", "", false)
def tyJ2 : Nat → FieldType := fun k => match k with
  | _ => .int
abbrev cJ2_getChar_3b067 : ByteArray := prog_22_method_5_code
def yJ2_getChar_3b067 : MethodName := ⟨RJ2, "getCha\x72", "([BI)C"⟩
abbrev cJ2_length_9d52b : ByteArray := prog_22_method_6_code
def yJ2_length_9d52b : MethodName := ⟨RJ2, "length", "([B)I"⟩
abbrev cJ2_charAt_3b067 : ByteArray := prog_22_method_83_code
def yJ2_charAt_3b067 : MethodName := ⟨RJ2, "charAt", "([BI)C"⟩
abbrev cJ2_checkIndex_2214a : ByteArray := prog_22_method_91_code
def yJ2_checkIndex_2214a : MethodName := ⟨RJ2, "checkIndex", "(I[B)V"⟩
def RJ10 : String := "java/lang/System"
def TJ10 : u_T := fun k => match k with
  | _ => ("", "", "", false)
def tyJ10 : Nat → FieldType := fun k => match k with
  | _ => .int
def RJ7 : String := "java/util/Arrays"
def TJ7 : u_T := fun k => match k with
  | _ => ("", "", "", false)
def tyJ7 : Nat → FieldType := fun k => match k with
  | _ => .int
abbrev cJ7_fill_53178 : ByteArray := prog_27_method_103_code
def yJ7_fill_53178 : MethodName := ⟨RJ7, "fill", "([II)V"⟩
def RJ3 : String := "jdk/internal/util/Preconditions"
def TJ3 : u_T := fun k => match k with
  | _ => ("", "", "", false)
def tyJ3 : Nat → FieldType := fun k => match k with
  | _ => .int
abbrev cJ3_checkIndex_8e157 : ByteArray := prog_29_method_11_code
def yJ3_checkIndex_8e157 : MethodName := ⟨RJ3, "checkIndex", "(IILjava/util/function/BiFunction;)I"⟩
def RL : String := "RangePlannerLaw"
abbrev cL_answer : ByteArray := method_3_code
def yL_answer : MethodName := ⟨RL, "answe\x72", "(LRangePlanner;I[J)I"⟩
abbrev cL_law : ByteArray := code
def yL_law : MethodName := ⟨RL, "law", "([I)Z"⟩
abbrev vwCl : List vw_C := [(RX0, TX0, 4), (RX1, TX1, 3), (RX2, TX2, 5), (RX3, TX3, 10), (RX4, TX4, 6), (RX5, TX5, 2), (RX6, TX6, 5), (RX7, TX7, 2), (RX8, TX8, 4), (RX9, TX9, 7), (RX10, TX10, 12), (RX11, TX11, 50)]
end
section
/-! the tables' facts, written by a program: methods, fields, call sites, constants, each by its place in the tables -/
def mm_own (oc : Nat) : String := ([RX0, RX1, RX2, RX3, RX4, RX5, RX6, RX7, RX8, RX9, RX10, RX11] : List String).getD oc RJ7
def mm_words : List Cond := lw_tbl.filter goodWord
theorem mm_in1 {w : Cond} (h : w ∈ tables_1_1) (hg : goodWord w = true) : w ∈ mm_words := List.mem_filter.mpr ⟨List.mem_append_right _ (show w ∈ tables_1_1 ++ (tables_1_2 ++ (tables_1_3 ++ (tables_1_4 ++ (tables_1_5 ++ (tables_1_6 ++ tables_1_7))))) from List.mem_append_left _ h), hg⟩
theorem mm_in2 {w : Cond} (h : w ∈ tables_1_2) (hg : goodWord w = true) : w ∈ mm_words := List.mem_filter.mpr ⟨List.mem_append_right _ (show w ∈ tables_1_1 ++ (tables_1_2 ++ (tables_1_3 ++ (tables_1_4 ++ (tables_1_5 ++ (tables_1_6 ++ tables_1_7))))) from List.mem_append_right _ (List.mem_append_left _ h)), hg⟩
theorem mm_in3 {w : Cond} (h : w ∈ tables_1_3) (hg : goodWord w = true) : w ∈ mm_words := List.mem_filter.mpr ⟨List.mem_append_right _ (show w ∈ tables_1_1 ++ (tables_1_2 ++ (tables_1_3 ++ (tables_1_4 ++ (tables_1_5 ++ (tables_1_6 ++ tables_1_7))))) from List.mem_append_right _ (List.mem_append_right _ (List.mem_append_left _ h))), hg⟩
theorem mm_in4 {w : Cond} (h : w ∈ tables_1_4) (hg : goodWord w = true) : w ∈ mm_words := List.mem_filter.mpr ⟨List.mem_append_right _ (show w ∈ tables_1_1 ++ (tables_1_2 ++ (tables_1_3 ++ (tables_1_4 ++ (tables_1_5 ++ (tables_1_6 ++ tables_1_7))))) from List.mem_append_right _ (List.mem_append_right _ (List.mem_append_right _ (List.mem_append_left _ h)))), hg⟩
theorem mm_in5 {w : Cond} (h : w ∈ tables_1_5) (hg : goodWord w = true) : w ∈ mm_words := List.mem_filter.mpr ⟨List.mem_append_right _ (show w ∈ tables_1_1 ++ (tables_1_2 ++ (tables_1_3 ++ (tables_1_4 ++ (tables_1_5 ++ (tables_1_6 ++ tables_1_7))))) from List.mem_append_right _ (List.mem_append_right _ (List.mem_append_right _ (List.mem_append_right _ (List.mem_append_left _ h))))), hg⟩
theorem mm_in6 {w : Cond} (h : w ∈ tables_1_6) (hg : goodWord w = true) : w ∈ mm_words := List.mem_filter.mpr ⟨List.mem_append_right _ (show w ∈ tables_1_1 ++ (tables_1_2 ++ (tables_1_3 ++ (tables_1_4 ++ (tables_1_5 ++ (tables_1_6 ++ tables_1_7))))) from List.mem_append_right _ (List.mem_append_right _ (List.mem_append_right _ (List.mem_append_right _ (List.mem_append_right _ (List.mem_append_left _ h)))))), hg⟩
theorem mm_in7 {w : Cond} (h : w ∈ tables_1_7) (hg : goodWord w = true) : w ∈ mm_words := List.mem_filter.mpr ⟨List.mem_append_right _ (show w ∈ tables_1_1 ++ (tables_1_2 ++ (tables_1_3 ++ (tables_1_4 ++ (tables_1_5 ++ (tables_1_6 ++ tables_1_7))))) from List.mem_append_right _ (List.mem_append_right _ (List.mem_append_right _ (List.mem_append_right _ (List.mem_append_right _ (List.mem_append_right _ (h))))))), hg⟩
theorem mm_inP {q : MethodName × Nat} (h : q ∈ lw_privs) (hg : goodWord (Cond.selects q.1.cls q.1 q.1) = true) : Cond.selects q.1.cls q.1 q.1 ∈ mm_words := List.mem_filter.mpr ⟨List.mem_append_left _ (List.mem_map.mpr ⟨q, h, rfl⟩), hg⟩
abbrev mmRec : Type := MethodName × ByteArray × Nat × Option FieldType × Bool × Nat × Nat × Nat × Nat
def mm_rlk (l : List (Nat × mmRec)) (x : Nat) : Option mmRec := match l with
  | [] => none
  | q :: r => cond (Nat.beq q.1 x) (some q.2) (mm_rlk r x)
def mr_1 : mmRec := (yX0_note, cX0_note, 7, (none : Option FieldType), false, 5, 1, 21, 0)
def mr_2 : mmRec := (yX0_takeLast, cX0_takeLast, 1, (some FieldType.int), false, 0, 0, 0, 0)
def mr_101 : mmRec := (yX1_lay, cX1_lay, 6, (none : Option FieldType), false, 4, 2, 55, 1)
def mr_102 : mmRec := (yX1_keyOf, cX1_keyOf, 7, (some FieldType.int), true, 4, 1, 29, 1)
def mr_103 : mmRec := (yX1_thereAndBack, cX1_thereAndBack, 2, (some FieldType.int), true, 2, 0, 0, 1)
def mr_104 : mmRec := (yX1_curve, cX1_curve, 10, (some FieldType.int), true, 2, 0, 0, 1)
def mr_105 : mmRec := (yX1_follow, cX1_follow, 3, (none : Option FieldType), false, 1, 3, 66, 1)
def mr_106 : mmRec := (yX1_goAhead, cX1_goAhead, 5, (some FieldType.int), false, 2, 3, 66, 1)
def mr_201 : mmRec := (yX2_isPlannedKind, cX2_isPlannedKind, 1, (some FieldType.boolean), true, 1, 0, 0, 2)
def mr_202 : mmRec := (yX2_copyFrom, cX2_copyFrom, 3, (none : Option FieldType), false, 1, 1, 24, 2)
def mr_203 : mmRec := (yX2_has, cX2_has, 2, (some FieldType.boolean), false, 1, 0, 0, 2)
def mr_204 : mmRec := (yX2_add, cX2_add, 5, (none : Option FieldType), false, 4, 0, 0, 2)
def mr_205 : mmRec := (yX2_removeLast, cX2_removeLast, 1, (none : Option FieldType), false, 0, 0, 0, 2)
def mr_206 : mmRec := (yX2_isPlanned, cX2_isPlanned, 2, (some FieldType.boolean), false, 1, 1, 20, 2)
def mr_207 : mmRec := (yX2_areAlike, cX2_areAlike, 3, (some FieldType.boolean), false, 2, 0, 0, 2)
def mr_208 : mmRec := (yX2_firstAlike, cX2_firstAlike, 3, (some FieldType.int), false, 1, 1, 22, 2)
def mr_209 : mmRec := (yX2_howManyAlike, cX2_howManyAlike, 4, (some FieldType.int), false, 1, 1, 22, 2)
def mr_210 : mmRec := (yX2_unlikeOnes, cX2_unlikeOnes, 3, (some FieldType.int), false, 0, 2, 44, 2)
def mr_211 : mmRec := (yX2_howManyHave, cX2_howManyHave, 4, (some FieldType.int), false, 1, 0, 0, 2)
def mr_212 : mmRec := (yX2_aim, cX2_aim, 3, (none : Option FieldType), false, 2, 2, 44, 2)
def mr_301 : mmRec := (yX3_put, cX3_put, 3, (none : Option FieldType), false, 1, 0, 0, 3)
def mr_302 : mmRec := (yX3_read, cX3_read, 3, (some FieldType.int), false, 1, 10, 209, 3)
def mr_303 : mmRec := (yX3_readLine, cX3_readLine, 1, (some FieldType.boolean), false, 0, 9, 189, 3)
def mr_304 : mmRec := (yX3_readRow, cX3_readRow, 3, (some FieldType.boolean), false, 0, 4, 82, 3)
def mr_305 : mmRec := (yX3_readCell, cX3_readCell, 1, (some FieldType.boolean), false, 0, 3, 62, 3)
def mr_306 : mmRec := (yX3_readSet, cX3_readSet, 2, (some FieldType.boolean), false, 0, 3, 62, 3)
def mr_307 : mmRec := (yX3_readAsk, cX3_readAsk, 4, (some FieldType.boolean), false, 0, 8, 166, 3)
def mr_308 : mmRec := (yX3_readTime, cX3_readTime, 5, (some FieldType.boolean), false, 3, 7, 142, 3)
def mr_309 : mmRec := (yX3_kindHere, cX3_kindHere, 1, (some FieldType.int), false, 0, 7, 142, 3)
def mr_310 : mmRec := (yX3_refuse, cX3_refuse, 2, (some FieldType.boolean), false, 1, 0, 0, 3)
def mr_311 : mmRec := (yX3_pass, cX3_pass, 2, (some FieldType.boolean), false, 1, 3, 62, 3)
def mr_312 : mmRec := (yX3_isWhole, cX3_isWhole, 3, (some FieldType.boolean), false, 2, 1, 21, 3)
def mr_313 : mmRec := (yX3_isWord, cX3_isWord, 3, (some FieldType.boolean), false, 1, 6, 120, 3)
def mr_314 : mmRec := (yX3_next, cX3_next, 2, (none : Option FieldType), false, 0, 2, 41, 3)
def mr_315 : mmRec := (yX3_readWord, cX3_readWord, 1, (none : Option FieldType), false, 0, 1, 21, 3)
def mr_316 : mmRec := (yX3_readWhole, cX3_readWhole, 1, (none : Option FieldType), false, 0, 1, 21, 3)
def mr_317 : mmRec := (yX3_byteAt, cX3_byteAt, 2, (some FieldType.int), false, 1, 0, 0, 3)
def mr_318 : mmRec := (yX3_isBlank, cX3_isBlank, 1, (some FieldType.boolean), true, 1, 0, 0, 3)
def mr_319 : mmRec := (yX3_isLetter, cX3_isLetter, 1, (some FieldType.boolean), true, 1, 0, 0, 3)
def mr_320 : mmRec := (yX3_isDigit, cX3_isDigit, 1, (some FieldType.boolean), true, 1, 0, 0, 3)
def mr_401 : mmRec := (yX4_clear, cX4_clear, 1, (none : Option FieldType), false, 0, 0, 0, 4)
def mr_402 : mmRec := (yX4_copyFrom, cX4_copyFrom, 2, (none : Option FieldType), false, 1, 1, 26, 4)
def mr_403 : mmRec := (yX4_has, cX4_has, 2, (some FieldType.boolean), false, 1, 0, 0, 4)
def mr_404 : mmRec := (yX4_hasTime, cX4_hasTime, 2, (some FieldType.boolean), false, 1, 0, 0, 4)
def mr_405 : mmRec := (yX4_hasRoomForCell, cX4_hasRoomForCell, 1, (some FieldType.boolean), false, 0, 0, 0, 4)
def mr_406 : mmRec := (yX4_hasRoomForChange, cX4_hasRoomForChange, 1, (some FieldType.boolean), false, 0, 0, 0, 4)
def mr_407 : mmRec := (yX4_addCell, cX4_addCell, 2, (none : Option FieldType), false, 1, 1, 20, 4)
def mr_408 : mmRec := (yX4_setCell, cX4_setCell, 3, (none : Option FieldType), false, 2, 1, 21, 4)
def mr_409 : mmRec := (yX4_addChange, cX4_addChange, 3, (none : Option FieldType), false, 2, 1, 20, 4)
def mr_410 : mmRec := (yX4_removeLastChange, cX4_removeLastChange, 1, (none : Option FieldType), false, 0, 0, 0, 4)
def mr_411 : mmRec := (yX4_numberAt, cX4_numberAt, 4, (some FieldType.int), false, 2, 1, 21, 4)
def mr_412 : mmRec := (yX4_asAt, cX4_asAt, 4, (some (FieldType.array FieldType.int)), false, 1, 1, 26, 4)
def mr_501 : mmRec := (yX5_key, cX5_key, 4, (some FieldType.int), true, 4, 0, 0, 5)
def mr_502 : mmRec := (yX5_insert, cX5_insert, 3, (none : Option FieldType), false, 1, 0, 0, 5)
def mr_503 : mmRec := (yX5_question, cX5_question, 2, (some FieldType.int), false, 1, 0, 0, 5)
def mr_504 : mmRec := (yX5_goesOn, cX5_goesOn, 3, (some FieldType.boolean), false, 1, 0, 0, 5)
def mr_601 : mmRec := (yX6_measure, cX6_measure, 6, (none : Option FieldType), false, 3, 3, 66, 6)
def mr_602 : mmRec := (yX6_costOfRow, cX6_costOfRow, 3, (some FieldType.int), false, 2, 0, 0, 6)
def mr_603 : mmRec := (yX6_solve, cX6_solve, 4, (none : Option FieldType), false, 1, 2, 46, 6)
def mr_604 : mmRec := (yX6_leastFrom, cX6_leastFrom, 5, (some FieldType.int), false, 2, 1, 22, 6)
def mr_605 : mmRec := (yX6_greatest, cX6_greatest, 2, (some FieldType.int), false, 1, 0, 0, 6)
def mr_606 : mmRec := (yX6_share, cX6_share, 8, (some FieldType.int), false, 2, 2, 46, 6)
def mr_607 : mmRec := (yX6_furthest, cX6_furthest, 5, (some FieldType.int), false, 3, 1, 22, 6)
def mr_701 : mmRec := (yX7_take, cX7_take, 6, (none : Option FieldType), false, 3, 1, 23, 7)
def mr_702 : mmRec := (yX7_tell, cX7_tell, 2, (some FieldType.long), false, 1, 2, 48, 7)
def mr_703 : mmRec := (yX7_sum, cX7_sum, 4, (some FieldType.long), false, 0, 0, 0, 7)
def mr_704 : mmRec := (yX7_unlike, cX7_unlike, 4, (some FieldType.long), false, 0, 0, 0, 7)
def mr_705 : mmRec := (yX7_mostFrequent, cX7_mostFrequent, 3, (some FieldType.int), false, 0, 0, 0, 7)
def mr_706 : mmRec := (yX7_power, cX7_power, 4, (some FieldType.long), false, 0, 0, 0, 7)
def mr_707 : mmRec := (yX7_missing, cX7_missing, 2, (some FieldType.long), false, 0, 0, 0, 7)
def mr_708 : mmRec := (yX7_parts, cX7_parts, 4, (some FieldType.long), false, 0, 1, 25, 7)
def mr_709 : mmRec := (yX7_join, cX7_join, 6, (some FieldType.boolean), false, 2, 0, 0, 7)
def mr_710 : mmRec := (yX7_pairs, cX7_pairs, 4, (some FieldType.long), false, 0, 0, 0, 7)
def mr_801 : mmRec := (yX8_lay, cX8_lay, 4, (none : Option FieldType), false, 2, 2, 41, 8)
def mr_802 : mmRec := (yX8_follow, cX8_follow, 8, (none : Option FieldType), false, 3, 2, 46, 8)
def mr_803 : mmRec := (yX8_come, cX8_come, 6, (some FieldType.int), false, 4, 1, 21, 8)
def mr_901 : mmRec := (yX9_begin, cX9_begin, 1, (none : Option FieldType), false, 0, 0, 0, 9)
def mr_902 : mmRec := (yX9_has, cX9_has, 2, (some FieldType.boolean), false, 1, 0, 0, 9)
def mr_903 : mmRec := (yX9_cost, cX9_cost, 2, (some FieldType.int), false, 1, 0, 0, 9)
def mr_904 : mmRec := (yX9_aim, cX9_aim, 4, (none : Option FieldType), false, 3, 1, 21, 9)
def mr_905 : mmRec := (yX9_distance, cX9_distance, 3, (some FieldType.int), false, 0, 0, 0, 9)
def mr_906 : mmRec := (yX9_nextKind, cX9_nextKind, 2, (some FieldType.int), false, 0, 0, 0, 9)
def mr_907 : mmRec := (yX9_make, cX9_make, 5, (some FieldType.int), false, 1, 1, 22, 9)
def mr_908 : mmRec := (yX9_shift, cX9_shift, 3, (some FieldType.int), false, 2, 0, 0, 9)
def mr_909 : mmRec := (yX9_movedBy, cX9_movedBy, 2, (some FieldType.int), false, 1, 0, 0, 9)
def mr_1001 : mmRec := (yX10_feed, cX10_feed, 6, (some FieldType.int), false, 5, 1, 22, 10)
def mr_1002 : mmRec := (yX10_text, cX10_text, 3, (some FieldType.int), false, 1, 11, 231, 10)
def mr_1003 : mmRec := (yX10_cell, cX10_cell, 4, (some FieldType.int), false, 2, 2, 47, 10)
def mr_1004 : mmRec := (yX10_change, cX10_change, 3, (some FieldType.int), false, 2, 2, 47, 10)
def mr_1005 : mmRec := (yX10_ask, cX10_ask, 5, (some FieldType.int), false, 4, 2, 47, 10)
def mr_1006 : mmRec := (yX10_drop, cX10_drop, 2, (some FieldType.int), false, 0, 2, 47, 10)
def mr_1007 : mmRec := (yX10_weight, cX10_weight, 3, (some FieldType.int), false, 1, 2, 47, 10)
def mr_1008 : mmRec := (yX10_set, cX10_set, 4, (some FieldType.int), false, 2, 2, 47, 10)
def mr_1009 : mmRec := (yX10_back, cX10_back, 3, (some FieldType.boolean), false, 0, 2, 43, 10)
def mr_1010 : mmRec := (yX10_answer, cX10_answer, 2, (some FieldType.long), false, 1, 5, 104, 10)
def mr_1011 : mmRec := (yX10_at, cX10_at, 3, (some FieldType.int), false, 2, 2, 44, 10)
def mr_1012 : mmRec := (yX10_of, cX10_of, 3, (some FieldType.int), false, 2, 2, 45, 10)
def mr_1013 : mmRec := (yX10_planned, cX10_planned, 4, (some FieldType.int), false, 3, 3, 80, 10)
def mr_1014 : mmRec := (yX10_moves, cX10_moves, 4, (some FieldType.int), false, 3, 4, 88, 10)
def mr_1015 : mmRec := (yX10_best, cX10_best, 7, (some FieldType.int), false, 2, 5, 111, 10)
def mr_1016 : mmRec := (yX10_split, cX10_split, 3, (some FieldType.int), false, 2, 4, 91, 10)
def mr_1017 : mmRec := (yX10_move, cX10_move, 5, (some FieldType.int), false, 2, 4, 90, 10)
def mr_1018 : mmRec := (yX10_saves, cX10_saves, 2, (some FieldType.int), false, 1, 5, 111, 10)
def mr_1019 : mmRec := (yX10_would, cX10_would, 7, (some FieldType.int), false, 4, 5, 111, 10)
def mr_1020 : mmRec := (yX10_undone, cX10_undone, 3, (some FieldType.int), false, 2, 3, 64, 10)
def mr_1021 : mmRec := (yX10_adds, cX10_adds, 3, (some FieldType.int), false, 2, 3, 73, 10)
def mr_1022 : mmRec := (yX10_walk, cX10_walk, 4, (some FieldType.int), false, 1, 3, 80, 10)
def mr_1023 : mmRec := (yX10_home, cX10_home, 2, (some FieldType.int), false, 0, 1, 22, 10)
def mr_1024 : mmRec := (yX10_window, cX10_window, 2, (some FieldType.int), false, 1, 3, 80, 10)
def mr_1025 : mmRec := (yX10_holds, cX10_holds, 2, (some FieldType.int), false, 1, 3, 69, 10)
def mr_1026 : mmRec := (yX10_tells, cX10_tells, 2, (some FieldType.long), false, 1, 3, 69, 10)
def mr_1027 : mmRec := (yX10_touched, cX10_touched, 8, (some FieldType.int), false, 2, 4, 91, 10)
def mr_1028 : mmRec := (yX10_count, cX10_count, 2, (some FieldType.int), false, 1, 3, 66, 10)
def mr_1029 : mmRec := (yX10_isNumber, cX10_isNumber, 1, (some FieldType.boolean), true, 1, 0, 0, 10)
def mr_1030 : mmRec := (yX10_isKind, cX10_isKind, 1, (some FieldType.boolean), true, 1, 0, 0, 10)
def mr_1031 : mmRec := (yX10_isBlock, cX10_isBlock, 1, (some FieldType.boolean), true, 1, 0, 0, 10)
def mr_1032 : mmRec := (yX10_isPlan, cX10_isPlan, 2, (some FieldType.boolean), true, 2, 1, 20, 10)
def mr_1033 : mmRec := (yX10_isQuestion, cX10_isQuestion, 5, (some FieldType.boolean), false, 4, 1, 21, 10)
def mr_1034 : mmRec := (yX10_timeMeant, cX10_timeMeant, 2, (some FieldType.int), false, 1, 0, 0, 10)
def mr_1035 : mmRec := (yX10_takeBackChange, cX10_takeBackChange, 1, (none : Option FieldType), false, 0, 1, 22, 10)
def mr_1036 : mmRec := (yX10_answerOf, cX10_answerOf, 3, (some FieldType.long), false, 1, 3, 69, 10)
def mr_1037 : mmRec := (yX10_tallyWindow, cX10_tallyWindow, 1, (none : Option FieldType), false, 0, 2, 49, 10)
def mr_1038 : mmRec := (yX10_costOf, cX10_costOf, 4, (some FieldType.int), false, 3, 4, 88, 10)
def mr_1039 : mmRec := (yX10_bound, cX10_bound, 3, (some FieldType.int), false, 1, 0, 0, 10)
def mr_1040 : mmRec := (yX10_busiestCell, cX10_busiestCell, 3, (some FieldType.int), false, 0, 1, 23, 10)
def mr_1101 : mmRec := (yX11_thrown, cX11_thrown, 1, (some FieldType.int), false, 0, 0, 0, 11)
def mr_1102 : mmRec := (yX11_within, cX11_within, 6, (some FieldType.boolean), true, 3, 0, 0, 11)
def mr_1103 : mmRec := (yX11_feed, cX11_feed, 6, (some FieldType.int), false, 5, 1, 22, 11)
def mr_1104 : mmRec := (yX11_puts, cX11_puts, 3, (none : Option FieldType), false, 1, 0, 0, 11)
def mr_1105 : mmRec := (yX11_byteAt, cX11_byteAt, 2, (some FieldType.int), false, 1, 0, 0, 11)
def mr_1106 : mmRec := (yX11_isLetter, cX11_isLetter, 1, (some FieldType.boolean), true, 1, 1, 25, 11)
def mr_1107 : mmRec := (yX11_isDigit, cX11_isDigit, 1, (some FieldType.boolean), true, 1, 1, 25, 11)
def mr_1108 : mmRec := (yX11_go, cX11_go, 2, (none : Option FieldType), false, 0, 2, 45, 11)
def mr_1109 : mmRec := (yX11_wrong, cX11_wrong, 2, (some FieldType.boolean), false, 1, 0, 0, 11)
def mr_1110 : mmRec := (yX11_isSign, cX11_isSign, 2, (some FieldType.boolean), false, 1, 0, 0, 11)
def mr_1111 : mmRec := (yX11_isWord, cX11_isWord, 9, (some FieldType.boolean), false, 7, 2, 42, 11)
def mr_1112 : mmRec := (yX11_byteOf, cX11_byteOf, 2, (some FieldType.int), false, 1, 1, 21, 11)
def mr_1113 : mmRec := (yX11_isSet, cX11_isSet, 1, (some FieldType.boolean), false, 0, 3, 70, 11)
def mr_1114 : mmRec := (yX11_isAsk, cX11_isAsk, 1, (some FieldType.boolean), false, 0, 3, 70, 11)
def mr_1115 : mmRec := (yX11_isRow, cX11_isRow, 1, (some FieldType.boolean), false, 0, 3, 70, 11)
def mr_1116 : mmRec := (yX11_kindHere, cX11_kindHere, 1, (some FieldType.int), false, 0, 3, 70, 11)
def mr_1117 : mmRec := (yX11_number, cX11_number, 3, (some FieldType.boolean), false, 2, 3, 66, 11)
def mr_1118 : mmRec := (yX11_rowCell, cX11_rowCell, 1, (some FieldType.boolean), false, 0, 4, 88, 11)
def mr_1119 : mmRec := (yX11_rowLine, cX11_rowLine, 3, (some FieldType.boolean), false, 0, 5, 108, 11)
def mr_1120 : mmRec := (yX11_setLine, cX11_setLine, 1, (some FieldType.boolean), false, 0, 4, 88, 11)
def mr_1121 : mmRec := (yX11_askLine, cX11_askLine, 3, (some FieldType.boolean), false, 0, 4, 90, 11)
def mr_1122 : mmRec := (yX11_line, cX11_line, 1, (some FieldType.boolean), false, 0, 6, 130, 11)
def mr_1123 : mmRec := (yX11_text, cX11_text, 4, (some FieldType.int), false, 1, 7, 150, 11)
def mr_1124 : mmRec := (yX11_takes, cX11_takes, 2, (none : Option FieldType), false, 0, 0, 0, 11)
def mr_1125 : mmRec := (yX11_keeps, cX11_keeps, 7, (none : Option FieldType), false, 5, 0, 0, 11)
def mr_1126 : mmRec := (yX11_isCell, cX11_isCell, 2, (some FieldType.boolean), false, 1, 0, 0, 11)
def mr_1127 : mmRec := (yX11_isQuestion, cX11_isQuestion, 2, (some FieldType.boolean), false, 1, 0, 0, 11)
def mr_1128 : mmRec := (yX11_cell, cX11_cell, 4, (some FieldType.int), false, 2, 1, 26, 11)
def mr_1129 : mmRec := (yX11_change, cX11_change, 3, (some FieldType.int), false, 2, 1, 26, 11)
def mr_1130 : mmRec := (yX11_canAsk, cX11_canAsk, 5, (some FieldType.boolean), false, 4, 1, 25, 11)
def mr_1131 : mmRec := (yX11_asks, cX11_asks, 6, (none : Option FieldType), false, 4, 0, 0, 11)
def mr_1132 : mmRec := (yX11_ask, cX11_ask, 5, (some FieldType.int), false, 4, 2, 49, 11)
def mr_1133 : mmRec := (yX11_drop, cX11_drop, 2, (some FieldType.int), false, 0, 1, 26, 11)
def mr_1134 : mmRec := (yX11_weight, cX11_weight, 3, (some FieldType.int), false, 1, 1, 26, 11)
def mr_1135 : mmRec := (yX11_isPlan, cX11_isPlan, 2, (some FieldType.boolean), true, 2, 1, 25, 11)
def mr_1136 : mmRec := (yX11_set, cX11_set, 4, (some FieldType.int), false, 2, 2, 46, 11)
def mr_1137 : mmRec := (yX11_back, cX11_back, 2, (some FieldType.boolean), false, 0, 1, 25, 11)
def mr_1138 : mmRec := (yX11_cellAt, cX11_cellAt, 5, (some FieldType.int), false, 2, 0, 0, 11)
def mr_1139 : mmRec := (yX11_at, cX11_at, 3, (some FieldType.int), false, 2, 1, 25, 11)
def mr_1140 : mmRec := (yX11_lays, cX11_lays, 5, (none : Option FieldType), false, 3, 1, 24, 11)
def mr_1141 : mmRec := (yX11_parts, cX11_parts, 5, (some FieldType.int), false, 0, 0, 0, 11)
def mr_1142 : mmRec := (yX11_most, cX11_most, 3, (some FieldType.int), false, 0, 0, 0, 11)
def mr_1143 : mmRec := (yX11_tellsOf, cX11_tellsOf, 5, (some FieldType.long), false, 1, 1, 24, 11)
def mr_1144 : mmRec := (yX11_answerOf, cX11_answerOf, 2, (some FieldType.long), false, 1, 2, 48, 11)
def mr_1145 : mmRec := (yX11_answer, cX11_answer, 2, (some FieldType.long), false, 1, 3, 69, 11)
def mr_1146 : mmRec := (yX11_areAlike, cX11_areAlike, 5, (some FieldType.boolean), false, 2, 0, 0, 11)
def mr_1147 : mmRec := (yX11_firstAlike, cX11_firstAlike, 3, (some FieldType.int), false, 1, 1, 24, 11)
def mr_1148 : mmRec := (yX11_of, cX11_of, 5, (some FieldType.int), false, 2, 2, 46, 11)
def mr_1149 : mmRec := (yX11_touched, cX11_touched, 8, (some FieldType.int), false, 2, 3, 69, 11)
def mr_1150 : mmRec := (yX11_isPlanned, cX11_isPlanned, 1, (some FieldType.boolean), true, 1, 0, 0, 11)
def mr_1151 : mmRec := (yX11_curve, cX11_curve, 10, (some FieldType.int), true, 2, 0, 0, 11)
def mr_1152 : mmRec := (yX11_weightOf, cX11_weightOf, 12, (some FieldType.long), false, 3, 1, 29, 11)
def mr_1153 : mmRec := (yX11_plans, cX11_plans, 8, (none : Option FieldType), false, 2, 2, 60, 11)
def mr_1154 : mmRec := (yX11_planned, cX11_planned, 4, (some FieldType.int), false, 3, 3, 87, 11)
def mr_1155 : mmRec := (yX11_apart, cX11_apart, 2, (some FieldType.int), true, 2, 0, 0, 11)
def mr_1156 : mmRec := (yX11_along, cX11_along, 10, (none : Option FieldType), false, 2, 1, 21, 11)
def mr_1157 : mmRec := (yX11_cost, cX11_cost, 3, (some FieldType.int), false, 2, 2, 50, 11)
def mr_1158 : mmRec := (yX11_costOf, cX11_costOf, 3, (some FieldType.int), false, 2, 3, 87, 11)
def mr_1159 : mmRec := (yX11_moves, cX11_moves, 5, (some FieldType.int), false, 3, 4, 109, 11)
def mr_1160 : mmRec := (yX11_best, cX11_best, 7, (some FieldType.int), false, 2, 4, 109, 11)
def mr_1161 : mmRec := (yX11_laysSplit, cX11_laysSplit, 9, (none : Option FieldType), false, 1, 3, 72, 11)
def mr_1162 : mmRec := (yX11_share, cX11_share, 8, (some FieldType.int), false, 2, 3, 72, 11)
def mr_1163 : mmRec := (yX11_split, cX11_split, 3, (some FieldType.int), false, 2, 4, 100, 11)
def mr_1164 : mmRec := (yX11_saves, cX11_saves, 4, (some FieldType.int), false, 1, 4, 109, 11)
def mr_1165 : mmRec := (yX11_would, cX11_would, 7, (some FieldType.int), false, 4, 4, 109, 11)
def mr_1166 : mmRec := (yX11_moves_, cX11_moves_, 5, (some FieldType.boolean), false, 1, 1, 22, 11)
def mr_1167 : mmRec := (yX11_tells, cX11_tells, 3, (none : Option FieldType), false, 2, 0, 0, 11)
def mr_1168 : mmRec := (yX11_move, cX11_move, 5, (some FieldType.int), false, 2, 3, 87, 11)
def mr_1169 : mmRec := (yX11_walk, cX11_walk, 6, (some FieldType.int), false, 1, 3, 87, 11)
def mr_1170 : mmRec := (yX11_home, cX11_home, 3, (some FieldType.int), false, 0, 0, 0, 11)
def mr_1171 : mmRec := (yX11_laysWindow, cX11_laysWindow, 1, (none : Option FieldType), false, 0, 2, 48, 11)
def mr_1172 : mmRec := (yX11_window, cX11_window, 3, (some FieldType.int), false, 1, 3, 87, 11)
def mr_1173 : mmRec := (yX11_holds, cX11_holds, 2, (some FieldType.int), false, 1, 3, 68, 11)
def mr_1174 : mmRec := (yX11_tells_, cX11_tells_, 2, (some FieldType.long), false, 1, 3, 68, 11)
def mr_1175 : mmRec := (yX11_isUndone, cX11_isUndone, 2, (some FieldType.boolean), false, 1, 1, 20, 11)
def mr_1176 : mmRec := (yX11_undoneWeight, cX11_undoneWeight, 3, (some FieldType.long), false, 2, 0, 0, 11)
def mr_1177 : mmRec := (yX11_laysUndone, cX11_laysUndone, 7, (none : Option FieldType), false, 1, 2, 41, 11)
def mr_1178 : mmRec := (yX11_undone, cX11_undone, 3, (some FieldType.int), false, 2, 3, 67, 11)
def mr_1179 : mmRec := (yX11_adds, cX11_adds, 16, (some FieldType.int), false, 2, 3, 67, 11)
def mr_1180 : mmRec := (yX11_having, cX11_having, 4, (some FieldType.int), false, 1, 1, 25, 11)
def mr_1181 : mmRec := (yX11_count, cX11_count, 5, (some FieldType.int), false, 1, 2, 48, 11)
def mr_1500 : mmRec := (yJ7_fill_53178, cJ7_fill_53178, 4, (none : Option FieldType), true, 2, 0, 0, 20)
def mm_recs : List (Nat × mmRec) := [(1, mr_1), (2, mr_2), (101, mr_101), (102, mr_102), (103, mr_103), (104, mr_104), (105, mr_105), (106, mr_106), (201, mr_201), (202, mr_202), (203, mr_203), (204, mr_204), (205, mr_205), (206, mr_206), (207, mr_207), (208, mr_208), (209, mr_209), (210, mr_210), (211, mr_211), (212, mr_212), (301, mr_301), (302, mr_302), (303, mr_303), (304, mr_304), (305, mr_305), (306, mr_306), (307, mr_307), (308, mr_308), (309, mr_309), (310, mr_310), (311, mr_311), (312, mr_312), (313, mr_313), (314, mr_314), (315, mr_315), (316, mr_316), (317, mr_317), (318, mr_318), (319, mr_319), (320, mr_320), (401, mr_401), (402, mr_402), (403, mr_403), (404, mr_404), (405, mr_405), (406, mr_406), (407, mr_407), (408, mr_408), (409, mr_409), (410, mr_410), (411, mr_411), (412, mr_412), (501, mr_501), (502, mr_502), (503, mr_503), (504, mr_504), (601, mr_601), (602, mr_602), (603, mr_603), (604, mr_604), (605, mr_605), (606, mr_606), (607, mr_607), (701, mr_701), (702, mr_702), (703, mr_703), (704, mr_704), (705, mr_705), (706, mr_706), (707, mr_707), (708, mr_708), (709, mr_709), (710, mr_710), (801, mr_801), (802, mr_802), (803, mr_803), (901, mr_901), (902, mr_902), (903, mr_903), (904, mr_904), (905, mr_905), (906, mr_906), (907, mr_907), (908, mr_908), (909, mr_909), (1001, mr_1001), (1002, mr_1002), (1003, mr_1003), (1004, mr_1004), (1005, mr_1005), (1006, mr_1006), (1007, mr_1007), (1008, mr_1008), (1009, mr_1009), (1010, mr_1010), (1011, mr_1011), (1012, mr_1012), (1013, mr_1013), (1014, mr_1014), (1015, mr_1015), (1016, mr_1016), (1017, mr_1017), (1018, mr_1018), (1019, mr_1019), (1020, mr_1020), (1021, mr_1021), (1022, mr_1022), (1023, mr_1023), (1024, mr_1024), (1025, mr_1025), (1026, mr_1026), (1027, mr_1027), (1028, mr_1028), (1029, mr_1029), (1030, mr_1030), (1031, mr_1031), (1032, mr_1032), (1033, mr_1033), (1034, mr_1034), (1035, mr_1035), (1036, mr_1036), (1037, mr_1037), (1038, mr_1038), (1039, mr_1039), (1040, mr_1040), (1101, mr_1101), (1102, mr_1102), (1103, mr_1103), (1104, mr_1104), (1105, mr_1105), (1106, mr_1106), (1107, mr_1107), (1108, mr_1108), (1109, mr_1109), (1110, mr_1110), (1111, mr_1111), (1112, mr_1112), (1113, mr_1113), (1114, mr_1114), (1115, mr_1115), (1116, mr_1116), (1117, mr_1117), (1118, mr_1118), (1119, mr_1119), (1120, mr_1120), (1121, mr_1121), (1122, mr_1122), (1123, mr_1123), (1124, mr_1124), (1125, mr_1125), (1126, mr_1126), (1127, mr_1127), (1128, mr_1128), (1129, mr_1129), (1130, mr_1130), (1131, mr_1131), (1132, mr_1132), (1133, mr_1133), (1134, mr_1134), (1135, mr_1135), (1136, mr_1136), (1137, mr_1137), (1138, mr_1138), (1139, mr_1139), (1140, mr_1140), (1141, mr_1141), (1142, mr_1142), (1143, mr_1143), (1144, mr_1144), (1145, mr_1145), (1146, mr_1146), (1147, mr_1147), (1148, mr_1148), (1149, mr_1149), (1150, mr_1150), (1151, mr_1151), (1152, mr_1152), (1153, mr_1153), (1154, mr_1154), (1155, mr_1155), (1156, mr_1156), (1157, mr_1157), (1158, mr_1158), (1159, mr_1159), (1160, mr_1160), (1161, mr_1161), (1162, mr_1162), (1163, mr_1163), (1164, mr_1164), (1165, mr_1165), (1166, mr_1166), (1167, mr_1167), (1168, mr_1168), (1169, mr_1169), (1170, mr_1170), (1171, mr_1171), (1172, mr_1172), (1173, mr_1173), (1174, mr_1174), (1175, mr_1175), (1176, mr_1176), (1177, mr_1177), (1178, mr_1178), (1179, mr_1179), (1180, mr_1180), (1181, mr_1181), (1500, mr_1500)]
def mm_recOk (r : mmRec) : Prop := Cond.code r.1 r.2.1 r.2.2.1 r.2.2.2.1 ∈ mm_words ∧ (r.2.2.2.2.1 = true → Cond.static r.1 ∈ mm_words) ∧ (r.2.2.2.2.1 = false → Cond.instanceMethod r.1 ∈ mm_words ∧ Cond.selects r.1.cls r.1 r.1 ∈ mm_words) ∧ Cond.initialized r.1.cls ∈ mm_words ∧ (r.1.cls ≠ "java/lang/invoke/MethodHandle" ∧ r.1.cls ≠ "java/lang/invoke/VarHandle" ∧ (parseMethodDescriptor r.1.desc).map (fun d => d.parameters.length) = some r.2.2.2.2.2.1) ∧ plainName r.1.cls = true ∧ r.1.cls = mm_own r.2.2.2.2.2.2.2.2
theorem mk_1 : mm_recOk mr_1 := ⟨mm_in3 (List.mem_of_getElem? (i := 71) (by decide +kernel)) (by decide +kernel), (by intro h; cases h), fun _ => ⟨mm_in3 (List.mem_of_getElem? (i := 69) (by decide +kernel)) (by decide +kernel), mm_in3 (List.mem_of_getElem? (i := 70) (by decide +kernel)) (by decide +kernel)⟩, mm_in1 (List.mem_of_getElem? (i := 11) (by decide +kernel)) (by decide +kernel), ⟨by decide +kernel, by decide +kernel, by decide +kernel⟩, by decide +kernel, by decide +kernel⟩
theorem mk_2 : mm_recOk mr_2 := ⟨mm_in3 (List.mem_of_getElem? (i := 132) (by decide +kernel)) (by decide +kernel), (by intro h; cases h), fun _ => ⟨mm_in3 (List.mem_of_getElem? (i := 130) (by decide +kernel)) (by decide +kernel), mm_in3 (List.mem_of_getElem? (i := 131) (by decide +kernel)) (by decide +kernel)⟩, mm_in1 (List.mem_of_getElem? (i := 11) (by decide +kernel)) (by decide +kernel), ⟨by decide +kernel, by decide +kernel, by decide +kernel⟩, by decide +kernel, by decide +kernel⟩
theorem mk_101 : mm_recOk mr_101 := ⟨mm_in3 (List.mem_of_getElem? (i := 182) (by decide +kernel)) (by decide +kernel), (by intro h; cases h), fun _ => ⟨mm_in3 (List.mem_of_getElem? (i := 180) (by decide +kernel)) (by decide +kernel), mm_in3 (List.mem_of_getElem? (i := 181) (by decide +kernel)) (by decide +kernel)⟩, mm_in1 (List.mem_of_getElem? (i := 6) (by decide +kernel)) (by decide +kernel), ⟨by decide +kernel, by decide +kernel, by decide +kernel⟩, by decide +kernel, by decide +kernel⟩
theorem mk_102 : mm_recOk mr_102 := ⟨mm_in3 (List.mem_of_getElem? (i := 192) (by decide +kernel)) (by decide +kernel), fun _ => mm_in3 (List.mem_of_getElem? (i := 191) (by decide +kernel)) (by decide +kernel), (by intro h; cases h), mm_in1 (List.mem_of_getElem? (i := 6) (by decide +kernel)) (by decide +kernel), ⟨by decide +kernel, by decide +kernel, by decide +kernel⟩, by decide +kernel, by decide +kernel⟩
theorem mk_103 : mm_recOk mr_103 := ⟨mm_in3 (List.mem_of_getElem? (i := 201) (by decide +kernel)) (by decide +kernel), fun _ => mm_in3 (List.mem_of_getElem? (i := 200) (by decide +kernel)) (by decide +kernel), (by intro h; cases h), mm_in1 (List.mem_of_getElem? (i := 6) (by decide +kernel)) (by decide +kernel), ⟨by decide +kernel, by decide +kernel, by decide +kernel⟩, by decide +kernel, by decide +kernel⟩
theorem mk_104 : mm_recOk mr_104 := ⟨mm_in3 (List.mem_of_getElem? (i := 198) (by decide +kernel)) (by decide +kernel), fun _ => mm_in3 (List.mem_of_getElem? (i := 197) (by decide +kernel)) (by decide +kernel), (by intro h; cases h), mm_in1 (List.mem_of_getElem? (i := 6) (by decide +kernel)) (by decide +kernel), ⟨by decide +kernel, by decide +kernel, by decide +kernel⟩, by decide +kernel, by decide +kernel⟩
theorem mk_105 : mm_recOk mr_105 := ⟨mm_in3 (List.mem_of_getElem? (i := 217) (by decide +kernel)) (by decide +kernel), (by intro h; cases h), fun _ => ⟨mm_in3 (List.mem_of_getElem? (i := 215) (by decide +kernel)) (by decide +kernel), mm_in3 (List.mem_of_getElem? (i := 216) (by decide +kernel)) (by decide +kernel)⟩, mm_in1 (List.mem_of_getElem? (i := 6) (by decide +kernel)) (by decide +kernel), ⟨by decide +kernel, by decide +kernel, by decide +kernel⟩, by decide +kernel, by decide +kernel⟩
theorem mk_106 : mm_recOk mr_106 := ⟨mm_in4 (List.mem_of_getElem? (i := 68) (by decide +kernel)) (by decide +kernel), (by intro h; cases h), fun _ => ⟨mm_in4 (List.mem_of_getElem? (i := 66) (by decide +kernel)) (by decide +kernel), mm_in4 (List.mem_of_getElem? (i := 67) (by decide +kernel)) (by decide +kernel)⟩, mm_in1 (List.mem_of_getElem? (i := 6) (by decide +kernel)) (by decide +kernel), ⟨by decide +kernel, by decide +kernel, by decide +kernel⟩, by decide +kernel, by decide +kernel⟩
theorem mk_201 : mm_recOk mr_201 := ⟨mm_in3 (List.mem_of_getElem? (i := 189) (by decide +kernel)) (by decide +kernel), fun _ => mm_in3 (List.mem_of_getElem? (i := 188) (by decide +kernel)) (by decide +kernel), (by intro h; cases h), mm_in1 (List.mem_of_getElem? (i := 4) (by decide +kernel)) (by decide +kernel), ⟨by decide +kernel, by decide +kernel, by decide +kernel⟩, by decide +kernel, by decide +kernel⟩
theorem mk_202 : mm_recOk mr_202 := ⟨mm_in3 (List.mem_of_getElem? (i := 47) (by decide +kernel)) (by decide +kernel), (by intro h; cases h), fun _ => ⟨mm_in3 (List.mem_of_getElem? (i := 45) (by decide +kernel)) (by decide +kernel), mm_in3 (List.mem_of_getElem? (i := 46) (by decide +kernel)) (by decide +kernel)⟩, mm_in1 (List.mem_of_getElem? (i := 4) (by decide +kernel)) (by decide +kernel), ⟨by decide +kernel, by decide +kernel, by decide +kernel⟩, by decide +kernel, by decide +kernel⟩
theorem mk_203 : mm_recOk mr_203 := ⟨mm_in3 (List.mem_of_getElem? (i := 106) (by decide +kernel)) (by decide +kernel), (by intro h; cases h), fun _ => ⟨mm_in3 (List.mem_of_getElem? (i := 104) (by decide +kernel)) (by decide +kernel), mm_in3 (List.mem_of_getElem? (i := 105) (by decide +kernel)) (by decide +kernel)⟩, mm_in1 (List.mem_of_getElem? (i := 4) (by decide +kernel)) (by decide +kernel), ⟨by decide +kernel, by decide +kernel, by decide +kernel⟩, by decide +kernel, by decide +kernel⟩
theorem mk_204 : mm_recOk mr_204 := ⟨mm_in3 (List.mem_of_getElem? (i := 32) (by decide +kernel)) (by decide +kernel), (by intro h; cases h), fun _ => ⟨mm_in3 (List.mem_of_getElem? (i := 30) (by decide +kernel)) (by decide +kernel), mm_in3 (List.mem_of_getElem? (i := 31) (by decide +kernel)) (by decide +kernel)⟩, mm_in1 (List.mem_of_getElem? (i := 4) (by decide +kernel)) (by decide +kernel), ⟨by decide +kernel, by decide +kernel, by decide +kernel⟩, by decide +kernel, by decide +kernel⟩
theorem mk_205 : mm_recOk mr_205 := ⟨mm_in3 (List.mem_of_getElem? (i := 110) (by decide +kernel)) (by decide +kernel), (by intro h; cases h), fun _ => ⟨mm_in3 (List.mem_of_getElem? (i := 108) (by decide +kernel)) (by decide +kernel), mm_in3 (List.mem_of_getElem? (i := 109) (by decide +kernel)) (by decide +kernel)⟩, mm_in1 (List.mem_of_getElem? (i := 4) (by decide +kernel)) (by decide +kernel), ⟨by decide +kernel, by decide +kernel, by decide +kernel⟩, by decide +kernel, by decide +kernel⟩
theorem mk_206 : mm_recOk mr_206 := ⟨mm_in3 (List.mem_of_getElem? (i := 186) (by decide +kernel)) (by decide +kernel), (by intro h; cases h), fun _ => ⟨mm_in3 (List.mem_of_getElem? (i := 184) (by decide +kernel)) (by decide +kernel), mm_in3 (List.mem_of_getElem? (i := 185) (by decide +kernel)) (by decide +kernel)⟩, mm_in1 (List.mem_of_getElem? (i := 4) (by decide +kernel)) (by decide +kernel), ⟨by decide +kernel, by decide +kernel, by decide +kernel⟩, by decide +kernel, by decide +kernel⟩
theorem mk_207 : mm_recOk mr_207 := ⟨mm_in3 (List.mem_of_getElem? (i := 170) (by decide +kernel)) (by decide +kernel), (by intro h; cases h), fun _ => ⟨mm_in3 (List.mem_of_getElem? (i := 168) (by decide +kernel)) (by decide +kernel), mm_in3 (List.mem_of_getElem? (i := 169) (by decide +kernel)) (by decide +kernel)⟩, mm_in1 (List.mem_of_getElem? (i := 4) (by decide +kernel)) (by decide +kernel), ⟨by decide +kernel, by decide +kernel, by decide +kernel⟩, by decide +kernel, by decide +kernel⟩
theorem mk_208 : mm_recOk mr_208 := ⟨mm_in3 (List.mem_of_getElem? (i := 166) (by decide +kernel)) (by decide +kernel), (by intro h; cases h), fun _ => ⟨mm_in3 (List.mem_of_getElem? (i := 164) (by decide +kernel)) (by decide +kernel), mm_in3 (List.mem_of_getElem? (i := 165) (by decide +kernel)) (by decide +kernel)⟩, mm_in1 (List.mem_of_getElem? (i := 4) (by decide +kernel)) (by decide +kernel), ⟨by decide +kernel, by decide +kernel, by decide +kernel⟩, by decide +kernel, by decide +kernel⟩
theorem mk_209 : mm_recOk mr_209 := ⟨mm_in3 (List.mem_of_getElem? (i := 174) (by decide +kernel)) (by decide +kernel), (by intro h; cases h), fun _ => ⟨mm_in3 (List.mem_of_getElem? (i := 172) (by decide +kernel)) (by decide +kernel), mm_in3 (List.mem_of_getElem? (i := 173) (by decide +kernel)) (by decide +kernel)⟩, mm_in1 (List.mem_of_getElem? (i := 4) (by decide +kernel)) (by decide +kernel), ⟨by decide +kernel, by decide +kernel, by decide +kernel⟩, by decide +kernel, by decide +kernel⟩
theorem mk_210 : mm_recOk mr_210 := ⟨mm_in4 (List.mem_of_getElem? (i := 212) (by decide +kernel)) (by decide +kernel), (by intro h; cases h), fun _ => ⟨mm_in4 (List.mem_of_getElem? (i := 210) (by decide +kernel)) (by decide +kernel), mm_in4 (List.mem_of_getElem? (i := 211) (by decide +kernel)) (by decide +kernel)⟩, mm_in1 (List.mem_of_getElem? (i := 4) (by decide +kernel)) (by decide +kernel), ⟨by decide +kernel, by decide +kernel, by decide +kernel⟩, by decide +kernel, by decide +kernel⟩
theorem mk_211 : mm_recOk mr_211 := ⟨mm_in4 (List.mem_of_getElem? (i := 221) (by decide +kernel)) (by decide +kernel), (by intro h; cases h), fun _ => ⟨mm_in4 (List.mem_of_getElem? (i := 219) (by decide +kernel)) (by decide +kernel), mm_in4 (List.mem_of_getElem? (i := 220) (by decide +kernel)) (by decide +kernel)⟩, mm_in1 (List.mem_of_getElem? (i := 4) (by decide +kernel)) (by decide +kernel), ⟨by decide +kernel, by decide +kernel, by decide +kernel⟩, by decide +kernel, by decide +kernel⟩
theorem mk_212 : mm_recOk mr_212 := ⟨mm_in3 (List.mem_of_getElem? (i := 223) (by decide +kernel)) (by decide +kernel), (by intro h; cases h), fun _ => ⟨mm_in3 (List.mem_of_getElem? (i := 221) (by decide +kernel)) (by decide +kernel), mm_in3 (List.mem_of_getElem? (i := 222) (by decide +kernel)) (by decide +kernel)⟩, mm_in1 (List.mem_of_getElem? (i := 4) (by decide +kernel)) (by decide +kernel), ⟨by decide +kernel, by decide +kernel, by decide +kernel⟩, by decide +kernel, by decide +kernel⟩
theorem mk_301 : mm_recOk mr_301 := ⟨mm_in2 (List.mem_of_getElem? (i := 110) (by decide +kernel)) (by decide +kernel), (by intro h; cases h), fun _ => ⟨mm_in2 (List.mem_of_getElem? (i := 108) (by decide +kernel)) (by decide +kernel), mm_in2 (List.mem_of_getElem? (i := 109) (by decide +kernel)) (by decide +kernel)⟩, mm_in1 (List.mem_of_getElem? (i := 2) (by decide +kernel)) (by decide +kernel), ⟨by decide +kernel, by decide +kernel, by decide +kernel⟩, by decide +kernel, by decide +kernel⟩
theorem mk_302 : mm_recOk mr_302 := ⟨mm_in2 (List.mem_of_getElem? (i := 118) (by decide +kernel)) (by decide +kernel), (by intro h; cases h), fun _ => ⟨mm_in2 (List.mem_of_getElem? (i := 116) (by decide +kernel)) (by decide +kernel), mm_in2 (List.mem_of_getElem? (i := 117) (by decide +kernel)) (by decide +kernel)⟩, mm_in1 (List.mem_of_getElem? (i := 2) (by decide +kernel)) (by decide +kernel), ⟨by decide +kernel, by decide +kernel, by decide +kernel⟩, by decide +kernel, by decide +kernel⟩
theorem mk_303 : mm_recOk mr_303 := ⟨mm_in2 (List.mem_of_getElem? (i := 154) (by decide +kernel)) (by decide +kernel), (by intro h; cases h), fun _ => ⟨mm_in2 (List.mem_of_getElem? (i := 153) (by decide +kernel)) (by decide +kernel), mm_inP (q := (yX3_readLine, 10)) (List.mem_of_getElem? (i := 4) (by decide +kernel)) (by decide +kernel)⟩, mm_in1 (List.mem_of_getElem? (i := 2) (by decide +kernel)) (by decide +kernel), ⟨by decide +kernel, by decide +kernel, by decide +kernel⟩, by decide +kernel, by decide +kernel⟩
theorem mk_304 : mm_recOk mr_304 := ⟨mm_in2 (List.mem_of_getElem? (i := 211) (by decide +kernel)) (by decide +kernel), (by intro h; cases h), fun _ => ⟨mm_in2 (List.mem_of_getElem? (i := 210) (by decide +kernel)) (by decide +kernel), mm_inP (q := (yX3_readRow, 10)) (List.mem_of_getElem? (i := 6) (by decide +kernel)) (by decide +kernel)⟩, mm_in1 (List.mem_of_getElem? (i := 2) (by decide +kernel)) (by decide +kernel), ⟨by decide +kernel, by decide +kernel, by decide +kernel⟩, by decide +kernel, by decide +kernel⟩
theorem mk_305 : mm_recOk mr_305 := ⟨mm_in2 (List.mem_of_getElem? (i := 219) (by decide +kernel)) (by decide +kernel), (by intro h; cases h), fun _ => ⟨mm_in2 (List.mem_of_getElem? (i := 218) (by decide +kernel)) (by decide +kernel), mm_inP (q := (yX3_readCell, 10)) (List.mem_of_getElem? (i := 8) (by decide +kernel)) (by decide +kernel)⟩, mm_in1 (List.mem_of_getElem? (i := 2) (by decide +kernel)) (by decide +kernel), ⟨by decide +kernel, by decide +kernel, by decide +kernel⟩, by decide +kernel, by decide +kernel⟩
theorem mk_306 : mm_recOk mr_306 := ⟨mm_in2 (List.mem_of_getElem? (i := 237) (by decide +kernel)) (by decide +kernel), (by intro h; cases h), fun _ => ⟨mm_in2 (List.mem_of_getElem? (i := 236) (by decide +kernel)) (by decide +kernel), mm_inP (q := (yX3_readSet, 10)) (List.mem_of_getElem? (i := 10) (by decide +kernel)) (by decide +kernel)⟩, mm_in1 (List.mem_of_getElem? (i := 2) (by decide +kernel)) (by decide +kernel), ⟨by decide +kernel, by decide +kernel, by decide +kernel⟩, by decide +kernel, by decide +kernel⟩
theorem mk_307 : mm_recOk mr_307 := ⟨mm_in3 (List.mem_of_getElem? (i := 11) (by decide +kernel)) (by decide +kernel), (by intro h; cases h), fun _ => ⟨mm_in3 (List.mem_of_getElem? (i := 10) (by decide +kernel)) (by decide +kernel), mm_inP (q := (yX3_readAsk, 10)) (List.mem_of_getElem? (i := 11) (by decide +kernel)) (by decide +kernel)⟩, mm_in1 (List.mem_of_getElem? (i := 2) (by decide +kernel)) (by decide +kernel), ⟨by decide +kernel, by decide +kernel, by decide +kernel⟩, by decide +kernel, by decide +kernel⟩
theorem mk_308 : mm_recOk mr_308 := ⟨mm_in3 (List.mem_of_getElem? (i := 27) (by decide +kernel)) (by decide +kernel), (by intro h; cases h), fun _ => ⟨mm_in3 (List.mem_of_getElem? (i := 26) (by decide +kernel)) (by decide +kernel), mm_inP (q := (yX3_readTime, 10)) (List.mem_of_getElem? (i := 13) (by decide +kernel)) (by decide +kernel)⟩, mm_in1 (List.mem_of_getElem? (i := 2) (by decide +kernel)) (by decide +kernel), ⟨by decide +kernel, by decide +kernel, by decide +kernel⟩, by decide +kernel, by decide +kernel⟩
theorem mk_309 : mm_recOk mr_309 := ⟨mm_in3 (List.mem_of_getElem? (i := 15) (by decide +kernel)) (by decide +kernel), (by intro h; cases h), fun _ => ⟨mm_in3 (List.mem_of_getElem? (i := 14) (by decide +kernel)) (by decide +kernel), mm_inP (q := (yX3_kindHere, 10)) (List.mem_of_getElem? (i := 12) (by decide +kernel)) (by decide +kernel)⟩, mm_in1 (List.mem_of_getElem? (i := 2) (by decide +kernel)) (by decide +kernel), ⟨by decide +kernel, by decide +kernel, by decide +kernel⟩, by decide +kernel, by decide +kernel⟩
theorem mk_310 : mm_recOk mr_310 := ⟨mm_in2 (List.mem_of_getElem? (i := 215) (by decide +kernel)) (by decide +kernel), (by intro h; cases h), fun _ => ⟨mm_in2 (List.mem_of_getElem? (i := 214) (by decide +kernel)) (by decide +kernel), mm_inP (q := (yX3_refuse, 10)) (List.mem_of_getElem? (i := 7) (by decide +kernel)) (by decide +kernel)⟩, mm_in1 (List.mem_of_getElem? (i := 2) (by decide +kernel)) (by decide +kernel), ⟨by decide +kernel, by decide +kernel, by decide +kernel⟩, by decide +kernel, by decide +kernel⟩
theorem mk_311 : mm_recOk mr_311 := ⟨mm_in3 (List.mem_of_getElem? (i := 36) (by decide +kernel)) (by decide +kernel), (by intro h; cases h), fun _ => ⟨mm_in3 (List.mem_of_getElem? (i := 35) (by decide +kernel)) (by decide +kernel), mm_inP (q := (yX3_pass, 10)) (List.mem_of_getElem? (i := 14) (by decide +kernel)) (by decide +kernel)⟩, mm_in1 (List.mem_of_getElem? (i := 2) (by decide +kernel)) (by decide +kernel), ⟨by decide +kernel, by decide +kernel, by decide +kernel⟩, by decide +kernel, by decide +kernel⟩
theorem mk_312 : mm_recOk mr_312 := ⟨mm_in2 (List.mem_of_getElem? (i := 223) (by decide +kernel)) (by decide +kernel), (by intro h; cases h), fun _ => ⟨mm_in2 (List.mem_of_getElem? (i := 222) (by decide +kernel)) (by decide +kernel), mm_inP (q := (yX3_isWhole, 10)) (List.mem_of_getElem? (i := 9) (by decide +kernel)) (by decide +kernel)⟩, mm_in1 (List.mem_of_getElem? (i := 2) (by decide +kernel)) (by decide +kernel), ⟨by decide +kernel, by decide +kernel, by decide +kernel⟩, by decide +kernel, by decide +kernel⟩
theorem mk_313 : mm_recOk mr_313 := ⟨mm_in2 (List.mem_of_getElem? (i := 159) (by decide +kernel)) (by decide +kernel), (by intro h; cases h), fun _ => ⟨mm_in2 (List.mem_of_getElem? (i := 158) (by decide +kernel)) (by decide +kernel), mm_inP (q := (yX3_isWord, 10)) (List.mem_of_getElem? (i := 5) (by decide +kernel)) (by decide +kernel)⟩, mm_in1 (List.mem_of_getElem? (i := 2) (by decide +kernel)) (by decide +kernel), ⟨by decide +kernel, by decide +kernel, by decide +kernel⟩, by decide +kernel, by decide +kernel⟩
theorem mk_314 : mm_recOk mr_314 := ⟨mm_in2 (List.mem_of_getElem? (i := 129) (by decide +kernel)) (by decide +kernel), (by intro h; cases h), fun _ => ⟨mm_in2 (List.mem_of_getElem? (i := 128) (by decide +kernel)) (by decide +kernel), mm_inP (q := (yX3_next, 10)) (List.mem_of_getElem? (i := 0) (by decide +kernel)) (by decide +kernel)⟩, mm_in1 (List.mem_of_getElem? (i := 2) (by decide +kernel)) (by decide +kernel), ⟨by decide +kernel, by decide +kernel, by decide +kernel⟩, by decide +kernel, by decide +kernel⟩
theorem mk_315 : mm_recOk mr_315 := ⟨mm_in2 (List.mem_of_getElem? (i := 143) (by decide +kernel)) (by decide +kernel), (by intro h; cases h), fun _ => ⟨mm_in2 (List.mem_of_getElem? (i := 142) (by decide +kernel)) (by decide +kernel), mm_inP (q := (yX3_readWord, 10)) (List.mem_of_getElem? (i := 2) (by decide +kernel)) (by decide +kernel)⟩, mm_in1 (List.mem_of_getElem? (i := 2) (by decide +kernel)) (by decide +kernel), ⟨by decide +kernel, by decide +kernel, by decide +kernel⟩, by decide +kernel, by decide +kernel⟩
theorem mk_316 : mm_recOk mr_316 := ⟨mm_in2 (List.mem_of_getElem? (i := 150) (by decide +kernel)) (by decide +kernel), (by intro h; cases h), fun _ => ⟨mm_in2 (List.mem_of_getElem? (i := 149) (by decide +kernel)) (by decide +kernel), mm_inP (q := (yX3_readWhole, 10)) (List.mem_of_getElem? (i := 3) (by decide +kernel)) (by decide +kernel)⟩, mm_in1 (List.mem_of_getElem? (i := 2) (by decide +kernel)) (by decide +kernel), ⟨by decide +kernel, by decide +kernel, by decide +kernel⟩, by decide +kernel, by decide +kernel⟩
theorem mk_317 : mm_recOk mr_317 := ⟨mm_in2 (List.mem_of_getElem? (i := 133) (by decide +kernel)) (by decide +kernel), (by intro h; cases h), fun _ => ⟨mm_in2 (List.mem_of_getElem? (i := 132) (by decide +kernel)) (by decide +kernel), mm_inP (q := (yX3_byteAt, 10)) (List.mem_of_getElem? (i := 1) (by decide +kernel)) (by decide +kernel)⟩, mm_in1 (List.mem_of_getElem? (i := 2) (by decide +kernel)) (by decide +kernel), ⟨by decide +kernel, by decide +kernel, by decide +kernel⟩, by decide +kernel, by decide +kernel⟩
theorem mk_318 : mm_recOk mr_318 := ⟨mm_in2 (List.mem_of_getElem? (i := 136) (by decide +kernel)) (by decide +kernel), fun _ => mm_in2 (List.mem_of_getElem? (i := 135) (by decide +kernel)) (by decide +kernel), (by intro h; cases h), mm_in1 (List.mem_of_getElem? (i := 2) (by decide +kernel)) (by decide +kernel), ⟨by decide +kernel, by decide +kernel, by decide +kernel⟩, by decide +kernel, by decide +kernel⟩
theorem mk_319 : mm_recOk mr_319 := ⟨mm_in2 (List.mem_of_getElem? (i := 139) (by decide +kernel)) (by decide +kernel), fun _ => mm_in2 (List.mem_of_getElem? (i := 138) (by decide +kernel)) (by decide +kernel), (by intro h; cases h), mm_in1 (List.mem_of_getElem? (i := 2) (by decide +kernel)) (by decide +kernel), ⟨by decide +kernel, by decide +kernel, by decide +kernel⟩, by decide +kernel, by decide +kernel⟩
theorem mk_320 : mm_recOk mr_320 := ⟨mm_in2 (List.mem_of_getElem? (i := 146) (by decide +kernel)) (by decide +kernel), fun _ => mm_in2 (List.mem_of_getElem? (i := 145) (by decide +kernel)) (by decide +kernel), (by intro h; cases h), mm_in1 (List.mem_of_getElem? (i := 2) (by decide +kernel)) (by decide +kernel), ⟨by decide +kernel, by decide +kernel, by decide +kernel⟩, by decide +kernel, by decide +kernel⟩
theorem mk_401 : mm_recOk mr_401 := ⟨mm_in2 (List.mem_of_getElem? (i := 122) (by decide +kernel)) (by decide +kernel), (by intro h; cases h), fun _ => ⟨mm_in2 (List.mem_of_getElem? (i := 120) (by decide +kernel)) (by decide +kernel), mm_in2 (List.mem_of_getElem? (i := 121) (by decide +kernel)) (by decide +kernel)⟩, mm_in1 (List.mem_of_getElem? (i := 3) (by decide +kernel)) (by decide +kernel), ⟨by decide +kernel, by decide +kernel, by decide +kernel⟩, by decide +kernel, by decide +kernel⟩
theorem mk_402 : mm_recOk mr_402 := ⟨mm_in3 (List.mem_of_getElem? (i := 40) (by decide +kernel)) (by decide +kernel), (by intro h; cases h), fun _ => ⟨mm_in3 (List.mem_of_getElem? (i := 38) (by decide +kernel)) (by decide +kernel), mm_in3 (List.mem_of_getElem? (i := 39) (by decide +kernel)) (by decide +kernel)⟩, mm_in1 (List.mem_of_getElem? (i := 3) (by decide +kernel)) (by decide +kernel), ⟨by decide +kernel, by decide +kernel, by decide +kernel⟩, by decide +kernel, by decide +kernel⟩
theorem mk_403 : mm_recOk mr_403 := ⟨mm_in3 (List.mem_of_getElem? (i := 60) (by decide +kernel)) (by decide +kernel), (by intro h; cases h), fun _ => ⟨mm_in3 (List.mem_of_getElem? (i := 58) (by decide +kernel)) (by decide +kernel), mm_in3 (List.mem_of_getElem? (i := 59) (by decide +kernel)) (by decide +kernel)⟩, mm_in1 (List.mem_of_getElem? (i := 3) (by decide +kernel)) (by decide +kernel), ⟨by decide +kernel, by decide +kernel, by decide +kernel⟩, by decide +kernel, by decide +kernel⟩
theorem mk_404 : mm_recOk mr_404 := ⟨mm_in3 (List.mem_of_getElem? (i := 93) (by decide +kernel)) (by decide +kernel), (by intro h; cases h), fun _ => ⟨mm_in3 (List.mem_of_getElem? (i := 91) (by decide +kernel)) (by decide +kernel), mm_in3 (List.mem_of_getElem? (i := 92) (by decide +kernel)) (by decide +kernel)⟩, mm_in1 (List.mem_of_getElem? (i := 3) (by decide +kernel)) (by decide +kernel), ⟨by decide +kernel, by decide +kernel, by decide +kernel⟩, by decide +kernel, by decide +kernel⟩
theorem mk_405 : mm_recOk mr_405 := ⟨mm_in2 (List.mem_of_getElem? (i := 227) (by decide +kernel)) (by decide +kernel), (by intro h; cases h), fun _ => ⟨mm_in2 (List.mem_of_getElem? (i := 225) (by decide +kernel)) (by decide +kernel), mm_in2 (List.mem_of_getElem? (i := 226) (by decide +kernel)) (by decide +kernel)⟩, mm_in1 (List.mem_of_getElem? (i := 3) (by decide +kernel)) (by decide +kernel), ⟨by decide +kernel, by decide +kernel, by decide +kernel⟩, by decide +kernel, by decide +kernel⟩
theorem mk_406 : mm_recOk mr_406 := ⟨mm_in3 (List.mem_of_getElem? (i := 1) (by decide +kernel)) (by decide +kernel), (by intro h; cases h), fun _ => ⟨mm_in2 (List.mem_of_getElem? (i := 239) (by decide +kernel)) (by decide +kernel), mm_in3 (List.mem_of_getElem? (i := 0) (by decide +kernel)) (by decide +kernel)⟩, mm_in1 (List.mem_of_getElem? (i := 3) (by decide +kernel)) (by decide +kernel), ⟨by decide +kernel, by decide +kernel, by decide +kernel⟩, by decide +kernel, by decide +kernel⟩
theorem mk_407 : mm_recOk mr_407 := ⟨mm_in2 (List.mem_of_getElem? (i := 231) (by decide +kernel)) (by decide +kernel), (by intro h; cases h), fun _ => ⟨mm_in2 (List.mem_of_getElem? (i := 229) (by decide +kernel)) (by decide +kernel), mm_in2 (List.mem_of_getElem? (i := 230) (by decide +kernel)) (by decide +kernel)⟩, mm_in1 (List.mem_of_getElem? (i := 3) (by decide +kernel)) (by decide +kernel), ⟨by decide +kernel, by decide +kernel, by decide +kernel⟩, by decide +kernel, by decide +kernel⟩
theorem mk_408 : mm_recOk mr_408 := ⟨mm_in3 (List.mem_of_getElem? (i := 148) (by decide +kernel)) (by decide +kernel), (by intro h; cases h), fun _ => ⟨mm_in3 (List.mem_of_getElem? (i := 146) (by decide +kernel)) (by decide +kernel), mm_in3 (List.mem_of_getElem? (i := 147) (by decide +kernel)) (by decide +kernel)⟩, mm_in1 (List.mem_of_getElem? (i := 3) (by decide +kernel)) (by decide +kernel), ⟨by decide +kernel, by decide +kernel, by decide +kernel⟩, by decide +kernel, by decide +kernel⟩
theorem mk_409 : mm_recOk mr_409 := ⟨mm_in3 (List.mem_of_getElem? (i := 5) (by decide +kernel)) (by decide +kernel), (by intro h; cases h), fun _ => ⟨mm_in3 (List.mem_of_getElem? (i := 3) (by decide +kernel)) (by decide +kernel), mm_in3 (List.mem_of_getElem? (i := 4) (by decide +kernel)) (by decide +kernel)⟩, mm_in1 (List.mem_of_getElem? (i := 3) (by decide +kernel)) (by decide +kernel), ⟨by decide +kernel, by decide +kernel, by decide +kernel⟩, by decide +kernel, by decide +kernel⟩
theorem mk_410 : mm_recOk mr_410 := ⟨mm_in3 (List.mem_of_getElem? (i := 144) (by decide +kernel)) (by decide +kernel), (by intro h; cases h), fun _ => ⟨mm_in3 (List.mem_of_getElem? (i := 142) (by decide +kernel)) (by decide +kernel), mm_in3 (List.mem_of_getElem? (i := 143) (by decide +kernel)) (by decide +kernel)⟩, mm_in1 (List.mem_of_getElem? (i := 3) (by decide +kernel)) (by decide +kernel), ⟨by decide +kernel, by decide +kernel, by decide +kernel⟩, by decide +kernel, by decide +kernel⟩
theorem mk_411 : mm_recOk mr_411 := ⟨mm_in3 (List.mem_of_getElem? (i := 157) (by decide +kernel)) (by decide +kernel), (by intro h; cases h), fun _ => ⟨mm_in3 (List.mem_of_getElem? (i := 155) (by decide +kernel)) (by decide +kernel), mm_in3 (List.mem_of_getElem? (i := 156) (by decide +kernel)) (by decide +kernel)⟩, mm_in1 (List.mem_of_getElem? (i := 3) (by decide +kernel)) (by decide +kernel), ⟨by decide +kernel, by decide +kernel, by decide +kernel⟩, by decide +kernel, by decide +kernel⟩
theorem mk_412 : mm_recOk mr_412 := ⟨mm_in4 (List.mem_of_getElem? (i := 139) (by decide +kernel)) (by decide +kernel), (by intro h; cases h), fun _ => ⟨mm_in4 (List.mem_of_getElem? (i := 137) (by decide +kernel)) (by decide +kernel), mm_in4 (List.mem_of_getElem? (i := 138) (by decide +kernel)) (by decide +kernel)⟩, mm_in1 (List.mem_of_getElem? (i := 3) (by decide +kernel)) (by decide +kernel), ⟨by decide +kernel, by decide +kernel, by decide +kernel⟩, by decide +kernel, by decide +kernel⟩
theorem mk_501 : mm_recOk mr_501 := ⟨mm_in3 (List.mem_of_getElem? (i := 195) (by decide +kernel)) (by decide +kernel), fun _ => mm_in3 (List.mem_of_getElem? (i := 194) (by decide +kernel)) (by decide +kernel), (by intro h; cases h), mm_in1 (List.mem_of_getElem? (i := 7) (by decide +kernel)) (by decide +kernel), ⟨by decide +kernel, by decide +kernel, by decide +kernel⟩, by decide +kernel, by decide +kernel⟩
theorem mk_502 : mm_recOk mr_502 := ⟨mm_in3 (List.mem_of_getElem? (i := 205) (by decide +kernel)) (by decide +kernel), (by intro h; cases h), fun _ => ⟨mm_in3 (List.mem_of_getElem? (i := 203) (by decide +kernel)) (by decide +kernel), mm_in3 (List.mem_of_getElem? (i := 204) (by decide +kernel)) (by decide +kernel)⟩, mm_in1 (List.mem_of_getElem? (i := 7) (by decide +kernel)) (by decide +kernel), ⟨by decide +kernel, by decide +kernel, by decide +kernel⟩, by decide +kernel, by decide +kernel⟩
theorem mk_503 : mm_recOk mr_503 := ⟨mm_in3 (List.mem_of_getElem? (i := 209) (by decide +kernel)) (by decide +kernel), (by intro h; cases h), fun _ => ⟨mm_in3 (List.mem_of_getElem? (i := 207) (by decide +kernel)) (by decide +kernel), mm_in3 (List.mem_of_getElem? (i := 208) (by decide +kernel)) (by decide +kernel)⟩, mm_in1 (List.mem_of_getElem? (i := 7) (by decide +kernel)) (by decide +kernel), ⟨by decide +kernel, by decide +kernel, by decide +kernel⟩, by decide +kernel, by decide +kernel⟩
theorem mk_504 : mm_recOk mr_504 := ⟨mm_in4 (List.mem_of_getElem? (i := 109) (by decide +kernel)) (by decide +kernel), (by intro h; cases h), fun _ => ⟨mm_in4 (List.mem_of_getElem? (i := 107) (by decide +kernel)) (by decide +kernel), mm_in4 (List.mem_of_getElem? (i := 108) (by decide +kernel)) (by decide +kernel)⟩, mm_in1 (List.mem_of_getElem? (i := 7) (by decide +kernel)) (by decide +kernel), ⟨by decide +kernel, by decide +kernel, by decide +kernel⟩, by decide +kernel, by decide +kernel⟩
theorem mk_601 : mm_recOk mr_601 := ⟨mm_in4 (List.mem_of_getElem? (i := 26) (by decide +kernel)) (by decide +kernel), (by intro h; cases h), fun _ => ⟨mm_in4 (List.mem_of_getElem? (i := 24) (by decide +kernel)) (by decide +kernel), mm_in4 (List.mem_of_getElem? (i := 25) (by decide +kernel)) (by decide +kernel)⟩, mm_in1 (List.mem_of_getElem? (i := 9) (by decide +kernel)) (by decide +kernel), ⟨by decide +kernel, by decide +kernel, by decide +kernel⟩, by decide +kernel, by decide +kernel⟩
theorem mk_602 : mm_recOk mr_602 := ⟨mm_in4 (List.mem_of_getElem? (i := 46) (by decide +kernel)) (by decide +kernel), (by intro h; cases h), fun _ => ⟨mm_in4 (List.mem_of_getElem? (i := 45) (by decide +kernel)) (by decide +kernel), mm_inP (q := (yX6_costOfRow, 5)) (List.mem_of_getElem? (i := 21) (by decide +kernel)) (by decide +kernel)⟩, mm_in1 (List.mem_of_getElem? (i := 9) (by decide +kernel)) (by decide +kernel), ⟨by decide +kernel, by decide +kernel, by decide +kernel⟩, by decide +kernel, by decide +kernel⟩
theorem mk_603 : mm_recOk mr_603 := ⟨mm_in4 (List.mem_of_getElem? (i := 37) (by decide +kernel)) (by decide +kernel), (by intro h; cases h), fun _ => ⟨mm_in4 (List.mem_of_getElem? (i := 35) (by decide +kernel)) (by decide +kernel), mm_in4 (List.mem_of_getElem? (i := 36) (by decide +kernel)) (by decide +kernel)⟩, mm_in1 (List.mem_of_getElem? (i := 9) (by decide +kernel)) (by decide +kernel), ⟨by decide +kernel, by decide +kernel, by decide +kernel⟩, by decide +kernel, by decide +kernel⟩
theorem mk_604 : mm_recOk mr_604 := ⟨mm_in4 (List.mem_of_getElem? (i := 42) (by decide +kernel)) (by decide +kernel), (by intro h; cases h), fun _ => ⟨mm_in4 (List.mem_of_getElem? (i := 41) (by decide +kernel)) (by decide +kernel), mm_inP (q := (yX6_leastFrom, 5)) (List.mem_of_getElem? (i := 20) (by decide +kernel)) (by decide +kernel)⟩, mm_in1 (List.mem_of_getElem? (i := 9) (by decide +kernel)) (by decide +kernel), ⟨by decide +kernel, by decide +kernel, by decide +kernel⟩, by decide +kernel, by decide +kernel⟩
theorem mk_605 : mm_recOk mr_605 := ⟨mm_in4 (List.mem_of_getElem? (i := 51) (by decide +kernel)) (by decide +kernel), (by intro h; cases h), fun _ => ⟨mm_in4 (List.mem_of_getElem? (i := 49) (by decide +kernel)) (by decide +kernel), mm_in4 (List.mem_of_getElem? (i := 50) (by decide +kernel)) (by decide +kernel)⟩, mm_in1 (List.mem_of_getElem? (i := 9) (by decide +kernel)) (by decide +kernel), ⟨by decide +kernel, by decide +kernel, by decide +kernel⟩, by decide +kernel, by decide +kernel⟩
theorem mk_606 : mm_recOk mr_606 := ⟨mm_in4 (List.mem_of_getElem? (i := 55) (by decide +kernel)) (by decide +kernel), (by intro h; cases h), fun _ => ⟨mm_in4 (List.mem_of_getElem? (i := 53) (by decide +kernel)) (by decide +kernel), mm_in4 (List.mem_of_getElem? (i := 54) (by decide +kernel)) (by decide +kernel)⟩, mm_in1 (List.mem_of_getElem? (i := 9) (by decide +kernel)) (by decide +kernel), ⟨by decide +kernel, by decide +kernel, by decide +kernel⟩, by decide +kernel, by decide +kernel⟩
theorem mk_607 : mm_recOk mr_607 := ⟨mm_in4 (List.mem_of_getElem? (i := 60) (by decide +kernel)) (by decide +kernel), (by intro h; cases h), fun _ => ⟨mm_in4 (List.mem_of_getElem? (i := 59) (by decide +kernel)) (by decide +kernel), mm_inP (q := (yX6_furthest, 5)) (List.mem_of_getElem? (i := 22) (by decide +kernel)) (by decide +kernel)⟩, mm_in1 (List.mem_of_getElem? (i := 9) (by decide +kernel)) (by decide +kernel), ⟨by decide +kernel, by decide +kernel, by decide +kernel⟩, by decide +kernel, by decide +kernel⟩
theorem mk_701 : mm_recOk mr_701 := ⟨mm_in4 (List.mem_of_getElem? (i := 143) (by decide +kernel)) (by decide +kernel), (by intro h; cases h), fun _ => ⟨mm_in4 (List.mem_of_getElem? (i := 141) (by decide +kernel)) (by decide +kernel), mm_in4 (List.mem_of_getElem? (i := 142) (by decide +kernel)) (by decide +kernel)⟩, mm_in1 (List.mem_of_getElem? (i := 5) (by decide +kernel)) (by decide +kernel), ⟨by decide +kernel, by decide +kernel, by decide +kernel⟩, by decide +kernel, by decide +kernel⟩
theorem mk_702 : mm_recOk mr_702 := ⟨mm_in4 (List.mem_of_getElem? (i := 152) (by decide +kernel)) (by decide +kernel), (by intro h; cases h), fun _ => ⟨mm_in4 (List.mem_of_getElem? (i := 150) (by decide +kernel)) (by decide +kernel), mm_in4 (List.mem_of_getElem? (i := 151) (by decide +kernel)) (by decide +kernel)⟩, mm_in1 (List.mem_of_getElem? (i := 5) (by decide +kernel)) (by decide +kernel), ⟨by decide +kernel, by decide +kernel, by decide +kernel⟩, by decide +kernel, by decide +kernel⟩
theorem mk_703 : mm_recOk mr_703 := ⟨mm_in4 (List.mem_of_getElem? (i := 156) (by decide +kernel)) (by decide +kernel), (by intro h; cases h), fun _ => ⟨mm_in4 (List.mem_of_getElem? (i := 155) (by decide +kernel)) (by decide +kernel), mm_inP (q := (yX7_sum, 2)) (List.mem_of_getElem? (i := 25) (by decide +kernel)) (by decide +kernel)⟩, mm_in1 (List.mem_of_getElem? (i := 5) (by decide +kernel)) (by decide +kernel), ⟨by decide +kernel, by decide +kernel, by decide +kernel⟩, by decide +kernel, by decide +kernel⟩
theorem mk_704 : mm_recOk mr_704 := ⟨mm_in4 (List.mem_of_getElem? (i := 160) (by decide +kernel)) (by decide +kernel), (by intro h; cases h), fun _ => ⟨mm_in4 (List.mem_of_getElem? (i := 159) (by decide +kernel)) (by decide +kernel), mm_inP (q := (yX7_unlike, 2)) (List.mem_of_getElem? (i := 26) (by decide +kernel)) (by decide +kernel)⟩, mm_in1 (List.mem_of_getElem? (i := 5) (by decide +kernel)) (by decide +kernel), ⟨by decide +kernel, by decide +kernel, by decide +kernel⟩, by decide +kernel, by decide +kernel⟩
theorem mk_705 : mm_recOk mr_705 := ⟨mm_in4 (List.mem_of_getElem? (i := 164) (by decide +kernel)) (by decide +kernel), (by intro h; cases h), fun _ => ⟨mm_in4 (List.mem_of_getElem? (i := 163) (by decide +kernel)) (by decide +kernel), mm_inP (q := (yX7_mostFrequent, 2)) (List.mem_of_getElem? (i := 27) (by decide +kernel)) (by decide +kernel)⟩, mm_in1 (List.mem_of_getElem? (i := 5) (by decide +kernel)) (by decide +kernel), ⟨by decide +kernel, by decide +kernel, by decide +kernel⟩, by decide +kernel, by decide +kernel⟩
theorem mk_706 : mm_recOk mr_706 := ⟨mm_in4 (List.mem_of_getElem? (i := 168) (by decide +kernel)) (by decide +kernel), (by intro h; cases h), fun _ => ⟨mm_in4 (List.mem_of_getElem? (i := 167) (by decide +kernel)) (by decide +kernel), mm_inP (q := (yX7_power, 2)) (List.mem_of_getElem? (i := 28) (by decide +kernel)) (by decide +kernel)⟩, mm_in1 (List.mem_of_getElem? (i := 5) (by decide +kernel)) (by decide +kernel), ⟨by decide +kernel, by decide +kernel, by decide +kernel⟩, by decide +kernel, by decide +kernel⟩
theorem mk_707 : mm_recOk mr_707 := ⟨mm_in4 (List.mem_of_getElem? (i := 172) (by decide +kernel)) (by decide +kernel), (by intro h; cases h), fun _ => ⟨mm_in4 (List.mem_of_getElem? (i := 171) (by decide +kernel)) (by decide +kernel), mm_inP (q := (yX7_missing, 2)) (List.mem_of_getElem? (i := 29) (by decide +kernel)) (by decide +kernel)⟩, mm_in1 (List.mem_of_getElem? (i := 5) (by decide +kernel)) (by decide +kernel), ⟨by decide +kernel, by decide +kernel, by decide +kernel⟩, by decide +kernel, by decide +kernel⟩
theorem mk_708 : mm_recOk mr_708 := ⟨mm_in4 (List.mem_of_getElem? (i := 176) (by decide +kernel)) (by decide +kernel), (by intro h; cases h), fun _ => ⟨mm_in4 (List.mem_of_getElem? (i := 175) (by decide +kernel)) (by decide +kernel), mm_inP (q := (yX7_parts, 2)) (List.mem_of_getElem? (i := 30) (by decide +kernel)) (by decide +kernel)⟩, mm_in1 (List.mem_of_getElem? (i := 5) (by decide +kernel)) (by decide +kernel), ⟨by decide +kernel, by decide +kernel, by decide +kernel⟩, by decide +kernel, by decide +kernel⟩
theorem mk_709 : mm_recOk mr_709 := ⟨mm_in4 (List.mem_of_getElem? (i := 181) (by decide +kernel)) (by decide +kernel), (by intro h; cases h), fun _ => ⟨mm_in4 (List.mem_of_getElem? (i := 180) (by decide +kernel)) (by decide +kernel), mm_inP (q := (yX7_join, 2)) (List.mem_of_getElem? (i := 31) (by decide +kernel)) (by decide +kernel)⟩, mm_in1 (List.mem_of_getElem? (i := 5) (by decide +kernel)) (by decide +kernel), ⟨by decide +kernel, by decide +kernel, by decide +kernel⟩, by decide +kernel, by decide +kernel⟩
theorem mk_710 : mm_recOk mr_710 := ⟨mm_in4 (List.mem_of_getElem? (i := 185) (by decide +kernel)) (by decide +kernel), (by intro h; cases h), fun _ => ⟨mm_in4 (List.mem_of_getElem? (i := 184) (by decide +kernel)) (by decide +kernel), mm_inP (q := (yX7_pairs, 2)) (List.mem_of_getElem? (i := 32) (by decide +kernel)) (by decide +kernel)⟩, mm_in1 (List.mem_of_getElem? (i := 5) (by decide +kernel)) (by decide +kernel), ⟨by decide +kernel, by decide +kernel, by decide +kernel⟩, by decide +kernel, by decide +kernel⟩
theorem mk_801 : mm_recOk mr_801 := ⟨mm_in4 (List.mem_of_getElem? (i := 93) (by decide +kernel)) (by decide +kernel), (by intro h; cases h), fun _ => ⟨mm_in4 (List.mem_of_getElem? (i := 91) (by decide +kernel)) (by decide +kernel), mm_in4 (List.mem_of_getElem? (i := 92) (by decide +kernel)) (by decide +kernel)⟩, mm_in1 (List.mem_of_getElem? (i := 10) (by decide +kernel)) (by decide +kernel), ⟨by decide +kernel, by decide +kernel, by decide +kernel⟩, by decide +kernel, by decide +kernel⟩
theorem mk_802 : mm_recOk mr_802 := ⟨mm_in4 (List.mem_of_getElem? (i := 104) (by decide +kernel)) (by decide +kernel), (by intro h; cases h), fun _ => ⟨mm_in4 (List.mem_of_getElem? (i := 102) (by decide +kernel)) (by decide +kernel), mm_in4 (List.mem_of_getElem? (i := 103) (by decide +kernel)) (by decide +kernel)⟩, mm_in1 (List.mem_of_getElem? (i := 10) (by decide +kernel)) (by decide +kernel), ⟨by decide +kernel, by decide +kernel, by decide +kernel⟩, by decide +kernel, by decide +kernel⟩
theorem mk_803 : mm_recOk mr_803 := ⟨mm_in4 (List.mem_of_getElem? (i := 114) (by decide +kernel)) (by decide +kernel), (by intro h; cases h), fun _ => ⟨mm_in4 (List.mem_of_getElem? (i := 113) (by decide +kernel)) (by decide +kernel), mm_inP (q := (yX8_come, 4)) (List.mem_of_getElem? (i := 23) (by decide +kernel)) (by decide +kernel)⟩, mm_in1 (List.mem_of_getElem? (i := 10) (by decide +kernel)) (by decide +kernel), ⟨by decide +kernel, by decide +kernel, by decide +kernel⟩, by decide +kernel, by decide +kernel⟩
theorem mk_901 : mm_recOk mr_901 := ⟨mm_in3 (List.mem_of_getElem? (i := 52) (by decide +kernel)) (by decide +kernel), (by intro h; cases h), fun _ => ⟨mm_in3 (List.mem_of_getElem? (i := 50) (by decide +kernel)) (by decide +kernel), mm_in3 (List.mem_of_getElem? (i := 51) (by decide +kernel)) (by decide +kernel)⟩, mm_in1 (List.mem_of_getElem? (i := 8) (by decide +kernel)) (by decide +kernel), ⟨by decide +kernel, by decide +kernel, by decide +kernel⟩, by decide +kernel, by decide +kernel⟩
theorem mk_902 : mm_recOk mr_902 := ⟨mm_in3 (List.mem_of_getElem? (i := 67) (by decide +kernel)) (by decide +kernel), (by intro h; cases h), fun _ => ⟨mm_in3 (List.mem_of_getElem? (i := 65) (by decide +kernel)) (by decide +kernel), mm_in3 (List.mem_of_getElem? (i := 66) (by decide +kernel)) (by decide +kernel)⟩, mm_in1 (List.mem_of_getElem? (i := 8) (by decide +kernel)) (by decide +kernel), ⟨by decide +kernel, by decide +kernel, by decide +kernel⟩, by decide +kernel, by decide +kernel⟩
theorem mk_903 : mm_recOk mr_903 := ⟨mm_in4 (List.mem_of_getElem? (i := 6) (by decide +kernel)) (by decide +kernel), (by intro h; cases h), fun _ => ⟨mm_in4 (List.mem_of_getElem? (i := 4) (by decide +kernel)) (by decide +kernel), mm_in4 (List.mem_of_getElem? (i := 5) (by decide +kernel)) (by decide +kernel)⟩, mm_in1 (List.mem_of_getElem? (i := 8) (by decide +kernel)) (by decide +kernel), ⟨by decide +kernel, by decide +kernel, by decide +kernel⟩, by decide +kernel, by decide +kernel⟩
theorem mk_904 : mm_recOk mr_904 := ⟨mm_in3 (List.mem_of_getElem? (i := 228) (by decide +kernel)) (by decide +kernel), (by intro h; cases h), fun _ => ⟨mm_in3 (List.mem_of_getElem? (i := 226) (by decide +kernel)) (by decide +kernel), mm_in3 (List.mem_of_getElem? (i := 227) (by decide +kernel)) (by decide +kernel)⟩, mm_in1 (List.mem_of_getElem? (i := 8) (by decide +kernel)) (by decide +kernel), ⟨by decide +kernel, by decide +kernel, by decide +kernel⟩, by decide +kernel, by decide +kernel⟩
theorem mk_905 : mm_recOk mr_905 := ⟨mm_in3 (List.mem_of_getElem? (i := 235) (by decide +kernel)) (by decide +kernel), (by intro h; cases h), fun _ => ⟨mm_in3 (List.mem_of_getElem? (i := 233) (by decide +kernel)) (by decide +kernel), mm_in3 (List.mem_of_getElem? (i := 234) (by decide +kernel)) (by decide +kernel)⟩, mm_in1 (List.mem_of_getElem? (i := 8) (by decide +kernel)) (by decide +kernel), ⟨by decide +kernel, by decide +kernel, by decide +kernel⟩, by decide +kernel, by decide +kernel⟩
theorem mk_906 : mm_recOk mr_906 := ⟨mm_in4 (List.mem_of_getElem? (i := 72) (by decide +kernel)) (by decide +kernel), (by intro h; cases h), fun _ => ⟨mm_in4 (List.mem_of_getElem? (i := 70) (by decide +kernel)) (by decide +kernel), mm_in4 (List.mem_of_getElem? (i := 71) (by decide +kernel)) (by decide +kernel)⟩, mm_in1 (List.mem_of_getElem? (i := 8) (by decide +kernel)) (by decide +kernel), ⟨by decide +kernel, by decide +kernel, by decide +kernel⟩, by decide +kernel, by decide +kernel⟩
theorem mk_907 : mm_recOk mr_907 := ⟨mm_in3 (List.mem_of_getElem? (i := 239) (by decide +kernel)) (by decide +kernel), (by intro h; cases h), fun _ => ⟨mm_in3 (List.mem_of_getElem? (i := 237) (by decide +kernel)) (by decide +kernel), mm_in3 (List.mem_of_getElem? (i := 238) (by decide +kernel)) (by decide +kernel)⟩, mm_in1 (List.mem_of_getElem? (i := 8) (by decide +kernel)) (by decide +kernel), ⟨by decide +kernel, by decide +kernel, by decide +kernel⟩, by decide +kernel, by decide +kernel⟩
theorem mk_908 : mm_recOk mr_908 := ⟨mm_in3 (List.mem_of_getElem? (i := 140) (by decide +kernel)) (by decide +kernel), (by intro h; cases h), fun _ => ⟨mm_in3 (List.mem_of_getElem? (i := 138) (by decide +kernel)) (by decide +kernel), mm_in3 (List.mem_of_getElem? (i := 139) (by decide +kernel)) (by decide +kernel)⟩, mm_in1 (List.mem_of_getElem? (i := 8) (by decide +kernel)) (by decide +kernel), ⟨by decide +kernel, by decide +kernel, by decide +kernel⟩, by decide +kernel, by decide +kernel⟩
theorem mk_909 : mm_recOk mr_909 := ⟨mm_in4 (List.mem_of_getElem? (i := 76) (by decide +kernel)) (by decide +kernel), (by intro h; cases h), fun _ => ⟨mm_in4 (List.mem_of_getElem? (i := 74) (by decide +kernel)) (by decide +kernel), mm_in4 (List.mem_of_getElem? (i := 75) (by decide +kernel)) (by decide +kernel)⟩, mm_in1 (List.mem_of_getElem? (i := 8) (by decide +kernel)) (by decide +kernel), ⟨by decide +kernel, by decide +kernel, by decide +kernel⟩, by decide +kernel, by decide +kernel⟩
theorem mk_1001 : mm_recOk mr_1001 := ⟨mm_in2 (List.mem_of_getElem? (i := 106) (by decide +kernel)) (by decide +kernel), (by intro h; cases h), fun _ => ⟨mm_in2 (List.mem_of_getElem? (i := 104) (by decide +kernel)) (by decide +kernel), mm_in2 (List.mem_of_getElem? (i := 105) (by decide +kernel)) (by decide +kernel)⟩, mm_in1 (List.mem_of_getElem? (i := 1) (by decide +kernel)) (by decide +kernel), ⟨by decide +kernel, by decide +kernel, by decide +kernel⟩, by decide +kernel, by decide +kernel⟩
theorem mk_1002 : mm_recOk mr_1002 := ⟨mm_in2 (List.mem_of_getElem? (i := 114) (by decide +kernel)) (by decide +kernel), (by intro h; cases h), fun _ => ⟨mm_in2 (List.mem_of_getElem? (i := 112) (by decide +kernel)) (by decide +kernel), mm_in2 (List.mem_of_getElem? (i := 113) (by decide +kernel)) (by decide +kernel)⟩, mm_in1 (List.mem_of_getElem? (i := 1) (by decide +kernel)) (by decide +kernel), ⟨by decide +kernel, by decide +kernel, by decide +kernel⟩, by decide +kernel, by decide +kernel⟩
theorem mk_1003 : mm_recOk mr_1003 := ⟨mm_in3 (List.mem_of_getElem? (i := 56) (by decide +kernel)) (by decide +kernel), (by intro h; cases h), fun _ => ⟨mm_in3 (List.mem_of_getElem? (i := 54) (by decide +kernel)) (by decide +kernel), mm_in3 (List.mem_of_getElem? (i := 55) (by decide +kernel)) (by decide +kernel)⟩, mm_in1 (List.mem_of_getElem? (i := 1) (by decide +kernel)) (by decide +kernel), ⟨by decide +kernel, by decide +kernel, by decide +kernel⟩, by decide +kernel, by decide +kernel⟩
theorem mk_1004 : mm_recOk mr_1004 := ⟨mm_in3 (List.mem_of_getElem? (i := 76) (by decide +kernel)) (by decide +kernel), (by intro h; cases h), fun _ => ⟨mm_in3 (List.mem_of_getElem? (i := 74) (by decide +kernel)) (by decide +kernel), mm_in3 (List.mem_of_getElem? (i := 75) (by decide +kernel)) (by decide +kernel)⟩, mm_in1 (List.mem_of_getElem? (i := 1) (by decide +kernel)) (by decide +kernel), ⟨by decide +kernel, by decide +kernel, by decide +kernel⟩, by decide +kernel, by decide +kernel⟩
theorem mk_1005 : mm_recOk mr_1005 := ⟨mm_in3 (List.mem_of_getElem? (i := 82) (by decide +kernel)) (by decide +kernel), (by intro h; cases h), fun _ => ⟨mm_in3 (List.mem_of_getElem? (i := 80) (by decide +kernel)) (by decide +kernel), mm_in3 (List.mem_of_getElem? (i := 81) (by decide +kernel)) (by decide +kernel)⟩, mm_in1 (List.mem_of_getElem? (i := 1) (by decide +kernel)) (by decide +kernel), ⟨by decide +kernel, by decide +kernel, by decide +kernel⟩, by decide +kernel, by decide +kernel⟩
theorem mk_1006 : mm_recOk mr_1006 := ⟨mm_in3 (List.mem_of_getElem? (i := 102) (by decide +kernel)) (by decide +kernel), (by intro h; cases h), fun _ => ⟨mm_in3 (List.mem_of_getElem? (i := 100) (by decide +kernel)) (by decide +kernel), mm_in3 (List.mem_of_getElem? (i := 101) (by decide +kernel)) (by decide +kernel)⟩, mm_in1 (List.mem_of_getElem? (i := 1) (by decide +kernel)) (by decide +kernel), ⟨by decide +kernel, by decide +kernel, by decide +kernel⟩, by decide +kernel, by decide +kernel⟩
theorem mk_1007 : mm_recOk mr_1007 := ⟨mm_in3 (List.mem_of_getElem? (i := 114) (by decide +kernel)) (by decide +kernel), (by intro h; cases h), fun _ => ⟨mm_in3 (List.mem_of_getElem? (i := 112) (by decide +kernel)) (by decide +kernel), mm_in3 (List.mem_of_getElem? (i := 113) (by decide +kernel)) (by decide +kernel)⟩, mm_in1 (List.mem_of_getElem? (i := 1) (by decide +kernel)) (by decide +kernel), ⟨by decide +kernel, by decide +kernel, by decide +kernel⟩, by decide +kernel, by decide +kernel⟩
theorem mk_1008 : mm_recOk mr_1008 := ⟨mm_in3 (List.mem_of_getElem? (i := 118) (by decide +kernel)) (by decide +kernel), (by intro h; cases h), fun _ => ⟨mm_in3 (List.mem_of_getElem? (i := 116) (by decide +kernel)) (by decide +kernel), mm_in3 (List.mem_of_getElem? (i := 117) (by decide +kernel)) (by decide +kernel)⟩, mm_in1 (List.mem_of_getElem? (i := 1) (by decide +kernel)) (by decide +kernel), ⟨by decide +kernel, by decide +kernel, by decide +kernel⟩, by decide +kernel, by decide +kernel⟩
theorem mk_1009 : mm_recOk mr_1009 := ⟨mm_in3 (List.mem_of_getElem? (i := 128) (by decide +kernel)) (by decide +kernel), (by intro h; cases h), fun _ => ⟨mm_in3 (List.mem_of_getElem? (i := 126) (by decide +kernel)) (by decide +kernel), mm_in3 (List.mem_of_getElem? (i := 127) (by decide +kernel)) (by decide +kernel)⟩, mm_in1 (List.mem_of_getElem? (i := 1) (by decide +kernel)) (by decide +kernel), ⟨by decide +kernel, by decide +kernel, by decide +kernel⟩, by decide +kernel, by decide +kernel⟩
theorem mk_1010 : mm_recOk mr_1010 := ⟨mm_in4 (List.mem_of_getElem? (i := 229) (by decide +kernel)) (by decide +kernel), (by intro h; cases h), fun _ => ⟨mm_in4 (List.mem_of_getElem? (i := 227) (by decide +kernel)) (by decide +kernel), mm_in4 (List.mem_of_getElem? (i := 228) (by decide +kernel)) (by decide +kernel)⟩, mm_in1 (List.mem_of_getElem? (i := 1) (by decide +kernel)) (by decide +kernel), ⟨by decide +kernel, by decide +kernel, by decide +kernel⟩, by decide +kernel, by decide +kernel⟩
theorem mk_1011 : mm_recOk mr_1011 := ⟨mm_in3 (List.mem_of_getElem? (i := 153) (by decide +kernel)) (by decide +kernel), (by intro h; cases h), fun _ => ⟨mm_in3 (List.mem_of_getElem? (i := 151) (by decide +kernel)) (by decide +kernel), mm_in3 (List.mem_of_getElem? (i := 152) (by decide +kernel)) (by decide +kernel)⟩, mm_in1 (List.mem_of_getElem? (i := 1) (by decide +kernel)) (by decide +kernel), ⟨by decide +kernel, by decide +kernel, by decide +kernel⟩, by decide +kernel, by decide +kernel⟩
theorem mk_1012 : mm_recOk mr_1012 := ⟨mm_in3 (List.mem_of_getElem? (i := 162) (by decide +kernel)) (by decide +kernel), (by intro h; cases h), fun _ => ⟨mm_in3 (List.mem_of_getElem? (i := 160) (by decide +kernel)) (by decide +kernel), mm_in3 (List.mem_of_getElem? (i := 161) (by decide +kernel)) (by decide +kernel)⟩, mm_in1 (List.mem_of_getElem? (i := 1) (by decide +kernel)) (by decide +kernel), ⟨by decide +kernel, by decide +kernel, by decide +kernel⟩, by decide +kernel, by decide +kernel⟩
theorem mk_1013 : mm_recOk mr_1013 := ⟨mm_in3 (List.mem_of_getElem? (i := 178) (by decide +kernel)) (by decide +kernel), (by intro h; cases h), fun _ => ⟨mm_in3 (List.mem_of_getElem? (i := 176) (by decide +kernel)) (by decide +kernel), mm_in3 (List.mem_of_getElem? (i := 177) (by decide +kernel)) (by decide +kernel)⟩, mm_in1 (List.mem_of_getElem? (i := 1) (by decide +kernel)) (by decide +kernel), ⟨by decide +kernel, by decide +kernel, by decide +kernel⟩, by decide +kernel, by decide +kernel⟩
theorem mk_1014 : mm_recOk mr_1014 := ⟨mm_in3 (List.mem_of_getElem? (i := 213) (by decide +kernel)) (by decide +kernel), (by intro h; cases h), fun _ => ⟨mm_in3 (List.mem_of_getElem? (i := 211) (by decide +kernel)) (by decide +kernel), mm_in3 (List.mem_of_getElem? (i := 212) (by decide +kernel)) (by decide +kernel)⟩, mm_in1 (List.mem_of_getElem? (i := 1) (by decide +kernel)) (by decide +kernel), ⟨by decide +kernel, by decide +kernel, by decide +kernel⟩, by decide +kernel, by decide +kernel⟩
theorem mk_1015 : mm_recOk mr_1015 := ⟨mm_in4 (List.mem_of_getElem? (i := 14) (by decide +kernel)) (by decide +kernel), (by intro h; cases h), fun _ => ⟨mm_in4 (List.mem_of_getElem? (i := 12) (by decide +kernel)) (by decide +kernel), mm_in4 (List.mem_of_getElem? (i := 13) (by decide +kernel)) (by decide +kernel)⟩, mm_in1 (List.mem_of_getElem? (i := 1) (by decide +kernel)) (by decide +kernel), ⟨by decide +kernel, by decide +kernel, by decide +kernel⟩, by decide +kernel, by decide +kernel⟩
theorem mk_1016 : mm_recOk mr_1016 := ⟨mm_in4 (List.mem_of_getElem? (i := 22) (by decide +kernel)) (by decide +kernel), (by intro h; cases h), fun _ => ⟨mm_in4 (List.mem_of_getElem? (i := 20) (by decide +kernel)) (by decide +kernel), mm_in4 (List.mem_of_getElem? (i := 21) (by decide +kernel)) (by decide +kernel)⟩, mm_in1 (List.mem_of_getElem? (i := 1) (by decide +kernel)) (by decide +kernel), ⟨by decide +kernel, by decide +kernel, by decide +kernel⟩, by decide +kernel, by decide +kernel⟩
theorem mk_1017 : mm_recOk mr_1017 := ⟨mm_in4 (List.mem_of_getElem? (i := 64) (by decide +kernel)) (by decide +kernel), (by intro h; cases h), fun _ => ⟨mm_in4 (List.mem_of_getElem? (i := 62) (by decide +kernel)) (by decide +kernel), mm_in4 (List.mem_of_getElem? (i := 63) (by decide +kernel)) (by decide +kernel)⟩, mm_in1 (List.mem_of_getElem? (i := 1) (by decide +kernel)) (by decide +kernel), ⟨by decide +kernel, by decide +kernel, by decide +kernel⟩, by decide +kernel, by decide +kernel⟩
theorem mk_1018 : mm_recOk mr_1018 := ⟨mm_in4 (List.mem_of_getElem? (i := 80) (by decide +kernel)) (by decide +kernel), (by intro h; cases h), fun _ => ⟨mm_in4 (List.mem_of_getElem? (i := 78) (by decide +kernel)) (by decide +kernel), mm_in4 (List.mem_of_getElem? (i := 79) (by decide +kernel)) (by decide +kernel)⟩, mm_in1 (List.mem_of_getElem? (i := 1) (by decide +kernel)) (by decide +kernel), ⟨by decide +kernel, by decide +kernel, by decide +kernel⟩, by decide +kernel, by decide +kernel⟩
theorem mk_1019 : mm_recOk mr_1019 := ⟨mm_in4 (List.mem_of_getElem? (i := 85) (by decide +kernel)) (by decide +kernel), (by intro h; cases h), fun _ => ⟨mm_in4 (List.mem_of_getElem? (i := 83) (by decide +kernel)) (by decide +kernel), mm_in4 (List.mem_of_getElem? (i := 84) (by decide +kernel)) (by decide +kernel)⟩, mm_in1 (List.mem_of_getElem? (i := 1) (by decide +kernel)) (by decide +kernel), ⟨by decide +kernel, by decide +kernel, by decide +kernel⟩, by decide +kernel, by decide +kernel⟩
theorem mk_1020 : mm_recOk mr_1020 := ⟨mm_in4 (List.mem_of_getElem? (i := 89) (by decide +kernel)) (by decide +kernel), (by intro h; cases h), fun _ => ⟨mm_in4 (List.mem_of_getElem? (i := 87) (by decide +kernel)) (by decide +kernel), mm_in4 (List.mem_of_getElem? (i := 88) (by decide +kernel)) (by decide +kernel)⟩, mm_in1 (List.mem_of_getElem? (i := 1) (by decide +kernel)) (by decide +kernel), ⟨by decide +kernel, by decide +kernel, by decide +kernel⟩, by decide +kernel, by decide +kernel⟩
theorem mk_1021 : mm_recOk mr_1021 := ⟨mm_in4 (List.mem_of_getElem? (i := 100) (by decide +kernel)) (by decide +kernel), (by intro h; cases h), fun _ => ⟨mm_in4 (List.mem_of_getElem? (i := 98) (by decide +kernel)) (by decide +kernel), mm_in4 (List.mem_of_getElem? (i := 99) (by decide +kernel)) (by decide +kernel)⟩, mm_in1 (List.mem_of_getElem? (i := 1) (by decide +kernel)) (by decide +kernel), ⟨by decide +kernel, by decide +kernel, by decide +kernel⟩, by decide +kernel, by decide +kernel⟩
theorem mk_1022 : mm_recOk mr_1022 := ⟨mm_in4 (List.mem_of_getElem? (i := 119) (by decide +kernel)) (by decide +kernel), (by intro h; cases h), fun _ => ⟨mm_in4 (List.mem_of_getElem? (i := 117) (by decide +kernel)) (by decide +kernel), mm_in4 (List.mem_of_getElem? (i := 118) (by decide +kernel)) (by decide +kernel)⟩, mm_in1 (List.mem_of_getElem? (i := 1) (by decide +kernel)) (by decide +kernel), ⟨by decide +kernel, by decide +kernel, by decide +kernel⟩, by decide +kernel, by decide +kernel⟩
theorem mk_1023 : mm_recOk mr_1023 := ⟨mm_in4 (List.mem_of_getElem? (i := 127) (by decide +kernel)) (by decide +kernel), (by intro h; cases h), fun _ => ⟨mm_in4 (List.mem_of_getElem? (i := 125) (by decide +kernel)) (by decide +kernel), mm_in4 (List.mem_of_getElem? (i := 126) (by decide +kernel)) (by decide +kernel)⟩, mm_in1 (List.mem_of_getElem? (i := 1) (by decide +kernel)) (by decide +kernel), ⟨by decide +kernel, by decide +kernel, by decide +kernel⟩, by decide +kernel, by decide +kernel⟩
theorem mk_1024 : mm_recOk mr_1024 := ⟨mm_in4 (List.mem_of_getElem? (i := 131) (by decide +kernel)) (by decide +kernel), (by intro h; cases h), fun _ => ⟨mm_in4 (List.mem_of_getElem? (i := 129) (by decide +kernel)) (by decide +kernel), mm_in4 (List.mem_of_getElem? (i := 130) (by decide +kernel)) (by decide +kernel)⟩, mm_in1 (List.mem_of_getElem? (i := 1) (by decide +kernel)) (by decide +kernel), ⟨by decide +kernel, by decide +kernel, by decide +kernel⟩, by decide +kernel, by decide +kernel⟩
theorem mk_1025 : mm_recOk mr_1025 := ⟨mm_in4 (List.mem_of_getElem? (i := 190) (by decide +kernel)) (by decide +kernel), (by intro h; cases h), fun _ => ⟨mm_in4 (List.mem_of_getElem? (i := 188) (by decide +kernel)) (by decide +kernel), mm_in4 (List.mem_of_getElem? (i := 189) (by decide +kernel)) (by decide +kernel)⟩, mm_in1 (List.mem_of_getElem? (i := 1) (by decide +kernel)) (by decide +kernel), ⟨by decide +kernel, by decide +kernel, by decide +kernel⟩, by decide +kernel, by decide +kernel⟩
theorem mk_1026 : mm_recOk mr_1026 := ⟨mm_in4 (List.mem_of_getElem? (i := 194) (by decide +kernel)) (by decide +kernel), (by intro h; cases h), fun _ => ⟨mm_in4 (List.mem_of_getElem? (i := 192) (by decide +kernel)) (by decide +kernel), mm_in4 (List.mem_of_getElem? (i := 193) (by decide +kernel)) (by decide +kernel)⟩, mm_in1 (List.mem_of_getElem? (i := 1) (by decide +kernel)) (by decide +kernel), ⟨by decide +kernel, by decide +kernel, by decide +kernel⟩, by decide +kernel, by decide +kernel⟩
theorem mk_1027 : mm_recOk mr_1027 := ⟨mm_in4 (List.mem_of_getElem? (i := 200) (by decide +kernel)) (by decide +kernel), (by intro h; cases h), fun _ => ⟨mm_in4 (List.mem_of_getElem? (i := 198) (by decide +kernel)) (by decide +kernel), mm_in4 (List.mem_of_getElem? (i := 199) (by decide +kernel)) (by decide +kernel)⟩, mm_in1 (List.mem_of_getElem? (i := 1) (by decide +kernel)) (by decide +kernel), ⟨by decide +kernel, by decide +kernel, by decide +kernel⟩, by decide +kernel, by decide +kernel⟩
theorem mk_1028 : mm_recOk mr_1028 := ⟨mm_in4 (List.mem_of_getElem? (i := 208) (by decide +kernel)) (by decide +kernel), (by intro h; cases h), fun _ => ⟨mm_in4 (List.mem_of_getElem? (i := 206) (by decide +kernel)) (by decide +kernel), mm_in4 (List.mem_of_getElem? (i := 207) (by decide +kernel)) (by decide +kernel)⟩, mm_in1 (List.mem_of_getElem? (i := 1) (by decide +kernel)) (by decide +kernel), ⟨by decide +kernel, by decide +kernel, by decide +kernel⟩, by decide +kernel, by decide +kernel⟩
theorem mk_1029 : mm_recOk mr_1029 := ⟨mm_in3 (List.mem_of_getElem? (i := 63) (by decide +kernel)) (by decide +kernel), fun _ => mm_in3 (List.mem_of_getElem? (i := 62) (by decide +kernel)) (by decide +kernel), (by intro h; cases h), mm_in1 (List.mem_of_getElem? (i := 1) (by decide +kernel)) (by decide +kernel), ⟨by decide +kernel, by decide +kernel, by decide +kernel⟩, by decide +kernel, by decide +kernel⟩
theorem mk_1030 : mm_recOk mr_1030 := ⟨mm_in3 (List.mem_of_getElem? (i := 89) (by decide +kernel)) (by decide +kernel), fun _ => mm_in3 (List.mem_of_getElem? (i := 88) (by decide +kernel)) (by decide +kernel), (by intro h; cases h), mm_in1 (List.mem_of_getElem? (i := 1) (by decide +kernel)) (by decide +kernel), ⟨by decide +kernel, by decide +kernel, by decide +kernel⟩, by decide +kernel, by decide +kernel⟩
theorem mk_1031 : mm_recOk mr_1031 := ⟨mm_in3 (List.mem_of_getElem? (i := 124) (by decide +kernel)) (by decide +kernel), fun _ => mm_in3 (List.mem_of_getElem? (i := 123) (by decide +kernel)) (by decide +kernel), (by intro h; cases h), mm_in1 (List.mem_of_getElem? (i := 1) (by decide +kernel)) (by decide +kernel), ⟨by decide +kernel, by decide +kernel, by decide +kernel⟩, by decide +kernel, by decide +kernel⟩
theorem mk_1032 : mm_recOk mr_1032 := ⟨mm_in3 (List.mem_of_getElem? (i := 121) (by decide +kernel)) (by decide +kernel), fun _ => mm_in3 (List.mem_of_getElem? (i := 120) (by decide +kernel)) (by decide +kernel), (by intro h; cases h), mm_in1 (List.mem_of_getElem? (i := 1) (by decide +kernel)) (by decide +kernel), ⟨by decide +kernel, by decide +kernel, by decide +kernel⟩, by decide +kernel, by decide +kernel⟩
theorem mk_1033 : mm_recOk mr_1033 := ⟨mm_in3 (List.mem_of_getElem? (i := 86) (by decide +kernel)) (by decide +kernel), (by intro h; cases h), fun _ => ⟨mm_in3 (List.mem_of_getElem? (i := 85) (by decide +kernel)) (by decide +kernel), mm_inP (q := (yX10_isQuestion, 12)) (List.mem_of_getElem? (i := 15) (by decide +kernel)) (by decide +kernel)⟩, mm_in1 (List.mem_of_getElem? (i := 1) (by decide +kernel)) (by decide +kernel), ⟨by decide +kernel, by decide +kernel, by decide +kernel⟩, by decide +kernel, by decide +kernel⟩
theorem mk_1034 : mm_recOk mr_1034 := ⟨mm_in3 (List.mem_of_getElem? (i := 97) (by decide +kernel)) (by decide +kernel), (by intro h; cases h), fun _ => ⟨mm_in3 (List.mem_of_getElem? (i := 96) (by decide +kernel)) (by decide +kernel), mm_inP (q := (yX10_timeMeant, 12)) (List.mem_of_getElem? (i := 16) (by decide +kernel)) (by decide +kernel)⟩, mm_in1 (List.mem_of_getElem? (i := 1) (by decide +kernel)) (by decide +kernel), ⟨by decide +kernel, by decide +kernel, by decide +kernel⟩, by decide +kernel, by decide +kernel⟩
theorem mk_1035 : mm_recOk mr_1035 := ⟨mm_in3 (List.mem_of_getElem? (i := 136) (by decide +kernel)) (by decide +kernel), (by intro h; cases h), fun _ => ⟨mm_in3 (List.mem_of_getElem? (i := 135) (by decide +kernel)) (by decide +kernel), mm_inP (q := (yX10_takeBackChange, 12)) (List.mem_of_getElem? (i := 17) (by decide +kernel)) (by decide +kernel)⟩, mm_in1 (List.mem_of_getElem? (i := 1) (by decide +kernel)) (by decide +kernel), ⟨by decide +kernel, by decide +kernel, by decide +kernel⟩, by decide +kernel, by decide +kernel⟩
theorem mk_1036 : mm_recOk mr_1036 := ⟨mm_in4 (List.mem_of_getElem? (i := 204) (by decide +kernel)) (by decide +kernel), (by intro h; cases h), fun _ => ⟨mm_in4 (List.mem_of_getElem? (i := 203) (by decide +kernel)) (by decide +kernel), mm_inP (q := (yX10_answerOf, 12)) (List.mem_of_getElem? (i := 33) (by decide +kernel)) (by decide +kernel)⟩, mm_in1 (List.mem_of_getElem? (i := 1) (by decide +kernel)) (by decide +kernel), ⟨by decide +kernel, by decide +kernel, by decide +kernel⟩, by decide +kernel, by decide +kernel⟩
theorem mk_1037 : mm_recOk mr_1037 := ⟨mm_in4 (List.mem_of_getElem? (i := 135) (by decide +kernel)) (by decide +kernel), (by intro h; cases h), fun _ => ⟨mm_in4 (List.mem_of_getElem? (i := 134) (by decide +kernel)) (by decide +kernel), mm_inP (q := (yX10_tallyWindow, 12)) (List.mem_of_getElem? (i := 24) (by decide +kernel)) (by decide +kernel)⟩, mm_in1 (List.mem_of_getElem? (i := 1) (by decide +kernel)) (by decide +kernel), ⟨by decide +kernel, by decide +kernel, by decide +kernel⟩, by decide +kernel, by decide +kernel⟩
theorem mk_1038 : mm_recOk mr_1038 := ⟨mm_in4 (List.mem_of_getElem? (i := 18) (by decide +kernel)) (by decide +kernel), (by intro h; cases h), fun _ => ⟨mm_in4 (List.mem_of_getElem? (i := 17) (by decide +kernel)) (by decide +kernel), mm_inP (q := (yX10_costOf, 12)) (List.mem_of_getElem? (i := 19) (by decide +kernel)) (by decide +kernel)⟩, mm_in1 (List.mem_of_getElem? (i := 1) (by decide +kernel)) (by decide +kernel), ⟨by decide +kernel, by decide +kernel, by decide +kernel⟩, by decide +kernel, by decide +kernel⟩
theorem mk_1039 : mm_recOk mr_1039 := ⟨mm_in4 (List.mem_of_getElem? (i := 10) (by decide +kernel)) (by decide +kernel), (by intro h; cases h), fun _ => ⟨mm_in4 (List.mem_of_getElem? (i := 9) (by decide +kernel)) (by decide +kernel), mm_inP (q := (yX10_bound, 12)) (List.mem_of_getElem? (i := 18) (by decide +kernel)) (by decide +kernel)⟩, mm_in1 (List.mem_of_getElem? (i := 1) (by decide +kernel)) (by decide +kernel), ⟨by decide +kernel, by decide +kernel, by decide +kernel⟩, by decide +kernel, by decide +kernel⟩
theorem mk_1040 : mm_recOk mr_1040 := ⟨mm_in4 (List.mem_of_getElem? (i := 217) (by decide +kernel)) (by decide +kernel), (by intro h; cases h), fun _ => ⟨mm_in4 (List.mem_of_getElem? (i := 216) (by decide +kernel)) (by decide +kernel), mm_inP (q := (yX10_busiestCell, 12)) (List.mem_of_getElem? (i := 34) (by decide +kernel)) (by decide +kernel)⟩, mm_in1 (List.mem_of_getElem? (i := 1) (by decide +kernel)) (by decide +kernel), ⟨by decide +kernel, by decide +kernel, by decide +kernel⟩, by decide +kernel, by decide +kernel⟩
theorem mk_1101 : mm_recOk mr_1101 := ⟨mm_in5 (List.mem_of_getElem? (i := 215) (by decide +kernel)) (by decide +kernel), (by intro h; cases h), fun _ => ⟨mm_in5 (List.mem_of_getElem? (i := 213) (by decide +kernel)) (by decide +kernel), mm_in5 (List.mem_of_getElem? (i := 214) (by decide +kernel)) (by decide +kernel)⟩, mm_in1 (List.mem_of_getElem? (i := 12) (by decide +kernel)) (by decide +kernel), ⟨by decide +kernel, by decide +kernel, by decide +kernel⟩, by decide +kernel, by decide +kernel⟩
theorem mk_1102 : mm_recOk mr_1102 := ⟨mm_in5 (List.mem_of_getElem? (i := 230) (by decide +kernel)) (by decide +kernel), fun _ => mm_in5 (List.mem_of_getElem? (i := 229) (by decide +kernel)) (by decide +kernel), (by intro h; cases h), mm_in1 (List.mem_of_getElem? (i := 12) (by decide +kernel)) (by decide +kernel), ⟨by decide +kernel, by decide +kernel, by decide +kernel⟩, by decide +kernel, by decide +kernel⟩
theorem mk_1103 : mm_recOk mr_1103 := ⟨mm_in5 (List.mem_of_getElem? (i := 219) (by decide +kernel)) (by decide +kernel), (by intro h; cases h), fun _ => ⟨mm_in5 (List.mem_of_getElem? (i := 217) (by decide +kernel)) (by decide +kernel), mm_in5 (List.mem_of_getElem? (i := 218) (by decide +kernel)) (by decide +kernel)⟩, mm_in1 (List.mem_of_getElem? (i := 12) (by decide +kernel)) (by decide +kernel), ⟨by decide +kernel, by decide +kernel, by decide +kernel⟩, by decide +kernel, by decide +kernel⟩
theorem mk_1104 : mm_recOk mr_1104 := ⟨mm_in5 (List.mem_of_getElem? (i := 223) (by decide +kernel)) (by decide +kernel), (by intro h; cases h), fun _ => ⟨mm_in5 (List.mem_of_getElem? (i := 222) (by decide +kernel)) (by decide +kernel), mm_inP (q := (yX11_puts, 50)) (List.mem_of_getElem? (i := 36) (by decide +kernel)) (by decide +kernel)⟩, mm_in1 (List.mem_of_getElem? (i := 12) (by decide +kernel)) (by decide +kernel), ⟨by decide +kernel, by decide +kernel, by decide +kernel⟩, by decide +kernel, by decide +kernel⟩
theorem mk_1105 : mm_recOk mr_1105 := ⟨mm_in5 (List.mem_of_getElem? (i := 238) (by decide +kernel)) (by decide +kernel), (by intro h; cases h), fun _ => ⟨mm_in5 (List.mem_of_getElem? (i := 237) (by decide +kernel)) (by decide +kernel), mm_inP (q := (yX11_byteAt, 50)) (List.mem_of_getElem? (i := 38) (by decide +kernel)) (by decide +kernel)⟩, mm_in1 (List.mem_of_getElem? (i := 12) (by decide +kernel)) (by decide +kernel), ⟨by decide +kernel, by decide +kernel, by decide +kernel⟩, by decide +kernel, by decide +kernel⟩
theorem mk_1106 : mm_recOk mr_1106 := ⟨mm_in6 (List.mem_of_getElem? (i := 1) (by decide +kernel)) (by decide +kernel), fun _ => mm_in6 (List.mem_of_getElem? (i := 0) (by decide +kernel)) (by decide +kernel), (by intro h; cases h), mm_in1 (List.mem_of_getElem? (i := 12) (by decide +kernel)) (by decide +kernel), ⟨by decide +kernel, by decide +kernel, by decide +kernel⟩, by decide +kernel, by decide +kernel⟩
theorem mk_1107 : mm_recOk mr_1107 := ⟨mm_in6 (List.mem_of_getElem? (i := 6) (by decide +kernel)) (by decide +kernel), fun _ => mm_in6 (List.mem_of_getElem? (i := 5) (by decide +kernel)) (by decide +kernel), (by intro h; cases h), mm_in1 (List.mem_of_getElem? (i := 12) (by decide +kernel)) (by decide +kernel), ⟨by decide +kernel, by decide +kernel, by decide +kernel⟩, by decide +kernel, by decide +kernel⟩
theorem mk_1108 : mm_recOk mr_1108 := ⟨mm_in5 (List.mem_of_getElem? (i := 234) (by decide +kernel)) (by decide +kernel), (by intro h; cases h), fun _ => ⟨mm_in5 (List.mem_of_getElem? (i := 233) (by decide +kernel)) (by decide +kernel), mm_inP (q := (yX11_go, 50)) (List.mem_of_getElem? (i := 37) (by decide +kernel)) (by decide +kernel)⟩, mm_in1 (List.mem_of_getElem? (i := 12) (by decide +kernel)) (by decide +kernel), ⟨by decide +kernel, by decide +kernel, by decide +kernel⟩, by decide +kernel, by decide +kernel⟩
theorem mk_1109 : mm_recOk mr_1109 := ⟨mm_in6 (List.mem_of_getElem? (i := 32) (by decide +kernel)) (by decide +kernel), (by intro h; cases h), fun _ => ⟨mm_in6 (List.mem_of_getElem? (i := 31) (by decide +kernel)) (by decide +kernel), mm_inP (q := (yX11_wrong, 50)) (List.mem_of_getElem? (i := 44) (by decide +kernel)) (by decide +kernel)⟩, mm_in1 (List.mem_of_getElem? (i := 12) (by decide +kernel)) (by decide +kernel), ⟨by decide +kernel, by decide +kernel, by decide +kernel⟩, by decide +kernel, by decide +kernel⟩
theorem mk_1110 : mm_recOk mr_1110 := ⟨mm_in6 (List.mem_of_getElem? (i := 44) (by decide +kernel)) (by decide +kernel), (by intro h; cases h), fun _ => ⟨mm_in6 (List.mem_of_getElem? (i := 43) (by decide +kernel)) (by decide +kernel), mm_inP (q := (yX11_isSign, 50)) (List.mem_of_getElem? (i := 47) (by decide +kernel)) (by decide +kernel)⟩, mm_in1 (List.mem_of_getElem? (i := 12) (by decide +kernel)) (by decide +kernel), ⟨by decide +kernel, by decide +kernel, by decide +kernel⟩, by decide +kernel, by decide +kernel⟩
theorem mk_1111 : mm_recOk mr_1111 := ⟨mm_in6 (List.mem_of_getElem? (i := 20) (by decide +kernel)) (by decide +kernel), (by intro h; cases h), fun _ => ⟨mm_in6 (List.mem_of_getElem? (i := 19) (by decide +kernel)) (by decide +kernel), mm_inP (q := (yX11_isWord, 50)) (List.mem_of_getElem? (i := 41) (by decide +kernel)) (by decide +kernel)⟩, mm_in1 (List.mem_of_getElem? (i := 12) (by decide +kernel)) (by decide +kernel), ⟨by decide +kernel, by decide +kernel, by decide +kernel⟩, by decide +kernel, by decide +kernel⟩
theorem mk_1112 : mm_recOk mr_1112 := ⟨mm_in6 (List.mem_of_getElem? (i := 24) (by decide +kernel)) (by decide +kernel), (by intro h; cases h), fun _ => ⟨mm_in6 (List.mem_of_getElem? (i := 23) (by decide +kernel)) (by decide +kernel), mm_inP (q := (yX11_byteOf, 50)) (List.mem_of_getElem? (i := 42) (by decide +kernel)) (by decide +kernel)⟩, mm_in1 (List.mem_of_getElem? (i := 12) (by decide +kernel)) (by decide +kernel), ⟨by decide +kernel, by decide +kernel, by decide +kernel⟩, by decide +kernel, by decide +kernel⟩
theorem mk_1113 : mm_recOk mr_1113 := ⟨mm_in6 (List.mem_of_getElem? (i := 48) (by decide +kernel)) (by decide +kernel), (by intro h; cases h), fun _ => ⟨mm_in6 (List.mem_of_getElem? (i := 47) (by decide +kernel)) (by decide +kernel), mm_inP (q := (yX11_isSet, 50)) (List.mem_of_getElem? (i := 48) (by decide +kernel)) (by decide +kernel)⟩, mm_in1 (List.mem_of_getElem? (i := 12) (by decide +kernel)) (by decide +kernel), ⟨by decide +kernel, by decide +kernel, by decide +kernel⟩, by decide +kernel, by decide +kernel⟩
theorem mk_1114 : mm_recOk mr_1114 := ⟨mm_in6 (List.mem_of_getElem? (i := 56) (by decide +kernel)) (by decide +kernel), (by intro h; cases h), fun _ => ⟨mm_in6 (List.mem_of_getElem? (i := 55) (by decide +kernel)) (by decide +kernel), mm_inP (q := (yX11_isAsk, 50)) (List.mem_of_getElem? (i := 50) (by decide +kernel)) (by decide +kernel)⟩, mm_in1 (List.mem_of_getElem? (i := 12) (by decide +kernel)) (by decide +kernel), ⟨by decide +kernel, by decide +kernel, by decide +kernel⟩, by decide +kernel, by decide +kernel⟩
theorem mk_1115 : mm_recOk mr_1115 := ⟨mm_in6 (List.mem_of_getElem? (i := 16) (by decide +kernel)) (by decide +kernel), (by intro h; cases h), fun _ => ⟨mm_in6 (List.mem_of_getElem? (i := 15) (by decide +kernel)) (by decide +kernel), mm_inP (q := (yX11_isRow, 50)) (List.mem_of_getElem? (i := 40) (by decide +kernel)) (by decide +kernel)⟩, mm_in1 (List.mem_of_getElem? (i := 12) (by decide +kernel)) (by decide +kernel), ⟨by decide +kernel, by decide +kernel, by decide +kernel⟩, by decide +kernel, by decide +kernel⟩
theorem mk_1116 : mm_recOk mr_1116 := ⟨mm_in6 (List.mem_of_getElem? (i := 64) (by decide +kernel)) (by decide +kernel), (by intro h; cases h), fun _ => ⟨mm_in6 (List.mem_of_getElem? (i := 63) (by decide +kernel)) (by decide +kernel), mm_inP (q := (yX11_kindHere, 50)) (List.mem_of_getElem? (i := 52) (by decide +kernel)) (by decide +kernel)⟩, mm_in1 (List.mem_of_getElem? (i := 12) (by decide +kernel)) (by decide +kernel), ⟨by decide +kernel, by decide +kernel, by decide +kernel⟩, by decide +kernel, by decide +kernel⟩
theorem mk_1117 : mm_recOk mr_1117 := ⟨mm_in6 (List.mem_of_getElem? (i := 40) (by decide +kernel)) (by decide +kernel), (by intro h; cases h), fun _ => ⟨mm_in6 (List.mem_of_getElem? (i := 39) (by decide +kernel)) (by decide +kernel), mm_inP (q := (yX11_number, 50)) (List.mem_of_getElem? (i := 46) (by decide +kernel)) (by decide +kernel)⟩, mm_in1 (List.mem_of_getElem? (i := 12) (by decide +kernel)) (by decide +kernel), ⟨by decide +kernel, by decide +kernel, by decide +kernel⟩, by decide +kernel, by decide +kernel⟩
theorem mk_1118 : mm_recOk mr_1118 := ⟨mm_in6 (List.mem_of_getElem? (i := 36) (by decide +kernel)) (by decide +kernel), (by intro h; cases h), fun _ => ⟨mm_in6 (List.mem_of_getElem? (i := 35) (by decide +kernel)) (by decide +kernel), mm_inP (q := (yX11_rowCell, 50)) (List.mem_of_getElem? (i := 45) (by decide +kernel)) (by decide +kernel)⟩, mm_in1 (List.mem_of_getElem? (i := 12) (by decide +kernel)) (by decide +kernel), ⟨by decide +kernel, by decide +kernel, by decide +kernel⟩, by decide +kernel, by decide +kernel⟩
theorem mk_1119 : mm_recOk mr_1119 := ⟨mm_in6 (List.mem_of_getElem? (i := 28) (by decide +kernel)) (by decide +kernel), (by intro h; cases h), fun _ => ⟨mm_in6 (List.mem_of_getElem? (i := 27) (by decide +kernel)) (by decide +kernel), mm_inP (q := (yX11_rowLine, 50)) (List.mem_of_getElem? (i := 43) (by decide +kernel)) (by decide +kernel)⟩, mm_in1 (List.mem_of_getElem? (i := 12) (by decide +kernel)) (by decide +kernel), ⟨by decide +kernel, by decide +kernel, by decide +kernel⟩, by decide +kernel, by decide +kernel⟩
theorem mk_1120 : mm_recOk mr_1120 := ⟨mm_in6 (List.mem_of_getElem? (i := 52) (by decide +kernel)) (by decide +kernel), (by intro h; cases h), fun _ => ⟨mm_in6 (List.mem_of_getElem? (i := 51) (by decide +kernel)) (by decide +kernel), mm_inP (q := (yX11_setLine, 50)) (List.mem_of_getElem? (i := 49) (by decide +kernel)) (by decide +kernel)⟩, mm_in1 (List.mem_of_getElem? (i := 12) (by decide +kernel)) (by decide +kernel), ⟨by decide +kernel, by decide +kernel, by decide +kernel⟩, by decide +kernel, by decide +kernel⟩
theorem mk_1121 : mm_recOk mr_1121 := ⟨mm_in6 (List.mem_of_getElem? (i := 60) (by decide +kernel)) (by decide +kernel), (by intro h; cases h), fun _ => ⟨mm_in6 (List.mem_of_getElem? (i := 59) (by decide +kernel)) (by decide +kernel), mm_inP (q := (yX11_askLine, 50)) (List.mem_of_getElem? (i := 51) (by decide +kernel)) (by decide +kernel)⟩, mm_in1 (List.mem_of_getElem? (i := 12) (by decide +kernel)) (by decide +kernel), ⟨by decide +kernel, by decide +kernel, by decide +kernel⟩, by decide +kernel, by decide +kernel⟩
theorem mk_1122 : mm_recOk mr_1122 := ⟨mm_in6 (List.mem_of_getElem? (i := 12) (by decide +kernel)) (by decide +kernel), (by intro h; cases h), fun _ => ⟨mm_in6 (List.mem_of_getElem? (i := 11) (by decide +kernel)) (by decide +kernel), mm_inP (q := (yX11_line, 50)) (List.mem_of_getElem? (i := 39) (by decide +kernel)) (by decide +kernel)⟩, mm_in1 (List.mem_of_getElem? (i := 12) (by decide +kernel)) (by decide +kernel), ⟨by decide +kernel, by decide +kernel, by decide +kernel⟩, by decide +kernel, by decide +kernel⟩
theorem mk_1123 : mm_recOk mr_1123 := ⟨mm_in5 (List.mem_of_getElem? (i := 227) (by decide +kernel)) (by decide +kernel), (by intro h; cases h), fun _ => ⟨mm_in5 (List.mem_of_getElem? (i := 225) (by decide +kernel)) (by decide +kernel), mm_in5 (List.mem_of_getElem? (i := 226) (by decide +kernel)) (by decide +kernel)⟩, mm_in1 (List.mem_of_getElem? (i := 12) (by decide +kernel)) (by decide +kernel), ⟨by decide +kernel, by decide +kernel, by decide +kernel⟩, by decide +kernel, by decide +kernel⟩
theorem mk_1124 : mm_recOk mr_1124 := ⟨mm_in6 (List.mem_of_getElem? (i := 68) (by decide +kernel)) (by decide +kernel), (by intro h; cases h), fun _ => ⟨mm_in6 (List.mem_of_getElem? (i := 67) (by decide +kernel)) (by decide +kernel), mm_inP (q := (yX11_takes, 50)) (List.mem_of_getElem? (i := 53) (by decide +kernel)) (by decide +kernel)⟩, mm_in1 (List.mem_of_getElem? (i := 12) (by decide +kernel)) (by decide +kernel), ⟨by decide +kernel, by decide +kernel, by decide +kernel⟩, by decide +kernel, by decide +kernel⟩
theorem mk_1125 : mm_recOk mr_1125 := ⟨mm_in6 (List.mem_of_getElem? (i := 81) (by decide +kernel)) (by decide +kernel), (by intro h; cases h), fun _ => ⟨mm_in6 (List.mem_of_getElem? (i := 80) (by decide +kernel)) (by decide +kernel), mm_inP (q := (yX11_keeps, 50)) (List.mem_of_getElem? (i := 55) (by decide +kernel)) (by decide +kernel)⟩, mm_in1 (List.mem_of_getElem? (i := 12) (by decide +kernel)) (by decide +kernel), ⟨by decide +kernel, by decide +kernel, by decide +kernel⟩, by decide +kernel, by decide +kernel⟩
theorem mk_1126 : mm_recOk mr_1126 := ⟨mm_in6 (List.mem_of_getElem? (i := 76) (by decide +kernel)) (by decide +kernel), (by intro h; cases h), fun _ => ⟨mm_in6 (List.mem_of_getElem? (i := 75) (by decide +kernel)) (by decide +kernel), mm_inP (q := (yX11_isCell, 50)) (List.mem_of_getElem? (i := 54) (by decide +kernel)) (by decide +kernel)⟩, mm_in1 (List.mem_of_getElem? (i := 12) (by decide +kernel)) (by decide +kernel), ⟨by decide +kernel, by decide +kernel, by decide +kernel⟩, by decide +kernel, by decide +kernel⟩
theorem mk_1127 : mm_recOk mr_1127 := ⟨mm_in6 (List.mem_of_getElem? (i := 137) (by decide +kernel)) (by decide +kernel), (by intro h; cases h), fun _ => ⟨mm_in6 (List.mem_of_getElem? (i := 136) (by decide +kernel)) (by decide +kernel), mm_inP (q := (yX11_isQuestion, 50)) (List.mem_of_getElem? (i := 59) (by decide +kernel)) (by decide +kernel)⟩, mm_in1 (List.mem_of_getElem? (i := 12) (by decide +kernel)) (by decide +kernel), ⟨by decide +kernel, by decide +kernel, by decide +kernel⟩, by decide +kernel, by decide +kernel⟩
theorem mk_1128 : mm_recOk mr_1128 := ⟨mm_in6 (List.mem_of_getElem? (i := 72) (by decide +kernel)) (by decide +kernel), (by intro h; cases h), fun _ => ⟨mm_in6 (List.mem_of_getElem? (i := 70) (by decide +kernel)) (by decide +kernel), mm_in6 (List.mem_of_getElem? (i := 71) (by decide +kernel)) (by decide +kernel)⟩, mm_in1 (List.mem_of_getElem? (i := 12) (by decide +kernel)) (by decide +kernel), ⟨by decide +kernel, by decide +kernel, by decide +kernel⟩, by decide +kernel, by decide +kernel⟩
theorem mk_1129 : mm_recOk mr_1129 := ⟨mm_in6 (List.mem_of_getElem? (i := 85) (by decide +kernel)) (by decide +kernel), (by intro h; cases h), fun _ => ⟨mm_in6 (List.mem_of_getElem? (i := 83) (by decide +kernel)) (by decide +kernel), mm_in6 (List.mem_of_getElem? (i := 84) (by decide +kernel)) (by decide +kernel)⟩, mm_in1 (List.mem_of_getElem? (i := 12) (by decide +kernel)) (by decide +kernel), ⟨by decide +kernel, by decide +kernel, by decide +kernel⟩, by decide +kernel, by decide +kernel⟩
theorem mk_1130 : mm_recOk mr_1130 := ⟨mm_in6 (List.mem_of_getElem? (i := 93) (by decide +kernel)) (by decide +kernel), (by intro h; cases h), fun _ => ⟨mm_in6 (List.mem_of_getElem? (i := 92) (by decide +kernel)) (by decide +kernel), mm_inP (q := (yX11_canAsk, 50)) (List.mem_of_getElem? (i := 56) (by decide +kernel)) (by decide +kernel)⟩, mm_in1 (List.mem_of_getElem? (i := 12) (by decide +kernel)) (by decide +kernel), ⟨by decide +kernel, by decide +kernel, by decide +kernel⟩, by decide +kernel, by decide +kernel⟩
theorem mk_1131 : mm_recOk mr_1131 := ⟨mm_in6 (List.mem_of_getElem? (i := 99) (by decide +kernel)) (by decide +kernel), (by intro h; cases h), fun _ => ⟨mm_in6 (List.mem_of_getElem? (i := 98) (by decide +kernel)) (by decide +kernel), mm_inP (q := (yX11_asks, 50)) (List.mem_of_getElem? (i := 57) (by decide +kernel)) (by decide +kernel)⟩, mm_in1 (List.mem_of_getElem? (i := 12) (by decide +kernel)) (by decide +kernel), ⟨by decide +kernel, by decide +kernel, by decide +kernel⟩, by decide +kernel, by decide +kernel⟩
theorem mk_1132 : mm_recOk mr_1132 := ⟨mm_in6 (List.mem_of_getElem? (i := 89) (by decide +kernel)) (by decide +kernel), (by intro h; cases h), fun _ => ⟨mm_in6 (List.mem_of_getElem? (i := 87) (by decide +kernel)) (by decide +kernel), mm_in6 (List.mem_of_getElem? (i := 88) (by decide +kernel)) (by decide +kernel)⟩, mm_in1 (List.mem_of_getElem? (i := 12) (by decide +kernel)) (by decide +kernel), ⟨by decide +kernel, by decide +kernel, by decide +kernel⟩, by decide +kernel, by decide +kernel⟩
theorem mk_1133 : mm_recOk mr_1133 := ⟨mm_in6 (List.mem_of_getElem? (i := 103) (by decide +kernel)) (by decide +kernel), (by intro h; cases h), fun _ => ⟨mm_in6 (List.mem_of_getElem? (i := 101) (by decide +kernel)) (by decide +kernel), mm_in6 (List.mem_of_getElem? (i := 102) (by decide +kernel)) (by decide +kernel)⟩, mm_in1 (List.mem_of_getElem? (i := 12) (by decide +kernel)) (by decide +kernel), ⟨by decide +kernel, by decide +kernel, by decide +kernel⟩, by decide +kernel, by decide +kernel⟩
theorem mk_1134 : mm_recOk mr_1134 := ⟨mm_in6 (List.mem_of_getElem? (i := 107) (by decide +kernel)) (by decide +kernel), (by intro h; cases h), fun _ => ⟨mm_in6 (List.mem_of_getElem? (i := 105) (by decide +kernel)) (by decide +kernel), mm_in6 (List.mem_of_getElem? (i := 106) (by decide +kernel)) (by decide +kernel)⟩, mm_in1 (List.mem_of_getElem? (i := 12) (by decide +kernel)) (by decide +kernel), ⟨by decide +kernel, by decide +kernel, by decide +kernel⟩, by decide +kernel, by decide +kernel⟩
theorem mk_1135 : mm_recOk mr_1135 := ⟨mm_in6 (List.mem_of_getElem? (i := 115) (by decide +kernel)) (by decide +kernel), fun _ => mm_in6 (List.mem_of_getElem? (i := 114) (by decide +kernel)) (by decide +kernel), (by intro h; cases h), mm_in1 (List.mem_of_getElem? (i := 12) (by decide +kernel)) (by decide +kernel), ⟨by decide +kernel, by decide +kernel, by decide +kernel⟩, by decide +kernel, by decide +kernel⟩
theorem mk_1136 : mm_recOk mr_1136 := ⟨mm_in6 (List.mem_of_getElem? (i := 112) (by decide +kernel)) (by decide +kernel), (by intro h; cases h), fun _ => ⟨mm_in6 (List.mem_of_getElem? (i := 110) (by decide +kernel)) (by decide +kernel), mm_in6 (List.mem_of_getElem? (i := 111) (by decide +kernel)) (by decide +kernel)⟩, mm_in1 (List.mem_of_getElem? (i := 12) (by decide +kernel)) (by decide +kernel), ⟨by decide +kernel, by decide +kernel, by decide +kernel⟩, by decide +kernel, by decide +kernel⟩
theorem mk_1137 : mm_recOk mr_1137 := ⟨mm_in6 (List.mem_of_getElem? (i := 121) (by decide +kernel)) (by decide +kernel), (by intro h; cases h), fun _ => ⟨mm_in6 (List.mem_of_getElem? (i := 119) (by decide +kernel)) (by decide +kernel), mm_in6 (List.mem_of_getElem? (i := 120) (by decide +kernel)) (by decide +kernel)⟩, mm_in1 (List.mem_of_getElem? (i := 12) (by decide +kernel)) (by decide +kernel), ⟨by decide +kernel, by decide +kernel, by decide +kernel⟩, by decide +kernel, by decide +kernel⟩
theorem mk_1138 : mm_recOk mr_1138 := ⟨mm_in6 (List.mem_of_getElem? (i := 129) (by decide +kernel)) (by decide +kernel), (by intro h; cases h), fun _ => ⟨mm_in6 (List.mem_of_getElem? (i := 128) (by decide +kernel)) (by decide +kernel), mm_inP (q := (yX11_cellAt, 50)) (List.mem_of_getElem? (i := 58) (by decide +kernel)) (by decide +kernel)⟩, mm_in1 (List.mem_of_getElem? (i := 12) (by decide +kernel)) (by decide +kernel), ⟨by decide +kernel, by decide +kernel, by decide +kernel⟩, by decide +kernel, by decide +kernel⟩
theorem mk_1139 : mm_recOk mr_1139 := ⟨mm_in6 (List.mem_of_getElem? (i := 125) (by decide +kernel)) (by decide +kernel), (by intro h; cases h), fun _ => ⟨mm_in6 (List.mem_of_getElem? (i := 123) (by decide +kernel)) (by decide +kernel), mm_in6 (List.mem_of_getElem? (i := 124) (by decide +kernel)) (by decide +kernel)⟩, mm_in1 (List.mem_of_getElem? (i := 12) (by decide +kernel)) (by decide +kernel), ⟨by decide +kernel, by decide +kernel, by decide +kernel⟩, by decide +kernel, by decide +kernel⟩
theorem mk_1140 : mm_recOk mr_1140 := ⟨mm_in6 (List.mem_of_getElem? (i := 145) (by decide +kernel)) (by decide +kernel), (by intro h; cases h), fun _ => ⟨mm_in6 (List.mem_of_getElem? (i := 144) (by decide +kernel)) (by decide +kernel), mm_inP (q := (yX11_lays, 50)) (List.mem_of_getElem? (i := 61) (by decide +kernel)) (by decide +kernel)⟩, mm_in1 (List.mem_of_getElem? (i := 12) (by decide +kernel)) (by decide +kernel), ⟨by decide +kernel, by decide +kernel, by decide +kernel⟩, by decide +kernel, by decide +kernel⟩
theorem mk_1141 : mm_recOk mr_1141 := ⟨mm_in6 (List.mem_of_getElem? (i := 158) (by decide +kernel)) (by decide +kernel), (by intro h; cases h), fun _ => ⟨mm_in6 (List.mem_of_getElem? (i := 157) (by decide +kernel)) (by decide +kernel), mm_inP (q := (yX11_parts, 50)) (List.mem_of_getElem? (i := 64) (by decide +kernel)) (by decide +kernel)⟩, mm_in1 (List.mem_of_getElem? (i := 12) (by decide +kernel)) (by decide +kernel), ⟨by decide +kernel, by decide +kernel, by decide +kernel⟩, by decide +kernel, by decide +kernel⟩
theorem mk_1142 : mm_recOk mr_1142 := ⟨mm_in6 (List.mem_of_getElem? (i := 153) (by decide +kernel)) (by decide +kernel), (by intro h; cases h), fun _ => ⟨mm_in6 (List.mem_of_getElem? (i := 152) (by decide +kernel)) (by decide +kernel), mm_inP (q := (yX11_most, 50)) (List.mem_of_getElem? (i := 63) (by decide +kernel)) (by decide +kernel)⟩, mm_in1 (List.mem_of_getElem? (i := 12) (by decide +kernel)) (by decide +kernel), ⟨by decide +kernel, by decide +kernel, by decide +kernel⟩, by decide +kernel, by decide +kernel⟩
theorem mk_1143 : mm_recOk mr_1143 := ⟨mm_in6 (List.mem_of_getElem? (i := 149) (by decide +kernel)) (by decide +kernel), (by intro h; cases h), fun _ => ⟨mm_in6 (List.mem_of_getElem? (i := 148) (by decide +kernel)) (by decide +kernel), mm_inP (q := (yX11_tellsOf, 50)) (List.mem_of_getElem? (i := 62) (by decide +kernel)) (by decide +kernel)⟩, mm_in1 (List.mem_of_getElem? (i := 12) (by decide +kernel)) (by decide +kernel), ⟨by decide +kernel, by decide +kernel, by decide +kernel⟩, by decide +kernel, by decide +kernel⟩
theorem mk_1144 : mm_recOk mr_1144 := ⟨mm_in6 (List.mem_of_getElem? (i := 141) (by decide +kernel)) (by decide +kernel), (by intro h; cases h), fun _ => ⟨mm_in6 (List.mem_of_getElem? (i := 140) (by decide +kernel)) (by decide +kernel), mm_inP (q := (yX11_answerOf, 50)) (List.mem_of_getElem? (i := 60) (by decide +kernel)) (by decide +kernel)⟩, mm_in1 (List.mem_of_getElem? (i := 12) (by decide +kernel)) (by decide +kernel), ⟨by decide +kernel, by decide +kernel, by decide +kernel⟩, by decide +kernel, by decide +kernel⟩
theorem mk_1145 : mm_recOk mr_1145 := ⟨mm_in6 (List.mem_of_getElem? (i := 133) (by decide +kernel)) (by decide +kernel), (by intro h; cases h), fun _ => ⟨mm_in6 (List.mem_of_getElem? (i := 131) (by decide +kernel)) (by decide +kernel), mm_in6 (List.mem_of_getElem? (i := 132) (by decide +kernel)) (by decide +kernel)⟩, mm_in1 (List.mem_of_getElem? (i := 12) (by decide +kernel)) (by decide +kernel), ⟨by decide +kernel, by decide +kernel, by decide +kernel⟩, by decide +kernel, by decide +kernel⟩
theorem mk_1146 : mm_recOk mr_1146 := ⟨mm_in6 (List.mem_of_getElem? (i := 171) (by decide +kernel)) (by decide +kernel), (by intro h; cases h), fun _ => ⟨mm_in6 (List.mem_of_getElem? (i := 170) (by decide +kernel)) (by decide +kernel), mm_inP (q := (yX11_areAlike, 50)) (List.mem_of_getElem? (i := 66) (by decide +kernel)) (by decide +kernel)⟩, mm_in1 (List.mem_of_getElem? (i := 12) (by decide +kernel)) (by decide +kernel), ⟨by decide +kernel, by decide +kernel, by decide +kernel⟩, by decide +kernel, by decide +kernel⟩
theorem mk_1147 : mm_recOk mr_1147 := ⟨mm_in6 (List.mem_of_getElem? (i := 167) (by decide +kernel)) (by decide +kernel), (by intro h; cases h), fun _ => ⟨mm_in6 (List.mem_of_getElem? (i := 166) (by decide +kernel)) (by decide +kernel), mm_inP (q := (yX11_firstAlike, 50)) (List.mem_of_getElem? (i := 65) (by decide +kernel)) (by decide +kernel)⟩, mm_in1 (List.mem_of_getElem? (i := 12) (by decide +kernel)) (by decide +kernel), ⟨by decide +kernel, by decide +kernel, by decide +kernel⟩, by decide +kernel, by decide +kernel⟩
theorem mk_1148 : mm_recOk mr_1148 := ⟨mm_in6 (List.mem_of_getElem? (i := 162) (by decide +kernel)) (by decide +kernel), (by intro h; cases h), fun _ => ⟨mm_in6 (List.mem_of_getElem? (i := 160) (by decide +kernel)) (by decide +kernel), mm_in6 (List.mem_of_getElem? (i := 161) (by decide +kernel)) (by decide +kernel)⟩, mm_in1 (List.mem_of_getElem? (i := 12) (by decide +kernel)) (by decide +kernel), ⟨by decide +kernel, by decide +kernel, by decide +kernel⟩, by decide +kernel, by decide +kernel⟩
theorem mk_1149 : mm_recOk mr_1149 := ⟨mm_in6 (List.mem_of_getElem? (i := 175) (by decide +kernel)) (by decide +kernel), (by intro h; cases h), fun _ => ⟨mm_in6 (List.mem_of_getElem? (i := 173) (by decide +kernel)) (by decide +kernel), mm_in6 (List.mem_of_getElem? (i := 174) (by decide +kernel)) (by decide +kernel)⟩, mm_in1 (List.mem_of_getElem? (i := 12) (by decide +kernel)) (by decide +kernel), ⟨by decide +kernel, by decide +kernel, by decide +kernel⟩, by decide +kernel, by decide +kernel⟩
theorem mk_1150 : mm_recOk mr_1150 := ⟨mm_in6 (List.mem_of_getElem? (i := 186) (by decide +kernel)) (by decide +kernel), fun _ => mm_in6 (List.mem_of_getElem? (i := 185) (by decide +kernel)) (by decide +kernel), (by intro h; cases h), mm_in1 (List.mem_of_getElem? (i := 12) (by decide +kernel)) (by decide +kernel), ⟨by decide +kernel, by decide +kernel, by decide +kernel⟩, by decide +kernel, by decide +kernel⟩
theorem mk_1151 : mm_recOk mr_1151 := ⟨mm_in6 (List.mem_of_getElem? (i := 193) (by decide +kernel)) (by decide +kernel), fun _ => mm_in6 (List.mem_of_getElem? (i := 192) (by decide +kernel)) (by decide +kernel), (by intro h; cases h), mm_in1 (List.mem_of_getElem? (i := 12) (by decide +kernel)) (by decide +kernel), ⟨by decide +kernel, by decide +kernel, by decide +kernel⟩, by decide +kernel, by decide +kernel⟩
theorem mk_1152 : mm_recOk mr_1152 := ⟨mm_in6 (List.mem_of_getElem? (i := 190) (by decide +kernel)) (by decide +kernel), (by intro h; cases h), fun _ => ⟨mm_in6 (List.mem_of_getElem? (i := 189) (by decide +kernel)) (by decide +kernel), mm_inP (q := (yX11_weightOf, 50)) (List.mem_of_getElem? (i := 68) (by decide +kernel)) (by decide +kernel)⟩, mm_in1 (List.mem_of_getElem? (i := 12) (by decide +kernel)) (by decide +kernel), ⟨by decide +kernel, by decide +kernel, by decide +kernel⟩, by decide +kernel, by decide +kernel⟩
theorem mk_1153 : mm_recOk mr_1153 := ⟨mm_in6 (List.mem_of_getElem? (i := 183) (by decide +kernel)) (by decide +kernel), (by intro h; cases h), fun _ => ⟨mm_in6 (List.mem_of_getElem? (i := 182) (by decide +kernel)) (by decide +kernel), mm_inP (q := (yX11_plans, 50)) (List.mem_of_getElem? (i := 67) (by decide +kernel)) (by decide +kernel)⟩, mm_in1 (List.mem_of_getElem? (i := 12) (by decide +kernel)) (by decide +kernel), ⟨by decide +kernel, by decide +kernel, by decide +kernel⟩, by decide +kernel, by decide +kernel⟩
theorem mk_1154 : mm_recOk mr_1154 := ⟨mm_in6 (List.mem_of_getElem? (i := 179) (by decide +kernel)) (by decide +kernel), (by intro h; cases h), fun _ => ⟨mm_in6 (List.mem_of_getElem? (i := 177) (by decide +kernel)) (by decide +kernel), mm_in6 (List.mem_of_getElem? (i := 178) (by decide +kernel)) (by decide +kernel)⟩, mm_in1 (List.mem_of_getElem? (i := 12) (by decide +kernel)) (by decide +kernel), ⟨by decide +kernel, by decide +kernel, by decide +kernel⟩, by decide +kernel, by decide +kernel⟩
theorem mk_1155 : mm_recOk mr_1155 := ⟨mm_in6 (List.mem_of_getElem? (i := 212) (by decide +kernel)) (by decide +kernel), fun _ => mm_in6 (List.mem_of_getElem? (i := 211) (by decide +kernel)) (by decide +kernel), (by intro h; cases h), mm_in1 (List.mem_of_getElem? (i := 12) (by decide +kernel)) (by decide +kernel), ⟨by decide +kernel, by decide +kernel, by decide +kernel⟩, by decide +kernel, by decide +kernel⟩
theorem mk_1156 : mm_recOk mr_1156 := ⟨mm_in6 (List.mem_of_getElem? (i := 209) (by decide +kernel)) (by decide +kernel), (by intro h; cases h), fun _ => ⟨mm_in6 (List.mem_of_getElem? (i := 208) (by decide +kernel)) (by decide +kernel), mm_inP (q := (yX11_along, 50)) (List.mem_of_getElem? (i := 71) (by decide +kernel)) (by decide +kernel)⟩, mm_in1 (List.mem_of_getElem? (i := 12) (by decide +kernel)) (by decide +kernel), ⟨by decide +kernel, by decide +kernel, by decide +kernel⟩, by decide +kernel, by decide +kernel⟩
theorem mk_1157 : mm_recOk mr_1157 := ⟨mm_in6 (List.mem_of_getElem? (i := 205) (by decide +kernel)) (by decide +kernel), (by intro h; cases h), fun _ => ⟨mm_in6 (List.mem_of_getElem? (i := 204) (by decide +kernel)) (by decide +kernel), mm_inP (q := (yX11_cost, 50)) (List.mem_of_getElem? (i := 70) (by decide +kernel)) (by decide +kernel)⟩, mm_in1 (List.mem_of_getElem? (i := 12) (by decide +kernel)) (by decide +kernel), ⟨by decide +kernel, by decide +kernel, by decide +kernel⟩, by decide +kernel, by decide +kernel⟩
theorem mk_1158 : mm_recOk mr_1158 := ⟨mm_in6 (List.mem_of_getElem? (i := 201) (by decide +kernel)) (by decide +kernel), (by intro h; cases h), fun _ => ⟨mm_in6 (List.mem_of_getElem? (i := 200) (by decide +kernel)) (by decide +kernel), mm_inP (q := (yX11_costOf, 50)) (List.mem_of_getElem? (i := 69) (by decide +kernel)) (by decide +kernel)⟩, mm_in1 (List.mem_of_getElem? (i := 12) (by decide +kernel)) (by decide +kernel), ⟨by decide +kernel, by decide +kernel, by decide +kernel⟩, by decide +kernel, by decide +kernel⟩
theorem mk_1159 : mm_recOk mr_1159 := ⟨mm_in6 (List.mem_of_getElem? (i := 197) (by decide +kernel)) (by decide +kernel), (by intro h; cases h), fun _ => ⟨mm_in6 (List.mem_of_getElem? (i := 195) (by decide +kernel)) (by decide +kernel), mm_in6 (List.mem_of_getElem? (i := 196) (by decide +kernel)) (by decide +kernel)⟩, mm_in1 (List.mem_of_getElem? (i := 12) (by decide +kernel)) (by decide +kernel), ⟨by decide +kernel, by decide +kernel, by decide +kernel⟩, by decide +kernel, by decide +kernel⟩
theorem mk_1160 : mm_recOk mr_1160 := ⟨mm_in6 (List.mem_of_getElem? (i := 216) (by decide +kernel)) (by decide +kernel), (by intro h; cases h), fun _ => ⟨mm_in6 (List.mem_of_getElem? (i := 214) (by decide +kernel)) (by decide +kernel), mm_in6 (List.mem_of_getElem? (i := 215) (by decide +kernel)) (by decide +kernel)⟩, mm_in1 (List.mem_of_getElem? (i := 12) (by decide +kernel)) (by decide +kernel), ⟨by decide +kernel, by decide +kernel, by decide +kernel⟩, by decide +kernel, by decide +kernel⟩
theorem mk_1161 : mm_recOk mr_1161 := ⟨mm_in6 (List.mem_of_getElem? (i := 225) (by decide +kernel)) (by decide +kernel), (by intro h; cases h), fun _ => ⟨mm_in6 (List.mem_of_getElem? (i := 224) (by decide +kernel)) (by decide +kernel), mm_inP (q := (yX11_laysSplit, 50)) (List.mem_of_getElem? (i := 72) (by decide +kernel)) (by decide +kernel)⟩, mm_in1 (List.mem_of_getElem? (i := 12) (by decide +kernel)) (by decide +kernel), ⟨by decide +kernel, by decide +kernel, by decide +kernel⟩, by decide +kernel, by decide +kernel⟩
theorem mk_1162 : mm_recOk mr_1162 := ⟨mm_in6 (List.mem_of_getElem? (i := 230) (by decide +kernel)) (by decide +kernel), (by intro h; cases h), fun _ => ⟨mm_in6 (List.mem_of_getElem? (i := 229) (by decide +kernel)) (by decide +kernel), mm_inP (q := (yX11_share, 50)) (List.mem_of_getElem? (i := 73) (by decide +kernel)) (by decide +kernel)⟩, mm_in1 (List.mem_of_getElem? (i := 12) (by decide +kernel)) (by decide +kernel), ⟨by decide +kernel, by decide +kernel, by decide +kernel⟩, by decide +kernel, by decide +kernel⟩
theorem mk_1163 : mm_recOk mr_1163 := ⟨mm_in6 (List.mem_of_getElem? (i := 220) (by decide +kernel)) (by decide +kernel), (by intro h; cases h), fun _ => ⟨mm_in6 (List.mem_of_getElem? (i := 218) (by decide +kernel)) (by decide +kernel), mm_in6 (List.mem_of_getElem? (i := 219) (by decide +kernel)) (by decide +kernel)⟩, mm_in1 (List.mem_of_getElem? (i := 12) (by decide +kernel)) (by decide +kernel), ⟨by decide +kernel, by decide +kernel, by decide +kernel⟩, by decide +kernel, by decide +kernel⟩
theorem mk_1164 : mm_recOk mr_1164 := ⟨mm_in6 (List.mem_of_getElem? (i := 234) (by decide +kernel)) (by decide +kernel), (by intro h; cases h), fun _ => ⟨mm_in6 (List.mem_of_getElem? (i := 232) (by decide +kernel)) (by decide +kernel), mm_in6 (List.mem_of_getElem? (i := 233) (by decide +kernel)) (by decide +kernel)⟩, mm_in1 (List.mem_of_getElem? (i := 12) (by decide +kernel)) (by decide +kernel), ⟨by decide +kernel, by decide +kernel, by decide +kernel⟩, by decide +kernel, by decide +kernel⟩
theorem mk_1165 : mm_recOk mr_1165 := ⟨mm_in6 (List.mem_of_getElem? (i := 239) (by decide +kernel)) (by decide +kernel), (by intro h; cases h), fun _ => ⟨mm_in6 (List.mem_of_getElem? (i := 237) (by decide +kernel)) (by decide +kernel), mm_in6 (List.mem_of_getElem? (i := 238) (by decide +kernel)) (by decide +kernel)⟩, mm_in1 (List.mem_of_getElem? (i := 12) (by decide +kernel)) (by decide +kernel), ⟨by decide +kernel, by decide +kernel, by decide +kernel⟩, by decide +kernel, by decide +kernel⟩
theorem mk_1166 : mm_recOk mr_1166 := ⟨mm_in7 (List.mem_of_getElem? (i := 7) (by decide +kernel)) (by decide +kernel), (by intro h; cases h), fun _ => ⟨mm_in7 (List.mem_of_getElem? (i := 6) (by decide +kernel)) (by decide +kernel), mm_inP (q := (yX11_moves_, 50)) (List.mem_of_getElem? (i := 74) (by decide +kernel)) (by decide +kernel)⟩, mm_in1 (List.mem_of_getElem? (i := 12) (by decide +kernel)) (by decide +kernel), ⟨by decide +kernel, by decide +kernel, by decide +kernel⟩, by decide +kernel, by decide +kernel⟩
theorem mk_1167 : mm_recOk mr_1167 := ⟨mm_in7 (List.mem_of_getElem? (i := 11) (by decide +kernel)) (by decide +kernel), (by intro h; cases h), fun _ => ⟨mm_in7 (List.mem_of_getElem? (i := 10) (by decide +kernel)) (by decide +kernel), mm_inP (q := (yX11_tells, 50)) (List.mem_of_getElem? (i := 75) (by decide +kernel)) (by decide +kernel)⟩, mm_in1 (List.mem_of_getElem? (i := 12) (by decide +kernel)) (by decide +kernel), ⟨by decide +kernel, by decide +kernel, by decide +kernel⟩, by decide +kernel, by decide +kernel⟩
theorem mk_1168 : mm_recOk mr_1168 := ⟨mm_in7 (List.mem_of_getElem? (i := 3) (by decide +kernel)) (by decide +kernel), (by intro h; cases h), fun _ => ⟨mm_in7 (List.mem_of_getElem? (i := 1) (by decide +kernel)) (by decide +kernel), mm_in7 (List.mem_of_getElem? (i := 2) (by decide +kernel)) (by decide +kernel)⟩, mm_in1 (List.mem_of_getElem? (i := 12) (by decide +kernel)) (by decide +kernel), ⟨by decide +kernel, by decide +kernel, by decide +kernel⟩, by decide +kernel, by decide +kernel⟩
theorem mk_1169 : mm_recOk mr_1169 := ⟨mm_in7 (List.mem_of_getElem? (i := 15) (by decide +kernel)) (by decide +kernel), (by intro h; cases h), fun _ => ⟨mm_in7 (List.mem_of_getElem? (i := 13) (by decide +kernel)) (by decide +kernel), mm_in7 (List.mem_of_getElem? (i := 14) (by decide +kernel)) (by decide +kernel)⟩, mm_in1 (List.mem_of_getElem? (i := 12) (by decide +kernel)) (by decide +kernel), ⟨by decide +kernel, by decide +kernel, by decide +kernel⟩, by decide +kernel, by decide +kernel⟩
theorem mk_1170 : mm_recOk mr_1170 := ⟨mm_in7 (List.mem_of_getElem? (i := 20) (by decide +kernel)) (by decide +kernel), (by intro h; cases h), fun _ => ⟨mm_in7 (List.mem_of_getElem? (i := 18) (by decide +kernel)) (by decide +kernel), mm_in7 (List.mem_of_getElem? (i := 19) (by decide +kernel)) (by decide +kernel)⟩, mm_in1 (List.mem_of_getElem? (i := 12) (by decide +kernel)) (by decide +kernel), ⟨by decide +kernel, by decide +kernel, by decide +kernel⟩, by decide +kernel, by decide +kernel⟩
theorem mk_1171 : mm_recOk mr_1171 := ⟨mm_in7 (List.mem_of_getElem? (i := 28) (by decide +kernel)) (by decide +kernel), (by intro h; cases h), fun _ => ⟨mm_in7 (List.mem_of_getElem? (i := 27) (by decide +kernel)) (by decide +kernel), mm_inP (q := (yX11_laysWindow, 50)) (List.mem_of_getElem? (i := 76) (by decide +kernel)) (by decide +kernel)⟩, mm_in1 (List.mem_of_getElem? (i := 12) (by decide +kernel)) (by decide +kernel), ⟨by decide +kernel, by decide +kernel, by decide +kernel⟩, by decide +kernel, by decide +kernel⟩
theorem mk_1172 : mm_recOk mr_1172 := ⟨mm_in7 (List.mem_of_getElem? (i := 24) (by decide +kernel)) (by decide +kernel), (by intro h; cases h), fun _ => ⟨mm_in7 (List.mem_of_getElem? (i := 22) (by decide +kernel)) (by decide +kernel), mm_in7 (List.mem_of_getElem? (i := 23) (by decide +kernel)) (by decide +kernel)⟩, mm_in1 (List.mem_of_getElem? (i := 12) (by decide +kernel)) (by decide +kernel), ⟨by decide +kernel, by decide +kernel, by decide +kernel⟩, by decide +kernel, by decide +kernel⟩
theorem mk_1173 : mm_recOk mr_1173 := ⟨mm_in7 (List.mem_of_getElem? (i := 32) (by decide +kernel)) (by decide +kernel), (by intro h; cases h), fun _ => ⟨mm_in7 (List.mem_of_getElem? (i := 30) (by decide +kernel)) (by decide +kernel), mm_in7 (List.mem_of_getElem? (i := 31) (by decide +kernel)) (by decide +kernel)⟩, mm_in1 (List.mem_of_getElem? (i := 12) (by decide +kernel)) (by decide +kernel), ⟨by decide +kernel, by decide +kernel, by decide +kernel⟩, by decide +kernel, by decide +kernel⟩
theorem mk_1174 : mm_recOk mr_1174 := ⟨mm_in7 (List.mem_of_getElem? (i := 36) (by decide +kernel)) (by decide +kernel), (by intro h; cases h), fun _ => ⟨mm_in7 (List.mem_of_getElem? (i := 34) (by decide +kernel)) (by decide +kernel), mm_in7 (List.mem_of_getElem? (i := 35) (by decide +kernel)) (by decide +kernel)⟩, mm_in1 (List.mem_of_getElem? (i := 12) (by decide +kernel)) (by decide +kernel), ⟨by decide +kernel, by decide +kernel, by decide +kernel⟩, by decide +kernel, by decide +kernel⟩
theorem mk_1175 : mm_recOk mr_1175 := ⟨mm_in7 (List.mem_of_getElem? (i := 48) (by decide +kernel)) (by decide +kernel), (by intro h; cases h), fun _ => ⟨mm_in7 (List.mem_of_getElem? (i := 47) (by decide +kernel)) (by decide +kernel), mm_inP (q := (yX11_isUndone, 50)) (List.mem_of_getElem? (i := 78) (by decide +kernel)) (by decide +kernel)⟩, mm_in1 (List.mem_of_getElem? (i := 12) (by decide +kernel)) (by decide +kernel), ⟨by decide +kernel, by decide +kernel, by decide +kernel⟩, by decide +kernel, by decide +kernel⟩
theorem mk_1176 : mm_recOk mr_1176 := ⟨mm_in7 (List.mem_of_getElem? (i := 52) (by decide +kernel)) (by decide +kernel), (by intro h; cases h), fun _ => ⟨mm_in7 (List.mem_of_getElem? (i := 51) (by decide +kernel)) (by decide +kernel), mm_inP (q := (yX11_undoneWeight, 50)) (List.mem_of_getElem? (i := 79) (by decide +kernel)) (by decide +kernel)⟩, mm_in1 (List.mem_of_getElem? (i := 12) (by decide +kernel)) (by decide +kernel), ⟨by decide +kernel, by decide +kernel, by decide +kernel⟩, by decide +kernel, by decide +kernel⟩
theorem mk_1177 : mm_recOk mr_1177 := ⟨mm_in7 (List.mem_of_getElem? (i := 44) (by decide +kernel)) (by decide +kernel), (by intro h; cases h), fun _ => ⟨mm_in7 (List.mem_of_getElem? (i := 43) (by decide +kernel)) (by decide +kernel), mm_inP (q := (yX11_laysUndone, 50)) (List.mem_of_getElem? (i := 77) (by decide +kernel)) (by decide +kernel)⟩, mm_in1 (List.mem_of_getElem? (i := 12) (by decide +kernel)) (by decide +kernel), ⟨by decide +kernel, by decide +kernel, by decide +kernel⟩, by decide +kernel, by decide +kernel⟩
theorem mk_1178 : mm_recOk mr_1178 := ⟨mm_in7 (List.mem_of_getElem? (i := 40) (by decide +kernel)) (by decide +kernel), (by intro h; cases h), fun _ => ⟨mm_in7 (List.mem_of_getElem? (i := 38) (by decide +kernel)) (by decide +kernel), mm_in7 (List.mem_of_getElem? (i := 39) (by decide +kernel)) (by decide +kernel)⟩, mm_in1 (List.mem_of_getElem? (i := 12) (by decide +kernel)) (by decide +kernel), ⟨by decide +kernel, by decide +kernel, by decide +kernel⟩, by decide +kernel, by decide +kernel⟩
theorem mk_1179 : mm_recOk mr_1179 := ⟨mm_in7 (List.mem_of_getElem? (i := 56) (by decide +kernel)) (by decide +kernel), (by intro h; cases h), fun _ => ⟨mm_in7 (List.mem_of_getElem? (i := 54) (by decide +kernel)) (by decide +kernel), mm_in7 (List.mem_of_getElem? (i := 55) (by decide +kernel)) (by decide +kernel)⟩, mm_in1 (List.mem_of_getElem? (i := 12) (by decide +kernel)) (by decide +kernel), ⟨by decide +kernel, by decide +kernel, by decide +kernel⟩, by decide +kernel, by decide +kernel⟩
theorem mk_1180 : mm_recOk mr_1180 := ⟨mm_in7 (List.mem_of_getElem? (i := 64) (by decide +kernel)) (by decide +kernel), (by intro h; cases h), fun _ => ⟨mm_in7 (List.mem_of_getElem? (i := 63) (by decide +kernel)) (by decide +kernel), mm_inP (q := (yX11_having, 50)) (List.mem_of_getElem? (i := 80) (by decide +kernel)) (by decide +kernel)⟩, mm_in1 (List.mem_of_getElem? (i := 12) (by decide +kernel)) (by decide +kernel), ⟨by decide +kernel, by decide +kernel, by decide +kernel⟩, by decide +kernel, by decide +kernel⟩
theorem mk_1181 : mm_recOk mr_1181 := ⟨mm_in7 (List.mem_of_getElem? (i := 60) (by decide +kernel)) (by decide +kernel), (by intro h; cases h), fun _ => ⟨mm_in7 (List.mem_of_getElem? (i := 58) (by decide +kernel)) (by decide +kernel), mm_in7 (List.mem_of_getElem? (i := 59) (by decide +kernel)) (by decide +kernel)⟩, mm_in1 (List.mem_of_getElem? (i := 12) (by decide +kernel)) (by decide +kernel), ⟨by decide +kernel, by decide +kernel, by decide +kernel⟩, by decide +kernel, by decide +kernel⟩
theorem mk_1500 : mm_recOk mr_1500 := ⟨mm_in4 (List.mem_of_getElem? (i := 146) (by decide +kernel)) (by decide +kernel), fun _ => mm_in4 (List.mem_of_getElem? (i := 145) (by decide +kernel)) (by decide +kernel), (by intro h; cases h), mm_in1 (List.mem_of_getElem? (i := 23) (by decide +kernel)) (by decide +kernel), ⟨by decide +kernel, by decide +kernel, by decide +kernel⟩, by decide +kernel, by decide +kernel⟩
set_option maxRecDepth 100000 in
theorem mm_recs_ok : ∀ q ∈ mm_recs, mm_recOk q.2 := List.forall_mem_cons.mpr ⟨mk_1, List.forall_mem_cons.mpr ⟨mk_2, List.forall_mem_cons.mpr ⟨mk_101, List.forall_mem_cons.mpr ⟨mk_102, List.forall_mem_cons.mpr ⟨mk_103, List.forall_mem_cons.mpr ⟨mk_104, List.forall_mem_cons.mpr ⟨mk_105, List.forall_mem_cons.mpr ⟨mk_106, List.forall_mem_cons.mpr ⟨mk_201, List.forall_mem_cons.mpr ⟨mk_202, List.forall_mem_cons.mpr ⟨mk_203, List.forall_mem_cons.mpr ⟨mk_204, List.forall_mem_cons.mpr ⟨mk_205, List.forall_mem_cons.mpr ⟨mk_206, List.forall_mem_cons.mpr ⟨mk_207, List.forall_mem_cons.mpr ⟨mk_208, List.forall_mem_cons.mpr ⟨mk_209, List.forall_mem_cons.mpr ⟨mk_210, List.forall_mem_cons.mpr ⟨mk_211, List.forall_mem_cons.mpr ⟨mk_212, List.forall_mem_cons.mpr ⟨mk_301, List.forall_mem_cons.mpr ⟨mk_302, List.forall_mem_cons.mpr ⟨mk_303, List.forall_mem_cons.mpr ⟨mk_304, List.forall_mem_cons.mpr ⟨mk_305, List.forall_mem_cons.mpr ⟨mk_306, List.forall_mem_cons.mpr ⟨mk_307, List.forall_mem_cons.mpr ⟨mk_308, List.forall_mem_cons.mpr ⟨mk_309, List.forall_mem_cons.mpr ⟨mk_310, List.forall_mem_cons.mpr ⟨mk_311, List.forall_mem_cons.mpr ⟨mk_312, List.forall_mem_cons.mpr ⟨mk_313, List.forall_mem_cons.mpr ⟨mk_314, List.forall_mem_cons.mpr ⟨mk_315, List.forall_mem_cons.mpr ⟨mk_316, List.forall_mem_cons.mpr ⟨mk_317, List.forall_mem_cons.mpr ⟨mk_318, List.forall_mem_cons.mpr ⟨mk_319, List.forall_mem_cons.mpr ⟨mk_320, List.forall_mem_cons.mpr ⟨mk_401, List.forall_mem_cons.mpr ⟨mk_402, List.forall_mem_cons.mpr ⟨mk_403, List.forall_mem_cons.mpr ⟨mk_404, List.forall_mem_cons.mpr ⟨mk_405, List.forall_mem_cons.mpr ⟨mk_406, List.forall_mem_cons.mpr ⟨mk_407, List.forall_mem_cons.mpr ⟨mk_408, List.forall_mem_cons.mpr ⟨mk_409, List.forall_mem_cons.mpr ⟨mk_410, List.forall_mem_cons.mpr ⟨mk_411, List.forall_mem_cons.mpr ⟨mk_412, List.forall_mem_cons.mpr ⟨mk_501, List.forall_mem_cons.mpr ⟨mk_502, List.forall_mem_cons.mpr ⟨mk_503, List.forall_mem_cons.mpr ⟨mk_504, List.forall_mem_cons.mpr ⟨mk_601, List.forall_mem_cons.mpr ⟨mk_602, List.forall_mem_cons.mpr ⟨mk_603, List.forall_mem_cons.mpr ⟨mk_604, List.forall_mem_cons.mpr ⟨mk_605, List.forall_mem_cons.mpr ⟨mk_606, List.forall_mem_cons.mpr ⟨mk_607, List.forall_mem_cons.mpr ⟨mk_701, List.forall_mem_cons.mpr ⟨mk_702, List.forall_mem_cons.mpr ⟨mk_703, List.forall_mem_cons.mpr ⟨mk_704, List.forall_mem_cons.mpr ⟨mk_705, List.forall_mem_cons.mpr ⟨mk_706, List.forall_mem_cons.mpr ⟨mk_707, List.forall_mem_cons.mpr ⟨mk_708, List.forall_mem_cons.mpr ⟨mk_709, List.forall_mem_cons.mpr ⟨mk_710, List.forall_mem_cons.mpr ⟨mk_801, List.forall_mem_cons.mpr ⟨mk_802, List.forall_mem_cons.mpr ⟨mk_803, List.forall_mem_cons.mpr ⟨mk_901, List.forall_mem_cons.mpr ⟨mk_902, List.forall_mem_cons.mpr ⟨mk_903, List.forall_mem_cons.mpr ⟨mk_904, List.forall_mem_cons.mpr ⟨mk_905, List.forall_mem_cons.mpr ⟨mk_906, List.forall_mem_cons.mpr ⟨mk_907, List.forall_mem_cons.mpr ⟨mk_908, List.forall_mem_cons.mpr ⟨mk_909, List.forall_mem_cons.mpr ⟨mk_1001, List.forall_mem_cons.mpr ⟨mk_1002, List.forall_mem_cons.mpr ⟨mk_1003, List.forall_mem_cons.mpr ⟨mk_1004, List.forall_mem_cons.mpr ⟨mk_1005, List.forall_mem_cons.mpr ⟨mk_1006, List.forall_mem_cons.mpr ⟨mk_1007, List.forall_mem_cons.mpr ⟨mk_1008, List.forall_mem_cons.mpr ⟨mk_1009, List.forall_mem_cons.mpr ⟨mk_1010, List.forall_mem_cons.mpr ⟨mk_1011, List.forall_mem_cons.mpr ⟨mk_1012, List.forall_mem_cons.mpr ⟨mk_1013, List.forall_mem_cons.mpr ⟨mk_1014, List.forall_mem_cons.mpr ⟨mk_1015, List.forall_mem_cons.mpr ⟨mk_1016, List.forall_mem_cons.mpr ⟨mk_1017, List.forall_mem_cons.mpr ⟨mk_1018, List.forall_mem_cons.mpr ⟨mk_1019, List.forall_mem_cons.mpr ⟨mk_1020, List.forall_mem_cons.mpr ⟨mk_1021, List.forall_mem_cons.mpr ⟨mk_1022, List.forall_mem_cons.mpr ⟨mk_1023, List.forall_mem_cons.mpr ⟨mk_1024, List.forall_mem_cons.mpr ⟨mk_1025, List.forall_mem_cons.mpr ⟨mk_1026, List.forall_mem_cons.mpr ⟨mk_1027, List.forall_mem_cons.mpr ⟨mk_1028, List.forall_mem_cons.mpr ⟨mk_1029, List.forall_mem_cons.mpr ⟨mk_1030, List.forall_mem_cons.mpr ⟨mk_1031, List.forall_mem_cons.mpr ⟨mk_1032, List.forall_mem_cons.mpr ⟨mk_1033, List.forall_mem_cons.mpr ⟨mk_1034, List.forall_mem_cons.mpr ⟨mk_1035, List.forall_mem_cons.mpr ⟨mk_1036, List.forall_mem_cons.mpr ⟨mk_1037, List.forall_mem_cons.mpr ⟨mk_1038, List.forall_mem_cons.mpr ⟨mk_1039, List.forall_mem_cons.mpr ⟨mk_1040, List.forall_mem_cons.mpr ⟨mk_1101, List.forall_mem_cons.mpr ⟨mk_1102, List.forall_mem_cons.mpr ⟨mk_1103, List.forall_mem_cons.mpr ⟨mk_1104, List.forall_mem_cons.mpr ⟨mk_1105, List.forall_mem_cons.mpr ⟨mk_1106, List.forall_mem_cons.mpr ⟨mk_1107, List.forall_mem_cons.mpr ⟨mk_1108, List.forall_mem_cons.mpr ⟨mk_1109, List.forall_mem_cons.mpr ⟨mk_1110, List.forall_mem_cons.mpr ⟨mk_1111, List.forall_mem_cons.mpr ⟨mk_1112, List.forall_mem_cons.mpr ⟨mk_1113, List.forall_mem_cons.mpr ⟨mk_1114, List.forall_mem_cons.mpr ⟨mk_1115, List.forall_mem_cons.mpr ⟨mk_1116, List.forall_mem_cons.mpr ⟨mk_1117, List.forall_mem_cons.mpr ⟨mk_1118, List.forall_mem_cons.mpr ⟨mk_1119, List.forall_mem_cons.mpr ⟨mk_1120, List.forall_mem_cons.mpr ⟨mk_1121, List.forall_mem_cons.mpr ⟨mk_1122, List.forall_mem_cons.mpr ⟨mk_1123, List.forall_mem_cons.mpr ⟨mk_1124, List.forall_mem_cons.mpr ⟨mk_1125, List.forall_mem_cons.mpr ⟨mk_1126, List.forall_mem_cons.mpr ⟨mk_1127, List.forall_mem_cons.mpr ⟨mk_1128, List.forall_mem_cons.mpr ⟨mk_1129, List.forall_mem_cons.mpr ⟨mk_1130, List.forall_mem_cons.mpr ⟨mk_1131, List.forall_mem_cons.mpr ⟨mk_1132, List.forall_mem_cons.mpr ⟨mk_1133, List.forall_mem_cons.mpr ⟨mk_1134, List.forall_mem_cons.mpr ⟨mk_1135, List.forall_mem_cons.mpr ⟨mk_1136, List.forall_mem_cons.mpr ⟨mk_1137, List.forall_mem_cons.mpr ⟨mk_1138, List.forall_mem_cons.mpr ⟨mk_1139, List.forall_mem_cons.mpr ⟨mk_1140, List.forall_mem_cons.mpr ⟨mk_1141, List.forall_mem_cons.mpr ⟨mk_1142, List.forall_mem_cons.mpr ⟨mk_1143, List.forall_mem_cons.mpr ⟨mk_1144, List.forall_mem_cons.mpr ⟨mk_1145, List.forall_mem_cons.mpr ⟨mk_1146, List.forall_mem_cons.mpr ⟨mk_1147, List.forall_mem_cons.mpr ⟨mk_1148, List.forall_mem_cons.mpr ⟨mk_1149, List.forall_mem_cons.mpr ⟨mk_1150, List.forall_mem_cons.mpr ⟨mk_1151, List.forall_mem_cons.mpr ⟨mk_1152, List.forall_mem_cons.mpr ⟨mk_1153, List.forall_mem_cons.mpr ⟨mk_1154, List.forall_mem_cons.mpr ⟨mk_1155, List.forall_mem_cons.mpr ⟨mk_1156, List.forall_mem_cons.mpr ⟨mk_1157, List.forall_mem_cons.mpr ⟨mk_1158, List.forall_mem_cons.mpr ⟨mk_1159, List.forall_mem_cons.mpr ⟨mk_1160, List.forall_mem_cons.mpr ⟨mk_1161, List.forall_mem_cons.mpr ⟨mk_1162, List.forall_mem_cons.mpr ⟨mk_1163, List.forall_mem_cons.mpr ⟨mk_1164, List.forall_mem_cons.mpr ⟨mk_1165, List.forall_mem_cons.mpr ⟨mk_1166, List.forall_mem_cons.mpr ⟨mk_1167, List.forall_mem_cons.mpr ⟨mk_1168, List.forall_mem_cons.mpr ⟨mk_1169, List.forall_mem_cons.mpr ⟨mk_1170, List.forall_mem_cons.mpr ⟨mk_1171, List.forall_mem_cons.mpr ⟨mk_1172, List.forall_mem_cons.mpr ⟨mk_1173, List.forall_mem_cons.mpr ⟨mk_1174, List.forall_mem_cons.mpr ⟨mk_1175, List.forall_mem_cons.mpr ⟨mk_1176, List.forall_mem_cons.mpr ⟨mk_1177, List.forall_mem_cons.mpr ⟨mk_1178, List.forall_mem_cons.mpr ⟨mk_1179, List.forall_mem_cons.mpr ⟨mk_1180, List.forall_mem_cons.mpr ⟨mk_1181, List.forall_mem_cons.mpr ⟨mk_1500, fun _ h => absurd h List.not_mem_nil⟩⟩⟩⟩⟩⟩⟩⟩⟩⟩⟩⟩⟩⟩⟩⟩⟩⟩⟩⟩⟩⟩⟩⟩⟩⟩⟩⟩⟩⟩⟩⟩⟩⟩⟩⟩⟩⟩⟩⟩⟩⟩⟩⟩⟩⟩⟩⟩⟩⟩⟩⟩⟩⟩⟩⟩⟩⟩⟩⟩⟩⟩⟩⟩⟩⟩⟩⟩⟩⟩⟩⟩⟩⟩⟩⟩⟩⟩⟩⟩⟩⟩⟩⟩⟩⟩⟩⟩⟩⟩⟩⟩⟩⟩⟩⟩⟩⟩⟩⟩⟩⟩⟩⟩⟩⟩⟩⟩⟩⟩⟩⟩⟩⟩⟩⟩⟩⟩⟩⟩⟩⟩⟩⟩⟩⟩⟩⟩⟩⟩⟩⟩⟩⟩⟩⟩⟩⟩⟩⟩⟩⟩⟩⟩⟩⟩⟩⟩⟩⟩⟩⟩⟩⟩⟩⟩⟩⟩⟩⟩⟩⟩⟩⟩⟩⟩⟩⟩⟩⟩⟩⟩⟩⟩⟩⟩⟩⟩⟩⟩⟩⟩⟩⟩⟩⟩⟩⟩⟩⟩⟩⟩⟩⟩⟩⟩⟩⟩⟩⟩⟩⟩⟩⟩⟩⟩⟩
def mm_nestF : List (String × Nat × String × String × String) := [(RX1, 25, RX5, "size", "I"), (RX1, 29, RX2, "size", "I"), (RX1, 44, RX2, "first", "[I"), (RX1, 48, RX2, "last", "[I"), (RX1, 51, RX2, "time", "[I"), (RX3, 36, RX2, "size", "I"), (RX3, 87, RX4, "size", "I"), (RX3, 120, RX4, "changes", "I"), (RX6, 30, RX1, "sorted", "LRangePlanner$Sorted;"), (RX6, 36, RX5, "size", "I"), (RX6, 49, RX1, "probe", "LRangePlanner$Window;"), (RX8, 16, RX5, "size", "I"), (RX8, 20, RX2, "size", "I"), (RX8, 27, RX2, "time", "[I"), (RX8, 31, RX2, "first", "[I"), (RX8, 34, RX2, "last", "[I"), (RX10, 85, RX3, "size", "I"), (RX10, 94, RX3, "row", "LRangePlanner$Row;"), (RX10, 99, RX3, "questions", "LRangePlanner$Questions;"), (RX10, 106, RX0, "size", "I"), (RX10, 114, RX4, "cells", "[I"), (RX10, 131, RX4, "changes", "I"), (RX10, 138, RX2, "size", "I"), (RX10, 147, RX2, "kind", "[I"), (RX10, 150, RX2, "first", "[I"), (RX10, 153, RX2, "last", "[I"), (RX10, 156, RX2, "time", "[I"), (RX10, 170, RX0, "was", "[[I"), (RX10, 174, RX0, "kind", "[I"), (RX10, 209, RX1, "sorted", "LRangePlanner$Sorted;"), (RX10, 213, RX5, "size", "I"), (RX10, 222, RX1, "probe", "LRangePlanner$Window;"), (RX10, 225, RX9, "ends", "I"), (RX10, 228, RX9, "turns", "I"), (RX10, 234, RX1, "most", "I"), (RX10, 82, RX4, "size", "I"), (RX10, 274, RX8, "sorted", "LRangePlanner$Sorted;"), (RX10, 278, RX8, "adds", "I"), (RX10, 281, RX8, "groups", "I"), (RX10, 284, RX8, "deepest", "I"), (RX10, 287, RX9, "cameTo", "I"), (RX10, 305, RX9, "right", "I"), (RX10, 308, RX9, "left", "I"), (RX10, 314, RX9, "now", "I"), (RX10, 323, RX7, "times", "[I")]
def mm_nestM : List (String × Nat × MethodName) := [(RX7, 30, yX10_isNumber)]
def mm_fact (e : Nat × Nat × Nat × Nat × Bool) : Prop := ∃ (C : String) (T : u_T) (N : Nat), vwCl[e.2.2.1]? = some (C, T, N) ∧ e.2.2.2.1 < N ∧ (T e.2.2.2.1).1 = C ∧ (e.2.2.2.2 = false → Cond.fieldLink (mm_own e.1) e.2.1 C (T e.2.2.2.1).2.1 (T e.2.2.2.1).2.2.1 ∈ mm_words) ∧ (e.2.2.2.2 = true → (mm_own e.1, e.2.1, C, (T e.2.2.2.1).2.1, (T e.2.2.2.1).2.2.1) ∈ mm_nestF)
def mm_flds : List (Nat × Nat × Nat × Nat × Bool) := [(0, 9, 0, 0, false), (0, 20, 0, 3, false), (0, 17, 0, 1, false), (0, 24, 0, 2, false), (1, 12, 1, 0, false), (1, 25, 5, 1, true), (1, 29, 2, 4, true), (1, 44, 2, 1, true), (1, 48, 2, 2, true), (1, 51, 2, 3, true), (1, 21, 1, 1, false), (1, 68, 1, 2, false), (2, 24, 2, 4, false), (2, 9, 2, 0, false), (2, 15, 2, 1, false), (2, 18, 2, 2, false), (2, 21, 2, 3, false), (3, 29, 3, 3, false), (3, 9, 3, 0, false), (3, 18, 3, 1, false), (3, 25, 3, 2, false), (3, 36, 2, 4, true), (3, 43, 3, 4, false), (3, 46, 3, 7, false), (3, 56, 3, 9, false), (3, 59, 3, 5, false), (3, 87, 4, 4, true), (3, 98, 3, 8, false), (3, 120, 4, 5, true), (3, 145, 3, 6, false), (4, 24, 4, 4, false), (4, 28, 4, 5, false), (4, 9, 4, 0, false), (4, 15, 4, 1, false), (4, 18, 4, 2, false), (4, 21, 4, 3, false), (5, 15, 5, 1, false), (5, 9, 5, 0, false), (6, 30, 1, 0, true), (6, 36, 5, 1, true), (6, 48, 6, 4, false), (6, 49, 1, 1, true), (6, 26, 6, 3, false), (6, 9, 6, 0, false), (6, 15, 6, 1, false), (6, 20, 6, 2, false), (7, 9, 7, 0, false), (7, 15, 7, 1, false), (8, 10, 8, 0, false), (8, 16, 5, 1, true), (8, 20, 2, 4, true), (8, 27, 2, 3, true), (8, 31, 2, 1, true), (8, 34, 2, 2, true), (8, 45, 8, 1, false), (8, 48, 8, 2, false), (8, 51, 8, 3, false), (9, 15, 9, 1, false), (9, 19, 9, 2, false), (9, 22, 9, 3, false), (9, 25, 9, 4, false), (9, 28, 9, 5, false), (9, 31, 9, 6, false), (9, 9, 9, 0, false), (10, 10, 10, 0, false), (10, 85, 3, 3, true), (10, 19, 10, 1, false), (10, 94, 3, 1, true), (10, 26, 10, 2, false), (10, 99, 3, 2, true), (10, 61, 10, 7, false), (10, 68, 10, 8, false), (10, 106, 0, 2, true), (10, 72, 10, 9, false), (10, 76, 10, 10, false), (10, 79, 10, 11, false), (10, 114, 4, 0, true), (10, 131, 4, 5, true), (10, 138, 2, 4, true), (10, 147, 2, 0, true), (10, 150, 2, 1, true), (10, 153, 2, 2, true), (10, 156, 2, 3, true), (10, 170, 0, 1, true), (10, 174, 0, 0, true), (10, 40, 10, 4, false), (10, 209, 1, 0, true), (10, 213, 5, 1, true), (10, 222, 1, 1, true), (10, 225, 9, 4, true), (10, 228, 9, 5, true), (10, 234, 1, 2, true), (10, 82, 4, 4, true), (10, 47, 10, 5, false), (10, 54, 10, 6, false), (10, 274, 8, 0, true), (10, 278, 8, 1, true), (10, 281, 8, 2, true), (10, 284, 8, 3, true), (10, 287, 9, 6, true), (10, 305, 9, 2, true), (10, 308, 9, 1, true), (10, 314, 9, 3, true), (10, 33, 10, 3, false), (10, 323, 7, 0, true), (11, 72, 11, 0, false), (11, 75, 11, 2, false), (11, 7, 11, 1, false), (11, 82, 11, 20, false), (11, 97, 11, 22, false), (11, 104, 11, 21, false), (11, 107, 11, 23, false), (11, 117, 11, 24, false), (11, 120, 11, 25, false), (11, 123, 11, 26, false), (11, 136, 11, 27, false), (11, 142, 11, 13, false), (11, 39, 11, 14, false), (11, 156, 11, 15, false), (11, 42, 11, 16, false), (11, 45, 11, 17, false), (11, 159, 11, 18, false), (11, 48, 11, 19, false), (11, 13, 11, 3, false), (11, 190, 11, 5, false), (11, 193, 11, 8, false), (11, 17, 11, 4, false), (11, 21, 11, 6, false), (11, 24, 11, 7, false), (11, 27, 11, 9, false), (11, 30, 11, 10, false), (11, 33, 11, 11, false), (11, 36, 11, 12, false), (11, 196, 11, 39, false), (11, 69, 11, 40, false), (11, 199, 11, 41, false), (11, 202, 11, 42, false), (11, 205, 11, 43, false), (11, 208, 11, 44, false), (11, 211, 11, 29, false), (11, 51, 11, 28, false), (11, 54, 11, 30, false), (11, 57, 11, 31, false), (11, 281, 11, 33, false), (11, 63, 11, 34, false), (11, 60, 11, 32, false), (11, 295, 11, 35, false), (11, 298, 11, 36, false), (11, 301, 11, 37, false), (11, 66, 11, 38, false), (11, 326, 11, 45, false), (11, 332, 11, 46, false), (11, 335, 11, 47, false), (11, 338, 11, 48, false), (11, 341, 11, 49, false)]
theorem mf_0 : mm_fact (0, 9, 0, 0, false) := ⟨RX0, TX0, 4, rfl, by decide, by decide +kernel, fun _ => mm_in2 (List.mem_of_getElem? (i := 50) (by decide +kernel)) (by decide +kernel), (by intro h; cases h)⟩
theorem mf_1 : mm_fact (0, 20, 0, 3, false) := ⟨RX0, TX0, 4, rfl, by decide, by decide +kernel, fun _ => mm_in2 (List.mem_of_getElem? (i := 56) (by decide +kernel)) (by decide +kernel), (by intro h; cases h)⟩
theorem mf_2 : mm_fact (0, 17, 0, 1, false) := ⟨RX0, TX0, 4, rfl, by decide, by decide +kernel, fun _ => mm_in2 (List.mem_of_getElem? (i := 52) (by decide +kernel)) (by decide +kernel), (by intro h; cases h)⟩
theorem mf_3 : mm_fact (0, 24, 0, 2, false) := ⟨RX0, TX0, 4, rfl, by decide, by decide +kernel, fun _ => mm_in2 (List.mem_of_getElem? (i := 54) (by decide +kernel)) (by decide +kernel), (by intro h; cases h)⟩
theorem mf_4 : mm_fact (1, 12, 1, 0, false) := ⟨RX1, TX1, 3, rfl, by decide, by decide +kernel, fun _ => mm_in1 (List.mem_of_getElem? (i := 215) (by decide +kernel)) (by decide +kernel), (by intro h; cases h)⟩
theorem mf_5 : mm_fact (1, 25, 5, 1, true) := ⟨RX5, TX5, 2, rfl, by decide, by decide +kernel, (by intro h; cases h), fun _ => List.mem_of_getElem? (i := 0) (by decide +kernel)⟩
theorem mf_6 : mm_fact (1, 29, 2, 4, true) := ⟨RX2, TX2, 5, rfl, by decide, by decide +kernel, (by intro h; cases h), fun _ => List.mem_of_getElem? (i := 1) (by decide +kernel)⟩
theorem mf_7 : mm_fact (1, 44, 2, 1, true) := ⟨RX2, TX2, 5, rfl, by decide, by decide +kernel, (by intro h; cases h), fun _ => List.mem_of_getElem? (i := 2) (by decide +kernel)⟩
theorem mf_8 : mm_fact (1, 48, 2, 2, true) := ⟨RX2, TX2, 5, rfl, by decide, by decide +kernel, (by intro h; cases h), fun _ => List.mem_of_getElem? (i := 3) (by decide +kernel)⟩
theorem mf_9 : mm_fact (1, 51, 2, 3, true) := ⟨RX2, TX2, 5, rfl, by decide, by decide +kernel, (by intro h; cases h), fun _ => List.mem_of_getElem? (i := 4) (by decide +kernel)⟩
theorem mf_10 : mm_fact (1, 21, 1, 1, false) := ⟨RX1, TX1, 3, rfl, by decide, by decide +kernel, fun _ => mm_in1 (List.mem_of_getElem? (i := 218) (by decide +kernel)) (by decide +kernel), (by intro h; cases h)⟩
theorem mf_11 : mm_fact (1, 68, 1, 2, false) := ⟨RX1, TX1, 3, rfl, by decide, by decide +kernel, fun _ => mm_in1 (List.mem_of_getElem? (i := 221) (by decide +kernel)) (by decide +kernel), (by intro h; cases h)⟩
theorem mf_12 : mm_fact (2, 24, 2, 4, false) := ⟨RX2, TX2, 5, rfl, by decide, by decide +kernel, fun _ => mm_in1 (List.mem_of_getElem? (i := 92) (by decide +kernel)) (by decide +kernel), (by intro h; cases h)⟩
theorem mf_13 : mm_fact (2, 9, 2, 0, false) := ⟨RX2, TX2, 5, rfl, by decide, by decide +kernel, fun _ => mm_in1 (List.mem_of_getElem? (i := 76) (by decide +kernel)) (by decide +kernel), (by intro h; cases h)⟩
theorem mf_14 : mm_fact (2, 15, 2, 1, false) := ⟨RX2, TX2, 5, rfl, by decide, by decide +kernel, fun _ => mm_in1 (List.mem_of_getElem? (i := 78) (by decide +kernel)) (by decide +kernel), (by intro h; cases h)⟩
theorem mf_15 : mm_fact (2, 18, 2, 2, false) := ⟨RX2, TX2, 5, rfl, by decide, by decide +kernel, fun _ => mm_in1 (List.mem_of_getElem? (i := 82) (by decide +kernel)) (by decide +kernel), (by intro h; cases h)⟩
theorem mf_16 : mm_fact (2, 21, 2, 3, false) := ⟨RX2, TX2, 5, rfl, by decide, by decide +kernel, fun _ => mm_in1 (List.mem_of_getElem? (i := 86) (by decide +kernel)) (by decide +kernel), (by intro h; cases h)⟩
theorem mf_17 : mm_fact (3, 29, 3, 3, false) := ⟨RX3, TX3, 10, rfl, by decide, by decide +kernel, fun _ => mm_in1 (List.mem_of_getElem? (i := 112) (by decide +kernel)) (by decide +kernel), (by intro h; cases h)⟩
theorem mf_18 : mm_fact (3, 9, 3, 0, false) := ⟨RX3, TX3, 10, rfl, by decide, by decide +kernel, fun _ => mm_in1 (List.mem_of_getElem? (i := 106) (by decide +kernel)) (by decide +kernel), (by intro h; cases h)⟩
theorem mf_19 : mm_fact (3, 18, 3, 1, false) := ⟨RX3, TX3, 10, rfl, by decide, by decide +kernel, fun _ => mm_in1 (List.mem_of_getElem? (i := 107) (by decide +kernel)) (by decide +kernel), (by intro h; cases h)⟩
theorem mf_20 : mm_fact (3, 25, 3, 2, false) := ⟨RX3, TX3, 10, rfl, by decide, by decide +kernel, fun _ => mm_in1 (List.mem_of_getElem? (i := 109) (by decide +kernel)) (by decide +kernel), (by intro h; cases h)⟩
theorem mf_21 : mm_fact (3, 36, 2, 4, true) := ⟨RX2, TX2, 5, rfl, by decide, by decide +kernel, (by intro h; cases h), fun _ => List.mem_of_getElem? (i := 5) (by decide +kernel)⟩
theorem mf_22 : mm_fact (3, 43, 3, 4, false) := ⟨RX3, TX3, 10, rfl, by decide, by decide +kernel, fun _ => mm_in1 (List.mem_of_getElem? (i := 113) (by decide +kernel)) (by decide +kernel), (by intro h; cases h)⟩
theorem mf_23 : mm_fact (3, 46, 3, 7, false) := ⟨RX3, TX3, 10, rfl, by decide, by decide +kernel, fun _ => mm_in1 (List.mem_of_getElem? (i := 116) (by decide +kernel)) (by decide +kernel), (by intro h; cases h)⟩
theorem mf_24 : mm_fact (3, 56, 3, 9, false) := ⟨RX3, TX3, 10, rfl, by decide, by decide +kernel, fun _ => mm_in1 (List.mem_of_getElem? (i := 118) (by decide +kernel)) (by decide +kernel), (by intro h; cases h)⟩
theorem mf_25 : mm_fact (3, 59, 3, 5, false) := ⟨RX3, TX3, 10, rfl, by decide, by decide +kernel, fun _ => mm_in1 (List.mem_of_getElem? (i := 114) (by decide +kernel)) (by decide +kernel), (by intro h; cases h)⟩
theorem mf_26 : mm_fact (3, 87, 4, 4, true) := ⟨RX4, TX4, 6, rfl, by decide, by decide +kernel, (by intro h; cases h), fun _ => List.mem_of_getElem? (i := 6) (by decide +kernel)⟩
theorem mf_27 : mm_fact (3, 98, 3, 8, false) := ⟨RX3, TX3, 10, rfl, by decide, by decide +kernel, fun _ => mm_in1 (List.mem_of_getElem? (i := 117) (by decide +kernel)) (by decide +kernel), (by intro h; cases h)⟩
theorem mf_28 : mm_fact (3, 120, 4, 5, true) := ⟨RX4, TX4, 6, rfl, by decide, by decide +kernel, (by intro h; cases h), fun _ => List.mem_of_getElem? (i := 7) (by decide +kernel)⟩
theorem mf_29 : mm_fact (3, 145, 3, 6, false) := ⟨RX3, TX3, 10, rfl, by decide, by decide +kernel, fun _ => mm_in1 (List.mem_of_getElem? (i := 115) (by decide +kernel)) (by decide +kernel), (by intro h; cases h)⟩
theorem mf_30 : mm_fact (4, 24, 4, 4, false) := ⟨RX4, TX4, 6, rfl, by decide, by decide +kernel, fun _ => mm_in1 (List.mem_of_getElem? (i := 50) (by decide +kernel)) (by decide +kernel), (by intro h; cases h)⟩
theorem mf_31 : mm_fact (4, 28, 4, 5, false) := ⟨RX4, TX4, 6, rfl, by decide, by decide +kernel, fun _ => mm_in1 (List.mem_of_getElem? (i := 52) (by decide +kernel)) (by decide +kernel), (by intro h; cases h)⟩
theorem mf_32 : mm_fact (4, 9, 4, 0, false) := ⟨RX4, TX4, 6, rfl, by decide, by decide +kernel, fun _ => mm_in1 (List.mem_of_getElem? (i := 44) (by decide +kernel)) (by decide +kernel), (by intro h; cases h)⟩
theorem mf_33 : mm_fact (4, 15, 4, 1, false) := ⟨RX4, TX4, 6, rfl, by decide, by decide +kernel, fun _ => mm_in1 (List.mem_of_getElem? (i := 46) (by decide +kernel)) (by decide +kernel), (by intro h; cases h)⟩
theorem mf_34 : mm_fact (4, 18, 4, 2, false) := ⟨RX4, TX4, 6, rfl, by decide, by decide +kernel, fun _ => mm_in1 (List.mem_of_getElem? (i := 47) (by decide +kernel)) (by decide +kernel), (by intro h; cases h)⟩
theorem mf_35 : mm_fact (4, 21, 4, 3, false) := ⟨RX4, TX4, 6, rfl, by decide, by decide +kernel, fun _ => mm_in1 (List.mem_of_getElem? (i := 48) (by decide +kernel)) (by decide +kernel), (by intro h; cases h)⟩
theorem mf_36 : mm_fact (5, 15, 5, 1, false) := ⟨RX5, TX5, 2, rfl, by decide, by decide +kernel, fun _ => mm_in1 (List.mem_of_getElem? (i := 174) (by decide +kernel)) (by decide +kernel), (by intro h; cases h)⟩
theorem mf_37 : mm_fact (5, 9, 5, 0, false) := ⟨RX5, TX5, 2, rfl, by decide, by decide +kernel, fun _ => mm_in1 (List.mem_of_getElem? (i := 170) (by decide +kernel)) (by decide +kernel), (by intro h; cases h)⟩
theorem mf_38 : mm_fact (6, 30, 1, 0, true) := ⟨RX1, TX1, 3, rfl, by decide, by decide +kernel, (by intro h; cases h), fun _ => List.mem_of_getElem? (i := 8) (by decide +kernel)⟩
theorem mf_39 : mm_fact (6, 36, 5, 1, true) := ⟨RX5, TX5, 2, rfl, by decide, by decide +kernel, (by intro h; cases h), fun _ => List.mem_of_getElem? (i := 9) (by decide +kernel)⟩
theorem mf_40 : mm_fact (6, 48, 6, 4, false) := ⟨RX6, TX6, 5, rfl, by decide, by decide +kernel, fun _ => mm_in2 (List.mem_of_getElem? (i := 4) (by decide +kernel)) (by decide +kernel), (by intro h; cases h)⟩
theorem mf_41 : mm_fact (6, 49, 1, 1, true) := ⟨RX1, TX1, 3, rfl, by decide, by decide +kernel, (by intro h; cases h), fun _ => List.mem_of_getElem? (i := 10) (by decide +kernel)⟩
theorem mf_42 : mm_fact (6, 26, 6, 3, false) := ⟨RX6, TX6, 5, rfl, by decide, by decide +kernel, fun _ => mm_in2 (List.mem_of_getElem? (i := 3) (by decide +kernel)) (by decide +kernel), (by intro h; cases h)⟩
theorem mf_43 : mm_fact (6, 9, 6, 0, false) := ⟨RX6, TX6, 5, rfl, by decide, by decide +kernel, fun _ => mm_in2 (List.mem_of_getElem? (i := 0) (by decide +kernel)) (by decide +kernel), (by intro h; cases h)⟩
theorem mf_44 : mm_fact (6, 15, 6, 1, false) := ⟨RX6, TX6, 5, rfl, by decide, by decide +kernel, fun _ => mm_in2 (List.mem_of_getElem? (i := 1) (by decide +kernel)) (by decide +kernel), (by intro h; cases h)⟩
theorem mf_45 : mm_fact (6, 20, 6, 2, false) := ⟨RX6, TX6, 5, rfl, by decide, by decide +kernel, fun _ => mm_in2 (List.mem_of_getElem? (i := 2) (by decide +kernel)) (by decide +kernel), (by intro h; cases h)⟩
theorem mf_46 : mm_fact (7, 9, 7, 0, false) := ⟨RX7, TX7, 2, rfl, by decide, by decide +kernel, fun _ => mm_in1 (List.mem_of_getElem? (i := 150) (by decide +kernel)) (by decide +kernel), (by intro h; cases h)⟩
theorem mf_47 : mm_fact (7, 15, 7, 1, false) := ⟨RX7, TX7, 2, rfl, by decide, by decide +kernel, fun _ => mm_in1 (List.mem_of_getElem? (i := 152) (by decide +kernel)) (by decide +kernel), (by intro h; cases h)⟩
theorem mf_48 : mm_fact (8, 10, 8, 0, false) := ⟨RX8, TX8, 4, rfl, by decide, by decide +kernel, fun _ => mm_in2 (List.mem_of_getElem? (i := 24) (by decide +kernel)) (by decide +kernel), (by intro h; cases h)⟩
theorem mf_49 : mm_fact (8, 16, 5, 1, true) := ⟨RX5, TX5, 2, rfl, by decide, by decide +kernel, (by intro h; cases h), fun _ => List.mem_of_getElem? (i := 11) (by decide +kernel)⟩
theorem mf_50 : mm_fact (8, 20, 2, 4, true) := ⟨RX2, TX2, 5, rfl, by decide, by decide +kernel, (by intro h; cases h), fun _ => List.mem_of_getElem? (i := 12) (by decide +kernel)⟩
theorem mf_51 : mm_fact (8, 27, 2, 3, true) := ⟨RX2, TX2, 5, rfl, by decide, by decide +kernel, (by intro h; cases h), fun _ => List.mem_of_getElem? (i := 13) (by decide +kernel)⟩
theorem mf_52 : mm_fact (8, 31, 2, 1, true) := ⟨RX2, TX2, 5, rfl, by decide, by decide +kernel, (by intro h; cases h), fun _ => List.mem_of_getElem? (i := 14) (by decide +kernel)⟩
theorem mf_53 : mm_fact (8, 34, 2, 2, true) := ⟨RX2, TX2, 5, rfl, by decide, by decide +kernel, (by intro h; cases h), fun _ => List.mem_of_getElem? (i := 15) (by decide +kernel)⟩
theorem mf_54 : mm_fact (8, 45, 8, 1, false) := ⟨RX8, TX8, 4, rfl, by decide, by decide +kernel, fun _ => mm_in2 (List.mem_of_getElem? (i := 26) (by decide +kernel)) (by decide +kernel), (by intro h; cases h)⟩
theorem mf_55 : mm_fact (8, 48, 8, 2, false) := ⟨RX8, TX8, 4, rfl, by decide, by decide +kernel, fun _ => mm_in2 (List.mem_of_getElem? (i := 28) (by decide +kernel)) (by decide +kernel), (by intro h; cases h)⟩
theorem mf_56 : mm_fact (8, 51, 8, 3, false) := ⟨RX8, TX8, 4, rfl, by decide, by decide +kernel, fun _ => mm_in2 (List.mem_of_getElem? (i := 30) (by decide +kernel)) (by decide +kernel), (by intro h; cases h)⟩
theorem mf_57 : mm_fact (9, 15, 9, 1, false) := ⟨RX9, TX9, 7, rfl, by decide, by decide +kernel, fun _ => mm_in1 (List.mem_of_getElem? (i := 188) (by decide +kernel)) (by decide +kernel), (by intro h; cases h)⟩
theorem mf_58 : mm_fact (9, 19, 9, 2, false) := ⟨RX9, TX9, 7, rfl, by decide, by decide +kernel, fun _ => mm_in1 (List.mem_of_getElem? (i := 190) (by decide +kernel)) (by decide +kernel), (by intro h; cases h)⟩
theorem mf_59 : mm_fact (9, 22, 9, 3, false) := ⟨RX9, TX9, 7, rfl, by decide, by decide +kernel, fun _ => mm_in1 (List.mem_of_getElem? (i := 192) (by decide +kernel)) (by decide +kernel), (by intro h; cases h)⟩
theorem mf_60 : mm_fact (9, 25, 9, 4, false) := ⟨RX9, TX9, 7, rfl, by decide, by decide +kernel, fun _ => mm_in1 (List.mem_of_getElem? (i := 194) (by decide +kernel)) (by decide +kernel), (by intro h; cases h)⟩
theorem mf_61 : mm_fact (9, 28, 9, 5, false) := ⟨RX9, TX9, 7, rfl, by decide, by decide +kernel, fun _ => mm_in1 (List.mem_of_getElem? (i := 196) (by decide +kernel)) (by decide +kernel), (by intro h; cases h)⟩
theorem mf_62 : mm_fact (9, 31, 9, 6, false) := ⟨RX9, TX9, 7, rfl, by decide, by decide +kernel, fun _ => mm_in1 (List.mem_of_getElem? (i := 198) (by decide +kernel)) (by decide +kernel), (by intro h; cases h)⟩
theorem mf_63 : mm_fact (9, 9, 9, 0, false) := ⟨RX9, TX9, 7, rfl, by decide, by decide +kernel, fun _ => mm_in1 (List.mem_of_getElem? (i := 187) (by decide +kernel)) (by decide +kernel), (by intro h; cases h)⟩
theorem mf_64 : mm_fact (10, 10, 10, 0, false) := ⟨RX10, TX10, 12, rfl, by decide, by decide +kernel, fun _ => mm_in2 (List.mem_of_getElem? (i := 66) (by decide +kernel)) (by decide +kernel), (by intro h; cases h)⟩
theorem mf_65 : mm_fact (10, 85, 3, 3, true) := ⟨RX3, TX3, 10, rfl, by decide, by decide +kernel, (by intro h; cases h), fun _ => List.mem_of_getElem? (i := 16) (by decide +kernel)⟩
theorem mf_66 : mm_fact (10, 19, 10, 1, false) := ⟨RX10, TX10, 12, rfl, by decide, by decide +kernel, fun _ => mm_in2 (List.mem_of_getElem? (i := 67) (by decide +kernel)) (by decide +kernel), (by intro h; cases h)⟩
theorem mf_67 : mm_fact (10, 94, 3, 1, true) := ⟨RX3, TX3, 10, rfl, by decide, by decide +kernel, (by intro h; cases h), fun _ => List.mem_of_getElem? (i := 17) (by decide +kernel)⟩
theorem mf_68 : mm_fact (10, 26, 10, 2, false) := ⟨RX10, TX10, 12, rfl, by decide, by decide +kernel, fun _ => mm_in2 (List.mem_of_getElem? (i := 68) (by decide +kernel)) (by decide +kernel), (by intro h; cases h)⟩
theorem mf_69 : mm_fact (10, 99, 3, 2, true) := ⟨RX3, TX3, 10, rfl, by decide, by decide +kernel, (by intro h; cases h), fun _ => List.mem_of_getElem? (i := 18) (by decide +kernel)⟩
theorem mf_70 : mm_fact (10, 61, 10, 7, false) := ⟨RX10, TX10, 12, rfl, by decide, by decide +kernel, fun _ => mm_in2 (List.mem_of_getElem? (i := 73) (by decide +kernel)) (by decide +kernel), (by intro h; cases h)⟩
theorem mf_71 : mm_fact (10, 68, 10, 8, false) := ⟨RX10, TX10, 12, rfl, by decide, by decide +kernel, fun _ => mm_in2 (List.mem_of_getElem? (i := 74) (by decide +kernel)) (by decide +kernel), (by intro h; cases h)⟩
theorem mf_72 : mm_fact (10, 106, 0, 2, true) := ⟨RX0, TX0, 4, rfl, by decide, by decide +kernel, (by intro h; cases h), fun _ => List.mem_of_getElem? (i := 19) (by decide +kernel)⟩
theorem mf_73 : mm_fact (10, 72, 10, 9, false) := ⟨RX10, TX10, 12, rfl, by decide, by decide +kernel, fun _ => mm_in2 (List.mem_of_getElem? (i := 75) (by decide +kernel)) (by decide +kernel), (by intro h; cases h)⟩
theorem mf_74 : mm_fact (10, 76, 10, 10, false) := ⟨RX10, TX10, 12, rfl, by decide, by decide +kernel, fun _ => mm_in2 (List.mem_of_getElem? (i := 76) (by decide +kernel)) (by decide +kernel), (by intro h; cases h)⟩
theorem mf_75 : mm_fact (10, 79, 10, 11, false) := ⟨RX10, TX10, 12, rfl, by decide, by decide +kernel, fun _ => mm_in2 (List.mem_of_getElem? (i := 77) (by decide +kernel)) (by decide +kernel), (by intro h; cases h)⟩
theorem mf_76 : mm_fact (10, 114, 4, 0, true) := ⟨RX4, TX4, 6, rfl, by decide, by decide +kernel, (by intro h; cases h), fun _ => List.mem_of_getElem? (i := 20) (by decide +kernel)⟩
theorem mf_77 : mm_fact (10, 131, 4, 5, true) := ⟨RX4, TX4, 6, rfl, by decide, by decide +kernel, (by intro h; cases h), fun _ => List.mem_of_getElem? (i := 21) (by decide +kernel)⟩
theorem mf_78 : mm_fact (10, 138, 2, 4, true) := ⟨RX2, TX2, 5, rfl, by decide, by decide +kernel, (by intro h; cases h), fun _ => List.mem_of_getElem? (i := 22) (by decide +kernel)⟩
theorem mf_79 : mm_fact (10, 147, 2, 0, true) := ⟨RX2, TX2, 5, rfl, by decide, by decide +kernel, (by intro h; cases h), fun _ => List.mem_of_getElem? (i := 23) (by decide +kernel)⟩
theorem mf_80 : mm_fact (10, 150, 2, 1, true) := ⟨RX2, TX2, 5, rfl, by decide, by decide +kernel, (by intro h; cases h), fun _ => List.mem_of_getElem? (i := 24) (by decide +kernel)⟩
theorem mf_81 : mm_fact (10, 153, 2, 2, true) := ⟨RX2, TX2, 5, rfl, by decide, by decide +kernel, (by intro h; cases h), fun _ => List.mem_of_getElem? (i := 25) (by decide +kernel)⟩
theorem mf_82 : mm_fact (10, 156, 2, 3, true) := ⟨RX2, TX2, 5, rfl, by decide, by decide +kernel, (by intro h; cases h), fun _ => List.mem_of_getElem? (i := 26) (by decide +kernel)⟩
theorem mf_83 : mm_fact (10, 170, 0, 1, true) := ⟨RX0, TX0, 4, rfl, by decide, by decide +kernel, (by intro h; cases h), fun _ => List.mem_of_getElem? (i := 27) (by decide +kernel)⟩
theorem mf_84 : mm_fact (10, 174, 0, 0, true) := ⟨RX0, TX0, 4, rfl, by decide, by decide +kernel, (by intro h; cases h), fun _ => List.mem_of_getElem? (i := 28) (by decide +kernel)⟩
theorem mf_85 : mm_fact (10, 40, 10, 4, false) := ⟨RX10, TX10, 12, rfl, by decide, by decide +kernel, fun _ => mm_in2 (List.mem_of_getElem? (i := 70) (by decide +kernel)) (by decide +kernel), (by intro h; cases h)⟩
theorem mf_86 : mm_fact (10, 209, 1, 0, true) := ⟨RX1, TX1, 3, rfl, by decide, by decide +kernel, (by intro h; cases h), fun _ => List.mem_of_getElem? (i := 29) (by decide +kernel)⟩
theorem mf_87 : mm_fact (10, 213, 5, 1, true) := ⟨RX5, TX5, 2, rfl, by decide, by decide +kernel, (by intro h; cases h), fun _ => List.mem_of_getElem? (i := 30) (by decide +kernel)⟩
theorem mf_88 : mm_fact (10, 222, 1, 1, true) := ⟨RX1, TX1, 3, rfl, by decide, by decide +kernel, (by intro h; cases h), fun _ => List.mem_of_getElem? (i := 31) (by decide +kernel)⟩
theorem mf_89 : mm_fact (10, 225, 9, 4, true) := ⟨RX9, TX9, 7, rfl, by decide, by decide +kernel, (by intro h; cases h), fun _ => List.mem_of_getElem? (i := 32) (by decide +kernel)⟩
theorem mf_90 : mm_fact (10, 228, 9, 5, true) := ⟨RX9, TX9, 7, rfl, by decide, by decide +kernel, (by intro h; cases h), fun _ => List.mem_of_getElem? (i := 33) (by decide +kernel)⟩
theorem mf_91 : mm_fact (10, 234, 1, 2, true) := ⟨RX1, TX1, 3, rfl, by decide, by decide +kernel, (by intro h; cases h), fun _ => List.mem_of_getElem? (i := 34) (by decide +kernel)⟩
theorem mf_92 : mm_fact (10, 82, 4, 4, true) := ⟨RX4, TX4, 6, rfl, by decide, by decide +kernel, (by intro h; cases h), fun _ => List.mem_of_getElem? (i := 35) (by decide +kernel)⟩
theorem mf_93 : mm_fact (10, 47, 10, 5, false) := ⟨RX10, TX10, 12, rfl, by decide, by decide +kernel, fun _ => mm_in2 (List.mem_of_getElem? (i := 71) (by decide +kernel)) (by decide +kernel), (by intro h; cases h)⟩
theorem mf_94 : mm_fact (10, 54, 10, 6, false) := ⟨RX10, TX10, 12, rfl, by decide, by decide +kernel, fun _ => mm_in2 (List.mem_of_getElem? (i := 72) (by decide +kernel)) (by decide +kernel), (by intro h; cases h)⟩
theorem mf_95 : mm_fact (10, 274, 8, 0, true) := ⟨RX8, TX8, 4, rfl, by decide, by decide +kernel, (by intro h; cases h), fun _ => List.mem_of_getElem? (i := 36) (by decide +kernel)⟩
theorem mf_96 : mm_fact (10, 278, 8, 1, true) := ⟨RX8, TX8, 4, rfl, by decide, by decide +kernel, (by intro h; cases h), fun _ => List.mem_of_getElem? (i := 37) (by decide +kernel)⟩
theorem mf_97 : mm_fact (10, 281, 8, 2, true) := ⟨RX8, TX8, 4, rfl, by decide, by decide +kernel, (by intro h; cases h), fun _ => List.mem_of_getElem? (i := 38) (by decide +kernel)⟩
theorem mf_98 : mm_fact (10, 284, 8, 3, true) := ⟨RX8, TX8, 4, rfl, by decide, by decide +kernel, (by intro h; cases h), fun _ => List.mem_of_getElem? (i := 39) (by decide +kernel)⟩
theorem mf_99 : mm_fact (10, 287, 9, 6, true) := ⟨RX9, TX9, 7, rfl, by decide, by decide +kernel, (by intro h; cases h), fun _ => List.mem_of_getElem? (i := 40) (by decide +kernel)⟩
theorem mf_100 : mm_fact (10, 305, 9, 2, true) := ⟨RX9, TX9, 7, rfl, by decide, by decide +kernel, (by intro h; cases h), fun _ => List.mem_of_getElem? (i := 41) (by decide +kernel)⟩
theorem mf_101 : mm_fact (10, 308, 9, 1, true) := ⟨RX9, TX9, 7, rfl, by decide, by decide +kernel, (by intro h; cases h), fun _ => List.mem_of_getElem? (i := 42) (by decide +kernel)⟩
theorem mf_102 : mm_fact (10, 314, 9, 3, true) := ⟨RX9, TX9, 7, rfl, by decide, by decide +kernel, (by intro h; cases h), fun _ => List.mem_of_getElem? (i := 43) (by decide +kernel)⟩
theorem mf_103 : mm_fact (10, 33, 10, 3, false) := ⟨RX10, TX10, 12, rfl, by decide, by decide +kernel, fun _ => mm_in2 (List.mem_of_getElem? (i := 69) (by decide +kernel)) (by decide +kernel), (by intro h; cases h)⟩
theorem mf_104 : mm_fact (10, 323, 7, 0, true) := ⟨RX7, TX7, 2, rfl, by decide, by decide +kernel, (by intro h; cases h), fun _ => List.mem_of_getElem? (i := 44) (by decide +kernel)⟩
theorem mf_105 : mm_fact (11, 72, 11, 0, false) := ⟨RX11, TX11, 50, rfl, by decide, by decide +kernel, fun _ => mm_in5 (List.mem_of_getElem? (i := 61) (by decide +kernel)) (by decide +kernel), (by intro h; cases h)⟩
theorem mf_106 : mm_fact (11, 75, 11, 2, false) := ⟨RX11, TX11, 50, rfl, by decide, by decide +kernel, fun _ => mm_in5 (List.mem_of_getElem? (i := 63) (by decide +kernel)) (by decide +kernel), (by intro h; cases h)⟩
theorem mf_107 : mm_fact (11, 7, 11, 1, false) := ⟨RX11, TX11, 50, rfl, by decide, by decide +kernel, fun _ => mm_in5 (List.mem_of_getElem? (i := 62) (by decide +kernel)) (by decide +kernel), (by intro h; cases h)⟩
theorem mf_108 : mm_fact (11, 82, 11, 20, false) := ⟨RX11, TX11, 50, rfl, by decide, by decide +kernel, fun _ => mm_in5 (List.mem_of_getElem? (i := 81) (by decide +kernel)) (by decide +kernel), (by intro h; cases h)⟩
theorem mf_109 : mm_fact (11, 97, 11, 22, false) := ⟨RX11, TX11, 50, rfl, by decide, by decide +kernel, fun _ => mm_in5 (List.mem_of_getElem? (i := 83) (by decide +kernel)) (by decide +kernel), (by intro h; cases h)⟩
theorem mf_110 : mm_fact (11, 104, 11, 21, false) := ⟨RX11, TX11, 50, rfl, by decide, by decide +kernel, fun _ => mm_in5 (List.mem_of_getElem? (i := 82) (by decide +kernel)) (by decide +kernel), (by intro h; cases h)⟩
theorem mf_111 : mm_fact (11, 107, 11, 23, false) := ⟨RX11, TX11, 50, rfl, by decide, by decide +kernel, fun _ => mm_in5 (List.mem_of_getElem? (i := 84) (by decide +kernel)) (by decide +kernel), (by intro h; cases h)⟩
theorem mf_112 : mm_fact (11, 117, 11, 24, false) := ⟨RX11, TX11, 50, rfl, by decide, by decide +kernel, fun _ => mm_in5 (List.mem_of_getElem? (i := 85) (by decide +kernel)) (by decide +kernel), (by intro h; cases h)⟩
theorem mf_113 : mm_fact (11, 120, 11, 25, false) := ⟨RX11, TX11, 50, rfl, by decide, by decide +kernel, fun _ => mm_in5 (List.mem_of_getElem? (i := 86) (by decide +kernel)) (by decide +kernel), (by intro h; cases h)⟩
theorem mf_114 : mm_fact (11, 123, 11, 26, false) := ⟨RX11, TX11, 50, rfl, by decide, by decide +kernel, fun _ => mm_in5 (List.mem_of_getElem? (i := 87) (by decide +kernel)) (by decide +kernel), (by intro h; cases h)⟩
theorem mf_115 : mm_fact (11, 136, 11, 27, false) := ⟨RX11, TX11, 50, rfl, by decide, by decide +kernel, fun _ => mm_in5 (List.mem_of_getElem? (i := 88) (by decide +kernel)) (by decide +kernel), (by intro h; cases h)⟩
theorem mf_116 : mm_fact (11, 142, 11, 13, false) := ⟨RX11, TX11, 50, rfl, by decide, by decide +kernel, fun _ => mm_in5 (List.mem_of_getElem? (i := 74) (by decide +kernel)) (by decide +kernel), (by intro h; cases h)⟩
theorem mf_117 : mm_fact (11, 39, 11, 14, false) := ⟨RX11, TX11, 50, rfl, by decide, by decide +kernel, fun _ => mm_in5 (List.mem_of_getElem? (i := 75) (by decide +kernel)) (by decide +kernel), (by intro h; cases h)⟩
theorem mf_118 : mm_fact (11, 156, 11, 15, false) := ⟨RX11, TX11, 50, rfl, by decide, by decide +kernel, fun _ => mm_in5 (List.mem_of_getElem? (i := 76) (by decide +kernel)) (by decide +kernel), (by intro h; cases h)⟩
theorem mf_119 : mm_fact (11, 42, 11, 16, false) := ⟨RX11, TX11, 50, rfl, by decide, by decide +kernel, fun _ => mm_in5 (List.mem_of_getElem? (i := 77) (by decide +kernel)) (by decide +kernel), (by intro h; cases h)⟩
theorem mf_120 : mm_fact (11, 45, 11, 17, false) := ⟨RX11, TX11, 50, rfl, by decide, by decide +kernel, fun _ => mm_in5 (List.mem_of_getElem? (i := 78) (by decide +kernel)) (by decide +kernel), (by intro h; cases h)⟩
theorem mf_121 : mm_fact (11, 159, 11, 18, false) := ⟨RX11, TX11, 50, rfl, by decide, by decide +kernel, fun _ => mm_in5 (List.mem_of_getElem? (i := 79) (by decide +kernel)) (by decide +kernel), (by intro h; cases h)⟩
theorem mf_122 : mm_fact (11, 48, 11, 19, false) := ⟨RX11, TX11, 50, rfl, by decide, by decide +kernel, fun _ => mm_in5 (List.mem_of_getElem? (i := 80) (by decide +kernel)) (by decide +kernel), (by intro h; cases h)⟩
theorem mf_123 : mm_fact (11, 13, 11, 3, false) := ⟨RX11, TX11, 50, rfl, by decide, by decide +kernel, fun _ => mm_in5 (List.mem_of_getElem? (i := 64) (by decide +kernel)) (by decide +kernel), (by intro h; cases h)⟩
theorem mf_124 : mm_fact (11, 190, 11, 5, false) := ⟨RX11, TX11, 50, rfl, by decide, by decide +kernel, fun _ => mm_in5 (List.mem_of_getElem? (i := 66) (by decide +kernel)) (by decide +kernel), (by intro h; cases h)⟩
theorem mf_125 : mm_fact (11, 193, 11, 8, false) := ⟨RX11, TX11, 50, rfl, by decide, by decide +kernel, fun _ => mm_in5 (List.mem_of_getElem? (i := 69) (by decide +kernel)) (by decide +kernel), (by intro h; cases h)⟩
theorem mf_126 : mm_fact (11, 17, 11, 4, false) := ⟨RX11, TX11, 50, rfl, by decide, by decide +kernel, fun _ => mm_in5 (List.mem_of_getElem? (i := 65) (by decide +kernel)) (by decide +kernel), (by intro h; cases h)⟩
theorem mf_127 : mm_fact (11, 21, 11, 6, false) := ⟨RX11, TX11, 50, rfl, by decide, by decide +kernel, fun _ => mm_in5 (List.mem_of_getElem? (i := 67) (by decide +kernel)) (by decide +kernel), (by intro h; cases h)⟩
theorem mf_128 : mm_fact (11, 24, 11, 7, false) := ⟨RX11, TX11, 50, rfl, by decide, by decide +kernel, fun _ => mm_in5 (List.mem_of_getElem? (i := 68) (by decide +kernel)) (by decide +kernel), (by intro h; cases h)⟩
theorem mf_129 : mm_fact (11, 27, 11, 9, false) := ⟨RX11, TX11, 50, rfl, by decide, by decide +kernel, fun _ => mm_in5 (List.mem_of_getElem? (i := 70) (by decide +kernel)) (by decide +kernel), (by intro h; cases h)⟩
theorem mf_130 : mm_fact (11, 30, 11, 10, false) := ⟨RX11, TX11, 50, rfl, by decide, by decide +kernel, fun _ => mm_in5 (List.mem_of_getElem? (i := 71) (by decide +kernel)) (by decide +kernel), (by intro h; cases h)⟩
theorem mf_131 : mm_fact (11, 33, 11, 11, false) := ⟨RX11, TX11, 50, rfl, by decide, by decide +kernel, fun _ => mm_in5 (List.mem_of_getElem? (i := 72) (by decide +kernel)) (by decide +kernel), (by intro h; cases h)⟩
theorem mf_132 : mm_fact (11, 36, 11, 12, false) := ⟨RX11, TX11, 50, rfl, by decide, by decide +kernel, fun _ => mm_in5 (List.mem_of_getElem? (i := 73) (by decide +kernel)) (by decide +kernel), (by intro h; cases h)⟩
theorem mf_133 : mm_fact (11, 196, 11, 39, false) := ⟨RX11, TX11, 50, rfl, by decide, by decide +kernel, fun _ => mm_in5 (List.mem_of_getElem? (i := 100) (by decide +kernel)) (by decide +kernel), (by intro h; cases h)⟩
theorem mf_134 : mm_fact (11, 69, 11, 40, false) := ⟨RX11, TX11, 50, rfl, by decide, by decide +kernel, fun _ => mm_in5 (List.mem_of_getElem? (i := 101) (by decide +kernel)) (by decide +kernel), (by intro h; cases h)⟩
theorem mf_135 : mm_fact (11, 199, 11, 41, false) := ⟨RX11, TX11, 50, rfl, by decide, by decide +kernel, fun _ => mm_in5 (List.mem_of_getElem? (i := 102) (by decide +kernel)) (by decide +kernel), (by intro h; cases h)⟩
theorem mf_136 : mm_fact (11, 202, 11, 42, false) := ⟨RX11, TX11, 50, rfl, by decide, by decide +kernel, fun _ => mm_in5 (List.mem_of_getElem? (i := 103) (by decide +kernel)) (by decide +kernel), (by intro h; cases h)⟩
theorem mf_137 : mm_fact (11, 205, 11, 43, false) := ⟨RX11, TX11, 50, rfl, by decide, by decide +kernel, fun _ => mm_in5 (List.mem_of_getElem? (i := 104) (by decide +kernel)) (by decide +kernel), (by intro h; cases h)⟩
theorem mf_138 : mm_fact (11, 208, 11, 44, false) := ⟨RX11, TX11, 50, rfl, by decide, by decide +kernel, fun _ => mm_in5 (List.mem_of_getElem? (i := 105) (by decide +kernel)) (by decide +kernel), (by intro h; cases h)⟩
theorem mf_139 : mm_fact (11, 211, 11, 29, false) := ⟨RX11, TX11, 50, rfl, by decide, by decide +kernel, fun _ => mm_in5 (List.mem_of_getElem? (i := 90) (by decide +kernel)) (by decide +kernel), (by intro h; cases h)⟩
theorem mf_140 : mm_fact (11, 51, 11, 28, false) := ⟨RX11, TX11, 50, rfl, by decide, by decide +kernel, fun _ => mm_in5 (List.mem_of_getElem? (i := 89) (by decide +kernel)) (by decide +kernel), (by intro h; cases h)⟩
theorem mf_141 : mm_fact (11, 54, 11, 30, false) := ⟨RX11, TX11, 50, rfl, by decide, by decide +kernel, fun _ => mm_in5 (List.mem_of_getElem? (i := 91) (by decide +kernel)) (by decide +kernel), (by intro h; cases h)⟩
theorem mf_142 : mm_fact (11, 57, 11, 31, false) := ⟨RX11, TX11, 50, rfl, by decide, by decide +kernel, fun _ => mm_in5 (List.mem_of_getElem? (i := 92) (by decide +kernel)) (by decide +kernel), (by intro h; cases h)⟩
theorem mf_143 : mm_fact (11, 281, 11, 33, false) := ⟨RX11, TX11, 50, rfl, by decide, by decide +kernel, fun _ => mm_in5 (List.mem_of_getElem? (i := 94) (by decide +kernel)) (by decide +kernel), (by intro h; cases h)⟩
theorem mf_144 : mm_fact (11, 63, 11, 34, false) := ⟨RX11, TX11, 50, rfl, by decide, by decide +kernel, fun _ => mm_in5 (List.mem_of_getElem? (i := 95) (by decide +kernel)) (by decide +kernel), (by intro h; cases h)⟩
theorem mf_145 : mm_fact (11, 60, 11, 32, false) := ⟨RX11, TX11, 50, rfl, by decide, by decide +kernel, fun _ => mm_in5 (List.mem_of_getElem? (i := 93) (by decide +kernel)) (by decide +kernel), (by intro h; cases h)⟩
theorem mf_146 : mm_fact (11, 295, 11, 35, false) := ⟨RX11, TX11, 50, rfl, by decide, by decide +kernel, fun _ => mm_in5 (List.mem_of_getElem? (i := 96) (by decide +kernel)) (by decide +kernel), (by intro h; cases h)⟩
theorem mf_147 : mm_fact (11, 298, 11, 36, false) := ⟨RX11, TX11, 50, rfl, by decide, by decide +kernel, fun _ => mm_in5 (List.mem_of_getElem? (i := 97) (by decide +kernel)) (by decide +kernel), (by intro h; cases h)⟩
theorem mf_148 : mm_fact (11, 301, 11, 37, false) := ⟨RX11, TX11, 50, rfl, by decide, by decide +kernel, fun _ => mm_in5 (List.mem_of_getElem? (i := 98) (by decide +kernel)) (by decide +kernel), (by intro h; cases h)⟩
theorem mf_149 : mm_fact (11, 66, 11, 38, false) := ⟨RX11, TX11, 50, rfl, by decide, by decide +kernel, fun _ => mm_in5 (List.mem_of_getElem? (i := 99) (by decide +kernel)) (by decide +kernel), (by intro h; cases h)⟩
theorem mf_150 : mm_fact (11, 326, 11, 45, false) := ⟨RX11, TX11, 50, rfl, by decide, by decide +kernel, fun _ => mm_in5 (List.mem_of_getElem? (i := 106) (by decide +kernel)) (by decide +kernel), (by intro h; cases h)⟩
theorem mf_151 : mm_fact (11, 332, 11, 46, false) := ⟨RX11, TX11, 50, rfl, by decide, by decide +kernel, fun _ => mm_in5 (List.mem_of_getElem? (i := 107) (by decide +kernel)) (by decide +kernel), (by intro h; cases h)⟩
theorem mf_152 : mm_fact (11, 335, 11, 47, false) := ⟨RX11, TX11, 50, rfl, by decide, by decide +kernel, fun _ => mm_in5 (List.mem_of_getElem? (i := 108) (by decide +kernel)) (by decide +kernel), (by intro h; cases h)⟩
theorem mf_153 : mm_fact (11, 338, 11, 48, false) := ⟨RX11, TX11, 50, rfl, by decide, by decide +kernel, fun _ => mm_in5 (List.mem_of_getElem? (i := 109) (by decide +kernel)) (by decide +kernel), (by intro h; cases h)⟩
theorem mf_154 : mm_fact (11, 341, 11, 49, false) := ⟨RX11, TX11, 50, rfl, by decide, by decide +kernel, fun _ => mm_in5 (List.mem_of_getElem? (i := 110) (by decide +kernel)) (by decide +kernel), (by intro h; cases h)⟩
set_option maxRecDepth 100000 in
theorem mm_flds_ok : ∀ e ∈ mm_flds, mm_fact e := List.forall_mem_cons.mpr ⟨mf_0, List.forall_mem_cons.mpr ⟨mf_1, List.forall_mem_cons.mpr ⟨mf_2, List.forall_mem_cons.mpr ⟨mf_3, List.forall_mem_cons.mpr ⟨mf_4, List.forall_mem_cons.mpr ⟨mf_5, List.forall_mem_cons.mpr ⟨mf_6, List.forall_mem_cons.mpr ⟨mf_7, List.forall_mem_cons.mpr ⟨mf_8, List.forall_mem_cons.mpr ⟨mf_9, List.forall_mem_cons.mpr ⟨mf_10, List.forall_mem_cons.mpr ⟨mf_11, List.forall_mem_cons.mpr ⟨mf_12, List.forall_mem_cons.mpr ⟨mf_13, List.forall_mem_cons.mpr ⟨mf_14, List.forall_mem_cons.mpr ⟨mf_15, List.forall_mem_cons.mpr ⟨mf_16, List.forall_mem_cons.mpr ⟨mf_17, List.forall_mem_cons.mpr ⟨mf_18, List.forall_mem_cons.mpr ⟨mf_19, List.forall_mem_cons.mpr ⟨mf_20, List.forall_mem_cons.mpr ⟨mf_21, List.forall_mem_cons.mpr ⟨mf_22, List.forall_mem_cons.mpr ⟨mf_23, List.forall_mem_cons.mpr ⟨mf_24, List.forall_mem_cons.mpr ⟨mf_25, List.forall_mem_cons.mpr ⟨mf_26, List.forall_mem_cons.mpr ⟨mf_27, List.forall_mem_cons.mpr ⟨mf_28, List.forall_mem_cons.mpr ⟨mf_29, List.forall_mem_cons.mpr ⟨mf_30, List.forall_mem_cons.mpr ⟨mf_31, List.forall_mem_cons.mpr ⟨mf_32, List.forall_mem_cons.mpr ⟨mf_33, List.forall_mem_cons.mpr ⟨mf_34, List.forall_mem_cons.mpr ⟨mf_35, List.forall_mem_cons.mpr ⟨mf_36, List.forall_mem_cons.mpr ⟨mf_37, List.forall_mem_cons.mpr ⟨mf_38, List.forall_mem_cons.mpr ⟨mf_39, List.forall_mem_cons.mpr ⟨mf_40, List.forall_mem_cons.mpr ⟨mf_41, List.forall_mem_cons.mpr ⟨mf_42, List.forall_mem_cons.mpr ⟨mf_43, List.forall_mem_cons.mpr ⟨mf_44, List.forall_mem_cons.mpr ⟨mf_45, List.forall_mem_cons.mpr ⟨mf_46, List.forall_mem_cons.mpr ⟨mf_47, List.forall_mem_cons.mpr ⟨mf_48, List.forall_mem_cons.mpr ⟨mf_49, List.forall_mem_cons.mpr ⟨mf_50, List.forall_mem_cons.mpr ⟨mf_51, List.forall_mem_cons.mpr ⟨mf_52, List.forall_mem_cons.mpr ⟨mf_53, List.forall_mem_cons.mpr ⟨mf_54, List.forall_mem_cons.mpr ⟨mf_55, List.forall_mem_cons.mpr ⟨mf_56, List.forall_mem_cons.mpr ⟨mf_57, List.forall_mem_cons.mpr ⟨mf_58, List.forall_mem_cons.mpr ⟨mf_59, List.forall_mem_cons.mpr ⟨mf_60, List.forall_mem_cons.mpr ⟨mf_61, List.forall_mem_cons.mpr ⟨mf_62, List.forall_mem_cons.mpr ⟨mf_63, List.forall_mem_cons.mpr ⟨mf_64, List.forall_mem_cons.mpr ⟨mf_65, List.forall_mem_cons.mpr ⟨mf_66, List.forall_mem_cons.mpr ⟨mf_67, List.forall_mem_cons.mpr ⟨mf_68, List.forall_mem_cons.mpr ⟨mf_69, List.forall_mem_cons.mpr ⟨mf_70, List.forall_mem_cons.mpr ⟨mf_71, List.forall_mem_cons.mpr ⟨mf_72, List.forall_mem_cons.mpr ⟨mf_73, List.forall_mem_cons.mpr ⟨mf_74, List.forall_mem_cons.mpr ⟨mf_75, List.forall_mem_cons.mpr ⟨mf_76, List.forall_mem_cons.mpr ⟨mf_77, List.forall_mem_cons.mpr ⟨mf_78, List.forall_mem_cons.mpr ⟨mf_79, List.forall_mem_cons.mpr ⟨mf_80, List.forall_mem_cons.mpr ⟨mf_81, List.forall_mem_cons.mpr ⟨mf_82, List.forall_mem_cons.mpr ⟨mf_83, List.forall_mem_cons.mpr ⟨mf_84, List.forall_mem_cons.mpr ⟨mf_85, List.forall_mem_cons.mpr ⟨mf_86, List.forall_mem_cons.mpr ⟨mf_87, List.forall_mem_cons.mpr ⟨mf_88, List.forall_mem_cons.mpr ⟨mf_89, List.forall_mem_cons.mpr ⟨mf_90, List.forall_mem_cons.mpr ⟨mf_91, List.forall_mem_cons.mpr ⟨mf_92, List.forall_mem_cons.mpr ⟨mf_93, List.forall_mem_cons.mpr ⟨mf_94, List.forall_mem_cons.mpr ⟨mf_95, List.forall_mem_cons.mpr ⟨mf_96, List.forall_mem_cons.mpr ⟨mf_97, List.forall_mem_cons.mpr ⟨mf_98, List.forall_mem_cons.mpr ⟨mf_99, List.forall_mem_cons.mpr ⟨mf_100, List.forall_mem_cons.mpr ⟨mf_101, List.forall_mem_cons.mpr ⟨mf_102, List.forall_mem_cons.mpr ⟨mf_103, List.forall_mem_cons.mpr ⟨mf_104, List.forall_mem_cons.mpr ⟨mf_105, List.forall_mem_cons.mpr ⟨mf_106, List.forall_mem_cons.mpr ⟨mf_107, List.forall_mem_cons.mpr ⟨mf_108, List.forall_mem_cons.mpr ⟨mf_109, List.forall_mem_cons.mpr ⟨mf_110, List.forall_mem_cons.mpr ⟨mf_111, List.forall_mem_cons.mpr ⟨mf_112, List.forall_mem_cons.mpr ⟨mf_113, List.forall_mem_cons.mpr ⟨mf_114, List.forall_mem_cons.mpr ⟨mf_115, List.forall_mem_cons.mpr ⟨mf_116, List.forall_mem_cons.mpr ⟨mf_117, List.forall_mem_cons.mpr ⟨mf_118, List.forall_mem_cons.mpr ⟨mf_119, List.forall_mem_cons.mpr ⟨mf_120, List.forall_mem_cons.mpr ⟨mf_121, List.forall_mem_cons.mpr ⟨mf_122, List.forall_mem_cons.mpr ⟨mf_123, List.forall_mem_cons.mpr ⟨mf_124, List.forall_mem_cons.mpr ⟨mf_125, List.forall_mem_cons.mpr ⟨mf_126, List.forall_mem_cons.mpr ⟨mf_127, List.forall_mem_cons.mpr ⟨mf_128, List.forall_mem_cons.mpr ⟨mf_129, List.forall_mem_cons.mpr ⟨mf_130, List.forall_mem_cons.mpr ⟨mf_131, List.forall_mem_cons.mpr ⟨mf_132, List.forall_mem_cons.mpr ⟨mf_133, List.forall_mem_cons.mpr ⟨mf_134, List.forall_mem_cons.mpr ⟨mf_135, List.forall_mem_cons.mpr ⟨mf_136, List.forall_mem_cons.mpr ⟨mf_137, List.forall_mem_cons.mpr ⟨mf_138, List.forall_mem_cons.mpr ⟨mf_139, List.forall_mem_cons.mpr ⟨mf_140, List.forall_mem_cons.mpr ⟨mf_141, List.forall_mem_cons.mpr ⟨mf_142, List.forall_mem_cons.mpr ⟨mf_143, List.forall_mem_cons.mpr ⟨mf_144, List.forall_mem_cons.mpr ⟨mf_145, List.forall_mem_cons.mpr ⟨mf_146, List.forall_mem_cons.mpr ⟨mf_147, List.forall_mem_cons.mpr ⟨mf_148, List.forall_mem_cons.mpr ⟨mf_149, List.forall_mem_cons.mpr ⟨mf_150, List.forall_mem_cons.mpr ⟨mf_151, List.forall_mem_cons.mpr ⟨mf_152, List.forall_mem_cons.mpr ⟨mf_153, List.forall_mem_cons.mpr ⟨mf_154, fun _ h => absurd h List.not_mem_nil⟩⟩⟩⟩⟩⟩⟩⟩⟩⟩⟩⟩⟩⟩⟩⟩⟩⟩⟩⟩⟩⟩⟩⟩⟩⟩⟩⟩⟩⟩⟩⟩⟩⟩⟩⟩⟩⟩⟩⟩⟩⟩⟩⟩⟩⟩⟩⟩⟩⟩⟩⟩⟩⟩⟩⟩⟩⟩⟩⟩⟩⟩⟩⟩⟩⟩⟩⟩⟩⟩⟩⟩⟩⟩⟩⟩⟩⟩⟩⟩⟩⟩⟩⟩⟩⟩⟩⟩⟩⟩⟩⟩⟩⟩⟩⟩⟩⟩⟩⟩⟩⟩⟩⟩⟩⟩⟩⟩⟩⟩⟩⟩⟩⟩⟩⟩⟩⟩⟩⟩⟩⟩⟩⟩⟩⟩⟩⟩⟩⟩⟩⟩⟩⟩⟩⟩⟩⟩⟩⟩⟩⟩⟩⟩⟩⟩⟩⟩⟩⟩⟩⟩⟩⟩⟩
def mm_site (e : Nat × Nat × Nat × Bool) : Prop := ∃ r, mm_rlk mm_recs e.2.2.1 = some r ∧ (e.2.2.2 = false → Cond.methodLink (mm_own e.1) e.2.1 r.1 ∈ mm_words) ∧ (e.2.2.2 = true → (mm_own e.1, e.2.1, r.1) ∈ mm_nestM)
def mm_sites : List (Nat × Nat × Nat × Bool) := [(1, 32, 206, false), (1, 36, 102, false), (1, 40, 502, false), (1, 54, 501, false), (1, 58, 104, false), (1, 62, 103, false), (1, 65, 901, false), (1, 71, 503, false), (1, 75, 212, false), (1, 79, 905, false), (1, 83, 907, false), (2, 28, 204, false), (2, 32, 201, false), (2, 36, 207, false), (2, 40, 208, false), (2, 44, 203, false), (2, 47, 904, false), (3, 33, 401, false), (3, 49, 314, false), (3, 52, 303, false), (3, 62, 311, false), (3, 67, 313, false), (3, 71, 304, false), (3, 76, 306, false), (3, 81, 307, false), (3, 84, 310, false), (3, 88, 305, false), (3, 91, 312, false), (3, 95, 405, false), (3, 101, 407, false), (3, 105, 406, false), (3, 108, 409, false), (3, 112, 309, false), (3, 116, 308, false), (3, 125, 204, false), (3, 153, 317, false), (3, 161, 318, false), (3, 164, 319, false), (3, 167, 315, false), (3, 170, 320, false), (3, 173, 316, false), (4, 37, 405, false), (4, 41, 403, false), (4, 45, 406, false), (6, 52, 901, false), (6, 55, 503, false), (6, 59, 212, false), (6, 65, 905, false), (6, 69, 907, false), (6, 72, 903, false), (6, 76, 604, false), (6, 79, 602, false), (6, 85, 605, false), (6, 88, 607, false), (7, 18, 1500, false), (7, 30, 1029, true), (7, 34, 703, false), (7, 38, 704, false), (7, 41, 705, false), (7, 45, 706, false), (7, 48, 707, false), (7, 51, 708, false), (7, 54, 710, false), (7, 59, 709, false), (8, 23, 206, false), (8, 37, 501, false), (8, 41, 502, false), (8, 54, 503, false), (8, 58, 504, false), (8, 67, 803, false), (9, 43, 908, false), (10, 86, 301, false), (10, 90, 302, false), (10, 95, 402, false), (10, 100, 202, false), (10, 103, 901, false), (10, 107, 403, false), (10, 111, 1029, false), (10, 118, 902, false), (10, 119, 1, false), (10, 123, 406, false), (10, 127, 409, false), (10, 134, 1033, false), (10, 139, 1034, false), (10, 142, 204, false), (10, 146, 203, false), (10, 159, 205, false), (10, 162, 1032, false), (10, 166, 2, false), (10, 175, 1035, false), (10, 178, 408, false), (10, 188, 1036, false), (10, 192, 404, false), (10, 195, 411, false), (10, 199, 208, false), (10, 202, 209, false), (10, 205, 101, false), (10, 216, 503, false), (10, 219, 105, false), (10, 231, 903, false), (10, 237, 1039, false), (10, 240, 1038, false), (10, 244, 601, false), (10, 248, 603, false), (10, 251, 605, false), (10, 254, 606, false), (10, 257, 106, false), (10, 261, 906, false), (10, 264, 909, false), (10, 268, 1031, false), (10, 271, 801, false), (10, 275, 802, false), (10, 295, 212, false), (10, 299, 907, false), (10, 302, 905, false), (10, 311, 908, false), (10, 317, 1037, false), (10, 320, 702, false), (10, 326, 1030, false), (10, 329, 201, false), (10, 334, 210, false), (10, 337, 1040, false), (10, 340, 211, false), (10, 343, 410, false), (10, 346, 412, false), (10, 350, 701, false), (11, 78, 1104, false), (11, 89, 1102, false), (11, 100, 1105, false), (11, 110, 1106, false), (11, 114, 1107, false), (11, 126, 1112, false), (11, 129, 1111, false), (11, 133, 1109, false), (11, 139, 1108, false), (11, 145, 1117, false), (11, 149, 1118, false), (11, 153, 1110, false), (11, 162, 1116, false), (11, 166, 1115, false), (11, 169, 1119, false), (11, 172, 1113, false), (11, 175, 1120, false), (11, 178, 1114, false), (11, 181, 1121, false), (11, 184, 1122, false), (11, 187, 1124, false), (11, 214, 1126, false), (11, 219, 1125, false), (11, 227, 1130, false), (11, 231, 1131, false), (11, 241, 1135, false), (11, 244, 1138, false), (11, 248, 1142, false), (11, 253, 1141, false), (11, 256, 1140, false), (11, 260, 1143, false), (11, 264, 1127, false), (11, 267, 1144, false), (11, 270, 1146, false), (11, 275, 1147, false), (11, 278, 1151, false), (11, 284, 1150, false), (11, 287, 1152, false), (11, 291, 1153, false), (11, 304, 1155, false), (11, 307, 1156, false), (11, 310, 1157, false), (11, 313, 1158, false), (11, 319, 1161, false), (11, 322, 1162, false), (11, 329, 1167, false), (11, 344, 1166, false), (11, 349, 1171, false), (11, 352, 1175, false), (11, 355, 1176, false), (11, 359, 1177, false), (11, 362, 1180, false)]
set_option maxRecDepth 100000 in
theorem mt_0 : mm_site (1, 32, 206, false) := ⟨mr_206, rfl, fun _ => mm_in3 (List.mem_of_getElem? (i := 183) (by decide +kernel)) (by decide +kernel), (by intro h; cases h)⟩
set_option maxRecDepth 100000 in
theorem mt_1 : mm_site (1, 36, 102, false) := ⟨mr_102, rfl, fun _ => mm_in3 (List.mem_of_getElem? (i := 190) (by decide +kernel)) (by decide +kernel), (by intro h; cases h)⟩
set_option maxRecDepth 100000 in
theorem mt_2 : mm_site (1, 40, 502, false) := ⟨mr_502, rfl, fun _ => mm_in3 (List.mem_of_getElem? (i := 202) (by decide +kernel)) (by decide +kernel), (by intro h; cases h)⟩
set_option maxRecDepth 100000 in
theorem mt_3 : mm_site (1, 54, 501, false) := ⟨mr_501, rfl, fun _ => mm_in3 (List.mem_of_getElem? (i := 193) (by decide +kernel)) (by decide +kernel), (by intro h; cases h)⟩
set_option maxRecDepth 100000 in
theorem mt_4 : mm_site (1, 58, 104, false) := ⟨mr_104, rfl, fun _ => mm_in3 (List.mem_of_getElem? (i := 196) (by decide +kernel)) (by decide +kernel), (by intro h; cases h)⟩
set_option maxRecDepth 100000 in
theorem mt_5 : mm_site (1, 62, 103, false) := ⟨mr_103, rfl, fun _ => mm_in3 (List.mem_of_getElem? (i := 199) (by decide +kernel)) (by decide +kernel), (by intro h; cases h)⟩
set_option maxRecDepth 100000 in
theorem mt_6 : mm_site (1, 65, 901, false) := ⟨mr_901, rfl, fun _ => mm_in3 (List.mem_of_getElem? (i := 218) (by decide +kernel)) (by decide +kernel), (by intro h; cases h)⟩
set_option maxRecDepth 100000 in
theorem mt_7 : mm_site (1, 71, 503, false) := ⟨mr_503, rfl, fun _ => mm_in3 (List.mem_of_getElem? (i := 219) (by decide +kernel)) (by decide +kernel), (by intro h; cases h)⟩
set_option maxRecDepth 100000 in
theorem mt_8 : mm_site (1, 75, 212, false) := ⟨mr_212, rfl, fun _ => mm_in3 (List.mem_of_getElem? (i := 220) (by decide +kernel)) (by decide +kernel), (by intro h; cases h)⟩
set_option maxRecDepth 100000 in
theorem mt_9 : mm_site (1, 79, 905, false) := ⟨mr_905, rfl, fun _ => mm_in3 (List.mem_of_getElem? (i := 232) (by decide +kernel)) (by decide +kernel), (by intro h; cases h)⟩
set_option maxRecDepth 100000 in
theorem mt_10 : mm_site (1, 83, 907, false) := ⟨mr_907, rfl, fun _ => mm_in3 (List.mem_of_getElem? (i := 236) (by decide +kernel)) (by decide +kernel), (by intro h; cases h)⟩
set_option maxRecDepth 100000 in
theorem mt_11 : mm_site (2, 28, 204, false) := ⟨mr_204, rfl, fun _ => mm_in3 (List.mem_of_getElem? (i := 48) (by decide +kernel)) (by decide +kernel), (by intro h; cases h)⟩
set_option maxRecDepth 100000 in
theorem mt_12 : mm_site (2, 32, 201, false) := ⟨mr_201, rfl, fun _ => mm_in3 (List.mem_of_getElem? (i := 187) (by decide +kernel)) (by decide +kernel), (by intro h; cases h)⟩
set_option maxRecDepth 100000 in
theorem mt_13 : mm_site (2, 36, 207, false) := ⟨mr_207, rfl, fun _ => mm_in3 (List.mem_of_getElem? (i := 167) (by decide +kernel)) (by decide +kernel), (by intro h; cases h)⟩
set_option maxRecDepth 100000 in
theorem mt_14 : mm_site (2, 40, 208, false) := ⟨mr_208, rfl, fun _ => mm_in4 (List.mem_of_getElem? (i := 213) (by decide +kernel)) (by decide +kernel), (by intro h; cases h)⟩
set_option maxRecDepth 100000 in
theorem mt_15 : mm_site (2, 44, 203, false) := ⟨mr_203, rfl, fun _ => mm_in3 (List.mem_of_getElem? (i := 224) (by decide +kernel)) (by decide +kernel), (by intro h; cases h)⟩
set_option maxRecDepth 100000 in
theorem mt_16 : mm_site (2, 47, 904, false) := ⟨mr_904, rfl, fun _ => mm_in3 (List.mem_of_getElem? (i := 225) (by decide +kernel)) (by decide +kernel), (by intro h; cases h)⟩
set_option maxRecDepth 100000 in
theorem mt_17 : mm_site (3, 33, 401, false) := ⟨mr_401, rfl, fun _ => mm_in2 (List.mem_of_getElem? (i := 119) (by decide +kernel)) (by decide +kernel), (by intro h; cases h)⟩
set_option maxRecDepth 100000 in
theorem mt_18 : mm_site (3, 49, 314, false) := ⟨mr_314, rfl, fun _ => mm_in2 (List.mem_of_getElem? (i := 126) (by decide +kernel)) (by decide +kernel), (by intro h; cases h)⟩
set_option maxRecDepth 100000 in
theorem mt_19 : mm_site (3, 52, 303, false) := ⟨mr_303, rfl, fun _ => mm_in2 (List.mem_of_getElem? (i := 151) (by decide +kernel)) (by decide +kernel), (by intro h; cases h)⟩
set_option maxRecDepth 100000 in
theorem mt_20 : mm_site (3, 62, 311, false) := ⟨mr_311, rfl, fun _ => mm_in3 (List.mem_of_getElem? (i := 33) (by decide +kernel)) (by decide +kernel), (by intro h; cases h)⟩
set_option maxRecDepth 100000 in
theorem mt_21 : mm_site (3, 67, 313, false) := ⟨mr_313, rfl, fun _ => mm_in2 (List.mem_of_getElem? (i := 156) (by decide +kernel)) (by decide +kernel), (by intro h; cases h)⟩
set_option maxRecDepth 100000 in
theorem mt_22 : mm_site (3, 71, 304, false) := ⟨mr_304, rfl, fun _ => mm_in2 (List.mem_of_getElem? (i := 208) (by decide +kernel)) (by decide +kernel), (by intro h; cases h)⟩
set_option maxRecDepth 100000 in
theorem mt_23 : mm_site (3, 76, 306, false) := ⟨mr_306, rfl, fun _ => mm_in2 (List.mem_of_getElem? (i := 234) (by decide +kernel)) (by decide +kernel), (by intro h; cases h)⟩
set_option maxRecDepth 100000 in
theorem mt_24 : mm_site (3, 81, 307, false) := ⟨mr_307, rfl, fun _ => mm_in3 (List.mem_of_getElem? (i := 8) (by decide +kernel)) (by decide +kernel), (by intro h; cases h)⟩
set_option maxRecDepth 100000 in
theorem mt_25 : mm_site (3, 84, 310, false) := ⟨mr_310, rfl, fun _ => mm_in2 (List.mem_of_getElem? (i := 212) (by decide +kernel)) (by decide +kernel), (by intro h; cases h)⟩
set_option maxRecDepth 100000 in
theorem mt_26 : mm_site (3, 88, 305, false) := ⟨mr_305, rfl, fun _ => mm_in2 (List.mem_of_getElem? (i := 216) (by decide +kernel)) (by decide +kernel), (by intro h; cases h)⟩
set_option maxRecDepth 100000 in
theorem mt_27 : mm_site (3, 91, 312, false) := ⟨mr_312, rfl, fun _ => mm_in2 (List.mem_of_getElem? (i := 220) (by decide +kernel)) (by decide +kernel), (by intro h; cases h)⟩
set_option maxRecDepth 100000 in
theorem mt_28 : mm_site (3, 95, 405, false) := ⟨mr_405, rfl, fun _ => mm_in2 (List.mem_of_getElem? (i := 224) (by decide +kernel)) (by decide +kernel), (by intro h; cases h)⟩
set_option maxRecDepth 100000 in
theorem mt_29 : mm_site (3, 101, 407, false) := ⟨mr_407, rfl, fun _ => mm_in2 (List.mem_of_getElem? (i := 228) (by decide +kernel)) (by decide +kernel), (by intro h; cases h)⟩
set_option maxRecDepth 100000 in
theorem mt_30 : mm_site (3, 105, 406, false) := ⟨mr_406, rfl, fun _ => mm_in2 (List.mem_of_getElem? (i := 238) (by decide +kernel)) (by decide +kernel), (by intro h; cases h)⟩
set_option maxRecDepth 100000 in
theorem mt_31 : mm_site (3, 108, 409, false) := ⟨mr_409, rfl, fun _ => mm_in3 (List.mem_of_getElem? (i := 2) (by decide +kernel)) (by decide +kernel), (by intro h; cases h)⟩
set_option maxRecDepth 100000 in
theorem mt_32 : mm_site (3, 112, 309, false) := ⟨mr_309, rfl, fun _ => mm_in3 (List.mem_of_getElem? (i := 12) (by decide +kernel)) (by decide +kernel), (by intro h; cases h)⟩
set_option maxRecDepth 100000 in
theorem mt_33 : mm_site (3, 116, 308, false) := ⟨mr_308, rfl, fun _ => mm_in3 (List.mem_of_getElem? (i := 24) (by decide +kernel)) (by decide +kernel), (by intro h; cases h)⟩
set_option maxRecDepth 100000 in
theorem mt_34 : mm_site (3, 125, 204, false) := ⟨mr_204, rfl, fun _ => mm_in3 (List.mem_of_getElem? (i := 29) (by decide +kernel)) (by decide +kernel), (by intro h; cases h)⟩
set_option maxRecDepth 100000 in
theorem mt_35 : mm_site (3, 153, 317, false) := ⟨mr_317, rfl, fun _ => mm_in2 (List.mem_of_getElem? (i := 130) (by decide +kernel)) (by decide +kernel), (by intro h; cases h)⟩
set_option maxRecDepth 100000 in
theorem mt_36 : mm_site (3, 161, 318, false) := ⟨mr_318, rfl, fun _ => mm_in2 (List.mem_of_getElem? (i := 134) (by decide +kernel)) (by decide +kernel), (by intro h; cases h)⟩
set_option maxRecDepth 100000 in
theorem mt_37 : mm_site (3, 164, 319, false) := ⟨mr_319, rfl, fun _ => mm_in2 (List.mem_of_getElem? (i := 137) (by decide +kernel)) (by decide +kernel), (by intro h; cases h)⟩
set_option maxRecDepth 100000 in
theorem mt_38 : mm_site (3, 167, 315, false) := ⟨mr_315, rfl, fun _ => mm_in2 (List.mem_of_getElem? (i := 140) (by decide +kernel)) (by decide +kernel), (by intro h; cases h)⟩
set_option maxRecDepth 100000 in
theorem mt_39 : mm_site (3, 170, 320, false) := ⟨mr_320, rfl, fun _ => mm_in2 (List.mem_of_getElem? (i := 144) (by decide +kernel)) (by decide +kernel), (by intro h; cases h)⟩
set_option maxRecDepth 100000 in
theorem mt_40 : mm_site (3, 173, 316, false) := ⟨mr_316, rfl, fun _ => mm_in2 (List.mem_of_getElem? (i := 147) (by decide +kernel)) (by decide +kernel), (by intro h; cases h)⟩
set_option maxRecDepth 100000 in
theorem mt_41 : mm_site (4, 37, 405, false) := ⟨mr_405, rfl, fun _ => mm_in2 (List.mem_of_getElem? (i := 232) (by decide +kernel)) (by decide +kernel), (by intro h; cases h)⟩
set_option maxRecDepth 100000 in
theorem mt_42 : mm_site (4, 41, 403, false) := ⟨mr_403, rfl, fun _ => mm_in3 (List.mem_of_getElem? (i := 149) (by decide +kernel)) (by decide +kernel), (by intro h; cases h)⟩
set_option maxRecDepth 100000 in
theorem mt_43 : mm_site (4, 45, 406, false) := ⟨mr_406, rfl, fun _ => mm_in3 (List.mem_of_getElem? (i := 6) (by decide +kernel)) (by decide +kernel), (by intro h; cases h)⟩
set_option maxRecDepth 100000 in
theorem mt_44 : mm_site (6, 52, 901, false) := ⟨mr_901, rfl, fun _ => mm_in4 (List.mem_of_getElem? (i := 28) (by decide +kernel)) (by decide +kernel), (by intro h; cases h)⟩
set_option maxRecDepth 100000 in
theorem mt_45 : mm_site (6, 55, 503, false) := ⟨mr_503, rfl, fun _ => mm_in4 (List.mem_of_getElem? (i := 29) (by decide +kernel)) (by decide +kernel), (by intro h; cases h)⟩
set_option maxRecDepth 100000 in
theorem mt_46 : mm_site (6, 59, 212, false) := ⟨mr_212, rfl, fun _ => mm_in4 (List.mem_of_getElem? (i := 30) (by decide +kernel)) (by decide +kernel), (by intro h; cases h)⟩
set_option maxRecDepth 100000 in
theorem mt_47 : mm_site (6, 65, 905, false) := ⟨mr_905, rfl, fun _ => mm_in4 (List.mem_of_getElem? (i := 31) (by decide +kernel)) (by decide +kernel), (by intro h; cases h)⟩
set_option maxRecDepth 100000 in
theorem mt_48 : mm_site (6, 69, 907, false) := ⟨mr_907, rfl, fun _ => mm_in4 (List.mem_of_getElem? (i := 32) (by decide +kernel)) (by decide +kernel), (by intro h; cases h)⟩
set_option maxRecDepth 100000 in
theorem mt_49 : mm_site (6, 72, 903, false) := ⟨mr_903, rfl, fun _ => mm_in4 (List.mem_of_getElem? (i := 33) (by decide +kernel)) (by decide +kernel), (by intro h; cases h)⟩
set_option maxRecDepth 100000 in
theorem mt_50 : mm_site (6, 76, 604, false) := ⟨mr_604, rfl, fun _ => mm_in4 (List.mem_of_getElem? (i := 39) (by decide +kernel)) (by decide +kernel), (by intro h; cases h)⟩
set_option maxRecDepth 100000 in
theorem mt_51 : mm_site (6, 79, 602, false) := ⟨mr_602, rfl, fun _ => mm_in4 (List.mem_of_getElem? (i := 43) (by decide +kernel)) (by decide +kernel), (by intro h; cases h)⟩
set_option maxRecDepth 100000 in
theorem mt_52 : mm_site (6, 85, 605, false) := ⟨mr_605, rfl, fun _ => mm_in4 (List.mem_of_getElem? (i := 56) (by decide +kernel)) (by decide +kernel), (by intro h; cases h)⟩
set_option maxRecDepth 100000 in
theorem mt_53 : mm_site (6, 88, 607, false) := ⟨mr_607, rfl, fun _ => mm_in4 (List.mem_of_getElem? (i := 57) (by decide +kernel)) (by decide +kernel), (by intro h; cases h)⟩
set_option maxRecDepth 100000 in
theorem mt_54 : mm_site (7, 18, 1500, false) := ⟨mr_1500, rfl, fun _ => mm_in4 (List.mem_of_getElem? (i := 144) (by decide +kernel)) (by decide +kernel), (by intro h; cases h)⟩
set_option maxRecDepth 100000 in
theorem mt_55 : mm_site (7, 30, 1029, true) := ⟨mr_1029, rfl, (by intro h; cases h), fun _ => List.mem_of_getElem? (i := 0) (by decide +kernel)⟩
set_option maxRecDepth 100000 in
theorem mt_56 : mm_site (7, 34, 703, false) := ⟨mr_703, rfl, fun _ => mm_in4 (List.mem_of_getElem? (i := 153) (by decide +kernel)) (by decide +kernel), (by intro h; cases h)⟩
set_option maxRecDepth 100000 in
theorem mt_57 : mm_site (7, 38, 704, false) := ⟨mr_704, rfl, fun _ => mm_in4 (List.mem_of_getElem? (i := 157) (by decide +kernel)) (by decide +kernel), (by intro h; cases h)⟩
set_option maxRecDepth 100000 in
theorem mt_58 : mm_site (7, 41, 705, false) := ⟨mr_705, rfl, fun _ => mm_in4 (List.mem_of_getElem? (i := 161) (by decide +kernel)) (by decide +kernel), (by intro h; cases h)⟩
set_option maxRecDepth 100000 in
theorem mt_59 : mm_site (7, 45, 706, false) := ⟨mr_706, rfl, fun _ => mm_in4 (List.mem_of_getElem? (i := 165) (by decide +kernel)) (by decide +kernel), (by intro h; cases h)⟩
set_option maxRecDepth 100000 in
theorem mt_60 : mm_site (7, 48, 707, false) := ⟨mr_707, rfl, fun _ => mm_in4 (List.mem_of_getElem? (i := 169) (by decide +kernel)) (by decide +kernel), (by intro h; cases h)⟩
set_option maxRecDepth 100000 in
theorem mt_61 : mm_site (7, 51, 708, false) := ⟨mr_708, rfl, fun _ => mm_in4 (List.mem_of_getElem? (i := 173) (by decide +kernel)) (by decide +kernel), (by intro h; cases h)⟩
set_option maxRecDepth 100000 in
theorem mt_62 : mm_site (7, 54, 710, false) := ⟨mr_710, rfl, fun _ => mm_in4 (List.mem_of_getElem? (i := 182) (by decide +kernel)) (by decide +kernel), (by intro h; cases h)⟩
set_option maxRecDepth 100000 in
theorem mt_63 : mm_site (7, 59, 709, false) := ⟨mr_709, rfl, fun _ => mm_in4 (List.mem_of_getElem? (i := 178) (by decide +kernel)) (by decide +kernel), (by intro h; cases h)⟩
set_option maxRecDepth 100000 in
theorem mt_64 : mm_site (8, 23, 206, false) := ⟨mr_206, rfl, fun _ => mm_in4 (List.mem_of_getElem? (i := 94) (by decide +kernel)) (by decide +kernel), (by intro h; cases h)⟩
set_option maxRecDepth 100000 in
theorem mt_65 : mm_site (8, 37, 501, false) := ⟨mr_501, rfl, fun _ => mm_in4 (List.mem_of_getElem? (i := 95) (by decide +kernel)) (by decide +kernel), (by intro h; cases h)⟩
set_option maxRecDepth 100000 in
theorem mt_66 : mm_site (8, 41, 502, false) := ⟨mr_502, rfl, fun _ => mm_in4 (List.mem_of_getElem? (i := 96) (by decide +kernel)) (by decide +kernel), (by intro h; cases h)⟩
set_option maxRecDepth 100000 in
theorem mt_67 : mm_site (8, 54, 503, false) := ⟨mr_503, rfl, fun _ => mm_in4 (List.mem_of_getElem? (i := 105) (by decide +kernel)) (by decide +kernel), (by intro h; cases h)⟩
set_option maxRecDepth 100000 in
theorem mt_68 : mm_site (8, 58, 504, false) := ⟨mr_504, rfl, fun _ => mm_in4 (List.mem_of_getElem? (i := 106) (by decide +kernel)) (by decide +kernel), (by intro h; cases h)⟩
set_option maxRecDepth 100000 in
theorem mt_69 : mm_site (8, 67, 803, false) := ⟨mr_803, rfl, fun _ => mm_in4 (List.mem_of_getElem? (i := 111) (by decide +kernel)) (by decide +kernel), (by intro h; cases h)⟩
set_option maxRecDepth 100000 in
theorem mt_70 : mm_site (9, 43, 908, false) := ⟨mr_908, rfl, fun _ => mm_in4 (List.mem_of_getElem? (i := 1) (by decide +kernel)) (by decide +kernel), (by intro h; cases h)⟩
set_option maxRecDepth 100000 in
theorem mt_71 : mm_site (10, 86, 301, false) := ⟨mr_301, rfl, fun _ => mm_in2 (List.mem_of_getElem? (i := 107) (by decide +kernel)) (by decide +kernel), (by intro h; cases h)⟩
set_option maxRecDepth 100000 in
theorem mt_72 : mm_site (10, 90, 302, false) := ⟨mr_302, rfl, fun _ => mm_in2 (List.mem_of_getElem? (i := 115) (by decide +kernel)) (by decide +kernel), (by intro h; cases h)⟩
set_option maxRecDepth 100000 in
theorem mt_73 : mm_site (10, 95, 402, false) := ⟨mr_402, rfl, fun _ => mm_in3 (List.mem_of_getElem? (i := 37) (by decide +kernel)) (by decide +kernel), (by intro h; cases h)⟩
set_option maxRecDepth 100000 in
theorem mt_74 : mm_site (10, 100, 202, false) := ⟨mr_202, rfl, fun _ => mm_in3 (List.mem_of_getElem? (i := 44) (by decide +kernel)) (by decide +kernel), (by intro h; cases h)⟩
set_option maxRecDepth 100000 in
theorem mt_75 : mm_site (10, 103, 901, false) := ⟨mr_901, rfl, fun _ => mm_in3 (List.mem_of_getElem? (i := 49) (by decide +kernel)) (by decide +kernel), (by intro h; cases h)⟩
set_option maxRecDepth 100000 in
theorem mt_76 : mm_site (10, 107, 403, false) := ⟨mr_403, rfl, fun _ => mm_in3 (List.mem_of_getElem? (i := 57) (by decide +kernel)) (by decide +kernel), (by intro h; cases h)⟩
set_option maxRecDepth 100000 in
theorem mt_77 : mm_site (10, 111, 1029, false) := ⟨mr_1029, rfl, fun _ => mm_in3 (List.mem_of_getElem? (i := 61) (by decide +kernel)) (by decide +kernel), (by intro h; cases h)⟩
set_option maxRecDepth 100000 in
theorem mt_78 : mm_site (10, 118, 902, false) := ⟨mr_902, rfl, fun _ => mm_in3 (List.mem_of_getElem? (i := 64) (by decide +kernel)) (by decide +kernel), (by intro h; cases h)⟩
set_option maxRecDepth 100000 in
theorem mt_79 : mm_site (10, 119, 1, false) := ⟨mr_1, rfl, fun _ => mm_in3 (List.mem_of_getElem? (i := 68) (by decide +kernel)) (by decide +kernel), (by intro h; cases h)⟩
set_option maxRecDepth 100000 in
theorem mt_80 : mm_site (10, 123, 406, false) := ⟨mr_406, rfl, fun _ => mm_in3 (List.mem_of_getElem? (i := 77) (by decide +kernel)) (by decide +kernel), (by intro h; cases h)⟩
set_option maxRecDepth 100000 in
theorem mt_81 : mm_site (10, 127, 409, false) := ⟨mr_409, rfl, fun _ => mm_in3 (List.mem_of_getElem? (i := 78) (by decide +kernel)) (by decide +kernel), (by intro h; cases h)⟩
set_option maxRecDepth 100000 in
theorem mt_82 : mm_site (10, 134, 1033, false) := ⟨mr_1033, rfl, fun _ => mm_in3 (List.mem_of_getElem? (i := 83) (by decide +kernel)) (by decide +kernel), (by intro h; cases h)⟩
set_option maxRecDepth 100000 in
theorem mt_83 : mm_site (10, 139, 1034, false) := ⟨mr_1034, rfl, fun _ => mm_in3 (List.mem_of_getElem? (i := 94) (by decide +kernel)) (by decide +kernel), (by intro h; cases h)⟩
set_option maxRecDepth 100000 in
theorem mt_84 : mm_site (10, 142, 204, false) := ⟨mr_204, rfl, fun _ => mm_in3 (List.mem_of_getElem? (i := 98) (by decide +kernel)) (by decide +kernel), (by intro h; cases h)⟩
set_option maxRecDepth 100000 in
theorem mt_85 : mm_site (10, 146, 203, false) := ⟨mr_203, rfl, fun _ => mm_in3 (List.mem_of_getElem? (i := 103) (by decide +kernel)) (by decide +kernel), (by intro h; cases h)⟩
set_option maxRecDepth 100000 in
theorem mt_86 : mm_site (10, 159, 205, false) := ⟨mr_205, rfl, fun _ => mm_in3 (List.mem_of_getElem? (i := 107) (by decide +kernel)) (by decide +kernel), (by intro h; cases h)⟩
set_option maxRecDepth 100000 in
theorem mt_87 : mm_site (10, 162, 1032, false) := ⟨mr_1032, rfl, fun _ => mm_in3 (List.mem_of_getElem? (i := 119) (by decide +kernel)) (by decide +kernel), (by intro h; cases h)⟩
set_option maxRecDepth 100000 in
theorem mt_88 : mm_site (10, 166, 2, false) := ⟨mr_2, rfl, fun _ => mm_in3 (List.mem_of_getElem? (i := 129) (by decide +kernel)) (by decide +kernel), (by intro h; cases h)⟩
set_option maxRecDepth 100000 in
theorem mt_89 : mm_site (10, 175, 1035, false) := ⟨mr_1035, rfl, fun _ => mm_in3 (List.mem_of_getElem? (i := 133) (by decide +kernel)) (by decide +kernel), (by intro h; cases h)⟩
set_option maxRecDepth 100000 in
theorem mt_90 : mm_site (10, 178, 408, false) := ⟨mr_408, rfl, fun _ => mm_in3 (List.mem_of_getElem? (i := 145) (by decide +kernel)) (by decide +kernel), (by intro h; cases h)⟩
set_option maxRecDepth 100000 in
theorem mt_91 : mm_site (10, 188, 1036, false) := ⟨mr_1036, rfl, fun _ => mm_in4 (List.mem_of_getElem? (i := 201) (by decide +kernel)) (by decide +kernel), (by intro h; cases h)⟩
set_option maxRecDepth 100000 in
theorem mt_92 : mm_site (10, 192, 404, false) := ⟨mr_404, rfl, fun _ => mm_in3 (List.mem_of_getElem? (i := 90) (by decide +kernel)) (by decide +kernel), (by intro h; cases h)⟩
set_option maxRecDepth 100000 in
theorem mt_93 : mm_site (10, 195, 411, false) := ⟨mr_411, rfl, fun _ => mm_in3 (List.mem_of_getElem? (i := 154) (by decide +kernel)) (by decide +kernel), (by intro h; cases h)⟩
set_option maxRecDepth 100000 in
theorem mt_94 : mm_site (10, 199, 208, false) := ⟨mr_208, rfl, fun _ => mm_in3 (List.mem_of_getElem? (i := 163) (by decide +kernel)) (by decide +kernel), (by intro h; cases h)⟩
set_option maxRecDepth 100000 in
theorem mt_95 : mm_site (10, 202, 209, false) := ⟨mr_209, rfl, fun _ => mm_in3 (List.mem_of_getElem? (i := 171) (by decide +kernel)) (by decide +kernel), (by intro h; cases h)⟩
set_option maxRecDepth 100000 in
theorem mt_96 : mm_site (10, 205, 101, false) := ⟨mr_101, rfl, fun _ => mm_in3 (List.mem_of_getElem? (i := 179) (by decide +kernel)) (by decide +kernel), (by intro h; cases h)⟩
set_option maxRecDepth 100000 in
theorem mt_97 : mm_site (10, 216, 503, false) := ⟨mr_503, rfl, fun _ => mm_in3 (List.mem_of_getElem? (i := 206) (by decide +kernel)) (by decide +kernel), (by intro h; cases h)⟩
set_option maxRecDepth 100000 in
theorem mt_98 : mm_site (10, 219, 105, false) := ⟨mr_105, rfl, fun _ => mm_in3 (List.mem_of_getElem? (i := 214) (by decide +kernel)) (by decide +kernel), (by intro h; cases h)⟩
set_option maxRecDepth 100000 in
theorem mt_99 : mm_site (10, 231, 903, false) := ⟨mr_903, rfl, fun _ => mm_in4 (List.mem_of_getElem? (i := 3) (by decide +kernel)) (by decide +kernel), (by intro h; cases h)⟩
set_option maxRecDepth 100000 in
theorem mt_100 : mm_site (10, 237, 1039, false) := ⟨mr_1039, rfl, fun _ => mm_in4 (List.mem_of_getElem? (i := 7) (by decide +kernel)) (by decide +kernel), (by intro h; cases h)⟩
set_option maxRecDepth 100000 in
theorem mt_101 : mm_site (10, 240, 1038, false) := ⟨mr_1038, rfl, fun _ => mm_in4 (List.mem_of_getElem? (i := 15) (by decide +kernel)) (by decide +kernel), (by intro h; cases h)⟩
set_option maxRecDepth 100000 in
theorem mt_102 : mm_site (10, 244, 601, false) := ⟨mr_601, rfl, fun _ => mm_in4 (List.mem_of_getElem? (i := 23) (by decide +kernel)) (by decide +kernel), (by intro h; cases h)⟩
set_option maxRecDepth 100000 in
theorem mt_103 : mm_site (10, 248, 603, false) := ⟨mr_603, rfl, fun _ => mm_in4 (List.mem_of_getElem? (i := 34) (by decide +kernel)) (by decide +kernel), (by intro h; cases h)⟩
set_option maxRecDepth 100000 in
theorem mt_104 : mm_site (10, 251, 605, false) := ⟨mr_605, rfl, fun _ => mm_in4 (List.mem_of_getElem? (i := 48) (by decide +kernel)) (by decide +kernel), (by intro h; cases h)⟩
set_option maxRecDepth 100000 in
theorem mt_105 : mm_site (10, 254, 606, false) := ⟨mr_606, rfl, fun _ => mm_in4 (List.mem_of_getElem? (i := 52) (by decide +kernel)) (by decide +kernel), (by intro h; cases h)⟩
set_option maxRecDepth 100000 in
theorem mt_106 : mm_site (10, 257, 106, false) := ⟨mr_106, rfl, fun _ => mm_in4 (List.mem_of_getElem? (i := 65) (by decide +kernel)) (by decide +kernel), (by intro h; cases h)⟩
set_option maxRecDepth 100000 in
theorem mt_107 : mm_site (10, 261, 906, false) := ⟨mr_906, rfl, fun _ => mm_in4 (List.mem_of_getElem? (i := 69) (by decide +kernel)) (by decide +kernel), (by intro h; cases h)⟩
set_option maxRecDepth 100000 in
theorem mt_108 : mm_site (10, 264, 909, false) := ⟨mr_909, rfl, fun _ => mm_in4 (List.mem_of_getElem? (i := 73) (by decide +kernel)) (by decide +kernel), (by intro h; cases h)⟩
set_option maxRecDepth 100000 in
theorem mt_109 : mm_site (10, 268, 1031, false) := ⟨mr_1031, rfl, fun _ => mm_in3 (List.mem_of_getElem? (i := 122) (by decide +kernel)) (by decide +kernel), (by intro h; cases h)⟩
set_option maxRecDepth 100000 in
theorem mt_110 : mm_site (10, 271, 801, false) := ⟨mr_801, rfl, fun _ => mm_in4 (List.mem_of_getElem? (i := 90) (by decide +kernel)) (by decide +kernel), (by intro h; cases h)⟩
set_option maxRecDepth 100000 in
theorem mt_111 : mm_site (10, 275, 802, false) := ⟨mr_802, rfl, fun _ => mm_in4 (List.mem_of_getElem? (i := 101) (by decide +kernel)) (by decide +kernel), (by intro h; cases h)⟩
set_option maxRecDepth 100000 in
theorem mt_112 : mm_site (10, 295, 212, false) := ⟨mr_212, rfl, fun _ => mm_in4 (List.mem_of_getElem? (i := 121) (by decide +kernel)) (by decide +kernel), (by intro h; cases h)⟩
set_option maxRecDepth 100000 in
theorem mt_113 : mm_site (10, 299, 907, false) := ⟨mr_907, rfl, fun _ => mm_in4 (List.mem_of_getElem? (i := 122) (by decide +kernel)) (by decide +kernel), (by intro h; cases h)⟩
set_option maxRecDepth 100000 in
theorem mt_114 : mm_site (10, 302, 905, false) := ⟨mr_905, rfl, fun _ => mm_in4 (List.mem_of_getElem? (i := 123) (by decide +kernel)) (by decide +kernel), (by intro h; cases h)⟩
set_option maxRecDepth 100000 in
theorem mt_115 : mm_site (10, 311, 908, false) := ⟨mr_908, rfl, fun _ => mm_in3 (List.mem_of_getElem? (i := 137) (by decide +kernel)) (by decide +kernel), (by intro h; cases h)⟩
set_option maxRecDepth 100000 in
theorem mt_116 : mm_site (10, 317, 1037, false) := ⟨mr_1037, rfl, fun _ => mm_in4 (List.mem_of_getElem? (i := 132) (by decide +kernel)) (by decide +kernel), (by intro h; cases h)⟩
set_option maxRecDepth 100000 in
theorem mt_117 : mm_site (10, 320, 702, false) := ⟨mr_702, rfl, fun _ => mm_in4 (List.mem_of_getElem? (i := 149) (by decide +kernel)) (by decide +kernel), (by intro h; cases h)⟩
set_option maxRecDepth 100000 in
theorem mt_118 : mm_site (10, 326, 1030, false) := ⟨mr_1030, rfl, fun _ => mm_in3 (List.mem_of_getElem? (i := 87) (by decide +kernel)) (by decide +kernel), (by intro h; cases h)⟩
set_option maxRecDepth 100000 in
theorem mt_119 : mm_site (10, 329, 201, false) := ⟨mr_201, rfl, fun _ => mm_in4 (List.mem_of_getElem? (i := 195) (by decide +kernel)) (by decide +kernel), (by intro h; cases h)⟩
set_option maxRecDepth 100000 in
theorem mt_120 : mm_site (10, 334, 210, false) := ⟨mr_210, rfl, fun _ => mm_in4 (List.mem_of_getElem? (i := 209) (by decide +kernel)) (by decide +kernel), (by intro h; cases h)⟩
set_option maxRecDepth 100000 in
theorem mt_121 : mm_site (10, 337, 1040, false) := ⟨mr_1040, rfl, fun _ => mm_in4 (List.mem_of_getElem? (i := 214) (by decide +kernel)) (by decide +kernel), (by intro h; cases h)⟩
set_option maxRecDepth 100000 in
theorem mt_122 : mm_site (10, 340, 211, false) := ⟨mr_211, rfl, fun _ => mm_in4 (List.mem_of_getElem? (i := 218) (by decide +kernel)) (by decide +kernel), (by intro h; cases h)⟩
set_option maxRecDepth 100000 in
theorem mt_123 : mm_site (10, 343, 410, false) := ⟨mr_410, rfl, fun _ => mm_in3 (List.mem_of_getElem? (i := 141) (by decide +kernel)) (by decide +kernel), (by intro h; cases h)⟩
set_option maxRecDepth 100000 in
theorem mt_124 : mm_site (10, 346, 412, false) := ⟨mr_412, rfl, fun _ => mm_in4 (List.mem_of_getElem? (i := 136) (by decide +kernel)) (by decide +kernel), (by intro h; cases h)⟩
set_option maxRecDepth 100000 in
theorem mt_125 : mm_site (10, 350, 701, false) := ⟨mr_701, rfl, fun _ => mm_in4 (List.mem_of_getElem? (i := 140) (by decide +kernel)) (by decide +kernel), (by intro h; cases h)⟩
set_option maxRecDepth 100000 in
theorem mt_126 : mm_site (11, 78, 1104, false) := ⟨mr_1104, rfl, fun _ => mm_in5 (List.mem_of_getElem? (i := 220) (by decide +kernel)) (by decide +kernel), (by intro h; cases h)⟩
set_option maxRecDepth 100000 in
theorem mt_127 : mm_site (11, 89, 1102, false) := ⟨mr_1102, rfl, fun _ => mm_in5 (List.mem_of_getElem? (i := 228) (by decide +kernel)) (by decide +kernel), (by intro h; cases h)⟩
set_option maxRecDepth 100000 in
theorem mt_128 : mm_site (11, 100, 1105, false) := ⟨mr_1105, rfl, fun _ => mm_in5 (List.mem_of_getElem? (i := 235) (by decide +kernel)) (by decide +kernel), (by intro h; cases h)⟩
set_option maxRecDepth 100000 in
theorem mt_129 : mm_site (11, 110, 1106, false) := ⟨mr_1106, rfl, fun _ => mm_in5 (List.mem_of_getElem? (i := 239) (by decide +kernel)) (by decide +kernel), (by intro h; cases h)⟩
set_option maxRecDepth 100000 in
theorem mt_130 : mm_site (11, 114, 1107, false) := ⟨mr_1107, rfl, fun _ => mm_in6 (List.mem_of_getElem? (i := 4) (by decide +kernel)) (by decide +kernel), (by intro h; cases h)⟩
set_option maxRecDepth 100000 in
theorem mt_131 : mm_site (11, 126, 1112, false) := ⟨mr_1112, rfl, fun _ => mm_in6 (List.mem_of_getElem? (i := 21) (by decide +kernel)) (by decide +kernel), (by intro h; cases h)⟩
set_option maxRecDepth 100000 in
theorem mt_132 : mm_site (11, 129, 1111, false) := ⟨mr_1111, rfl, fun _ => mm_in6 (List.mem_of_getElem? (i := 17) (by decide +kernel)) (by decide +kernel), (by intro h; cases h)⟩
set_option maxRecDepth 100000 in
theorem mt_133 : mm_site (11, 133, 1109, false) := ⟨mr_1109, rfl, fun _ => mm_in6 (List.mem_of_getElem? (i := 29) (by decide +kernel)) (by decide +kernel), (by intro h; cases h)⟩
set_option maxRecDepth 100000 in
theorem mt_134 : mm_site (11, 139, 1108, false) := ⟨mr_1108, rfl, fun _ => mm_in5 (List.mem_of_getElem? (i := 231) (by decide +kernel)) (by decide +kernel), (by intro h; cases h)⟩
set_option maxRecDepth 100000 in
theorem mt_135 : mm_site (11, 145, 1117, false) := ⟨mr_1117, rfl, fun _ => mm_in6 (List.mem_of_getElem? (i := 37) (by decide +kernel)) (by decide +kernel), (by intro h; cases h)⟩
set_option maxRecDepth 100000 in
theorem mt_136 : mm_site (11, 149, 1118, false) := ⟨mr_1118, rfl, fun _ => mm_in6 (List.mem_of_getElem? (i := 33) (by decide +kernel)) (by decide +kernel), (by intro h; cases h)⟩
set_option maxRecDepth 100000 in
theorem mt_137 : mm_site (11, 153, 1110, false) := ⟨mr_1110, rfl, fun _ => mm_in6 (List.mem_of_getElem? (i := 41) (by decide +kernel)) (by decide +kernel), (by intro h; cases h)⟩
set_option maxRecDepth 100000 in
theorem mt_138 : mm_site (11, 162, 1116, false) := ⟨mr_1116, rfl, fun _ => mm_in6 (List.mem_of_getElem? (i := 61) (by decide +kernel)) (by decide +kernel), (by intro h; cases h)⟩
set_option maxRecDepth 100000 in
theorem mt_139 : mm_site (11, 166, 1115, false) := ⟨mr_1115, rfl, fun _ => mm_in6 (List.mem_of_getElem? (i := 13) (by decide +kernel)) (by decide +kernel), (by intro h; cases h)⟩
set_option maxRecDepth 100000 in
theorem mt_140 : mm_site (11, 169, 1119, false) := ⟨mr_1119, rfl, fun _ => mm_in6 (List.mem_of_getElem? (i := 25) (by decide +kernel)) (by decide +kernel), (by intro h; cases h)⟩
set_option maxRecDepth 100000 in
theorem mt_141 : mm_site (11, 172, 1113, false) := ⟨mr_1113, rfl, fun _ => mm_in6 (List.mem_of_getElem? (i := 45) (by decide +kernel)) (by decide +kernel), (by intro h; cases h)⟩
set_option maxRecDepth 100000 in
theorem mt_142 : mm_site (11, 175, 1120, false) := ⟨mr_1120, rfl, fun _ => mm_in6 (List.mem_of_getElem? (i := 49) (by decide +kernel)) (by decide +kernel), (by intro h; cases h)⟩
set_option maxRecDepth 100000 in
theorem mt_143 : mm_site (11, 178, 1114, false) := ⟨mr_1114, rfl, fun _ => mm_in6 (List.mem_of_getElem? (i := 53) (by decide +kernel)) (by decide +kernel), (by intro h; cases h)⟩
set_option maxRecDepth 100000 in
theorem mt_144 : mm_site (11, 181, 1121, false) := ⟨mr_1121, rfl, fun _ => mm_in6 (List.mem_of_getElem? (i := 57) (by decide +kernel)) (by decide +kernel), (by intro h; cases h)⟩
set_option maxRecDepth 100000 in
theorem mt_145 : mm_site (11, 184, 1122, false) := ⟨mr_1122, rfl, fun _ => mm_in6 (List.mem_of_getElem? (i := 9) (by decide +kernel)) (by decide +kernel), (by intro h; cases h)⟩
set_option maxRecDepth 100000 in
theorem mt_146 : mm_site (11, 187, 1124, false) := ⟨mr_1124, rfl, fun _ => mm_in6 (List.mem_of_getElem? (i := 65) (by decide +kernel)) (by decide +kernel), (by intro h; cases h)⟩
set_option maxRecDepth 100000 in
theorem mt_147 : mm_site (11, 214, 1126, false) := ⟨mr_1126, rfl, fun _ => mm_in6 (List.mem_of_getElem? (i := 73) (by decide +kernel)) (by decide +kernel), (by intro h; cases h)⟩
set_option maxRecDepth 100000 in
theorem mt_148 : mm_site (11, 219, 1125, false) := ⟨mr_1125, rfl, fun _ => mm_in6 (List.mem_of_getElem? (i := 78) (by decide +kernel)) (by decide +kernel), (by intro h; cases h)⟩
set_option maxRecDepth 100000 in
theorem mt_149 : mm_site (11, 227, 1130, false) := ⟨mr_1130, rfl, fun _ => mm_in6 (List.mem_of_getElem? (i := 90) (by decide +kernel)) (by decide +kernel), (by intro h; cases h)⟩
set_option maxRecDepth 100000 in
theorem mt_150 : mm_site (11, 231, 1131, false) := ⟨mr_1131, rfl, fun _ => mm_in6 (List.mem_of_getElem? (i := 96) (by decide +kernel)) (by decide +kernel), (by intro h; cases h)⟩
set_option maxRecDepth 100000 in
theorem mt_151 : mm_site (11, 241, 1135, false) := ⟨mr_1135, rfl, fun _ => mm_in6 (List.mem_of_getElem? (i := 113) (by decide +kernel)) (by decide +kernel), (by intro h; cases h)⟩
set_option maxRecDepth 100000 in
theorem mt_152 : mm_site (11, 244, 1138, false) := ⟨mr_1138, rfl, fun _ => mm_in6 (List.mem_of_getElem? (i := 126) (by decide +kernel)) (by decide +kernel), (by intro h; cases h)⟩
set_option maxRecDepth 100000 in
theorem mt_153 : mm_site (11, 248, 1142, false) := ⟨mr_1142, rfl, fun _ => mm_in6 (List.mem_of_getElem? (i := 150) (by decide +kernel)) (by decide +kernel), (by intro h; cases h)⟩
set_option maxRecDepth 100000 in
theorem mt_154 : mm_site (11, 253, 1141, false) := ⟨mr_1141, rfl, fun _ => mm_in6 (List.mem_of_getElem? (i := 155) (by decide +kernel)) (by decide +kernel), (by intro h; cases h)⟩
set_option maxRecDepth 100000 in
theorem mt_155 : mm_site (11, 256, 1140, false) := ⟨mr_1140, rfl, fun _ => mm_in6 (List.mem_of_getElem? (i := 142) (by decide +kernel)) (by decide +kernel), (by intro h; cases h)⟩
set_option maxRecDepth 100000 in
theorem mt_156 : mm_site (11, 260, 1143, false) := ⟨mr_1143, rfl, fun _ => mm_in6 (List.mem_of_getElem? (i := 146) (by decide +kernel)) (by decide +kernel), (by intro h; cases h)⟩
set_option maxRecDepth 100000 in
theorem mt_157 : mm_site (11, 264, 1127, false) := ⟨mr_1127, rfl, fun _ => mm_in6 (List.mem_of_getElem? (i := 134) (by decide +kernel)) (by decide +kernel), (by intro h; cases h)⟩
set_option maxRecDepth 100000 in
theorem mt_158 : mm_site (11, 267, 1144, false) := ⟨mr_1144, rfl, fun _ => mm_in6 (List.mem_of_getElem? (i := 138) (by decide +kernel)) (by decide +kernel), (by intro h; cases h)⟩
set_option maxRecDepth 100000 in
theorem mt_159 : mm_site (11, 270, 1146, false) := ⟨mr_1146, rfl, fun _ => mm_in6 (List.mem_of_getElem? (i := 168) (by decide +kernel)) (by decide +kernel), (by intro h; cases h)⟩
set_option maxRecDepth 100000 in
theorem mt_160 : mm_site (11, 275, 1147, false) := ⟨mr_1147, rfl, fun _ => mm_in6 (List.mem_of_getElem? (i := 164) (by decide +kernel)) (by decide +kernel), (by intro h; cases h)⟩
set_option maxRecDepth 100000 in
theorem mt_161 : mm_site (11, 278, 1151, false) := ⟨mr_1151, rfl, fun _ => mm_in6 (List.mem_of_getElem? (i := 191) (by decide +kernel)) (by decide +kernel), (by intro h; cases h)⟩
set_option maxRecDepth 100000 in
theorem mt_162 : mm_site (11, 284, 1150, false) := ⟨mr_1150, rfl, fun _ => mm_in6 (List.mem_of_getElem? (i := 184) (by decide +kernel)) (by decide +kernel), (by intro h; cases h)⟩
set_option maxRecDepth 100000 in
theorem mt_163 : mm_site (11, 287, 1152, false) := ⟨mr_1152, rfl, fun _ => mm_in6 (List.mem_of_getElem? (i := 187) (by decide +kernel)) (by decide +kernel), (by intro h; cases h)⟩
set_option maxRecDepth 100000 in
theorem mt_164 : mm_site (11, 291, 1153, false) := ⟨mr_1153, rfl, fun _ => mm_in6 (List.mem_of_getElem? (i := 180) (by decide +kernel)) (by decide +kernel), (by intro h; cases h)⟩
set_option maxRecDepth 100000 in
theorem mt_165 : mm_site (11, 304, 1155, false) := ⟨mr_1155, rfl, fun _ => mm_in6 (List.mem_of_getElem? (i := 210) (by decide +kernel)) (by decide +kernel), (by intro h; cases h)⟩
set_option maxRecDepth 100000 in
theorem mt_166 : mm_site (11, 307, 1156, false) := ⟨mr_1156, rfl, fun _ => mm_in6 (List.mem_of_getElem? (i := 206) (by decide +kernel)) (by decide +kernel), (by intro h; cases h)⟩
set_option maxRecDepth 100000 in
theorem mt_167 : mm_site (11, 310, 1157, false) := ⟨mr_1157, rfl, fun _ => mm_in6 (List.mem_of_getElem? (i := 202) (by decide +kernel)) (by decide +kernel), (by intro h; cases h)⟩
set_option maxRecDepth 100000 in
theorem mt_168 : mm_site (11, 313, 1158, false) := ⟨mr_1158, rfl, fun _ => mm_in6 (List.mem_of_getElem? (i := 198) (by decide +kernel)) (by decide +kernel), (by intro h; cases h)⟩
set_option maxRecDepth 100000 in
theorem mt_169 : mm_site (11, 319, 1161, false) := ⟨mr_1161, rfl, fun _ => mm_in6 (List.mem_of_getElem? (i := 222) (by decide +kernel)) (by decide +kernel), (by intro h; cases h)⟩
set_option maxRecDepth 100000 in
theorem mt_170 : mm_site (11, 322, 1162, false) := ⟨mr_1162, rfl, fun _ => mm_in6 (List.mem_of_getElem? (i := 227) (by decide +kernel)) (by decide +kernel), (by intro h; cases h)⟩
set_option maxRecDepth 100000 in
theorem mt_171 : mm_site (11, 329, 1167, false) := ⟨mr_1167, rfl, fun _ => mm_in7 (List.mem_of_getElem? (i := 8) (by decide +kernel)) (by decide +kernel), (by intro h; cases h)⟩
set_option maxRecDepth 100000 in
theorem mt_172 : mm_site (11, 344, 1166, false) := ⟨mr_1166, rfl, fun _ => mm_in7 (List.mem_of_getElem? (i := 4) (by decide +kernel)) (by decide +kernel), (by intro h; cases h)⟩
set_option maxRecDepth 100000 in
theorem mt_173 : mm_site (11, 349, 1171, false) := ⟨mr_1171, rfl, fun _ => mm_in7 (List.mem_of_getElem? (i := 25) (by decide +kernel)) (by decide +kernel), (by intro h; cases h)⟩
set_option maxRecDepth 100000 in
theorem mt_174 : mm_site (11, 352, 1175, false) := ⟨mr_1175, rfl, fun _ => mm_in7 (List.mem_of_getElem? (i := 45) (by decide +kernel)) (by decide +kernel), (by intro h; cases h)⟩
set_option maxRecDepth 100000 in
theorem mt_175 : mm_site (11, 355, 1176, false) := ⟨mr_1176, rfl, fun _ => mm_in7 (List.mem_of_getElem? (i := 49) (by decide +kernel)) (by decide +kernel), (by intro h; cases h)⟩
set_option maxRecDepth 100000 in
theorem mt_176 : mm_site (11, 359, 1177, false) := ⟨mr_1177, rfl, fun _ => mm_in7 (List.mem_of_getElem? (i := 41) (by decide +kernel)) (by decide +kernel), (by intro h; cases h)⟩
set_option maxRecDepth 100000 in
theorem mt_177 : mm_site (11, 362, 1180, false) := ⟨mr_1180, rfl, fun _ => mm_in7 (List.mem_of_getElem? (i := 61) (by decide +kernel)) (by decide +kernel), (by intro h; cases h)⟩
set_option maxRecDepth 100000 in
theorem mm_sites_ok : ∀ e ∈ mm_sites, mm_site e := List.forall_mem_cons.mpr ⟨mt_0, List.forall_mem_cons.mpr ⟨mt_1, List.forall_mem_cons.mpr ⟨mt_2, List.forall_mem_cons.mpr ⟨mt_3, List.forall_mem_cons.mpr ⟨mt_4, List.forall_mem_cons.mpr ⟨mt_5, List.forall_mem_cons.mpr ⟨mt_6, List.forall_mem_cons.mpr ⟨mt_7, List.forall_mem_cons.mpr ⟨mt_8, List.forall_mem_cons.mpr ⟨mt_9, List.forall_mem_cons.mpr ⟨mt_10, List.forall_mem_cons.mpr ⟨mt_11, List.forall_mem_cons.mpr ⟨mt_12, List.forall_mem_cons.mpr ⟨mt_13, List.forall_mem_cons.mpr ⟨mt_14, List.forall_mem_cons.mpr ⟨mt_15, List.forall_mem_cons.mpr ⟨mt_16, List.forall_mem_cons.mpr ⟨mt_17, List.forall_mem_cons.mpr ⟨mt_18, List.forall_mem_cons.mpr ⟨mt_19, List.forall_mem_cons.mpr ⟨mt_20, List.forall_mem_cons.mpr ⟨mt_21, List.forall_mem_cons.mpr ⟨mt_22, List.forall_mem_cons.mpr ⟨mt_23, List.forall_mem_cons.mpr ⟨mt_24, List.forall_mem_cons.mpr ⟨mt_25, List.forall_mem_cons.mpr ⟨mt_26, List.forall_mem_cons.mpr ⟨mt_27, List.forall_mem_cons.mpr ⟨mt_28, List.forall_mem_cons.mpr ⟨mt_29, List.forall_mem_cons.mpr ⟨mt_30, List.forall_mem_cons.mpr ⟨mt_31, List.forall_mem_cons.mpr ⟨mt_32, List.forall_mem_cons.mpr ⟨mt_33, List.forall_mem_cons.mpr ⟨mt_34, List.forall_mem_cons.mpr ⟨mt_35, List.forall_mem_cons.mpr ⟨mt_36, List.forall_mem_cons.mpr ⟨mt_37, List.forall_mem_cons.mpr ⟨mt_38, List.forall_mem_cons.mpr ⟨mt_39, List.forall_mem_cons.mpr ⟨mt_40, List.forall_mem_cons.mpr ⟨mt_41, List.forall_mem_cons.mpr ⟨mt_42, List.forall_mem_cons.mpr ⟨mt_43, List.forall_mem_cons.mpr ⟨mt_44, List.forall_mem_cons.mpr ⟨mt_45, List.forall_mem_cons.mpr ⟨mt_46, List.forall_mem_cons.mpr ⟨mt_47, List.forall_mem_cons.mpr ⟨mt_48, List.forall_mem_cons.mpr ⟨mt_49, List.forall_mem_cons.mpr ⟨mt_50, List.forall_mem_cons.mpr ⟨mt_51, List.forall_mem_cons.mpr ⟨mt_52, List.forall_mem_cons.mpr ⟨mt_53, List.forall_mem_cons.mpr ⟨mt_54, List.forall_mem_cons.mpr ⟨mt_55, List.forall_mem_cons.mpr ⟨mt_56, List.forall_mem_cons.mpr ⟨mt_57, List.forall_mem_cons.mpr ⟨mt_58, List.forall_mem_cons.mpr ⟨mt_59, List.forall_mem_cons.mpr ⟨mt_60, List.forall_mem_cons.mpr ⟨mt_61, List.forall_mem_cons.mpr ⟨mt_62, List.forall_mem_cons.mpr ⟨mt_63, List.forall_mem_cons.mpr ⟨mt_64, List.forall_mem_cons.mpr ⟨mt_65, List.forall_mem_cons.mpr ⟨mt_66, List.forall_mem_cons.mpr ⟨mt_67, List.forall_mem_cons.mpr ⟨mt_68, List.forall_mem_cons.mpr ⟨mt_69, List.forall_mem_cons.mpr ⟨mt_70, List.forall_mem_cons.mpr ⟨mt_71, List.forall_mem_cons.mpr ⟨mt_72, List.forall_mem_cons.mpr ⟨mt_73, List.forall_mem_cons.mpr ⟨mt_74, List.forall_mem_cons.mpr ⟨mt_75, List.forall_mem_cons.mpr ⟨mt_76, List.forall_mem_cons.mpr ⟨mt_77, List.forall_mem_cons.mpr ⟨mt_78, List.forall_mem_cons.mpr ⟨mt_79, List.forall_mem_cons.mpr ⟨mt_80, List.forall_mem_cons.mpr ⟨mt_81, List.forall_mem_cons.mpr ⟨mt_82, List.forall_mem_cons.mpr ⟨mt_83, List.forall_mem_cons.mpr ⟨mt_84, List.forall_mem_cons.mpr ⟨mt_85, List.forall_mem_cons.mpr ⟨mt_86, List.forall_mem_cons.mpr ⟨mt_87, List.forall_mem_cons.mpr ⟨mt_88, List.forall_mem_cons.mpr ⟨mt_89, List.forall_mem_cons.mpr ⟨mt_90, List.forall_mem_cons.mpr ⟨mt_91, List.forall_mem_cons.mpr ⟨mt_92, List.forall_mem_cons.mpr ⟨mt_93, List.forall_mem_cons.mpr ⟨mt_94, List.forall_mem_cons.mpr ⟨mt_95, List.forall_mem_cons.mpr ⟨mt_96, List.forall_mem_cons.mpr ⟨mt_97, List.forall_mem_cons.mpr ⟨mt_98, List.forall_mem_cons.mpr ⟨mt_99, List.forall_mem_cons.mpr ⟨mt_100, List.forall_mem_cons.mpr ⟨mt_101, List.forall_mem_cons.mpr ⟨mt_102, List.forall_mem_cons.mpr ⟨mt_103, List.forall_mem_cons.mpr ⟨mt_104, List.forall_mem_cons.mpr ⟨mt_105, List.forall_mem_cons.mpr ⟨mt_106, List.forall_mem_cons.mpr ⟨mt_107, List.forall_mem_cons.mpr ⟨mt_108, List.forall_mem_cons.mpr ⟨mt_109, List.forall_mem_cons.mpr ⟨mt_110, List.forall_mem_cons.mpr ⟨mt_111, List.forall_mem_cons.mpr ⟨mt_112, List.forall_mem_cons.mpr ⟨mt_113, List.forall_mem_cons.mpr ⟨mt_114, List.forall_mem_cons.mpr ⟨mt_115, List.forall_mem_cons.mpr ⟨mt_116, List.forall_mem_cons.mpr ⟨mt_117, List.forall_mem_cons.mpr ⟨mt_118, List.forall_mem_cons.mpr ⟨mt_119, List.forall_mem_cons.mpr ⟨mt_120, List.forall_mem_cons.mpr ⟨mt_121, List.forall_mem_cons.mpr ⟨mt_122, List.forall_mem_cons.mpr ⟨mt_123, List.forall_mem_cons.mpr ⟨mt_124, List.forall_mem_cons.mpr ⟨mt_125, List.forall_mem_cons.mpr ⟨mt_126, List.forall_mem_cons.mpr ⟨mt_127, List.forall_mem_cons.mpr ⟨mt_128, List.forall_mem_cons.mpr ⟨mt_129, List.forall_mem_cons.mpr ⟨mt_130, List.forall_mem_cons.mpr ⟨mt_131, List.forall_mem_cons.mpr ⟨mt_132, List.forall_mem_cons.mpr ⟨mt_133, List.forall_mem_cons.mpr ⟨mt_134, List.forall_mem_cons.mpr ⟨mt_135, List.forall_mem_cons.mpr ⟨mt_136, List.forall_mem_cons.mpr ⟨mt_137, List.forall_mem_cons.mpr ⟨mt_138, List.forall_mem_cons.mpr ⟨mt_139, List.forall_mem_cons.mpr ⟨mt_140, List.forall_mem_cons.mpr ⟨mt_141, List.forall_mem_cons.mpr ⟨mt_142, List.forall_mem_cons.mpr ⟨mt_143, List.forall_mem_cons.mpr ⟨mt_144, List.forall_mem_cons.mpr ⟨mt_145, List.forall_mem_cons.mpr ⟨mt_146, List.forall_mem_cons.mpr ⟨mt_147, List.forall_mem_cons.mpr ⟨mt_148, List.forall_mem_cons.mpr ⟨mt_149, List.forall_mem_cons.mpr ⟨mt_150, List.forall_mem_cons.mpr ⟨mt_151, List.forall_mem_cons.mpr ⟨mt_152, List.forall_mem_cons.mpr ⟨mt_153, List.forall_mem_cons.mpr ⟨mt_154, List.forall_mem_cons.mpr ⟨mt_155, List.forall_mem_cons.mpr ⟨mt_156, List.forall_mem_cons.mpr ⟨mt_157, List.forall_mem_cons.mpr ⟨mt_158, List.forall_mem_cons.mpr ⟨mt_159, List.forall_mem_cons.mpr ⟨mt_160, List.forall_mem_cons.mpr ⟨mt_161, List.forall_mem_cons.mpr ⟨mt_162, List.forall_mem_cons.mpr ⟨mt_163, List.forall_mem_cons.mpr ⟨mt_164, List.forall_mem_cons.mpr ⟨mt_165, List.forall_mem_cons.mpr ⟨mt_166, List.forall_mem_cons.mpr ⟨mt_167, List.forall_mem_cons.mpr ⟨mt_168, List.forall_mem_cons.mpr ⟨mt_169, List.forall_mem_cons.mpr ⟨mt_170, List.forall_mem_cons.mpr ⟨mt_171, List.forall_mem_cons.mpr ⟨mt_172, List.forall_mem_cons.mpr ⟨mt_173, List.forall_mem_cons.mpr ⟨mt_174, List.forall_mem_cons.mpr ⟨mt_175, List.forall_mem_cons.mpr ⟨mt_176, List.forall_mem_cons.mpr ⟨mt_177, fun _ h => absurd h List.not_mem_nil⟩⟩⟩⟩⟩⟩⟩⟩⟩⟩⟩⟩⟩⟩⟩⟩⟩⟩⟩⟩⟩⟩⟩⟩⟩⟩⟩⟩⟩⟩⟩⟩⟩⟩⟩⟩⟩⟩⟩⟩⟩⟩⟩⟩⟩⟩⟩⟩⟩⟩⟩⟩⟩⟩⟩⟩⟩⟩⟩⟩⟩⟩⟩⟩⟩⟩⟩⟩⟩⟩⟩⟩⟩⟩⟩⟩⟩⟩⟩⟩⟩⟩⟩⟩⟩⟩⟩⟩⟩⟩⟩⟩⟩⟩⟩⟩⟩⟩⟩⟩⟩⟩⟩⟩⟩⟩⟩⟩⟩⟩⟩⟩⟩⟩⟩⟩⟩⟩⟩⟩⟩⟩⟩⟩⟩⟩⟩⟩⟩⟩⟩⟩⟩⟩⟩⟩⟩⟩⟩⟩⟩⟩⟩⟩⟩⟩⟩⟩⟩⟩⟩⟩⟩⟩⟩⟩⟩⟩⟩⟩⟩⟩⟩⟩⟩⟩⟩⟩⟩⟩⟩⟩⟩⟩⟩⟩⟩⟩
def mm_ints : List (Nat × Nat × Int) := [(6, 75, (1000000000)), (10, 267, (-100000)), (11, 316, (1000000)), (11, 325, (-100000))]
set_option maxRecDepth 100000 in
theorem mm_ints_ok : ∀ e ∈ mm_ints, Cond.constant (mm_own e.1) e.2.1 (Int32.ofInt e.2.2) ∈ mm_words := List.forall_mem_cons.mpr ⟨mm_in4 (List.mem_of_getElem? (i := 38) (by decide +kernel)) (by decide +kernel), List.forall_mem_cons.mpr ⟨mm_in4 (List.mem_of_getElem? (i := 81) (by decide +kernel)) (by decide +kernel), List.forall_mem_cons.mpr ⟨mm_in6 (List.mem_of_getElem? (i := 226) (by decide +kernel)) (by decide +kernel), List.forall_mem_cons.mpr ⟨mm_in6 (List.mem_of_getElem? (i := 235) (by decide +kernel)) (by decide +kernel), fun _ h => absurd h List.not_mem_nil⟩⟩⟩⟩
def mm_longs : List (Nat × Nat × Int) := [(7, 57, (8)), (7, 63, (2)), (10, 332, (-1)), (11, 85, (97)), (11, 87, (122)), (11, 93, (48)), (11, 95, (57)), (11, 217, (63)), (11, 223, (7)), (11, 225, (-1)), (11, 235, (9)), (11, 237, (2)), (11, 239, (60)), (11, 251, (64)), (11, 273, (3)), (11, 317, (4)), (11, 347, (400))]
set_option maxRecDepth 100000 in
theorem mm_longs_ok : ∀ e ∈ mm_longs, Cond.constantLong (mm_own e.1) e.2.1 (Int64.ofInt e.2.2) ∈ mm_words := List.forall_mem_cons.mpr ⟨mm_in4 (List.mem_of_getElem? (i := 177) (by decide +kernel)) (by decide +kernel), List.forall_mem_cons.mpr ⟨mm_in4 (List.mem_of_getElem? (i := 186) (by decide +kernel)) (by decide +kernel), List.forall_mem_cons.mpr ⟨mm_in4 (List.mem_of_getElem? (i := 196) (by decide +kernel)) (by decide +kernel), List.forall_mem_cons.mpr ⟨mm_in6 (List.mem_of_getElem? (i := 2) (by decide +kernel)) (by decide +kernel), List.forall_mem_cons.mpr ⟨mm_in6 (List.mem_of_getElem? (i := 3) (by decide +kernel)) (by decide +kernel), List.forall_mem_cons.mpr ⟨mm_in6 (List.mem_of_getElem? (i := 7) (by decide +kernel)) (by decide +kernel), List.forall_mem_cons.mpr ⟨mm_in6 (List.mem_of_getElem? (i := 8) (by decide +kernel)) (by decide +kernel), List.forall_mem_cons.mpr ⟨mm_in6 (List.mem_of_getElem? (i := 77) (by decide +kernel)) (by decide +kernel), List.forall_mem_cons.mpr ⟨mm_in6 (List.mem_of_getElem? (i := 94) (by decide +kernel)) (by decide +kernel), List.forall_mem_cons.mpr ⟨mm_in6 (List.mem_of_getElem? (i := 95) (by decide +kernel)) (by decide +kernel), List.forall_mem_cons.mpr ⟨mm_in6 (List.mem_of_getElem? (i := 108) (by decide +kernel)) (by decide +kernel), List.forall_mem_cons.mpr ⟨mm_in6 (List.mem_of_getElem? (i := 116) (by decide +kernel)) (by decide +kernel), List.forall_mem_cons.mpr ⟨mm_in6 (List.mem_of_getElem? (i := 117) (by decide +kernel)) (by decide +kernel), List.forall_mem_cons.mpr ⟨mm_in6 (List.mem_of_getElem? (i := 154) (by decide +kernel)) (by decide +kernel), List.forall_mem_cons.mpr ⟨mm_in6 (List.mem_of_getElem? (i := 163) (by decide +kernel)) (by decide +kernel), List.forall_mem_cons.mpr ⟨mm_in6 (List.mem_of_getElem? (i := 221) (by decide +kernel)) (by decide +kernel), List.forall_mem_cons.mpr ⟨mm_in7 (List.mem_of_getElem? (i := 16) (by decide +kernel)) (by decide +kernel), fun _ h => absurd h List.not_mem_nil⟩⟩⟩⟩⟩⟩⟩⟩⟩⟩⟩⟩⟩⟩⟩⟩⟩
def mm_maxs : List (Nat × Nat) := [(1, 86), (6, 82), (7, 24), (8, 70), (9, 34)]
set_option maxRecDepth 100000 in
theorem mm_maxs_ok : ∀ e ∈ mm_maxs, Cond.methodLink (mm_own e.1) e.2 Lib.Math.max.name ∈ mm_words := List.forall_mem_cons.mpr ⟨mm_in4 (List.mem_of_getElem? (i := 2) (by decide +kernel)) (by decide +kernel), List.forall_mem_cons.mpr ⟨mm_in4 (List.mem_of_getElem? (i := 47) (by decide +kernel)) (by decide +kernel), List.forall_mem_cons.mpr ⟨mm_in4 (List.mem_of_getElem? (i := 147) (by decide +kernel)) (by decide +kernel), List.forall_mem_cons.mpr ⟨mm_in4 (List.mem_of_getElem? (i := 115) (by decide +kernel)) (by decide +kernel), List.forall_mem_cons.mpr ⟨mm_in3 (List.mem_of_getElem? (i := 229) (by decide +kernel)) (by decide +kernel), fun _ h => absurd h List.not_mem_nil⟩⟩⟩⟩⟩
def mm_mins : List (Nat × Nat) := [(0, 27), (3, 37), (4, 48), (6, 42), (8, 61), (9, 40), (10, 290)]
set_option maxRecDepth 100000 in
theorem mm_mins_ok : ∀ e ∈ mm_mins, Cond.methodLink (mm_own e.1) e.2 Lib.Math.min.name ∈ mm_words := List.forall_mem_cons.mpr ⟨mm_in3 (List.mem_of_getElem? (i := 72) (by decide +kernel)) (by decide +kernel), List.forall_mem_cons.mpr ⟨mm_in2 (List.mem_of_getElem? (i := 123) (by decide +kernel)) (by decide +kernel), List.forall_mem_cons.mpr ⟨mm_in3 (List.mem_of_getElem? (i := 158) (by decide +kernel)) (by decide +kernel), List.forall_mem_cons.mpr ⟨mm_in4 (List.mem_of_getElem? (i := 27) (by decide +kernel)) (by decide +kernel), List.forall_mem_cons.mpr ⟨mm_in4 (List.mem_of_getElem? (i := 110) (by decide +kernel)) (by decide +kernel), List.forall_mem_cons.mpr ⟨mm_in4 (List.mem_of_getElem? (i := 0) (by decide +kernel)) (by decide +kernel), List.forall_mem_cons.mpr ⟨mm_in4 (List.mem_of_getElem? (i := 120) (by decide +kernel)) (by decide +kernel), fun _ h => absurd h List.not_mem_nil⟩⟩⟩⟩⟩⟩⟩
def mm_cpys : List (Nat × Nat) := [(4, 31)]
set_option maxRecDepth 100000 in
theorem mm_cpys_ok : ∀ e ∈ mm_cpys, Cond.methodLink (mm_own e.1) e.2 arraycopyName ∈ mm_words := List.forall_mem_cons.mpr ⟨mm_in3 (List.mem_of_getElem? (i := 41) (by decide +kernel)) (by decide +kernel), fun _ h => absurd h List.not_mem_nil⟩
theorem mm_maxS : Cond.static Lib.Math.max.name ∈ mm_words := mm_in3 (List.mem_of_getElem? (i := 230) (by decide +kernel)) (by decide +kernel)
theorem mm_minS : Cond.static Lib.Math.min.name ∈ mm_words := mm_in2 (List.mem_of_getElem? (i := 124) (by decide +kernel)) (by decide +kernel)
theorem mm_mathI : Cond.initialized "java/lang/Math" ∈ mm_words := mm_in1 (List.mem_of_getElem? (i := 13) (by decide +kernel)) (by decide +kernel)
theorem mm_maxC : Cond.code Lib.Math.max.name Lib.Math.max.code 2 (some .int) ∈ mm_words := mm_in3 (List.mem_of_getElem? (i := 231) (by decide +kernel)) (by decide +kernel)
theorem mm_minC : Cond.code Lib.Math.min.name Lib.Math.min.code 2 (some .int) ∈ mm_words := mm_in2 (List.mem_of_getElem? (i := 125) (by decide +kernel)) (by decide +kernel)
theorem mm_cpyS : Cond.static arraycopyName ∈ mm_words := mm_in3 (List.mem_of_getElem? (i := 42) (by decide +kernel)) (by decide +kernel)
theorem mm_cpyN : Cond.native arraycopyName ∈ mm_words := mm_in3 (List.mem_of_getElem? (i := 43) (by decide +kernel)) (by decide +kernel)
theorem mm_cpyI : Cond.initialized "java/lang/System" ∈ mm_words := mm_in1 (List.mem_of_getElem? (i := 18) (by decide +kernel)) (by decide +kernel)
theorem mc_0 : ∀ w ∈ u_ws RX0 TX0 4, w ∈ mm_words := List.forall_mem_cons.mpr ⟨mm_in2 (List.mem_of_getElem? (i := 57) (by decide +kernel)) (by decide +kernel), List.forall_mem_cons.mpr ⟨mm_in2 (List.mem_of_getElem? (i := 59) (by decide +kernel)) (by decide +kernel), List.forall_mem_cons.mpr ⟨mm_in2 (List.mem_of_getElem? (i := 61) (by decide +kernel)) (by decide +kernel), List.forall_mem_cons.mpr ⟨mm_in2 (List.mem_of_getElem? (i := 63) (by decide +kernel)) (by decide +kernel), fun _ h => absurd h List.not_mem_nil⟩⟩⟩⟩
theorem mc_1 : ∀ w ∈ u_ws RX1 TX1 3, w ∈ mm_words := List.forall_mem_cons.mpr ⟨mm_in1 (List.mem_of_getElem? (i := 223) (by decide +kernel)) (by decide +kernel), List.forall_mem_cons.mpr ⟨mm_in1 (List.mem_of_getElem? (i := 225) (by decide +kernel)) (by decide +kernel), List.forall_mem_cons.mpr ⟨mm_in1 (List.mem_of_getElem? (i := 227) (by decide +kernel)) (by decide +kernel), fun _ h => absurd h List.not_mem_nil⟩⟩⟩
theorem mc_2 : ∀ w ∈ u_ws RX2 TX2 5, w ∈ mm_words := List.forall_mem_cons.mpr ⟨mm_in1 (List.mem_of_getElem? (i := 95) (by decide +kernel)) (by decide +kernel), List.forall_mem_cons.mpr ⟨mm_in1 (List.mem_of_getElem? (i := 97) (by decide +kernel)) (by decide +kernel), List.forall_mem_cons.mpr ⟨mm_in1 (List.mem_of_getElem? (i := 99) (by decide +kernel)) (by decide +kernel), List.forall_mem_cons.mpr ⟨mm_in1 (List.mem_of_getElem? (i := 101) (by decide +kernel)) (by decide +kernel), List.forall_mem_cons.mpr ⟨mm_in1 (List.mem_of_getElem? (i := 103) (by decide +kernel)) (by decide +kernel), fun _ h => absurd h List.not_mem_nil⟩⟩⟩⟩⟩
theorem mc_3 : ∀ w ∈ u_ws RX3 TX3 10, w ∈ mm_words := List.forall_mem_cons.mpr ⟨mm_in1 (List.mem_of_getElem? (i := 119) (by decide +kernel)) (by decide +kernel), List.forall_mem_cons.mpr ⟨mm_in1 (List.mem_of_getElem? (i := 121) (by decide +kernel)) (by decide +kernel), List.forall_mem_cons.mpr ⟨mm_in1 (List.mem_of_getElem? (i := 123) (by decide +kernel)) (by decide +kernel), List.forall_mem_cons.mpr ⟨mm_in1 (List.mem_of_getElem? (i := 125) (by decide +kernel)) (by decide +kernel), List.forall_mem_cons.mpr ⟨mm_in1 (List.mem_of_getElem? (i := 127) (by decide +kernel)) (by decide +kernel), List.forall_mem_cons.mpr ⟨mm_in1 (List.mem_of_getElem? (i := 129) (by decide +kernel)) (by decide +kernel), List.forall_mem_cons.mpr ⟨mm_in1 (List.mem_of_getElem? (i := 131) (by decide +kernel)) (by decide +kernel), List.forall_mem_cons.mpr ⟨mm_in1 (List.mem_of_getElem? (i := 133) (by decide +kernel)) (by decide +kernel), List.forall_mem_cons.mpr ⟨mm_in1 (List.mem_of_getElem? (i := 135) (by decide +kernel)) (by decide +kernel), List.forall_mem_cons.mpr ⟨mm_in1 (List.mem_of_getElem? (i := 137) (by decide +kernel)) (by decide +kernel), fun _ h => absurd h List.not_mem_nil⟩⟩⟩⟩⟩⟩⟩⟩⟩⟩
theorem mc_4 : ∀ w ∈ u_ws RX4 TX4 6, w ∈ mm_words := List.forall_mem_cons.mpr ⟨mm_in1 (List.mem_of_getElem? (i := 55) (by decide +kernel)) (by decide +kernel), List.forall_mem_cons.mpr ⟨mm_in1 (List.mem_of_getElem? (i := 57) (by decide +kernel)) (by decide +kernel), List.forall_mem_cons.mpr ⟨mm_in1 (List.mem_of_getElem? (i := 59) (by decide +kernel)) (by decide +kernel), List.forall_mem_cons.mpr ⟨mm_in1 (List.mem_of_getElem? (i := 61) (by decide +kernel)) (by decide +kernel), List.forall_mem_cons.mpr ⟨mm_in1 (List.mem_of_getElem? (i := 63) (by decide +kernel)) (by decide +kernel), List.forall_mem_cons.mpr ⟨mm_in1 (List.mem_of_getElem? (i := 65) (by decide +kernel)) (by decide +kernel), fun _ h => absurd h List.not_mem_nil⟩⟩⟩⟩⟩⟩
theorem mc_5 : ∀ w ∈ u_ws RX5 TX5 2, w ∈ mm_words := List.forall_mem_cons.mpr ⟨mm_in1 (List.mem_of_getElem? (i := 176) (by decide +kernel)) (by decide +kernel), List.forall_mem_cons.mpr ⟨mm_in1 (List.mem_of_getElem? (i := 178) (by decide +kernel)) (by decide +kernel), fun _ h => absurd h List.not_mem_nil⟩⟩
theorem mc_6 : ∀ w ∈ u_ws RX6 TX6 5, w ∈ mm_words := List.forall_mem_cons.mpr ⟨mm_in2 (List.mem_of_getElem? (i := 5) (by decide +kernel)) (by decide +kernel), List.forall_mem_cons.mpr ⟨mm_in2 (List.mem_of_getElem? (i := 7) (by decide +kernel)) (by decide +kernel), List.forall_mem_cons.mpr ⟨mm_in2 (List.mem_of_getElem? (i := 9) (by decide +kernel)) (by decide +kernel), List.forall_mem_cons.mpr ⟨mm_in2 (List.mem_of_getElem? (i := 11) (by decide +kernel)) (by decide +kernel), List.forall_mem_cons.mpr ⟨mm_in2 (List.mem_of_getElem? (i := 13) (by decide +kernel)) (by decide +kernel), fun _ h => absurd h List.not_mem_nil⟩⟩⟩⟩⟩
theorem mc_7 : ∀ w ∈ u_ws RX7 TX7 2, w ∈ mm_words := List.forall_mem_cons.mpr ⟨mm_in1 (List.mem_of_getElem? (i := 153) (by decide +kernel)) (by decide +kernel), List.forall_mem_cons.mpr ⟨mm_in1 (List.mem_of_getElem? (i := 155) (by decide +kernel)) (by decide +kernel), fun _ h => absurd h List.not_mem_nil⟩⟩
theorem mc_8 : ∀ w ∈ u_ws RX8 TX8 4, w ∈ mm_words := List.forall_mem_cons.mpr ⟨mm_in2 (List.mem_of_getElem? (i := 32) (by decide +kernel)) (by decide +kernel), List.forall_mem_cons.mpr ⟨mm_in2 (List.mem_of_getElem? (i := 34) (by decide +kernel)) (by decide +kernel), List.forall_mem_cons.mpr ⟨mm_in2 (List.mem_of_getElem? (i := 36) (by decide +kernel)) (by decide +kernel), List.forall_mem_cons.mpr ⟨mm_in2 (List.mem_of_getElem? (i := 38) (by decide +kernel)) (by decide +kernel), fun _ h => absurd h List.not_mem_nil⟩⟩⟩⟩
theorem mc_9 : ∀ w ∈ u_ws RX9 TX9 7, w ∈ mm_words := List.forall_mem_cons.mpr ⟨mm_in1 (List.mem_of_getElem? (i := 200) (by decide +kernel)) (by decide +kernel), List.forall_mem_cons.mpr ⟨mm_in1 (List.mem_of_getElem? (i := 202) (by decide +kernel)) (by decide +kernel), List.forall_mem_cons.mpr ⟨mm_in1 (List.mem_of_getElem? (i := 204) (by decide +kernel)) (by decide +kernel), List.forall_mem_cons.mpr ⟨mm_in1 (List.mem_of_getElem? (i := 206) (by decide +kernel)) (by decide +kernel), List.forall_mem_cons.mpr ⟨mm_in1 (List.mem_of_getElem? (i := 208) (by decide +kernel)) (by decide +kernel), List.forall_mem_cons.mpr ⟨mm_in1 (List.mem_of_getElem? (i := 210) (by decide +kernel)) (by decide +kernel), List.forall_mem_cons.mpr ⟨mm_in1 (List.mem_of_getElem? (i := 212) (by decide +kernel)) (by decide +kernel), fun _ h => absurd h List.not_mem_nil⟩⟩⟩⟩⟩⟩⟩
theorem mc_10 : ∀ w ∈ u_ws RX10 TX10 12, w ∈ mm_words := List.forall_mem_cons.mpr ⟨mm_in2 (List.mem_of_getElem? (i := 78) (by decide +kernel)) (by decide +kernel), List.forall_mem_cons.mpr ⟨mm_in2 (List.mem_of_getElem? (i := 80) (by decide +kernel)) (by decide +kernel), List.forall_mem_cons.mpr ⟨mm_in2 (List.mem_of_getElem? (i := 82) (by decide +kernel)) (by decide +kernel), List.forall_mem_cons.mpr ⟨mm_in2 (List.mem_of_getElem? (i := 84) (by decide +kernel)) (by decide +kernel), List.forall_mem_cons.mpr ⟨mm_in2 (List.mem_of_getElem? (i := 86) (by decide +kernel)) (by decide +kernel), List.forall_mem_cons.mpr ⟨mm_in2 (List.mem_of_getElem? (i := 88) (by decide +kernel)) (by decide +kernel), List.forall_mem_cons.mpr ⟨mm_in2 (List.mem_of_getElem? (i := 90) (by decide +kernel)) (by decide +kernel), List.forall_mem_cons.mpr ⟨mm_in2 (List.mem_of_getElem? (i := 92) (by decide +kernel)) (by decide +kernel), List.forall_mem_cons.mpr ⟨mm_in2 (List.mem_of_getElem? (i := 94) (by decide +kernel)) (by decide +kernel), List.forall_mem_cons.mpr ⟨mm_in2 (List.mem_of_getElem? (i := 96) (by decide +kernel)) (by decide +kernel), List.forall_mem_cons.mpr ⟨mm_in2 (List.mem_of_getElem? (i := 98) (by decide +kernel)) (by decide +kernel), List.forall_mem_cons.mpr ⟨mm_in2 (List.mem_of_getElem? (i := 100) (by decide +kernel)) (by decide +kernel), fun _ h => absurd h List.not_mem_nil⟩⟩⟩⟩⟩⟩⟩⟩⟩⟩⟩⟩
theorem mc_11 : ∀ w ∈ u_ws RX11 TX11 50, w ∈ mm_words := List.forall_mem_cons.mpr ⟨mm_in5 (List.mem_of_getElem? (i := 111) (by decide +kernel)) (by decide +kernel), List.forall_mem_cons.mpr ⟨mm_in5 (List.mem_of_getElem? (i := 113) (by decide +kernel)) (by decide +kernel), List.forall_mem_cons.mpr ⟨mm_in5 (List.mem_of_getElem? (i := 115) (by decide +kernel)) (by decide +kernel), List.forall_mem_cons.mpr ⟨mm_in5 (List.mem_of_getElem? (i := 117) (by decide +kernel)) (by decide +kernel), List.forall_mem_cons.mpr ⟨mm_in5 (List.mem_of_getElem? (i := 119) (by decide +kernel)) (by decide +kernel), List.forall_mem_cons.mpr ⟨mm_in5 (List.mem_of_getElem? (i := 121) (by decide +kernel)) (by decide +kernel), List.forall_mem_cons.mpr ⟨mm_in5 (List.mem_of_getElem? (i := 123) (by decide +kernel)) (by decide +kernel), List.forall_mem_cons.mpr ⟨mm_in5 (List.mem_of_getElem? (i := 125) (by decide +kernel)) (by decide +kernel), List.forall_mem_cons.mpr ⟨mm_in5 (List.mem_of_getElem? (i := 127) (by decide +kernel)) (by decide +kernel), List.forall_mem_cons.mpr ⟨mm_in5 (List.mem_of_getElem? (i := 129) (by decide +kernel)) (by decide +kernel), List.forall_mem_cons.mpr ⟨mm_in5 (List.mem_of_getElem? (i := 131) (by decide +kernel)) (by decide +kernel), List.forall_mem_cons.mpr ⟨mm_in5 (List.mem_of_getElem? (i := 133) (by decide +kernel)) (by decide +kernel), List.forall_mem_cons.mpr ⟨mm_in5 (List.mem_of_getElem? (i := 135) (by decide +kernel)) (by decide +kernel), List.forall_mem_cons.mpr ⟨mm_in5 (List.mem_of_getElem? (i := 137) (by decide +kernel)) (by decide +kernel), List.forall_mem_cons.mpr ⟨mm_in5 (List.mem_of_getElem? (i := 139) (by decide +kernel)) (by decide +kernel), List.forall_mem_cons.mpr ⟨mm_in5 (List.mem_of_getElem? (i := 141) (by decide +kernel)) (by decide +kernel), List.forall_mem_cons.mpr ⟨mm_in5 (List.mem_of_getElem? (i := 143) (by decide +kernel)) (by decide +kernel), List.forall_mem_cons.mpr ⟨mm_in5 (List.mem_of_getElem? (i := 145) (by decide +kernel)) (by decide +kernel), List.forall_mem_cons.mpr ⟨mm_in5 (List.mem_of_getElem? (i := 147) (by decide +kernel)) (by decide +kernel), List.forall_mem_cons.mpr ⟨mm_in5 (List.mem_of_getElem? (i := 149) (by decide +kernel)) (by decide +kernel), List.forall_mem_cons.mpr ⟨mm_in5 (List.mem_of_getElem? (i := 151) (by decide +kernel)) (by decide +kernel), List.forall_mem_cons.mpr ⟨mm_in5 (List.mem_of_getElem? (i := 153) (by decide +kernel)) (by decide +kernel), List.forall_mem_cons.mpr ⟨mm_in5 (List.mem_of_getElem? (i := 155) (by decide +kernel)) (by decide +kernel), List.forall_mem_cons.mpr ⟨mm_in5 (List.mem_of_getElem? (i := 157) (by decide +kernel)) (by decide +kernel), List.forall_mem_cons.mpr ⟨mm_in5 (List.mem_of_getElem? (i := 159) (by decide +kernel)) (by decide +kernel), List.forall_mem_cons.mpr ⟨mm_in5 (List.mem_of_getElem? (i := 161) (by decide +kernel)) (by decide +kernel), List.forall_mem_cons.mpr ⟨mm_in5 (List.mem_of_getElem? (i := 163) (by decide +kernel)) (by decide +kernel), List.forall_mem_cons.mpr ⟨mm_in5 (List.mem_of_getElem? (i := 165) (by decide +kernel)) (by decide +kernel), List.forall_mem_cons.mpr ⟨mm_in5 (List.mem_of_getElem? (i := 167) (by decide +kernel)) (by decide +kernel), List.forall_mem_cons.mpr ⟨mm_in5 (List.mem_of_getElem? (i := 169) (by decide +kernel)) (by decide +kernel), List.forall_mem_cons.mpr ⟨mm_in5 (List.mem_of_getElem? (i := 171) (by decide +kernel)) (by decide +kernel), List.forall_mem_cons.mpr ⟨mm_in5 (List.mem_of_getElem? (i := 173) (by decide +kernel)) (by decide +kernel), List.forall_mem_cons.mpr ⟨mm_in5 (List.mem_of_getElem? (i := 175) (by decide +kernel)) (by decide +kernel), List.forall_mem_cons.mpr ⟨mm_in5 (List.mem_of_getElem? (i := 177) (by decide +kernel)) (by decide +kernel), List.forall_mem_cons.mpr ⟨mm_in5 (List.mem_of_getElem? (i := 179) (by decide +kernel)) (by decide +kernel), List.forall_mem_cons.mpr ⟨mm_in5 (List.mem_of_getElem? (i := 181) (by decide +kernel)) (by decide +kernel), List.forall_mem_cons.mpr ⟨mm_in5 (List.mem_of_getElem? (i := 183) (by decide +kernel)) (by decide +kernel), List.forall_mem_cons.mpr ⟨mm_in5 (List.mem_of_getElem? (i := 185) (by decide +kernel)) (by decide +kernel), List.forall_mem_cons.mpr ⟨mm_in5 (List.mem_of_getElem? (i := 187) (by decide +kernel)) (by decide +kernel), List.forall_mem_cons.mpr ⟨mm_in5 (List.mem_of_getElem? (i := 189) (by decide +kernel)) (by decide +kernel), List.forall_mem_cons.mpr ⟨mm_in5 (List.mem_of_getElem? (i := 191) (by decide +kernel)) (by decide +kernel), List.forall_mem_cons.mpr ⟨mm_in5 (List.mem_of_getElem? (i := 193) (by decide +kernel)) (by decide +kernel), List.forall_mem_cons.mpr ⟨mm_in5 (List.mem_of_getElem? (i := 195) (by decide +kernel)) (by decide +kernel), List.forall_mem_cons.mpr ⟨mm_in5 (List.mem_of_getElem? (i := 197) (by decide +kernel)) (by decide +kernel), List.forall_mem_cons.mpr ⟨mm_in5 (List.mem_of_getElem? (i := 199) (by decide +kernel)) (by decide +kernel), List.forall_mem_cons.mpr ⟨mm_in5 (List.mem_of_getElem? (i := 201) (by decide +kernel)) (by decide +kernel), List.forall_mem_cons.mpr ⟨mm_in5 (List.mem_of_getElem? (i := 203) (by decide +kernel)) (by decide +kernel), List.forall_mem_cons.mpr ⟨mm_in5 (List.mem_of_getElem? (i := 205) (by decide +kernel)) (by decide +kernel), List.forall_mem_cons.mpr ⟨mm_in5 (List.mem_of_getElem? (i := 207) (by decide +kernel)) (by decide +kernel), List.forall_mem_cons.mpr ⟨mm_in5 (List.mem_of_getElem? (i := 209) (by decide +kernel)) (by decide +kernel), fun _ h => absurd h List.not_mem_nil⟩⟩⟩⟩⟩⟩⟩⟩⟩⟩⟩⟩⟩⟩⟩⟩⟩⟩⟩⟩⟩⟩⟩⟩⟩⟩⟩⟩⟩⟩⟩⟩⟩⟩⟩⟩⟩⟩⟩⟩⟩⟩⟩⟩⟩⟩⟩⟩⟩⟩
end
section
/-! THE SMALL MACHINE: a method's blocks as lists of resolved instructions, numbers as Int, objects by number; mm_wp: what must hold ahead of a block so that its end has what is asked. -/
abbrev mmV : Type := Int ⊕ (Int ⊕ Nat)
abbrev mmM : Type := Nat → Int → Int
abbrev mmL : Type := List (Option mmV)
abbrev mmS : Type := List mmV
abbrev mmP : Type := Option mmV → mmM → Prop
abbrev mmT : Type := List mmV → mmM → mmP → Prop
abbrev mmO : Type := Nat × Instr × Nat × Int
abbrev mmK : Type := mmL → mmS → mmM → Prop
abbrev mmJ : Type := Nat → mmL → mmS → mmM → Prop
abbrev vi (x : Int) : mmV := Sum.inl x
abbrev vl (x : Int) : mmV := Sum.inr (Sum.inl x)
abbrev vr (o : Nat) : mmV := Sum.inr (Sum.inr o)
abbrev mm_R (x : Int) : Prop := -2147483648 ≤ x ∧ x ≤ 2147483647
abbrev mm_R64 (x : Int) : Prop := -9223372036854775808 ≤ x ∧ x ≤ 9223372036854775807
/-- memory with one place changed -/
def mm_up (M : mmM) (o : Nat) (i v : Int) : mmM := fun o' i' => if o' = o ∧ i' = i then v else M o' i'
def mm_cpy (M : mmM) (a : Nat) (sp : Int) (b : Nat) (dp n : Int) : mmM := fun o i => if o = b ∧ dp ≤ i ∧ i < dp + n then M a (sp + (i - dp)) else M o i
def mm_and (x y : Int) : Int := (Int32.ofInt x &&& Int32.ofInt y).toInt
def mm_xor (x y : Int) : Int := (Int32.ofInt x ^^^ Int32.ofInt y).toInt
def mm_shr (x y : Int) : Int := (Int32.ofInt x >>> (Int32.ofInt y &&& 31)).toInt
def mm_i2b (x : Int) : Int := ((Int32.ofInt x).toInt8.toInt32).toInt
def mm_lc (x y : Int) : Int := if x < y then -1 else if x = y then 0 else 1
def mm_cmp (c : Jvm.ClassFile.Cond) (x y : Int) : Prop := match c with
  | .eq => x = y
  | .ne => ¬ x = y
  | .lt => x < y
  | .ge => y ≤ x
  | .gt => y < x
  | .le => x ≤ y

def mm_kill (a : Option mmV) : Option mmV := match a with
  | some (.inr (.inl _)) => none
  | a => a
def mm_set1 : mmL → Nat → mmV → mmL
  | [], _, _ => []
  | _ :: t, 0, v => some v :: t
  | a :: t, 1, v => mm_kill a :: mm_set1 t 0 v
  | a :: t, n + 2, v => a :: mm_set1 t (n + 1) v
def mm_set2 : mmL → Nat → mmV → mmL
  | [], _, _ => []
  | [a], _, _ => [a]
  | _ :: _ :: t, 0, v => some v :: none :: t
  | a :: t, 1, v => mm_kill a :: mm_set2 t 0 v
  | a :: t, n + 2, v => a :: mm_set2 t (n + 1) v
def mm_pop (K : List mmV → mmS → Prop) : Nat → List mmV → mmS → Prop
  | 0, acc, S => K acc S
  | _ + 1, _, [] => False
  | n + 1, acc, v :: S => mm_pop K n (v :: acc) S
def mm_cat (v : mmV) : Nat := match v with
  | .inr (.inl _) => 2
  | _ => 1
def mm_cats (S : mmS) : Nat := match S with
  | [] => 0
  | v :: r => mm_cat v + mm_cats r
def mm_find (T : List (Nat × mmT)) (x : Nat) : mmT := match T with
  | [] => fun _ _ _ => False
  | q :: r => if q.1 = x then q.2 else mm_find r x
def mm_push (r : Option mmV) (S : mmS) : mmS := match r with
  | none => S
  | some v => v :: S
def mm_sw (J : Int → Prop) (z d : Int) (ps : List (Int × Int)) : Prop := match ps with
  | [] => J d
  | q :: r => (z = q.1 → J q.2) ∧ (¬ z = q.1 → mm_sw J z d r)
def mm_lda (n : Nat) (K : mmK) : mmK := fun L S M => match L[n]? with
  | some (some (.inr (.inr o))) => K L (vr o :: S) M
  | _ => False
def mm_ldi (n : Nat) (K : mmK) : mmK := fun L S M => match L[n]? with
  | some (some (.inl o)) => K L (vi o :: S) M
  | _ => False
def mm_ldl (n : Nat) (K : mmK) : mmK := fun L S M => match L[n]? with
  | some (some (.inr (.inl o))) => K L (vl o :: S) M
  | _ => False
def mm_sti (n : Nat) (K : mmK) : mmK := fun L S M => match S with
  | .inl x :: S => K (mm_set1 L n (vi x)) S M
  | _ => False
def mm_sta (n : Nat) (K : mmK) : mmK := fun L S M => match S with
  | .inr (.inr x) :: S => K (mm_set1 L n (vr x)) S M
  | _ => False
def mm_stl (n : Nat) (K : mmK) : mmK := fun L S M => match S with
  | .inr (.inl x) :: S => K (mm_set2 L n (vl x)) S M
  | _ => False
def mm_inc (n : Nat) (d : Int) (K : mmK) : mmK := fun L S M => match L[n]? with
  | some (some (.inl x)) => mm_R (x + d) ∧ K (mm_set1 L n (vi (x + d))) S M
  | _ => False
def mm_2i (P : Int → Int → Prop) (f : Int → Int → Int) (K : mmK) : mmK := fun L S M => match S with
  | .inl y :: .inl x :: S => P x y ∧ K L (vi (f x y) :: S) M
  | _ => False
def mm_mm (f : Int → Int → Int) (K : mmK) : mmK := fun L S M => match S with
  | .inl y :: .inl x :: S => mm_cats S ≤ 8 ∧ K L (vi (f x y) :: S) M
  | _ => False
def mm_2l (P : Int → Int → Prop) (f : Int → Int → Int) (K : mmK) : mmK := fun L S M => match S with
  | .inr (.inl y) :: .inr (.inl x) :: S => P x y ∧ K L (vl (f x y) :: S) M
  | _ => False
def mm_lcmp (K : mmK) : mmK := fun L S M => match S with
  | .inr (.inl y) :: .inr (.inl x) :: S => K L (vi (mm_lc x y) :: S) M
  | _ => False
def mm_i2l (K : mmK) : mmK := fun L S M => match S with
  | .inl x :: S => K L (vl x :: S) M
  | _ => False
def mm_l2i (K : mmK) : mmK := fun L S M => match S with
  | .inr (.inl x) :: S => mm_R x ∧ K L (vi x :: S) M
  | _ => False
def mm_cast8 (K : mmK) : mmK := fun L S M => match S with
  | .inl x :: S => K L (vi (mm_i2b x) :: S) M
  | _ => False
def mm_if2 (c : Jvm.ClassFile.Cond) (J K : mmK) : mmK := fun L S M => match S with
  | .inl y :: .inl x :: S => (mm_cmp c x y → J L S M) ∧ (¬ mm_cmp c x y → K L S M)
  | _ => False
def mm_if1 (c : Jvm.ClassFile.Cond) (J K : mmK) : mmK := fun L S M => match S with
  | .inl x :: S => (mm_cmp c x 0 → J L S M) ∧ (¬ mm_cmp c x 0 → K L S M)
  | _ => False
def mm_swi (J : mmJ) (d : Nat) (ps : List (Int × Int)) : mmK := fun L S M => match S with
  | .inl z :: S => mm_sw (fun t => J t.toNat L S M) z d ps
  | _ => False
def mm_pop1 (K : mmK) : mmK := fun L S M => match S with
  | .inl _ :: S => K L S M
  | .inr (.inr _) :: S => K L S M
  | _ => False
def mm_dup (K : mmK) : mmK := fun L S M => match S with
  | .inl x :: S => K L (vi x :: vi x :: S) M
  | .inr (.inr x) :: S => K L (vr x :: vr x :: S) M
  | _ => False
def mm_dup2 (K : mmK) : mmK := fun L S M => match S with
  | .inl x :: .inr (.inr o) :: S => K L (vi x :: vr o :: vi x :: vr o :: S) M
  | .inl x :: .inl o :: S => K L (vi x :: vi o :: vi x :: vi o :: S) M
  | _ => False

/-- the static shape: an object's class (arrays: 100 int, 101 byte, 102 of int arrays) and an array's length; the planner's object is 0, the reference's 62 -/
def mm_tab : List (Nat × Int) := [(10, 0), (3, 0), (101, 600), (4, 0), (100, 60), (100, 32), (100, 32), (100, 60), (2, 0), (100, 25), (100, 25), (100, 25), (100, 25), (4, 0), (100, 60), (100, 32), (100, 32), (100, 60), (2, 0), (100, 25), (100, 25), (100, 25), (100, 25), (7, 0), (100, 64), (100, 8), (1, 0), (5, 0), (100, 25), (9, 0), (100, 6), (6, 0), (100, 25), (100, 25), (102, 5), (100, 26), (100, 26), (100, 26), (100, 26), (100, 26), (9, 0), (100, 6), (8, 0), (5, 0), (100, 25), (9, 0), (100, 6), (0, 0), (100, 12), (102, 12), (100, 4), (100, 4), (100, 4), (100, 4), (100, 4), (100, 4), (100, 4), (100, 4), (100, 4), (100, 4), (100, 4), (100, 4), (11, 0), (101, 600), (100, 60), (100, 32), (100, 32), (100, 100), (100, 60), (100, 32), (100, 32), (100, 96), (100, 60), (100, 64), (100, 8), (100, 25), (100, 125)]
def mm_cls (o : Nat) : Nat := (mm_tab.getD o (999, 0)).1
def mm_len (o : Nat) : Int := (mm_tab.getD o (999, 0)).2
def mm_geti (ci : Nat) (k : Int) (K : mmK) : mmK := fun L S M => match S with
  | .inr (.inr o) :: S => mm_cls o = ci ∧ K L (vi (M o k) :: S) M
  | _ => False
def mm_geta (ci : Nat) (d : Nat) (K : mmK) : mmK := fun L S M => match S with
  | .inr (.inr o) :: S => mm_cls o = ci ∧ K L (vr (o + d) :: S) M
  | _ => False
def mm_puti (ci : Nat) (k : Int) (K : mmK) : mmK := fun L S M => match S with
  | .inl x :: .inr (.inr o) :: S => mm_cls o = ci ∧ K L S (mm_up M o k x)
  | _ => False
def mm_iald (K : mmK) : mmK := fun L S M => match S with
  | .inl i :: .inr (.inr a) :: S => mm_cls a = 100 ∧ (0 ≤ i ∧ i < mm_len a) ∧ K L (vi (M a i) :: S) M
  | _ => False
def mm_bald (K : mmK) : mmK := fun L S M => match S with
  | .inl i :: .inr (.inr a) :: S => mm_cls a = 101 ∧ (0 ≤ i ∧ i < mm_len a) ∧ K L (vi (M a i) :: S) M
  | _ => False
def mm_aald (K : mmK) : mmK := fun L S M => match S with
  | .inl i :: .inr (.inr a) :: S => mm_cls a = 102 ∧ (0 ≤ i ∧ i < mm_len a) ∧ K L (vr (a + 1 + i.toNat) :: S) M
  | _ => False
def mm_iast (K : mmK) : mmK := fun L S M => match S with
  | .inl x :: .inl i :: .inr (.inr a) :: S => mm_cls a = 100 ∧ (0 ≤ i ∧ i < mm_len a) ∧ K L S (mm_up M a i x)
  | _ => False
def mm_bast (K : mmK) : mmK := fun L S M => match S with
  | .inl x :: .inl i :: .inr (.inr a) :: S => mm_cls a = 101 ∧ (0 ≤ i ∧ i < mm_len a) ∧ K L S (mm_up M a i (mm_i2b x))
  | _ => False
def mm_alen (K : mmK) : mmK := fun L S M => match S with
  | .inr (.inr a) :: S => (mm_cls a = 100 ∨ mm_cls a = 101) ∧ K L (vi (mm_len a) :: S) M
  | _ => False
def mm_acpy (K : mmK) : mmK := fun L S M => match S with
  | .inl n :: .inl dp :: .inr (.inr b) :: .inl sp :: .inr (.inr a) :: S => (mm_cls a = 100 ∧ mm_cls b = 100 ∧ ¬ a = b ∧ 0 ≤ n ∧ 0 ≤ sp ∧ sp + n ≤ mm_len a ∧ 0 ≤ dp ∧ dp + n ≤ mm_len b ∧ mm_cats S ≤ 8) ∧ K L S (mm_cpy M a sp b dp n)
  | _ => False
def mm_call (T : List (Nat × mmT)) (x n : Nat) (K : mmK) : mmK := fun L S M => mm_pop (fun as S => mm_cats S ≤ 8 ∧ mm_find T x as M (fun r M => K L (mm_push r S) M)) n [] S
def mm_recv (x : Nat) (as : List mmV) : Prop := match as with
  | .inr (.inr o) :: _ => mm_cls o = x / 100
  | _ => False
def mm_callv (T : List (Nat × mmT)) (x n : Nat) (K : mmK) : mmK := fun L S M => mm_pop (fun as S => mm_recv x as ∧ mm_cats S ≤ 8 ∧ mm_find T x as M (fun r M => K L (mm_push r S) M)) n [] S
def mm_reti (Q : mmP) : mmK := fun _ S M => match S with
  | [.inl x] => Q (some (vi x)) M
  | _ => False
def mm_retz (Q : mmP) : mmK := fun _ S M => match S with
  | [.inl x] => (x = 0 ∨ x = 1) ∧ Q (some (vi x)) M
  | _ => False
def mm_retl (Q : mmP) : mmK := fun _ S M => match S with
  | [.inr (.inl x)] => Q (some (vl x)) M
  | _ => False
def mm_reta (Q : mmP) : mmK := fun _ S M => match S with
  | [.inr (.inr x)] => Q (some (vr x)) M
  | _ => False
def mm_retv (Q : mmP) : mmK := fun _ S M => match S with
  | [] => Q none M
  | _ => False
/-- what must hold ahead of a block; the instruction's name is a tag: iload, lload, aload, istore .. with the index for all forms; iconst: an int constant, bipush: a long one; getfield an int field, getstatic a reference field (x its class, y its place or its distance); fadd Math.max, fsub Math.min, fmul arraycopy; freturn a boolean's return; nop: on to the block there -/
def mm_wp (T : List (Nat × mmT)) (J : mmJ) (Q : mmP) : List mmO → mmK
  | [] => fun _ _ _ => False
  | (pc, i, x, y) :: r => match i with
    | .iload n => mm_ldi n (mm_wp T J Q r)
    | .lload n => mm_ldl n (mm_wp T J Q r)
    | .aload n => mm_lda n (mm_wp T J Q r)
    | .istore n => mm_sti n (mm_wp T J Q r)
    | .lstore n => mm_stl n (mm_wp T J Q r)
    | .astore n => mm_sta n (mm_wp T J Q r)
    | .iinc n d => mm_inc n d (mm_wp T J Q r)
    | .iconst z => fun L S M => mm_wp T J Q r L (vi z :: S) M
    | .bipush z => fun L S M => mm_wp T J Q r L (vl z :: S) M
    | .ldc z => fun L S M => mm_wp T J Q r L (vr (1000 + z) :: S) M
    | .iadd => mm_2i (fun x y => mm_R (x + y)) (fun x y => x + y) (mm_wp T J Q r)
    | .isub => mm_2i (fun x y => mm_R (x - y)) (fun x y => x - y) (mm_wp T J Q r)
    | .imul => mm_2i (fun x y => mm_R (x * y)) (fun x y => x * y) (mm_wp T J Q r)
    | .idiv => mm_2i (fun x y => 0 < y) (fun x y => Int.tdiv x y) (mm_wp T J Q r)
    | .irem => mm_2i (fun x y => 0 < y) (fun x y => Int.tmod x y) (mm_wp T J Q r)
    | .iand => mm_2i (fun _ _ => True) mm_and (mm_wp T J Q r)
    | .ixor => mm_2i (fun _ _ => True) mm_xor (mm_wp T J Q r)
    | .ishr => mm_2i (fun _ _ => True) mm_shr (mm_wp T J Q r)
    | .fadd => mm_mm max (mm_wp T J Q r)
    | .fsub => mm_mm min (mm_wp T J Q r)
    | .ladd => mm_2l (fun x y => mm_R64 (x + y)) (fun x y => x + y) (mm_wp T J Q r)
    | .lsub => mm_2l (fun x y => mm_R64 (x - y)) (fun x y => x - y) (mm_wp T J Q r)
    | .lmul => mm_2l (fun x y => mm_R64 (x * y)) (fun x y => x * y) (mm_wp T J Q r)
    | .ldiv => mm_2l (fun x y => 0 < y) (fun x y => Int.tdiv x y) (mm_wp T J Q r)
    | .lcmp => mm_lcmp (mm_wp T J Q r)
    | .i2l => mm_i2l (mm_wp T J Q r)
    | .l2i => mm_l2i (mm_wp T J Q r)
    | .i2b => mm_cast8 (mm_wp T J Q r)
    | .if_icmp c _ => mm_if2 c (J x) (mm_wp T J Q r)
    | .ifCond c _ => mm_if1 c (J x) (mm_wp T J Q r)
    | .goto _ => J x
    | .nop => J pc
    | .lookupswitch _ ps => mm_swi J x ps.toList
    | .getfield _ => mm_geti x y (mm_wp T J Q r)
    | .getstatic _ => mm_geta x y.toNat (mm_wp T J Q r)
    | .putfield _ => mm_puti x y (mm_wp T J Q r)
    | .iaload => mm_iald (mm_wp T J Q r)
    | .baload => mm_bald (mm_wp T J Q r)
    | .aaload => mm_aald (mm_wp T J Q r)
    | .iastore => mm_iast (mm_wp T J Q r)
    | .bastore => mm_bast (mm_wp T J Q r)
    | .arraylength => mm_alen (mm_wp T J Q r)
    | .fmul => mm_acpy (mm_wp T J Q r)
    | .invokevirtual _ => mm_callv T x y.toNat (mm_wp T J Q r)
    | .invokestatic _ => mm_call T x y.toNat (mm_wp T J Q r)
    | .dup => mm_dup (mm_wp T J Q r)
    | .dup2 => mm_dup2 (mm_wp T J Q r)
    | .pop => mm_pop1 (mm_wp T J Q r)
    | .ireturn => mm_reti Q
    | .freturn => mm_retz Q
    | .lreturn => mm_retl Q
    | .areturn => mm_reta Q
    | .return_ => mm_retv Q
    | _ => fun _ _ _ => False
def mm_lk (l : List (Nat × List mmO)) (b : Nat) : List mmO := match l with
  | [] => []
  | q :: r => cond (Nat.beq q.1 b) q.2 (mm_lk r b)
def mm_ent (as : List mmV) : mmL := match as with
  | [] => []
  | .inr (.inl x) :: r => some (vl x) :: none :: mm_ent r
  | v :: r => some v :: mm_ent r
/-- the locals at a method's start -/
def mm_entry (n : Nat) (as : List mmV) : mmL := mm_ent as ++ List.replicate (n - (mm_ent as).length) none
def mm_vin (v : mmV) : Prop := match v with
  | .inl x => mm_R x
  | .inr (.inl x) => mm_R64 x
  | .inr (.inr _) => True
def mm_mem (M : mmM) : Prop := ∀ o i, mm_R (M o i)
/-- a method's run from its start: whatever is kept by all blocks holds at the first one -/
def mm_ok (B : List (Nat × List mmO)) (T : List (Nat × mmT)) (L : mmL) (M : mmM) (Q : mmP) : Prop :=
  ∀ J : mmJ, (∀ b L S M, mm_wp T J Q (mm_lk B b) L S M → J b L S M) → J 0 L [] M
end
section
/-! the blocks of every method, written by a program out of the listing: pc, instruction, two numbers -/
def mo_Acts_note_0 : List mmO := [(0, .aload 0, 0, 0), (1, .getstatic 9, 0, 1), (4, .aload 0, 0, 0), (5, .getfield 20, 0, 3), (8, .iload 1, 0, 0), (9, .iastore, 0, 0), (10, .aload 0, 0, 0), (11, .getstatic 17, 0, 2), (14, .aload 0, 0, 0), (15, .getfield 20, 0, 3), (18, .aaload, 0, 0), (19, .astore 6, 0, 0), (21, .aload 6, 0, 0), (23, .iconst (0), 0, 0), (24, .iload 2, 0, 0), (25, .iastore, 0, 0), (26, .aload 6, 0, 0), (28, .iconst (1), 0, 0), (29, .iload 3, 0, 0), (30, .iastore, 0, 0), (31, .aload 6, 0, 0), (33, .iconst (2), 0, 0), (34, .iload 4, 0, 0), (36, .iastore, 0, 0), (37, .aload 6, 0, 0), (39, .iconst (3), 0, 0), (40, .iload 5, 0, 0), (42, .iastore, 0, 0), (43, .aload 0, 0, 0), (44, .aload 0, 0, 0), (45, .getfield 20, 0, 3), (48, .iconst (1), 0, 0), (49, .iadd, 0, 0), (50, .iconst (12), 0, 0), (52, .irem, 0, 0), (53, .putfield 20, 0, 3), (56, .aload 0, 0, 0), (57, .aload 0, 0, 0), (58, .getfield 24, 0, 2), (61, .iconst (1), 0, 0), (62, .iadd, 0, 0), (63, .iconst (12), 0, 0), (65, .fsub, 27, 0), (68, .putfield 24, 0, 2), (71, .return_, 0, 0)]
def mb_Acts_note : List (Nat × List mmO) := [(0, mo_Acts_note_0)]
def mo_Acts_takeLast_0 : List mmO := [(0, .aload 0, 0, 0), (1, .getfield 24, 0, 2), (4, .ifCond .ne 0, 9, 0), (7, .iconst (-1), 0, 0), (8, .ireturn, 0, 0)]
def mo_Acts_takeLast_9 : List mmO := [(9, .aload 0, 0, 0), (10, .dup, 0, 0), (11, .getfield 24, 0, 2), (14, .iconst (1), 0, 0), (15, .isub, 0, 0), (16, .putfield 24, 0, 2), (19, .aload 0, 0, 0), (20, .aload 0, 0, 0), (21, .getfield 20, 0, 3), (24, .iconst (12), 0, 0), (26, .iadd, 0, 0), (27, .iconst (1), 0, 0), (28, .isub, 0, 0), (29, .iconst (12), 0, 0), (31, .irem, 0, 0), (32, .putfield 20, 0, 3), (35, .aload 0, 0, 0), (36, .getfield 20, 0, 3), (39, .ireturn, 0, 0)]
def mb_Acts_takeLast : List (Nat × List mmO) := [(0, mo_Acts_takeLast_0), (9, mo_Acts_takeLast_9)]
def mo_Plan_lay_0 : List mmO := [(0, .aload 0, 0, 0), (1, .getstatic 12, 1, 1), (4, .iconst (0), 0, 0), (5, .putfield 25, 5, 1), (8, .iconst (0), 0, 0), (9, .istore 5, 0, 0), (11, .nop, 0, 0)]
def mo_Plan_lay_11 : List mmO := [(11, .iload 5, 0, 0), (13, .aload 1, 0, 0), (14, .getfield 29, 2, 4), (17, .if_icmp .ge 0, 57, 0), (20, .iload 5, 0, 0), (22, .iload 4, 0, 0), (24, .if_icmp .eq 0, 51, 0), (27, .aload 1, 0, 0), (28, .iload 5, 0, 0), (30, .invokevirtual 32, 206, 2), (33, .ifCond .eq 0, 51, 0), (36, .aload 0, 0, 0), (37, .getstatic 12, 1, 1), (40, .aload 1, 0, 0), (41, .iload 5, 0, 0), (43, .iload 2, 0, 0), (44, .iload 3, 0, 0), (45, .invokestatic 36, 102, 4), (48, .invokevirtual 40, 502, 2), (51, .nop, 0, 0)]
def mo_Plan_lay_51 : List mmO := [(51, .iinc 5 (1), 0, 0), (54, .goto 0, 11, 0)]
def mo_Plan_lay_57 : List mmO := [(57, .return_, 0, 0)]
def mb_Plan_lay : List (Nat × List mmO) := [(0, mo_Plan_lay_0), (11, mo_Plan_lay_11), (51, mo_Plan_lay_51), (57, mo_Plan_lay_57)]
def mo_Plan_keyOf_0 : List mmO := [(0, .iload 3, 0, 0), (1, .iconst (1), 0, 0), (2, .if_icmp .ge 0, 7, 0), (5, .iload 1, 0, 0), (6, .ireturn, 0, 0)]
def mo_Plan_keyOf_7 : List mmO := [(7, .aload 0, 0, 0), (8, .getstatic 44, 2, 2), (11, .iload 1, 0, 0), (12, .iaload, 0, 0), (13, .iload 3, 0, 0), (14, .idiv, 0, 0), (15, .istore 4, 0, 0), (17, .aload 0, 0, 0), (18, .getstatic 48, 2, 3), (21, .iload 1, 0, 0), (22, .iaload, 0, 0), (23, .iload 3, 0, 0), (24, .idiv, 0, 0), (25, .istore 5, 0, 0), (27, .aload 0, 0, 0), (28, .getstatic 51, 2, 4), (31, .iload 1, 0, 0), (32, .iaload, 0, 0), (33, .istore 6, 0, 0), (35, .iload 2, 0, 0), (36, .ifCond .ne 0, 50, 0), (39, .iload 4, 0, 0), (41, .iload 5, 0, 0), (43, .iload 6, 0, 0), (45, .iload 1, 0, 0), (46, .invokestatic 54, 501, 4), (49, .ireturn, 0, 0)]
def mo_Plan_keyOf_50 : List mmO := [(50, .iload 2, 0, 0), (51, .iconst (2), 0, 0), (52, .if_icmp .ne 0, 70, 0), (55, .iconst (0), 0, 0), (56, .iload 4, 0, 0), (58, .iload 5, 0, 0), (60, .invokestatic 58, 104, 2), (63, .iload 6, 0, 0), (65, .iload 1, 0, 0), (66, .invokestatic 54, 501, 4), (69, .ireturn, 0, 0)]
def mo_Plan_keyOf_70 : List mmO := [(70, .iload 4, 0, 0), (72, .iload 4, 0, 0), (74, .iload 5, 0, 0), (76, .invokestatic 62, 103, 2), (79, .iload 5, 0, 0), (81, .iload 6, 0, 0), (83, .invokestatic 62, 103, 2), (86, .iload 1, 0, 0), (87, .invokestatic 54, 501, 4), (90, .ireturn, 0, 0)]
def mb_Plan_keyOf : List (Nat × List mmO) := [(0, mo_Plan_keyOf_0), (7, mo_Plan_keyOf_7), (50, mo_Plan_keyOf_50), (70, mo_Plan_keyOf_70)]
def mo_Plan_thereAndBack_0 : List mmO := [(0, .iload 0, 0, 0), (1, .iconst (2), 0, 0), (2, .irem, 0, 0), (3, .ifCond .ne 0, 10, 0), (6, .iload 1, 0, 0), (7, .goto 0, 14, 0)]
def mo_Plan_thereAndBack_10 : List mmO := [(10, .iconst (63), 0, 0), (12, .iload 1, 0, 0), (13, .isub, 0, 0), (14, .nop, 0, 0)]
def mo_Plan_thereAndBack_14 : List mmO := [(14, .ireturn, 0, 0)]
def mb_Plan_thereAndBack : List (Nat × List mmO) := [(0, mo_Plan_thereAndBack_0), (10, mo_Plan_thereAndBack_10), (14, mo_Plan_thereAndBack_14)]
def mo_Plan_curve_0 : List mmO := [(0, .iload 0, 0, 0), (1, .istore 2, 0, 0), (2, .iload 1, 0, 0), (3, .istore 3, 0, 0), (4, .iconst (0), 0, 0), (5, .istore 4, 0, 0), (7, .iconst (32), 0, 0), (9, .istore 5, 0, 0), (11, .nop, 0, 0)]
def mo_Plan_curve_11 : List mmO := [(11, .iload 5, 0, 0), (13, .ifCond .le 0, 114, 0), (16, .iload 2, 0, 0), (17, .iload 5, 0, 0), (19, .iand, 0, 0), (20, .ifCond .eq 0, 27, 0), (23, .iconst (1), 0, 0), (24, .goto 0, 28, 0)]
def mo_Plan_curve_27 : List mmO := [(27, .iconst (0), 0, 0), (28, .nop, 0, 0)]
def mo_Plan_curve_28 : List mmO := [(28, .istore 6, 0, 0), (30, .iload 3, 0, 0), (31, .iload 5, 0, 0), (33, .iand, 0, 0), (34, .ifCond .eq 0, 41, 0), (37, .iconst (1), 0, 0), (38, .goto 0, 42, 0)]
def mo_Plan_curve_41 : List mmO := [(41, .iconst (0), 0, 0), (42, .nop, 0, 0)]
def mo_Plan_curve_42 : List mmO := [(42, .istore 7, 0, 0), (44, .iload 4, 0, 0), (46, .iload 5, 0, 0), (48, .iload 5, 0, 0), (50, .imul, 0, 0), (51, .iconst (3), 0, 0), (52, .iload 6, 0, 0), (54, .imul, 0, 0), (55, .iload 7, 0, 0), (57, .ixor, 0, 0), (58, .imul, 0, 0), (59, .iadd, 0, 0), (60, .istore 4, 0, 0), (62, .iload 7, 0, 0), (64, .ifCond .ne 0, 105, 0), (67, .iload 6, 0, 0), (69, .iconst (1), 0, 0), (70, .if_icmp .ne 0, 80, 0), (73, .iconst (63), 0, 0), (75, .iload 2, 0, 0), (76, .isub, 0, 0), (77, .goto 0, 81, 0)]
def mo_Plan_curve_80 : List mmO := [(80, .iload 2, 0, 0), (81, .nop, 0, 0)]
def mo_Plan_curve_81 : List mmO := [(81, .istore 8, 0, 0), (83, .iload 6, 0, 0), (85, .iconst (1), 0, 0), (86, .if_icmp .ne 0, 96, 0), (89, .iconst (63), 0, 0), (91, .iload 3, 0, 0), (92, .isub, 0, 0), (93, .goto 0, 97, 0)]
def mo_Plan_curve_96 : List mmO := [(96, .iload 3, 0, 0), (97, .nop, 0, 0)]
def mo_Plan_curve_97 : List mmO := [(97, .istore 9, 0, 0), (99, .iload 9, 0, 0), (101, .istore 2, 0, 0), (102, .iload 8, 0, 0), (104, .istore 3, 0, 0), (105, .nop, 0, 0)]
def mo_Plan_curve_105 : List mmO := [(105, .iload 5, 0, 0), (107, .iconst (2), 0, 0), (108, .idiv, 0, 0), (109, .istore 5, 0, 0), (111, .goto 0, 11, 0)]
def mo_Plan_curve_114 : List mmO := [(114, .iload 4, 0, 0), (116, .ireturn, 0, 0)]
def mb_Plan_curve : List (Nat × List mmO) := [(0, mo_Plan_curve_0), (11, mo_Plan_curve_11), (27, mo_Plan_curve_27), (28, mo_Plan_curve_28), (41, mo_Plan_curve_41), (42, mo_Plan_curve_42), (80, mo_Plan_curve_80), (81, mo_Plan_curve_81), (96, mo_Plan_curve_96), (97, mo_Plan_curve_97), (105, mo_Plan_curve_105), (114, mo_Plan_curve_114)]
def mo_Plan_follow_0 : List mmO := [(0, .aload 0, 0, 0), (1, .getstatic 21, 1, 3), (4, .invokevirtual 65, 901, 1), (7, .aload 0, 0, 0), (8, .iconst (0), 0, 0), (9, .putfield 68, 1, 2), (12, .iconst (0), 0, 0), (13, .istore 2, 0, 0), (14, .nop, 0, 0)]
def mo_Plan_follow_14 : List mmO := [(14, .iload 2, 0, 0), (15, .aload 0, 0, 0), (16, .getstatic 12, 1, 1), (19, .getfield 25, 5, 1), (22, .if_icmp .ge 0, 72, 0), (25, .aload 1, 0, 0), (26, .aload 0, 0, 0), (27, .getstatic 21, 1, 3), (30, .aload 0, 0, 0), (31, .getstatic 12, 1, 1), (34, .iload 2, 0, 0), (35, .invokevirtual 71, 503, 2), (38, .invokevirtual 75, 212, 3), (41, .aload 0, 0, 0), (42, .aload 0, 0, 0), (43, .getfield 68, 1, 2), (46, .aload 0, 0, 0), (47, .getstatic 21, 1, 3), (50, .aload 0, 0, 0), (51, .getstatic 21, 1, 3), (54, .invokevirtual 79, 905, 1), (57, .invokevirtual 83, 907, 2), (60, .fadd, 86, 0), (63, .putfield 68, 1, 2), (66, .iinc 2 (1), 0, 0), (69, .goto 0, 14, 0)]
def mo_Plan_follow_72 : List mmO := [(72, .return_, 0, 0)]
def mb_Plan_follow : List (Nat × List mmO) := [(0, mo_Plan_follow_0), (14, mo_Plan_follow_14), (72, mo_Plan_follow_72)]
def mo_Plan_goAhead_0 : List mmO := [(0, .aload 0, 0, 0), (1, .getstatic 21, 1, 3), (4, .invokevirtual 65, 901, 1), (7, .iload 2, 0, 0), (8, .istore 3, 0, 0), (9, .iconst (0), 0, 0), (10, .istore 4, 0, 0), (12, .nop, 0, 0)]
def mo_Plan_goAhead_12 : List mmO := [(12, .iload 4, 0, 0), (14, .aload 0, 0, 0), (15, .getstatic 12, 1, 1), (18, .getfield 25, 5, 1), (21, .if_icmp .ge 0, 78, 0), (24, .aload 1, 0, 0), (25, .aload 0, 0, 0), (26, .getstatic 21, 1, 3), (29, .aload 0, 0, 0), (30, .getstatic 12, 1, 1), (33, .iload 4, 0, 0), (35, .invokevirtual 71, 503, 2), (38, .invokevirtual 75, 212, 3), (41, .iload 3, 0, 0), (42, .aload 0, 0, 0), (43, .getstatic 21, 1, 3), (46, .iload 3, 0, 0), (47, .invokevirtual 83, 907, 2), (50, .isub, 0, 0), (51, .istore 3, 0, 0), (52, .aload 0, 0, 0), (53, .getstatic 21, 1, 3), (56, .invokevirtual 79, 905, 1), (59, .ifCond .le 0, 72, 0), (62, .aload 0, 0, 0), (63, .getstatic 12, 1, 1), (66, .iload 4, 0, 0), (68, .invokevirtual 71, 503, 2), (71, .ireturn, 0, 0)]
def mo_Plan_goAhead_72 : List mmO := [(72, .iinc 4 (1), 0, 0), (75, .goto 0, 12, 0)]
def mo_Plan_goAhead_78 : List mmO := [(78, .iconst (-1), 0, 0), (79, .ireturn, 0, 0)]
def mb_Plan_goAhead : List (Nat × List mmO) := [(0, mo_Plan_goAhead_0), (12, mo_Plan_goAhead_12), (72, mo_Plan_goAhead_72), (78, mo_Plan_goAhead_78)]
def mo_Q_isPlannedKind_0 : List mmO := [(0, .iload 0, 0, 0), (1, .iconst (2), 0, 0), (2, .if_icmp .eq 0, 20, 0), (5, .iload 0, 0, 0), (6, .iconst (3), 0, 0), (7, .if_icmp .eq 0, 20, 0), (10, .iload 0, 0, 0), (11, .iconst (6), 0, 0), (13, .if_icmp .eq 0, 20, 0), (16, .iconst (1), 0, 0), (17, .goto 0, 21, 0)]
def mo_Q_isPlannedKind_20 : List mmO := [(20, .iconst (0), 0, 0), (21, .nop, 0, 0)]
def mo_Q_isPlannedKind_21 : List mmO := [(21, .freturn, 0, 0)]
def mb_Q_isPlannedKind : List (Nat × List mmO) := [(0, mo_Q_isPlannedKind_0), (20, mo_Q_isPlannedKind_20), (21, mo_Q_isPlannedKind_21)]
def mo_Q_copyFrom_0 : List mmO := [(0, .aload 0, 0, 0), (1, .iconst (0), 0, 0), (2, .putfield 24, 2, 4), (5, .iconst (0), 0, 0), (6, .istore 2, 0, 0), (7, .nop, 0, 0)]
def mo_Q_copyFrom_7 : List mmO := [(7, .iload 2, 0, 0), (8, .aload 1, 0, 0), (9, .getfield 24, 2, 4), (12, .if_icmp .ge 0, 49, 0), (15, .aload 0, 0, 0), (16, .aload 1, 0, 0), (17, .getstatic 9, 2, 1), (20, .iload 2, 0, 0), (21, .iaload, 0, 0), (22, .aload 1, 0, 0), (23, .getstatic 15, 2, 2), (26, .iload 2, 0, 0), (27, .iaload, 0, 0), (28, .aload 1, 0, 0), (29, .getstatic 18, 2, 3), (32, .iload 2, 0, 0), (33, .iaload, 0, 0), (34, .aload 1, 0, 0), (35, .getstatic 21, 2, 4), (38, .iload 2, 0, 0), (39, .iaload, 0, 0), (40, .invokevirtual 28, 204, 5), (43, .iinc 2 (1), 0, 0), (46, .goto 0, 7, 0)]
def mo_Q_copyFrom_49 : List mmO := [(49, .return_, 0, 0)]
def mb_Q_copyFrom : List (Nat × List mmO) := [(0, mo_Q_copyFrom_0), (7, mo_Q_copyFrom_7), (49, mo_Q_copyFrom_49)]
def mo_Q_has_0 : List mmO := [(0, .iload 1, 0, 0), (1, .ifCond .lt 0, 16, 0), (4, .iload 1, 0, 0), (5, .aload 0, 0, 0), (6, .getfield 24, 2, 4), (9, .if_icmp .ge 0, 16, 0), (12, .iconst (1), 0, 0), (13, .goto 0, 17, 0)]
def mo_Q_has_16 : List mmO := [(16, .iconst (0), 0, 0), (17, .nop, 0, 0)]
def mo_Q_has_17 : List mmO := [(17, .freturn, 0, 0)]
def mb_Q_has : List (Nat × List mmO) := [(0, mo_Q_has_0), (16, mo_Q_has_16), (17, mo_Q_has_17)]
def mo_Q_add_0 : List mmO := [(0, .aload 0, 0, 0), (1, .getfield 24, 2, 4), (4, .iconst (24), 0, 0), (6, .if_icmp .gt 0, 60, 0), (9, .aload 0, 0, 0), (10, .getstatic 9, 2, 1), (13, .aload 0, 0, 0), (14, .getfield 24, 2, 4), (17, .iload 1, 0, 0), (18, .iastore, 0, 0), (19, .aload 0, 0, 0), (20, .getstatic 15, 2, 2), (23, .aload 0, 0, 0), (24, .getfield 24, 2, 4), (27, .iload 2, 0, 0), (28, .iastore, 0, 0), (29, .aload 0, 0, 0), (30, .getstatic 18, 2, 3), (33, .aload 0, 0, 0), (34, .getfield 24, 2, 4), (37, .iload 3, 0, 0), (38, .iastore, 0, 0), (39, .aload 0, 0, 0), (40, .getstatic 21, 2, 4), (43, .aload 0, 0, 0), (44, .getfield 24, 2, 4), (47, .iload 4, 0, 0), (49, .iastore, 0, 0), (50, .aload 0, 0, 0), (51, .dup, 0, 0), (52, .getfield 24, 2, 4), (55, .iconst (1), 0, 0), (56, .iadd, 0, 0), (57, .putfield 24, 2, 4), (60, .nop, 0, 0)]
def mo_Q_add_60 : List mmO := [(60, .return_, 0, 0)]
def mb_Q_add : List (Nat × List mmO) := [(0, mo_Q_add_0), (60, mo_Q_add_60)]
def mo_Q_removeLast_0 : List mmO := [(0, .aload 0, 0, 0), (1, .getfield 24, 2, 4), (4, .ifCond .le 0, 17, 0), (7, .aload 0, 0, 0), (8, .dup, 0, 0), (9, .getfield 24, 2, 4), (12, .iconst (1), 0, 0), (13, .isub, 0, 0), (14, .putfield 24, 2, 4), (17, .nop, 0, 0)]
def mo_Q_removeLast_17 : List mmO := [(17, .return_, 0, 0)]
def mb_Q_removeLast : List (Nat × List mmO) := [(0, mo_Q_removeLast_0), (17, mo_Q_removeLast_17)]
def mo_Q_isPlanned_0 : List mmO := [(0, .aload 0, 0, 0), (1, .getstatic 9, 2, 1), (4, .iload 1, 0, 0), (5, .iaload, 0, 0), (6, .invokestatic 32, 201, 1), (9, .freturn, 0, 0)]
def mb_Q_isPlanned : List (Nat × List mmO) := [(0, mo_Q_isPlanned_0)]
def mo_Q_areAlike_0 : List mmO := [(0, .aload 0, 0, 0), (1, .getstatic 9, 2, 1), (4, .iload 1, 0, 0), (5, .iaload, 0, 0), (6, .aload 0, 0, 0), (7, .getstatic 9, 2, 1), (10, .iload 2, 0, 0), (11, .iaload, 0, 0), (12, .if_icmp .ne 0, 64, 0), (15, .aload 0, 0, 0), (16, .getstatic 15, 2, 2), (19, .iload 1, 0, 0), (20, .iaload, 0, 0), (21, .aload 0, 0, 0), (22, .getstatic 15, 2, 2), (25, .iload 2, 0, 0), (26, .iaload, 0, 0), (27, .if_icmp .ne 0, 64, 0), (30, .aload 0, 0, 0), (31, .getstatic 18, 2, 3), (34, .iload 1, 0, 0), (35, .iaload, 0, 0), (36, .aload 0, 0, 0), (37, .getstatic 18, 2, 3), (40, .iload 2, 0, 0), (41, .iaload, 0, 0), (42, .if_icmp .ne 0, 64, 0), (45, .aload 0, 0, 0), (46, .getstatic 21, 2, 4), (49, .iload 1, 0, 0), (50, .iaload, 0, 0), (51, .aload 0, 0, 0), (52, .getstatic 21, 2, 4), (55, .iload 2, 0, 0), (56, .iaload, 0, 0), (57, .if_icmp .ne 0, 64, 0), (60, .iconst (1), 0, 0), (61, .goto 0, 65, 0)]
def mo_Q_areAlike_64 : List mmO := [(64, .iconst (0), 0, 0), (65, .nop, 0, 0)]
def mo_Q_areAlike_65 : List mmO := [(65, .freturn, 0, 0)]
def mb_Q_areAlike : List (Nat × List mmO) := [(0, mo_Q_areAlike_0), (64, mo_Q_areAlike_64), (65, mo_Q_areAlike_65)]
def mo_Q_firstAlike_0 : List mmO := [(0, .iconst (0), 0, 0), (1, .istore 2, 0, 0), (2, .nop, 0, 0)]
def mo_Q_firstAlike_2 : List mmO := [(2, .iload 2, 0, 0), (3, .iload 1, 0, 0), (4, .if_icmp .ge 0, 24, 0), (7, .aload 0, 0, 0), (8, .iload 1, 0, 0), (9, .iload 2, 0, 0), (10, .invokevirtual 36, 207, 3), (13, .ifCond .eq 0, 18, 0), (16, .iload 2, 0, 0), (17, .ireturn, 0, 0)]
def mo_Q_firstAlike_18 : List mmO := [(18, .iinc 2 (1), 0, 0), (21, .goto 0, 2, 0)]
def mo_Q_firstAlike_24 : List mmO := [(24, .iload 1, 0, 0), (25, .ireturn, 0, 0)]
def mb_Q_firstAlike : List (Nat × List mmO) := [(0, mo_Q_firstAlike_0), (2, mo_Q_firstAlike_2), (18, mo_Q_firstAlike_18), (24, mo_Q_firstAlike_24)]
def mo_Q_howManyAlike_0 : List mmO := [(0, .iconst (0), 0, 0), (1, .istore 2, 0, 0), (2, .iconst (0), 0, 0), (3, .istore 3, 0, 0), (4, .nop, 0, 0)]
def mo_Q_howManyAlike_4 : List mmO := [(4, .iload 3, 0, 0), (5, .aload 0, 0, 0), (6, .getfield 24, 2, 4), (9, .if_icmp .ge 0, 30, 0), (12, .aload 0, 0, 0), (13, .iload 1, 0, 0), (14, .iload 3, 0, 0), (15, .invokevirtual 36, 207, 3), (18, .ifCond .eq 0, 24, 0), (21, .iinc 2 (1), 0, 0), (24, .nop, 0, 0)]
def mo_Q_howManyAlike_24 : List mmO := [(24, .iinc 3 (1), 0, 0), (27, .goto 0, 4, 0)]
def mo_Q_howManyAlike_30 : List mmO := [(30, .iload 2, 0, 0), (31, .ireturn, 0, 0)]
def mb_Q_howManyAlike : List (Nat × List mmO) := [(0, mo_Q_howManyAlike_0), (4, mo_Q_howManyAlike_4), (24, mo_Q_howManyAlike_24), (30, mo_Q_howManyAlike_30)]
def mo_Q_unlikeOnes_0 : List mmO := [(0, .iconst (0), 0, 0), (1, .istore 1, 0, 0), (2, .iconst (0), 0, 0), (3, .istore 2, 0, 0), (4, .nop, 0, 0)]
def mo_Q_unlikeOnes_4 : List mmO := [(4, .iload 2, 0, 0), (5, .aload 0, 0, 0), (6, .getfield 24, 2, 4), (9, .if_icmp .ge 0, 30, 0), (12, .aload 0, 0, 0), (13, .iload 2, 0, 0), (14, .invokevirtual 40, 208, 2), (17, .iload 2, 0, 0), (18, .if_icmp .ne 0, 24, 0), (21, .iinc 1 (1), 0, 0), (24, .nop, 0, 0)]
def mo_Q_unlikeOnes_24 : List mmO := [(24, .iinc 2 (1), 0, 0), (27, .goto 0, 4, 0)]
def mo_Q_unlikeOnes_30 : List mmO := [(30, .iload 1, 0, 0), (31, .ireturn, 0, 0)]
def mb_Q_unlikeOnes : List (Nat × List mmO) := [(0, mo_Q_unlikeOnes_0), (4, mo_Q_unlikeOnes_4), (24, mo_Q_unlikeOnes_24), (30, mo_Q_unlikeOnes_30)]
def mo_Q_howManyHave_0 : List mmO := [(0, .iconst (0), 0, 0), (1, .istore 2, 0, 0), (2, .iconst (0), 0, 0), (3, .istore 3, 0, 0), (4, .nop, 0, 0)]
def mo_Q_howManyHave_4 : List mmO := [(4, .iload 3, 0, 0), (5, .aload 0, 0, 0), (6, .getfield 24, 2, 4), (9, .if_icmp .ge 0, 41, 0), (12, .aload 0, 0, 0), (13, .getstatic 15, 2, 2), (16, .iload 3, 0, 0), (17, .iaload, 0, 0), (18, .iload 1, 0, 0), (19, .if_icmp .gt 0, 35, 0), (22, .iload 1, 0, 0), (23, .aload 0, 0, 0), (24, .getstatic 18, 2, 3), (27, .iload 3, 0, 0), (28, .iaload, 0, 0), (29, .if_icmp .gt 0, 35, 0), (32, .iinc 2 (1), 0, 0), (35, .nop, 0, 0)]
def mo_Q_howManyHave_35 : List mmO := [(35, .iinc 3 (1), 0, 0), (38, .goto 0, 4, 0)]
def mo_Q_howManyHave_41 : List mmO := [(41, .iload 2, 0, 0), (42, .ireturn, 0, 0)]
def mb_Q_howManyHave : List (Nat × List mmO) := [(0, mo_Q_howManyHave_0), (4, mo_Q_howManyHave_4), (35, mo_Q_howManyHave_35), (41, mo_Q_howManyHave_41)]
def mo_Q_aim_0 : List mmO := [(0, .aload 0, 0, 0), (1, .iload 2, 0, 0), (2, .invokevirtual 44, 203, 2), (5, .ifCond .eq 0, 30, 0), (8, .aload 1, 0, 0), (9, .aload 0, 0, 0), (10, .getstatic 15, 2, 2), (13, .iload 2, 0, 0), (14, .iaload, 0, 0), (15, .aload 0, 0, 0), (16, .getstatic 18, 2, 3), (19, .iload 2, 0, 0), (20, .iaload, 0, 0), (21, .aload 0, 0, 0), (22, .getstatic 21, 2, 4), (25, .iload 2, 0, 0), (26, .iaload, 0, 0), (27, .invokevirtual 47, 904, 4), (30, .nop, 0, 0)]
def mo_Q_aim_30 : List mmO := [(30, .return_, 0, 0)]
def mb_Q_aim : List (Nat × List mmO) := [(0, mo_Q_aim_0), (30, mo_Q_aim_30)]
def mo_Rd_put_0 : List mmO := [(0, .iconst (24), 0, 0), (2, .istore 2, 0, 0), (3, .nop, 0, 0)]
def mo_Rd_put_3 : List mmO := [(3, .iload 2, 0, 0), (4, .ifCond .lt 0, 46, 0), (7, .aload 0, 0, 0), (8, .getfield 29, 3, 3), (11, .iconst (600), 0, 0), (14, .if_icmp .ge 0, 40, 0), (17, .aload 0, 0, 0), (18, .getstatic 9, 3, 1), (21, .aload 0, 0, 0), (22, .getfield 29, 3, 3), (25, .iload 1, 0, 0), (26, .iload 2, 0, 0), (27, .ishr, 0, 0), (28, .i2b, 0, 0), (29, .bastore, 0, 0), (30, .aload 0, 0, 0), (31, .dup, 0, 0), (32, .getfield 29, 3, 3), (35, .iconst (1), 0, 0), (36, .iadd, 0, 0), (37, .putfield 29, 3, 3), (40, .nop, 0, 0)]
def mo_Rd_put_40 : List mmO := [(40, .iinc 2 (-8), 0, 0), (43, .goto 0, 3, 0)]
def mo_Rd_put_46 : List mmO := [(46, .return_, 0, 0)]
def mb_Rd_put : List (Nat × List mmO) := [(0, mo_Rd_put_0), (3, mo_Rd_put_3), (40, mo_Rd_put_40), (46, mo_Rd_put_46)]
def mo_Rd_read_0 : List mmO := [(0, .aload 0, 0, 0), (1, .getstatic 18, 3, 2), (4, .invokevirtual 33, 401, 1), (7, .aload 0, 0, 0), (8, .getstatic 25, 3, 7), (11, .iconst (0), 0, 0), (12, .putfield 36, 2, 4), (15, .aload 0, 0, 0), (16, .iload 1, 0, 0), (17, .aload 0, 0, 0), (18, .getfield 29, 3, 3), (21, .fsub, 37, 0), (24, .putfield 43, 3, 4), (27, .aload 0, 0, 0), (28, .iconst (0), 0, 0), (29, .putfield 46, 3, 7), (32, .aload 0, 0, 0), (33, .invokevirtual 49, 314, 1), (36, .iconst (1), 0, 0), (37, .istore 2, 0, 0), (38, .nop, 0, 0)]
def mo_Rd_read_38 : List mmO := [(38, .iload 2, 0, 0), (39, .iconst (600), 0, 0), (42, .if_icmp .gt 0, 85, 0), (45, .aload 0, 0, 0), (46, .invokevirtual 52, 303, 1), (49, .ifCond .ne 0, 57, 0), (52, .aload 0, 0, 0), (53, .getfield 56, 3, 9), (56, .ireturn, 0, 0)]
def mo_Rd_read_57 : List mmO := [(57, .aload 0, 0, 0), (58, .getfield 59, 3, 5), (61, .ifCond .ne 0, 66, 0), (64, .iload 2, 0, 0), (65, .ireturn, 0, 0)]
def mo_Rd_read_66 : List mmO := [(66, .aload 0, 0, 0), (67, .iconst (3), 0, 0), (68, .invokevirtual 62, 311, 2), (71, .ifCond .ne 0, 79, 0), (74, .aload 0, 0, 0), (75, .getfield 56, 3, 9), (78, .ireturn, 0, 0)]
def mo_Rd_read_79 : List mmO := [(79, .iinc 2 (1), 0, 0), (82, .goto 0, 38, 0)]
def mo_Rd_read_85 : List mmO := [(85, .aload 0, 0, 0), (86, .getfield 56, 3, 9), (89, .ireturn, 0, 0)]
def mb_Rd_read : List (Nat × List mmO) := [(0, mo_Rd_read_0), (38, mo_Rd_read_38), (57, mo_Rd_read_57), (66, mo_Rd_read_66), (79, mo_Rd_read_79), (85, mo_Rd_read_85)]
def mo_Rd_readLine_0 : List mmO := [(0, .aload 0, 0, 0), (1, .ldc 0, 0, 0), (3, .invokevirtual 67, 313, 2), (6, .ifCond .eq 0, 14, 0), (9, .aload 0, 0, 0), (10, .invokevirtual 71, 304, 1), (13, .freturn, 0, 0)]
def mo_Rd_readLine_14 : List mmO := [(14, .aload 0, 0, 0), (15, .ldc 1, 0, 0), (17, .invokevirtual 67, 313, 2), (20, .ifCond .eq 0, 28, 0), (23, .aload 0, 0, 0), (24, .invokevirtual 76, 306, 1), (27, .freturn, 0, 0)]
def mo_Rd_readLine_28 : List mmO := [(28, .aload 0, 0, 0), (29, .ldc 2, 0, 0), (31, .invokevirtual 67, 313, 2), (34, .ifCond .eq 0, 44, 0), (37, .aload 0, 0, 0), (38, .invokevirtual 81, 307, 1), (41, .goto 0, 49, 0)]
def mo_Rd_readLine_44 : List mmO := [(44, .aload 0, 0, 0), (45, .iconst (1), 0, 0), (46, .invokevirtual 84, 310, 2), (49, .nop, 0, 0)]
def mo_Rd_readLine_49 : List mmO := [(49, .freturn, 0, 0)]
def mb_Rd_readLine : List (Nat × List mmO) := [(0, mo_Rd_readLine_0), (14, mo_Rd_readLine_14), (28, mo_Rd_readLine_28), (44, mo_Rd_readLine_44), (49, mo_Rd_readLine_49)]
def mo_Rd_readRow_0 : List mmO := [(0, .aload 0, 0, 0), (1, .getstatic 18, 3, 2), (4, .getfield 87, 4, 4), (7, .ifCond .le 0, 16, 0), (10, .aload 0, 0, 0), (11, .iconst (3), 0, 0), (12, .invokevirtual 84, 310, 2), (15, .freturn, 0, 0)]
def mo_Rd_readRow_16 : List mmO := [(16, .aload 0, 0, 0), (17, .invokevirtual 49, 314, 1), (20, .aload 0, 0, 0), (21, .invokevirtual 88, 305, 1), (24, .istore 1, 0, 0), (25, .iconst (1), 0, 0), (26, .istore 2, 0, 0), (27, .nop, 0, 0)]
def mo_Rd_readRow_27 : List mmO := [(27, .iload 1, 0, 0), (28, .ifCond .eq 0, 60, 0), (31, .aload 0, 0, 0), (32, .getfield 59, 3, 5), (35, .iconst (4), 0, 0), (36, .if_icmp .ne 0, 60, 0), (39, .iload 2, 0, 0), (40, .iconst (60), 0, 0), (42, .if_icmp .gt 0, 60, 0), (45, .aload 0, 0, 0), (46, .invokevirtual 49, 314, 1), (49, .aload 0, 0, 0), (50, .invokevirtual 88, 305, 1), (53, .istore 1, 0, 0), (54, .iinc 2 (1), 0, 0), (57, .goto 0, 27, 0)]
def mo_Rd_readRow_60 : List mmO := [(60, .iload 1, 0, 0), (61, .ifCond .eq 0, 96, 0), (64, .aload 0, 0, 0), (65, .getstatic 18, 3, 2), (68, .getfield 87, 4, 4), (71, .iconst (2), 0, 0), (72, .if_icmp .ge 0, 96, 0), (75, .aload 0, 0, 0), (76, .getfield 59, 3, 5), (79, .iconst (3), 0, 0), (80, .if_icmp .eq 0, 90, 0), (83, .aload 0, 0, 0), (84, .getfield 59, 3, 5), (87, .ifCond .ne 0, 96, 0), (90, .nop, 0, 0)]
def mo_Rd_readRow_90 : List mmO := [(90, .aload 0, 0, 0), (91, .iconst (5), 0, 0), (92, .invokevirtual 84, 310, 2), (95, .freturn, 0, 0)]
def mo_Rd_readRow_96 : List mmO := [(96, .iload 1, 0, 0), (97, .freturn, 0, 0)]
def mb_Rd_readRow : List (Nat × List mmO) := [(0, mo_Rd_readRow_0), (16, mo_Rd_readRow_16), (27, mo_Rd_readRow_27), (60, mo_Rd_readRow_60), (90, mo_Rd_readRow_90), (96, mo_Rd_readRow_96)]
def mo_Rd_readCell_0 : List mmO := [(0, .aload 0, 0, 0), (1, .iconst (0), 0, 0), (2, .iconst (63), 0, 0), (4, .invokevirtual 91, 312, 3), (7, .ifCond .ne 0, 12, 0), (10, .iconst (0), 0, 0), (11, .freturn, 0, 0)]
def mo_Rd_readCell_12 : List mmO := [(12, .aload 0, 0, 0), (13, .getstatic 18, 3, 2), (16, .invokevirtual 95, 405, 1), (19, .ifCond .ne 0, 28, 0), (22, .aload 0, 0, 0), (23, .iconst (4), 0, 0), (24, .invokevirtual 84, 310, 2), (27, .freturn, 0, 0)]
def mo_Rd_readCell_28 : List mmO := [(28, .aload 0, 0, 0), (29, .getstatic 18, 3, 2), (32, .aload 0, 0, 0), (33, .getfield 98, 3, 8), (36, .invokevirtual 101, 407, 2), (39, .aload 0, 0, 0), (40, .invokevirtual 49, 314, 1), (43, .iconst (1), 0, 0), (44, .freturn, 0, 0)]
def mb_Rd_readCell : List (Nat × List mmO) := [(0, mo_Rd_readCell_0), (12, mo_Rd_readCell_12), (28, mo_Rd_readCell_28)]
def mo_Rd_readSet_0 : List mmO := [(0, .aload 0, 0, 0), (1, .getstatic 18, 3, 2), (4, .getfield 87, 4, 4), (7, .ifCond .ne 0, 16, 0), (10, .aload 0, 0, 0), (11, .iconst (5), 0, 0), (12, .invokevirtual 84, 310, 2), (15, .freturn, 0, 0)]
def mo_Rd_readSet_16 : List mmO := [(16, .aload 0, 0, 0), (17, .getstatic 18, 3, 2), (20, .invokevirtual 105, 406, 1), (23, .ifCond .ne 0, 32, 0), (26, .aload 0, 0, 0), (27, .iconst (4), 0, 0), (28, .invokevirtual 84, 310, 2), (31, .freturn, 0, 0)]
def mo_Rd_readSet_32 : List mmO := [(32, .aload 0, 0, 0), (33, .invokevirtual 49, 314, 1), (36, .aload 0, 0, 0), (37, .iconst (0), 0, 0), (38, .aload 0, 0, 0), (39, .getstatic 18, 3, 2), (42, .getfield 87, 4, 4), (45, .iconst (1), 0, 0), (46, .isub, 0, 0), (47, .invokevirtual 91, 312, 3), (50, .ifCond .ne 0, 55, 0), (53, .iconst (0), 0, 0), (54, .freturn, 0, 0)]
def mo_Rd_readSet_55 : List mmO := [(55, .aload 0, 0, 0), (56, .getfield 98, 3, 8), (59, .istore 1, 0, 0), (60, .aload 0, 0, 0), (61, .invokevirtual 49, 314, 1), (64, .aload 0, 0, 0), (65, .iconst (0), 0, 0), (66, .iconst (63), 0, 0), (68, .invokevirtual 91, 312, 3), (71, .ifCond .ne 0, 76, 0), (74, .iconst (0), 0, 0), (75, .freturn, 0, 0)]
def mo_Rd_readSet_76 : List mmO := [(76, .aload 0, 0, 0), (77, .getstatic 18, 3, 2), (80, .iload 1, 0, 0), (81, .aload 0, 0, 0), (82, .getfield 98, 3, 8), (85, .invokevirtual 108, 409, 3), (88, .aload 0, 0, 0), (89, .invokevirtual 49, 314, 1), (92, .iconst (1), 0, 0), (93, .freturn, 0, 0)]
def mb_Rd_readSet : List (Nat × List mmO) := [(0, mo_Rd_readSet_0), (16, mo_Rd_readSet_16), (32, mo_Rd_readSet_32), (55, mo_Rd_readSet_55), (76, mo_Rd_readSet_76)]
def mo_Rd_readAsk_0 : List mmO := [(0, .aload 0, 0, 0), (1, .getstatic 18, 3, 2), (4, .getfield 87, 4, 4), (7, .ifCond .ne 0, 16, 0), (10, .aload 0, 0, 0), (11, .iconst (5), 0, 0), (12, .invokevirtual 84, 310, 2), (15, .freturn, 0, 0)]
def mo_Rd_readAsk_16 : List mmO := [(16, .aload 0, 0, 0), (17, .getstatic 25, 3, 7), (20, .getfield 36, 2, 4), (23, .iconst (24), 0, 0), (25, .if_icmp .lt 0, 34, 0), (28, .aload 0, 0, 0), (29, .iconst (4), 0, 0), (30, .invokevirtual 84, 310, 2), (33, .freturn, 0, 0)]
def mo_Rd_readAsk_34 : List mmO := [(34, .aload 0, 0, 0), (35, .invokevirtual 49, 314, 1), (38, .aload 0, 0, 0), (39, .invokevirtual 112, 309, 1), (42, .istore 1, 0, 0), (43, .iload 1, 0, 0), (44, .iconst (-1), 0, 0), (45, .if_icmp .ne 0, 54, 0), (48, .aload 0, 0, 0), (49, .iconst (1), 0, 0), (50, .invokevirtual 84, 310, 2), (53, .freturn, 0, 0)]
def mo_Rd_readAsk_54 : List mmO := [(54, .aload 0, 0, 0), (55, .invokevirtual 49, 314, 1), (58, .aload 0, 0, 0), (59, .iconst (0), 0, 0), (60, .aload 0, 0, 0), (61, .getstatic 18, 3, 2), (64, .getfield 87, 4, 4), (67, .iconst (1), 0, 0), (68, .isub, 0, 0), (69, .invokevirtual 91, 312, 3), (72, .ifCond .ne 0, 77, 0), (75, .iconst (0), 0, 0), (76, .freturn, 0, 0)]
def mo_Rd_readAsk_77 : List mmO := [(77, .aload 0, 0, 0), (78, .getfield 98, 3, 8), (81, .istore 2, 0, 0), (82, .aload 0, 0, 0), (83, .invokevirtual 49, 314, 1), (86, .aload 0, 0, 0), (87, .iload 2, 0, 0), (88, .aload 0, 0, 0), (89, .getstatic 18, 3, 2), (92, .getfield 87, 4, 4), (95, .iconst (1), 0, 0), (96, .isub, 0, 0), (97, .invokevirtual 91, 312, 3), (100, .ifCond .ne 0, 105, 0), (103, .iconst (0), 0, 0), (104, .freturn, 0, 0)]
def mo_Rd_readAsk_105 : List mmO := [(105, .aload 0, 0, 0), (106, .getfield 98, 3, 8), (109, .istore 3, 0, 0), (110, .aload 0, 0, 0), (111, .invokevirtual 49, 314, 1), (114, .aload 0, 0, 0), (115, .iload 1, 0, 0), (116, .iload 2, 0, 0), (117, .iload 3, 0, 0), (118, .invokevirtual 116, 308, 4), (121, .freturn, 0, 0)]
def mb_Rd_readAsk : List (Nat × List mmO) := [(0, mo_Rd_readAsk_0), (16, mo_Rd_readAsk_16), (34, mo_Rd_readAsk_34), (54, mo_Rd_readAsk_54), (77, mo_Rd_readAsk_77), (105, mo_Rd_readAsk_105)]
def mo_Rd_readTime_0 : List mmO := [(0, .aload 0, 0, 0), (1, .getstatic 18, 3, 2), (4, .getfield 120, 4, 5), (7, .istore 4, 0, 0), (9, .aload 0, 0, 0), (10, .ldc 3, 0, 0), (12, .invokevirtual 67, 313, 2), (15, .ifCond .eq 0, 49, 0), (18, .aload 0, 0, 0), (19, .invokevirtual 49, 314, 1), (22, .aload 0, 0, 0), (23, .iconst (0), 0, 0), (24, .aload 0, 0, 0), (25, .getstatic 18, 3, 2), (28, .getfield 120, 4, 5), (31, .invokevirtual 91, 312, 3), (34, .ifCond .ne 0, 39, 0), (37, .iconst (0), 0, 0), (38, .freturn, 0, 0)]
def mo_Rd_readTime_39 : List mmO := [(39, .aload 0, 0, 0), (40, .getfield 98, 3, 8), (43, .istore 4, 0, 0), (45, .aload 0, 0, 0), (46, .invokevirtual 49, 314, 1), (49, .nop, 0, 0)]
def mo_Rd_readTime_49 : List mmO := [(49, .aload 0, 0, 0), (50, .getstatic 25, 3, 7), (53, .iload 1, 0, 0), (54, .iload 2, 0, 0), (55, .iload 3, 0, 0), (56, .iload 4, 0, 0), (58, .invokevirtual 125, 204, 5), (61, .iconst (1), 0, 0), (62, .freturn, 0, 0)]
def mb_Rd_readTime : List (Nat × List mmO) := [(0, mo_Rd_readTime_0), (39, mo_Rd_readTime_39), (49, mo_Rd_readTime_49)]
def mo_Rd_kindHere_0 : List mmO := [(0, .aload 0, 0, 0), (1, .ldc 4, 0, 0), (3, .invokevirtual 67, 313, 2), (6, .ifCond .eq 0, 11, 0), (9, .iconst (0), 0, 0), (10, .ireturn, 0, 0)]
def mo_Rd_kindHere_11 : List mmO := [(11, .aload 0, 0, 0), (12, .ldc 5, 0, 0), (14, .invokevirtual 67, 313, 2), (17, .ifCond .eq 0, 22, 0), (20, .iconst (1), 0, 0), (21, .ireturn, 0, 0)]
def mo_Rd_kindHere_22 : List mmO := [(22, .aload 0, 0, 0), (23, .ldc 6, 0, 0), (25, .invokevirtual 67, 313, 2), (28, .ifCond .eq 0, 33, 0), (31, .iconst (2), 0, 0), (32, .ireturn, 0, 0)]
def mo_Rd_kindHere_33 : List mmO := [(33, .aload 0, 0, 0), (34, .ldc 7, 0, 0), (36, .invokevirtual 67, 313, 2), (39, .ifCond .eq 0, 44, 0), (42, .iconst (3), 0, 0), (43, .ireturn, 0, 0)]
def mo_Rd_kindHere_44 : List mmO := [(44, .aload 0, 0, 0), (45, .ldc 8, 0, 0), (47, .invokevirtual 67, 313, 2), (50, .ifCond .eq 0, 55, 0), (53, .iconst (4), 0, 0), (54, .ireturn, 0, 0)]
def mo_Rd_kindHere_55 : List mmO := [(55, .aload 0, 0, 0), (56, .ldc 9, 0, 0), (58, .invokevirtual 67, 313, 2), (61, .ifCond .eq 0, 66, 0), (64, .iconst (5), 0, 0), (65, .ireturn, 0, 0)]
def mo_Rd_kindHere_66 : List mmO := [(66, .aload 0, 0, 0), (67, .ldc 10, 0, 0), (69, .invokevirtual 67, 313, 2), (72, .ifCond .eq 0, 78, 0), (75, .iconst (6), 0, 0), (77, .ireturn, 0, 0)]
def mo_Rd_kindHere_78 : List mmO := [(78, .aload 0, 0, 0), (79, .ldc 11, 0, 0), (81, .invokevirtual 67, 313, 2), (84, .ifCond .eq 0, 92, 0), (87, .iconst (7), 0, 0), (89, .goto 0, 93, 0)]
def mo_Rd_kindHere_92 : List mmO := [(92, .iconst (-1), 0, 0), (93, .nop, 0, 0)]
def mo_Rd_kindHere_93 : List mmO := [(93, .ireturn, 0, 0)]
def mb_Rd_kindHere : List (Nat × List mmO) := [(0, mo_Rd_kindHere_0), (11, mo_Rd_kindHere_11), (22, mo_Rd_kindHere_22), (33, mo_Rd_kindHere_33), (44, mo_Rd_kindHere_44), (55, mo_Rd_kindHere_55), (66, mo_Rd_kindHere_66), (78, mo_Rd_kindHere_78), (92, mo_Rd_kindHere_92), (93, mo_Rd_kindHere_93)]
def mo_Rd_refuse_0 : List mmO := [(0, .aload 0, 0, 0), (1, .iconst (-2), 0, 0), (3, .iconst (8), 0, 0), (5, .aload 0, 0, 0), (6, .getfield 145, 3, 6), (9, .imul, 0, 0), (10, .iload 1, 0, 0), (11, .iadd, 0, 0), (12, .isub, 0, 0), (13, .putfield 56, 3, 9), (16, .iconst (0), 0, 0), (17, .freturn, 0, 0)]
def mb_Rd_refuse : List (Nat × List mmO) := [(0, mo_Rd_refuse_0)]
def mo_Rd_pass_0 : List mmO := [(0, .aload 0, 0, 0), (1, .getfield 59, 3, 5), (4, .iload 1, 0, 0), (5, .if_icmp .eq 0, 14, 0), (8, .aload 0, 0, 0), (9, .iconst (1), 0, 0), (10, .invokevirtual 84, 310, 2), (13, .freturn, 0, 0)]
def mo_Rd_pass_14 : List mmO := [(14, .aload 0, 0, 0), (15, .invokevirtual 49, 314, 1), (18, .iconst (1), 0, 0), (19, .freturn, 0, 0)]
def mb_Rd_pass : List (Nat × List mmO) := [(0, mo_Rd_pass_0), (14, mo_Rd_pass_14)]
def mo_Rd_isWhole_0 : List mmO := [(0, .aload 0, 0, 0), (1, .getfield 59, 3, 5), (4, .iconst (2), 0, 0), (5, .if_icmp .eq 0, 14, 0), (8, .aload 0, 0, 0), (9, .iconst (1), 0, 0), (10, .invokevirtual 84, 310, 2), (13, .freturn, 0, 0)]
def mo_Rd_isWhole_14 : List mmO := [(14, .aload 0, 0, 0), (15, .getfield 98, 3, 8), (18, .iload 1, 0, 0), (19, .if_icmp .lt 0, 30, 0), (22, .aload 0, 0, 0), (23, .getfield 98, 3, 8), (26, .iload 2, 0, 0), (27, .if_icmp .le 0, 38, 0), (30, .nop, 0, 0)]
def mo_Rd_isWhole_30 : List mmO := [(30, .aload 0, 0, 0), (31, .iconst (2), 0, 0), (32, .invokevirtual 84, 310, 2), (35, .ifCond .eq 0, 42, 0), (38, .nop, 0, 0)]
def mo_Rd_isWhole_38 : List mmO := [(38, .iconst (1), 0, 0), (39, .goto 0, 43, 0)]
def mo_Rd_isWhole_42 : List mmO := [(42, .iconst (0), 0, 0), (43, .nop, 0, 0)]
def mo_Rd_isWhole_43 : List mmO := [(43, .freturn, 0, 0)]
def mb_Rd_isWhole : List (Nat × List mmO) := [(0, mo_Rd_isWhole_0), (14, mo_Rd_isWhole_14), (30, mo_Rd_isWhole_30), (38, mo_Rd_isWhole_38), (42, mo_Rd_isWhole_42), (43, mo_Rd_isWhole_43)]
def mo_Rd_next_0 : List mmO := [(0, .aload 0, 0, 0), (1, .aload 0, 0, 0), (2, .getfield 46, 3, 7), (5, .putfield 145, 3, 6), (8, .nop, 0, 0)]
def mo_Rd_next_8 : List mmO := [(8, .aload 0, 0, 0), (9, .getfield 145, 3, 6), (12, .aload 0, 0, 0), (13, .getfield 43, 3, 4), (16, .if_icmp .ge 0, 46, 0), (19, .aload 0, 0, 0), (20, .aload 0, 0, 0), (21, .getfield 145, 3, 6), (24, .invokevirtual 153, 317, 2), (27, .invokestatic 161, 318, 1), (30, .ifCond .eq 0, 46, 0), (33, .aload 0, 0, 0), (34, .dup, 0, 0), (35, .getfield 145, 3, 6), (38, .iconst (1), 0, 0), (39, .iadd, 0, 0), (40, .putfield 145, 3, 6), (43, .goto 0, 8, 0)]
def mo_Rd_next_46 : List mmO := [(46, .aload 0, 0, 0), (47, .aload 0, 0, 0), (48, .getfield 145, 3, 6), (51, .iconst (1), 0, 0), (52, .iadd, 0, 0), (53, .aload 0, 0, 0), (54, .getfield 43, 3, 4), (57, .fsub, 37, 0), (60, .putfield 46, 3, 7), (63, .aload 0, 0, 0), (64, .aload 0, 0, 0), (65, .getfield 145, 3, 6), (68, .invokevirtual 153, 317, 2), (71, .istore 1, 0, 0), (72, .aload 0, 0, 0), (73, .getfield 145, 3, 6), (76, .aload 0, 0, 0), (77, .getfield 43, 3, 4), (80, .if_icmp .lt 0, 91, 0), (83, .aload 0, 0, 0), (84, .iconst (0), 0, 0), (85, .putfield 59, 3, 5), (88, .goto 0, 152, 0)]
def mo_Rd_next_91 : List mmO := [(91, .iload 1, 0, 0), (92, .iconst (59), 0, 0), (94, .if_icmp .ne 0, 105, 0), (97, .aload 0, 0, 0), (98, .iconst (3), 0, 0), (99, .putfield 59, 3, 5), (102, .goto 0, 152, 0)]
def mo_Rd_next_105 : List mmO := [(105, .iload 1, 0, 0), (106, .iconst (44), 0, 0), (108, .if_icmp .ne 0, 119, 0), (111, .aload 0, 0, 0), (112, .iconst (4), 0, 0), (113, .putfield 59, 3, 5), (116, .goto 0, 152, 0)]
def mo_Rd_next_119 : List mmO := [(119, .iload 1, 0, 0), (120, .invokestatic 164, 319, 1), (123, .ifCond .eq 0, 133, 0), (126, .aload 0, 0, 0), (127, .invokevirtual 167, 315, 1), (130, .goto 0, 152, 0)]
def mo_Rd_next_133 : List mmO := [(133, .iload 1, 0, 0), (134, .invokestatic 170, 320, 1), (137, .ifCond .eq 0, 147, 0), (140, .aload 0, 0, 0), (141, .invokevirtual 173, 316, 1), (144, .goto 0, 152, 0)]
def mo_Rd_next_147 : List mmO := [(147, .aload 0, 0, 0), (148, .iconst (5), 0, 0), (149, .putfield 59, 3, 5), (152, .nop, 0, 0)]
def mo_Rd_next_152 : List mmO := [(152, .return_, 0, 0)]
def mb_Rd_next : List (Nat × List mmO) := [(0, mo_Rd_next_0), (8, mo_Rd_next_8), (46, mo_Rd_next_46), (91, mo_Rd_next_91), (105, mo_Rd_next_105), (119, mo_Rd_next_119), (133, mo_Rd_next_133), (147, mo_Rd_next_147), (152, mo_Rd_next_152)]
def mo_Rd_readWord_0 : List mmO := [(0, .aload 0, 0, 0), (1, .getfield 46, 3, 7), (4, .aload 0, 0, 0), (5, .getfield 43, 3, 4), (8, .if_icmp .ge 0, 38, 0), (11, .aload 0, 0, 0), (12, .aload 0, 0, 0), (13, .getfield 46, 3, 7), (16, .invokevirtual 153, 317, 2), (19, .invokestatic 164, 319, 1), (22, .ifCond .eq 0, 38, 0), (25, .aload 0, 0, 0), (26, .dup, 0, 0), (27, .getfield 46, 3, 7), (30, .iconst (1), 0, 0), (31, .iadd, 0, 0), (32, .putfield 46, 3, 7), (35, .goto 0, 0, 0)]
def mo_Rd_readWord_38 : List mmO := [(38, .aload 0, 0, 0), (39, .aload 0, 0, 0), (40, .getfield 46, 3, 7), (43, .aload 0, 0, 0), (44, .getfield 145, 3, 6), (47, .isub, 0, 0), (48, .iconst (7), 0, 0), (50, .if_icmp .gt 0, 57, 0), (53, .iconst (1), 0, 0), (54, .goto 0, 58, 0)]
def mo_Rd_readWord_57 : List mmO := [(57, .iconst (5), 0, 0), (58, .nop, 0, 0)]
def mo_Rd_readWord_58 : List mmO := [(58, .putfield 59, 3, 5), (61, .return_, 0, 0)]
def mb_Rd_readWord : List (Nat × List mmO) := [(0, mo_Rd_readWord_0), (38, mo_Rd_readWord_38), (57, mo_Rd_readWord_57), (58, mo_Rd_readWord_58)]
def mo_Rd_readWhole_0 : List mmO := [(0, .aload 0, 0, 0), (1, .aload 0, 0, 0), (2, .aload 0, 0, 0), (3, .getfield 145, 3, 6), (6, .invokevirtual 153, 317, 2), (9, .iconst (48), 0, 0), (11, .isub, 0, 0), (12, .putfield 98, 3, 8), (15, .nop, 0, 0)]
def mo_Rd_readWhole_15 : List mmO := [(15, .aload 0, 0, 0), (16, .getfield 46, 3, 7), (19, .aload 0, 0, 0), (20, .getfield 43, 3, 4), (23, .if_icmp .ge 0, 76, 0), (26, .aload 0, 0, 0), (27, .aload 0, 0, 0), (28, .getfield 46, 3, 7), (31, .invokevirtual 153, 317, 2), (34, .invokestatic 170, 320, 1), (37, .ifCond .eq 0, 76, 0), (40, .aload 0, 0, 0), (41, .iconst (10), 0, 0), (43, .aload 0, 0, 0), (44, .getfield 98, 3, 8), (47, .imul, 0, 0), (48, .aload 0, 0, 0), (49, .aload 0, 0, 0), (50, .getfield 46, 3, 7), (53, .invokevirtual 153, 317, 2), (56, .iadd, 0, 0), (57, .iconst (48), 0, 0), (59, .isub, 0, 0), (60, .putfield 98, 3, 8), (63, .aload 0, 0, 0), (64, .dup, 0, 0), (65, .getfield 46, 3, 7), (68, .iconst (1), 0, 0), (69, .iadd, 0, 0), (70, .putfield 46, 3, 7), (73, .goto 0, 15, 0)]
def mo_Rd_readWhole_76 : List mmO := [(76, .aload 0, 0, 0), (77, .aload 0, 0, 0), (78, .getfield 46, 3, 7), (81, .aload 0, 0, 0), (82, .getfield 145, 3, 6), (85, .isub, 0, 0), (86, .iconst (2), 0, 0), (87, .if_icmp .gt 0, 94, 0), (90, .iconst (2), 0, 0), (91, .goto 0, 95, 0)]
def mo_Rd_readWhole_94 : List mmO := [(94, .iconst (5), 0, 0), (95, .nop, 0, 0)]
def mo_Rd_readWhole_95 : List mmO := [(95, .putfield 59, 3, 5), (98, .return_, 0, 0)]
def mb_Rd_readWhole : List (Nat × List mmO) := [(0, mo_Rd_readWhole_0), (15, mo_Rd_readWhole_15), (76, mo_Rd_readWhole_76), (94, mo_Rd_readWhole_94), (95, mo_Rd_readWhole_95)]
def mo_Rd_byteAt_0 : List mmO := [(0, .iload 1, 0, 0), (1, .ifCond .lt 0, 28, 0), (4, .iload 1, 0, 0), (5, .aload 0, 0, 0), (6, .getfield 43, 3, 4), (9, .if_icmp .ge 0, 28, 0), (12, .iload 1, 0, 0), (13, .iconst (600), 0, 0), (16, .if_icmp .ge 0, 28, 0), (19, .aload 0, 0, 0), (20, .getstatic 9, 3, 1), (23, .iload 1, 0, 0), (24, .baload, 0, 0), (25, .goto 0, 29, 0)]
def mo_Rd_byteAt_28 : List mmO := [(28, .iconst (-1), 0, 0), (29, .nop, 0, 0)]
def mo_Rd_byteAt_29 : List mmO := [(29, .ireturn, 0, 0)]
def mb_Rd_byteAt : List (Nat × List mmO) := [(0, mo_Rd_byteAt_0), (28, mo_Rd_byteAt_28), (29, mo_Rd_byteAt_29)]
def mo_Rd_isBlank_0 : List mmO := [(0, .iload 0, 0, 0), (1, .iconst (32), 0, 0), (3, .if_icmp .eq 0, 12, 0), (6, .iload 0, 0, 0), (7, .iconst (10), 0, 0), (9, .if_icmp .ne 0, 16, 0), (12, .nop, 0, 0)]
def mo_Rd_isBlank_12 : List mmO := [(12, .iconst (1), 0, 0), (13, .goto 0, 17, 0)]
def mo_Rd_isBlank_16 : List mmO := [(16, .iconst (0), 0, 0), (17, .nop, 0, 0)]
def mo_Rd_isBlank_17 : List mmO := [(17, .freturn, 0, 0)]
def mb_Rd_isBlank : List (Nat × List mmO) := [(0, mo_Rd_isBlank_0), (12, mo_Rd_isBlank_12), (16, mo_Rd_isBlank_16), (17, mo_Rd_isBlank_17)]
def mo_Rd_isLetter_0 : List mmO := [(0, .iload 0, 0, 0), (1, .iconst (97), 0, 0), (3, .if_icmp .lt 0, 16, 0), (6, .iload 0, 0, 0), (7, .iconst (122), 0, 0), (9, .if_icmp .gt 0, 16, 0), (12, .iconst (1), 0, 0), (13, .goto 0, 17, 0)]
def mo_Rd_isLetter_16 : List mmO := [(16, .iconst (0), 0, 0), (17, .nop, 0, 0)]
def mo_Rd_isLetter_17 : List mmO := [(17, .freturn, 0, 0)]
def mb_Rd_isLetter : List (Nat × List mmO) := [(0, mo_Rd_isLetter_0), (16, mo_Rd_isLetter_16), (17, mo_Rd_isLetter_17)]
def mo_Rd_isDigit_0 : List mmO := [(0, .iload 0, 0, 0), (1, .iconst (48), 0, 0), (3, .if_icmp .lt 0, 16, 0), (6, .iload 0, 0, 0), (7, .iconst (57), 0, 0), (9, .if_icmp .gt 0, 16, 0), (12, .iconst (1), 0, 0), (13, .goto 0, 17, 0)]
def mo_Rd_isDigit_16 : List mmO := [(16, .iconst (0), 0, 0), (17, .nop, 0, 0)]
def mo_Rd_isDigit_17 : List mmO := [(17, .freturn, 0, 0)]
def mb_Rd_isDigit : List (Nat × List mmO) := [(0, mo_Rd_isDigit_0), (16, mo_Rd_isDigit_16), (17, mo_Rd_isDigit_17)]
def mo_Row_clear_0 : List mmO := [(0, .aload 0, 0, 0), (1, .iconst (0), 0, 0), (2, .putfield 24, 4, 4), (5, .aload 0, 0, 0), (6, .iconst (0), 0, 0), (7, .putfield 28, 4, 5), (10, .return_, 0, 0)]
def mb_Row_clear : List (Nat × List mmO) := [(0, mo_Row_clear_0)]
def mo_Row_copyFrom_0 : List mmO := [(0, .aload 1, 0, 0), (1, .getstatic 9, 4, 1), (4, .iconst (0), 0, 0), (5, .aload 0, 0, 0), (6, .getstatic 9, 4, 1), (9, .iconst (0), 0, 0), (10, .iconst (60), 0, 0), (12, .fmul, 31, 0), (15, .aload 1, 0, 0), (16, .getstatic 15, 4, 2), (19, .iconst (0), 0, 0), (20, .aload 0, 0, 0), (21, .getstatic 15, 4, 2), (24, .iconst (0), 0, 0), (25, .iconst (32), 0, 0), (27, .fmul, 31, 0), (30, .aload 1, 0, 0), (31, .getstatic 18, 4, 3), (34, .iconst (0), 0, 0), (35, .aload 0, 0, 0), (36, .getstatic 18, 4, 3), (39, .iconst (0), 0, 0), (40, .iconst (32), 0, 0), (42, .fmul, 31, 0), (45, .aload 0, 0, 0), (46, .aload 1, 0, 0), (47, .getfield 24, 4, 4), (50, .putfield 24, 4, 4), (53, .aload 0, 0, 0), (54, .aload 1, 0, 0), (55, .getfield 28, 4, 5), (58, .putfield 28, 4, 5), (61, .return_, 0, 0)]
def mb_Row_copyFrom : List (Nat × List mmO) := [(0, mo_Row_copyFrom_0)]
def mo_Row_has_0 : List mmO := [(0, .iload 1, 0, 0), (1, .ifCond .lt 0, 16, 0), (4, .iload 1, 0, 0), (5, .aload 0, 0, 0), (6, .getfield 24, 4, 4), (9, .if_icmp .ge 0, 16, 0), (12, .iconst (1), 0, 0), (13, .goto 0, 17, 0)]
def mo_Row_has_16 : List mmO := [(16, .iconst (0), 0, 0), (17, .nop, 0, 0)]
def mo_Row_has_17 : List mmO := [(17, .freturn, 0, 0)]
def mb_Row_has : List (Nat × List mmO) := [(0, mo_Row_has_0), (16, mo_Row_has_16), (17, mo_Row_has_17)]
def mo_Row_hasTime_0 : List mmO := [(0, .iload 1, 0, 0), (1, .ifCond .lt 0, 16, 0), (4, .iload 1, 0, 0), (5, .aload 0, 0, 0), (6, .getfield 28, 4, 5), (9, .if_icmp .gt 0, 16, 0), (12, .iconst (1), 0, 0), (13, .goto 0, 17, 0)]
def mo_Row_hasTime_16 : List mmO := [(16, .iconst (0), 0, 0), (17, .nop, 0, 0)]
def mo_Row_hasTime_17 : List mmO := [(17, .freturn, 0, 0)]
def mb_Row_hasTime : List (Nat × List mmO) := [(0, mo_Row_hasTime_0), (16, mo_Row_hasTime_16), (17, mo_Row_hasTime_17)]
def mo_Row_hasRoomForCell_0 : List mmO := [(0, .aload 0, 0, 0), (1, .getfield 24, 4, 4), (4, .iconst (60), 0, 0), (6, .if_icmp .ge 0, 13, 0), (9, .iconst (1), 0, 0), (10, .goto 0, 14, 0)]
def mo_Row_hasRoomForCell_13 : List mmO := [(13, .iconst (0), 0, 0), (14, .nop, 0, 0)]
def mo_Row_hasRoomForCell_14 : List mmO := [(14, .freturn, 0, 0)]
def mb_Row_hasRoomForCell : List (Nat × List mmO) := [(0, mo_Row_hasRoomForCell_0), (13, mo_Row_hasRoomForCell_13), (14, mo_Row_hasRoomForCell_14)]
def mo_Row_hasRoomForChange_0 : List mmO := [(0, .aload 0, 0, 0), (1, .getfield 28, 4, 5), (4, .iconst (32), 0, 0), (6, .if_icmp .ge 0, 13, 0), (9, .iconst (1), 0, 0), (10, .goto 0, 14, 0)]
def mo_Row_hasRoomForChange_13 : List mmO := [(13, .iconst (0), 0, 0), (14, .nop, 0, 0)]
def mo_Row_hasRoomForChange_14 : List mmO := [(14, .freturn, 0, 0)]
def mb_Row_hasRoomForChange : List (Nat × List mmO) := [(0, mo_Row_hasRoomForChange_0), (13, mo_Row_hasRoomForChange_13), (14, mo_Row_hasRoomForChange_14)]
def mo_Row_addCell_0 : List mmO := [(0, .aload 0, 0, 0), (1, .invokevirtual 37, 405, 1), (4, .ifCond .eq 0, 27, 0), (7, .aload 0, 0, 0), (8, .getstatic 9, 4, 1), (11, .aload 0, 0, 0), (12, .getfield 24, 4, 4), (15, .iload 1, 0, 0), (16, .iastore, 0, 0), (17, .aload 0, 0, 0), (18, .dup, 0, 0), (19, .getfield 24, 4, 4), (22, .iconst (1), 0, 0), (23, .iadd, 0, 0), (24, .putfield 24, 4, 4), (27, .nop, 0, 0)]
def mo_Row_addCell_27 : List mmO := [(27, .return_, 0, 0)]
def mb_Row_addCell : List (Nat × List mmO) := [(0, mo_Row_addCell_0), (27, mo_Row_addCell_27)]
def mo_Row_setCell_0 : List mmO := [(0, .aload 0, 0, 0), (1, .iload 1, 0, 0), (2, .invokevirtual 41, 403, 2), (5, .ifCond .eq 0, 15, 0), (8, .aload 0, 0, 0), (9, .getstatic 9, 4, 1), (12, .iload 1, 0, 0), (13, .iload 2, 0, 0), (14, .iastore, 0, 0), (15, .nop, 0, 0)]
def mo_Row_setCell_15 : List mmO := [(15, .return_, 0, 0)]
def mb_Row_setCell : List (Nat × List mmO) := [(0, mo_Row_setCell_0), (15, mo_Row_setCell_15)]
def mo_Row_addChange_0 : List mmO := [(0, .aload 0, 0, 0), (1, .invokevirtual 45, 406, 1), (4, .ifCond .eq 0, 37, 0), (7, .aload 0, 0, 0), (8, .getstatic 15, 4, 2), (11, .aload 0, 0, 0), (12, .getfield 28, 4, 5), (15, .iload 1, 0, 0), (16, .iastore, 0, 0), (17, .aload 0, 0, 0), (18, .getstatic 18, 4, 3), (21, .aload 0, 0, 0), (22, .getfield 28, 4, 5), (25, .iload 2, 0, 0), (26, .iastore, 0, 0), (27, .aload 0, 0, 0), (28, .dup, 0, 0), (29, .getfield 28, 4, 5), (32, .iconst (1), 0, 0), (33, .iadd, 0, 0), (34, .putfield 28, 4, 5), (37, .nop, 0, 0)]
def mo_Row_addChange_37 : List mmO := [(37, .return_, 0, 0)]
def mb_Row_addChange : List (Nat × List mmO) := [(0, mo_Row_addChange_0), (37, mo_Row_addChange_37)]
def mo_Row_removeLastChange_0 : List mmO := [(0, .aload 0, 0, 0), (1, .getfield 28, 4, 5), (4, .ifCond .le 0, 17, 0), (7, .aload 0, 0, 0), (8, .dup, 0, 0), (9, .getfield 28, 4, 5), (12, .iconst (1), 0, 0), (13, .isub, 0, 0), (14, .putfield 28, 4, 5), (17, .nop, 0, 0)]
def mo_Row_removeLastChange_17 : List mmO := [(17, .return_, 0, 0)]
def mb_Row_removeLastChange : List (Nat × List mmO) := [(0, mo_Row_removeLastChange_0), (17, mo_Row_removeLastChange_17)]
def mo_Row_numberAt_0 : List mmO := [(0, .iload 2, 0, 0), (1, .aload 0, 0, 0), (2, .getfield 28, 4, 5), (5, .fsub, 48, 0), (8, .iconst (1), 0, 0), (9, .isub, 0, 0), (10, .istore 3, 0, 0), (11, .nop, 0, 0)]
def mo_Row_numberAt_11 : List mmO := [(11, .iload 3, 0, 0), (12, .ifCond .lt 0, 38, 0), (15, .aload 0, 0, 0), (16, .getstatic 15, 4, 2), (19, .iload 3, 0, 0), (20, .iaload, 0, 0), (21, .iload 1, 0, 0), (22, .if_icmp .ne 0, 32, 0), (25, .aload 0, 0, 0), (26, .getstatic 18, 4, 3), (29, .iload 3, 0, 0), (30, .iaload, 0, 0), (31, .ireturn, 0, 0)]
def mo_Row_numberAt_32 : List mmO := [(32, .iinc 3 (-1), 0, 0), (35, .goto 0, 11, 0)]
def mo_Row_numberAt_38 : List mmO := [(38, .aload 0, 0, 0), (39, .iload 1, 0, 0), (40, .invokevirtual 41, 403, 2), (43, .ifCond .eq 0, 55, 0), (46, .aload 0, 0, 0), (47, .getstatic 9, 4, 1), (50, .iload 1, 0, 0), (51, .iaload, 0, 0), (52, .goto 0, 56, 0)]
def mo_Row_numberAt_55 : List mmO := [(55, .iconst (-1), 0, 0), (56, .nop, 0, 0)]
def mo_Row_numberAt_56 : List mmO := [(56, .ireturn, 0, 0)]
def mb_Row_numberAt : List (Nat × List mmO) := [(0, mo_Row_numberAt_0), (11, mo_Row_numberAt_11), (32, mo_Row_numberAt_32), (38, mo_Row_numberAt_38), (55, mo_Row_numberAt_55), (56, mo_Row_numberAt_56)]
def mo_Row_asAt_0 : List mmO := [(0, .aload 0, 0, 0), (1, .getstatic 9, 4, 1), (4, .iconst (0), 0, 0), (5, .aload 0, 0, 0), (6, .getstatic 21, 4, 4), (9, .iconst (0), 0, 0), (10, .iconst (60), 0, 0), (12, .fmul, 31, 0), (15, .iconst (0), 0, 0), (16, .istore 2, 0, 0), (17, .nop, 0, 0)]
def mo_Row_asAt_17 : List mmO := [(17, .iload 2, 0, 0), (18, .iload 1, 0, 0), (19, .if_icmp .ge 0, 63, 0), (22, .iload 2, 0, 0), (23, .aload 0, 0, 0), (24, .getfield 28, 4, 5), (27, .if_icmp .ge 0, 63, 0), (30, .aload 0, 0, 0), (31, .getstatic 15, 4, 2), (34, .iload 2, 0, 0), (35, .iaload, 0, 0), (36, .istore 3, 0, 0), (37, .aload 0, 0, 0), (38, .iload 3, 0, 0), (39, .invokevirtual 41, 403, 2), (42, .ifCond .eq 0, 57, 0), (45, .aload 0, 0, 0), (46, .getstatic 21, 4, 4), (49, .iload 3, 0, 0), (50, .aload 0, 0, 0), (51, .getstatic 18, 4, 3), (54, .iload 2, 0, 0), (55, .iaload, 0, 0), (56, .iastore, 0, 0), (57, .nop, 0, 0)]
def mo_Row_asAt_57 : List mmO := [(57, .iinc 2 (1), 0, 0), (60, .goto 0, 17, 0)]
def mo_Row_asAt_63 : List mmO := [(63, .aload 0, 0, 0), (64, .getstatic 21, 4, 4), (67, .areturn, 0, 0)]
def mb_Row_asAt : List (Nat × List mmO) := [(0, mo_Row_asAt_0), (17, mo_Row_asAt_17), (57, mo_Row_asAt_57), (63, mo_Row_asAt_63)]
def mo_Srt_key_0 : List mmO := [(0, .iload 0, 0, 0), (1, .iconst (64), 0, 0), (3, .imul, 0, 0), (4, .iload 1, 0, 0), (5, .iadd, 0, 0), (6, .iconst (64), 0, 0), (8, .imul, 0, 0), (9, .iload 2, 0, 0), (10, .iadd, 0, 0), (11, .iconst (32), 0, 0), (13, .imul, 0, 0), (14, .iload 3, 0, 0), (15, .iadd, 0, 0), (16, .ireturn, 0, 0)]
def mb_Srt_key : List (Nat × List mmO) := [(0, mo_Srt_key_0)]
def mo_Srt_insert_0 : List mmO := [(0, .aload 0, 0, 0), (1, .getfield 15, 5, 1), (4, .iconst (24), 0, 0), (6, .if_icmp .le 0, 10, 0), (9, .return_, 0, 0)]
def mo_Srt_insert_10 : List mmO := [(10, .aload 0, 0, 0), (11, .getfield 15, 5, 1), (14, .istore 2, 0, 0), (15, .nop, 0, 0)]
def mo_Srt_insert_15 : List mmO := [(15, .iload 2, 0, 0), (16, .ifCond .le 0, 51, 0), (19, .aload 0, 0, 0), (20, .getstatic 9, 5, 1), (23, .iload 2, 0, 0), (24, .iconst (1), 0, 0), (25, .isub, 0, 0), (26, .iaload, 0, 0), (27, .iload 1, 0, 0), (28, .if_icmp .le 0, 51, 0), (31, .aload 0, 0, 0), (32, .getstatic 9, 5, 1), (35, .iload 2, 0, 0), (36, .aload 0, 0, 0), (37, .getstatic 9, 5, 1), (40, .iload 2, 0, 0), (41, .iconst (1), 0, 0), (42, .isub, 0, 0), (43, .iaload, 0, 0), (44, .iastore, 0, 0), (45, .iinc 2 (-1), 0, 0), (48, .goto 0, 15, 0)]
def mo_Srt_insert_51 : List mmO := [(51, .aload 0, 0, 0), (52, .getstatic 9, 5, 1), (55, .iload 2, 0, 0), (56, .iload 1, 0, 0), (57, .iastore, 0, 0), (58, .aload 0, 0, 0), (59, .dup, 0, 0), (60, .getfield 15, 5, 1), (63, .iconst (1), 0, 0), (64, .iadd, 0, 0), (65, .putfield 15, 5, 1), (68, .return_, 0, 0)]
def mb_Srt_insert : List (Nat × List mmO) := [(0, mo_Srt_insert_0), (10, mo_Srt_insert_10), (15, mo_Srt_insert_15), (51, mo_Srt_insert_51)]
def mo_Srt_question_0 : List mmO := [(0, .iload 1, 0, 0), (1, .ifCond .lt 0, 24, 0), (4, .iload 1, 0, 0), (5, .aload 0, 0, 0), (6, .getfield 15, 5, 1), (9, .if_icmp .ge 0, 24, 0), (12, .aload 0, 0, 0), (13, .getstatic 9, 5, 1), (16, .iload 1, 0, 0), (17, .iaload, 0, 0), (18, .iconst (32), 0, 0), (20, .irem, 0, 0), (21, .goto 0, 25, 0)]
def mo_Srt_question_24 : List mmO := [(24, .iconst (-1), 0, 0), (25, .nop, 0, 0)]
def mo_Srt_question_25 : List mmO := [(25, .ireturn, 0, 0)]
def mb_Srt_question : List (Nat × List mmO) := [(0, mo_Srt_question_0), (24, mo_Srt_question_24), (25, mo_Srt_question_25)]
def mo_Srt_goesOn_0 : List mmO := [(0, .iconst (2048), 0, 0), (3, .istore 2, 0, 0), (4, .iload 1, 0, 0), (5, .ifCond .le 0, 41, 0), (8, .iload 1, 0, 0), (9, .aload 0, 0, 0), (10, .getfield 15, 5, 1), (13, .if_icmp .ge 0, 41, 0), (16, .aload 0, 0, 0), (17, .getstatic 9, 5, 1), (20, .iload 1, 0, 0), (21, .iaload, 0, 0), (22, .iload 2, 0, 0), (23, .idiv, 0, 0), (24, .aload 0, 0, 0), (25, .getstatic 9, 5, 1), (28, .iload 1, 0, 0), (29, .iconst (1), 0, 0), (30, .isub, 0, 0), (31, .iaload, 0, 0), (32, .iload 2, 0, 0), (33, .idiv, 0, 0), (34, .if_icmp .ne 0, 41, 0), (37, .iconst (1), 0, 0), (38, .goto 0, 42, 0)]
def mo_Srt_goesOn_41 : List mmO := [(41, .iconst (0), 0, 0), (42, .nop, 0, 0)]
def mo_Srt_goesOn_42 : List mmO := [(42, .freturn, 0, 0)]
def mb_Srt_goesOn : List (Nat × List mmO) := [(0, mo_Srt_goesOn_0), (41, mo_Srt_goesOn_41), (42, mo_Srt_goesOn_42)]
def mo_Spl_measure_0 : List mmO := [(0, .aload 0, 0, 0), (1, .aload 1, 0, 0), (2, .getstatic 30, 1, 1), (5, .getfield 36, 5, 1), (8, .iconst (24), 0, 0), (10, .fsub, 42, 0), (13, .putfield 48, 6, 4), (16, .aload 1, 0, 0), (17, .getstatic 49, 1, 3), (20, .invokevirtual 52, 901, 1), (23, .iconst (0), 0, 0), (24, .istore 4, 0, 0), (26, .nop, 0, 0)]
def mo_Spl_measure_26 : List mmO := [(26, .iload 4, 0, 0), (28, .aload 0, 0, 0), (29, .getfield 48, 6, 4), (32, .if_icmp .ge 0, 139, 0), (35, .aload 1, 0, 0), (36, .getstatic 30, 1, 1), (39, .iload 4, 0, 0), (41, .invokevirtual 55, 503, 2), (44, .istore 5, 0, 0), (46, .aload 0, 0, 0), (47, .getstatic 26, 6, 9), (50, .invokevirtual 52, 901, 1), (53, .aload 2, 0, 0), (54, .aload 0, 0, 0), (55, .getstatic 26, 6, 9), (58, .iload 5, 0, 0), (60, .invokevirtual 59, 212, 3), (63, .aload 0, 0, 0), (64, .getstatic 26, 6, 9), (67, .aload 0, 0, 0), (68, .getstatic 26, 6, 9), (71, .invokevirtual 65, 905, 1), (74, .invokevirtual 69, 907, 2), (77, .pop, 0, 0), (78, .aload 0, 0, 0), (79, .getstatic 9, 6, 1), (82, .iload 4, 0, 0), (84, .aload 0, 0, 0), (85, .getstatic 26, 6, 9), (88, .iload 3, 0, 0), (89, .invokevirtual 72, 903, 2), (92, .iastore, 0, 0), (93, .aload 2, 0, 0), (94, .aload 1, 0, 0), (95, .getstatic 49, 1, 3), (98, .iload 5, 0, 0), (100, .invokevirtual 59, 212, 3), (103, .aload 1, 0, 0), (104, .getstatic 49, 1, 3), (107, .aload 1, 0, 0), (108, .getstatic 49, 1, 3), (111, .invokevirtual 65, 905, 1), (114, .invokevirtual 69, 907, 2), (117, .pop, 0, 0), (118, .aload 0, 0, 0), (119, .getstatic 15, 6, 2), (122, .iload 4, 0, 0), (124, .aload 1, 0, 0), (125, .getstatic 49, 1, 3), (128, .iload 3, 0, 0), (129, .invokevirtual 72, 903, 2), (132, .iastore, 0, 0), (133, .iinc 4 (1), 0, 0), (136, .goto 0, 26, 0)]
def mo_Spl_measure_139 : List mmO := [(139, .return_, 0, 0)]
def mb_Spl_measure : List (Nat × List mmO) := [(0, mo_Spl_measure_0), (26, mo_Spl_measure_26), (139, mo_Spl_measure_139)]
def mo_Spl_costOfRow_0 : List mmO := [(0, .iload 1, 0, 0), (1, .ifCond .lt 0, 17, 0), (4, .iload 1, 0, 0), (5, .iload 2, 0, 0), (6, .if_icmp .ge 0, 17, 0), (9, .iload 2, 0, 0), (10, .aload 0, 0, 0), (11, .getfield 48, 6, 4), (14, .if_icmp .le 0, 19, 0), (17, .nop, 0, 0)]
def mo_Spl_costOfRow_17 : List mmO := [(17, .iconst (0), 0, 0), (18, .ireturn, 0, 0)]
def mo_Spl_costOfRow_19 : List mmO := [(19, .aload 0, 0, 0), (20, .getstatic 9, 6, 1), (23, .iload 1, 0, 0), (24, .iaload, 0, 0), (25, .aload 0, 0, 0), (26, .getstatic 15, 6, 2), (29, .iload 2, 0, 0), (30, .iconst (1), 0, 0), (31, .isub, 0, 0), (32, .iaload, 0, 0), (33, .iadd, 0, 0), (34, .aload 0, 0, 0), (35, .getstatic 15, 6, 2), (38, .iload 1, 0, 0), (39, .iaload, 0, 0), (40, .isub, 0, 0), (41, .ireturn, 0, 0)]
def mb_Spl_costOfRow : List (Nat × List mmO) := [(0, mo_Spl_costOfRow_0), (17, mo_Spl_costOfRow_17), (19, mo_Spl_costOfRow_19)]
def mo_Spl_solve_0 : List mmO := [(0, .iconst (0), 0, 0), (1, .istore 2, 0, 0), (2, .nop, 0, 0)]
def mo_Spl_solve_2 : List mmO := [(2, .iload 2, 0, 0), (3, .aload 0, 0, 0), (4, .getfield 48, 6, 4), (7, .if_icmp .gt 0, 38, 0), (10, .aload 0, 0, 0), (11, .getstatic 20, 6, 3), (14, .iconst (0), 0, 0), (15, .aaload, 0, 0), (16, .iload 2, 0, 0), (17, .iload 2, 0, 0), (18, .aload 0, 0, 0), (19, .getfield 48, 6, 4), (22, .if_icmp .ne 0, 29, 0), (25, .iconst (0), 0, 0), (26, .goto 0, 31, 0)]
def mo_Spl_solve_29 : List mmO := [(29, .iconst (1000000000), 75, 0), (31, .nop, 0, 0)]
def mo_Spl_solve_31 : List mmO := [(31, .iastore, 0, 0), (32, .iinc 2 (1), 0, 0), (35, .goto 0, 2, 0)]
def mo_Spl_solve_38 : List mmO := [(38, .iconst (1), 0, 0), (39, .istore 2, 0, 0), (40, .nop, 0, 0)]
def mo_Spl_solve_40 : List mmO := [(40, .iload 2, 0, 0), (41, .iload 1, 0, 0), (42, .if_icmp .gt 0, 86, 0), (45, .iload 2, 0, 0), (46, .iconst (4), 0, 0), (47, .if_icmp .gt 0, 86, 0), (50, .iconst (0), 0, 0), (51, .istore 3, 0, 0), (52, .nop, 0, 0)]
def mo_Spl_solve_52 : List mmO := [(52, .iload 3, 0, 0), (53, .aload 0, 0, 0), (54, .getfield 48, 6, 4), (57, .if_icmp .gt 0, 80, 0), (60, .aload 0, 0, 0), (61, .getstatic 20, 6, 3), (64, .iload 2, 0, 0), (65, .aaload, 0, 0), (66, .iload 3, 0, 0), (67, .aload 0, 0, 0), (68, .iload 2, 0, 0), (69, .iload 3, 0, 0), (70, .invokevirtual 76, 604, 3), (73, .iastore, 0, 0), (74, .iinc 3 (1), 0, 0), (77, .goto 0, 52, 0)]
def mo_Spl_solve_80 : List mmO := [(80, .iinc 2 (1), 0, 0), (83, .goto 0, 40, 0)]
def mo_Spl_solve_86 : List mmO := [(86, .return_, 0, 0)]
def mb_Spl_solve : List (Nat × List mmO) := [(0, mo_Spl_solve_0), (2, mo_Spl_solve_2), (29, mo_Spl_solve_29), (31, mo_Spl_solve_31), (38, mo_Spl_solve_38), (40, mo_Spl_solve_40), (52, mo_Spl_solve_52), (80, mo_Spl_solve_80), (86, mo_Spl_solve_86)]
def mo_Spl_leastFrom_0 : List mmO := [(0, .iconst (1000000000), 75, 0), (2, .istore 3, 0, 0), (3, .iload 2, 0, 0), (4, .istore 4, 0, 0), (6, .nop, 0, 0)]
def mo_Spl_leastFrom_6 : List mmO := [(6, .iload 4, 0, 0), (8, .aload 0, 0, 0), (9, .getfield 48, 6, 4), (12, .if_icmp .gt 0, 47, 0), (15, .iload 3, 0, 0), (16, .aload 0, 0, 0), (17, .iload 2, 0, 0), (18, .iload 4, 0, 0), (20, .invokevirtual 79, 602, 3), (23, .aload 0, 0, 0), (24, .getstatic 20, 6, 3), (27, .iload 1, 0, 0), (28, .iconst (1), 0, 0), (29, .isub, 0, 0), (30, .aaload, 0, 0), (31, .iload 4, 0, 0), (33, .iaload, 0, 0), (34, .fadd, 82, 0), (37, .fsub, 42, 0), (40, .istore 3, 0, 0), (41, .iinc 4 (1), 0, 0), (44, .goto 0, 6, 0)]
def mo_Spl_leastFrom_47 : List mmO := [(47, .iload 3, 0, 0), (48, .ireturn, 0, 0)]
def mb_Spl_leastFrom : List (Nat × List mmO) := [(0, mo_Spl_leastFrom_0), (6, mo_Spl_leastFrom_6), (47, mo_Spl_leastFrom_47)]
def mo_Spl_greatest_0 : List mmO := [(0, .iload 1, 0, 0), (1, .ifCond .lt 0, 20, 0), (4, .iload 1, 0, 0), (5, .iconst (4), 0, 0), (6, .if_icmp .gt 0, 20, 0), (9, .aload 0, 0, 0), (10, .getstatic 20, 6, 3), (13, .iload 1, 0, 0), (14, .aaload, 0, 0), (15, .iconst (0), 0, 0), (16, .iaload, 0, 0), (17, .goto 0, 21, 0)]
def mo_Spl_greatest_20 : List mmO := [(20, .iconst (-1), 0, 0), (21, .nop, 0, 0)]
def mo_Spl_greatest_21 : List mmO := [(21, .ireturn, 0, 0)]
def mb_Spl_greatest : List (Nat × List mmO) := [(0, mo_Spl_greatest_0), (20, mo_Spl_greatest_20), (21, mo_Spl_greatest_21)]
def mo_Spl_share_0 : List mmO := [(0, .aload 0, 0, 0), (1, .iload 1, 0, 0), (2, .invokevirtual 85, 605, 2), (5, .istore 3, 0, 0), (6, .iconst (0), 0, 0), (7, .istore 4, 0, 0), (9, .iconst (0), 0, 0), (10, .istore 5, 0, 0), (12, .iconst (1), 0, 0), (13, .istore 6, 0, 0), (15, .nop, 0, 0)]
def mo_Spl_share_15 : List mmO := [(15, .iload 6, 0, 0), (17, .iload 2, 0, 0), (18, .if_icmp .gt 0, 57, 0), (21, .iload 6, 0, 0), (23, .iload 1, 0, 0), (24, .if_icmp .gt 0, 57, 0), (27, .aload 0, 0, 0), (28, .iload 4, 0, 0), (30, .iload 1, 0, 0), (31, .iload 6, 0, 0), (33, .isub, 0, 0), (34, .iload 3, 0, 0), (35, .invokevirtual 88, 607, 4), (38, .istore 7, 0, 0), (40, .iload 7, 0, 0), (42, .iload 4, 0, 0), (44, .isub, 0, 0), (45, .istore 5, 0, 0), (47, .iload 7, 0, 0), (49, .istore 4, 0, 0), (51, .iinc 6 (1), 0, 0), (54, .goto 0, 15, 0)]
def mo_Spl_share_57 : List mmO := [(57, .iload 5, 0, 0), (59, .ireturn, 0, 0)]
def mb_Spl_share : List (Nat × List mmO) := [(0, mo_Spl_share_0), (15, mo_Spl_share_15), (57, mo_Spl_share_57)]
def mo_Spl_furthest_0 : List mmO := [(0, .aload 0, 0, 0), (1, .getfield 48, 6, 4), (4, .istore 4, 0, 0), (6, .nop, 0, 0)]
def mo_Spl_furthest_6 : List mmO := [(6, .iload 4, 0, 0), (8, .iload 1, 0, 0), (9, .if_icmp .le 0, 45, 0), (12, .aload 0, 0, 0), (13, .iload 1, 0, 0), (14, .iload 4, 0, 0), (16, .invokevirtual 79, 602, 3), (19, .iload 3, 0, 0), (20, .if_icmp .gt 0, 39, 0), (23, .aload 0, 0, 0), (24, .getstatic 20, 6, 3), (27, .iload 2, 0, 0), (28, .aaload, 0, 0), (29, .iload 4, 0, 0), (31, .iaload, 0, 0), (32, .iload 3, 0, 0), (33, .if_icmp .gt 0, 39, 0), (36, .iload 4, 0, 0), (38, .ireturn, 0, 0)]
def mo_Spl_furthest_39 : List mmO := [(39, .iinc 4 (-1), 0, 0), (42, .goto 0, 6, 0)]
def mo_Spl_furthest_45 : List mmO := [(45, .iload 1, 0, 0), (46, .ireturn, 0, 0)]
def mb_Spl_furthest : List (Nat × List mmO) := [(0, mo_Spl_furthest_0), (6, mo_Spl_furthest_6), (39, mo_Spl_furthest_39), (45, mo_Spl_furthest_45)]
def mo_Tal_take_0 : List mmO := [(0, .aload 0, 0, 0), (1, .getstatic 9, 7, 1), (4, .iconst (0), 0, 0), (5, .invokestatic 18, 1500, 2), (8, .iload 2, 0, 0), (9, .iconst (0), 0, 0), (10, .fadd, 24, 0), (13, .istore 4, 0, 0), (15, .nop, 0, 0)]
def mo_Tal_take_15 : List mmO := [(15, .iload 4, 0, 0), (17, .iload 3, 0, 0), (18, .if_icmp .gt 0, 59, 0), (21, .iload 4, 0, 0), (23, .aload 1, 0, 0), (24, .arraylength, 0, 0), (25, .if_icmp .ge 0, 59, 0), (28, .aload 1, 0, 0), (29, .iload 4, 0, 0), (31, .iaload, 0, 0), (32, .istore 5, 0, 0), (34, .iload 5, 0, 0), (36, .invokestatic 30, 1029, 1), (39, .ifCond .eq 0, 53, 0), (42, .aload 0, 0, 0), (43, .getstatic 9, 7, 1), (46, .iload 5, 0, 0), (48, .dup2, 0, 0), (49, .iaload, 0, 0), (50, .iconst (1), 0, 0), (51, .iadd, 0, 0), (52, .iastore, 0, 0), (53, .nop, 0, 0)]
def mo_Tal_take_53 : List mmO := [(53, .iinc 4 (1), 0, 0), (56, .goto 0, 15, 0)]
def mo_Tal_take_59 : List mmO := [(59, .return_, 0, 0)]
def mb_Tal_take : List (Nat × List mmO) := [(0, mo_Tal_take_0), (15, mo_Tal_take_15), (53, mo_Tal_take_53), (59, mo_Tal_take_59)]
def mo_Tal_tell_0 : List mmO := [(0, .iload 1, 0, 0), (1, .lookupswitch 0 #[(0, 44), (1, 49), (2, 54), (3, 65), (4, 71), (5, 76), (6, 81)], 86, 0)]
def mo_Tal_tell_44 : List mmO := [(44, .aload 0, 0, 0), (45, .invokevirtual 34, 703, 1), (48, .lreturn, 0, 0)]
def mo_Tal_tell_49 : List mmO := [(49, .aload 0, 0, 0), (50, .invokevirtual 38, 704, 1), (53, .lreturn, 0, 0)]
def mo_Tal_tell_54 : List mmO := [(54, .aload 0, 0, 0), (55, .getstatic 9, 7, 1), (58, .aload 0, 0, 0), (59, .invokevirtual 41, 705, 1), (62, .iaload, 0, 0), (63, .i2l, 0, 0), (64, .lreturn, 0, 0)]
def mo_Tal_tell_65 : List mmO := [(65, .aload 0, 0, 0), (66, .invokevirtual 41, 705, 1), (69, .i2l, 0, 0), (70, .lreturn, 0, 0)]
def mo_Tal_tell_71 : List mmO := [(71, .aload 0, 0, 0), (72, .invokevirtual 45, 706, 1), (75, .lreturn, 0, 0)]
def mo_Tal_tell_76 : List mmO := [(76, .aload 0, 0, 0), (77, .invokevirtual 48, 707, 1), (80, .lreturn, 0, 0)]
def mo_Tal_tell_81 : List mmO := [(81, .aload 0, 0, 0), (82, .invokevirtual 51, 708, 1), (85, .lreturn, 0, 0)]
def mo_Tal_tell_86 : List mmO := [(86, .aload 0, 0, 0), (87, .invokevirtual 54, 710, 1), (90, .lreturn, 0, 0)]
def mb_Tal_tell : List (Nat × List mmO) := [(0, mo_Tal_tell_0), (44, mo_Tal_tell_44), (49, mo_Tal_tell_49), (54, mo_Tal_tell_54), (65, mo_Tal_tell_65), (71, mo_Tal_tell_71), (76, mo_Tal_tell_76), (81, mo_Tal_tell_81), (86, mo_Tal_tell_86)]
def mo_Tal_sum_0 : List mmO := [(0, .bipush 0, 0, 0), (1, .lstore 1, 0, 0), (2, .iconst (0), 0, 0), (3, .istore 3, 0, 0), (4, .nop, 0, 0)]
def mo_Tal_sum_4 : List mmO := [(4, .iload 3, 0, 0), (5, .iconst (64), 0, 0), (7, .if_icmp .ge 0, 29, 0), (10, .lload 1, 0, 0), (11, .iload 3, 0, 0), (12, .i2l, 0, 0), (13, .aload 0, 0, 0), (14, .getstatic 9, 7, 1), (17, .iload 3, 0, 0), (18, .iaload, 0, 0), (19, .i2l, 0, 0), (20, .lmul, 0, 0), (21, .ladd, 0, 0), (22, .lstore 1, 0, 0), (23, .iinc 3 (1), 0, 0), (26, .goto 0, 4, 0)]
def mo_Tal_sum_29 : List mmO := [(29, .lload 1, 0, 0), (30, .lreturn, 0, 0)]
def mb_Tal_sum : List (Nat × List mmO) := [(0, mo_Tal_sum_0), (4, mo_Tal_sum_4), (29, mo_Tal_sum_29)]
def mo_Tal_unlike_0 : List mmO := [(0, .bipush 0, 0, 0), (1, .lstore 1, 0, 0), (2, .iconst (0), 0, 0), (3, .istore 3, 0, 0), (4, .nop, 0, 0)]
def mo_Tal_unlike_4 : List mmO := [(4, .iload 3, 0, 0), (5, .iconst (64), 0, 0), (7, .if_icmp .ge 0, 29, 0), (10, .aload 0, 0, 0), (11, .getstatic 9, 7, 1), (14, .iload 3, 0, 0), (15, .iaload, 0, 0), (16, .ifCond .le 0, 23, 0), (19, .lload 1, 0, 0), (20, .bipush 1, 0, 0), (21, .ladd, 0, 0), (22, .lstore 1, 0, 0), (23, .nop, 0, 0)]
def mo_Tal_unlike_23 : List mmO := [(23, .iinc 3 (1), 0, 0), (26, .goto 0, 4, 0)]
def mo_Tal_unlike_29 : List mmO := [(29, .lload 1, 0, 0), (30, .lreturn, 0, 0)]
def mb_Tal_unlike : List (Nat × List mmO) := [(0, mo_Tal_unlike_0), (4, mo_Tal_unlike_4), (23, mo_Tal_unlike_23), (29, mo_Tal_unlike_29)]
def mo_Tal_mostFrequent_0 : List mmO := [(0, .iconst (0), 0, 0), (1, .istore 1, 0, 0), (2, .iconst (1), 0, 0), (3, .istore 2, 0, 0), (4, .nop, 0, 0)]
def mo_Tal_mostFrequent_4 : List mmO := [(4, .iload 2, 0, 0), (5, .iconst (64), 0, 0), (7, .if_icmp .ge 0, 33, 0), (10, .aload 0, 0, 0), (11, .getstatic 9, 7, 1), (14, .iload 2, 0, 0), (15, .iaload, 0, 0), (16, .aload 0, 0, 0), (17, .getstatic 9, 7, 1), (20, .iload 1, 0, 0), (21, .iaload, 0, 0), (22, .if_icmp .le 0, 27, 0), (25, .iload 2, 0, 0), (26, .istore 1, 0, 0), (27, .nop, 0, 0)]
def mo_Tal_mostFrequent_27 : List mmO := [(27, .iinc 2 (1), 0, 0), (30, .goto 0, 4, 0)]
def mo_Tal_mostFrequent_33 : List mmO := [(33, .iload 1, 0, 0), (34, .ireturn, 0, 0)]
def mb_Tal_mostFrequent : List (Nat × List mmO) := [(0, mo_Tal_mostFrequent_0), (4, mo_Tal_mostFrequent_4), (27, mo_Tal_mostFrequent_27), (33, mo_Tal_mostFrequent_33)]
def mo_Tal_power_0 : List mmO := [(0, .bipush 0, 0, 0), (1, .lstore 1, 0, 0), (2, .iconst (0), 0, 0), (3, .istore 3, 0, 0), (4, .nop, 0, 0)]
def mo_Tal_power_4 : List mmO := [(4, .iload 3, 0, 0), (5, .iconst (64), 0, 0), (7, .if_icmp .ge 0, 37, 0), (10, .lload 1, 0, 0), (11, .aload 0, 0, 0), (12, .getstatic 9, 7, 1), (15, .iload 3, 0, 0), (16, .iaload, 0, 0), (17, .i2l, 0, 0), (18, .aload 0, 0, 0), (19, .getstatic 9, 7, 1), (22, .iload 3, 0, 0), (23, .iaload, 0, 0), (24, .i2l, 0, 0), (25, .lmul, 0, 0), (26, .iload 3, 0, 0), (27, .i2l, 0, 0), (28, .lmul, 0, 0), (29, .ladd, 0, 0), (30, .lstore 1, 0, 0), (31, .iinc 3 (1), 0, 0), (34, .goto 0, 4, 0)]
def mo_Tal_power_37 : List mmO := [(37, .lload 1, 0, 0), (38, .lreturn, 0, 0)]
def mb_Tal_power : List (Nat × List mmO) := [(0, mo_Tal_power_0), (4, mo_Tal_power_4), (37, mo_Tal_power_37)]
def mo_Tal_missing_0 : List mmO := [(0, .iconst (0), 0, 0), (1, .istore 1, 0, 0), (2, .nop, 0, 0)]
def mo_Tal_missing_2 : List mmO := [(2, .iload 1, 0, 0), (3, .iconst (64), 0, 0), (5, .if_icmp .ge 0, 23, 0), (8, .aload 0, 0, 0), (9, .getstatic 9, 7, 1), (12, .iload 1, 0, 0), (13, .iaload, 0, 0), (14, .ifCond .le 0, 23, 0), (17, .iinc 1 (1), 0, 0), (20, .goto 0, 2, 0)]
def mo_Tal_missing_23 : List mmO := [(23, .iload 1, 0, 0), (24, .i2l, 0, 0), (25, .lreturn, 0, 0)]
def mb_Tal_missing : List (Nat × List mmO) := [(0, mo_Tal_missing_0), (2, mo_Tal_missing_2), (23, mo_Tal_missing_23)]
def mo_Tal_parts_0 : List mmO := [(0, .iconst (0), 0, 0), (1, .istore 1, 0, 0), (2, .nop, 0, 0)]
def mo_Tal_parts_2 : List mmO := [(2, .iload 1, 0, 0), (3, .iconst (8), 0, 0), (5, .if_icmp .ge 0, 21, 0), (8, .aload 0, 0, 0), (9, .getstatic 15, 7, 2), (12, .iload 1, 0, 0), (13, .iload 1, 0, 0), (14, .iastore, 0, 0), (15, .iinc 1 (1), 0, 0), (18, .goto 0, 2, 0)]
def mo_Tal_parts_21 : List mmO := [(21, .bipush (8), 57, 0), (24, .lstore 1, 0, 0), (25, .iconst (0), 0, 0), (26, .istore 3, 0, 0), (27, .nop, 0, 0)]
def mo_Tal_parts_27 : List mmO := [(27, .iload 3, 0, 0), (28, .iconst (64), 0, 0), (30, .if_icmp .ge 0, 67, 0), (33, .aload 0, 0, 0), (34, .getstatic 9, 7, 1), (37, .iload 3, 0, 0), (38, .iaload, 0, 0), (39, .ifCond .le 0, 61, 0), (42, .aload 0, 0, 0), (43, .iload 3, 0, 0), (44, .iconst (8), 0, 0), (46, .idiv, 0, 0), (47, .iload 3, 0, 0), (48, .iconst (8), 0, 0), (50, .irem, 0, 0), (51, .invokevirtual 59, 709, 3), (54, .ifCond .eq 0, 61, 0), (57, .lload 1, 0, 0), (58, .bipush 1, 0, 0), (59, .lsub, 0, 0), (60, .lstore 1, 0, 0), (61, .nop, 0, 0)]
def mo_Tal_parts_61 : List mmO := [(61, .iinc 3 (1), 0, 0), (64, .goto 0, 27, 0)]
def mo_Tal_parts_67 : List mmO := [(67, .lload 1, 0, 0), (68, .lreturn, 0, 0)]
def mb_Tal_parts : List (Nat × List mmO) := [(0, mo_Tal_parts_0), (2, mo_Tal_parts_2), (21, mo_Tal_parts_21), (27, mo_Tal_parts_27), (61, mo_Tal_parts_61), (67, mo_Tal_parts_67)]
def mo_Tal_join_0 : List mmO := [(0, .aload 0, 0, 0), (1, .getstatic 15, 7, 2), (4, .iload 1, 0, 0), (5, .iaload, 0, 0), (6, .istore 3, 0, 0), (7, .aload 0, 0, 0), (8, .getstatic 15, 7, 2), (11, .iload 2, 0, 0), (12, .iaload, 0, 0), (13, .istore 4, 0, 0), (15, .iconst (0), 0, 0), (16, .istore 5, 0, 0), (18, .nop, 0, 0)]
def mo_Tal_join_18 : List mmO := [(18, .iload 5, 0, 0), (20, .iconst (8), 0, 0), (22, .if_icmp .ge 0, 51, 0), (25, .aload 0, 0, 0), (26, .getstatic 15, 7, 2), (29, .iload 5, 0, 0), (31, .iaload, 0, 0), (32, .iload 4, 0, 0), (34, .if_icmp .ne 0, 45, 0), (37, .aload 0, 0, 0), (38, .getstatic 15, 7, 2), (41, .iload 5, 0, 0), (43, .iload 3, 0, 0), (44, .iastore, 0, 0), (45, .nop, 0, 0)]
def mo_Tal_join_45 : List mmO := [(45, .iinc 5 (1), 0, 0), (48, .goto 0, 18, 0)]
def mo_Tal_join_51 : List mmO := [(51, .iload 3, 0, 0), (52, .iload 4, 0, 0), (54, .if_icmp .eq 0, 61, 0), (57, .iconst (1), 0, 0), (58, .goto 0, 62, 0)]
def mo_Tal_join_61 : List mmO := [(61, .iconst (0), 0, 0), (62, .nop, 0, 0)]
def mo_Tal_join_62 : List mmO := [(62, .freturn, 0, 0)]
def mb_Tal_join : List (Nat × List mmO) := [(0, mo_Tal_join_0), (18, mo_Tal_join_18), (45, mo_Tal_join_45), (51, mo_Tal_join_51), (61, mo_Tal_join_61), (62, mo_Tal_join_62)]
def mo_Tal_pairs_0 : List mmO := [(0, .bipush 0, 0, 0), (1, .lstore 1, 0, 0), (2, .iconst (0), 0, 0), (3, .istore 3, 0, 0), (4, .nop, 0, 0)]
def mo_Tal_pairs_4 : List mmO := [(4, .iload 3, 0, 0), (5, .iconst (64), 0, 0), (7, .if_icmp .ge 0, 40, 0), (10, .lload 1, 0, 0), (11, .aload 0, 0, 0), (12, .getstatic 9, 7, 1), (15, .iload 3, 0, 0), (16, .iaload, 0, 0), (17, .i2l, 0, 0), (18, .aload 0, 0, 0), (19, .getstatic 9, 7, 1), (22, .iload 3, 0, 0), (23, .iaload, 0, 0), (24, .iconst (1), 0, 0), (25, .isub, 0, 0), (26, .i2l, 0, 0), (27, .lmul, 0, 0), (28, .bipush (2), 63, 0), (31, .ldiv, 0, 0), (32, .ladd, 0, 0), (33, .lstore 1, 0, 0), (34, .iinc 3 (1), 0, 0), (37, .goto 0, 4, 0)]
def mo_Tal_pairs_40 : List mmO := [(40, .lload 1, 0, 0), (41, .lreturn, 0, 0)]
def mb_Tal_pairs : List (Nat × List mmO) := [(0, mo_Tal_pairs_0), (4, mo_Tal_pairs_4), (40, mo_Tal_pairs_40)]
def mo_Und_lay_0 : List mmO := [(0, .aload 0, 0, 0), (1, .getstatic 10, 8, 1), (4, .iconst (0), 0, 0), (5, .putfield 16, 5, 1), (8, .iload 2, 0, 0), (9, .iconst (1), 0, 0), (10, .if_icmp .ge 0, 14, 0), (13, .return_, 0, 0)]
def mo_Und_lay_14 : List mmO := [(14, .iconst (0), 0, 0), (15, .istore 3, 0, 0), (16, .nop, 0, 0)]
def mo_Und_lay_16 : List mmO := [(16, .iload 3, 0, 0), (17, .aload 1, 0, 0), (18, .getfield 20, 2, 4), (21, .if_icmp .ge 0, 69, 0), (24, .aload 1, 0, 0), (25, .iload 3, 0, 0), (26, .invokevirtual 23, 206, 2), (29, .ifCond .ne 0, 63, 0), (32, .aload 0, 0, 0), (33, .getstatic 10, 8, 1), (36, .aload 1, 0, 0), (37, .getstatic 27, 2, 4), (40, .iload 3, 0, 0), (41, .iaload, 0, 0), (42, .aload 1, 0, 0), (43, .getstatic 31, 2, 2), (46, .iload 3, 0, 0), (47, .iaload, 0, 0), (48, .iload 2, 0, 0), (49, .idiv, 0, 0), (50, .aload 1, 0, 0), (51, .getstatic 34, 2, 3), (54, .iload 3, 0, 0), (55, .iaload, 0, 0), (56, .iload 3, 0, 0), (57, .invokestatic 37, 501, 4), (60, .invokevirtual 41, 502, 2), (63, .nop, 0, 0)]
def mo_Und_lay_63 : List mmO := [(63, .iinc 3 (1), 0, 0), (66, .goto 0, 16, 0)]
def mo_Und_lay_69 : List mmO := [(69, .return_, 0, 0)]
def mb_Und_lay : List (Nat × List mmO) := [(0, mo_Und_lay_0), (14, mo_Und_lay_14), (16, mo_Und_lay_16), (63, mo_Und_lay_63), (69, mo_Und_lay_69)]
def mo_Und_follow_0 : List mmO := [(0, .aload 0, 0, 0), (1, .iconst (0), 0, 0), (2, .putfield 45, 8, 1), (5, .aload 0, 0, 0), (6, .iconst (0), 0, 0), (7, .putfield 48, 8, 2), (10, .aload 0, 0, 0), (11, .iconst (0), 0, 0), (12, .putfield 51, 8, 3), (15, .iconst (0), 0, 0), (16, .istore 4, 0, 0), (18, .iconst (0), 0, 0), (19, .istore 5, 0, 0), (21, .iconst (0), 0, 0), (22, .istore 6, 0, 0), (24, .nop, 0, 0)]
def mo_Und_follow_24 : List mmO := [(24, .iload 6, 0, 0), (26, .aload 0, 0, 0), (27, .getstatic 10, 8, 1), (30, .getfield 16, 5, 1), (33, .if_icmp .ge 0, 126, 0), (36, .iload 2, 0, 0), (37, .ifCond .le 0, 126, 0), (40, .aload 0, 0, 0), (41, .getstatic 10, 8, 1), (44, .iload 6, 0, 0), (46, .invokevirtual 54, 503, 2), (49, .istore 7, 0, 0), (51, .aload 0, 0, 0), (52, .getstatic 10, 8, 1), (55, .iload 6, 0, 0), (57, .invokevirtual 58, 504, 2), (60, .ifCond .ne 0, 96, 0), (63, .aload 0, 0, 0), (64, .dup, 0, 0), (65, .getfield 48, 8, 2), (68, .iconst (1), 0, 0), (69, .iadd, 0, 0), (70, .putfield 48, 8, 2), (73, .iload 3, 0, 0), (74, .aload 1, 0, 0), (75, .getstatic 31, 2, 2), (78, .iload 7, 0, 0), (80, .iaload, 0, 0), (81, .iload 2, 0, 0), (82, .idiv, 0, 0), (83, .iload 2, 0, 0), (84, .imul, 0, 0), (85, .iload 2, 0, 0), (86, .iadd, 0, 0), (87, .fsub, 61, 0), (90, .istore 4, 0, 0), (92, .iload 4, 0, 0), (94, .istore 5, 0, 0), (96, .nop, 0, 0)]
def mo_Und_follow_96 : List mmO := [(96, .aload 0, 0, 0), (97, .aload 1, 0, 0), (98, .getstatic 31, 2, 2), (101, .iload 7, 0, 0), (103, .iaload, 0, 0), (104, .aload 1, 0, 0), (105, .getstatic 34, 2, 3), (108, .iload 7, 0, 0), (110, .iaload, 0, 0), (111, .iload 4, 0, 0), (113, .iload 5, 0, 0), (115, .invokevirtual 67, 803, 5), (118, .istore 5, 0, 0), (120, .iinc 6 (1), 0, 0), (123, .goto 0, 24, 0)]
def mo_Und_follow_126 : List mmO := [(126, .return_, 0, 0)]
def mb_Und_follow : List (Nat × List mmO) := [(0, mo_Und_follow_0), (24, mo_Und_follow_24), (96, mo_Und_follow_96), (126, mo_Und_follow_126)]
def mo_Und_come_0 : List mmO := [(0, .iload 2, 0, 0), (1, .iload 3, 0, 0), (2, .if_icmp .ge 0, 38, 0), (5, .aload 0, 0, 0), (6, .dup, 0, 0), (7, .getfield 45, 8, 1), (10, .iload 2, 0, 0), (11, .iload 1, 0, 0), (12, .isub, 0, 0), (13, .iconst (1), 0, 0), (14, .iadd, 0, 0), (15, .iadd, 0, 0), (16, .putfield 45, 8, 1), (19, .aload 0, 0, 0), (20, .aload 0, 0, 0), (21, .getfield 51, 8, 3), (24, .iload 2, 0, 0), (25, .iload 1, 0, 0), (26, .isub, 0, 0), (27, .iconst (1), 0, 0), (28, .iadd, 0, 0), (29, .fadd, 70, 0), (32, .putfield 51, 8, 3), (35, .iload 4, 0, 0), (37, .ireturn, 0, 0)]
def mo_Und_come_38 : List mmO := [(38, .iload 4, 0, 0), (40, .iload 2, 0, 0), (41, .iconst (1), 0, 0), (42, .iadd, 0, 0), (43, .fadd, 70, 0), (46, .istore 5, 0, 0), (48, .aload 0, 0, 0), (49, .dup, 0, 0), (50, .getfield 45, 8, 1), (53, .iload 5, 0, 0), (55, .iload 4, 0, 0), (57, .isub, 0, 0), (58, .iload 3, 0, 0), (59, .iadd, 0, 0), (60, .iload 1, 0, 0), (61, .isub, 0, 0), (62, .iadd, 0, 0), (63, .putfield 45, 8, 1), (66, .aload 0, 0, 0), (67, .aload 0, 0, 0), (68, .getfield 51, 8, 3), (71, .iload 5, 0, 0), (73, .iload 1, 0, 0), (74, .isub, 0, 0), (75, .fadd, 70, 0), (78, .putfield 51, 8, 3), (81, .iload 5, 0, 0), (83, .ireturn, 0, 0)]
def mb_Und_come : List (Nat × List mmO) := [(0, mo_Und_come_0), (38, mo_Und_come_38)]
def mo_Win_begin_0 : List mmO := [(0, .aload 0, 0, 0), (1, .iconst (0), 0, 0), (2, .putfield 15, 9, 1), (5, .aload 0, 0, 0), (6, .iconst (-1), 0, 0), (7, .putfield 19, 9, 2), (10, .aload 0, 0, 0), (11, .iconst (0), 0, 0), (12, .putfield 22, 9, 3), (15, .aload 0, 0, 0), (16, .iconst (0), 0, 0), (17, .putfield 25, 9, 4), (20, .aload 0, 0, 0), (21, .iconst (0), 0, 0), (22, .putfield 28, 9, 5), (25, .aload 0, 0, 0), (26, .iconst (0), 0, 0), (27, .putfield 31, 9, 6), (30, .return_, 0, 0)]
def mb_Win_begin : List (Nat × List mmO) := [(0, mo_Win_begin_0)]
def mo_Win_has_0 : List mmO := [(0, .aload 0, 0, 0), (1, .getfield 15, 9, 1), (4, .iload 1, 0, 0), (5, .if_icmp .gt 0, 20, 0), (8, .iload 1, 0, 0), (9, .aload 0, 0, 0), (10, .getfield 19, 9, 2), (13, .if_icmp .gt 0, 20, 0), (16, .iconst (1), 0, 0), (17, .goto 0, 21, 0)]
def mo_Win_has_20 : List mmO := [(20, .iconst (0), 0, 0), (21, .nop, 0, 0)]
def mo_Win_has_21 : List mmO := [(21, .freturn, 0, 0)]
def mb_Win_has : List (Nat × List mmO) := [(0, mo_Win_has_0), (20, mo_Win_has_20), (21, mo_Win_has_21)]
def mo_Win_cost_0 : List mmO := [(0, .aload 0, 0, 0), (1, .getfield 25, 9, 4), (4, .iload 1, 0, 0), (5, .aload 0, 0, 0), (6, .getfield 28, 9, 5), (9, .imul, 0, 0), (10, .iadd, 0, 0), (11, .ireturn, 0, 0)]
def mb_Win_cost : List (Nat × List mmO) := [(0, mo_Win_cost_0)]
def mo_Win_aim_0 : List mmO := [(0, .aload 0, 0, 0), (1, .getstatic 9, 9, 1), (4, .iconst (0), 0, 0), (5, .iconst (0), 0, 0), (6, .aload 0, 0, 0), (7, .getfield 15, 9, 1), (10, .iload 1, 0, 0), (11, .isub, 0, 0), (12, .fadd, 34, 0), (15, .iastore, 0, 0), (16, .aload 0, 0, 0), (17, .getstatic 9, 9, 1), (20, .iconst (1), 0, 0), (21, .iconst (0), 0, 0), (22, .iload 2, 0, 0), (23, .aload 0, 0, 0), (24, .getfield 19, 9, 2), (27, .isub, 0, 0), (28, .fadd, 34, 0), (31, .iastore, 0, 0), (32, .aload 0, 0, 0), (33, .getstatic 9, 9, 1), (36, .iconst (2), 0, 0), (37, .iconst (0), 0, 0), (38, .iload 1, 0, 0), (39, .aload 0, 0, 0), (40, .getfield 15, 9, 1), (43, .isub, 0, 0), (44, .fadd, 34, 0), (47, .iastore, 0, 0), (48, .aload 0, 0, 0), (49, .getstatic 9, 9, 1), (52, .iconst (3), 0, 0), (53, .iconst (0), 0, 0), (54, .aload 0, 0, 0), (55, .getfield 19, 9, 2), (58, .iload 2, 0, 0), (59, .isub, 0, 0), (60, .fadd, 34, 0), (63, .iastore, 0, 0), (64, .aload 0, 0, 0), (65, .getstatic 9, 9, 1), (68, .iconst (4), 0, 0), (69, .iconst (0), 0, 0), (70, .iload 3, 0, 0), (71, .aload 0, 0, 0), (72, .getfield 22, 9, 3), (75, .isub, 0, 0), (76, .fadd, 34, 0), (79, .iastore, 0, 0), (80, .aload 0, 0, 0), (81, .getstatic 9, 9, 1), (84, .iconst (5), 0, 0), (85, .iconst (0), 0, 0), (86, .aload 0, 0, 0), (87, .getfield 22, 9, 3), (90, .iload 3, 0, 0), (91, .isub, 0, 0), (92, .fadd, 34, 0), (95, .iastore, 0, 0), (96, .return_, 0, 0)]
def mb_Win_aim : List (Nat × List mmO) := [(0, mo_Win_aim_0)]
def mo_Win_distance_0 : List mmO := [(0, .iconst (0), 0, 0), (1, .istore 1, 0, 0), (2, .iconst (0), 0, 0), (3, .istore 2, 0, 0), (4, .nop, 0, 0)]
def mo_Win_distance_4 : List mmO := [(4, .iload 2, 0, 0), (5, .iconst (6), 0, 0), (7, .if_icmp .ge 0, 25, 0), (10, .iload 1, 0, 0), (11, .aload 0, 0, 0), (12, .getstatic 9, 9, 1), (15, .iload 2, 0, 0), (16, .iaload, 0, 0), (17, .iadd, 0, 0), (18, .istore 1, 0, 0), (19, .iinc 2 (1), 0, 0), (22, .goto 0, 4, 0)]
def mo_Win_distance_25 : List mmO := [(25, .iload 1, 0, 0), (26, .ireturn, 0, 0)]
def mb_Win_distance : List (Nat × List mmO) := [(0, mo_Win_distance_0), (4, mo_Win_distance_4), (25, mo_Win_distance_25)]
def mo_Win_nextKind_0 : List mmO := [(0, .iconst (0), 0, 0), (1, .istore 1, 0, 0), (2, .nop, 0, 0)]
def mo_Win_nextKind_2 : List mmO := [(2, .iload 1, 0, 0), (3, .iconst (6), 0, 0), (5, .if_icmp .ge 0, 25, 0), (8, .aload 0, 0, 0), (9, .getstatic 9, 9, 1), (12, .iload 1, 0, 0), (13, .iaload, 0, 0), (14, .ifCond .le 0, 19, 0), (17, .iload 1, 0, 0), (18, .ireturn, 0, 0)]
def mo_Win_nextKind_19 : List mmO := [(19, .iinc 1 (1), 0, 0), (22, .goto 0, 2, 0)]
def mo_Win_nextKind_25 : List mmO := [(25, .iconst (-1), 0, 0), (26, .ireturn, 0, 0)]
def mb_Win_nextKind : List (Nat × List mmO) := [(0, mo_Win_nextKind_0), (2, mo_Win_nextKind_2), (19, mo_Win_nextKind_19), (25, mo_Win_nextKind_25)]
def mo_Win_make_0 : List mmO := [(0, .iconst (0), 0, 0), (1, .istore 2, 0, 0), (2, .iconst (0), 0, 0), (3, .istore 3, 0, 0), (4, .nop, 0, 0)]
def mo_Win_make_4 : List mmO := [(4, .iload 3, 0, 0), (5, .iconst (6), 0, 0), (7, .if_icmp .ge 0, 51, 0), (10, .aload 0, 0, 0), (11, .getstatic 9, 9, 1), (14, .iload 3, 0, 0), (15, .iaload, 0, 0), (16, .iload 1, 0, 0), (17, .iload 2, 0, 0), (18, .isub, 0, 0), (19, .fsub, 40, 0), (22, .istore 4, 0, 0), (24, .aload 0, 0, 0), (25, .getstatic 9, 9, 1), (28, .iload 3, 0, 0), (29, .dup2, 0, 0), (30, .iaload, 0, 0), (31, .iload 4, 0, 0), (33, .isub, 0, 0), (34, .iastore, 0, 0), (35, .iload 2, 0, 0), (36, .aload 0, 0, 0), (37, .iload 3, 0, 0), (38, .iload 4, 0, 0), (40, .invokevirtual 43, 908, 3), (43, .iadd, 0, 0), (44, .istore 2, 0, 0), (45, .iinc 3 (1), 0, 0), (48, .goto 0, 4, 0)]
def mo_Win_make_51 : List mmO := [(51, .iload 2, 0, 0), (52, .ireturn, 0, 0)]
def mb_Win_make : List (Nat × List mmO) := [(0, mo_Win_make_0), (4, mo_Win_make_4), (51, mo_Win_make_51)]
def mo_Win_shift_0 : List mmO := [(0, .iload 1, 0, 0), (1, .lookupswitch 0 #[(0, 36), (1, 49), (2, 62), (3, 75), (4, 88)], 101, 0)]
def mo_Win_shift_36 : List mmO := [(36, .aload 0, 0, 0), (37, .dup, 0, 0), (38, .getfield 15, 9, 1), (41, .iload 2, 0, 0), (42, .isub, 0, 0), (43, .putfield 15, 9, 1), (46, .goto 0, 111, 0)]
def mo_Win_shift_49 : List mmO := [(49, .aload 0, 0, 0), (50, .dup, 0, 0), (51, .getfield 19, 9, 2), (54, .iload 2, 0, 0), (55, .iadd, 0, 0), (56, .putfield 19, 9, 2), (59, .goto 0, 111, 0)]
def mo_Win_shift_62 : List mmO := [(62, .aload 0, 0, 0), (63, .dup, 0, 0), (64, .getfield 15, 9, 1), (67, .iload 2, 0, 0), (68, .iadd, 0, 0), (69, .putfield 15, 9, 1), (72, .goto 0, 111, 0)]
def mo_Win_shift_75 : List mmO := [(75, .aload 0, 0, 0), (76, .dup, 0, 0), (77, .getfield 19, 9, 2), (80, .iload 2, 0, 0), (81, .isub, 0, 0), (82, .putfield 19, 9, 2), (85, .goto 0, 111, 0)]
def mo_Win_shift_88 : List mmO := [(88, .aload 0, 0, 0), (89, .dup, 0, 0), (90, .getfield 22, 9, 3), (93, .iload 2, 0, 0), (94, .iadd, 0, 0), (95, .putfield 22, 9, 3), (98, .goto 0, 111, 0)]
def mo_Win_shift_101 : List mmO := [(101, .aload 0, 0, 0), (102, .dup, 0, 0), (103, .getfield 22, 9, 3), (106, .iload 2, 0, 0), (107, .isub, 0, 0), (108, .putfield 22, 9, 3), (111, .nop, 0, 0)]
def mo_Win_shift_111 : List mmO := [(111, .iload 1, 0, 0), (112, .iconst (4), 0, 0), (113, .if_icmp .eq 0, 121, 0), (116, .iload 1, 0, 0), (117, .iconst (5), 0, 0), (118, .if_icmp .ne 0, 134, 0), (121, .nop, 0, 0)]
def mo_Win_shift_121 : List mmO := [(121, .aload 0, 0, 0), (122, .dup, 0, 0), (123, .getfield 28, 9, 5), (126, .iload 2, 0, 0), (127, .iadd, 0, 0), (128, .putfield 28, 9, 5), (131, .goto 0, 144, 0)]
def mo_Win_shift_134 : List mmO := [(134, .aload 0, 0, 0), (135, .dup, 0, 0), (136, .getfield 25, 9, 4), (139, .iload 2, 0, 0), (140, .iadd, 0, 0), (141, .putfield 25, 9, 4), (144, .nop, 0, 0)]
def mo_Win_shift_144 : List mmO := [(144, .iload 2, 0, 0), (145, .ireturn, 0, 0)]
def mb_Win_shift : List (Nat × List mmO) := [(0, mo_Win_shift_0), (36, mo_Win_shift_36), (49, mo_Win_shift_49), (62, mo_Win_shift_62), (75, mo_Win_shift_75), (88, mo_Win_shift_88), (101, mo_Win_shift_101), (111, mo_Win_shift_111), (121, mo_Win_shift_121), (134, mo_Win_shift_134), (144, mo_Win_shift_144)]
def mo_Win_movedBy_0 : List mmO := [(0, .iload 1, 0, 0), (1, .lookupswitch 0 #[(0, 36), (1, 43), (2, 50), (3, 55), (4, 60)], 65, 0)]
def mo_Win_movedBy_36 : List mmO := [(36, .aload 0, 0, 0), (37, .getfield 15, 9, 1), (40, .iconst (1), 0, 0), (41, .isub, 0, 0), (42, .ireturn, 0, 0)]
def mo_Win_movedBy_43 : List mmO := [(43, .aload 0, 0, 0), (44, .getfield 19, 9, 2), (47, .iconst (1), 0, 0), (48, .iadd, 0, 0), (49, .ireturn, 0, 0)]
def mo_Win_movedBy_50 : List mmO := [(50, .aload 0, 0, 0), (51, .getfield 15, 9, 1), (54, .ireturn, 0, 0)]
def mo_Win_movedBy_55 : List mmO := [(55, .aload 0, 0, 0), (56, .getfield 19, 9, 2), (59, .ireturn, 0, 0)]
def mo_Win_movedBy_60 : List mmO := [(60, .aload 0, 0, 0), (61, .getfield 22, 9, 3), (64, .ireturn, 0, 0)]
def mo_Win_movedBy_65 : List mmO := [(65, .aload 0, 0, 0), (66, .getfield 22, 9, 3), (69, .iconst (1), 0, 0), (70, .isub, 0, 0), (71, .ireturn, 0, 0)]
def mb_Win_movedBy : List (Nat × List mmO) := [(0, mo_Win_movedBy_0), (36, mo_Win_movedBy_36), (43, mo_Win_movedBy_43), (50, mo_Win_movedBy_50), (55, mo_Win_movedBy_55), (60, mo_Win_movedBy_60), (65, mo_Win_movedBy_65)]
def mo_P_feed_0 : List mmO := [(0, .aload 0, 0, 0), (1, .getstatic 10, 10, 1), (4, .getfield 85, 3, 3), (7, .iconst (20), 0, 0), (9, .iadd, 0, 0), (10, .iconst (600), 0, 0), (13, .if_icmp .le 0, 18, 0), (16, .iconst (-1), 0, 0), (17, .ireturn, 0, 0)]
def mo_P_feed_18 : List mmO := [(18, .aload 0, 0, 0), (19, .getstatic 10, 10, 1), (22, .iload 1, 0, 0), (23, .invokevirtual 86, 301, 2), (26, .aload 0, 0, 0), (27, .getstatic 10, 10, 1), (30, .iload 2, 0, 0), (31, .invokevirtual 86, 301, 2), (34, .aload 0, 0, 0), (35, .getstatic 10, 10, 1), (38, .iload 3, 0, 0), (39, .invokevirtual 86, 301, 2), (42, .aload 0, 0, 0), (43, .getstatic 10, 10, 1), (46, .iload 4, 0, 0), (48, .invokevirtual 86, 301, 2), (51, .aload 0, 0, 0), (52, .getstatic 10, 10, 1), (55, .iload 5, 0, 0), (57, .invokevirtual 86, 301, 2), (60, .aload 0, 0, 0), (61, .getstatic 10, 10, 1), (64, .getfield 85, 3, 3), (67, .ireturn, 0, 0)]
def mb_P_feed : List (Nat × List mmO) := [(0, mo_P_feed_0), (18, mo_P_feed_18)]
def mo_P_text_0 : List mmO := [(0, .iload 1, 0, 0), (1, .ifCond .lt 0, 15, 0), (4, .iload 1, 0, 0), (5, .aload 0, 0, 0), (6, .getstatic 10, 10, 1), (9, .getfield 85, 3, 3), (12, .if_icmp .le 0, 17, 0), (15, .nop, 0, 0)]
def mo_P_text_15 : List mmO := [(15, .iconst (-1), 0, 0), (16, .ireturn, 0, 0)]
def mo_P_text_17 : List mmO := [(17, .aload 0, 0, 0), (18, .getstatic 10, 10, 1), (21, .iload 1, 0, 0), (22, .invokevirtual 90, 302, 2), (25, .istore 2, 0, 0), (26, .aload 0, 0, 0), (27, .getstatic 10, 10, 1), (30, .iconst (0), 0, 0), (31, .putfield 85, 3, 3), (34, .iload 2, 0, 0), (35, .ifCond .ge 0, 40, 0), (38, .iload 2, 0, 0), (39, .ireturn, 0, 0)]
def mo_P_text_40 : List mmO := [(40, .aload 0, 0, 0), (41, .getstatic 19, 10, 13), (44, .aload 0, 0, 0), (45, .getstatic 10, 10, 1), (48, .getstatic 94, 3, 2), (51, .invokevirtual 95, 402, 2), (54, .aload 0, 0, 0), (55, .getstatic 26, 10, 18), (58, .aload 0, 0, 0), (59, .getstatic 10, 10, 1), (62, .getstatic 99, 3, 7), (65, .invokevirtual 100, 202, 2), (68, .aload 0, 0, 0), (69, .getstatic 61, 10, 45), (72, .invokevirtual 103, 901, 1), (75, .aload 0, 0, 0), (76, .getstatic 68, 10, 47), (79, .iconst (0), 0, 0), (80, .putfield 106, 0, 2), (83, .aload 0, 0, 0), (84, .iconst (1), 0, 0), (85, .putfield 72, 10, 9), (88, .aload 0, 0, 0), (89, .iconst (1), 0, 0), (90, .putfield 76, 10, 10), (93, .aload 0, 0, 0), (94, .iconst (4), 0, 0), (95, .putfield 79, 10, 11), (98, .iload 2, 0, 0), (99, .ireturn, 0, 0)]
def mb_P_text : List (Nat × List mmO) := [(0, mo_P_text_0), (15, mo_P_text_15), (17, mo_P_text_17), (40, mo_P_text_40)]
def mo_P_cell_0 : List mmO := [(0, .aload 0, 0, 0), (1, .getstatic 19, 10, 13), (4, .iload 1, 0, 0), (5, .invokevirtual 107, 403, 2), (8, .ifCond .eq 0, 42, 0), (11, .iload 2, 0, 0), (12, .invokestatic 111, 1029, 1), (15, .ifCond .eq 0, 42, 0), (18, .aload 0, 0, 0), (19, .getstatic 19, 10, 13), (22, .getstatic 114, 4, 1), (25, .iload 1, 0, 0), (26, .iaload, 0, 0), (27, .iload 2, 0, 0), (28, .if_icmp .eq 0, 42, 0), (31, .aload 0, 0, 0), (32, .getstatic 61, 10, 45), (35, .iload 1, 0, 0), (36, .invokevirtual 118, 902, 2), (39, .ifCond .eq 0, 44, 0), (42, .nop, 0, 0)]
def mo_P_cell_42 : List mmO := [(42, .iconst (-1), 0, 0), (43, .ireturn, 0, 0)]
def mo_P_cell_44 : List mmO := [(44, .aload 0, 0, 0), (45, .getstatic 19, 10, 13), (48, .getstatic 114, 4, 1), (51, .iload 1, 0, 0), (52, .iaload, 0, 0), (53, .istore 3, 0, 0), (54, .aload 0, 0, 0), (55, .getstatic 19, 10, 13), (58, .getstatic 114, 4, 1), (61, .iload 1, 0, 0), (62, .iload 2, 0, 0), (63, .iastore, 0, 0), (64, .aload 0, 0, 0), (65, .getstatic 68, 10, 47), (68, .iconst (5), 0, 0), (69, .iload 1, 0, 0), (70, .iload 3, 0, 0), (71, .iconst (0), 0, 0), (72, .iconst (0), 0, 0), (73, .invokevirtual 119, 1, 6), (76, .iload 3, 0, 0), (77, .ireturn, 0, 0)]
def mb_P_cell : List (Nat × List mmO) := [(0, mo_P_cell_0), (42, mo_P_cell_42), (44, mo_P_cell_44)]
def mo_P_change_0 : List mmO := [(0, .aload 0, 0, 0), (1, .getstatic 19, 10, 13), (4, .iload 1, 0, 0), (5, .invokevirtual 107, 403, 2), (8, .ifCond .eq 0, 28, 0), (11, .iload 2, 0, 0), (12, .invokestatic 111, 1029, 1), (15, .ifCond .eq 0, 28, 0), (18, .aload 0, 0, 0), (19, .getstatic 19, 10, 13), (22, .invokevirtual 123, 406, 1), (25, .ifCond .ne 0, 30, 0), (28, .nop, 0, 0)]
def mo_P_change_28 : List mmO := [(28, .iconst (-1), 0, 0), (29, .ireturn, 0, 0)]
def mo_P_change_30 : List mmO := [(30, .aload 0, 0, 0), (31, .getstatic 19, 10, 13), (34, .iload 1, 0, 0), (35, .iload 2, 0, 0), (36, .invokevirtual 127, 409, 3), (39, .aload 0, 0, 0), (40, .getstatic 68, 10, 47), (43, .iconst (0), 0, 0), (44, .iconst (0), 0, 0), (45, .iconst (0), 0, 0), (46, .iconst (0), 0, 0), (47, .iconst (0), 0, 0), (48, .invokevirtual 119, 1, 6), (51, .aload 0, 0, 0), (52, .getstatic 19, 10, 13), (55, .getfield 131, 4, 5), (58, .ireturn, 0, 0)]
def mb_P_change : List (Nat × List mmO) := [(0, mo_P_change_0), (28, mo_P_change_28), (30, mo_P_change_30)]
def mo_P_ask_0 : List mmO := [(0, .aload 0, 0, 0), (1, .iload 1, 0, 0), (2, .iload 2, 0, 0), (3, .iload 3, 0, 0), (4, .iload 4, 0, 0), (6, .invokevirtual 134, 1033, 5), (9, .ifCond .eq 0, 24, 0), (12, .aload 0, 0, 0), (13, .getstatic 26, 10, 18), (16, .getfield 138, 2, 4), (19, .iconst (24), 0, 0), (21, .if_icmp .lt 0, 26, 0), (24, .nop, 0, 0)]
def mo_P_ask_24 : List mmO := [(24, .iconst (-1), 0, 0), (25, .ireturn, 0, 0)]
def mo_P_ask_26 : List mmO := [(26, .aload 0, 0, 0), (27, .getstatic 26, 10, 18), (30, .iload 1, 0, 0), (31, .iload 2, 0, 0), (32, .iload 3, 0, 0), (33, .aload 0, 0, 0), (34, .iload 4, 0, 0), (36, .invokevirtual 139, 1034, 2), (39, .invokevirtual 142, 204, 5), (42, .aload 0, 0, 0), (43, .getstatic 68, 10, 47), (46, .iconst (1), 0, 0), (47, .iconst (0), 0, 0), (48, .iconst (0), 0, 0), (49, .iconst (0), 0, 0), (50, .iconst (0), 0, 0), (51, .invokevirtual 119, 1, 6), (54, .aload 0, 0, 0), (55, .getstatic 26, 10, 18), (58, .getfield 138, 2, 4), (61, .iconst (1), 0, 0), (62, .isub, 0, 0), (63, .ireturn, 0, 0)]
def mb_P_ask : List (Nat × List mmO) := [(0, mo_P_ask_0), (24, mo_P_ask_24), (26, mo_P_ask_26)]
def mo_P_drop_0 : List mmO := [(0, .aload 0, 0, 0), (1, .getstatic 26, 10, 18), (4, .getfield 138, 2, 4), (7, .iconst (1), 0, 0), (8, .isub, 0, 0), (9, .istore 1, 0, 0), (10, .aload 0, 0, 0), (11, .getstatic 26, 10, 18), (14, .iload 1, 0, 0), (15, .invokevirtual 146, 203, 2), (18, .ifCond .ne 0, 23, 0), (21, .iconst (-1), 0, 0), (22, .ireturn, 0, 0)]
def mo_P_drop_23 : List mmO := [(23, .aload 0, 0, 0), (24, .getstatic 68, 10, 47), (27, .iconst (2), 0, 0), (28, .aload 0, 0, 0), (29, .getstatic 26, 10, 18), (32, .getstatic 147, 2, 1), (35, .iload 1, 0, 0), (36, .iaload, 0, 0), (37, .aload 0, 0, 0), (38, .getstatic 26, 10, 18), (41, .getstatic 150, 2, 2), (44, .iload 1, 0, 0), (45, .iaload, 0, 0), (46, .aload 0, 0, 0), (47, .getstatic 26, 10, 18), (50, .getstatic 153, 2, 3), (53, .iload 1, 0, 0), (54, .iaload, 0, 0), (55, .aload 0, 0, 0), (56, .getstatic 26, 10, 18), (59, .getstatic 156, 2, 4), (62, .iload 1, 0, 0), (63, .iaload, 0, 0), (64, .invokevirtual 119, 1, 6), (67, .aload 0, 0, 0), (68, .getstatic 26, 10, 18), (71, .invokevirtual 159, 205, 1), (74, .aload 0, 0, 0), (75, .getstatic 26, 10, 18), (78, .getfield 138, 2, 4), (81, .ireturn, 0, 0)]
def mb_P_drop : List (Nat × List mmO) := [(0, mo_P_drop_0), (23, mo_P_drop_23)]
def mo_P_weight_0 : List mmO := [(0, .iload 1, 0, 0), (1, .ifCond .lt 0, 10, 0), (4, .iload 1, 0, 0), (5, .iconst (9), 0, 0), (7, .if_icmp .le 0, 12, 0), (10, .nop, 0, 0)]
def mo_P_weight_10 : List mmO := [(10, .iconst (-1), 0, 0), (11, .ireturn, 0, 0)]
def mo_P_weight_12 : List mmO := [(12, .aload 0, 0, 0), (13, .getfield 72, 10, 9), (16, .istore 2, 0, 0), (17, .aload 0, 0, 0), (18, .iload 1, 0, 0), (19, .putfield 72, 10, 9), (22, .aload 0, 0, 0), (23, .getstatic 68, 10, 47), (26, .iconst (3), 0, 0), (27, .iload 2, 0, 0), (28, .iconst (0), 0, 0), (29, .iconst (0), 0, 0), (30, .iconst (0), 0, 0), (31, .invokevirtual 119, 1, 6), (34, .iload 2, 0, 0), (35, .ireturn, 0, 0)]
def mb_P_weight : List (Nat × List mmO) := [(0, mo_P_weight_0), (10, mo_P_weight_10), (12, mo_P_weight_12)]
def mo_P_set_0 : List mmO := [(0, .iload 1, 0, 0), (1, .iload 2, 0, 0), (2, .invokestatic 162, 1032, 2), (5, .ifCond .ne 0, 10, 0), (8, .iconst (-1), 0, 0), (9, .ireturn, 0, 0)]
def mo_P_set_10 : List mmO := [(10, .iconst (100), 0, 0), (12, .aload 0, 0, 0), (13, .getfield 76, 10, 10), (16, .imul, 0, 0), (17, .aload 0, 0, 0), (18, .getfield 79, 10, 11), (21, .iadd, 0, 0), (22, .istore 3, 0, 0), (23, .aload 0, 0, 0), (24, .getstatic 68, 10, 47), (27, .iconst (4), 0, 0), (28, .aload 0, 0, 0), (29, .getfield 76, 10, 10), (32, .aload 0, 0, 0), (33, .getfield 79, 10, 11), (36, .iconst (0), 0, 0), (37, .iconst (0), 0, 0), (38, .invokevirtual 119, 1, 6), (41, .aload 0, 0, 0), (42, .iload 1, 0, 0), (43, .putfield 76, 10, 10), (46, .aload 0, 0, 0), (47, .iload 2, 0, 0), (48, .putfield 79, 10, 11), (51, .iload 3, 0, 0), (52, .ireturn, 0, 0)]
def mb_P_set : List (Nat × List mmO) := [(0, mo_P_set_0), (10, mo_P_set_10)]
def mo_P_back_0 : List mmO := [(0, .aload 0, 0, 0), (1, .getstatic 68, 10, 47), (4, .invokevirtual 166, 2, 1), (7, .istore 1, 0, 0), (8, .iload 1, 0, 0), (9, .iconst (-1), 0, 0), (10, .if_icmp .ne 0, 15, 0), (13, .iconst (0), 0, 0), (14, .freturn, 0, 0)]
def mo_P_back_15 : List mmO := [(15, .aload 0, 0, 0), (16, .getstatic 68, 10, 47), (19, .getstatic 170, 0, 2), (22, .iload 1, 0, 0), (23, .aaload, 0, 0), (24, .astore 2, 0, 0), (25, .aload 0, 0, 0), (26, .getstatic 68, 10, 47), (29, .getstatic 174, 0, 1), (32, .iload 1, 0, 0), (33, .iaload, 0, 0), (34, .lookupswitch 0 #[(0, 68), (1, 75), (2, 85), (3, 107), (4, 117)], 134, 0)]
def mo_P_back_68 : List mmO := [(68, .aload 0, 0, 0), (69, .invokevirtual 175, 1035, 1), (72, .goto 0, 147, 0)]
def mo_P_back_75 : List mmO := [(75, .aload 0, 0, 0), (76, .getstatic 26, 10, 18), (79, .invokevirtual 159, 205, 1), (82, .goto 0, 147, 0)]
def mo_P_back_85 : List mmO := [(85, .aload 0, 0, 0), (86, .getstatic 26, 10, 18), (89, .aload 2, 0, 0), (90, .iconst (0), 0, 0), (91, .iaload, 0, 0), (92, .aload 2, 0, 0), (93, .iconst (1), 0, 0), (94, .iaload, 0, 0), (95, .aload 2, 0, 0), (96, .iconst (2), 0, 0), (97, .iaload, 0, 0), (98, .aload 2, 0, 0), (99, .iconst (3), 0, 0), (100, .iaload, 0, 0), (101, .invokevirtual 142, 204, 5), (104, .goto 0, 147, 0)]
def mo_P_back_107 : List mmO := [(107, .aload 0, 0, 0), (108, .aload 2, 0, 0), (109, .iconst (0), 0, 0), (110, .iaload, 0, 0), (111, .putfield 72, 10, 9), (114, .goto 0, 147, 0)]
def mo_P_back_117 : List mmO := [(117, .aload 0, 0, 0), (118, .aload 2, 0, 0), (119, .iconst (0), 0, 0), (120, .iaload, 0, 0), (121, .putfield 76, 10, 10), (124, .aload 0, 0, 0), (125, .aload 2, 0, 0), (126, .iconst (1), 0, 0), (127, .iaload, 0, 0), (128, .putfield 79, 10, 11), (131, .goto 0, 147, 0)]
def mo_P_back_134 : List mmO := [(134, .aload 0, 0, 0), (135, .getstatic 19, 10, 13), (138, .aload 2, 0, 0), (139, .iconst (0), 0, 0), (140, .iaload, 0, 0), (141, .aload 2, 0, 0), (142, .iconst (1), 0, 0), (143, .iaload, 0, 0), (144, .invokevirtual 178, 408, 3), (147, .nop, 0, 0)]
def mo_P_back_147 : List mmO := [(147, .iconst (1), 0, 0), (148, .freturn, 0, 0)]
def mb_P_back : List (Nat × List mmO) := [(0, mo_P_back_0), (15, mo_P_back_15), (68, mo_P_back_68), (75, mo_P_back_75), (85, mo_P_back_85), (107, mo_P_back_107), (117, mo_P_back_117), (134, mo_P_back_134), (147, mo_P_back_147)]
def mo_P_at_0 : List mmO := [(0, .aload 0, 0, 0), (1, .getstatic 19, 10, 13), (4, .iload 1, 0, 0), (5, .invokevirtual 107, 403, 2), (8, .ifCond .eq 0, 34, 0), (11, .aload 0, 0, 0), (12, .getstatic 19, 10, 13), (15, .iload 2, 0, 0), (16, .invokevirtual 192, 404, 2), (19, .ifCond .eq 0, 34, 0), (22, .aload 0, 0, 0), (23, .getstatic 19, 10, 13), (26, .iload 1, 0, 0), (27, .iload 2, 0, 0), (28, .invokevirtual 195, 411, 3), (31, .goto 0, 35, 0)]
def mo_P_at_34 : List mmO := [(34, .iconst (-1), 0, 0), (35, .nop, 0, 0)]
def mo_P_at_35 : List mmO := [(35, .ireturn, 0, 0)]
def mb_P_at : List (Nat × List mmO) := [(0, mo_P_at_0), (34, mo_P_at_34), (35, mo_P_at_35)]
def mo_P_of_0 : List mmO := [(0, .aload 0, 0, 0), (1, .getstatic 26, 10, 18), (4, .iload 1, 0, 0), (5, .invokevirtual 146, 203, 2), (8, .ifCond .ne 0, 13, 0), (11, .iconst (-1), 0, 0), (12, .ireturn, 0, 0)]
def mo_P_of_13 : List mmO := [(13, .iload 2, 0, 0), (14, .lookupswitch 0 #[(0, 52), (1, 62), (2, 72), (3, 82), (4, 92), (5, 101)], 110, 0)]
def mo_P_of_52 : List mmO := [(52, .aload 0, 0, 0), (53, .getstatic 26, 10, 18), (56, .getstatic 147, 2, 1), (59, .iload 1, 0, 0), (60, .iaload, 0, 0), (61, .ireturn, 0, 0)]
def mo_P_of_62 : List mmO := [(62, .aload 0, 0, 0), (63, .getstatic 26, 10, 18), (66, .getstatic 150, 2, 2), (69, .iload 1, 0, 0), (70, .iaload, 0, 0), (71, .ireturn, 0, 0)]
def mo_P_of_72 : List mmO := [(72, .aload 0, 0, 0), (73, .getstatic 26, 10, 18), (76, .getstatic 153, 2, 3), (79, .iload 1, 0, 0), (80, .iaload, 0, 0), (81, .ireturn, 0, 0)]
def mo_P_of_82 : List mmO := [(82, .aload 0, 0, 0), (83, .getstatic 26, 10, 18), (86, .getstatic 156, 2, 4), (89, .iload 1, 0, 0), (90, .iaload, 0, 0), (91, .ireturn, 0, 0)]
def mo_P_of_92 : List mmO := [(92, .aload 0, 0, 0), (93, .getstatic 26, 10, 18), (96, .iload 1, 0, 0), (97, .invokevirtual 199, 208, 2), (100, .ireturn, 0, 0)]
def mo_P_of_101 : List mmO := [(101, .aload 0, 0, 0), (102, .getstatic 26, 10, 18), (105, .iload 1, 0, 0), (106, .invokevirtual 202, 209, 2), (109, .ireturn, 0, 0)]
def mo_P_of_110 : List mmO := [(110, .iconst (-1), 0, 0), (111, .ireturn, 0, 0)]
def mb_P_of : List (Nat × List mmO) := [(0, mo_P_of_0), (13, mo_P_of_13), (52, mo_P_of_52), (62, mo_P_of_62), (72, mo_P_of_72), (82, mo_P_of_82), (92, mo_P_of_92), (101, mo_P_of_101), (110, mo_P_of_110)]
def mo_P_planned_0 : List mmO := [(0, .iload 1, 0, 0), (1, .iload 2, 0, 0), (2, .invokestatic 162, 1032, 2), (5, .ifCond .ne 0, 10, 0), (8, .iconst (-1), 0, 0), (9, .ireturn, 0, 0)]
def mo_P_planned_10 : List mmO := [(10, .aload 0, 0, 0), (11, .getstatic 40, 10, 26), (14, .aload 0, 0, 0), (15, .getstatic 26, 10, 18), (18, .iload 1, 0, 0), (19, .iload 2, 0, 0), (20, .iconst (-1), 0, 0), (21, .invokevirtual 205, 101, 5), (24, .iload 3, 0, 0), (25, .iconst (-1), 0, 0), (26, .if_icmp .ne 0, 42, 0), (29, .aload 0, 0, 0), (30, .getstatic 40, 10, 26), (33, .getstatic 209, 1, 1), (36, .getfield 213, 5, 1), (39, .goto 0, 53, 0)]
def mo_P_planned_42 : List mmO := [(42, .aload 0, 0, 0), (43, .getstatic 40, 10, 26), (46, .getstatic 209, 1, 1), (49, .iload 3, 0, 0), (50, .invokevirtual 216, 503, 2), (53, .nop, 0, 0)]
def mo_P_planned_53 : List mmO := [(53, .ireturn, 0, 0)]
def mb_P_planned : List (Nat × List mmO) := [(0, mo_P_planned_0), (10, mo_P_planned_10), (42, mo_P_planned_42), (53, mo_P_planned_53)]
def mo_P_moves_0 : List mmO := [(0, .iload 1, 0, 0), (1, .iload 2, 0, 0), (2, .invokestatic 162, 1032, 2), (5, .ifCond .ne 0, 10, 0), (8, .iconst (-1), 0, 0), (9, .ireturn, 0, 0)]
def mo_P_moves_10 : List mmO := [(10, .aload 0, 0, 0), (11, .getstatic 40, 10, 26), (14, .aload 0, 0, 0), (15, .getstatic 26, 10, 18), (18, .iload 1, 0, 0), (19, .iload 2, 0, 0), (20, .iconst (-1), 0, 0), (21, .invokevirtual 205, 101, 5), (24, .aload 0, 0, 0), (25, .getstatic 40, 10, 26), (28, .aload 0, 0, 0), (29, .getstatic 26, 10, 18), (32, .invokevirtual 219, 105, 2), (35, .iload 3, 0, 0), (36, .lookupswitch 0 #[(0, 72), (1, 83), (2, 94), (3, 109), (4, 117)], 132, 0)]
def mo_P_moves_72 : List mmO := [(72, .aload 0, 0, 0), (73, .getstatic 40, 10, 26), (76, .getstatic 222, 1, 3), (79, .getfield 225, 9, 4), (82, .ireturn, 0, 0)]
def mo_P_moves_83 : List mmO := [(83, .aload 0, 0, 0), (84, .getstatic 40, 10, 26), (87, .getstatic 222, 1, 3), (90, .getfield 228, 9, 5), (93, .ireturn, 0, 0)]
def mo_P_moves_94 : List mmO := [(94, .aload 0, 0, 0), (95, .getstatic 40, 10, 26), (98, .getstatic 222, 1, 3), (101, .aload 0, 0, 0), (102, .getfield 72, 10, 9), (105, .invokevirtual 231, 903, 2), (108, .ireturn, 0, 0)]
def mo_P_moves_109 : List mmO := [(109, .aload 0, 0, 0), (110, .getstatic 40, 10, 26), (113, .getfield 234, 1, 2), (116, .ireturn, 0, 0)]
def mo_P_moves_117 : List mmO := [(117, .iload 1, 0, 0), (118, .iconst (1), 0, 0), (119, .if_icmp .ne 0, 130, 0), (122, .aload 0, 0, 0), (123, .iload 2, 0, 0), (124, .invokevirtual 237, 1039, 2), (127, .goto 0, 131, 0)]
def mo_P_moves_130 : List mmO := [(130, .iconst (-1), 0, 0), (131, .nop, 0, 0)]
def mo_P_moves_131 : List mmO := [(131, .ireturn, 0, 0)]
def mo_P_moves_132 : List mmO := [(132, .iconst (-1), 0, 0), (133, .ireturn, 0, 0)]
def mb_P_moves : List (Nat × List mmO) := [(0, mo_P_moves_0), (10, mo_P_moves_10), (72, mo_P_moves_72), (83, mo_P_moves_83), (94, mo_P_moves_94), (109, mo_P_moves_109), (117, mo_P_moves_117), (130, mo_P_moves_130), (131, mo_P_moves_131), (132, mo_P_moves_132)]
def mo_P_best_0 : List mmO := [(0, .iload 1, 0, 0), (1, .iconst (1), 0, 0), (2, .invokestatic 162, 1032, 2), (5, .ifCond .eq 0, 17, 0), (8, .iload 2, 0, 0), (9, .ifCond .lt 0, 17, 0), (12, .iload 2, 0, 0), (13, .iconst (1), 0, 0), (14, .if_icmp .le 0, 19, 0), (17, .nop, 0, 0)]
def mo_P_best_17 : List mmO := [(17, .iconst (-1), 0, 0), (18, .ireturn, 0, 0)]
def mo_P_best_19 : List mmO := [(19, .iconst (1), 0, 0), (20, .istore 3, 0, 0), (21, .aload 0, 0, 0), (22, .iload 1, 0, 0), (23, .iconst (1), 0, 0), (24, .iconst (-1), 0, 0), (25, .invokevirtual 240, 1038, 4), (28, .istore 4, 0, 0), (30, .iconst (2), 0, 0), (31, .istore 5, 0, 0), (33, .nop, 0, 0)]
def mo_P_best_33 : List mmO := [(33, .iload 5, 0, 0), (35, .aload 0, 0, 0), (36, .getstatic 19, 10, 13), (39, .getfield 82, 4, 4), (42, .if_icmp .gt 0, 75, 0), (45, .aload 0, 0, 0), (46, .iload 1, 0, 0), (47, .iload 5, 0, 0), (49, .iconst (-1), 0, 0), (50, .invokevirtual 240, 1038, 4), (53, .istore 6, 0, 0), (55, .iload 6, 0, 0), (57, .iload 4, 0, 0), (59, .if_icmp .ge 0, 69, 0), (62, .iload 5, 0, 0), (64, .istore 3, 0, 0), (65, .iload 6, 0, 0), (67, .istore 4, 0, 0), (69, .nop, 0, 0)]
def mo_P_best_69 : List mmO := [(69, .iinc 5 (1), 0, 0), (72, .goto 0, 33, 0)]
def mo_P_best_75 : List mmO := [(75, .iload 2, 0, 0), (76, .ifCond .ne 0, 83, 0), (79, .iload 3, 0, 0), (80, .goto 0, 85, 0)]
def mo_P_best_83 : List mmO := [(83, .iload 4, 0, 0), (85, .nop, 0, 0)]
def mo_P_best_85 : List mmO := [(85, .ireturn, 0, 0)]
def mb_P_best : List (Nat × List mmO) := [(0, mo_P_best_0), (17, mo_P_best_17), (19, mo_P_best_19), (33, mo_P_best_33), (69, mo_P_best_69), (75, mo_P_best_75), (83, mo_P_best_83), (85, mo_P_best_85)]
def mo_P_split_0 : List mmO := [(0, .iload 1, 0, 0), (1, .iconst (1), 0, 0), (2, .if_icmp .lt 0, 19, 0), (5, .iload 1, 0, 0), (6, .iconst (4), 0, 0), (7, .if_icmp .gt 0, 19, 0), (10, .iload 2, 0, 0), (11, .ifCond .lt 0, 19, 0), (14, .iload 2, 0, 0), (15, .iload 1, 0, 0), (16, .if_icmp .le 0, 21, 0), (19, .nop, 0, 0)]
def mo_P_split_19 : List mmO := [(19, .iconst (-1), 0, 0), (20, .ireturn, 0, 0)]
def mo_P_split_21 : List mmO := [(21, .aload 0, 0, 0), (22, .getstatic 40, 10, 26), (25, .aload 0, 0, 0), (26, .getstatic 26, 10, 18), (29, .aload 0, 0, 0), (30, .getfield 76, 10, 10), (33, .aload 0, 0, 0), (34, .getfield 79, 10, 11), (37, .iconst (-1), 0, 0), (38, .invokevirtual 205, 101, 5), (41, .aload 0, 0, 0), (42, .getstatic 47, 10, 31), (45, .aload 0, 0, 0), (46, .getstatic 40, 10, 26), (49, .aload 0, 0, 0), (50, .getstatic 26, 10, 18), (53, .aload 0, 0, 0), (54, .getfield 72, 10, 9), (57, .invokevirtual 244, 601, 4), (60, .aload 0, 0, 0), (61, .getstatic 47, 10, 31), (64, .iload 1, 0, 0), (65, .invokevirtual 248, 603, 2), (68, .iload 2, 0, 0), (69, .ifCond .ne 0, 83, 0), (72, .aload 0, 0, 0), (73, .getstatic 47, 10, 31), (76, .iload 1, 0, 0), (77, .invokevirtual 251, 605, 2), (80, .goto 0, 92, 0)]
def mo_P_split_83 : List mmO := [(83, .aload 0, 0, 0), (84, .getstatic 47, 10, 31), (87, .iload 1, 0, 0), (88, .iload 2, 0, 0), (89, .invokevirtual 254, 606, 3), (92, .nop, 0, 0)]
def mo_P_split_92 : List mmO := [(92, .ireturn, 0, 0)]
def mb_P_split : List (Nat × List mmO) := [(0, mo_P_split_0), (19, mo_P_split_19), (21, mo_P_split_21), (83, mo_P_split_83), (92, mo_P_split_92)]
def mo_P_move_0 : List mmO := [(0, .iload 1, 0, 0), (1, .ifCond .lt 0, 13, 0), (4, .iload 2, 0, 0), (5, .ifCond .lt 0, 13, 0), (8, .iload 2, 0, 0), (9, .iconst (2), 0, 0), (10, .if_icmp .le 0, 15, 0), (13, .nop, 0, 0)]
def mo_P_move_13 : List mmO := [(13, .iconst (-1), 0, 0), (14, .ireturn, 0, 0)]
def mo_P_move_15 : List mmO := [(15, .aload 0, 0, 0), (16, .getstatic 40, 10, 26), (19, .aload 0, 0, 0), (20, .getstatic 26, 10, 18), (23, .aload 0, 0, 0), (24, .getfield 76, 10, 10), (27, .aload 0, 0, 0), (28, .getfield 79, 10, 11), (31, .iconst (-1), 0, 0), (32, .invokevirtual 205, 101, 5), (35, .aload 0, 0, 0), (36, .getstatic 40, 10, 26), (39, .aload 0, 0, 0), (40, .getstatic 26, 10, 18), (43, .iload 1, 0, 0), (44, .invokevirtual 257, 106, 3), (47, .istore 3, 0, 0), (48, .iload 3, 0, 0), (49, .iconst (-1), 0, 0), (50, .if_icmp .eq 0, 58, 0), (53, .iload 2, 0, 0), (54, .iconst (2), 0, 0), (55, .if_icmp .ne 0, 60, 0), (58, .nop, 0, 0)]
def mo_P_move_58 : List mmO := [(58, .iload 3, 0, 0), (59, .ireturn, 0, 0)]
def mo_P_move_60 : List mmO := [(60, .aload 0, 0, 0), (61, .getstatic 40, 10, 26), (64, .getstatic 222, 1, 3), (67, .invokevirtual 261, 906, 1), (70, .istore 4, 0, 0), (72, .iload 2, 0, 0), (73, .ifCond .ne 0, 81, 0), (76, .iload 4, 0, 0), (78, .goto 0, 93, 0)]
def mo_P_move_81 : List mmO := [(81, .aload 0, 0, 0), (82, .getstatic 40, 10, 26), (85, .getstatic 222, 1, 3), (88, .iload 4, 0, 0), (90, .invokevirtual 264, 909, 2), (93, .nop, 0, 0)]
def mo_P_move_93 : List mmO := [(93, .ireturn, 0, 0)]
def mb_P_move : List (Nat × List mmO) := [(0, mo_P_move_0), (13, mo_P_move_13), (15, mo_P_move_15), (58, mo_P_move_58), (60, mo_P_move_60), (81, mo_P_move_81), (93, mo_P_move_93)]
def mo_P_saves_0 : List mmO := [(0, .aload 0, 0, 0), (1, .getstatic 26, 10, 18), (4, .iload 1, 0, 0), (5, .invokevirtual 146, 203, 2), (8, .ifCond .ne 0, 15, 0), (11, .iconst (-100000), 267, 0), (14, .ireturn, 0, 0)]
def mo_P_saves_15 : List mmO := [(15, .aload 0, 0, 0), (16, .aload 0, 0, 0), (17, .getfield 76, 10, 10), (20, .aload 0, 0, 0), (21, .getfield 79, 10, 11), (24, .iconst (-1), 0, 0), (25, .invokevirtual 240, 1038, 4), (28, .aload 0, 0, 0), (29, .aload 0, 0, 0), (30, .getfield 76, 10, 10), (33, .aload 0, 0, 0), (34, .getfield 79, 10, 11), (37, .iload 1, 0, 0), (38, .invokevirtual 240, 1038, 4), (41, .isub, 0, 0), (42, .ireturn, 0, 0)]
def mb_P_saves : List (Nat × List mmO) := [(0, mo_P_saves_0), (15, mo_P_saves_15)]
def mo_P_would_0 : List mmO := [(0, .aload 0, 0, 0), (1, .iload 1, 0, 0), (2, .iload 2, 0, 0), (3, .iload 3, 0, 0), (4, .iload 4, 0, 0), (6, .invokevirtual 134, 1033, 5), (9, .ifCond .ne 0, 16, 0), (12, .iconst (-100000), 267, 0), (15, .ireturn, 0, 0)]
def mo_P_would_16 : List mmO := [(16, .aload 0, 0, 0), (17, .aload 0, 0, 0), (18, .getfield 76, 10, 10), (21, .aload 0, 0, 0), (22, .getfield 79, 10, 11), (25, .iconst (-1), 0, 0), (26, .invokevirtual 240, 1038, 4), (29, .istore 5, 0, 0), (31, .aload 0, 0, 0), (32, .getstatic 26, 10, 18), (35, .iload 1, 0, 0), (36, .iload 2, 0, 0), (37, .iload 3, 0, 0), (38, .aload 0, 0, 0), (39, .iload 4, 0, 0), (41, .invokevirtual 139, 1034, 2), (44, .invokevirtual 142, 204, 5), (47, .aload 0, 0, 0), (48, .aload 0, 0, 0), (49, .getfield 76, 10, 10), (52, .aload 0, 0, 0), (53, .getfield 79, 10, 11), (56, .iconst (-1), 0, 0), (57, .invokevirtual 240, 1038, 4), (60, .istore 6, 0, 0), (62, .aload 0, 0, 0), (63, .getstatic 26, 10, 18), (66, .invokevirtual 159, 205, 1), (69, .iload 6, 0, 0), (71, .iload 5, 0, 0), (73, .isub, 0, 0), (74, .ireturn, 0, 0)]
def mb_P_would : List (Nat × List mmO) := [(0, mo_P_would_0), (16, mo_P_would_16)]
def mo_P_undone_0 : List mmO := [(0, .iload 1, 0, 0), (1, .invokestatic 268, 1031, 1), (4, .ifCond .ne 0, 9, 0), (7, .iconst (-1), 0, 0), (8, .ireturn, 0, 0)]
def mo_P_undone_9 : List mmO := [(9, .aload 0, 0, 0), (10, .getstatic 54, 10, 42), (13, .aload 0, 0, 0), (14, .getstatic 26, 10, 18), (17, .iload 1, 0, 0), (18, .invokevirtual 271, 801, 3), (21, .iload 2, 0, 0), (22, .iconst (-1), 0, 0), (23, .if_icmp .ne 0, 39, 0), (26, .aload 0, 0, 0), (27, .getstatic 54, 10, 42), (30, .getstatic 274, 8, 1), (33, .getfield 213, 5, 1), (36, .goto 0, 50, 0)]
def mo_P_undone_39 : List mmO := [(39, .aload 0, 0, 0), (40, .getstatic 54, 10, 42), (43, .getstatic 274, 8, 1), (46, .iload 2, 0, 0), (47, .invokevirtual 216, 503, 2), (50, .nop, 0, 0)]
def mo_P_undone_50 : List mmO := [(50, .ireturn, 0, 0)]
def mb_P_undone : List (Nat × List mmO) := [(0, mo_P_undone_0), (9, mo_P_undone_9), (39, mo_P_undone_39), (50, mo_P_undone_50)]
def mo_P_adds_0 : List mmO := [(0, .iload 1, 0, 0), (1, .invokestatic 268, 1031, 1), (4, .ifCond .ne 0, 9, 0), (7, .iconst (-1), 0, 0), (8, .ireturn, 0, 0)]
def mo_P_adds_9 : List mmO := [(9, .aload 0, 0, 0), (10, .getstatic 54, 10, 42), (13, .aload 0, 0, 0), (14, .getstatic 26, 10, 18), (17, .iload 1, 0, 0), (18, .invokevirtual 271, 801, 3), (21, .aload 0, 0, 0), (22, .getstatic 54, 10, 42), (25, .aload 0, 0, 0), (26, .getstatic 26, 10, 18), (29, .iload 1, 0, 0), (30, .aload 0, 0, 0), (31, .getstatic 19, 10, 13), (34, .getfield 82, 4, 4), (37, .invokevirtual 275, 802, 4), (40, .iload 2, 0, 0), (41, .lookupswitch 0 #[(0, 68), (1, 76), (2, 84)], 92, 0)]
def mo_P_adds_68 : List mmO := [(68, .aload 0, 0, 0), (69, .getstatic 54, 10, 42), (72, .getfield 278, 8, 1), (75, .ireturn, 0, 0)]
def mo_P_adds_76 : List mmO := [(76, .aload 0, 0, 0), (77, .getstatic 54, 10, 42), (80, .getfield 281, 8, 2), (83, .ireturn, 0, 0)]
def mo_P_adds_84 : List mmO := [(84, .aload 0, 0, 0), (85, .getstatic 54, 10, 42), (88, .getfield 284, 8, 3), (91, .ireturn, 0, 0)]
def mo_P_adds_92 : List mmO := [(92, .iconst (-1), 0, 0), (93, .ireturn, 0, 0)]
def mb_P_adds : List (Nat × List mmO) := [(0, mo_P_adds_0), (9, mo_P_adds_9), (68, mo_P_adds_68), (76, mo_P_adds_76), (84, mo_P_adds_84), (92, mo_P_adds_92)]
def mo_P_walk_0 : List mmO := [(0, .iload 1, 0, 0), (1, .iconst (1), 0, 0), (2, .if_icmp .lt 0, 12, 0), (5, .iload 1, 0, 0), (6, .iconst (400), 0, 0), (9, .if_icmp .le 0, 14, 0), (12, .nop, 0, 0)]
def mo_P_walk_12 : List mmO := [(12, .iconst (-1), 0, 0), (13, .ireturn, 0, 0)]
def mo_P_walk_14 : List mmO := [(14, .aload 0, 0, 0), (15, .getstatic 40, 10, 26), (18, .aload 0, 0, 0), (19, .getstatic 26, 10, 18), (22, .aload 0, 0, 0), (23, .getfield 76, 10, 10), (26, .aload 0, 0, 0), (27, .getfield 79, 10, 11), (30, .iconst (-1), 0, 0), (31, .invokevirtual 205, 101, 5), (34, .aload 0, 0, 0), (35, .getstatic 61, 10, 45), (38, .aload 0, 0, 0), (39, .getstatic 61, 10, 45), (42, .getfield 287, 9, 6), (45, .aload 0, 0, 0), (46, .getstatic 40, 10, 26), (49, .getstatic 209, 1, 1), (52, .getfield 213, 5, 1), (55, .fsub, 290, 0), (58, .putfield 287, 9, 6), (61, .iconst (0), 0, 0), (62, .istore 2, 0, 0), (63, .aload 0, 0, 0), (64, .getstatic 61, 10, 45), (67, .getfield 287, 9, 6), (70, .istore 3, 0, 0), (71, .nop, 0, 0)]
def mo_P_walk_71 : List mmO := [(71, .iload 3, 0, 0), (72, .aload 0, 0, 0), (73, .getstatic 40, 10, 26), (76, .getstatic 209, 1, 1), (79, .getfield 213, 5, 1), (82, .if_icmp .ge 0, 149, 0), (85, .aload 0, 0, 0), (86, .getstatic 26, 10, 18), (89, .aload 0, 0, 0), (90, .getstatic 61, 10, 45), (93, .aload 0, 0, 0), (94, .getstatic 40, 10, 26), (97, .getstatic 209, 1, 1), (100, .iload 3, 0, 0), (101, .invokevirtual 216, 503, 2), (104, .invokevirtual 295, 212, 3), (107, .iload 2, 0, 0), (108, .aload 0, 0, 0), (109, .getstatic 61, 10, 45), (112, .iload 1, 0, 0), (113, .iload 2, 0, 0), (114, .isub, 0, 0), (115, .invokevirtual 299, 907, 2), (118, .iadd, 0, 0), (119, .istore 2, 0, 0), (120, .aload 0, 0, 0), (121, .getstatic 61, 10, 45), (124, .invokevirtual 302, 905, 1), (127, .ifCond .le 0, 133, 0), (130, .goto 0, 149, 0)]
def mo_P_walk_133 : List mmO := [(133, .aload 0, 0, 0), (134, .getstatic 61, 10, 45), (137, .iload 3, 0, 0), (138, .iconst (1), 0, 0), (139, .iadd, 0, 0), (140, .putfield 287, 9, 6), (143, .iinc 3 (1), 0, 0), (146, .goto 0, 71, 0)]
def mo_P_walk_149 : List mmO := [(149, .iload 2, 0, 0), (150, .ireturn, 0, 0)]
def mb_P_walk : List (Nat × List mmO) := [(0, mo_P_walk_0), (12, mo_P_walk_12), (14, mo_P_walk_14), (71, mo_P_walk_71), (133, mo_P_walk_133), (149, mo_P_walk_149)]
def mo_P_home_0 : List mmO := [(0, .aload 0, 0, 0), (1, .getstatic 61, 10, 45), (4, .iconst (3), 0, 0), (5, .aload 0, 0, 0), (6, .getstatic 61, 10, 45), (9, .getfield 305, 9, 2), (12, .aload 0, 0, 0), (13, .getstatic 61, 10, 45), (16, .getfield 308, 9, 1), (19, .isub, 0, 0), (20, .iconst (1), 0, 0), (21, .iadd, 0, 0), (22, .invokevirtual 311, 908, 3), (25, .istore 1, 0, 0), (26, .iload 1, 0, 0), (27, .aload 0, 0, 0), (28, .getstatic 61, 10, 45), (31, .iconst (0), 0, 0), (32, .aload 0, 0, 0), (33, .getstatic 61, 10, 45), (36, .getfield 308, 9, 1), (39, .invokevirtual 311, 908, 3), (42, .iadd, 0, 0), (43, .istore 1, 0, 0), (44, .iload 1, 0, 0), (45, .aload 0, 0, 0), (46, .getstatic 61, 10, 45), (49, .iconst (3), 0, 0), (50, .aload 0, 0, 0), (51, .getstatic 61, 10, 45), (54, .getfield 305, 9, 2), (57, .iconst (1), 0, 0), (58, .iadd, 0, 0), (59, .invokevirtual 311, 908, 3), (62, .iadd, 0, 0), (63, .istore 1, 0, 0), (64, .iload 1, 0, 0), (65, .aload 0, 0, 0), (66, .getstatic 61, 10, 45), (69, .iconst (5), 0, 0), (70, .aload 0, 0, 0), (71, .getstatic 61, 10, 45), (74, .getfield 314, 9, 3), (77, .invokevirtual 311, 908, 3), (80, .iadd, 0, 0), (81, .istore 1, 0, 0), (82, .aload 0, 0, 0), (83, .getstatic 61, 10, 45), (86, .iconst (0), 0, 0), (87, .putfield 287, 9, 6), (90, .iload 1, 0, 0), (91, .ireturn, 0, 0)]
def mb_P_home : List (Nat × List mmO) := [(0, mo_P_home_0)]
def mo_P_window_0 : List mmO := [(0, .iload 1, 0, 0), (1, .lookupswitch 0 #[(0, 48), (1, 56), (2, 64), (3, 72), (4, 113), (5, 151), (6, 159), (7, 167)], 181, 0)]
def mo_P_window_48 : List mmO := [(48, .aload 0, 0, 0), (49, .getstatic 61, 10, 45), (52, .getfield 308, 9, 1), (55, .ireturn, 0, 0)]
def mo_P_window_56 : List mmO := [(56, .aload 0, 0, 0), (57, .getstatic 61, 10, 45), (60, .getfield 305, 9, 2), (63, .ireturn, 0, 0)]
def mo_P_window_64 : List mmO := [(64, .aload 0, 0, 0), (65, .getstatic 61, 10, 45), (68, .getfield 314, 9, 3), (71, .ireturn, 0, 0)]
def mo_P_window_72 : List mmO := [(72, .aload 0, 0, 0), (73, .getstatic 40, 10, 26), (76, .aload 0, 0, 0), (77, .getstatic 26, 10, 18), (80, .aload 0, 0, 0), (81, .getfield 76, 10, 10), (84, .aload 0, 0, 0), (85, .getfield 79, 10, 11), (88, .iconst (-1), 0, 0), (89, .invokevirtual 205, 101, 5), (92, .aload 0, 0, 0), (93, .getstatic 61, 10, 45), (96, .getfield 287, 9, 6), (99, .aload 0, 0, 0), (100, .getstatic 40, 10, 26), (103, .getstatic 209, 1, 1), (106, .getfield 213, 5, 1), (109, .fsub, 290, 0), (112, .ireturn, 0, 0)]
def mo_P_window_113 : List mmO := [(113, .aload 0, 0, 0), (114, .getstatic 40, 10, 26), (117, .aload 0, 0, 0), (118, .getstatic 26, 10, 18), (121, .aload 0, 0, 0), (122, .getfield 76, 10, 10), (125, .aload 0, 0, 0), (126, .getfield 79, 10, 11), (129, .iconst (-1), 0, 0), (130, .invokevirtual 205, 101, 5), (133, .aload 0, 0, 0), (134, .getstatic 40, 10, 26), (137, .getstatic 209, 1, 1), (140, .aload 0, 0, 0), (141, .getstatic 61, 10, 45), (144, .getfield 287, 9, 6), (147, .invokevirtual 216, 503, 2), (150, .ireturn, 0, 0)]
def mo_P_window_151 : List mmO := [(151, .aload 0, 0, 0), (152, .getstatic 61, 10, 45), (155, .getfield 225, 9, 4), (158, .ireturn, 0, 0)]
def mo_P_window_159 : List mmO := [(159, .aload 0, 0, 0), (160, .getstatic 61, 10, 45), (163, .getfield 228, 9, 5), (166, .ireturn, 0, 0)]
def mo_P_window_167 : List mmO := [(167, .aload 0, 0, 0), (168, .invokevirtual 317, 1037, 1), (171, .aload 0, 0, 0), (172, .getstatic 33, 10, 23), (175, .iconst (1), 0, 0), (176, .invokevirtual 320, 702, 2), (179, .l2i, 0, 0), (180, .ireturn, 0, 0)]
def mo_P_window_181 : List mmO := [(181, .iconst (-1), 0, 0), (182, .ireturn, 0, 0)]
def mb_P_window : List (Nat × List mmO) := [(0, mo_P_window_0), (48, mo_P_window_48), (56, mo_P_window_56), (64, mo_P_window_64), (72, mo_P_window_72), (113, mo_P_window_113), (151, mo_P_window_151), (159, mo_P_window_159), (167, mo_P_window_167), (181, mo_P_window_181)]
def mo_P_holds_0 : List mmO := [(0, .iload 1, 0, 0), (1, .invokestatic 111, 1029, 1), (4, .ifCond .ne 0, 9, 0), (7, .iconst (-1), 0, 0), (8, .ireturn, 0, 0)]
def mo_P_holds_9 : List mmO := [(9, .aload 0, 0, 0), (10, .invokevirtual 317, 1037, 1), (13, .aload 0, 0, 0), (14, .getstatic 33, 10, 23), (17, .getstatic 323, 7, 1), (20, .iload 1, 0, 0), (21, .iaload, 0, 0), (22, .ireturn, 0, 0)]
def mb_P_holds : List (Nat × List mmO) := [(0, mo_P_holds_0), (9, mo_P_holds_9)]
def mo_P_tells_0 : List mmO := [(0, .iload 1, 0, 0), (1, .invokestatic 326, 1030, 1), (4, .ifCond .eq 0, 14, 0), (7, .iload 1, 0, 0), (8, .invokestatic 329, 201, 1), (11, .ifCond .ne 0, 18, 0), (14, .nop, 0, 0)]
def mo_P_tells_14 : List mmO := [(14, .bipush (-1), 332, 0), (17, .lreturn, 0, 0)]
def mo_P_tells_18 : List mmO := [(18, .aload 0, 0, 0), (19, .invokevirtual 317, 1037, 1), (22, .aload 0, 0, 0), (23, .getstatic 33, 10, 23), (26, .iload 1, 0, 0), (27, .invokevirtual 320, 702, 2), (30, .lreturn, 0, 0)]
def mb_P_tells : List (Nat × List mmO) := [(0, mo_P_tells_0), (14, mo_P_tells_14), (18, mo_P_tells_18)]
def mo_P_touched_0 : List mmO := [(0, .aload 0, 0, 0), (1, .getstatic 19, 10, 13), (4, .iload 1, 0, 0), (5, .invokevirtual 107, 403, 2), (8, .ifCond .eq 0, 18, 0), (11, .iload 2, 0, 0), (12, .invokestatic 111, 1029, 1), (15, .ifCond .ne 0, 20, 0), (18, .nop, 0, 0)]
def mo_P_touched_18 : List mmO := [(18, .iconst (-1), 0, 0), (19, .ireturn, 0, 0)]
def mo_P_touched_20 : List mmO := [(20, .aload 0, 0, 0), (21, .getstatic 19, 10, 13), (24, .getstatic 114, 4, 1), (27, .iload 1, 0, 0), (28, .iaload, 0, 0), (29, .istore 3, 0, 0), (30, .iconst (0), 0, 0), (31, .istore 4, 0, 0), (33, .iconst (0), 0, 0), (34, .istore 5, 0, 0), (36, .nop, 0, 0)]
def mo_P_touched_36 : List mmO := [(36, .iload 5, 0, 0), (38, .aload 0, 0, 0), (39, .getstatic 26, 10, 18), (42, .getfield 138, 2, 4), (45, .if_icmp .ge 0, 95, 0), (48, .aload 0, 0, 0), (49, .iload 5, 0, 0), (51, .invokevirtual 188, 1036, 2), (54, .lstore 6, 0, 0), (56, .aload 0, 0, 0), (57, .getstatic 19, 10, 13), (60, .iload 1, 0, 0), (61, .iload 2, 0, 0), (62, .invokevirtual 178, 408, 3), (65, .aload 0, 0, 0), (66, .iload 5, 0, 0), (68, .invokevirtual 188, 1036, 2), (71, .lload 6, 0, 0), (73, .lcmp, 0, 0), (74, .ifCond .eq 0, 80, 0), (77, .iinc 4 (1), 0, 0), (80, .nop, 0, 0)]
def mo_P_touched_80 : List mmO := [(80, .aload 0, 0, 0), (81, .getstatic 19, 10, 13), (84, .iload 1, 0, 0), (85, .iload 3, 0, 0), (86, .invokevirtual 178, 408, 3), (89, .iinc 5 (1), 0, 0), (92, .goto 0, 36, 0)]
def mo_P_touched_95 : List mmO := [(95, .iload 4, 0, 0), (97, .ireturn, 0, 0)]
def mb_P_touched : List (Nat × List mmO) := [(0, mo_P_touched_0), (18, mo_P_touched_18), (20, mo_P_touched_20), (36, mo_P_touched_36), (80, mo_P_touched_80), (95, mo_P_touched_95)]
def mo_P_count_0 : List mmO := [(0, .iload 1, 0, 0), (1, .lookupswitch 0 #[(0, 60), (1, 68), (2, 76), (3, 84), (4, 89), (5, 94), (6, 99), (7, 107), (8, 119), (9, 124), (10, 132)], 140, 0)]
def mo_P_count_60 : List mmO := [(60, .aload 0, 0, 0), (61, .getstatic 19, 10, 13), (64, .getfield 82, 4, 4), (67, .ireturn, 0, 0)]
def mo_P_count_68 : List mmO := [(68, .aload 0, 0, 0), (69, .getstatic 19, 10, 13), (72, .getfield 131, 4, 5), (75, .ireturn, 0, 0)]
def mo_P_count_76 : List mmO := [(76, .aload 0, 0, 0), (77, .getstatic 26, 10, 18), (80, .getfield 138, 2, 4), (83, .ireturn, 0, 0)]
def mo_P_count_84 : List mmO := [(84, .aload 0, 0, 0), (85, .getfield 72, 10, 9), (88, .ireturn, 0, 0)]
def mo_P_count_89 : List mmO := [(89, .aload 0, 0, 0), (90, .getfield 76, 10, 10), (93, .ireturn, 0, 0)]
def mo_P_count_94 : List mmO := [(94, .aload 0, 0, 0), (95, .getfield 79, 10, 11), (98, .ireturn, 0, 0)]
def mo_P_count_99 : List mmO := [(99, .aload 0, 0, 0), (100, .getstatic 26, 10, 18), (103, .invokevirtual 334, 210, 1), (106, .ireturn, 0, 0)]
def mo_P_count_107 : List mmO := [(107, .aload 0, 0, 0), (108, .getstatic 26, 10, 18), (111, .aload 0, 0, 0), (112, .invokevirtual 337, 1040, 1), (115, .invokevirtual 340, 211, 2), (118, .ireturn, 0, 0)]
def mo_P_count_119 : List mmO := [(119, .aload 0, 0, 0), (120, .invokevirtual 337, 1040, 1), (123, .ireturn, 0, 0)]
def mo_P_count_124 : List mmO := [(124, .aload 0, 0, 0), (125, .getstatic 68, 10, 47), (128, .getfield 106, 0, 2), (131, .ireturn, 0, 0)]
def mo_P_count_132 : List mmO := [(132, .aload 0, 0, 0), (133, .getstatic 10, 10, 1), (136, .getfield 85, 3, 3), (139, .ireturn, 0, 0)]
def mo_P_count_140 : List mmO := [(140, .iconst (-1), 0, 0), (141, .ireturn, 0, 0)]
def mb_P_count : List (Nat × List mmO) := [(0, mo_P_count_0), (60, mo_P_count_60), (68, mo_P_count_68), (76, mo_P_count_76), (84, mo_P_count_84), (89, mo_P_count_89), (94, mo_P_count_94), (99, mo_P_count_99), (107, mo_P_count_107), (119, mo_P_count_119), (124, mo_P_count_124), (132, mo_P_count_132), (140, mo_P_count_140)]
def mo_P_isNumber_0 : List mmO := [(0, .iload 0, 0, 0), (1, .ifCond .lt 0, 14, 0), (4, .iload 0, 0, 0), (5, .iconst (64), 0, 0), (7, .if_icmp .ge 0, 14, 0), (10, .iconst (1), 0, 0), (11, .goto 0, 15, 0)]
def mo_P_isNumber_14 : List mmO := [(14, .iconst (0), 0, 0), (15, .nop, 0, 0)]
def mo_P_isNumber_15 : List mmO := [(15, .freturn, 0, 0)]
def mb_P_isNumber : List (Nat × List mmO) := [(0, mo_P_isNumber_0), (14, mo_P_isNumber_14), (15, mo_P_isNumber_15)]
def mo_P_isKind_0 : List mmO := [(0, .iload 0, 0, 0), (1, .ifCond .lt 0, 14, 0), (4, .iload 0, 0, 0), (5, .iconst (8), 0, 0), (7, .if_icmp .ge 0, 14, 0), (10, .iconst (1), 0, 0), (11, .goto 0, 15, 0)]
def mo_P_isKind_14 : List mmO := [(14, .iconst (0), 0, 0), (15, .nop, 0, 0)]
def mo_P_isKind_15 : List mmO := [(15, .freturn, 0, 0)]
def mb_P_isKind : List (Nat × List mmO) := [(0, mo_P_isKind_0), (14, mo_P_isKind_14), (15, mo_P_isKind_15)]
def mo_P_isBlock_0 : List mmO := [(0, .iload 0, 0, 0), (1, .iconst (1), 0, 0), (2, .if_icmp .lt 0, 15, 0), (5, .iload 0, 0, 0), (6, .iconst (60), 0, 0), (8, .if_icmp .gt 0, 15, 0), (11, .iconst (1), 0, 0), (12, .goto 0, 16, 0)]
def mo_P_isBlock_15 : List mmO := [(15, .iconst (0), 0, 0), (16, .nop, 0, 0)]
def mo_P_isBlock_16 : List mmO := [(16, .freturn, 0, 0)]
def mb_P_isBlock : List (Nat × List mmO) := [(0, mo_P_isBlock_0), (15, mo_P_isBlock_15), (16, mo_P_isBlock_16)]
def mo_P_isPlan_0 : List mmO := [(0, .iload 0, 0, 0), (1, .ifCond .lt 0, 20, 0), (4, .iload 0, 0, 0), (5, .iconst (3), 0, 0), (6, .if_icmp .ge 0, 20, 0), (9, .iload 1, 0, 0), (10, .invokestatic 268, 1031, 1), (13, .ifCond .eq 0, 20, 0), (16, .iconst (1), 0, 0), (17, .goto 0, 21, 0)]
def mo_P_isPlan_20 : List mmO := [(20, .iconst (0), 0, 0), (21, .nop, 0, 0)]
def mo_P_isPlan_21 : List mmO := [(21, .freturn, 0, 0)]
def mb_P_isPlan : List (Nat × List mmO) := [(0, mo_P_isPlan_0), (20, mo_P_isPlan_20), (21, mo_P_isPlan_21)]
def mo_P_isQuestion_0 : List mmO := [(0, .iload 1, 0, 0), (1, .invokestatic 326, 1030, 1), (4, .ifCond .eq 0, 56, 0), (7, .aload 0, 0, 0), (8, .getstatic 19, 10, 13), (11, .iload 2, 0, 0), (12, .invokevirtual 107, 403, 2), (15, .ifCond .eq 0, 56, 0), (18, .aload 0, 0, 0), (19, .getstatic 19, 10, 13), (22, .iload 3, 0, 0), (23, .invokevirtual 107, 403, 2), (26, .ifCond .eq 0, 56, 0), (29, .iload 2, 0, 0), (30, .iload 3, 0, 0), (31, .if_icmp .gt 0, 56, 0), (34, .iload 4, 0, 0), (36, .iconst (-1), 0, 0), (37, .if_icmp .eq 0, 52, 0), (40, .aload 0, 0, 0), (41, .getstatic 19, 10, 13), (44, .iload 4, 0, 0), (46, .invokevirtual 192, 404, 2), (49, .ifCond .eq 0, 56, 0), (52, .nop, 0, 0)]
def mo_P_isQuestion_52 : List mmO := [(52, .iconst (1), 0, 0), (53, .goto 0, 57, 0)]
def mo_P_isQuestion_56 : List mmO := [(56, .iconst (0), 0, 0), (57, .nop, 0, 0)]
def mo_P_isQuestion_57 : List mmO := [(57, .freturn, 0, 0)]
def mb_P_isQuestion : List (Nat × List mmO) := [(0, mo_P_isQuestion_0), (52, mo_P_isQuestion_52), (56, mo_P_isQuestion_56), (57, mo_P_isQuestion_57)]
def mo_P_timeMeant_0 : List mmO := [(0, .iload 1, 0, 0), (1, .iconst (-1), 0, 0), (2, .if_icmp .ne 0, 15, 0), (5, .aload 0, 0, 0), (6, .getstatic 19, 10, 13), (9, .getfield 131, 4, 5), (12, .goto 0, 16, 0)]
def mo_P_timeMeant_15 : List mmO := [(15, .iload 1, 0, 0), (16, .nop, 0, 0)]
def mo_P_timeMeant_16 : List mmO := [(16, .ireturn, 0, 0)]
def mb_P_timeMeant : List (Nat × List mmO) := [(0, mo_P_timeMeant_0), (15, mo_P_timeMeant_15), (16, mo_P_timeMeant_16)]
def mo_P_takeBackChange_0 : List mmO := [(0, .aload 0, 0, 0), (1, .getstatic 61, 10, 45), (4, .getfield 314, 9, 3), (7, .aload 0, 0, 0), (8, .getstatic 19, 10, 13), (11, .getfield 131, 4, 5), (14, .if_icmp .lt 0, 27, 0), (17, .aload 0, 0, 0), (18, .getstatic 61, 10, 45), (21, .iconst (5), 0, 0), (22, .iconst (1), 0, 0), (23, .invokevirtual 311, 908, 3), (26, .pop, 0, 0), (27, .nop, 0, 0)]
def mo_P_takeBackChange_27 : List mmO := [(27, .aload 0, 0, 0), (28, .getstatic 19, 10, 13), (31, .invokevirtual 343, 410, 1), (34, .return_, 0, 0)]
def mb_P_takeBackChange : List (Nat × List mmO) := [(0, mo_P_takeBackChange_0), (27, mo_P_takeBackChange_27)]
def mo_P_answerOf_0 : List mmO := [(0, .aload 0, 0, 0), (1, .getstatic 19, 10, 13), (4, .aload 0, 0, 0), (5, .getstatic 26, 10, 18), (8, .getstatic 156, 2, 4), (11, .iload 1, 0, 0), (12, .iaload, 0, 0), (13, .invokevirtual 346, 412, 2), (16, .astore 2, 0, 0), (17, .aload 0, 0, 0), (18, .getstatic 33, 10, 23), (21, .aload 2, 0, 0), (22, .aload 0, 0, 0), (23, .getstatic 26, 10, 18), (26, .getstatic 150, 2, 2), (29, .iload 1, 0, 0), (30, .iaload, 0, 0), (31, .aload 0, 0, 0), (32, .getstatic 26, 10, 18), (35, .getstatic 153, 2, 3), (38, .iload 1, 0, 0), (39, .iaload, 0, 0), (40, .invokevirtual 350, 701, 4), (43, .aload 0, 0, 0), (44, .getstatic 33, 10, 23), (47, .aload 0, 0, 0), (48, .getstatic 26, 10, 18), (51, .getstatic 147, 2, 1), (54, .iload 1, 0, 0), (55, .iaload, 0, 0), (56, .invokevirtual 320, 702, 2), (59, .lreturn, 0, 0)]
def mb_P_answerOf : List (Nat × List mmO) := [(0, mo_P_answerOf_0)]
def mo_P_tallyWindow_0 : List mmO := [(0, .aload 0, 0, 0), (1, .getstatic 33, 10, 23), (4, .aload 0, 0, 0), (5, .getstatic 19, 10, 13), (8, .aload 0, 0, 0), (9, .getstatic 61, 10, 45), (12, .getfield 314, 9, 3), (15, .invokevirtual 346, 412, 2), (18, .aload 0, 0, 0), (19, .getstatic 61, 10, 45), (22, .getfield 308, 9, 1), (25, .aload 0, 0, 0), (26, .getstatic 61, 10, 45), (29, .getfield 305, 9, 2), (32, .invokevirtual 350, 701, 4), (35, .return_, 0, 0)]
def mb_P_tallyWindow : List (Nat × List mmO) := [(0, mo_P_tallyWindow_0)]
def mo_P_costOf_0 : List mmO := [(0, .aload 0, 0, 0), (1, .getstatic 40, 10, 26), (4, .aload 0, 0, 0), (5, .getstatic 26, 10, 18), (8, .iload 1, 0, 0), (9, .iload 2, 0, 0), (10, .iload 3, 0, 0), (11, .invokevirtual 205, 101, 5), (14, .aload 0, 0, 0), (15, .getstatic 40, 10, 26), (18, .aload 0, 0, 0), (19, .getstatic 26, 10, 18), (22, .invokevirtual 219, 105, 2), (25, .aload 0, 0, 0), (26, .getstatic 40, 10, 26), (29, .getstatic 222, 1, 3), (32, .aload 0, 0, 0), (33, .getfield 72, 10, 9), (36, .invokevirtual 231, 903, 2), (39, .ireturn, 0, 0)]
def mb_P_costOf : List (Nat × List mmO) := [(0, mo_P_costOf_0)]
def mo_P_bound_0 : List mmO := [(0, .iload 1, 0, 0), (1, .iconst (1), 0, 0), (2, .if_icmp .ge 0, 7, 0), (5, .iconst (-1), 0, 0), (6, .ireturn, 0, 0)]
def mo_P_bound_7 : List mmO := [(7, .aload 0, 0, 0), (8, .getstatic 19, 10, 13), (11, .getfield 82, 4, 4), (14, .iload 1, 0, 0), (15, .iadd, 0, 0), (16, .iconst (1), 0, 0), (17, .isub, 0, 0), (18, .iload 1, 0, 0), (19, .idiv, 0, 0), (20, .istore 2, 0, 0), (21, .iconst (3), 0, 0), (22, .iload 1, 0, 0), (23, .imul, 0, 0), (24, .aload 0, 0, 0), (25, .getstatic 40, 10, 26), (28, .getstatic 209, 1, 1), (31, .getfield 213, 5, 1), (34, .imul, 0, 0), (35, .iconst (2), 0, 0), (36, .iload 2, 0, 0), (37, .iconst (1), 0, 0), (38, .iadd, 0, 0), (39, .imul, 0, 0), (40, .aload 0, 0, 0), (41, .getstatic 19, 10, 13), (44, .getfield 82, 4, 4), (47, .iload 1, 0, 0), (48, .iadd, 0, 0), (49, .imul, 0, 0), (50, .iadd, 0, 0), (51, .ireturn, 0, 0)]
def mb_P_bound : List (Nat × List mmO) := [(0, mo_P_bound_0), (7, mo_P_bound_7)]
def mo_P_busiestCell_0 : List mmO := [(0, .iconst (0), 0, 0), (1, .istore 1, 0, 0), (2, .iconst (1), 0, 0), (3, .istore 2, 0, 0), (4, .nop, 0, 0)]
def mo_P_busiestCell_4 : List mmO := [(4, .iload 2, 0, 0), (5, .aload 0, 0, 0), (6, .getstatic 19, 10, 13), (9, .getfield 82, 4, 4), (12, .if_icmp .ge 0, 42, 0), (15, .aload 0, 0, 0), (16, .getstatic 26, 10, 18), (19, .iload 2, 0, 0), (20, .invokevirtual 340, 211, 2), (23, .aload 0, 0, 0), (24, .getstatic 26, 10, 18), (27, .iload 1, 0, 0), (28, .invokevirtual 340, 211, 2), (31, .if_icmp .le 0, 36, 0), (34, .iload 2, 0, 0), (35, .istore 1, 0, 0), (36, .nop, 0, 0)]
def mo_P_busiestCell_36 : List mmO := [(36, .iinc 2 (1), 0, 0), (39, .goto 0, 4, 0)]
def mo_P_busiestCell_42 : List mmO := [(42, .iload 1, 0, 0), (43, .ireturn, 0, 0)]
def mb_P_busiestCell : List (Nat × List mmO) := [(0, mo_P_busiestCell_0), (4, mo_P_busiestCell_4), (36, mo_P_busiestCell_36), (42, mo_P_busiestCell_42)]
def mo_M_thrown_0 : List mmO := [(0, .aload 0, 0, 0), (1, .getfield 72, 11, 0), (4, .ireturn, 0, 0)]
def mb_M_thrown : List (Nat × List mmO) := [(0, mo_M_thrown_0)]
def mo_M_within_0 : List mmO := [(0, .lload 0, 0, 0), (1, .lload 2, 0, 0), (2, .lcmp, 0, 0), (3, .ifCond .lt 0, 17, 0), (6, .lload 0, 0, 0), (7, .lload 4, 0, 0), (9, .lcmp, 0, 0), (10, .ifCond .gt 0, 17, 0), (13, .iconst (1), 0, 0), (14, .goto 0, 18, 0)]
def mo_M_within_17 : List mmO := [(17, .iconst (0), 0, 0), (18, .nop, 0, 0)]
def mo_M_within_18 : List mmO := [(18, .freturn, 0, 0)]
def mb_M_within : List (Nat × List mmO) := [(0, mo_M_within_0), (17, mo_M_within_17), (18, mo_M_within_18)]
def mo_M_feed_0 : List mmO := [(0, .aload 0, 0, 0), (1, .iconst (0), 0, 0), (2, .putfield 72, 11, 0), (5, .aload 0, 0, 0), (6, .getfield 75, 11, 2), (9, .iconst (20), 0, 0), (11, .iadd, 0, 0), (12, .iconst (600), 0, 0), (15, .if_icmp .le 0, 20, 0), (18, .iconst (-1), 0, 0), (19, .ireturn, 0, 0)]
def mo_M_feed_20 : List mmO := [(20, .aload 0, 0, 0), (21, .iload 1, 0, 0), (22, .invokevirtual 78, 1104, 2), (25, .aload 0, 0, 0), (26, .iload 2, 0, 0), (27, .invokevirtual 78, 1104, 2), (30, .aload 0, 0, 0), (31, .iload 3, 0, 0), (32, .invokevirtual 78, 1104, 2), (35, .aload 0, 0, 0), (36, .iload 4, 0, 0), (38, .invokevirtual 78, 1104, 2), (41, .aload 0, 0, 0), (42, .iload 5, 0, 0), (44, .invokevirtual 78, 1104, 2), (47, .aload 0, 0, 0), (48, .getfield 75, 11, 2), (51, .ireturn, 0, 0)]
def mb_M_feed : List (Nat × List mmO) := [(0, mo_M_feed_0), (20, mo_M_feed_20)]
def mo_M_puts_0 : List mmO := [(0, .iconst (24), 0, 0), (2, .istore 2, 0, 0), (3, .nop, 0, 0)]
def mo_M_puts_3 : List mmO := [(3, .iload 2, 0, 0), (4, .ifCond .lt 0, 36, 0), (7, .aload 0, 0, 0), (8, .getstatic 7, 11, 1), (11, .aload 0, 0, 0), (12, .getfield 75, 11, 2), (15, .iload 1, 0, 0), (16, .iload 2, 0, 0), (17, .ishr, 0, 0), (18, .i2b, 0, 0), (19, .bastore, 0, 0), (20, .aload 0, 0, 0), (21, .dup, 0, 0), (22, .getfield 75, 11, 2), (25, .iconst (1), 0, 0), (26, .iadd, 0, 0), (27, .putfield 75, 11, 2), (30, .iinc 2 (-8), 0, 0), (33, .goto 0, 3, 0)]
def mo_M_puts_36 : List mmO := [(36, .return_, 0, 0)]
def mb_M_puts : List (Nat × List mmO) := [(0, mo_M_puts_0), (3, mo_M_puts_3), (36, mo_M_puts_36)]
def mo_M_byteAt_0 : List mmO := [(0, .iload 1, 0, 0), (1, .aload 0, 0, 0), (2, .getfield 82, 11, 20), (5, .if_icmp .ge 0, 21, 0), (8, .aload 0, 0, 0), (9, .getstatic 7, 11, 1), (12, .iload 1, 0, 0), (13, .baload, 0, 0), (14, .iconst (255), 0, 0), (17, .iand, 0, 0), (18, .goto 0, 22, 0)]
def mo_M_byteAt_21 : List mmO := [(21, .iconst (-1), 0, 0), (22, .nop, 0, 0)]
def mo_M_byteAt_22 : List mmO := [(22, .ireturn, 0, 0)]
def mb_M_byteAt : List (Nat × List mmO) := [(0, mo_M_byteAt_0), (21, mo_M_byteAt_21), (22, mo_M_byteAt_22)]
def mo_M_isLetter_0 : List mmO := [(0, .iload 0, 0, 0), (1, .i2l, 0, 0), (2, .bipush (97), 85, 0), (5, .bipush (122), 87, 0), (8, .invokestatic 89, 1102, 3), (11, .freturn, 0, 0)]
def mb_M_isLetter : List (Nat × List mmO) := [(0, mo_M_isLetter_0)]
def mo_M_isDigit_0 : List mmO := [(0, .iload 0, 0, 0), (1, .i2l, 0, 0), (2, .bipush (48), 93, 0), (5, .bipush (57), 95, 0), (8, .invokestatic 89, 1102, 3), (11, .freturn, 0, 0)]
def mb_M_isDigit : List (Nat × List mmO) := [(0, mo_M_isDigit_0)]
def mo_M_go_0 : List mmO := [(0, .aload 0, 0, 0), (1, .aload 0, 0, 0), (2, .getfield 97, 11, 22), (5, .invokevirtual 100, 1105, 2), (8, .iconst (32), 0, 0), (10, .if_icmp .eq 0, 26, 0), (13, .aload 0, 0, 0), (14, .aload 0, 0, 0), (15, .getfield 97, 11, 22), (18, .invokevirtual 100, 1105, 2), (21, .iconst (10), 0, 0), (23, .if_icmp .ne 0, 39, 0), (26, .nop, 0, 0)]
def mo_M_go_26 : List mmO := [(26, .aload 0, 0, 0), (27, .dup, 0, 0), (28, .getfield 97, 11, 22), (31, .iconst (1), 0, 0), (32, .iadd, 0, 0), (33, .putfield 97, 11, 22), (36, .goto 0, 0, 0)]
def mo_M_go_39 : List mmO := [(39, .aload 0, 0, 0), (40, .aload 0, 0, 0), (41, .getfield 97, 11, 22), (44, .putfield 104, 11, 21), (47, .aload 0, 0, 0), (48, .aload 0, 0, 0), (49, .getfield 97, 11, 22), (52, .invokevirtual 100, 1105, 2), (55, .istore 1, 0, 0), (56, .iload 1, 0, 0), (57, .ifCond .ge 0, 68, 0), (60, .aload 0, 0, 0), (61, .iconst (0), 0, 0), (62, .putfield 107, 11, 23), (65, .goto 0, 271, 0)]
def mo_M_go_68 : List mmO := [(68, .iload 1, 0, 0), (69, .invokestatic 110, 1106, 1), (72, .ifCond .eq 0, 128, 0), (75, .nop, 0, 0)]
def mo_M_go_75 : List mmO := [(75, .aload 0, 0, 0), (76, .aload 0, 0, 0), (77, .getfield 97, 11, 22), (80, .invokevirtual 100, 1105, 2), (83, .invokestatic 110, 1106, 1), (86, .ifCond .eq 0, 102, 0), (89, .aload 0, 0, 0), (90, .dup, 0, 0), (91, .getfield 97, 11, 22), (94, .iconst (1), 0, 0), (95, .iadd, 0, 0), (96, .putfield 97, 11, 22), (99, .goto 0, 75, 0)]
def mo_M_go_102 : List mmO := [(102, .aload 0, 0, 0), (103, .aload 0, 0, 0), (104, .getfield 97, 11, 22), (107, .aload 0, 0, 0), (108, .getfield 104, 11, 21), (111, .isub, 0, 0), (112, .iconst (7), 0, 0), (114, .if_icmp .gt 0, 121, 0), (117, .iconst (1), 0, 0), (118, .goto 0, 122, 0)]
def mo_M_go_121 : List mmO := [(121, .iconst (4), 0, 0), (122, .nop, 0, 0)]
def mo_M_go_122 : List mmO := [(122, .putfield 107, 11, 23), (125, .goto 0, 271, 0)]
def mo_M_go_128 : List mmO := [(128, .iload 1, 0, 0), (129, .invokestatic 114, 1107, 1), (132, .ifCond .eq 0, 235, 0), (135, .aload 0, 0, 0), (136, .iconst (0), 0, 0), (137, .putfield 117, 11, 24), (140, .nop, 0, 0)]
def mo_M_go_140 : List mmO := [(140, .aload 0, 0, 0), (141, .aload 0, 0, 0), (142, .getfield 97, 11, 22), (145, .invokevirtual 100, 1105, 2), (148, .invokestatic 114, 1107, 1), (151, .ifCond .eq 0, 210, 0), (154, .aload 0, 0, 0), (155, .aload 0, 0, 0), (156, .getfield 97, 11, 22), (159, .aload 0, 0, 0), (160, .getfield 104, 11, 21), (163, .isub, 0, 0), (164, .iconst (2), 0, 0), (165, .if_icmp .ge 0, 190, 0), (168, .iconst (10), 0, 0), (170, .aload 0, 0, 0), (171, .getfield 117, 11, 24), (174, .imul, 0, 0), (175, .aload 0, 0, 0), (176, .aload 0, 0, 0), (177, .getfield 97, 11, 22), (180, .invokevirtual 100, 1105, 2), (183, .iadd, 0, 0), (184, .iconst (48), 0, 0), (186, .isub, 0, 0), (187, .goto 0, 194, 0)]
def mo_M_go_190 : List mmO := [(190, .aload 0, 0, 0), (191, .getfield 117, 11, 24), (194, .nop, 0, 0)]
def mo_M_go_194 : List mmO := [(194, .putfield 117, 11, 24), (197, .aload 0, 0, 0), (198, .dup, 0, 0), (199, .getfield 97, 11, 22), (202, .iconst (1), 0, 0), (203, .iadd, 0, 0), (204, .putfield 97, 11, 22), (207, .goto 0, 140, 0)]
def mo_M_go_210 : List mmO := [(210, .aload 0, 0, 0), (211, .aload 0, 0, 0), (212, .getfield 97, 11, 22), (215, .aload 0, 0, 0), (216, .getfield 104, 11, 21), (219, .isub, 0, 0), (220, .iconst (2), 0, 0), (221, .if_icmp .gt 0, 228, 0), (224, .iconst (2), 0, 0), (225, .goto 0, 229, 0)]
def mo_M_go_228 : List mmO := [(228, .iconst (4), 0, 0), (229, .nop, 0, 0)]
def mo_M_go_229 : List mmO := [(229, .putfield 107, 11, 23), (232, .goto 0, 271, 0)]
def mo_M_go_235 : List mmO := [(235, .aload 0, 0, 0), (236, .iload 1, 0, 0), (237, .putfield 120, 11, 25), (240, .aload 0, 0, 0), (241, .iload 1, 0, 0), (242, .iconst (59), 0, 0), (244, .if_icmp .eq 0, 253, 0), (247, .iload 1, 0, 0), (248, .iconst (44), 0, 0), (250, .if_icmp .ne 0, 257, 0), (253, .nop, 0, 0)]
def mo_M_go_253 : List mmO := [(253, .iconst (3), 0, 0), (254, .goto 0, 258, 0)]
def mo_M_go_257 : List mmO := [(257, .iconst (4), 0, 0), (258, .nop, 0, 0)]
def mo_M_go_258 : List mmO := [(258, .putfield 107, 11, 23), (261, .aload 0, 0, 0), (262, .dup, 0, 0), (263, .getfield 97, 11, 22), (266, .iconst (1), 0, 0), (267, .iadd, 0, 0), (268, .putfield 97, 11, 22), (271, .nop, 0, 0)]
def mo_M_go_271 : List mmO := [(271, .return_, 0, 0)]
def mb_M_go : List (Nat × List mmO) := [(0, mo_M_go_0), (26, mo_M_go_26), (39, mo_M_go_39), (68, mo_M_go_68), (75, mo_M_go_75), (102, mo_M_go_102), (121, mo_M_go_121), (122, mo_M_go_122), (128, mo_M_go_128), (140, mo_M_go_140), (190, mo_M_go_190), (194, mo_M_go_194), (210, mo_M_go_210), (228, mo_M_go_228), (229, mo_M_go_229), (235, mo_M_go_235), (253, mo_M_go_253), (257, mo_M_go_257), (258, mo_M_go_258), (271, mo_M_go_271)]
def mo_M_wrong_0 : List mmO := [(0, .aload 0, 0, 0), (1, .aload 0, 0, 0), (2, .getfield 123, 11, 26), (5, .ifCond .ne 0, 20, 0), (8, .iconst (8), 0, 0), (10, .aload 0, 0, 0), (11, .getfield 104, 11, 21), (14, .imul, 0, 0), (15, .iload 1, 0, 0), (16, .iadd, 0, 0), (17, .goto 0, 24, 0)]
def mo_M_wrong_20 : List mmO := [(20, .aload 0, 0, 0), (21, .getfield 123, 11, 26), (24, .nop, 0, 0)]
def mo_M_wrong_24 : List mmO := [(24, .putfield 123, 11, 26), (27, .iconst (0), 0, 0), (28, .freturn, 0, 0)]
def mb_M_wrong : List (Nat × List mmO) := [(0, mo_M_wrong_0), (20, mo_M_wrong_20), (24, mo_M_wrong_24)]
def mo_M_isSign_0 : List mmO := [(0, .aload 0, 0, 0), (1, .getfield 107, 11, 23), (4, .iconst (3), 0, 0), (5, .if_icmp .ne 0, 20, 0), (8, .aload 0, 0, 0), (9, .getfield 120, 11, 25), (12, .iload 1, 0, 0), (13, .if_icmp .ne 0, 20, 0), (16, .iconst (1), 0, 0), (17, .goto 0, 21, 0)]
def mo_M_isSign_20 : List mmO := [(20, .iconst (0), 0, 0), (21, .nop, 0, 0)]
def mo_M_isSign_21 : List mmO := [(21, .freturn, 0, 0)]
def mb_M_isSign : List (Nat × List mmO) := [(0, mo_M_isSign_0), (20, mo_M_isSign_20), (21, mo_M_isSign_21)]
def mo_M_isWord_0 : List mmO := [(0, .aload 0, 0, 0), (1, .getfield 107, 11, 23), (4, .iconst (1), 0, 0), (5, .if_icmp .ne 0, 39, 0), (8, .aload 0, 0, 0), (9, .iconst (0), 0, 0), (10, .invokevirtual 126, 1112, 2), (13, .iload 1, 0, 0), (14, .if_icmp .ne 0, 39, 0), (17, .aload 0, 0, 0), (18, .iconst (1), 0, 0), (19, .invokevirtual 126, 1112, 2), (22, .iload 2, 0, 0), (23, .if_icmp .ne 0, 39, 0), (26, .aload 0, 0, 0), (27, .iconst (2), 0, 0), (28, .invokevirtual 126, 1112, 2), (31, .iload 3, 0, 0), (32, .if_icmp .ne 0, 39, 0), (35, .iconst (1), 0, 0), (36, .goto 0, 40, 0)]
def mo_M_isWord_39 : List mmO := [(39, .iconst (0), 0, 0), (40, .nop, 0, 0)]
def mo_M_isWord_40 : List mmO := [(40, .istore 8, 0, 0), (42, .iload 8, 0, 0), (44, .ifCond .eq 0, 92, 0), (47, .aload 0, 0, 0), (48, .iconst (3), 0, 0), (49, .invokevirtual 126, 1112, 2), (52, .iload 4, 0, 0), (54, .if_icmp .ne 0, 92, 0), (57, .aload 0, 0, 0), (58, .iconst (4), 0, 0), (59, .invokevirtual 126, 1112, 2), (62, .iload 5, 0, 0), (64, .if_icmp .ne 0, 92, 0), (67, .aload 0, 0, 0), (68, .iconst (5), 0, 0), (69, .invokevirtual 126, 1112, 2), (72, .iload 6, 0, 0), (74, .if_icmp .ne 0, 92, 0), (77, .aload 0, 0, 0), (78, .iconst (6), 0, 0), (80, .invokevirtual 126, 1112, 2), (83, .iload 7, 0, 0), (85, .if_icmp .ne 0, 92, 0), (88, .iconst (1), 0, 0), (89, .goto 0, 93, 0)]
def mo_M_isWord_92 : List mmO := [(92, .iconst (0), 0, 0), (93, .nop, 0, 0)]
def mo_M_isWord_93 : List mmO := [(93, .freturn, 0, 0)]
def mb_M_isWord : List (Nat × List mmO) := [(0, mo_M_isWord_0), (39, mo_M_isWord_39), (40, mo_M_isWord_40), (92, mo_M_isWord_92), (93, mo_M_isWord_93)]
def mo_M_byteOf_0 : List mmO := [(0, .aload 0, 0, 0), (1, .getfield 104, 11, 21), (4, .iload 1, 0, 0), (5, .iadd, 0, 0), (6, .aload 0, 0, 0), (7, .getfield 97, 11, 22), (10, .if_icmp .ge 0, 26, 0), (13, .aload 0, 0, 0), (14, .aload 0, 0, 0), (15, .getfield 104, 11, 21), (18, .iload 1, 0, 0), (19, .iadd, 0, 0), (20, .invokevirtual 100, 1105, 2), (23, .goto 0, 27, 0)]
def mo_M_byteOf_26 : List mmO := [(26, .iconst (0), 0, 0), (27, .nop, 0, 0)]
def mo_M_byteOf_27 : List mmO := [(27, .ireturn, 0, 0)]
def mb_M_byteOf : List (Nat × List mmO) := [(0, mo_M_byteOf_0), (26, mo_M_byteOf_26), (27, mo_M_byteOf_27)]
def mo_M_isSet_0 : List mmO := [(0, .aload 0, 0, 0), (1, .iconst (115), 0, 0), (3, .iconst (101), 0, 0), (5, .iconst (116), 0, 0), (7, .iconst (0), 0, 0), (8, .iconst (0), 0, 0), (9, .iconst (0), 0, 0), (10, .iconst (0), 0, 0), (11, .invokevirtual 129, 1111, 8), (14, .freturn, 0, 0)]
def mb_M_isSet : List (Nat × List mmO) := [(0, mo_M_isSet_0)]
def mo_M_isAsk_0 : List mmO := [(0, .aload 0, 0, 0), (1, .iconst (97), 0, 0), (3, .iconst (115), 0, 0), (5, .iconst (107), 0, 0), (7, .iconst (0), 0, 0), (8, .iconst (0), 0, 0), (9, .iconst (0), 0, 0), (10, .iconst (0), 0, 0), (11, .invokevirtual 129, 1111, 8), (14, .freturn, 0, 0)]
def mb_M_isAsk : List (Nat × List mmO) := [(0, mo_M_isAsk_0)]
def mo_M_isRow_0 : List mmO := [(0, .aload 0, 0, 0), (1, .iconst (114), 0, 0), (3, .iconst (111), 0, 0), (5, .iconst (119), 0, 0), (7, .iconst (0), 0, 0), (8, .iconst (0), 0, 0), (9, .iconst (0), 0, 0), (10, .iconst (0), 0, 0), (11, .invokevirtual 129, 1111, 8), (14, .freturn, 0, 0)]
def mb_M_isRow : List (Nat × List mmO) := [(0, mo_M_isRow_0)]
def mo_M_kindHere_0 : List mmO := [(0, .aload 0, 0, 0), (1, .iconst (115), 0, 0), (3, .iconst (117), 0, 0), (5, .iconst (109), 0, 0), (7, .iconst (0), 0, 0), (8, .iconst (0), 0, 0), (9, .iconst (0), 0, 0), (10, .iconst (0), 0, 0), (11, .invokevirtual 129, 1111, 8), (14, .ifCond .eq 0, 19, 0), (17, .iconst (0), 0, 0), (18, .ireturn, 0, 0)]
def mo_M_kindHere_19 : List mmO := [(19, .aload 0, 0, 0), (20, .iconst (117), 0, 0), (22, .iconst (110), 0, 0), (24, .iconst (108), 0, 0), (26, .iconst (105), 0, 0), (28, .iconst (107), 0, 0), (30, .iconst (101), 0, 0), (32, .iconst (0), 0, 0), (33, .invokevirtual 129, 1111, 8), (36, .ifCond .eq 0, 41, 0), (39, .iconst (1), 0, 0), (40, .ireturn, 0, 0)]
def mo_M_kindHere_41 : List mmO := [(41, .aload 0, 0, 0), (42, .iconst (111), 0, 0), (44, .iconst (102), 0, 0), (46, .iconst (116), 0, 0), (48, .iconst (101), 0, 0), (50, .iconst (110), 0, 0), (52, .iconst (0), 0, 0), (53, .iconst (0), 0, 0), (54, .invokevirtual 129, 1111, 8), (57, .ifCond .eq 0, 62, 0), (60, .iconst (2), 0, 0), (61, .ireturn, 0, 0)]
def mo_M_kindHere_62 : List mmO := [(62, .aload 0, 0, 0), (63, .iconst (119), 0, 0), (65, .iconst (104), 0, 0), (67, .iconst (105), 0, 0), (69, .iconst (99), 0, 0), (71, .iconst (104), 0, 0), (73, .iconst (0), 0, 0), (74, .iconst (0), 0, 0), (75, .invokevirtual 129, 1111, 8), (78, .ifCond .eq 0, 83, 0), (81, .iconst (3), 0, 0), (82, .ireturn, 0, 0)]
def mo_M_kindHere_83 : List mmO := [(83, .aload 0, 0, 0), (84, .iconst (112), 0, 0), (86, .iconst (111), 0, 0), (88, .iconst (119), 0, 0), (90, .iconst (101), 0, 0), (92, .iconst (114), 0, 0), (94, .iconst (0), 0, 0), (95, .iconst (0), 0, 0), (96, .invokevirtual 129, 1111, 8), (99, .ifCond .eq 0, 104, 0), (102, .iconst (4), 0, 0), (103, .ireturn, 0, 0)]
def mo_M_kindHere_104 : List mmO := [(104, .aload 0, 0, 0), (105, .iconst (109), 0, 0), (107, .iconst (105), 0, 0), (109, .iconst (115), 0, 0), (111, .iconst (115), 0, 0), (113, .iconst (105), 0, 0), (115, .iconst (110), 0, 0), (117, .iconst (103), 0, 0), (119, .invokevirtual 129, 1111, 8), (122, .ifCond .eq 0, 127, 0), (125, .iconst (5), 0, 0), (126, .ireturn, 0, 0)]
def mo_M_kindHere_127 : List mmO := [(127, .aload 0, 0, 0), (128, .iconst (112), 0, 0), (130, .iconst (97), 0, 0), (132, .iconst (114), 0, 0), (134, .iconst (116), 0, 0), (136, .iconst (115), 0, 0), (138, .iconst (0), 0, 0), (139, .iconst (0), 0, 0), (140, .invokevirtual 129, 1111, 8), (143, .ifCond .eq 0, 149, 0), (146, .iconst (6), 0, 0), (148, .ireturn, 0, 0)]
def mo_M_kindHere_149 : List mmO := [(149, .aload 0, 0, 0), (150, .iconst (112), 0, 0), (152, .iconst (97), 0, 0), (154, .iconst (105), 0, 0), (156, .iconst (114), 0, 0), (158, .iconst (115), 0, 0), (160, .iconst (0), 0, 0), (161, .iconst (0), 0, 0), (162, .invokevirtual 129, 1111, 8), (165, .ifCond .eq 0, 173, 0), (168, .iconst (7), 0, 0), (170, .goto 0, 174, 0)]
def mo_M_kindHere_173 : List mmO := [(173, .iconst (-1), 0, 0), (174, .nop, 0, 0)]
def mo_M_kindHere_174 : List mmO := [(174, .ireturn, 0, 0)]
def mb_M_kindHere : List (Nat × List mmO) := [(0, mo_M_kindHere_0), (19, mo_M_kindHere_19), (41, mo_M_kindHere_41), (62, mo_M_kindHere_62), (83, mo_M_kindHere_83), (104, mo_M_kindHere_104), (127, mo_M_kindHere_127), (149, mo_M_kindHere_149), (173, mo_M_kindHere_173), (174, mo_M_kindHere_174)]
def mo_M_number_0 : List mmO := [(0, .aload 0, 0, 0), (1, .getfield 107, 11, 23), (4, .iconst (2), 0, 0), (5, .if_icmp .eq 0, 14, 0), (8, .aload 0, 0, 0), (9, .iconst (1), 0, 0), (10, .invokevirtual 133, 1109, 2), (13, .freturn, 0, 0)]
def mo_M_number_14 : List mmO := [(14, .aload 0, 0, 0), (15, .getfield 117, 11, 24), (18, .i2l, 0, 0), (19, .iload 1, 0, 0), (20, .i2l, 0, 0), (21, .iload 2, 0, 0), (22, .i2l, 0, 0), (23, .invokestatic 89, 1102, 3), (26, .ifCond .ne 0, 35, 0), (29, .aload 0, 0, 0), (30, .iconst (2), 0, 0), (31, .invokevirtual 133, 1109, 2), (34, .freturn, 0, 0)]
def mo_M_number_35 : List mmO := [(35, .aload 0, 0, 0), (36, .aload 0, 0, 0), (37, .getfield 117, 11, 24), (40, .putfield 136, 11, 27), (43, .aload 0, 0, 0), (44, .invokevirtual 139, 1108, 1), (47, .iconst (1), 0, 0), (48, .freturn, 0, 0)]
def mb_M_number : List (Nat × List mmO) := [(0, mo_M_number_0), (14, mo_M_number_14), (35, mo_M_number_35)]
def mo_M_rowCell_0 : List mmO := [(0, .aload 0, 0, 0), (1, .getfield 107, 11, 23), (4, .iconst (2), 0, 0), (5, .if_icmp .ne 0, 32, 0), (8, .aload 0, 0, 0), (9, .getfield 117, 11, 24), (12, .iconst (64), 0, 0), (14, .if_icmp .ge 0, 32, 0), (17, .aload 0, 0, 0), (18, .getfield 142, 11, 13), (21, .iconst (60), 0, 0), (23, .if_icmp .ne 0, 32, 0), (26, .aload 0, 0, 0), (27, .iconst (4), 0, 0), (28, .invokevirtual 133, 1109, 2), (31, .freturn, 0, 0)]
def mo_M_rowCell_32 : List mmO := [(32, .aload 0, 0, 0), (33, .iconst (0), 0, 0), (34, .iconst (63), 0, 0), (36, .invokevirtual 145, 1117, 3), (39, .ifCond .ne 0, 44, 0), (42, .iconst (0), 0, 0), (43, .freturn, 0, 0)]
def mo_M_rowCell_44 : List mmO := [(44, .aload 0, 0, 0), (45, .getstatic 39, 11, 6), (48, .aload 0, 0, 0), (49, .getfield 142, 11, 13), (52, .aload 0, 0, 0), (53, .getfield 136, 11, 27), (56, .iastore, 0, 0), (57, .aload 0, 0, 0), (58, .dup, 0, 0), (59, .getfield 142, 11, 13), (62, .iconst (1), 0, 0), (63, .iadd, 0, 0), (64, .putfield 142, 11, 13), (67, .iconst (1), 0, 0), (68, .freturn, 0, 0)]
def mb_M_rowCell : List (Nat × List mmO) := [(0, mo_M_rowCell_0), (32, mo_M_rowCell_32), (44, mo_M_rowCell_44)]
def mo_M_rowLine_0 : List mmO := [(0, .aload 0, 0, 0), (1, .getfield 142, 11, 13), (4, .ifCond .le 0, 13, 0), (7, .aload 0, 0, 0), (8, .iconst (3), 0, 0), (9, .invokevirtual 133, 1109, 2), (12, .freturn, 0, 0)]
def mo_M_rowLine_13 : List mmO := [(13, .aload 0, 0, 0), (14, .invokevirtual 139, 1108, 1), (17, .aload 0, 0, 0), (18, .invokevirtual 149, 1118, 1), (21, .istore 1, 0, 0), (22, .nop, 0, 0)]
def mo_M_rowLine_22 : List mmO := [(22, .iload 1, 0, 0), (23, .ifCond .eq 0, 47, 0), (26, .aload 0, 0, 0), (27, .iconst (44), 0, 0), (29, .invokevirtual 153, 1110, 2), (32, .ifCond .eq 0, 47, 0), (35, .aload 0, 0, 0), (36, .invokevirtual 139, 1108, 1), (39, .aload 0, 0, 0), (40, .invokevirtual 149, 1118, 1), (43, .istore 1, 0, 0), (44, .goto 0, 22, 0)]
def mo_M_rowLine_47 : List mmO := [(47, .aload 0, 0, 0), (48, .getfield 107, 11, 23), (51, .ifCond .eq 0, 63, 0), (54, .aload 0, 0, 0), (55, .iconst (59), 0, 0), (57, .invokevirtual 153, 1110, 2), (60, .ifCond .eq 0, 67, 0), (63, .nop, 0, 0)]
def mo_M_rowLine_63 : List mmO := [(63, .iconst (1), 0, 0), (64, .goto 0, 68, 0)]
def mo_M_rowLine_67 : List mmO := [(67, .iconst (0), 0, 0), (68, .nop, 0, 0)]
def mo_M_rowLine_68 : List mmO := [(68, .istore 2, 0, 0), (69, .iload 1, 0, 0), (70, .ifCond .eq 0, 97, 0), (73, .aload 0, 0, 0), (74, .getfield 142, 11, 13), (77, .iconst (1), 0, 0), (78, .if_icmp .gt 0, 93, 0), (81, .iload 2, 0, 0), (82, .ifCond .eq 0, 93, 0), (85, .aload 0, 0, 0), (86, .iconst (5), 0, 0), (87, .invokevirtual 133, 1109, 2), (90, .ifCond .eq 0, 97, 0), (93, .nop, 0, 0)]
def mo_M_rowLine_93 : List mmO := [(93, .iconst (1), 0, 0), (94, .goto 0, 98, 0)]
def mo_M_rowLine_97 : List mmO := [(97, .iconst (0), 0, 0), (98, .nop, 0, 0)]
def mo_M_rowLine_98 : List mmO := [(98, .freturn, 0, 0)]
def mb_M_rowLine : List (Nat × List mmO) := [(0, mo_M_rowLine_0), (13, mo_M_rowLine_13), (22, mo_M_rowLine_22), (47, mo_M_rowLine_47), (63, mo_M_rowLine_63), (67, mo_M_rowLine_67), (68, mo_M_rowLine_68), (93, mo_M_rowLine_93), (97, mo_M_rowLine_97), (98, mo_M_rowLine_98)]
def mo_M_setLine_0 : List mmO := [(0, .aload 0, 0, 0), (1, .getfield 142, 11, 13), (4, .ifCond .ne 0, 13, 0), (7, .aload 0, 0, 0), (8, .iconst (5), 0, 0), (9, .invokevirtual 133, 1109, 2), (12, .freturn, 0, 0)]
def mo_M_setLine_13 : List mmO := [(13, .aload 0, 0, 0), (14, .getfield 156, 11, 15), (17, .iconst (32), 0, 0), (19, .if_icmp .ne 0, 28, 0), (22, .aload 0, 0, 0), (23, .iconst (4), 0, 0), (24, .invokevirtual 133, 1109, 2), (27, .freturn, 0, 0)]
def mo_M_setLine_28 : List mmO := [(28, .aload 0, 0, 0), (29, .invokevirtual 139, 1108, 1), (32, .aload 0, 0, 0), (33, .iconst (0), 0, 0), (34, .aload 0, 0, 0), (35, .getfield 142, 11, 13), (38, .iconst (1), 0, 0), (39, .isub, 0, 0), (40, .invokevirtual 145, 1117, 3), (43, .ifCond .ne 0, 48, 0), (46, .iconst (0), 0, 0), (47, .freturn, 0, 0)]
def mo_M_setLine_48 : List mmO := [(48, .aload 0, 0, 0), (49, .getstatic 42, 11, 7), (52, .aload 0, 0, 0), (53, .getfield 156, 11, 15), (56, .aload 0, 0, 0), (57, .getfield 136, 11, 27), (60, .iastore, 0, 0), (61, .aload 0, 0, 0), (62, .iconst (0), 0, 0), (63, .iconst (63), 0, 0), (65, .invokevirtual 145, 1117, 3), (68, .ifCond .ne 0, 73, 0), (71, .iconst (0), 0, 0), (72, .freturn, 0, 0)]
def mo_M_setLine_73 : List mmO := [(73, .aload 0, 0, 0), (74, .getstatic 45, 11, 8), (77, .aload 0, 0, 0), (78, .getfield 156, 11, 15), (81, .aload 0, 0, 0), (82, .getfield 136, 11, 27), (85, .iastore, 0, 0), (86, .aload 0, 0, 0), (87, .dup, 0, 0), (88, .getfield 156, 11, 15), (91, .iconst (1), 0, 0), (92, .iadd, 0, 0), (93, .putfield 156, 11, 15), (96, .iconst (1), 0, 0), (97, .freturn, 0, 0)]
def mb_M_setLine : List (Nat × List mmO) := [(0, mo_M_setLine_0), (13, mo_M_setLine_13), (28, mo_M_setLine_28), (48, mo_M_setLine_48), (73, mo_M_setLine_73)]
def mo_M_askLine_0 : List mmO := [(0, .aload 0, 0, 0), (1, .getfield 142, 11, 13), (4, .ifCond .ne 0, 13, 0), (7, .aload 0, 0, 0), (8, .iconst (5), 0, 0), (9, .invokevirtual 133, 1109, 2), (12, .freturn, 0, 0)]
def mo_M_askLine_13 : List mmO := [(13, .aload 0, 0, 0), (14, .getfield 159, 11, 18), (17, .iconst (24), 0, 0), (19, .if_icmp .ne 0, 28, 0), (22, .aload 0, 0, 0), (23, .iconst (4), 0, 0), (24, .invokevirtual 133, 1109, 2), (27, .freturn, 0, 0)]
def mo_M_askLine_28 : List mmO := [(28, .aload 0, 0, 0), (29, .invokevirtual 139, 1108, 1), (32, .iconst (4), 0, 0), (33, .aload 0, 0, 0), (34, .getfield 159, 11, 18), (37, .imul, 0, 0), (38, .istore 1, 0, 0), (39, .aload 0, 0, 0), (40, .invokevirtual 162, 1116, 1), (43, .istore 2, 0, 0), (44, .iload 2, 0, 0), (45, .ifCond .ge 0, 54, 0), (48, .aload 0, 0, 0), (49, .iconst (1), 0, 0), (50, .invokevirtual 133, 1109, 2), (53, .freturn, 0, 0)]
def mo_M_askLine_54 : List mmO := [(54, .aload 0, 0, 0), (55, .getstatic 48, 11, 9), (58, .iload 1, 0, 0), (59, .iload 2, 0, 0), (60, .iastore, 0, 0), (61, .aload 0, 0, 0), (62, .invokevirtual 139, 1108, 1), (65, .aload 0, 0, 0), (66, .iconst (0), 0, 0), (67, .aload 0, 0, 0), (68, .getfield 142, 11, 13), (71, .iconst (1), 0, 0), (72, .isub, 0, 0), (73, .invokevirtual 145, 1117, 3), (76, .ifCond .ne 0, 81, 0), (79, .iconst (0), 0, 0), (80, .freturn, 0, 0)]
def mo_M_askLine_81 : List mmO := [(81, .aload 0, 0, 0), (82, .getstatic 48, 11, 9), (85, .iload 1, 0, 0), (86, .iconst (1), 0, 0), (87, .iadd, 0, 0), (88, .aload 0, 0, 0), (89, .getfield 136, 11, 27), (92, .iastore, 0, 0), (93, .aload 0, 0, 0), (94, .aload 0, 0, 0), (95, .getstatic 48, 11, 9), (98, .iload 1, 0, 0), (99, .iconst (1), 0, 0), (100, .iadd, 0, 0), (101, .iaload, 0, 0), (102, .aload 0, 0, 0), (103, .getfield 142, 11, 13), (106, .iconst (1), 0, 0), (107, .isub, 0, 0), (108, .invokevirtual 145, 1117, 3), (111, .ifCond .ne 0, 116, 0), (114, .iconst (0), 0, 0), (115, .freturn, 0, 0)]
def mo_M_askLine_116 : List mmO := [(116, .aload 0, 0, 0), (117, .getstatic 48, 11, 9), (120, .iload 1, 0, 0), (121, .iconst (2), 0, 0), (122, .iadd, 0, 0), (123, .aload 0, 0, 0), (124, .getfield 136, 11, 27), (127, .iastore, 0, 0), (128, .aload 0, 0, 0), (129, .getstatic 48, 11, 9), (132, .iload 1, 0, 0), (133, .iconst (3), 0, 0), (134, .iadd, 0, 0), (135, .aload 0, 0, 0), (136, .getfield 156, 11, 15), (139, .iastore, 0, 0), (140, .aload 0, 0, 0), (141, .iconst (97), 0, 0), (143, .iconst (116), 0, 0), (145, .iconst (0), 0, 0), (146, .iconst (0), 0, 0), (147, .iconst (0), 0, 0), (148, .iconst (0), 0, 0), (149, .iconst (0), 0, 0), (150, .invokevirtual 129, 1111, 8), (153, .ifCond .eq 0, 186, 0), (156, .aload 0, 0, 0), (157, .invokevirtual 139, 1108, 1), (160, .aload 0, 0, 0), (161, .iconst (0), 0, 0), (162, .aload 0, 0, 0), (163, .getfield 156, 11, 15), (166, .invokevirtual 145, 1117, 3), (169, .ifCond .ne 0, 174, 0), (172, .iconst (0), 0, 0), (173, .freturn, 0, 0)]
def mo_M_askLine_174 : List mmO := [(174, .aload 0, 0, 0), (175, .getstatic 48, 11, 9), (178, .iload 1, 0, 0), (179, .iconst (3), 0, 0), (180, .iadd, 0, 0), (181, .aload 0, 0, 0), (182, .getfield 136, 11, 27), (185, .iastore, 0, 0), (186, .nop, 0, 0)]
def mo_M_askLine_186 : List mmO := [(186, .aload 0, 0, 0), (187, .dup, 0, 0), (188, .getfield 159, 11, 18), (191, .iconst (1), 0, 0), (192, .iadd, 0, 0), (193, .putfield 159, 11, 18), (196, .iconst (1), 0, 0), (197, .freturn, 0, 0)]
def mb_M_askLine : List (Nat × List mmO) := [(0, mo_M_askLine_0), (13, mo_M_askLine_13), (28, mo_M_askLine_28), (54, mo_M_askLine_54), (81, mo_M_askLine_81), (116, mo_M_askLine_116), (174, mo_M_askLine_174), (186, mo_M_askLine_186)]
def mo_M_line_0 : List mmO := [(0, .aload 0, 0, 0), (1, .invokevirtual 166, 1115, 1), (4, .ifCond .eq 0, 14, 0), (7, .aload 0, 0, 0), (8, .invokevirtual 169, 1119, 1), (11, .goto 0, 47, 0)]
def mo_M_line_14 : List mmO := [(14, .aload 0, 0, 0), (15, .invokevirtual 172, 1113, 1), (18, .ifCond .eq 0, 28, 0), (21, .aload 0, 0, 0), (22, .invokevirtual 175, 1120, 1), (25, .goto 0, 47, 0)]
def mo_M_line_28 : List mmO := [(28, .aload 0, 0, 0), (29, .invokevirtual 178, 1114, 1), (32, .ifCond .eq 0, 42, 0), (35, .aload 0, 0, 0), (36, .invokevirtual 181, 1121, 1), (39, .goto 0, 47, 0)]
def mo_M_line_42 : List mmO := [(42, .aload 0, 0, 0), (43, .iconst (1), 0, 0), (44, .invokevirtual 133, 1109, 2), (47, .nop, 0, 0)]
def mo_M_line_47 : List mmO := [(47, .freturn, 0, 0)]
def mb_M_line : List (Nat × List mmO) := [(0, mo_M_line_0), (14, mo_M_line_14), (28, mo_M_line_28), (42, mo_M_line_42), (47, mo_M_line_47)]
def mo_M_text_0 : List mmO := [(0, .aload 0, 0, 0), (1, .iconst (0), 0, 0), (2, .putfield 72, 11, 0), (5, .iload 1, 0, 0), (6, .i2l, 0, 0), (7, .bipush 0, 0, 0), (8, .aload 0, 0, 0), (9, .getfield 75, 11, 2), (12, .i2l, 0, 0), (13, .invokestatic 89, 1102, 3), (16, .ifCond .ne 0, 21, 0), (19, .iconst (-1), 0, 0), (20, .ireturn, 0, 0)]
def mo_M_text_21 : List mmO := [(21, .aload 0, 0, 0), (22, .iload 1, 0, 0), (23, .putfield 82, 11, 20), (26, .aload 0, 0, 0), (27, .iconst (0), 0, 0), (28, .putfield 75, 11, 2), (31, .aload 0, 0, 0), (32, .iconst (0), 0, 0), (33, .putfield 97, 11, 22), (36, .aload 0, 0, 0), (37, .iconst (0), 0, 0), (38, .putfield 123, 11, 26), (41, .aload 0, 0, 0), (42, .iconst (0), 0, 0), (43, .putfield 142, 11, 13), (46, .aload 0, 0, 0), (47, .iconst (0), 0, 0), (48, .putfield 156, 11, 15), (51, .aload 0, 0, 0), (52, .iconst (0), 0, 0), (53, .putfield 159, 11, 18), (56, .aload 0, 0, 0), (57, .invokevirtual 139, 1108, 1), (60, .iconst (1), 0, 0), (61, .istore 2, 0, 0), (62, .aload 0, 0, 0), (63, .invokevirtual 184, 1122, 1), (66, .istore 3, 0, 0), (67, .nop, 0, 0)]
def mo_M_text_67 : List mmO := [(67, .iload 3, 0, 0), (68, .ifCond .eq 0, 95, 0), (71, .aload 0, 0, 0), (72, .iconst (59), 0, 0), (74, .invokevirtual 153, 1110, 2), (77, .ifCond .eq 0, 95, 0), (80, .aload 0, 0, 0), (81, .invokevirtual 139, 1108, 1), (84, .aload 0, 0, 0), (85, .invokevirtual 184, 1122, 1), (88, .istore 3, 0, 0), (89, .iinc 2 (1), 0, 0), (92, .goto 0, 67, 0)]
def mo_M_text_95 : List mmO := [(95, .iload 3, 0, 0), (96, .ifCond .eq 0, 112, 0), (99, .aload 0, 0, 0), (100, .getfield 107, 11, 23), (103, .ifCond .eq 0, 112, 0), (106, .aload 0, 0, 0), (107, .iconst (1), 0, 0), (108, .invokevirtual 133, 1109, 2), (111, .istore 3, 0, 0), (112, .nop, 0, 0)]
def mo_M_text_112 : List mmO := [(112, .iload 3, 0, 0), (113, .ifCond .ne 0, 124, 0), (116, .iconst (-2), 0, 0), (118, .aload 0, 0, 0), (119, .getfield 123, 11, 26), (122, .isub, 0, 0), (123, .ireturn, 0, 0)]
def mo_M_text_124 : List mmO := [(124, .aload 0, 0, 0), (125, .invokevirtual 187, 1124, 1), (128, .iload 2, 0, 0), (129, .ireturn, 0, 0)]
def mb_M_text : List (Nat × List mmO) := [(0, mo_M_text_0), (21, mo_M_text_21), (67, mo_M_text_67), (95, mo_M_text_95), (112, mo_M_text_112), (124, mo_M_text_124)]
def mo_M_takes_0 : List mmO := [(0, .aload 0, 0, 0), (1, .aload 0, 0, 0), (2, .getfield 142, 11, 13), (5, .putfield 13, 11, 3), (8, .aload 0, 0, 0), (9, .aload 0, 0, 0), (10, .getfield 156, 11, 15), (13, .putfield 190, 11, 5), (16, .aload 0, 0, 0), (17, .aload 0, 0, 0), (18, .getfield 159, 11, 18), (21, .putfield 193, 11, 8), (24, .iconst (0), 0, 0), (25, .istore 1, 0, 0), (26, .nop, 0, 0)]
def mo_M_takes_26 : List mmO := [(26, .iload 1, 0, 0), (27, .aload 0, 0, 0), (28, .getfield 13, 11, 3), (31, .if_icmp .ge 0, 52, 0), (34, .aload 0, 0, 0), (35, .getstatic 17, 11, 2), (38, .iload 1, 0, 0), (39, .aload 0, 0, 0), (40, .getstatic 39, 11, 6), (43, .iload 1, 0, 0), (44, .iaload, 0, 0), (45, .iastore, 0, 0), (46, .iinc 1 (1), 0, 0), (49, .goto 0, 26, 0)]
def mo_M_takes_52 : List mmO := [(52, .iconst (0), 0, 0), (53, .istore 1, 0, 0), (54, .nop, 0, 0)]
def mo_M_takes_54 : List mmO := [(54, .iload 1, 0, 0), (55, .aload 0, 0, 0), (56, .getfield 190, 11, 5), (59, .if_icmp .ge 0, 92, 0), (62, .aload 0, 0, 0), (63, .getstatic 21, 11, 3), (66, .iload 1, 0, 0), (67, .aload 0, 0, 0), (68, .getstatic 42, 11, 7), (71, .iload 1, 0, 0), (72, .iaload, 0, 0), (73, .iastore, 0, 0), (74, .aload 0, 0, 0), (75, .getstatic 24, 11, 4), (78, .iload 1, 0, 0), (79, .aload 0, 0, 0), (80, .getstatic 45, 11, 8), (83, .iload 1, 0, 0), (84, .iaload, 0, 0), (85, .iastore, 0, 0), (86, .iinc 1 (1), 0, 0), (89, .goto 0, 54, 0)]
def mo_M_takes_92 : List mmO := [(92, .iconst (0), 0, 0), (93, .istore 1, 0, 0), (94, .nop, 0, 0)]
def mo_M_takes_94 : List mmO := [(94, .iload 1, 0, 0), (95, .iconst (4), 0, 0), (96, .aload 0, 0, 0), (97, .getfield 193, 11, 8), (100, .imul, 0, 0), (101, .if_icmp .ge 0, 122, 0), (104, .aload 0, 0, 0), (105, .getstatic 27, 11, 5), (108, .iload 1, 0, 0), (109, .aload 0, 0, 0), (110, .getstatic 48, 11, 9), (113, .iload 1, 0, 0), (114, .iaload, 0, 0), (115, .iastore, 0, 0), (116, .iinc 1 (1), 0, 0), (119, .goto 0, 94, 0)]
def mo_M_takes_122 : List mmO := [(122, .aload 0, 0, 0), (123, .iconst (1), 0, 0), (124, .putfield 30, 11, 10), (127, .aload 0, 0, 0), (128, .iconst (1), 0, 0), (129, .putfield 33, 11, 11), (132, .aload 0, 0, 0), (133, .iconst (4), 0, 0), (134, .putfield 36, 11, 12), (137, .aload 0, 0, 0), (138, .iconst (0), 0, 0), (139, .putfield 196, 11, 39), (142, .aload 0, 0, 0), (143, .iconst (-1), 0, 0), (144, .putfield 69, 11, 40), (147, .aload 0, 0, 0), (148, .iconst (0), 0, 0), (149, .putfield 199, 11, 41), (152, .aload 0, 0, 0), (153, .iconst (0), 0, 0), (154, .putfield 202, 11, 42), (157, .aload 0, 0, 0), (158, .iconst (0), 0, 0), (159, .putfield 205, 11, 43), (162, .aload 0, 0, 0), (163, .iconst (0), 0, 0), (164, .putfield 208, 11, 44), (167, .aload 0, 0, 0), (168, .iconst (0), 0, 0), (169, .putfield 211, 11, 29), (172, .return_, 0, 0)]
def mb_M_takes : List (Nat × List mmO) := [(0, mo_M_takes_0), (26, mo_M_takes_26), (52, mo_M_takes_52), (54, mo_M_takes_54), (92, mo_M_takes_92), (94, mo_M_takes_94), (122, mo_M_takes_122)]
def mo_M_keeps_0 : List mmO := [(0, .aload 0, 0, 0), (1, .getfield 211, 11, 29), (4, .iconst (12), 0, 0), (6, .if_icmp .ne 0, 51, 0), (9, .iconst (0), 0, 0), (10, .istore 6, 0, 0), (12, .nop, 0, 0)]
def mo_M_keeps_12 : List mmO := [(12, .iload 6, 0, 0), (14, .iconst (55), 0, 0), (16, .if_icmp .ge 0, 41, 0), (19, .aload 0, 0, 0), (20, .getstatic 51, 11, 10), (23, .iload 6, 0, 0), (25, .aload 0, 0, 0), (26, .getstatic 51, 11, 10), (29, .iload 6, 0, 0), (31, .iconst (5), 0, 0), (32, .iadd, 0, 0), (33, .iaload, 0, 0), (34, .iastore, 0, 0), (35, .iinc 6 (1), 0, 0), (38, .goto 0, 12, 0)]
def mo_M_keeps_41 : List mmO := [(41, .aload 0, 0, 0), (42, .dup, 0, 0), (43, .getfield 211, 11, 29), (46, .iconst (1), 0, 0), (47, .isub, 0, 0), (48, .putfield 211, 11, 29), (51, .nop, 0, 0)]
def mo_M_keeps_51 : List mmO := [(51, .iconst (5), 0, 0), (52, .aload 0, 0, 0), (53, .getfield 211, 11, 29), (56, .imul, 0, 0), (57, .istore 6, 0, 0), (59, .aload 0, 0, 0), (60, .getstatic 51, 11, 10), (63, .iload 6, 0, 0), (65, .iload 1, 0, 0), (66, .iastore, 0, 0), (67, .aload 0, 0, 0), (68, .getstatic 51, 11, 10), (71, .iload 6, 0, 0), (73, .iconst (1), 0, 0), (74, .iadd, 0, 0), (75, .iload 2, 0, 0), (76, .iastore, 0, 0), (77, .aload 0, 0, 0), (78, .getstatic 51, 11, 10), (81, .iload 6, 0, 0), (83, .iconst (2), 0, 0), (84, .iadd, 0, 0), (85, .iload 3, 0, 0), (86, .iastore, 0, 0), (87, .aload 0, 0, 0), (88, .getstatic 51, 11, 10), (91, .iload 6, 0, 0), (93, .iconst (3), 0, 0), (94, .iadd, 0, 0), (95, .iload 4, 0, 0), (97, .iastore, 0, 0), (98, .aload 0, 0, 0), (99, .getstatic 51, 11, 10), (102, .iload 6, 0, 0), (104, .iconst (4), 0, 0), (105, .iadd, 0, 0), (106, .iload 5, 0, 0), (108, .iastore, 0, 0), (109, .aload 0, 0, 0), (110, .dup, 0, 0), (111, .getfield 211, 11, 29), (114, .iconst (1), 0, 0), (115, .iadd, 0, 0), (116, .putfield 211, 11, 29), (119, .return_, 0, 0)]
def mb_M_keeps : List (Nat × List mmO) := [(0, mo_M_keeps_0), (12, mo_M_keeps_12), (41, mo_M_keeps_41), (51, mo_M_keeps_51)]
def mo_M_isCell_0 : List mmO := [(0, .iload 1, 0, 0), (1, .ifCond .lt 0, 16, 0), (4, .iload 1, 0, 0), (5, .aload 0, 0, 0), (6, .getfield 13, 11, 3), (9, .if_icmp .ge 0, 16, 0), (12, .iconst (1), 0, 0), (13, .goto 0, 17, 0)]
def mo_M_isCell_16 : List mmO := [(16, .iconst (0), 0, 0), (17, .nop, 0, 0)]
def mo_M_isCell_17 : List mmO := [(17, .freturn, 0, 0)]
def mb_M_isCell : List (Nat × List mmO) := [(0, mo_M_isCell_0), (16, mo_M_isCell_16), (17, mo_M_isCell_17)]
def mo_M_isQuestion_0 : List mmO := [(0, .iload 1, 0, 0), (1, .ifCond .lt 0, 16, 0), (4, .iload 1, 0, 0), (5, .aload 0, 0, 0), (6, .getfield 193, 11, 8), (9, .if_icmp .ge 0, 16, 0), (12, .iconst (1), 0, 0), (13, .goto 0, 17, 0)]
def mo_M_isQuestion_16 : List mmO := [(16, .iconst (0), 0, 0), (17, .nop, 0, 0)]
def mo_M_isQuestion_17 : List mmO := [(17, .freturn, 0, 0)]
def mb_M_isQuestion : List (Nat × List mmO) := [(0, mo_M_isQuestion_0), (16, mo_M_isQuestion_16), (17, mo_M_isQuestion_17)]
def mo_M_cell_0 : List mmO := [(0, .aload 0, 0, 0), (1, .iconst (0), 0, 0), (2, .putfield 72, 11, 0), (5, .aload 0, 0, 0), (6, .iload 1, 0, 0), (7, .invokevirtual 214, 1126, 2), (10, .ifCond .eq 0, 53, 0), (13, .iload 2, 0, 0), (14, .i2l, 0, 0), (15, .bipush 0, 0, 0), (16, .bipush (63), 217, 0), (19, .invokestatic 89, 1102, 3), (22, .ifCond .eq 0, 53, 0), (25, .aload 0, 0, 0), (26, .getstatic 17, 11, 2), (29, .iload 1, 0, 0), (30, .iaload, 0, 0), (31, .iload 2, 0, 0), (32, .if_icmp .eq 0, 53, 0), (35, .iload 1, 0, 0), (36, .i2l, 0, 0), (37, .aload 0, 0, 0), (38, .getfield 196, 11, 39), (41, .i2l, 0, 0), (42, .aload 0, 0, 0), (43, .getfield 69, 11, 40), (46, .i2l, 0, 0), (47, .invokestatic 89, 1102, 3), (50, .ifCond .eq 0, 55, 0), (53, .nop, 0, 0)]
def mo_M_cell_53 : List mmO := [(53, .iconst (-1), 0, 0), (54, .ireturn, 0, 0)]
def mo_M_cell_55 : List mmO := [(55, .aload 0, 0, 0), (56, .getstatic 17, 11, 2), (59, .iload 1, 0, 0), (60, .iaload, 0, 0), (61, .istore 3, 0, 0), (62, .aload 0, 0, 0), (63, .iconst (5), 0, 0), (64, .iload 1, 0, 0), (65, .iload 3, 0, 0), (66, .iconst (0), 0, 0), (67, .iconst (0), 0, 0), (68, .invokevirtual 219, 1125, 6), (71, .aload 0, 0, 0), (72, .getstatic 17, 11, 2), (75, .iload 1, 0, 0), (76, .iload 2, 0, 0), (77, .iastore, 0, 0), (78, .iload 3, 0, 0), (79, .ireturn, 0, 0)]
def mb_M_cell : List (Nat × List mmO) := [(0, mo_M_cell_0), (53, mo_M_cell_53), (55, mo_M_cell_55)]
def mo_M_change_0 : List mmO := [(0, .aload 0, 0, 0), (1, .iconst (0), 0, 0), (2, .putfield 72, 11, 0), (5, .aload 0, 0, 0), (6, .iload 1, 0, 0), (7, .invokevirtual 214, 1126, 2), (10, .ifCond .eq 0, 34, 0), (13, .iload 2, 0, 0), (14, .i2l, 0, 0), (15, .bipush 0, 0, 0), (16, .bipush (63), 217, 0), (19, .invokestatic 89, 1102, 3), (22, .ifCond .eq 0, 34, 0), (25, .aload 0, 0, 0), (26, .getfield 190, 11, 5), (29, .iconst (32), 0, 0), (31, .if_icmp .ne 0, 36, 0), (34, .nop, 0, 0)]
def mo_M_change_34 : List mmO := [(34, .iconst (-1), 0, 0), (35, .ireturn, 0, 0)]
def mo_M_change_36 : List mmO := [(36, .aload 0, 0, 0), (37, .iconst (0), 0, 0), (38, .iconst (0), 0, 0), (39, .iconst (0), 0, 0), (40, .iconst (0), 0, 0), (41, .iconst (0), 0, 0), (42, .invokevirtual 219, 1125, 6), (45, .aload 0, 0, 0), (46, .getstatic 21, 11, 3), (49, .aload 0, 0, 0), (50, .getfield 190, 11, 5), (53, .iload 1, 0, 0), (54, .iastore, 0, 0), (55, .aload 0, 0, 0), (56, .getstatic 24, 11, 4), (59, .aload 0, 0, 0), (60, .getfield 190, 11, 5), (63, .iload 2, 0, 0), (64, .iastore, 0, 0), (65, .aload 0, 0, 0), (66, .dup, 0, 0), (67, .getfield 190, 11, 5), (70, .iconst (1), 0, 0), (71, .iadd, 0, 0), (72, .putfield 190, 11, 5), (75, .aload 0, 0, 0), (76, .getfield 190, 11, 5), (79, .ireturn, 0, 0)]
def mb_M_change : List (Nat × List mmO) := [(0, mo_M_change_0), (34, mo_M_change_34), (36, mo_M_change_36)]
def mo_M_canAsk_0 : List mmO := [(0, .iload 1, 0, 0), (1, .i2l, 0, 0), (2, .bipush 0, 0, 0), (3, .bipush (7), 223, 0), (6, .invokestatic 89, 1102, 3), (9, .ifCond .eq 0, 54, 0), (12, .aload 0, 0, 0), (13, .iload 2, 0, 0), (14, .invokevirtual 214, 1126, 2), (17, .ifCond .eq 0, 54, 0), (20, .aload 0, 0, 0), (21, .iload 3, 0, 0), (22, .invokevirtual 214, 1126, 2), (25, .ifCond .eq 0, 54, 0), (28, .iload 2, 0, 0), (29, .iload 3, 0, 0), (30, .if_icmp .gt 0, 54, 0), (33, .iload 4, 0, 0), (35, .i2l, 0, 0), (36, .bipush (-1), 225, 0), (39, .aload 0, 0, 0), (40, .getfield 190, 11, 5), (43, .i2l, 0, 0), (44, .invokestatic 89, 1102, 3), (47, .ifCond .eq 0, 54, 0), (50, .iconst (1), 0, 0), (51, .goto 0, 55, 0)]
def mo_M_canAsk_54 : List mmO := [(54, .iconst (0), 0, 0), (55, .nop, 0, 0)]
def mo_M_canAsk_55 : List mmO := [(55, .freturn, 0, 0)]
def mb_M_canAsk : List (Nat × List mmO) := [(0, mo_M_canAsk_0), (54, mo_M_canAsk_54), (55, mo_M_canAsk_55)]
def mo_M_asks_0 : List mmO := [(0, .iconst (4), 0, 0), (1, .aload 0, 0, 0), (2, .getfield 193, 11, 8), (5, .imul, 0, 0), (6, .istore 5, 0, 0), (8, .aload 0, 0, 0), (9, .getstatic 27, 11, 5), (12, .iload 5, 0, 0), (14, .iload 1, 0, 0), (15, .iastore, 0, 0), (16, .aload 0, 0, 0), (17, .getstatic 27, 11, 5), (20, .iload 5, 0, 0), (22, .iconst (1), 0, 0), (23, .iadd, 0, 0), (24, .iload 2, 0, 0), (25, .iastore, 0, 0), (26, .aload 0, 0, 0), (27, .getstatic 27, 11, 5), (30, .iload 5, 0, 0), (32, .iconst (2), 0, 0), (33, .iadd, 0, 0), (34, .iload 3, 0, 0), (35, .iastore, 0, 0), (36, .aload 0, 0, 0), (37, .getstatic 27, 11, 5), (40, .iload 5, 0, 0), (42, .iconst (3), 0, 0), (43, .iadd, 0, 0), (44, .iload 4, 0, 0), (46, .iconst (-1), 0, 0), (47, .if_icmp .ne 0, 57, 0), (50, .aload 0, 0, 0), (51, .getfield 190, 11, 5), (54, .goto 0, 59, 0)]
def mo_M_asks_57 : List mmO := [(57, .iload 4, 0, 0), (59, .nop, 0, 0)]
def mo_M_asks_59 : List mmO := [(59, .iastore, 0, 0), (60, .aload 0, 0, 0), (61, .dup, 0, 0), (62, .getfield 193, 11, 8), (65, .iconst (1), 0, 0), (66, .iadd, 0, 0), (67, .putfield 193, 11, 8), (70, .return_, 0, 0)]
def mb_M_asks : List (Nat × List mmO) := [(0, mo_M_asks_0), (57, mo_M_asks_57), (59, mo_M_asks_59)]
def mo_M_ask_0 : List mmO := [(0, .aload 0, 0, 0), (1, .iconst (0), 0, 0), (2, .putfield 72, 11, 0), (5, .aload 0, 0, 0), (6, .iload 1, 0, 0), (7, .iload 2, 0, 0), (8, .iload 3, 0, 0), (9, .iload 4, 0, 0), (11, .invokevirtual 227, 1130, 5), (14, .ifCond .eq 0, 26, 0), (17, .aload 0, 0, 0), (18, .getfield 193, 11, 8), (21, .iconst (24), 0, 0), (23, .if_icmp .ne 0, 28, 0), (26, .nop, 0, 0)]
def mo_M_ask_26 : List mmO := [(26, .iconst (-1), 0, 0), (27, .ireturn, 0, 0)]
def mo_M_ask_28 : List mmO := [(28, .aload 0, 0, 0), (29, .iconst (1), 0, 0), (30, .iconst (0), 0, 0), (31, .iconst (0), 0, 0), (32, .iconst (0), 0, 0), (33, .iconst (0), 0, 0), (34, .invokevirtual 219, 1125, 6), (37, .aload 0, 0, 0), (38, .iload 1, 0, 0), (39, .iload 2, 0, 0), (40, .iload 3, 0, 0), (41, .iload 4, 0, 0), (43, .invokevirtual 231, 1131, 5), (46, .aload 0, 0, 0), (47, .getfield 193, 11, 8), (50, .iconst (1), 0, 0), (51, .isub, 0, 0), (52, .ireturn, 0, 0)]
def mb_M_ask : List (Nat × List mmO) := [(0, mo_M_ask_0), (26, mo_M_ask_26), (28, mo_M_ask_28)]
def mo_M_drop_0 : List mmO := [(0, .aload 0, 0, 0), (1, .iconst (0), 0, 0), (2, .putfield 72, 11, 0), (5, .aload 0, 0, 0), (6, .getfield 193, 11, 8), (9, .ifCond .ne 0, 14, 0), (12, .iconst (-1), 0, 0), (13, .ireturn, 0, 0)]
def mo_M_drop_14 : List mmO := [(14, .iconst (4), 0, 0), (15, .aload 0, 0, 0), (16, .getfield 193, 11, 8), (19, .imul, 0, 0), (20, .iconst (4), 0, 0), (21, .isub, 0, 0), (22, .istore 1, 0, 0), (23, .aload 0, 0, 0), (24, .iconst (2), 0, 0), (25, .aload 0, 0, 0), (26, .getstatic 27, 11, 5), (29, .iload 1, 0, 0), (30, .iaload, 0, 0), (31, .aload 0, 0, 0), (32, .getstatic 27, 11, 5), (35, .iload 1, 0, 0), (36, .iconst (1), 0, 0), (37, .iadd, 0, 0), (38, .iaload, 0, 0), (39, .aload 0, 0, 0), (40, .getstatic 27, 11, 5), (43, .iload 1, 0, 0), (44, .iconst (2), 0, 0), (45, .iadd, 0, 0), (46, .iaload, 0, 0), (47, .aload 0, 0, 0), (48, .getstatic 27, 11, 5), (51, .iload 1, 0, 0), (52, .iconst (3), 0, 0), (53, .iadd, 0, 0), (54, .iaload, 0, 0), (55, .invokevirtual 219, 1125, 6), (58, .aload 0, 0, 0), (59, .dup, 0, 0), (60, .getfield 193, 11, 8), (63, .iconst (1), 0, 0), (64, .isub, 0, 0), (65, .putfield 193, 11, 8), (68, .aload 0, 0, 0), (69, .getfield 193, 11, 8), (72, .ireturn, 0, 0)]
def mb_M_drop : List (Nat × List mmO) := [(0, mo_M_drop_0), (14, mo_M_drop_14)]
def mo_M_weight_0 : List mmO := [(0, .aload 0, 0, 0), (1, .iconst (0), 0, 0), (2, .putfield 72, 11, 0), (5, .iload 1, 0, 0), (6, .i2l, 0, 0), (7, .bipush 0, 0, 0), (8, .bipush (9), 235, 0), (11, .invokestatic 89, 1102, 3), (14, .ifCond .ne 0, 19, 0), (17, .iconst (-1), 0, 0), (18, .ireturn, 0, 0)]
def mo_M_weight_19 : List mmO := [(19, .aload 0, 0, 0), (20, .getfield 30, 11, 10), (23, .istore 2, 0, 0), (24, .aload 0, 0, 0), (25, .iconst (3), 0, 0), (26, .iload 2, 0, 0), (27, .iconst (0), 0, 0), (28, .iconst (0), 0, 0), (29, .iconst (0), 0, 0), (30, .invokevirtual 219, 1125, 6), (33, .aload 0, 0, 0), (34, .iload 1, 0, 0), (35, .putfield 30, 11, 10), (38, .iload 2, 0, 0), (39, .ireturn, 0, 0)]
def mb_M_weight : List (Nat × List mmO) := [(0, mo_M_weight_0), (19, mo_M_weight_19)]
def mo_M_isPlan_0 : List mmO := [(0, .iload 0, 0, 0), (1, .i2l, 0, 0), (2, .bipush 0, 0, 0), (3, .bipush (2), 237, 0), (6, .invokestatic 89, 1102, 3), (9, .ifCond .eq 0, 28, 0), (12, .iload 1, 0, 0), (13, .i2l, 0, 0), (14, .bipush 1, 0, 0), (15, .bipush (60), 239, 0), (18, .invokestatic 89, 1102, 3), (21, .ifCond .eq 0, 28, 0), (24, .iconst (1), 0, 0), (25, .goto 0, 29, 0)]
def mo_M_isPlan_28 : List mmO := [(28, .iconst (0), 0, 0), (29, .nop, 0, 0)]
def mo_M_isPlan_29 : List mmO := [(29, .freturn, 0, 0)]
def mb_M_isPlan : List (Nat × List mmO) := [(0, mo_M_isPlan_0), (28, mo_M_isPlan_28), (29, mo_M_isPlan_29)]
def mo_M_set_0 : List mmO := [(0, .aload 0, 0, 0), (1, .iconst (0), 0, 0), (2, .putfield 72, 11, 0), (5, .iload 1, 0, 0), (6, .iload 2, 0, 0), (7, .invokestatic 241, 1135, 2), (10, .ifCond .ne 0, 15, 0), (13, .iconst (-1), 0, 0), (14, .ireturn, 0, 0)]
def mo_M_set_15 : List mmO := [(15, .iconst (100), 0, 0), (17, .aload 0, 0, 0), (18, .getfield 33, 11, 11), (21, .imul, 0, 0), (22, .aload 0, 0, 0), (23, .getfield 36, 11, 12), (26, .iadd, 0, 0), (27, .istore 3, 0, 0), (28, .aload 0, 0, 0), (29, .iconst (4), 0, 0), (30, .aload 0, 0, 0), (31, .getfield 33, 11, 11), (34, .aload 0, 0, 0), (35, .getfield 36, 11, 12), (38, .iconst (0), 0, 0), (39, .iconst (0), 0, 0), (40, .invokevirtual 219, 1125, 6), (43, .aload 0, 0, 0), (44, .iload 1, 0, 0), (45, .putfield 33, 11, 11), (48, .aload 0, 0, 0), (49, .iload 2, 0, 0), (50, .putfield 36, 11, 12), (53, .iload 3, 0, 0), (54, .ireturn, 0, 0)]
def mb_M_set : List (Nat × List mmO) := [(0, mo_M_set_0), (15, mo_M_set_15)]
def mo_M_back_0 : List mmO := [(0, .aload 0, 0, 0), (1, .iconst (0), 0, 0), (2, .putfield 72, 11, 0), (5, .aload 0, 0, 0), (6, .getfield 211, 11, 29), (9, .ifCond .ne 0, 14, 0), (12, .iconst (0), 0, 0), (13, .freturn, 0, 0)]
def mo_M_back_14 : List mmO := [(14, .aload 0, 0, 0), (15, .dup, 0, 0), (16, .getfield 211, 11, 29), (19, .iconst (1), 0, 0), (20, .isub, 0, 0), (21, .putfield 211, 11, 29), (24, .iconst (5), 0, 0), (25, .aload 0, 0, 0), (26, .getfield 211, 11, 29), (29, .imul, 0, 0), (30, .istore 1, 0, 0), (31, .aload 0, 0, 0), (32, .getstatic 51, 11, 10), (35, .iload 1, 0, 0), (36, .iaload, 0, 0), (37, .lookupswitch 0 #[(0, 72), (1, 115), (2, 127), (3, 165), (4, 179)], 205, 0)]
def mo_M_back_72 : List mmO := [(72, .aload 0, 0, 0), (73, .getfield 199, 11, 41), (76, .aload 0, 0, 0), (77, .getfield 190, 11, 5), (80, .if_icmp .ne 0, 103, 0), (83, .aload 0, 0, 0), (84, .dup, 0, 0), (85, .getfield 199, 11, 41), (88, .iconst (1), 0, 0), (89, .isub, 0, 0), (90, .putfield 199, 11, 41), (93, .aload 0, 0, 0), (94, .dup, 0, 0), (95, .getfield 208, 11, 44), (98, .iconst (1), 0, 0), (99, .iadd, 0, 0), (100, .putfield 208, 11, 44), (103, .nop, 0, 0)]
def mo_M_back_103 : List mmO := [(103, .aload 0, 0, 0), (104, .dup, 0, 0), (105, .getfield 190, 11, 5), (108, .iconst (1), 0, 0), (109, .isub, 0, 0), (110, .putfield 190, 11, 5), (113, .iconst (1), 0, 0), (114, .freturn, 0, 0)]
def mo_M_back_115 : List mmO := [(115, .aload 0, 0, 0), (116, .dup, 0, 0), (117, .getfield 193, 11, 8), (120, .iconst (1), 0, 0), (121, .isub, 0, 0), (122, .putfield 193, 11, 8), (125, .iconst (1), 0, 0), (126, .freturn, 0, 0)]
def mo_M_back_127 : List mmO := [(127, .aload 0, 0, 0), (128, .aload 0, 0, 0), (129, .getstatic 51, 11, 10), (132, .iload 1, 0, 0), (133, .iconst (1), 0, 0), (134, .iadd, 0, 0), (135, .iaload, 0, 0), (136, .aload 0, 0, 0), (137, .getstatic 51, 11, 10), (140, .iload 1, 0, 0), (141, .iconst (2), 0, 0), (142, .iadd, 0, 0), (143, .iaload, 0, 0), (144, .aload 0, 0, 0), (145, .getstatic 51, 11, 10), (148, .iload 1, 0, 0), (149, .iconst (3), 0, 0), (150, .iadd, 0, 0), (151, .iaload, 0, 0), (152, .aload 0, 0, 0), (153, .getstatic 51, 11, 10), (156, .iload 1, 0, 0), (157, .iconst (4), 0, 0), (158, .iadd, 0, 0), (159, .iaload, 0, 0), (160, .invokevirtual 231, 1131, 5), (163, .iconst (1), 0, 0), (164, .freturn, 0, 0)]
def mo_M_back_165 : List mmO := [(165, .aload 0, 0, 0), (166, .aload 0, 0, 0), (167, .getstatic 51, 11, 10), (170, .iload 1, 0, 0), (171, .iconst (1), 0, 0), (172, .iadd, 0, 0), (173, .iaload, 0, 0), (174, .putfield 30, 11, 10), (177, .iconst (1), 0, 0), (178, .freturn, 0, 0)]
def mo_M_back_179 : List mmO := [(179, .aload 0, 0, 0), (180, .aload 0, 0, 0), (181, .getstatic 51, 11, 10), (184, .iload 1, 0, 0), (185, .iconst (1), 0, 0), (186, .iadd, 0, 0), (187, .iaload, 0, 0), (188, .putfield 33, 11, 11), (191, .aload 0, 0, 0), (192, .aload 0, 0, 0), (193, .getstatic 51, 11, 10), (196, .iload 1, 0, 0), (197, .iconst (2), 0, 0), (198, .iadd, 0, 0), (199, .iaload, 0, 0), (200, .putfield 36, 11, 12), (203, .iconst (1), 0, 0), (204, .freturn, 0, 0)]
def mo_M_back_205 : List mmO := [(205, .aload 0, 0, 0), (206, .getstatic 17, 11, 2), (209, .aload 0, 0, 0), (210, .getstatic 51, 11, 10), (213, .iload 1, 0, 0), (214, .iconst (1), 0, 0), (215, .iadd, 0, 0), (216, .iaload, 0, 0), (217, .aload 0, 0, 0), (218, .getstatic 51, 11, 10), (221, .iload 1, 0, 0), (222, .iconst (2), 0, 0), (223, .iadd, 0, 0), (224, .iaload, 0, 0), (225, .iastore, 0, 0), (226, .iconst (1), 0, 0), (227, .freturn, 0, 0)]
def mb_M_back : List (Nat × List mmO) := [(0, mo_M_back_0), (14, mo_M_back_14), (72, mo_M_back_72), (103, mo_M_back_103), (115, mo_M_back_115), (127, mo_M_back_127), (165, mo_M_back_165), (179, mo_M_back_179), (205, mo_M_back_205)]
def mo_M_cellAt_0 : List mmO := [(0, .aload 0, 0, 0), (1, .getstatic 17, 11, 2), (4, .iload 1, 0, 0), (5, .iaload, 0, 0), (6, .istore 3, 0, 0), (7, .iconst (0), 0, 0), (8, .istore 4, 0, 0), (10, .nop, 0, 0)]
def mo_M_cellAt_10 : List mmO := [(10, .iload 4, 0, 0), (12, .iload 2, 0, 0), (13, .if_icmp .ge 0, 45, 0), (16, .aload 0, 0, 0), (17, .getstatic 21, 11, 3), (20, .iload 4, 0, 0), (22, .iaload, 0, 0), (23, .iload 1, 0, 0), (24, .if_icmp .ne 0, 37, 0), (27, .aload 0, 0, 0), (28, .getstatic 24, 11, 4), (31, .iload 4, 0, 0), (33, .iaload, 0, 0), (34, .goto 0, 38, 0)]
def mo_M_cellAt_37 : List mmO := [(37, .iload 3, 0, 0), (38, .nop, 0, 0)]
def mo_M_cellAt_38 : List mmO := [(38, .istore 3, 0, 0), (39, .iinc 4 (1), 0, 0), (42, .goto 0, 10, 0)]
def mo_M_cellAt_45 : List mmO := [(45, .iload 3, 0, 0), (46, .ireturn, 0, 0)]
def mb_M_cellAt : List (Nat × List mmO) := [(0, mo_M_cellAt_0), (10, mo_M_cellAt_10), (37, mo_M_cellAt_37), (38, mo_M_cellAt_38), (45, mo_M_cellAt_45)]
def mo_M_at_0 : List mmO := [(0, .aload 0, 0, 0), (1, .iconst (0), 0, 0), (2, .putfield 72, 11, 0), (5, .aload 0, 0, 0), (6, .iload 1, 0, 0), (7, .invokevirtual 214, 1126, 2), (10, .ifCond .eq 0, 36, 0), (13, .iload 2, 0, 0), (14, .i2l, 0, 0), (15, .bipush 0, 0, 0), (16, .aload 0, 0, 0), (17, .getfield 190, 11, 5), (20, .i2l, 0, 0), (21, .invokestatic 89, 1102, 3), (24, .ifCond .eq 0, 36, 0), (27, .aload 0, 0, 0), (28, .iload 1, 0, 0), (29, .iload 2, 0, 0), (30, .invokevirtual 244, 1138, 3), (33, .goto 0, 37, 0)]
def mo_M_at_36 : List mmO := [(36, .iconst (-1), 0, 0), (37, .nop, 0, 0)]
def mo_M_at_37 : List mmO := [(37, .ireturn, 0, 0)]
def mb_M_at : List (Nat × List mmO) := [(0, mo_M_at_0), (36, mo_M_at_36), (37, mo_M_at_37)]
def mo_M_lays_0 : List mmO := [(0, .iconst (0), 0, 0), (1, .istore 4, 0, 0), (3, .nop, 0, 0)]
def mo_M_lays_3 : List mmO := [(3, .iload 4, 0, 0), (5, .iconst (64), 0, 0), (7, .if_icmp .ge 0, 24, 0), (10, .aload 0, 0, 0), (11, .getstatic 54, 11, 11), (14, .iload 4, 0, 0), (16, .iconst (0), 0, 0), (17, .iastore, 0, 0), (18, .iinc 4 (1), 0, 0), (21, .goto 0, 3, 0)]
def mo_M_lays_24 : List mmO := [(24, .iload 1, 0, 0), (25, .istore 4, 0, 0), (27, .nop, 0, 0)]
def mo_M_lays_27 : List mmO := [(27, .iload 4, 0, 0), (29, .iload 2, 0, 0), (30, .if_icmp .gt 0, 55, 0), (33, .aload 0, 0, 0), (34, .getstatic 54, 11, 11), (37, .aload 0, 0, 0), (38, .iload 4, 0, 0), (40, .iload 3, 0, 0), (41, .invokevirtual 244, 1138, 3), (44, .dup2, 0, 0), (45, .iaload, 0, 0), (46, .iconst (1), 0, 0), (47, .iadd, 0, 0), (48, .iastore, 0, 0), (49, .iinc 4 (1), 0, 0), (52, .goto 0, 27, 0)]
def mo_M_lays_55 : List mmO := [(55, .return_, 0, 0)]
def mb_M_lays : List (Nat × List mmO) := [(0, mo_M_lays_0), (3, mo_M_lays_3), (24, mo_M_lays_24), (27, mo_M_lays_27), (55, mo_M_lays_55)]
def mo_M_parts_0 : List mmO := [(0, .iconst (0), 0, 0), (1, .istore 1, 0, 0), (2, .nop, 0, 0)]
def mo_M_parts_2 : List mmO := [(2, .iload 1, 0, 0), (3, .iconst (8), 0, 0), (5, .if_icmp .ge 0, 21, 0), (8, .aload 0, 0, 0), (9, .getstatic 57, 11, 12), (12, .iload 1, 0, 0), (13, .iload 1, 0, 0), (14, .iastore, 0, 0), (15, .iinc 1 (1), 0, 0), (18, .goto 0, 2, 0)]
def mo_M_parts_21 : List mmO := [(21, .iconst (0), 0, 0), (22, .istore 1, 0, 0), (23, .nop, 0, 0)]
def mo_M_parts_23 : List mmO := [(23, .iload 1, 0, 0), (24, .iconst (64), 0, 0), (26, .if_icmp .ge 0, 109, 0), (29, .aload 0, 0, 0), (30, .getstatic 57, 11, 12), (33, .iload 1, 0, 0), (34, .iconst (8), 0, 0), (36, .idiv, 0, 0), (37, .iaload, 0, 0), (38, .istore 2, 0, 0), (39, .aload 0, 0, 0), (40, .getstatic 57, 11, 12), (43, .iload 1, 0, 0), (44, .iconst (8), 0, 0), (46, .irem, 0, 0), (47, .iaload, 0, 0), (48, .istore 3, 0, 0), (49, .iconst (0), 0, 0), (50, .istore 4, 0, 0), (52, .nop, 0, 0)]
def mo_M_parts_52 : List mmO := [(52, .iload 4, 0, 0), (54, .iconst (8), 0, 0), (56, .if_icmp .ge 0, 103, 0), (59, .aload 0, 0, 0), (60, .getstatic 54, 11, 11), (63, .iload 1, 0, 0), (64, .iaload, 0, 0), (65, .ifCond .le 0, 103, 0), (68, .aload 0, 0, 0), (69, .getstatic 57, 11, 12), (72, .iload 4, 0, 0), (74, .aload 0, 0, 0), (75, .getstatic 57, 11, 12), (78, .iload 4, 0, 0), (80, .iaload, 0, 0), (81, .iload 2, 0, 0), (82, .if_icmp .ne 0, 89, 0), (85, .iload 3, 0, 0), (86, .goto 0, 96, 0)]
def mo_M_parts_89 : List mmO := [(89, .aload 0, 0, 0), (90, .getstatic 57, 11, 12), (93, .iload 4, 0, 0), (95, .iaload, 0, 0), (96, .nop, 0, 0)]
def mo_M_parts_96 : List mmO := [(96, .iastore, 0, 0), (97, .iinc 4 (1), 0, 0), (100, .goto 0, 52, 0)]
def mo_M_parts_103 : List mmO := [(103, .iinc 1 (1), 0, 0), (106, .goto 0, 23, 0)]
def mo_M_parts_109 : List mmO := [(109, .iconst (0), 0, 0), (110, .istore 1, 0, 0), (111, .iconst (0), 0, 0), (112, .istore 2, 0, 0), (113, .nop, 0, 0)]
def mo_M_parts_113 : List mmO := [(113, .iload 2, 0, 0), (114, .iconst (8), 0, 0), (116, .if_icmp .ge 0, 176, 0), (119, .iconst (0), 0, 0), (120, .istore 3, 0, 0), (121, .iconst (0), 0, 0), (122, .istore 4, 0, 0), (124, .nop, 0, 0)]
def mo_M_parts_124 : List mmO := [(124, .iload 4, 0, 0), (126, .iconst (8), 0, 0), (128, .if_icmp .ge 0, 158, 0), (131, .iload 3, 0, 0), (132, .ifCond .ne 0, 146, 0), (135, .aload 0, 0, 0), (136, .getstatic 57, 11, 12), (139, .iload 4, 0, 0), (141, .iaload, 0, 0), (142, .iload 2, 0, 0), (143, .if_icmp .ne 0, 150, 0), (146, .nop, 0, 0)]
def mo_M_parts_146 : List mmO := [(146, .iconst (1), 0, 0), (147, .goto 0, 151, 0)]
def mo_M_parts_150 : List mmO := [(150, .iconst (0), 0, 0), (151, .nop, 0, 0)]
def mo_M_parts_151 : List mmO := [(151, .istore 3, 0, 0), (152, .iinc 4 (1), 0, 0), (155, .goto 0, 124, 0)]
def mo_M_parts_158 : List mmO := [(158, .iload 1, 0, 0), (159, .iload 3, 0, 0), (160, .ifCond .eq 0, 167, 0), (163, .iconst (1), 0, 0), (164, .goto 0, 168, 0)]
def mo_M_parts_167 : List mmO := [(167, .iconst (0), 0, 0), (168, .nop, 0, 0)]
def mo_M_parts_168 : List mmO := [(168, .iadd, 0, 0), (169, .istore 1, 0, 0), (170, .iinc 2 (1), 0, 0), (173, .goto 0, 113, 0)]
def mo_M_parts_176 : List mmO := [(176, .iload 1, 0, 0), (177, .ireturn, 0, 0)]
def mb_M_parts : List (Nat × List mmO) := [(0, mo_M_parts_0), (2, mo_M_parts_2), (21, mo_M_parts_21), (23, mo_M_parts_23), (52, mo_M_parts_52), (89, mo_M_parts_89), (96, mo_M_parts_96), (103, mo_M_parts_103), (109, mo_M_parts_109), (113, mo_M_parts_113), (124, mo_M_parts_124), (146, mo_M_parts_146), (150, mo_M_parts_150), (151, mo_M_parts_151), (158, mo_M_parts_158), (167, mo_M_parts_167), (168, mo_M_parts_168), (176, mo_M_parts_176)]
def mo_M_most_0 : List mmO := [(0, .iconst (0), 0, 0), (1, .istore 1, 0, 0), (2, .iconst (1), 0, 0), (3, .istore 2, 0, 0), (4, .nop, 0, 0)]
def mo_M_most_4 : List mmO := [(4, .iload 2, 0, 0), (5, .iconst (64), 0, 0), (7, .if_icmp .ge 0, 37, 0), (10, .aload 0, 0, 0), (11, .getstatic 54, 11, 11), (14, .iload 2, 0, 0), (15, .iaload, 0, 0), (16, .aload 0, 0, 0), (17, .getstatic 54, 11, 11), (20, .iload 1, 0, 0), (21, .iaload, 0, 0), (22, .if_icmp .le 0, 29, 0), (25, .iload 2, 0, 0), (26, .goto 0, 30, 0)]
def mo_M_most_29 : List mmO := [(29, .iload 1, 0, 0), (30, .nop, 0, 0)]
def mo_M_most_30 : List mmO := [(30, .istore 1, 0, 0), (31, .iinc 2 (1), 0, 0), (34, .goto 0, 4, 0)]
def mo_M_most_37 : List mmO := [(37, .iload 1, 0, 0), (38, .ireturn, 0, 0)]
def mb_M_most : List (Nat × List mmO) := [(0, mo_M_most_0), (4, mo_M_most_4), (29, mo_M_most_29), (30, mo_M_most_30), (37, mo_M_most_37)]
def mo_M_tellsOf_0 : List mmO := [(0, .bipush 0, 0, 0), (1, .lstore 2, 0, 0), (2, .iload 1, 0, 0), (3, .lookupswitch 0 #[(0, 44), (1, 76), (2, 112), (3, 123), (4, 129), (5, 171), (6, 198)], 204, 0)]
def mo_M_tellsOf_44 : List mmO := [(44, .iconst (0), 0, 0), (45, .istore 4, 0, 0), (47, .nop, 0, 0)]
def mo_M_tellsOf_47 : List mmO := [(47, .iload 4, 0, 0), (49, .iconst (64), 0, 0), (51, .if_icmp .ge 0, 74, 0), (54, .lload 2, 0, 0), (55, .iload 4, 0, 0), (57, .aload 0, 0, 0), (58, .getstatic 54, 11, 11), (61, .iload 4, 0, 0), (63, .iaload, 0, 0), (64, .imul, 0, 0), (65, .i2l, 0, 0), (66, .ladd, 0, 0), (67, .lstore 2, 0, 0), (68, .iinc 4 (1), 0, 0), (71, .goto 0, 47, 0)]
def mo_M_tellsOf_74 : List mmO := [(74, .lload 2, 0, 0), (75, .lreturn, 0, 0)]
def mo_M_tellsOf_76 : List mmO := [(76, .iconst (0), 0, 0), (77, .istore 4, 0, 0), (79, .nop, 0, 0)]
def mo_M_tellsOf_79 : List mmO := [(79, .iload 4, 0, 0), (81, .iconst (64), 0, 0), (83, .if_icmp .ge 0, 110, 0), (86, .lload 2, 0, 0), (87, .aload 0, 0, 0), (88, .getstatic 54, 11, 11), (91, .iload 4, 0, 0), (93, .iaload, 0, 0), (94, .ifCond .le 0, 101, 0), (97, .bipush 1, 0, 0), (98, .goto 0, 102, 0)]
def mo_M_tellsOf_101 : List mmO := [(101, .bipush 0, 0, 0), (102, .nop, 0, 0)]
def mo_M_tellsOf_102 : List mmO := [(102, .ladd, 0, 0), (103, .lstore 2, 0, 0), (104, .iinc 4 (1), 0, 0), (107, .goto 0, 79, 0)]
def mo_M_tellsOf_110 : List mmO := [(110, .lload 2, 0, 0), (111, .lreturn, 0, 0)]
def mo_M_tellsOf_112 : List mmO := [(112, .aload 0, 0, 0), (113, .getstatic 54, 11, 11), (116, .aload 0, 0, 0), (117, .invokevirtual 248, 1142, 1), (120, .iaload, 0, 0), (121, .i2l, 0, 0), (122, .lreturn, 0, 0)]
def mo_M_tellsOf_123 : List mmO := [(123, .aload 0, 0, 0), (124, .invokevirtual 248, 1142, 1), (127, .i2l, 0, 0), (128, .lreturn, 0, 0)]
def mo_M_tellsOf_129 : List mmO := [(129, .iconst (0), 0, 0), (130, .istore 4, 0, 0), (132, .nop, 0, 0)]
def mo_M_tellsOf_132 : List mmO := [(132, .iload 4, 0, 0), (134, .iconst (64), 0, 0), (136, .if_icmp .ge 0, 169, 0), (139, .lload 2, 0, 0), (140, .aload 0, 0, 0), (141, .getstatic 54, 11, 11), (144, .iload 4, 0, 0), (146, .iaload, 0, 0), (147, .i2l, 0, 0), (148, .aload 0, 0, 0), (149, .getstatic 54, 11, 11), (152, .iload 4, 0, 0), (154, .iaload, 0, 0), (155, .i2l, 0, 0), (156, .lmul, 0, 0), (157, .iload 4, 0, 0), (159, .i2l, 0, 0), (160, .lmul, 0, 0), (161, .ladd, 0, 0), (162, .lstore 2, 0, 0), (163, .iinc 4 (1), 0, 0), (166, .goto 0, 132, 0)]
def mo_M_tellsOf_169 : List mmO := [(169, .lload 2, 0, 0), (170, .lreturn, 0, 0)]
def mo_M_tellsOf_171 : List mmO := [(171, .lload 2, 0, 0), (172, .bipush (64), 251, 0), (175, .lcmp, 0, 0), (176, .ifCond .ge 0, 196, 0), (179, .aload 0, 0, 0), (180, .getstatic 54, 11, 11), (183, .lload 2, 0, 0), (184, .l2i, 0, 0), (185, .iaload, 0, 0), (186, .ifCond .le 0, 196, 0), (189, .lload 2, 0, 0), (190, .bipush 1, 0, 0), (191, .ladd, 0, 0), (192, .lstore 2, 0, 0), (193, .goto 0, 171, 0)]
def mo_M_tellsOf_196 : List mmO := [(196, .lload 2, 0, 0), (197, .lreturn, 0, 0)]
def mo_M_tellsOf_198 : List mmO := [(198, .aload 0, 0, 0), (199, .invokevirtual 253, 1141, 1), (202, .i2l, 0, 0), (203, .lreturn, 0, 0)]
def mo_M_tellsOf_204 : List mmO := [(204, .iconst (0), 0, 0), (205, .istore 4, 0, 0), (207, .nop, 0, 0)]
def mo_M_tellsOf_207 : List mmO := [(207, .iload 4, 0, 0), (209, .iconst (64), 0, 0), (211, .if_icmp .ge 0, 243, 0), (214, .lload 2, 0, 0), (215, .aload 0, 0, 0), (216, .getstatic 54, 11, 11), (219, .iload 4, 0, 0), (221, .iaload, 0, 0), (222, .aload 0, 0, 0), (223, .getstatic 54, 11, 11), (226, .iload 4, 0, 0), (228, .iaload, 0, 0), (229, .iconst (1), 0, 0), (230, .isub, 0, 0), (231, .imul, 0, 0), (232, .iconst (2), 0, 0), (233, .idiv, 0, 0), (234, .i2l, 0, 0), (235, .ladd, 0, 0), (236, .lstore 2, 0, 0), (237, .iinc 4 (1), 0, 0), (240, .goto 0, 207, 0)]
def mo_M_tellsOf_243 : List mmO := [(243, .lload 2, 0, 0), (244, .lreturn, 0, 0)]
def mb_M_tellsOf : List (Nat × List mmO) := [(0, mo_M_tellsOf_0), (44, mo_M_tellsOf_44), (47, mo_M_tellsOf_47), (74, mo_M_tellsOf_74), (76, mo_M_tellsOf_76), (79, mo_M_tellsOf_79), (101, mo_M_tellsOf_101), (102, mo_M_tellsOf_102), (110, mo_M_tellsOf_110), (112, mo_M_tellsOf_112), (123, mo_M_tellsOf_123), (129, mo_M_tellsOf_129), (132, mo_M_tellsOf_132), (169, mo_M_tellsOf_169), (171, mo_M_tellsOf_171), (196, mo_M_tellsOf_196), (198, mo_M_tellsOf_198), (204, mo_M_tellsOf_204), (207, mo_M_tellsOf_207), (243, mo_M_tellsOf_243)]
def mo_M_answerOf_0 : List mmO := [(0, .aload 0, 0, 0), (1, .aload 0, 0, 0), (2, .getstatic 27, 11, 5), (5, .iconst (4), 0, 0), (6, .iload 1, 0, 0), (7, .imul, 0, 0), (8, .iconst (1), 0, 0), (9, .iadd, 0, 0), (10, .iaload, 0, 0), (11, .aload 0, 0, 0), (12, .getstatic 27, 11, 5), (15, .iconst (4), 0, 0), (16, .iload 1, 0, 0), (17, .imul, 0, 0), (18, .iconst (2), 0, 0), (19, .iadd, 0, 0), (20, .iaload, 0, 0), (21, .aload 0, 0, 0), (22, .getstatic 27, 11, 5), (25, .iconst (4), 0, 0), (26, .iload 1, 0, 0), (27, .imul, 0, 0), (28, .iconst (3), 0, 0), (29, .iadd, 0, 0), (30, .iaload, 0, 0), (31, .invokevirtual 256, 1140, 4), (34, .aload 0, 0, 0), (35, .aload 0, 0, 0), (36, .getstatic 27, 11, 5), (39, .iconst (4), 0, 0), (40, .iload 1, 0, 0), (41, .imul, 0, 0), (42, .iaload, 0, 0), (43, .invokevirtual 260, 1143, 2), (46, .lreturn, 0, 0)]
def mb_M_answerOf : List (Nat × List mmO) := [(0, mo_M_answerOf_0)]
def mo_M_answer_0 : List mmO := [(0, .aload 0, 0, 0), (1, .aload 0, 0, 0), (2, .iload 1, 0, 0), (3, .invokevirtual 264, 1127, 2), (6, .ifCond .eq 0, 13, 0), (9, .iconst (0), 0, 0), (10, .goto 0, 14, 0)]
def mo_M_answer_13 : List mmO := [(13, .iconst (1), 0, 0), (14, .nop, 0, 0)]
def mo_M_answer_14 : List mmO := [(14, .putfield 72, 11, 0), (17, .aload 0, 0, 0), (18, .getfield 72, 11, 0), (21, .ifCond .le 0, 28, 0), (24, .bipush 0, 0, 0), (25, .goto 0, 33, 0)]
def mo_M_answer_28 : List mmO := [(28, .aload 0, 0, 0), (29, .iload 1, 0, 0), (30, .invokevirtual 267, 1144, 2), (33, .nop, 0, 0)]
def mo_M_answer_33 : List mmO := [(33, .lreturn, 0, 0)]
def mb_M_answer : List (Nat × List mmO) := [(0, mo_M_answer_0), (13, mo_M_answer_13), (14, mo_M_answer_14), (28, mo_M_answer_28), (33, mo_M_answer_33)]
def mo_M_areAlike_0 : List mmO := [(0, .iconst (1), 0, 0), (1, .istore 3, 0, 0), (2, .iconst (0), 0, 0), (3, .istore 4, 0, 0), (5, .nop, 0, 0)]
def mo_M_areAlike_5 : List mmO := [(5, .iload 4, 0, 0), (7, .iconst (4), 0, 0), (8, .if_icmp .ge 0, 52, 0), (11, .iload 3, 0, 0), (12, .ifCond .eq 0, 44, 0), (15, .aload 0, 0, 0), (16, .getstatic 27, 11, 5), (19, .iconst (4), 0, 0), (20, .iload 1, 0, 0), (21, .imul, 0, 0), (22, .iload 4, 0, 0), (24, .iadd, 0, 0), (25, .iaload, 0, 0), (26, .aload 0, 0, 0), (27, .getstatic 27, 11, 5), (30, .iconst (4), 0, 0), (31, .iload 2, 0, 0), (32, .imul, 0, 0), (33, .iload 4, 0, 0), (35, .iadd, 0, 0), (36, .iaload, 0, 0), (37, .if_icmp .ne 0, 44, 0), (40, .iconst (1), 0, 0), (41, .goto 0, 45, 0)]
def mo_M_areAlike_44 : List mmO := [(44, .iconst (0), 0, 0), (45, .nop, 0, 0)]
def mo_M_areAlike_45 : List mmO := [(45, .istore 3, 0, 0), (46, .iinc 4 (1), 0, 0), (49, .goto 0, 5, 0)]
def mo_M_areAlike_52 : List mmO := [(52, .iload 3, 0, 0), (53, .freturn, 0, 0)]
def mb_M_areAlike : List (Nat × List mmO) := [(0, mo_M_areAlike_0), (5, mo_M_areAlike_5), (44, mo_M_areAlike_44), (45, mo_M_areAlike_45), (52, mo_M_areAlike_52)]
def mo_M_firstAlike_0 : List mmO := [(0, .iconst (0), 0, 0), (1, .istore 2, 0, 0), (2, .nop, 0, 0)]
def mo_M_firstAlike_2 : List mmO := [(2, .aload 0, 0, 0), (3, .iload 2, 0, 0), (4, .iload 1, 0, 0), (5, .invokevirtual 270, 1146, 3), (8, .ifCond .ne 0, 17, 0), (11, .iinc 2 (1), 0, 0), (14, .goto 0, 2, 0)]
def mo_M_firstAlike_17 : List mmO := [(17, .iload 2, 0, 0), (18, .ireturn, 0, 0)]
def mb_M_firstAlike : List (Nat × List mmO) := [(0, mo_M_firstAlike_0), (2, mo_M_firstAlike_2), (17, mo_M_firstAlike_17)]
def mo_M_of_0 : List mmO := [(0, .aload 0, 0, 0), (1, .iconst (0), 0, 0), (2, .putfield 72, 11, 0), (5, .aload 0, 0, 0), (6, .iload 1, 0, 0), (7, .invokevirtual 264, 1127, 2), (10, .ifCond .ne 0, 15, 0), (13, .iconst (-1), 0, 0), (14, .ireturn, 0, 0)]
def mo_M_of_15 : List mmO := [(15, .iload 2, 0, 0), (16, .i2l, 0, 0), (17, .bipush 0, 0, 0), (18, .bipush (3), 273, 0), (21, .invokestatic 89, 1102, 3), (24, .ifCond .eq 0, 38, 0), (27, .aload 0, 0, 0), (28, .getstatic 27, 11, 5), (31, .iconst (4), 0, 0), (32, .iload 1, 0, 0), (33, .imul, 0, 0), (34, .iload 2, 0, 0), (35, .iadd, 0, 0), (36, .iaload, 0, 0), (37, .ireturn, 0, 0)]
def mo_M_of_38 : List mmO := [(38, .iload 2, 0, 0), (39, .iconst (4), 0, 0), (40, .if_icmp .ne 0, 49, 0), (43, .aload 0, 0, 0), (44, .iload 1, 0, 0), (45, .invokevirtual 275, 1147, 2), (48, .ireturn, 0, 0)]
def mo_M_of_49 : List mmO := [(49, .iconst (0), 0, 0), (50, .istore 3, 0, 0), (51, .iconst (0), 0, 0), (52, .istore 4, 0, 0), (54, .nop, 0, 0)]
def mo_M_of_54 : List mmO := [(54, .iload 4, 0, 0), (56, .aload 0, 0, 0), (57, .getfield 193, 11, 8), (60, .if_icmp .ge 0, 87, 0), (63, .iload 3, 0, 0), (64, .aload 0, 0, 0), (65, .iload 4, 0, 0), (67, .iload 1, 0, 0), (68, .invokevirtual 270, 1146, 3), (71, .ifCond .eq 0, 78, 0), (74, .iconst (1), 0, 0), (75, .goto 0, 79, 0)]
def mo_M_of_78 : List mmO := [(78, .iconst (0), 0, 0), (79, .nop, 0, 0)]
def mo_M_of_79 : List mmO := [(79, .iadd, 0, 0), (80, .istore 3, 0, 0), (81, .iinc 4 (1), 0, 0), (84, .goto 0, 54, 0)]
def mo_M_of_87 : List mmO := [(87, .iload 2, 0, 0), (88, .iconst (5), 0, 0), (89, .if_icmp .ne 0, 96, 0), (92, .iload 3, 0, 0), (93, .goto 0, 97, 0)]
def mo_M_of_96 : List mmO := [(96, .iconst (-1), 0, 0), (97, .nop, 0, 0)]
def mo_M_of_97 : List mmO := [(97, .ireturn, 0, 0)]
def mb_M_of : List (Nat × List mmO) := [(0, mo_M_of_0), (15, mo_M_of_15), (38, mo_M_of_38), (49, mo_M_of_49), (54, mo_M_of_54), (78, mo_M_of_78), (79, mo_M_of_79), (87, mo_M_of_87), (96, mo_M_of_96), (97, mo_M_of_97)]
def mo_M_touched_0 : List mmO := [(0, .aload 0, 0, 0), (1, .iconst (0), 0, 0), (2, .putfield 72, 11, 0), (5, .aload 0, 0, 0), (6, .iload 1, 0, 0), (7, .invokevirtual 214, 1126, 2), (10, .ifCond .eq 0, 25, 0), (13, .iload 2, 0, 0), (14, .i2l, 0, 0), (15, .bipush 0, 0, 0), (16, .bipush (63), 217, 0), (19, .invokestatic 89, 1102, 3), (22, .ifCond .ne 0, 27, 0), (25, .nop, 0, 0)]
def mo_M_touched_25 : List mmO := [(25, .iconst (-1), 0, 0), (26, .ireturn, 0, 0)]
def mo_M_touched_27 : List mmO := [(27, .aload 0, 0, 0), (28, .getstatic 17, 11, 2), (31, .iload 1, 0, 0), (32, .iaload, 0, 0), (33, .istore 3, 0, 0), (34, .iconst (0), 0, 0), (35, .istore 4, 0, 0), (37, .iconst (0), 0, 0), (38, .istore 5, 0, 0), (40, .nop, 0, 0)]
def mo_M_touched_40 : List mmO := [(40, .iload 5, 0, 0), (42, .aload 0, 0, 0), (43, .getfield 193, 11, 8), (46, .if_icmp .ge 0, 99, 0), (49, .aload 0, 0, 0), (50, .iload 5, 0, 0), (52, .invokevirtual 267, 1144, 2), (55, .lstore 6, 0, 0), (57, .aload 0, 0, 0), (58, .getstatic 17, 11, 2), (61, .iload 1, 0, 0), (62, .iload 2, 0, 0), (63, .iastore, 0, 0), (64, .iload 4, 0, 0), (66, .aload 0, 0, 0), (67, .iload 5, 0, 0), (69, .invokevirtual 267, 1144, 2), (72, .lload 6, 0, 0), (74, .lcmp, 0, 0), (75, .ifCond .eq 0, 82, 0), (78, .iconst (1), 0, 0), (79, .goto 0, 83, 0)]
def mo_M_touched_82 : List mmO := [(82, .iconst (0), 0, 0), (83, .nop, 0, 0)]
def mo_M_touched_83 : List mmO := [(83, .iadd, 0, 0), (84, .istore 4, 0, 0), (86, .aload 0, 0, 0), (87, .getstatic 17, 11, 2), (90, .iload 1, 0, 0), (91, .iload 3, 0, 0), (92, .iastore, 0, 0), (93, .iinc 5 (1), 0, 0), (96, .goto 0, 40, 0)]
def mo_M_touched_99 : List mmO := [(99, .iload 4, 0, 0), (101, .ireturn, 0, 0)]
def mb_M_touched : List (Nat × List mmO) := [(0, mo_M_touched_0), (25, mo_M_touched_25), (27, mo_M_touched_27), (40, mo_M_touched_40), (82, mo_M_touched_82), (83, mo_M_touched_83), (99, mo_M_touched_99)]
def mo_M_isPlanned_0 : List mmO := [(0, .iload 0, 0, 0), (1, .iconst (2), 0, 0), (2, .if_icmp .eq 0, 20, 0), (5, .iload 0, 0, 0), (6, .iconst (3), 0, 0), (7, .if_icmp .eq 0, 20, 0), (10, .iload 0, 0, 0), (11, .iconst (6), 0, 0), (13, .if_icmp .eq 0, 20, 0), (16, .iconst (1), 0, 0), (17, .goto 0, 21, 0)]
def mo_M_isPlanned_20 : List mmO := [(20, .iconst (0), 0, 0), (21, .nop, 0, 0)]
def mo_M_isPlanned_21 : List mmO := [(21, .freturn, 0, 0)]
def mb_M_isPlanned : List (Nat × List mmO) := [(0, mo_M_isPlanned_0), (20, mo_M_isPlanned_20), (21, mo_M_isPlanned_21)]
def mo_M_curve_0 : List mmO := [(0, .iload 0, 0, 0), (1, .istore 2, 0, 0), (2, .iload 1, 0, 0), (3, .istore 3, 0, 0), (4, .iconst (0), 0, 0), (5, .istore 4, 0, 0), (7, .iconst (32), 0, 0), (9, .istore 5, 0, 0), (11, .nop, 0, 0)]
def mo_M_curve_11 : List mmO := [(11, .iload 5, 0, 0), (13, .ifCond .le 0, 102, 0), (16, .iload 2, 0, 0), (17, .iload 5, 0, 0), (19, .idiv, 0, 0), (20, .iconst (2), 0, 0), (21, .irem, 0, 0), (22, .istore 6, 0, 0), (24, .iload 3, 0, 0), (25, .iload 5, 0, 0), (27, .idiv, 0, 0), (28, .iconst (2), 0, 0), (29, .irem, 0, 0), (30, .istore 7, 0, 0), (32, .iload 4, 0, 0), (34, .iload 5, 0, 0), (36, .iload 5, 0, 0), (38, .imul, 0, 0), (39, .iconst (3), 0, 0), (40, .iload 6, 0, 0), (42, .imul, 0, 0), (43, .iload 7, 0, 0), (45, .ixor, 0, 0), (46, .imul, 0, 0), (47, .iadd, 0, 0), (48, .istore 4, 0, 0), (50, .iload 7, 0, 0), (52, .ifCond .ne 0, 93, 0), (55, .iload 6, 0, 0), (57, .iconst (1), 0, 0), (58, .if_icmp .ne 0, 68, 0), (61, .iconst (63), 0, 0), (63, .iload 2, 0, 0), (64, .isub, 0, 0), (65, .goto 0, 69, 0)]
def mo_M_curve_68 : List mmO := [(68, .iload 2, 0, 0), (69, .nop, 0, 0)]
def mo_M_curve_69 : List mmO := [(69, .istore 8, 0, 0), (71, .iload 6, 0, 0), (73, .iconst (1), 0, 0), (74, .if_icmp .ne 0, 84, 0), (77, .iconst (63), 0, 0), (79, .iload 3, 0, 0), (80, .isub, 0, 0), (81, .goto 0, 85, 0)]
def mo_M_curve_84 : List mmO := [(84, .iload 3, 0, 0), (85, .nop, 0, 0)]
def mo_M_curve_85 : List mmO := [(85, .istore 9, 0, 0), (87, .iload 9, 0, 0), (89, .istore 2, 0, 0), (90, .iload 8, 0, 0), (92, .istore 3, 0, 0), (93, .nop, 0, 0)]
def mo_M_curve_93 : List mmO := [(93, .iload 5, 0, 0), (95, .iconst (2), 0, 0), (96, .idiv, 0, 0), (97, .istore 5, 0, 0), (99, .goto 0, 11, 0)]
def mo_M_curve_102 : List mmO := [(102, .iload 4, 0, 0), (104, .ireturn, 0, 0)]
def mb_M_curve : List (Nat × List mmO) := [(0, mo_M_curve_0), (11, mo_M_curve_11), (68, mo_M_curve_68), (69, mo_M_curve_69), (84, mo_M_curve_84), (85, mo_M_curve_85), (93, mo_M_curve_93), (102, mo_M_curve_102)]
def mo_M_weightOf_0 : List mmO := [(0, .aload 0, 0, 0), (1, .getstatic 27, 11, 5), (4, .iconst (4), 0, 0), (5, .iload 1, 0, 0), (6, .imul, 0, 0), (7, .iconst (1), 0, 0), (8, .iadd, 0, 0), (9, .iaload, 0, 0), (10, .iload 3, 0, 0), (11, .idiv, 0, 0), (12, .istore 4, 0, 0), (14, .aload 0, 0, 0), (15, .getstatic 27, 11, 5), (18, .iconst (4), 0, 0), (19, .iload 1, 0, 0), (20, .imul, 0, 0), (21, .iconst (2), 0, 0), (22, .iadd, 0, 0), (23, .iaload, 0, 0), (24, .iload 3, 0, 0), (25, .idiv, 0, 0), (26, .istore 5, 0, 0), (28, .aload 0, 0, 0), (29, .getstatic 27, 11, 5), (32, .iconst (4), 0, 0), (33, .iload 1, 0, 0), (34, .imul, 0, 0), (35, .iconst (3), 0, 0), (36, .iadd, 0, 0), (37, .iaload, 0, 0), (38, .istore 6, 0, 0), (40, .iload 2, 0, 0), (41, .iconst (2), 0, 0), (42, .if_icmp .ne 0, 69, 0), (45, .iload 4, 0, 0), (47, .iload 5, 0, 0), (49, .invokestatic 278, 1151, 2), (52, .i2l, 0, 0), (53, .bipush (64), 251, 0), (56, .lmul, 0, 0), (57, .iload 6, 0, 0), (59, .i2l, 0, 0), (60, .ladd, 0, 0), (61, .bipush (64), 251, 0), (64, .lmul, 0, 0), (65, .iload 1, 0, 0), (66, .i2l, 0, 0), (67, .ladd, 0, 0), (68, .lreturn, 0, 0)]
def mo_M_weightOf_69 : List mmO := [(69, .iload 2, 0, 0), (70, .iconst (1), 0, 0), (71, .if_icmp .ne 0, 78, 0), (74, .iconst (1), 0, 0), (75, .goto 0, 79, 0)]
def mo_M_weightOf_78 : List mmO := [(78, .iconst (0), 0, 0), (79, .nop, 0, 0)]
def mo_M_weightOf_79 : List mmO := [(79, .istore 7, 0, 0), (81, .iload 7, 0, 0), (83, .ifCond .eq 0, 103, 0), (86, .iload 4, 0, 0), (88, .iconst (2), 0, 0), (89, .irem, 0, 0), (90, .iconst (1), 0, 0), (91, .if_icmp .ne 0, 103, 0), (94, .iconst (63), 0, 0), (96, .iload 5, 0, 0), (98, .isub, 0, 0), (99, .i2l, 0, 0), (100, .goto 0, 106, 0)]
def mo_M_weightOf_103 : List mmO := [(103, .iload 5, 0, 0), (105, .i2l, 0, 0), (106, .nop, 0, 0)]
def mo_M_weightOf_106 : List mmO := [(106, .lstore 8, 0, 0), (108, .iload 7, 0, 0), (110, .ifCond .eq 0, 130, 0), (113, .iload 5, 0, 0), (115, .iconst (2), 0, 0), (116, .irem, 0, 0), (117, .iconst (1), 0, 0), (118, .if_icmp .ne 0, 130, 0), (121, .iconst (63), 0, 0), (123, .iload 6, 0, 0), (125, .isub, 0, 0), (126, .i2l, 0, 0), (127, .goto 0, 133, 0)]
def mo_M_weightOf_130 : List mmO := [(130, .iload 6, 0, 0), (132, .i2l, 0, 0), (133, .nop, 0, 0)]
def mo_M_weightOf_133 : List mmO := [(133, .lstore 10, 0, 0), (135, .iload 4, 0, 0), (137, .i2l, 0, 0), (138, .bipush (64), 251, 0), (141, .lmul, 0, 0), (142, .lload 8, 0, 0), (144, .ladd, 0, 0), (145, .bipush (64), 251, 0), (148, .lmul, 0, 0), (149, .lload 10, 0, 0), (151, .ladd, 0, 0), (152, .bipush (64), 251, 0), (155, .lmul, 0, 0), (156, .iload 1, 0, 0), (157, .i2l, 0, 0), (158, .ladd, 0, 0), (159, .lreturn, 0, 0)]
def mb_M_weightOf : List (Nat × List mmO) := [(0, mo_M_weightOf_0), (69, mo_M_weightOf_69), (78, mo_M_weightOf_78), (79, mo_M_weightOf_79), (103, mo_M_weightOf_103), (106, mo_M_weightOf_106), (130, mo_M_weightOf_130), (133, mo_M_weightOf_133)]
def mo_M_plans_0 : List mmO := [(0, .aload 0, 0, 0), (1, .iconst (0), 0, 0), (2, .putfield 281, 11, 33), (5, .bipush (-1), 225, 0), (8, .lstore 3, 0, 0), (9, .iconst (0), 0, 0), (10, .istore 5, 0, 0), (12, .nop, 0, 0)]
def mo_M_plans_12 : List mmO := [(12, .iload 5, 0, 0), (14, .ifCond .lt 0, 159, 0), (17, .iconst (-1), 0, 0), (18, .istore 5, 0, 0), (20, .iconst (0), 0, 0), (21, .istore 6, 0, 0), (23, .nop, 0, 0)]
def mo_M_plans_23 : List mmO := [(23, .iload 6, 0, 0), (25, .aload 0, 0, 0), (26, .getfield 193, 11, 8), (29, .if_icmp .ge 0, 121, 0), (32, .iload 6, 0, 0), (34, .aload 0, 0, 0), (35, .getfield 63, 11, 34), (38, .if_icmp .eq 0, 73, 0), (41, .aload 0, 0, 0), (42, .getstatic 27, 11, 5), (45, .iconst (4), 0, 0), (46, .iload 6, 0, 0), (48, .imul, 0, 0), (49, .iaload, 0, 0), (50, .invokestatic 284, 1150, 1), (53, .ifCond .eq 0, 73, 0), (56, .aload 0, 0, 0), (57, .iload 6, 0, 0), (59, .iload 1, 0, 0), (60, .iload 2, 0, 0), (61, .invokevirtual 287, 1152, 4), (64, .lload 3, 0, 0), (65, .lcmp, 0, 0), (66, .ifCond .le 0, 73, 0), (69, .iconst (1), 0, 0), (70, .goto 0, 74, 0)]
def mo_M_plans_73 : List mmO := [(73, .iconst (0), 0, 0), (74, .nop, 0, 0)]
def mo_M_plans_74 : List mmO := [(74, .istore 7, 0, 0), (76, .iload 7, 0, 0), (78, .ifCond .eq 0, 111, 0), (81, .iload 5, 0, 0), (83, .ifCond .lt 0, 106, 0), (86, .aload 0, 0, 0), (87, .iload 6, 0, 0), (89, .iload 1, 0, 0), (90, .iload 2, 0, 0), (91, .invokevirtual 287, 1152, 4), (94, .aload 0, 0, 0), (95, .iload 5, 0, 0), (97, .iload 1, 0, 0), (98, .iload 2, 0, 0), (99, .invokevirtual 287, 1152, 4), (102, .lcmp, 0, 0), (103, .ifCond .ge 0, 111, 0), (106, .nop, 0, 0)]
def mo_M_plans_106 : List mmO := [(106, .iload 6, 0, 0), (108, .goto 0, 113, 0)]
def mo_M_plans_111 : List mmO := [(111, .iload 5, 0, 0), (113, .nop, 0, 0)]
def mo_M_plans_113 : List mmO := [(113, .istore 5, 0, 0), (115, .iinc 6 (1), 0, 0), (118, .goto 0, 23, 0)]
def mo_M_plans_121 : List mmO := [(121, .iload 5, 0, 0), (123, .ifCond .lt 0, 12, 0), (126, .aload 0, 0, 0), (127, .iload 5, 0, 0), (129, .iload 1, 0, 0), (130, .iload 2, 0, 0), (131, .invokevirtual 287, 1152, 4), (134, .lstore 3, 0, 0), (135, .aload 0, 0, 0), (136, .getstatic 60, 11, 13), (139, .aload 0, 0, 0), (140, .getfield 281, 11, 33), (143, .iload 5, 0, 0), (145, .iastore, 0, 0), (146, .aload 0, 0, 0), (147, .dup, 0, 0), (148, .getfield 281, 11, 33), (151, .iconst (1), 0, 0), (152, .iadd, 0, 0), (153, .putfield 281, 11, 33), (156, .goto 0, 12, 0)]
def mo_M_plans_159 : List mmO := [(159, .return_, 0, 0)]
def mb_M_plans : List (Nat × List mmO) := [(0, mo_M_plans_0), (12, mo_M_plans_12), (23, mo_M_plans_23), (73, mo_M_plans_73), (74, mo_M_plans_74), (106, mo_M_plans_106), (111, mo_M_plans_111), (113, mo_M_plans_113), (121, mo_M_plans_121), (159, mo_M_plans_159)]
def mo_M_planned_0 : List mmO := [(0, .aload 0, 0, 0), (1, .iconst (0), 0, 0), (2, .putfield 72, 11, 0), (5, .iload 1, 0, 0), (6, .iload 2, 0, 0), (7, .invokestatic 241, 1135, 2), (10, .ifCond .eq 0, 18, 0), (13, .iload 3, 0, 0), (14, .iconst (-1), 0, 0), (15, .if_icmp .ge 0, 20, 0), (18, .nop, 0, 0)]
def mo_M_planned_18 : List mmO := [(18, .iconst (-1), 0, 0), (19, .ireturn, 0, 0)]
def mo_M_planned_20 : List mmO := [(20, .aload 0, 0, 0), (21, .iload 1, 0, 0), (22, .iload 2, 0, 0), (23, .invokevirtual 291, 1153, 3), (26, .iload 3, 0, 0), (27, .iconst (-1), 0, 0), (28, .if_icmp .ne 0, 38, 0), (31, .aload 0, 0, 0), (32, .getfield 281, 11, 33), (35, .goto 0, 56, 0)]
def mo_M_planned_38 : List mmO := [(38, .iload 3, 0, 0), (39, .aload 0, 0, 0), (40, .getfield 281, 11, 33), (43, .if_icmp .ge 0, 55, 0), (46, .aload 0, 0, 0), (47, .getstatic 60, 11, 13), (50, .iload 3, 0, 0), (51, .iaload, 0, 0), (52, .goto 0, 56, 0)]
def mo_M_planned_55 : List mmO := [(55, .iconst (-1), 0, 0), (56, .nop, 0, 0)]
def mo_M_planned_56 : List mmO := [(56, .ireturn, 0, 0)]
def mb_M_planned : List (Nat × List mmO) := [(0, mo_M_planned_0), (18, mo_M_planned_18), (20, mo_M_planned_20), (38, mo_M_planned_38), (55, mo_M_planned_55), (56, mo_M_planned_56)]
def mo_M_apart_0 : List mmO := [(0, .iload 0, 0, 0), (1, .iload 1, 0, 0), (2, .if_icmp .le 0, 11, 0), (5, .iload 0, 0, 0), (6, .iload 1, 0, 0), (7, .isub, 0, 0), (8, .goto 0, 14, 0)]
def mo_M_apart_11 : List mmO := [(11, .iload 1, 0, 0), (12, .iload 0, 0, 0), (13, .isub, 0, 0), (14, .nop, 0, 0)]
def mo_M_apart_14 : List mmO := [(14, .ireturn, 0, 0)]
def mb_M_apart : List (Nat × List mmO) := [(0, mo_M_apart_0), (11, mo_M_apart_11), (14, mo_M_apart_14)]
def mo_M_along_0 : List mmO := [(0, .iconst (0), 0, 0), (1, .istore 3, 0, 0), (2, .iconst (-1), 0, 0), (3, .istore 4, 0, 0), (5, .iconst (0), 0, 0), (6, .istore 5, 0, 0), (8, .aload 0, 0, 0), (9, .iconst (0), 0, 0), (10, .putfield 295, 11, 35), (13, .aload 0, 0, 0), (14, .iconst (0), 0, 0), (15, .putfield 298, 11, 36), (18, .aload 0, 0, 0), (19, .iconst (0), 0, 0), (20, .putfield 301, 11, 37), (23, .iload 1, 0, 0), (24, .istore 6, 0, 0), (26, .nop, 0, 0)]
def mo_M_along_26 : List mmO := [(26, .iload 6, 0, 0), (28, .iload 2, 0, 0), (29, .if_icmp .ge 0, 177, 0), (32, .iconst (4), 0, 0), (33, .aload 0, 0, 0), (34, .getstatic 60, 11, 13), (37, .iload 6, 0, 0), (39, .iaload, 0, 0), (40, .imul, 0, 0), (41, .istore 7, 0, 0), (43, .iload 3, 0, 0), (44, .aload 0, 0, 0), (45, .getstatic 27, 11, 5), (48, .iload 7, 0, 0), (50, .iconst (1), 0, 0), (51, .iadd, 0, 0), (52, .iaload, 0, 0), (53, .invokestatic 304, 1155, 2), (56, .iload 4, 0, 0), (58, .aload 0, 0, 0), (59, .getstatic 27, 11, 5), (62, .iload 7, 0, 0), (64, .iconst (2), 0, 0), (65, .iadd, 0, 0), (66, .iaload, 0, 0), (67, .invokestatic 304, 1155, 2), (70, .iadd, 0, 0), (71, .istore 8, 0, 0), (73, .iload 5, 0, 0), (75, .aload 0, 0, 0), (76, .getstatic 27, 11, 5), (79, .iload 7, 0, 0), (81, .iconst (3), 0, 0), (82, .iadd, 0, 0), (83, .iaload, 0, 0), (84, .invokestatic 304, 1155, 2), (87, .istore 9, 0, 0), (89, .aload 0, 0, 0), (90, .dup, 0, 0), (91, .getfield 295, 11, 35), (94, .iload 8, 0, 0), (96, .iadd, 0, 0), (97, .putfield 295, 11, 35), (100, .aload 0, 0, 0), (101, .dup, 0, 0), (102, .getfield 298, 11, 36), (105, .iload 9, 0, 0), (107, .iadd, 0, 0), (108, .putfield 298, 11, 36), (111, .aload 0, 0, 0), (112, .iload 8, 0, 0), (114, .iload 9, 0, 0), (116, .iadd, 0, 0), (117, .aload 0, 0, 0), (118, .getfield 301, 11, 37), (121, .if_icmp .le 0, 132, 0), (124, .iload 8, 0, 0), (126, .iload 9, 0, 0), (128, .iadd, 0, 0), (129, .goto 0, 136, 0)]
def mo_M_along_132 : List mmO := [(132, .aload 0, 0, 0), (133, .getfield 301, 11, 37), (136, .nop, 0, 0)]
def mo_M_along_136 : List mmO := [(136, .putfield 301, 11, 37), (139, .aload 0, 0, 0), (140, .getstatic 27, 11, 5), (143, .iload 7, 0, 0), (145, .iconst (1), 0, 0), (146, .iadd, 0, 0), (147, .iaload, 0, 0), (148, .istore 3, 0, 0), (149, .aload 0, 0, 0), (150, .getstatic 27, 11, 5), (153, .iload 7, 0, 0), (155, .iconst (2), 0, 0), (156, .iadd, 0, 0), (157, .iaload, 0, 0), (158, .istore 4, 0, 0), (160, .aload 0, 0, 0), (161, .getstatic 27, 11, 5), (164, .iload 7, 0, 0), (166, .iconst (3), 0, 0), (167, .iadd, 0, 0), (168, .iaload, 0, 0), (169, .istore 5, 0, 0), (171, .iinc 6 (1), 0, 0), (174, .goto 0, 26, 0)]
def mo_M_along_177 : List mmO := [(177, .return_, 0, 0)]
def mb_M_along : List (Nat × List mmO) := [(0, mo_M_along_0), (26, mo_M_along_26), (132, mo_M_along_132), (136, mo_M_along_136), (177, mo_M_along_177)]
def mo_M_cost_0 : List mmO := [(0, .aload 0, 0, 0), (1, .iload 1, 0, 0), (2, .iload 2, 0, 0), (3, .invokevirtual 307, 1156, 3), (6, .aload 0, 0, 0), (7, .getfield 295, 11, 35), (10, .aload 0, 0, 0), (11, .getfield 30, 11, 10), (14, .aload 0, 0, 0), (15, .getfield 298, 11, 36), (18, .imul, 0, 0), (19, .iadd, 0, 0), (20, .ireturn, 0, 0)]
def mb_M_cost : List (Nat × List mmO) := [(0, mo_M_cost_0)]
def mo_M_costOf_0 : List mmO := [(0, .aload 0, 0, 0), (1, .iload 1, 0, 0), (2, .iload 2, 0, 0), (3, .invokevirtual 291, 1153, 3), (6, .aload 0, 0, 0), (7, .iconst (0), 0, 0), (8, .aload 0, 0, 0), (9, .getfield 281, 11, 33), (12, .invokevirtual 310, 1157, 3), (15, .ireturn, 0, 0)]
def mb_M_costOf : List (Nat × List mmO) := [(0, mo_M_costOf_0)]
def mo_M_moves_0 : List mmO := [(0, .aload 0, 0, 0), (1, .iconst (0), 0, 0), (2, .putfield 72, 11, 0), (5, .iload 1, 0, 0), (6, .iload 2, 0, 0), (7, .invokestatic 241, 1135, 2), (10, .ifCond .ne 0, 15, 0), (13, .iconst (-1), 0, 0), (14, .ireturn, 0, 0)]
def mo_M_moves_15 : List mmO := [(15, .aload 0, 0, 0), (16, .iload 1, 0, 0), (17, .iload 2, 0, 0), (18, .invokevirtual 313, 1158, 3), (21, .istore 4, 0, 0), (23, .iload 3, 0, 0), (24, .lookupswitch 0 #[(0, 60), (1, 65), (2, 70), (3, 73), (4, 78)], 118, 0)]
def mo_M_moves_60 : List mmO := [(60, .aload 0, 0, 0), (61, .getfield 295, 11, 35), (64, .ireturn, 0, 0)]
def mo_M_moves_65 : List mmO := [(65, .aload 0, 0, 0), (66, .getfield 298, 11, 36), (69, .ireturn, 0, 0)]
def mo_M_moves_70 : List mmO := [(70, .iload 4, 0, 0), (72, .ireturn, 0, 0)]
def mo_M_moves_73 : List mmO := [(73, .aload 0, 0, 0), (74, .getfield 301, 11, 37), (77, .ireturn, 0, 0)]
def mo_M_moves_78 : List mmO := [(78, .iload 1, 0, 0), (79, .iconst (1), 0, 0), (80, .if_icmp .ne 0, 116, 0), (83, .iconst (3), 0, 0), (84, .iload 2, 0, 0), (85, .imul, 0, 0), (86, .aload 0, 0, 0), (87, .getfield 281, 11, 33), (90, .imul, 0, 0), (91, .iconst (2), 0, 0), (92, .aload 0, 0, 0), (93, .getfield 13, 11, 3), (96, .iload 2, 0, 0), (97, .iadd, 0, 0), (98, .iconst (1), 0, 0), (99, .isub, 0, 0), (100, .iload 2, 0, 0), (101, .idiv, 0, 0), (102, .iconst (1), 0, 0), (103, .iadd, 0, 0), (104, .imul, 0, 0), (105, .aload 0, 0, 0), (106, .getfield 13, 11, 3), (109, .iload 2, 0, 0), (110, .iadd, 0, 0), (111, .imul, 0, 0), (112, .iadd, 0, 0), (113, .goto 0, 117, 0)]
def mo_M_moves_116 : List mmO := [(116, .iconst (-1), 0, 0), (117, .nop, 0, 0)]
def mo_M_moves_117 : List mmO := [(117, .ireturn, 0, 0)]
def mo_M_moves_118 : List mmO := [(118, .iconst (-1), 0, 0), (119, .ireturn, 0, 0)]
def mb_M_moves : List (Nat × List mmO) := [(0, mo_M_moves_0), (15, mo_M_moves_15), (60, mo_M_moves_60), (65, mo_M_moves_65), (70, mo_M_moves_70), (73, mo_M_moves_73), (78, mo_M_moves_78), (116, mo_M_moves_116), (117, mo_M_moves_117), (118, mo_M_moves_118)]
def mo_M_best_0 : List mmO := [(0, .aload 0, 0, 0), (1, .iconst (0), 0, 0), (2, .putfield 72, 11, 0), (5, .iload 1, 0, 0), (6, .i2l, 0, 0), (7, .bipush 0, 0, 0), (8, .bipush (2), 237, 0), (11, .invokestatic 89, 1102, 3), (14, .ifCond .eq 0, 27, 0), (17, .iload 2, 0, 0), (18, .i2l, 0, 0), (19, .bipush 0, 0, 0), (20, .bipush 1, 0, 0), (21, .invokestatic 89, 1102, 3), (24, .ifCond .ne 0, 29, 0), (27, .nop, 0, 0)]
def mo_M_best_27 : List mmO := [(27, .iconst (-1), 0, 0), (28, .ireturn, 0, 0)]
def mo_M_best_29 : List mmO := [(29, .iconst (1), 0, 0), (30, .istore 3, 0, 0), (31, .aload 0, 0, 0), (32, .iload 1, 0, 0), (33, .iconst (1), 0, 0), (34, .invokevirtual 313, 1158, 3), (37, .istore 4, 0, 0), (39, .iconst (2), 0, 0), (40, .istore 5, 0, 0), (42, .nop, 0, 0)]
def mo_M_best_42 : List mmO := [(42, .iload 5, 0, 0), (44, .aload 0, 0, 0), (45, .getfield 13, 11, 3), (48, .if_icmp .gt 0, 96, 0), (51, .aload 0, 0, 0), (52, .iload 1, 0, 0), (53, .iload 5, 0, 0), (55, .invokevirtual 313, 1158, 3), (58, .istore 6, 0, 0), (60, .iload 6, 0, 0), (62, .iload 4, 0, 0), (64, .if_icmp .ge 0, 72, 0), (67, .iload 5, 0, 0), (69, .goto 0, 73, 0)]
def mo_M_best_72 : List mmO := [(72, .iload 3, 0, 0), (73, .nop, 0, 0)]
def mo_M_best_73 : List mmO := [(73, .istore 3, 0, 0), (74, .iload 6, 0, 0), (76, .iload 4, 0, 0), (78, .if_icmp .ge 0, 86, 0), (81, .iload 6, 0, 0), (83, .goto 0, 88, 0)]
def mo_M_best_86 : List mmO := [(86, .iload 4, 0, 0), (88, .nop, 0, 0)]
def mo_M_best_88 : List mmO := [(88, .istore 4, 0, 0), (90, .iinc 5 (1), 0, 0), (93, .goto 0, 42, 0)]
def mo_M_best_96 : List mmO := [(96, .iload 2, 0, 0), (97, .ifCond .ne 0, 104, 0), (100, .iload 3, 0, 0), (101, .goto 0, 106, 0)]
def mo_M_best_104 : List mmO := [(104, .iload 4, 0, 0), (106, .nop, 0, 0)]
def mo_M_best_106 : List mmO := [(106, .ireturn, 0, 0)]
def mb_M_best : List (Nat × List mmO) := [(0, mo_M_best_0), (27, mo_M_best_27), (29, mo_M_best_29), (42, mo_M_best_42), (72, mo_M_best_72), (73, mo_M_best_73), (86, mo_M_best_86), (88, mo_M_best_88), (96, mo_M_best_96), (104, mo_M_best_104), (106, mo_M_best_106)]
def mo_M_laysSplit_0 : List mmO := [(0, .iconst (0), 0, 0), (1, .istore 2, 0, 0), (2, .nop, 0, 0)]
def mo_M_laysSplit_2 : List mmO := [(2, .iload 2, 0, 0), (3, .iload 1, 0, 0), (4, .if_icmp .gt 0, 159, 0), (7, .aload 0, 0, 0), (8, .getfield 281, 11, 33), (11, .istore 3, 0, 0), (12, .nop, 0, 0)]
def mo_M_laysSplit_12 : List mmO := [(12, .iload 3, 0, 0), (13, .ifCond .lt 0, 153, 0), (16, .iload 2, 0, 0), (17, .ifCond .ne 0, 38, 0), (20, .iload 3, 0, 0), (21, .aload 0, 0, 0), (22, .getfield 281, 11, 33), (25, .if_icmp .ne 0, 32, 0), (28, .iconst (0), 0, 0), (29, .goto 0, 51, 0)]
def mo_M_laysSplit_32 : List mmO := [(32, .iconst (1000000), 316, 0), (35, .goto 0, 51, 0)]
def mo_M_laysSplit_38 : List mmO := [(38, .aload 0, 0, 0), (39, .getstatic 66, 11, 14), (42, .iconst (25), 0, 0), (44, .iload 2, 0, 0), (45, .iconst (1), 0, 0), (46, .isub, 0, 0), (47, .imul, 0, 0), (48, .iload 3, 0, 0), (49, .iadd, 0, 0), (50, .iaload, 0, 0), (51, .nop, 0, 0)]
def mo_M_laysSplit_51 : List mmO := [(51, .istore 4, 0, 0), (53, .iload 3, 0, 0), (54, .iconst (1), 0, 0), (55, .iadd, 0, 0), (56, .istore 5, 0, 0), (58, .nop, 0, 0)]
def mo_M_laysSplit_58 : List mmO := [(58, .iload 5, 0, 0), (60, .aload 0, 0, 0), (61, .getfield 281, 11, 33), (64, .if_icmp .gt 0, 134, 0), (67, .iload 2, 0, 0), (68, .ifCond .le 0, 134, 0), (71, .aload 0, 0, 0), (72, .iload 3, 0, 0), (73, .iload 5, 0, 0), (75, .invokevirtual 310, 1157, 3), (78, .istore 6, 0, 0), (80, .aload 0, 0, 0), (81, .getstatic 66, 11, 14), (84, .iconst (25), 0, 0), (86, .iload 2, 0, 0), (87, .iconst (1), 0, 0), (88, .isub, 0, 0), (89, .imul, 0, 0), (90, .iload 5, 0, 0), (92, .iadd, 0, 0), (93, .iaload, 0, 0), (94, .istore 7, 0, 0), (96, .iload 6, 0, 0), (98, .iload 7, 0, 0), (100, .if_icmp .le 0, 108, 0), (103, .iload 6, 0, 0), (105, .goto 0, 110, 0)]
def mo_M_laysSplit_108 : List mmO := [(108, .iload 7, 0, 0), (110, .nop, 0, 0)]
def mo_M_laysSplit_110 : List mmO := [(110, .istore 8, 0, 0), (112, .iload 8, 0, 0), (114, .iload 4, 0, 0), (116, .if_icmp .ge 0, 124, 0), (119, .iload 8, 0, 0), (121, .goto 0, 126, 0)]
def mo_M_laysSplit_124 : List mmO := [(124, .iload 4, 0, 0), (126, .nop, 0, 0)]
def mo_M_laysSplit_126 : List mmO := [(126, .istore 4, 0, 0), (128, .iinc 5 (1), 0, 0), (131, .goto 0, 58, 0)]
def mo_M_laysSplit_134 : List mmO := [(134, .aload 0, 0, 0), (135, .getstatic 66, 11, 14), (138, .iconst (25), 0, 0), (140, .iload 2, 0, 0), (141, .imul, 0, 0), (142, .iload 3, 0, 0), (143, .iadd, 0, 0), (144, .iload 4, 0, 0), (146, .iastore, 0, 0), (147, .iinc 3 (-1), 0, 0), (150, .goto 0, 12, 0)]
def mo_M_laysSplit_153 : List mmO := [(153, .iinc 2 (1), 0, 0), (156, .goto 0, 2, 0)]
def mo_M_laysSplit_159 : List mmO := [(159, .return_, 0, 0)]
def mb_M_laysSplit : List (Nat × List mmO) := [(0, mo_M_laysSplit_0), (2, mo_M_laysSplit_2), (12, mo_M_laysSplit_12), (32, mo_M_laysSplit_32), (38, mo_M_laysSplit_38), (51, mo_M_laysSplit_51), (58, mo_M_laysSplit_58), (108, mo_M_laysSplit_108), (110, mo_M_laysSplit_110), (124, mo_M_laysSplit_124), (126, mo_M_laysSplit_126), (134, mo_M_laysSplit_134), (153, mo_M_laysSplit_153), (159, mo_M_laysSplit_159)]
def mo_M_share_0 : List mmO := [(0, .aload 0, 0, 0), (1, .getstatic 66, 11, 14), (4, .iconst (25), 0, 0), (6, .iload 1, 0, 0), (7, .imul, 0, 0), (8, .iaload, 0, 0), (9, .istore 3, 0, 0), (10, .iconst (0), 0, 0), (11, .istore 4, 0, 0), (13, .iconst (0), 0, 0), (14, .istore 5, 0, 0), (16, .iconst (1), 0, 0), (17, .istore 6, 0, 0), (19, .nop, 0, 0)]
def mo_M_share_19 : List mmO := [(19, .iload 6, 0, 0), (21, .iload 2, 0, 0), (22, .if_icmp .gt 0, 103, 0), (25, .iconst (0), 0, 0), (26, .istore 5, 0, 0), (28, .iload 4, 0, 0), (30, .istore 7, 0, 0), (32, .nop, 0, 0)]
def mo_M_share_32 : List mmO := [(32, .iload 7, 0, 0), (34, .aload 0, 0, 0), (35, .getfield 281, 11, 33), (38, .if_icmp .gt 0, 90, 0), (41, .aload 0, 0, 0), (42, .iload 4, 0, 0), (44, .iload 7, 0, 0), (46, .invokevirtual 310, 1157, 3), (49, .iload 3, 0, 0), (50, .if_icmp .gt 0, 80, 0), (53, .aload 0, 0, 0), (54, .getstatic 66, 11, 14), (57, .iconst (25), 0, 0), (59, .iload 1, 0, 0), (60, .iload 6, 0, 0), (62, .isub, 0, 0), (63, .imul, 0, 0), (64, .iload 7, 0, 0), (66, .iadd, 0, 0), (67, .iaload, 0, 0), (68, .iload 3, 0, 0), (69, .if_icmp .gt 0, 80, 0), (72, .iload 7, 0, 0), (74, .iload 4, 0, 0), (76, .isub, 0, 0), (77, .goto 0, 82, 0)]
def mo_M_share_80 : List mmO := [(80, .iload 5, 0, 0), (82, .nop, 0, 0)]
def mo_M_share_82 : List mmO := [(82, .istore 5, 0, 0), (84, .iinc 7 (1), 0, 0), (87, .goto 0, 32, 0)]
def mo_M_share_90 : List mmO := [(90, .iload 4, 0, 0), (92, .iload 5, 0, 0), (94, .iadd, 0, 0), (95, .istore 4, 0, 0), (97, .iinc 6 (1), 0, 0), (100, .goto 0, 19, 0)]
def mo_M_share_103 : List mmO := [(103, .iload 5, 0, 0), (105, .ireturn, 0, 0)]
def mb_M_share : List (Nat × List mmO) := [(0, mo_M_share_0), (19, mo_M_share_19), (32, mo_M_share_32), (80, mo_M_share_80), (82, mo_M_share_82), (90, mo_M_share_90), (103, mo_M_share_103)]
def mo_M_split_0 : List mmO := [(0, .aload 0, 0, 0), (1, .iconst (0), 0, 0), (2, .putfield 72, 11, 0), (5, .iload 1, 0, 0), (6, .i2l, 0, 0), (7, .bipush 1, 0, 0), (8, .bipush (4), 317, 0), (11, .invokestatic 89, 1102, 3), (14, .ifCond .eq 0, 28, 0), (17, .iload 2, 0, 0), (18, .i2l, 0, 0), (19, .bipush 0, 0, 0), (20, .iload 1, 0, 0), (21, .i2l, 0, 0), (22, .invokestatic 89, 1102, 3), (25, .ifCond .ne 0, 30, 0), (28, .nop, 0, 0)]
def mo_M_split_28 : List mmO := [(28, .iconst (-1), 0, 0), (29, .ireturn, 0, 0)]
def mo_M_split_30 : List mmO := [(30, .aload 0, 0, 0), (31, .aload 0, 0, 0), (32, .getfield 33, 11, 11), (35, .aload 0, 0, 0), (36, .getfield 36, 11, 12), (39, .invokevirtual 291, 1153, 3), (42, .aload 0, 0, 0), (43, .iload 1, 0, 0), (44, .invokevirtual 319, 1161, 2), (47, .iload 2, 0, 0), (48, .ifCond .ne 0, 63, 0), (51, .aload 0, 0, 0), (52, .getstatic 66, 11, 14), (55, .iconst (25), 0, 0), (57, .iload 1, 0, 0), (58, .imul, 0, 0), (59, .iaload, 0, 0), (60, .goto 0, 69, 0)]
def mo_M_split_63 : List mmO := [(63, .aload 0, 0, 0), (64, .iload 1, 0, 0), (65, .iload 2, 0, 0), (66, .invokevirtual 322, 1162, 3), (69, .nop, 0, 0)]
def mo_M_split_69 : List mmO := [(69, .ireturn, 0, 0)]
def mb_M_split : List (Nat × List mmO) := [(0, mo_M_split_0), (28, mo_M_split_28), (30, mo_M_split_30), (63, mo_M_split_63), (69, mo_M_split_69)]
def mo_M_saves_0 : List mmO := [(0, .aload 0, 0, 0), (1, .iconst (0), 0, 0), (2, .putfield 72, 11, 0), (5, .aload 0, 0, 0), (6, .iload 1, 0, 0), (7, .invokevirtual 264, 1127, 2), (10, .ifCond .ne 0, 17, 0), (13, .iconst (-100000), 325, 0), (16, .ireturn, 0, 0)]
def mo_M_saves_17 : List mmO := [(17, .aload 0, 0, 0), (18, .aload 0, 0, 0), (19, .getfield 33, 11, 11), (22, .aload 0, 0, 0), (23, .getfield 36, 11, 12), (26, .invokevirtual 313, 1158, 3), (29, .istore 2, 0, 0), (30, .aload 0, 0, 0), (31, .iload 1, 0, 0), (32, .putfield 63, 11, 34), (35, .aload 0, 0, 0), (36, .aload 0, 0, 0), (37, .getfield 33, 11, 11), (40, .aload 0, 0, 0), (41, .getfield 36, 11, 12), (44, .invokevirtual 313, 1158, 3), (47, .istore 3, 0, 0), (48, .aload 0, 0, 0), (49, .iconst (-1), 0, 0), (50, .putfield 63, 11, 34), (53, .iload 2, 0, 0), (54, .iload 3, 0, 0), (55, .isub, 0, 0), (56, .ireturn, 0, 0)]
def mb_M_saves : List (Nat × List mmO) := [(0, mo_M_saves_0), (17, mo_M_saves_17)]
def mo_M_would_0 : List mmO := [(0, .aload 0, 0, 0), (1, .iconst (0), 0, 0), (2, .putfield 72, 11, 0), (5, .aload 0, 0, 0), (6, .iload 1, 0, 0), (7, .iload 2, 0, 0), (8, .iload 3, 0, 0), (9, .iload 4, 0, 0), (11, .invokevirtual 227, 1130, 5), (14, .ifCond .ne 0, 21, 0), (17, .iconst (-100000), 325, 0), (20, .ireturn, 0, 0)]
def mo_M_would_21 : List mmO := [(21, .aload 0, 0, 0), (22, .aload 0, 0, 0), (23, .getfield 33, 11, 11), (26, .aload 0, 0, 0), (27, .getfield 36, 11, 12), (30, .invokevirtual 313, 1158, 3), (33, .istore 5, 0, 0), (35, .aload 0, 0, 0), (36, .iload 1, 0, 0), (37, .iload 2, 0, 0), (38, .iload 3, 0, 0), (39, .iload 4, 0, 0), (41, .invokevirtual 231, 1131, 5), (44, .aload 0, 0, 0), (45, .aload 0, 0, 0), (46, .getfield 33, 11, 11), (49, .aload 0, 0, 0), (50, .getfield 36, 11, 12), (53, .invokevirtual 313, 1158, 3), (56, .istore 6, 0, 0), (58, .aload 0, 0, 0), (59, .dup, 0, 0), (60, .getfield 193, 11, 8), (63, .iconst (1), 0, 0), (64, .isub, 0, 0), (65, .putfield 193, 11, 8), (68, .iload 6, 0, 0), (70, .iload 5, 0, 0), (72, .isub, 0, 0), (73, .ireturn, 0, 0)]
def mb_M_would : List (Nat × List mmO) := [(0, mo_M_would_0), (21, mo_M_would_21)]
def mo_M_moves__0 : List mmO := [(0, .aload 0, 0, 0), (1, .getstatic 27, 11, 5), (4, .iconst (4), 0, 0), (5, .iload 1, 0, 0), (6, .imul, 0, 0), (7, .iconst (1), 0, 0), (8, .iadd, 0, 0), (9, .iaload, 0, 0), (10, .istore 2, 0, 0), (11, .aload 0, 0, 0), (12, .getstatic 27, 11, 5), (15, .iconst (4), 0, 0), (16, .iload 1, 0, 0), (17, .imul, 0, 0), (18, .iconst (2), 0, 0), (19, .iadd, 0, 0), (20, .iaload, 0, 0), (21, .istore 3, 0, 0), (22, .aload 0, 0, 0), (23, .getstatic 27, 11, 5), (26, .iconst (4), 0, 0), (27, .iload 1, 0, 0), (28, .imul, 0, 0), (29, .iconst (3), 0, 0), (30, .iadd, 0, 0), (31, .iaload, 0, 0), (32, .istore 4, 0, 0), (34, .aload 0, 0, 0), (35, .getfield 326, 11, 45), (38, .iload 2, 0, 0), (39, .if_icmp .le 0, 64, 0), (42, .aload 0, 0, 0), (43, .dup, 0, 0), (44, .getfield 326, 11, 45), (47, .iconst (1), 0, 0), (48, .isub, 0, 0), (49, .putfield 326, 11, 45), (52, .aload 0, 0, 0), (53, .iconst (0), 0, 0), (54, .aload 0, 0, 0), (55, .getfield 326, 11, 45), (58, .invokevirtual 329, 1167, 3), (61, .goto 0, 218, 0)]
def mo_M_moves__64 : List mmO := [(64, .aload 0, 0, 0), (65, .getfield 332, 11, 46), (68, .iload 3, 0, 0), (69, .if_icmp .ge 0, 94, 0), (72, .aload 0, 0, 0), (73, .dup, 0, 0), (74, .getfield 332, 11, 46), (77, .iconst (1), 0, 0), (78, .iadd, 0, 0), (79, .putfield 332, 11, 46), (82, .aload 0, 0, 0), (83, .iconst (1), 0, 0), (84, .aload 0, 0, 0), (85, .getfield 332, 11, 46), (88, .invokevirtual 329, 1167, 3), (91, .goto 0, 218, 0)]
def mo_M_moves__94 : List mmO := [(94, .aload 0, 0, 0), (95, .getfield 326, 11, 45), (98, .iload 2, 0, 0), (99, .if_icmp .ge 0, 124, 0), (102, .aload 0, 0, 0), (103, .iconst (2), 0, 0), (104, .aload 0, 0, 0), (105, .getfield 326, 11, 45), (108, .invokevirtual 329, 1167, 3), (111, .aload 0, 0, 0), (112, .dup, 0, 0), (113, .getfield 326, 11, 45), (116, .iconst (1), 0, 0), (117, .iadd, 0, 0), (118, .putfield 326, 11, 45), (121, .goto 0, 218, 0)]
def mo_M_moves__124 : List mmO := [(124, .aload 0, 0, 0), (125, .getfield 332, 11, 46), (128, .iload 3, 0, 0), (129, .if_icmp .le 0, 154, 0), (132, .aload 0, 0, 0), (133, .iconst (3), 0, 0), (134, .aload 0, 0, 0), (135, .getfield 332, 11, 46), (138, .invokevirtual 329, 1167, 3), (141, .aload 0, 0, 0), (142, .dup, 0, 0), (143, .getfield 332, 11, 46), (146, .iconst (1), 0, 0), (147, .isub, 0, 0), (148, .putfield 332, 11, 46), (151, .goto 0, 218, 0)]
def mo_M_moves__154 : List mmO := [(154, .aload 0, 0, 0), (155, .getfield 335, 11, 47), (158, .iload 4, 0, 0), (160, .if_icmp .ge 0, 185, 0), (163, .aload 0, 0, 0), (164, .iconst (4), 0, 0), (165, .aload 0, 0, 0), (166, .getfield 335, 11, 47), (169, .invokevirtual 329, 1167, 3), (172, .aload 0, 0, 0), (173, .dup, 0, 0), (174, .getfield 335, 11, 47), (177, .iconst (1), 0, 0), (178, .iadd, 0, 0), (179, .putfield 335, 11, 47), (182, .goto 0, 218, 0)]
def mo_M_moves__185 : List mmO := [(185, .aload 0, 0, 0), (186, .getfield 335, 11, 47), (189, .iload 4, 0, 0), (191, .if_icmp .le 0, 216, 0), (194, .aload 0, 0, 0), (195, .dup, 0, 0), (196, .getfield 335, 11, 47), (199, .iconst (1), 0, 0), (200, .isub, 0, 0), (201, .putfield 335, 11, 47), (204, .aload 0, 0, 0), (205, .iconst (5), 0, 0), (206, .aload 0, 0, 0), (207, .getfield 335, 11, 47), (210, .invokevirtual 329, 1167, 3), (213, .goto 0, 218, 0)]
def mo_M_moves__216 : List mmO := [(216, .iconst (0), 0, 0), (217, .freturn, 0, 0)]
def mo_M_moves__218 : List mmO := [(218, .iconst (1), 0, 0), (219, .freturn, 0, 0)]
def mb_M_moves_ : List (Nat × List mmO) := [(0, mo_M_moves__0), (64, mo_M_moves__64), (94, mo_M_moves__94), (124, mo_M_moves__124), (154, mo_M_moves__154), (185, mo_M_moves__185), (216, mo_M_moves__216), (218, mo_M_moves__218)]
def mo_M_tells_0 : List mmO := [(0, .aload 0, 0, 0), (1, .iload 1, 0, 0), (2, .putfield 338, 11, 48), (5, .aload 0, 0, 0), (6, .iload 2, 0, 0), (7, .putfield 341, 11, 49), (10, .return_, 0, 0)]
def mb_M_tells : List (Nat × List mmO) := [(0, mo_M_tells_0)]
def mo_M_move_0 : List mmO := [(0, .aload 0, 0, 0), (1, .iconst (0), 0, 0), (2, .putfield 72, 11, 0), (5, .iload 1, 0, 0), (6, .ifCond .lt 0, 21, 0), (9, .iload 2, 0, 0), (10, .i2l, 0, 0), (11, .bipush 0, 0, 0), (12, .bipush (2), 237, 0), (15, .invokestatic 89, 1102, 3), (18, .ifCond .ne 0, 23, 0), (21, .nop, 0, 0)]
def mo_M_move_21 : List mmO := [(21, .iconst (-1), 0, 0), (22, .ireturn, 0, 0)]
def mo_M_move_23 : List mmO := [(23, .aload 0, 0, 0), (24, .aload 0, 0, 0), (25, .getfield 33, 11, 11), (28, .aload 0, 0, 0), (29, .getfield 36, 11, 12), (32, .invokevirtual 291, 1153, 3), (35, .aload 0, 0, 0), (36, .iconst (0), 0, 0), (37, .putfield 326, 11, 45), (40, .aload 0, 0, 0), (41, .iconst (-1), 0, 0), (42, .putfield 332, 11, 46), (45, .aload 0, 0, 0), (46, .iconst (0), 0, 0), (47, .putfield 335, 11, 47), (50, .iconst (0), 0, 0), (51, .istore 3, 0, 0), (52, .iconst (0), 0, 0), (53, .istore 4, 0, 0), (55, .nop, 0, 0)]
def mo_M_move_55 : List mmO := [(55, .iload 4, 0, 0), (57, .aload 0, 0, 0), (58, .getfield 281, 11, 33), (61, .if_icmp .ge 0, 126, 0), (64, .nop, 0, 0)]
def mo_M_move_64 : List mmO := [(64, .aload 0, 0, 0), (65, .aload 0, 0, 0), (66, .getstatic 60, 11, 13), (69, .iload 4, 0, 0), (71, .iaload, 0, 0), (72, .invokevirtual 344, 1166, 2), (75, .ifCond .eq 0, 120, 0), (78, .iload 3, 0, 0), (79, .iload 1, 0, 0), (80, .if_icmp .ne 0, 114, 0), (83, .iload 2, 0, 0), (84, .ifCond .ne 0, 94, 0), (87, .aload 0, 0, 0), (88, .getfield 338, 11, 48), (91, .goto 0, 113, 0)]
def mo_M_move_94 : List mmO := [(94, .iload 2, 0, 0), (95, .iconst (1), 0, 0), (96, .if_icmp .ne 0, 106, 0), (99, .aload 0, 0, 0), (100, .getfield 341, 11, 49), (103, .goto 0, 113, 0)]
def mo_M_move_106 : List mmO := [(106, .aload 0, 0, 0), (107, .getstatic 60, 11, 13), (110, .iload 4, 0, 0), (112, .iaload, 0, 0), (113, .nop, 0, 0)]
def mo_M_move_113 : List mmO := [(113, .ireturn, 0, 0)]
def mo_M_move_114 : List mmO := [(114, .iinc 3 (1), 0, 0), (117, .goto 0, 64, 0)]
def mo_M_move_120 : List mmO := [(120, .iinc 4 (1), 0, 0), (123, .goto 0, 55, 0)]
def mo_M_move_126 : List mmO := [(126, .iconst (-1), 0, 0), (127, .ireturn, 0, 0)]
def mb_M_move : List (Nat × List mmO) := [(0, mo_M_move_0), (21, mo_M_move_21), (23, mo_M_move_23), (55, mo_M_move_55), (64, mo_M_move_64), (94, mo_M_move_94), (106, mo_M_move_106), (113, mo_M_move_113), (114, mo_M_move_114), (120, mo_M_move_120), (126, mo_M_move_126)]
def mo_M_walk_0 : List mmO := [(0, .aload 0, 0, 0), (1, .iconst (0), 0, 0), (2, .putfield 72, 11, 0), (5, .iload 1, 0, 0), (6, .i2l, 0, 0), (7, .bipush 1, 0, 0), (8, .bipush (400), 347, 0), (11, .invokestatic 89, 1102, 3), (14, .ifCond .ne 0, 19, 0), (17, .iconst (-1), 0, 0), (18, .ireturn, 0, 0)]
def mo_M_walk_19 : List mmO := [(19, .aload 0, 0, 0), (20, .aload 0, 0, 0), (21, .getfield 33, 11, 11), (24, .aload 0, 0, 0), (25, .getfield 36, 11, 12), (28, .invokevirtual 291, 1153, 3), (31, .aload 0, 0, 0), (32, .getfield 202, 11, 42), (35, .aload 0, 0, 0), (36, .getfield 281, 11, 33), (39, .if_icmp .ge 0, 49, 0), (42, .aload 0, 0, 0), (43, .getfield 202, 11, 42), (46, .goto 0, 53, 0)]
def mo_M_walk_49 : List mmO := [(49, .aload 0, 0, 0), (50, .getfield 281, 11, 33), (53, .nop, 0, 0)]
def mo_M_walk_53 : List mmO := [(53, .istore 2, 0, 0), (54, .iconst (0), 0, 0), (55, .istore 3, 0, 0), (56, .aload 0, 0, 0), (57, .aload 0, 0, 0), (58, .getfield 196, 11, 39), (61, .putfield 326, 11, 45), (64, .aload 0, 0, 0), (65, .aload 0, 0, 0), (66, .getfield 69, 11, 40), (69, .putfield 332, 11, 46), (72, .aload 0, 0, 0), (73, .aload 0, 0, 0), (74, .getfield 199, 11, 41), (77, .putfield 335, 11, 47), (80, .iconst (1), 0, 0), (81, .istore 4, 0, 0), (83, .nop, 0, 0)]
def mo_M_walk_83 : List mmO := [(83, .iload 4, 0, 0), (85, .ifCond .eq 0, 253, 0), (88, .iload 2, 0, 0), (89, .aload 0, 0, 0), (90, .getfield 281, 11, 33), (93, .if_icmp .ge 0, 253, 0), (96, .aload 0, 0, 0), (97, .getfield 326, 11, 45), (100, .aload 0, 0, 0), (101, .getstatic 27, 11, 5), (104, .iconst (4), 0, 0), (105, .aload 0, 0, 0), (106, .getstatic 60, 11, 13), (109, .iload 2, 0, 0), (110, .iaload, 0, 0), (111, .imul, 0, 0), (112, .iconst (1), 0, 0), (113, .iadd, 0, 0), (114, .iaload, 0, 0), (115, .if_icmp .ne 0, 166, 0), (118, .aload 0, 0, 0), (119, .getfield 332, 11, 46), (122, .aload 0, 0, 0), (123, .getstatic 27, 11, 5), (126, .iconst (4), 0, 0), (127, .aload 0, 0, 0), (128, .getstatic 60, 11, 13), (131, .iload 2, 0, 0), (132, .iaload, 0, 0), (133, .imul, 0, 0), (134, .iconst (2), 0, 0), (135, .iadd, 0, 0), (136, .iaload, 0, 0), (137, .if_icmp .ne 0, 166, 0), (140, .aload 0, 0, 0), (141, .getfield 335, 11, 47), (144, .aload 0, 0, 0), (145, .getstatic 27, 11, 5), (148, .iconst (4), 0, 0), (149, .aload 0, 0, 0), (150, .getstatic 60, 11, 13), (153, .iload 2, 0, 0), (154, .iaload, 0, 0), (155, .imul, 0, 0), (156, .iconst (3), 0, 0), (157, .iadd, 0, 0), (158, .iaload, 0, 0), (159, .if_icmp .ne 0, 166, 0), (162, .iconst (1), 0, 0), (163, .goto 0, 167, 0)]
def mo_M_walk_166 : List mmO := [(166, .iconst (0), 0, 0), (167, .nop, 0, 0)]
def mo_M_walk_167 : List mmO := [(167, .istore 5, 0, 0), (169, .iload 5, 0, 0), (171, .ifCond .eq 0, 180, 0), (174, .iinc 2 (1), 0, 0), (177, .goto 0, 250, 0)]
def mo_M_walk_180 : List mmO := [(180, .iload 3, 0, 0), (181, .iload 1, 0, 0), (182, .if_icmp .ge 0, 247, 0), (185, .aload 0, 0, 0), (186, .aload 0, 0, 0), (187, .getstatic 60, 11, 13), (190, .iload 2, 0, 0), (191, .iaload, 0, 0), (192, .invokevirtual 344, 1166, 2), (195, .istore 4, 0, 0), (197, .iinc 3 (1), 0, 0), (200, .aload 0, 0, 0), (201, .dup, 0, 0), (202, .getfield 208, 11, 44), (205, .aload 0, 0, 0), (206, .getfield 338, 11, 48), (209, .iconst (3), 0, 0), (210, .if_icmp .le 0, 217, 0), (213, .iconst (1), 0, 0), (214, .goto 0, 218, 0)]
def mo_M_walk_217 : List mmO := [(217, .iconst (0), 0, 0), (218, .nop, 0, 0)]
def mo_M_walk_218 : List mmO := [(218, .iadd, 0, 0), (219, .putfield 208, 11, 44), (222, .aload 0, 0, 0), (223, .dup, 0, 0), (224, .getfield 205, 11, 43), (227, .aload 0, 0, 0), (228, .getfield 338, 11, 48), (231, .iconst (4), 0, 0), (232, .if_icmp .ge 0, 239, 0), (235, .iconst (1), 0, 0), (236, .goto 0, 240, 0)]
def mo_M_walk_239 : List mmO := [(239, .iconst (0), 0, 0), (240, .nop, 0, 0)]
def mo_M_walk_240 : List mmO := [(240, .iadd, 0, 0), (241, .putfield 205, 11, 43), (244, .goto 0, 250, 0)]
def mo_M_walk_247 : List mmO := [(247, .iconst (0), 0, 0), (248, .istore 4, 0, 0), (250, .nop, 0, 0)]
def mo_M_walk_250 : List mmO := [(250, .goto 0, 83, 0)]
def mo_M_walk_253 : List mmO := [(253, .aload 0, 0, 0), (254, .iload 2, 0, 0), (255, .putfield 202, 11, 42), (258, .aload 0, 0, 0), (259, .aload 0, 0, 0), (260, .getfield 326, 11, 45), (263, .putfield 196, 11, 39), (266, .aload 0, 0, 0), (267, .aload 0, 0, 0), (268, .getfield 332, 11, 46), (271, .putfield 69, 11, 40), (274, .aload 0, 0, 0), (275, .aload 0, 0, 0), (276, .getfield 335, 11, 47), (279, .putfield 199, 11, 41), (282, .iload 3, 0, 0), (283, .ireturn, 0, 0)]
def mb_M_walk : List (Nat × List mmO) := [(0, mo_M_walk_0), (19, mo_M_walk_19), (49, mo_M_walk_49), (53, mo_M_walk_53), (83, mo_M_walk_83), (166, mo_M_walk_166), (167, mo_M_walk_167), (180, mo_M_walk_180), (217, mo_M_walk_217), (218, mo_M_walk_218), (239, mo_M_walk_239), (240, mo_M_walk_240), (247, mo_M_walk_247), (250, mo_M_walk_250), (253, mo_M_walk_253)]
def mo_M_home_0 : List mmO := [(0, .aload 0, 0, 0), (1, .iconst (0), 0, 0), (2, .putfield 72, 11, 0), (5, .aload 0, 0, 0), (6, .getfield 69, 11, 40), (9, .aload 0, 0, 0), (10, .getfield 196, 11, 39), (13, .isub, 0, 0), (14, .iconst (1), 0, 0), (15, .iadd, 0, 0), (16, .iconst (2), 0, 0), (17, .aload 0, 0, 0), (18, .getfield 196, 11, 39), (21, .imul, 0, 0), (22, .iadd, 0, 0), (23, .istore 1, 0, 0), (24, .aload 0, 0, 0), (25, .getfield 199, 11, 41), (28, .istore 2, 0, 0), (29, .aload 0, 0, 0), (30, .dup, 0, 0), (31, .getfield 205, 11, 43), (34, .iload 1, 0, 0), (35, .iadd, 0, 0), (36, .putfield 205, 11, 43), (39, .aload 0, 0, 0), (40, .dup, 0, 0), (41, .getfield 208, 11, 44), (44, .iload 2, 0, 0), (45, .iadd, 0, 0), (46, .putfield 208, 11, 44), (49, .aload 0, 0, 0), (50, .iconst (0), 0, 0), (51, .putfield 196, 11, 39), (54, .aload 0, 0, 0), (55, .iconst (-1), 0, 0), (56, .putfield 69, 11, 40), (59, .aload 0, 0, 0), (60, .iconst (0), 0, 0), (61, .putfield 199, 11, 41), (64, .aload 0, 0, 0), (65, .iconst (0), 0, 0), (66, .putfield 202, 11, 42), (69, .iload 1, 0, 0), (70, .iload 2, 0, 0), (71, .iadd, 0, 0), (72, .ireturn, 0, 0)]
def mb_M_home : List (Nat × List mmO) := [(0, mo_M_home_0)]
def mo_M_laysWindow_0 : List mmO := [(0, .aload 0, 0, 0), (1, .aload 0, 0, 0), (2, .getfield 196, 11, 39), (5, .aload 0, 0, 0), (6, .getfield 69, 11, 40), (9, .aload 0, 0, 0), (10, .getfield 199, 11, 41), (13, .invokevirtual 256, 1140, 4), (16, .return_, 0, 0)]
def mb_M_laysWindow : List (Nat × List mmO) := [(0, mo_M_laysWindow_0)]
def mo_M_window_0 : List mmO := [(0, .aload 0, 0, 0), (1, .iconst (0), 0, 0), (2, .putfield 72, 11, 0), (5, .aload 0, 0, 0), (6, .aload 0, 0, 0), (7, .getfield 33, 11, 11), (10, .aload 0, 0, 0), (11, .getfield 36, 11, 12), (14, .invokevirtual 291, 1153, 3), (17, .aload 0, 0, 0), (18, .getfield 202, 11, 42), (21, .aload 0, 0, 0), (22, .getfield 281, 11, 33), (25, .if_icmp .ge 0, 35, 0), (28, .aload 0, 0, 0), (29, .getfield 202, 11, 42), (32, .goto 0, 39, 0)]
def mo_M_window_35 : List mmO := [(35, .aload 0, 0, 0), (36, .getfield 281, 11, 33), (39, .nop, 0, 0)]
def mo_M_window_39 : List mmO := [(39, .istore 2, 0, 0), (40, .iload 1, 0, 0), (41, .lookupswitch 0 #[(0, 88), (1, 93), (2, 98), (3, 103), (4, 105), (5, 124), (6, 129), (7, 134)], 145, 0)]
def mo_M_window_88 : List mmO := [(88, .aload 0, 0, 0), (89, .getfield 196, 11, 39), (92, .ireturn, 0, 0)]
def mo_M_window_93 : List mmO := [(93, .aload 0, 0, 0), (94, .getfield 69, 11, 40), (97, .ireturn, 0, 0)]
def mo_M_window_98 : List mmO := [(98, .aload 0, 0, 0), (99, .getfield 199, 11, 41), (102, .ireturn, 0, 0)]
def mo_M_window_103 : List mmO := [(103, .iload 2, 0, 0), (104, .ireturn, 0, 0)]
def mo_M_window_105 : List mmO := [(105, .iload 2, 0, 0), (106, .aload 0, 0, 0), (107, .getfield 281, 11, 33), (110, .if_icmp .ge 0, 122, 0), (113, .aload 0, 0, 0), (114, .getstatic 60, 11, 13), (117, .iload 2, 0, 0), (118, .iaload, 0, 0), (119, .goto 0, 123, 0)]
def mo_M_window_122 : List mmO := [(122, .iconst (-1), 0, 0), (123, .nop, 0, 0)]
def mo_M_window_123 : List mmO := [(123, .ireturn, 0, 0)]
def mo_M_window_124 : List mmO := [(124, .aload 0, 0, 0), (125, .getfield 205, 11, 43), (128, .ireturn, 0, 0)]
def mo_M_window_129 : List mmO := [(129, .aload 0, 0, 0), (130, .getfield 208, 11, 44), (133, .ireturn, 0, 0)]
def mo_M_window_134 : List mmO := [(134, .aload 0, 0, 0), (135, .invokevirtual 349, 1171, 1), (138, .aload 0, 0, 0), (139, .iconst (1), 0, 0), (140, .invokevirtual 260, 1143, 2), (143, .l2i, 0, 0), (144, .ireturn, 0, 0)]
def mo_M_window_145 : List mmO := [(145, .iconst (-1), 0, 0), (146, .ireturn, 0, 0)]
def mb_M_window : List (Nat × List mmO) := [(0, mo_M_window_0), (35, mo_M_window_35), (39, mo_M_window_39), (88, mo_M_window_88), (93, mo_M_window_93), (98, mo_M_window_98), (103, mo_M_window_103), (105, mo_M_window_105), (122, mo_M_window_122), (123, mo_M_window_123), (124, mo_M_window_124), (129, mo_M_window_129), (134, mo_M_window_134), (145, mo_M_window_145)]
def mo_M_holds_0 : List mmO := [(0, .aload 0, 0, 0), (1, .iconst (0), 0, 0), (2, .putfield 72, 11, 0), (5, .iload 1, 0, 0), (6, .i2l, 0, 0), (7, .bipush 0, 0, 0), (8, .bipush (63), 217, 0), (11, .invokestatic 89, 1102, 3), (14, .ifCond .ne 0, 19, 0), (17, .iconst (-1), 0, 0), (18, .ireturn, 0, 0)]
def mo_M_holds_19 : List mmO := [(19, .aload 0, 0, 0), (20, .invokevirtual 349, 1171, 1), (23, .aload 0, 0, 0), (24, .getstatic 54, 11, 11), (27, .iload 1, 0, 0), (28, .iaload, 0, 0), (29, .ireturn, 0, 0)]
def mb_M_holds : List (Nat × List mmO) := [(0, mo_M_holds_0), (19, mo_M_holds_19)]
def mo_M_tells__0 : List mmO := [(0, .aload 0, 0, 0), (1, .iconst (0), 0, 0), (2, .putfield 72, 11, 0), (5, .iload 1, 0, 0), (6, .i2l, 0, 0), (7, .bipush 0, 0, 0), (8, .bipush (7), 223, 0), (11, .invokestatic 89, 1102, 3), (14, .ifCond .eq 0, 24, 0), (17, .iload 1, 0, 0), (18, .invokestatic 284, 1150, 1), (21, .ifCond .ne 0, 28, 0), (24, .nop, 0, 0)]
def mo_M_tells__24 : List mmO := [(24, .bipush (-1), 225, 0), (27, .lreturn, 0, 0)]
def mo_M_tells__28 : List mmO := [(28, .aload 0, 0, 0), (29, .invokevirtual 349, 1171, 1), (32, .aload 0, 0, 0), (33, .iload 1, 0, 0), (34, .invokevirtual 260, 1143, 2), (37, .lreturn, 0, 0)]
def mb_M_tells_ : List (Nat × List mmO) := [(0, mo_M_tells__0), (24, mo_M_tells__24), (28, mo_M_tells__28)]
def mo_M_isUndone_0 : List mmO := [(0, .aload 0, 0, 0), (1, .getstatic 27, 11, 5), (4, .iconst (4), 0, 0), (5, .iload 1, 0, 0), (6, .imul, 0, 0), (7, .iaload, 0, 0), (8, .invokestatic 284, 1150, 1), (11, .ifCond .ne 0, 18, 0), (14, .iconst (1), 0, 0), (15, .goto 0, 19, 0)]
def mo_M_isUndone_18 : List mmO := [(18, .iconst (0), 0, 0), (19, .nop, 0, 0)]
def mo_M_isUndone_19 : List mmO := [(19, .freturn, 0, 0)]
def mb_M_isUndone : List (Nat × List mmO) := [(0, mo_M_isUndone_0), (18, mo_M_isUndone_18), (19, mo_M_isUndone_19)]
def mo_M_undoneWeight_0 : List mmO := [(0, .aload 0, 0, 0), (1, .getstatic 27, 11, 5), (4, .iconst (4), 0, 0), (5, .iload 1, 0, 0), (6, .imul, 0, 0), (7, .iconst (3), 0, 0), (8, .iadd, 0, 0), (9, .iaload, 0, 0), (10, .i2l, 0, 0), (11, .bipush (64), 251, 0), (14, .lmul, 0, 0), (15, .aload 0, 0, 0), (16, .getstatic 27, 11, 5), (19, .iconst (4), 0, 0), (20, .iload 1, 0, 0), (21, .imul, 0, 0), (22, .iconst (1), 0, 0), (23, .iadd, 0, 0), (24, .iaload, 0, 0), (25, .iload 2, 0, 0), (26, .idiv, 0, 0), (27, .i2l, 0, 0), (28, .ladd, 0, 0), (29, .bipush (64), 251, 0), (32, .lmul, 0, 0), (33, .aload 0, 0, 0), (34, .getstatic 27, 11, 5), (37, .iconst (4), 0, 0), (38, .iload 1, 0, 0), (39, .imul, 0, 0), (40, .iconst (2), 0, 0), (41, .iadd, 0, 0), (42, .iaload, 0, 0), (43, .i2l, 0, 0), (44, .ladd, 0, 0), (45, .bipush (64), 251, 0), (48, .lmul, 0, 0), (49, .iload 1, 0, 0), (50, .i2l, 0, 0), (51, .ladd, 0, 0), (52, .lreturn, 0, 0)]
def mb_M_undoneWeight : List (Nat × List mmO) := [(0, mo_M_undoneWeight_0)]
def mo_M_laysUndone_0 : List mmO := [(0, .aload 0, 0, 0), (1, .iconst (0), 0, 0), (2, .putfield 281, 11, 33), (5, .bipush (-1), 225, 0), (8, .lstore 2, 0, 0), (9, .iconst (0), 0, 0), (10, .istore 4, 0, 0), (12, .nop, 0, 0)]
def mo_M_laysUndone_12 : List mmO := [(12, .iload 4, 0, 0), (14, .ifCond .lt 0, 140, 0), (17, .iconst (-1), 0, 0), (18, .istore 4, 0, 0), (20, .iconst (0), 0, 0), (21, .istore 5, 0, 0), (23, .nop, 0, 0)]
def mo_M_laysUndone_23 : List mmO := [(23, .iload 5, 0, 0), (25, .aload 0, 0, 0), (26, .getfield 193, 11, 8), (29, .if_icmp .ge 0, 103, 0), (32, .aload 0, 0, 0), (33, .iload 5, 0, 0), (35, .invokevirtual 352, 1175, 2), (38, .ifCond .eq 0, 57, 0), (41, .aload 0, 0, 0), (42, .iload 5, 0, 0), (44, .iload 1, 0, 0), (45, .invokevirtual 355, 1176, 3), (48, .lload 2, 0, 0), (49, .lcmp, 0, 0), (50, .ifCond .le 0, 57, 0), (53, .iconst (1), 0, 0), (54, .goto 0, 58, 0)]
def mo_M_laysUndone_57 : List mmO := [(57, .iconst (0), 0, 0), (58, .nop, 0, 0)]
def mo_M_laysUndone_58 : List mmO := [(58, .istore 6, 0, 0), (60, .iload 6, 0, 0), (62, .ifCond .eq 0, 93, 0), (65, .iload 4, 0, 0), (67, .ifCond .lt 0, 88, 0), (70, .aload 0, 0, 0), (71, .iload 5, 0, 0), (73, .iload 1, 0, 0), (74, .invokevirtual 355, 1176, 3), (77, .aload 0, 0, 0), (78, .iload 4, 0, 0), (80, .iload 1, 0, 0), (81, .invokevirtual 355, 1176, 3), (84, .lcmp, 0, 0), (85, .ifCond .ge 0, 93, 0), (88, .nop, 0, 0)]
def mo_M_laysUndone_88 : List mmO := [(88, .iload 5, 0, 0), (90, .goto 0, 95, 0)]
def mo_M_laysUndone_93 : List mmO := [(93, .iload 4, 0, 0), (95, .nop, 0, 0)]
def mo_M_laysUndone_95 : List mmO := [(95, .istore 4, 0, 0), (97, .iinc 5 (1), 0, 0), (100, .goto 0, 23, 0)]
def mo_M_laysUndone_103 : List mmO := [(103, .iload 4, 0, 0), (105, .ifCond .lt 0, 12, 0), (108, .aload 0, 0, 0), (109, .iload 4, 0, 0), (111, .iload 1, 0, 0), (112, .invokevirtual 355, 1176, 3), (115, .lstore 2, 0, 0), (116, .aload 0, 0, 0), (117, .getstatic 60, 11, 13), (120, .aload 0, 0, 0), (121, .getfield 281, 11, 33), (124, .iload 4, 0, 0), (126, .iastore, 0, 0), (127, .aload 0, 0, 0), (128, .dup, 0, 0), (129, .getfield 281, 11, 33), (132, .iconst (1), 0, 0), (133, .iadd, 0, 0), (134, .putfield 281, 11, 33), (137, .goto 0, 12, 0)]
def mo_M_laysUndone_140 : List mmO := [(140, .return_, 0, 0)]
def mb_M_laysUndone : List (Nat × List mmO) := [(0, mo_M_laysUndone_0), (12, mo_M_laysUndone_12), (23, mo_M_laysUndone_23), (57, mo_M_laysUndone_57), (58, mo_M_laysUndone_58), (88, mo_M_laysUndone_88), (93, mo_M_laysUndone_93), (95, mo_M_laysUndone_95), (103, mo_M_laysUndone_103), (140, mo_M_laysUndone_140)]
def mo_M_undone_0 : List mmO := [(0, .aload 0, 0, 0), (1, .iconst (0), 0, 0), (2, .putfield 72, 11, 0), (5, .iload 1, 0, 0), (6, .i2l, 0, 0), (7, .bipush 1, 0, 0), (8, .bipush (60), 239, 0), (11, .invokestatic 89, 1102, 3), (14, .ifCond .eq 0, 22, 0), (17, .iload 2, 0, 0), (18, .iconst (-1), 0, 0), (19, .if_icmp .ge 0, 24, 0), (22, .nop, 0, 0)]
def mo_M_undone_22 : List mmO := [(22, .iconst (-1), 0, 0), (23, .ireturn, 0, 0)]
def mo_M_undone_24 : List mmO := [(24, .aload 0, 0, 0), (25, .iload 1, 0, 0), (26, .invokevirtual 359, 1177, 2), (29, .iload 2, 0, 0), (30, .iconst (-1), 0, 0), (31, .if_icmp .ne 0, 41, 0), (34, .aload 0, 0, 0), (35, .getfield 281, 11, 33), (38, .goto 0, 59, 0)]
def mo_M_undone_41 : List mmO := [(41, .iload 2, 0, 0), (42, .aload 0, 0, 0), (43, .getfield 281, 11, 33), (46, .if_icmp .ge 0, 58, 0), (49, .aload 0, 0, 0), (50, .getstatic 60, 11, 13), (53, .iload 2, 0, 0), (54, .iaload, 0, 0), (55, .goto 0, 59, 0)]
def mo_M_undone_58 : List mmO := [(58, .iconst (-1), 0, 0), (59, .nop, 0, 0)]
def mo_M_undone_59 : List mmO := [(59, .ireturn, 0, 0)]
def mb_M_undone : List (Nat × List mmO) := [(0, mo_M_undone_0), (22, mo_M_undone_22), (24, mo_M_undone_24), (41, mo_M_undone_41), (58, mo_M_undone_58), (59, mo_M_undone_59)]
def mo_M_adds_0 : List mmO := [(0, .aload 0, 0, 0), (1, .iconst (0), 0, 0), (2, .putfield 72, 11, 0), (5, .iload 1, 0, 0), (6, .i2l, 0, 0), (7, .bipush 1, 0, 0), (8, .bipush (60), 239, 0), (11, .invokestatic 89, 1102, 3), (14, .ifCond .eq 0, 29, 0), (17, .iload 2, 0, 0), (18, .i2l, 0, 0), (19, .bipush 0, 0, 0), (20, .bipush (2), 237, 0), (23, .invokestatic 89, 1102, 3), (26, .ifCond .ne 0, 31, 0), (29, .nop, 0, 0)]
def mo_M_adds_29 : List mmO := [(29, .iconst (-1), 0, 0), (30, .ireturn, 0, 0)]
def mo_M_adds_31 : List mmO := [(31, .aload 0, 0, 0), (32, .iload 1, 0, 0), (33, .invokevirtual 359, 1177, 2), (36, .iconst (0), 0, 0), (37, .istore 3, 0, 0), (38, .iconst (0), 0, 0), (39, .istore 4, 0, 0), (41, .iconst (0), 0, 0), (42, .istore 5, 0, 0), (44, .iconst (0), 0, 0), (45, .istore 6, 0, 0), (47, .iconst (0), 0, 0), (48, .istore 7, 0, 0), (50, .iconst (0), 0, 0), (51, .istore 8, 0, 0), (53, .nop, 0, 0)]
def mo_M_adds_53 : List mmO := [(53, .iload 8, 0, 0), (55, .aload 0, 0, 0), (56, .getfield 281, 11, 33), (59, .if_icmp .ge 0, 294, 0), (62, .iconst (4), 0, 0), (63, .aload 0, 0, 0), (64, .getstatic 60, 11, 13), (67, .iload 8, 0, 0), (69, .iaload, 0, 0), (70, .imul, 0, 0), (71, .istore 9, 0, 0), (73, .iload 8, 0, 0), (75, .ifCond .le 0, 92, 0), (78, .iconst (4), 0, 0), (79, .aload 0, 0, 0), (80, .getstatic 60, 11, 13), (83, .iload 8, 0, 0), (85, .iconst (1), 0, 0), (86, .isub, 0, 0), (87, .iaload, 0, 0), (88, .imul, 0, 0), (89, .goto 0, 94, 0)]
def mo_M_adds_92 : List mmO := [(92, .iload 9, 0, 0), (94, .nop, 0, 0)]
def mo_M_adds_94 : List mmO := [(94, .istore 10, 0, 0), (96, .aload 0, 0, 0), (97, .getstatic 27, 11, 5), (100, .iload 9, 0, 0), (102, .iconst (1), 0, 0), (103, .iadd, 0, 0), (104, .iaload, 0, 0), (105, .istore 11, 0, 0), (107, .aload 0, 0, 0), (108, .getstatic 27, 11, 5), (111, .iload 9, 0, 0), (113, .iconst (2), 0, 0), (114, .iadd, 0, 0), (115, .iaload, 0, 0), (116, .istore 12, 0, 0), (118, .iload 8, 0, 0), (120, .ifCond .eq 0, 162, 0), (123, .aload 0, 0, 0), (124, .getstatic 27, 11, 5), (127, .iload 10, 0, 0), (129, .iconst (3), 0, 0), (130, .iadd, 0, 0), (131, .iaload, 0, 0), (132, .aload 0, 0, 0), (133, .getstatic 27, 11, 5), (136, .iload 9, 0, 0), (138, .iconst (3), 0, 0), (139, .iadd, 0, 0), (140, .iaload, 0, 0), (141, .if_icmp .ne 0, 162, 0), (144, .aload 0, 0, 0), (145, .getstatic 27, 11, 5), (148, .iload 10, 0, 0), (150, .iconst (1), 0, 0), (151, .iadd, 0, 0), (152, .iaload, 0, 0), (153, .iload 1, 0, 0), (154, .idiv, 0, 0), (155, .iload 11, 0, 0), (157, .iload 1, 0, 0), (158, .idiv, 0, 0), (159, .if_icmp .eq 0, 203, 0), (162, .nop, 0, 0)]
def mo_M_adds_162 : List mmO := [(162, .iinc 4 (1), 0, 0), (165, .iload 11, 0, 0), (167, .iload 1, 0, 0), (168, .idiv, 0, 0), (169, .iload 1, 0, 0), (170, .imul, 0, 0), (171, .iload 1, 0, 0), (172, .iadd, 0, 0), (173, .aload 0, 0, 0), (174, .getfield 13, 11, 3), (177, .if_icmp .ge 0, 191, 0), (180, .iload 11, 0, 0), (182, .iload 1, 0, 0), (183, .idiv, 0, 0), (184, .iload 1, 0, 0), (185, .imul, 0, 0), (186, .iload 1, 0, 0), (187, .iadd, 0, 0), (188, .goto 0, 195, 0)]
def mo_M_adds_191 : List mmO := [(191, .aload 0, 0, 0), (192, .getfield 13, 11, 3), (195, .nop, 0, 0)]
def mo_M_adds_195 : List mmO := [(195, .istore 7, 0, 0), (197, .iload 7, 0, 0), (199, .iconst (1), 0, 0), (200, .isub, 0, 0), (201, .istore 6, 0, 0), (203, .nop, 0, 0)]
def mo_M_adds_203 : List mmO := [(203, .iload 12, 0, 0), (205, .iload 7, 0, 0), (207, .if_icmp .ge 0, 220, 0), (210, .iload 12, 0, 0), (212, .iload 11, 0, 0), (214, .isub, 0, 0), (215, .iconst (1), 0, 0), (216, .iadd, 0, 0), (217, .goto 0, 225, 0)]
def mo_M_adds_220 : List mmO := [(220, .iload 7, 0, 0), (222, .iload 11, 0, 0), (224, .isub, 0, 0), (225, .nop, 0, 0)]
def mo_M_adds_225 : List mmO := [(225, .istore 13, 0, 0), (227, .iload 12, 0, 0), (229, .iload 6, 0, 0), (231, .if_icmp .le 0, 242, 0), (234, .iload 12, 0, 0), (236, .iload 6, 0, 0), (238, .isub, 0, 0), (239, .goto 0, 243, 0)]
def mo_M_adds_242 : List mmO := [(242, .iconst (0), 0, 0), (243, .nop, 0, 0)]
def mo_M_adds_243 : List mmO := [(243, .istore 14, 0, 0), (245, .iload 6, 0, 0), (247, .iload 14, 0, 0), (249, .iadd, 0, 0), (250, .istore 6, 0, 0), (252, .iload 3, 0, 0), (253, .iload 13, 0, 0), (255, .iload 14, 0, 0), (257, .iadd, 0, 0), (258, .iadd, 0, 0), (259, .istore 3, 0, 0), (260, .iload 6, 0, 0), (262, .iload 7, 0, 0), (264, .isub, 0, 0), (265, .iconst (1), 0, 0), (266, .iadd, 0, 0), (267, .iload 13, 0, 0), (269, .iadd, 0, 0), (270, .istore 15, 0, 0), (272, .iload 15, 0, 0), (274, .iload 5, 0, 0), (276, .if_icmp .le 0, 284, 0), (279, .iload 15, 0, 0), (281, .goto 0, 286, 0)]
def mo_M_adds_284 : List mmO := [(284, .iload 5, 0, 0), (286, .nop, 0, 0)]
def mo_M_adds_286 : List mmO := [(286, .istore 5, 0, 0), (288, .iinc 8 (1), 0, 0), (291, .goto 0, 53, 0)]
def mo_M_adds_294 : List mmO := [(294, .iload 2, 0, 0), (295, .ifCond .ne 0, 302, 0), (298, .iload 3, 0, 0), (299, .goto 0, 314, 0)]
def mo_M_adds_302 : List mmO := [(302, .iload 2, 0, 0), (303, .iconst (1), 0, 0), (304, .if_icmp .ne 0, 312, 0), (307, .iload 4, 0, 0), (309, .goto 0, 314, 0)]
def mo_M_adds_312 : List mmO := [(312, .iload 5, 0, 0), (314, .nop, 0, 0)]
def mo_M_adds_314 : List mmO := [(314, .ireturn, 0, 0)]
def mb_M_adds : List (Nat × List mmO) := [(0, mo_M_adds_0), (29, mo_M_adds_29), (31, mo_M_adds_31), (53, mo_M_adds_53), (92, mo_M_adds_92), (94, mo_M_adds_94), (162, mo_M_adds_162), (191, mo_M_adds_191), (195, mo_M_adds_195), (203, mo_M_adds_203), (220, mo_M_adds_220), (225, mo_M_adds_225), (242, mo_M_adds_242), (243, mo_M_adds_243), (284, mo_M_adds_284), (286, mo_M_adds_286), (294, mo_M_adds_294), (302, mo_M_adds_302), (312, mo_M_adds_312), (314, mo_M_adds_314)]
def mo_M_having_0 : List mmO := [(0, .iconst (0), 0, 0), (1, .istore 2, 0, 0), (2, .iconst (0), 0, 0), (3, .istore 3, 0, 0), (4, .nop, 0, 0)]
def mo_M_having_4 : List mmO := [(4, .iload 3, 0, 0), (5, .aload 0, 0, 0), (6, .getfield 193, 11, 8), (9, .if_icmp .ge 0, 56, 0), (12, .iload 2, 0, 0), (13, .iload 1, 0, 0), (14, .i2l, 0, 0), (15, .aload 0, 0, 0), (16, .getstatic 27, 11, 5), (19, .iconst (4), 0, 0), (20, .iload 3, 0, 0), (21, .imul, 0, 0), (22, .iconst (1), 0, 0), (23, .iadd, 0, 0), (24, .iaload, 0, 0), (25, .i2l, 0, 0), (26, .aload 0, 0, 0), (27, .getstatic 27, 11, 5), (30, .iconst (4), 0, 0), (31, .iload 3, 0, 0), (32, .imul, 0, 0), (33, .iconst (2), 0, 0), (34, .iadd, 0, 0), (35, .iaload, 0, 0), (36, .i2l, 0, 0), (37, .invokestatic 89, 1102, 3), (40, .ifCond .eq 0, 47, 0), (43, .iconst (1), 0, 0), (44, .goto 0, 48, 0)]
def mo_M_having_47 : List mmO := [(47, .iconst (0), 0, 0), (48, .nop, 0, 0)]
def mo_M_having_48 : List mmO := [(48, .iadd, 0, 0), (49, .istore 2, 0, 0), (50, .iinc 3 (1), 0, 0), (53, .goto 0, 4, 0)]
def mo_M_having_56 : List mmO := [(56, .iload 2, 0, 0), (57, .ireturn, 0, 0)]
def mb_M_having : List (Nat × List mmO) := [(0, mo_M_having_0), (4, mo_M_having_4), (47, mo_M_having_47), (48, mo_M_having_48), (56, mo_M_having_56)]
def mo_M_count_0 : List mmO := [(0, .aload 0, 0, 0), (1, .iconst (0), 0, 0), (2, .putfield 72, 11, 0), (5, .iconst (0), 0, 0), (6, .istore 2, 0, 0), (7, .iconst (0), 0, 0), (8, .istore 3, 0, 0), (9, .iconst (1), 0, 0), (10, .istore 4, 0, 0), (12, .nop, 0, 0)]
def mo_M_count_12 : List mmO := [(12, .iload 4, 0, 0), (14, .aload 0, 0, 0), (15, .getfield 13, 11, 3), (18, .if_icmp .ge 0, 48, 0), (21, .aload 0, 0, 0), (22, .iload 4, 0, 0), (24, .invokevirtual 362, 1180, 2), (27, .aload 0, 0, 0), (28, .iload 3, 0, 0), (29, .invokevirtual 362, 1180, 2), (32, .if_icmp .le 0, 40, 0), (35, .iload 4, 0, 0), (37, .goto 0, 41, 0)]
def mo_M_count_40 : List mmO := [(40, .iload 3, 0, 0), (41, .nop, 0, 0)]
def mo_M_count_41 : List mmO := [(41, .istore 3, 0, 0), (42, .iinc 4 (1), 0, 0), (45, .goto 0, 12, 0)]
def mo_M_count_48 : List mmO := [(48, .iload 1, 0, 0), (49, .lookupswitch 0 #[(0, 108), (1, 113), (2, 118), (3, 123), (4, 128), (5, 133), (6, 138), (7, 177), (8, 183), (9, 185), (10, 190)], 195, 0)]
def mo_M_count_108 : List mmO := [(108, .aload 0, 0, 0), (109, .getfield 13, 11, 3), (112, .ireturn, 0, 0)]
def mo_M_count_113 : List mmO := [(113, .aload 0, 0, 0), (114, .getfield 190, 11, 5), (117, .ireturn, 0, 0)]
def mo_M_count_118 : List mmO := [(118, .aload 0, 0, 0), (119, .getfield 193, 11, 8), (122, .ireturn, 0, 0)]
def mo_M_count_123 : List mmO := [(123, .aload 0, 0, 0), (124, .getfield 30, 11, 10), (127, .ireturn, 0, 0)]
def mo_M_count_128 : List mmO := [(128, .aload 0, 0, 0), (129, .getfield 33, 11, 11), (132, .ireturn, 0, 0)]
def mo_M_count_133 : List mmO := [(133, .aload 0, 0, 0), (134, .getfield 36, 11, 12), (137, .ireturn, 0, 0)]
def mo_M_count_138 : List mmO := [(138, .iconst (0), 0, 0), (139, .istore 4, 0, 0), (141, .nop, 0, 0)]
def mo_M_count_141 : List mmO := [(141, .iload 4, 0, 0), (143, .aload 0, 0, 0), (144, .getfield 193, 11, 8), (147, .if_icmp .ge 0, 175, 0), (150, .iload 2, 0, 0), (151, .aload 0, 0, 0), (152, .iload 4, 0, 0), (154, .invokevirtual 275, 1147, 2), (157, .iload 4, 0, 0), (159, .if_icmp .ne 0, 166, 0), (162, .iconst (1), 0, 0), (163, .goto 0, 167, 0)]
def mo_M_count_166 : List mmO := [(166, .iconst (0), 0, 0), (167, .nop, 0, 0)]
def mo_M_count_167 : List mmO := [(167, .iadd, 0, 0), (168, .istore 2, 0, 0), (169, .iinc 4 (1), 0, 0), (172, .goto 0, 141, 0)]
def mo_M_count_175 : List mmO := [(175, .iload 2, 0, 0), (176, .ireturn, 0, 0)]
def mo_M_count_177 : List mmO := [(177, .aload 0, 0, 0), (178, .iload 3, 0, 0), (179, .invokevirtual 362, 1180, 2), (182, .ireturn, 0, 0)]
def mo_M_count_183 : List mmO := [(183, .iload 3, 0, 0), (184, .ireturn, 0, 0)]
def mo_M_count_185 : List mmO := [(185, .aload 0, 0, 0), (186, .getfield 211, 11, 29), (189, .ireturn, 0, 0)]
def mo_M_count_190 : List mmO := [(190, .aload 0, 0, 0), (191, .getfield 75, 11, 2), (194, .ireturn, 0, 0)]
def mo_M_count_195 : List mmO := [(195, .iconst (-1), 0, 0), (196, .ireturn, 0, 0)]
def mb_M_count : List (Nat × List mmO) := [(0, mo_M_count_0), (12, mo_M_count_12), (40, mo_M_count_40), (41, mo_M_count_41), (48, mo_M_count_48), (108, mo_M_count_108), (113, mo_M_count_113), (118, mo_M_count_118), (123, mo_M_count_123), (128, mo_M_count_128), (133, mo_M_count_133), (138, mo_M_count_138), (141, mo_M_count_141), (166, mo_M_count_166), (167, mo_M_count_167), (175, mo_M_count_175), (177, mo_M_count_177), (183, mo_M_count_183), (185, mo_M_count_185), (190, mo_M_count_190), (195, mo_M_count_195)]
def mo_J_fill_0 : List mmO := [(0, .iconst (0), 0, 0), (1, .istore 2, 0, 0), (2, .aload 0, 0, 0), (3, .arraylength, 0, 0), (4, .istore 3, 0, 0), (5, .nop, 0, 0)]
def mo_J_fill_5 : List mmO := [(5, .iload 2, 0, 0), (6, .iload 3, 0, 0), (7, .if_icmp .ge 0, 20, 0), (10, .aload 0, 0, 0), (11, .iload 2, 0, 0), (12, .iload 1, 0, 0), (13, .iastore, 0, 0), (14, .iinc 2 (1), 0, 0), (17, .goto 0, 5, 0)]
def mo_J_fill_20 : List mmO := [(20, .return_, 0, 0)]
def mb_J_fill : List (Nat × List mmO) := [(0, mo_J_fill_0), (5, mo_J_fill_5), (20, mo_J_fill_20)]
end
section
/-! numbers: Int beside Int32, Int64 -/
theorem mm_ti {x : Int} (h : mm_R x) : (Int32.ofInt x).toInt = x := by
  rw [Int32.toInt_ofInt]
  obtain ⟨h1, h2⟩ := h
  simp only [Int.bmod_def, Int32.size, Int64.size, Int8.size, Int16.size]
  split <;> omega
theorem mm_tl {x : Int} (h : mm_R64 x) : (Int64.ofInt x).toInt = x := by
  rw [Int64.toInt_ofInt]
  obtain ⟨h1, h2⟩ := h
  simp only [Int.bmod_def, Int32.size, Int64.size, Int8.size, Int16.size]
  split <;> omega
theorem mm_inj {x y : Int} (hx : mm_R x) (hy : mm_R y) : Int32.ofInt x = Int32.ofInt y ↔ x = y := by
  constructor
  · intro h
    have := congrArg Int32.toInt h
    rwa [mm_ti hx, mm_ti hy] at this
  · intro h; rw [h]
theorem mm_lt {x y : Int} (hx : mm_R x) (hy : mm_R y) : Int32.ofInt x < Int32.ofInt y ↔ x < y := by
  rw [Int32.lt_iff_toInt_lt, mm_ti hx, mm_ti hy]
theorem mm_le {x y : Int} (hx : mm_R x) (hy : mm_R y) : Int32.ofInt x ≤ Int32.ofInt y ↔ x ≤ y := by
  rw [Int32.le_iff_toInt_le, mm_ti hx, mm_ti hy]
theorem mm_of (x : Int32) : Int32.ofInt x.toInt = x := Int32.ofInt_toInt x
theorem mm_ofl (x : Int64) : Int64.ofInt x.toInt = x := Int64.ofInt_toInt x
theorem mm_Rof (x : Int32) : mm_R x.toInt := by
  have h1 := Int32.le_toInt x
  have h2 := Int32.toInt_lt x
  exact ⟨by simpa using h1, by have : x.toInt < 2147483648 := by simpa using h2
                               omega⟩
theorem mm_R64of (x : Int64) : mm_R64 x.toInt := by
  have h1 := Int64.le_toInt x
  have h2 := Int64.toInt_lt x
  exact ⟨by simpa using h1, by have : x.toInt < 9223372036854775808 := by simpa using h2
                               omega⟩
theorem mm_0 : (Int32.ofInt 0) = 0 := rfl
theorem mm_clamp {x : Int} (h : mm_R x) (h0 : 0 ≤ x) : (Int32.ofInt x).toNatClampNeg = x.toNat := by
  show (Int32.ofInt x).toInt.toNat = x.toNat
  rw [mm_ti h]
theorem mm_vpin {x n : Int} (h : mm_R x) (h0 : 0 ≤ x) (h1 : x < n) : vp_in (Int32.ofInt x) n.toNat := by
  rw [vp_in_iff, mm_ti h]
  omega
theorem mm_div {x y : Int} (hx : mm_R x) (hy : mm_R y) (h0 : 0 < y) : Int32.ofInt x / Int32.ofInt y = Int32.ofInt (x.tdiv y) := by
  apply Int32.toInt_inj.mp
  rw [Int32.toInt_div, mm_ti hx, mm_ti hy, Int32.toInt_ofInt]
theorem mm_divR {x y : Int} (hx : mm_R x) (h0 : 0 < y) : mm_R (x.tdiv y) := by
  obtain ⟨h1, h2⟩ := hx
  rcases Int.le_total 0 x with h | h
  · have a := Int.tdiv_nonneg h (Int.le_of_lt h0)
    have b := Int.tdiv_le_self y h
    exact ⟨by omega, by omega⟩
  · have e : x.tdiv y = - ((-x).tdiv y) := by rw [Int.neg_tdiv, Int.neg_neg]
    have a := Int.tdiv_nonneg (a := -x) (by omega) (Int.le_of_lt h0)
    have b := Int.tdiv_le_self (a := -x) y (by omega)
    exact ⟨by omega, by omega⟩
theorem mm_rem {x y : Int} (hx : mm_R x) (hy : mm_R y) (h0 : 0 < y) : Int32.ofInt x - Int32.ofInt x / Int32.ofInt y * Int32.ofInt y = Int32.ofInt (x.tmod y) := by
  rw [mm_div hx hy h0, ← Int32.ofInt_mul, ← Int32.ofInt_sub, Int.tmod_def, Int.mul_comm]
theorem mm_remR {x y : Int} (hx : mm_R x) (hy : mm_R y) (h0 : 0 < y) : mm_R (x.tmod y) := by
  obtain ⟨h1, h2⟩ := hx
  obtain ⟨h3, h4⟩ := hy
  have a := Int.tmod_lt_of_pos x h0
  have b := Int.lt_tmod_of_pos x h0
  exact ⟨by omega, by omega⟩
theorem mm_ldiv {x y : Int} (hx : mm_R64 x) (hy : mm_R64 y) (h0 : 0 < y) : Int64.ofInt x / Int64.ofInt y = Int64.ofInt (x.tdiv y) := by
  apply Int64.toInt_inj.mp
  rw [Int64.toInt_div, mm_tl hx, mm_tl hy, Int64.toInt_ofInt]
theorem mm_ldivR {x y : Int} (hx : mm_R64 x) (h0 : 0 < y) : mm_R64 (x.tdiv y) := by
  obtain ⟨h1, h2⟩ := hx
  rcases Int.le_total 0 x with h | h
  · have a := Int.tdiv_nonneg h (Int.le_of_lt h0)
    have b := Int.tdiv_le_self y h
    exact ⟨by omega, by omega⟩
  · have e : x.tdiv y = - ((-x).tdiv y) := by rw [Int.neg_tdiv, Int.neg_neg]
    have a := Int.tdiv_nonneg (a := -x) (by omega) (Int.le_of_lt h0)
    have b := Int.tdiv_le_self (a := -x) y (by omega)
    exact ⟨by omega, by omega⟩
theorem mm_ne0 {y : Int} (hy : mm_R y) (h0 : 0 < y) : ¬ Int32.ofInt y = 0 := by
  intro h
  have := congrArg Int32.toInt h
  rw [mm_ti hy] at this
  have e : (0 : Int32).toInt = 0 := rfl
  omega
theorem mm_lne0 {y : Int} (hy : mm_R64 y) (h0 : 0 < y) : ¬ Int64.ofInt y = 0 := by
  intro h
  have := congrArg Int64.toInt h
  rw [mm_tl hy] at this
  have e : (0 : Int64).toInt = 0 := rfl
  omega
theorem mm_i2lE {x : Int} (hx : mm_R x) : (Int32.ofInt x).toInt64 = Int64.ofInt x := by
  apply Int64.toInt_inj.mp
  rw [Int32.toInt_toInt64, mm_ti hx, mm_tl]
  obtain ⟨h1, h2⟩ := hx
  exact ⟨by omega, by omega⟩
theorem mm_l2iE {x : Int} (hx : mm_R x) : (Int64.ofInt x).toInt32 = Int32.ofInt x := by
  apply Int32.toInt_inj.mp
  have hl : mm_R64 x := ⟨by have := hx.1; omega, by have := hx.2; omega⟩
  rw [Int64.toInt_toInt32, mm_tl hl, Int32.toInt_ofInt]
theorem mm_lcE {x y : Int} (hx : mm_R64 x) (hy : mm_R64 y) : lg_cmp (Int64.ofInt x) (Int64.ofInt y) = Int32.ofInt (mm_lc x y) := by
  have hlt : (Int64.ofInt x > Int64.ofInt y) ↔ y < x := by
    show Int64.ofInt y < Int64.ofInt x ↔ _
    rw [Int64.lt_iff_toInt_lt, mm_tl hx, mm_tl hy]
  have heq : (Int64.ofInt x = Int64.ofInt y) ↔ x = y := by
    rw [← Int64.toInt_inj, mm_tl hx, mm_tl hy]
  unfold lg_cmp mm_lc
  by_cases h1 : y < x
  · rw [if_pos (hlt.mpr h1), if_neg (by omega), if_neg (by omega)]; rfl
  · rw [if_neg (fun h => h1 (hlt.mp h))]
    by_cases h2 : x = y
    · rw [if_pos (heq.mpr h2), if_neg (by omega), if_pos h2]; rfl
    · rw [if_neg (fun h => h2 (heq.mp h)), if_pos (by omega)]; rfl
theorem mm_lcR (x y : Int) : mm_R (mm_lc x y) := by
  unfold mm_lc
  split
  · exact ⟨by decide, by decide⟩
  · split
    · exact ⟨by decide, by decide⟩
    · exact ⟨by decide, by decide⟩
theorem mm_maxE {x y : Int} (hx : mm_R x) (hy : mm_R y) : (if Int32.ofInt x < Int32.ofInt y then Int32.ofInt y else Int32.ofInt x) = Int32.ofInt (max x y) := by
  by_cases h : x < y
  · rw [if_pos ((mm_lt hx hy).mpr h), Int.max_eq_right (by omega)]
  · rw [if_neg (fun q => h ((mm_lt hx hy).mp q)), Int.max_eq_left (by omega)]
theorem mm_minE {x y : Int} (hx : mm_R x) (hy : mm_R y) : (if Int32.ofInt y < Int32.ofInt x then Int32.ofInt y else Int32.ofInt x) = Int32.ofInt (min x y) := by
  by_cases h : y < x
  · rw [if_pos ((mm_lt hy hx).mpr h), Int.min_eq_right (by omega)]
  · rw [if_neg (fun q => h ((mm_lt hy hx).mp q)), Int.min_eq_left (by omega)]
theorem mm_maxR {x y : Int} (hx : mm_R x) (hy : mm_R y) : mm_R (max x y) := by
  obtain ⟨_, _⟩ := hx; obtain ⟨_, _⟩ := hy; exact ⟨by omega, by omega⟩
theorem mm_minR {x y : Int} (hx : mm_R x) (hy : mm_R y) : mm_R (min x y) := by
  obtain ⟨_, _⟩ := hx; obtain ⟨_, _⟩ := hy; exact ⟨by omega, by omega⟩
theorem mm_bc {z : Int} (h1 : -128 ≤ z) (h2 : z ≤ 127) : (Int8.ofInt z).toInt32 = Int32.ofInt z := by
  apply Int32.toInt_inj.mp
  rw [Int8.toInt_toInt32, Int8.toInt_ofInt, mm_ti ⟨by omega, by omega⟩]
  simp only [Int.bmod_def, Int32.size, Int64.size, Int8.size, Int16.size]
  split <;> omega
theorem mm_sc {z : Int} (h1 : -32768 ≤ z) (h2 : z ≤ 32767) : (Int16.ofInt z).toInt32 = Int32.ofInt z := by
  apply Int32.toInt_inj.mp
  rw [Int16.toInt_toInt32, Int16.toInt_ofInt, mm_ti ⟨by omega, by omega⟩]
  simp only [Int.bmod_def, Int32.size, Int64.size, Int8.size, Int16.size]
  split <;> omega
end
section
/-! the small machine's values, locals and objects in the machine's heap -/
def mm_val (ad : Nat → Nat) (v : mmV) : Value := match v with
  | .inl x => .int (Int32.ofInt x)
  | .inr (.inl x) => .long (Int64.ofInt x)
  | .inr (.inr o) => .ref (ad o)
theorem mm_val_cat (ad : Nat → Nat) (v : mmV) : (mm_val ad v).category = mm_cat v := by
  rcases v with x | x | x <;> rfl
def mm_lv (ad : Nat → Nat) (L : mmL) : List (Nat × Value) := L.zipIdx.filterMap (fun q => q.1.map (fun v => (q.2, mm_val ad v)))
theorem mm_lv_mem {ad : Nat → Nat} {L : mmL} {i : Nat} {w : Value} : (i, w) ∈ mm_lv ad L ↔ ∃ v, L[i]? = some (some v) ∧ w = mm_val ad v := by
  unfold mm_lv
  rw [List.mem_filterMap]
  constructor
  · rintro ⟨⟨a, j⟩, h1, h2⟩
    rw [List.mem_zipIdx_iff_getElem?] at h1
    cases a with
    | none => cases h2
    | some v =>
      simp only [Option.map_some, Option.some.injEq, Prod.mk.injEq] at h2
      exact ⟨v, by rw [← h2.1]; exact h1, h2.2.symm⟩
  · rintro ⟨v, h1, h2⟩
    exact ⟨(some v, i), by rw [List.mem_zipIdx_iff_getElem?]; exact h1, by simp [h2]⟩
/-- the locals ls hold L -/
def mm_LR (ad : Nat → Nat) (n : Nat) (L : mmL) (ls : Array Slot) : Prop := lv_has ls n (mm_lv ad L) ∧ L.length = n ∧ ∀ (i : Nat) (v : mmV), L[i]? = some (some v) → mm_vin v
theorem mm_LR.at {ad : Nat → Nat} {n : Nat} {L : mmL} {ls : Array Slot} (h : mm_LR ad n L ls) {i : Nat} {v : mmV} (hi : L[i]? = some (some v)) : ls[i]? = some (.val (mm_val ad v)) := h.1.2.2 (i, _) (mm_lv_mem.mpr ⟨v, hi, rfl⟩)
theorem mm_set1_len : ∀ (L : mmL) (n : Nat) (v : mmV), (mm_set1 L n v).length = L.length
  | [], _, _ => rfl
  | _ :: t, 0, v => rfl
  | a :: t, 1, v => by show (mm_kill a :: mm_set1 t 0 v).length = _; rw [List.length_cons, mm_set1_len t 0 v]; rfl
  | a :: t, n + 2, v => by show (a :: mm_set1 t (n + 1) v).length = _; rw [List.length_cons, mm_set1_len t (n + 1) v]; rfl
theorem mm_set1_get : ∀ (L : mmL) (n : Nat) (v : mmV) (i : Nat) (w : mmV), (mm_set1 L n v)[i]? = some (some w) → (i = n ∧ w = v) ∨ (i ≠ n ∧ L[i]? = some (some w) ∧ (i + 1 = n → mm_cat w = 1))
  | [], _, _, i, w => by intro h; simp [mm_set1] at h
  | a :: t, 0, v, i, w => by
    intro h
    cases i with
    | zero => left; simp [mm_set1] at h; exact ⟨rfl, h.symm⟩
    | succ i => right; simp [mm_set1] at h; exact ⟨by omega, by simpa using h, by omega⟩
  | a :: t, 1, v, i, w => by
    intro h
    cases i with
    | zero =>
      right
      simp only [mm_set1, List.getElem?_cons_zero, Option.some.injEq] at h
      refine ⟨by omega, ?_, fun _ => ?_⟩
      · rcases a with _ | a | a | a <;> simp_all [mm_kill]
      · rcases a with _ | a | a | a <;> simp_all [mm_kill, mm_cat] <;> (subst h; rfl)
    | succ i =>
      have h2 : (mm_set1 t 0 v)[i]? = some (some w) := by simpa [mm_set1] using h
      rcases mm_set1_get t 0 v i w h2 with ⟨h3, h4⟩ | ⟨h3, h4, h5⟩
      · left; exact ⟨by omega, h4⟩
      · right; exact ⟨by omega, by simpa using h4, by omega⟩
  | a :: t, n + 2, v, i, w => by
    intro h
    cases i with
    | zero => right; simp [mm_set1] at h; exact ⟨by omega, by simpa using h, by omega⟩
    | succ i =>
      have h2 : (mm_set1 t (n + 1) v)[i]? = some (some w) := by simpa [mm_set1] using h
      rcases mm_set1_get t (n + 1) v i w h2 with ⟨h3, h4⟩ | ⟨h3, h4, h5⟩
      · left; exact ⟨by omega, h4⟩
      · right; exact ⟨by omega, by simpa using h4, fun h9 => h5 (by omega)⟩
theorem mm_set2_len : ∀ (L : mmL) (n : Nat) (v : mmV), (mm_set2 L n v).length = L.length
  | [], _, _ => rfl
  | [_], _, _ => rfl
  | _ :: _ :: t, 0, v => rfl
  | a :: b :: t, 1, v => by show (mm_kill a :: mm_set2 (b :: t) 0 v).length = _; rw [List.length_cons, mm_set2_len (b :: t) 0 v]; rfl
  | a :: b :: t, n + 2, v => by show (a :: mm_set2 (b :: t) (n + 1) v).length = _; rw [List.length_cons, mm_set2_len (b :: t) (n + 1) v]; rfl
theorem mm_set2_get : ∀ (L : mmL) (n : Nat) (v : mmV) (i : Nat) (w : mmV), n + 1 < L.length → (mm_set2 L n v)[i]? = some (some w) → (i = n ∧ w = v) ∨ (i ≠ n ∧ i ≠ n + 1 ∧ L[i]? = some (some w) ∧ (i + 1 = n → mm_cat w = 1))
  | [], n, _, i, w => by intro h0; simp at h0
  | [_], n, _, i, w => by intro h0; simp at h0
  | a :: b :: t, 0, v, i, w => by
    intro _ h
    match i with
    | 0 => left; simp [mm_set2] at h; exact ⟨rfl, h.symm⟩
    | 1 => simp [mm_set2] at h
    | i + 2 => right; simp [mm_set2] at h; exact ⟨by omega, by omega, by simpa using h, by omega⟩
  | a :: b :: t, 1, v, i, w => by
    intro h0 h
    cases i with
    | zero =>
      right
      simp only [mm_set2, List.getElem?_cons_zero, Option.some.injEq] at h
      refine ⟨by omega, by omega, ?_, fun _ => ?_⟩
      · rcases a with _ | a | a | a <;> simp_all [mm_kill]
      · rcases a with _ | a | a | a <;> simp_all [mm_kill, mm_cat] <;> (subst h; rfl)
    | succ i =>
      have h2 : (mm_set2 (b :: t) 0 v)[i]? = some (some w) := by simpa [mm_set2] using h
      rcases mm_set2_get (b :: t) 0 v i w (by simp at h0 ⊢; omega) h2 with ⟨h3, h4⟩ | ⟨h3, h5, h4, h6⟩
      · left; exact ⟨by omega, h4⟩
      · right; exact ⟨by omega, by omega, by simpa using h4, by omega⟩
  | a :: b :: t, n + 2, v, i, w => by
    intro h0 h
    cases i with
    | zero => right; simp [mm_set2] at h; exact ⟨by omega, by omega, by simpa using h, by omega⟩
    | succ i =>
      have h2 : (mm_set2 (b :: t) (n + 1) v)[i]? = some (some w) := by simpa [mm_set2] using h
      rcases mm_set2_get (b :: t) (n + 1) v i w (by simp at h0 ⊢; omega) h2 with ⟨h3, h4⟩ | ⟨h3, h5, h4, h6⟩
      · left; exact ⟨by omega, h4⟩
      · right; exact ⟨by omega, by omega, by simpa using h4, fun h9 => h6 (by omega)⟩
theorem mm_LR.set1 {ad : Nat → Nat} {nL : Nat} {L : mmL} {ls ls' : Array Slot} (h : mm_LR ad nL L ls) {n : Nat} {v : mmV} (hv : mm_vin v) (h' : lv_has ls' nL ((n, mm_val ad v) :: (mm_lv ad L).filter (fun q => !(q.1 == n) && !(q.1 + 1 == n && q.2.category == 2)))) : mm_LR ad nL (mm_set1 L n v) ls' := by
  refine ⟨⟨h'.1, h'.2.1, fun q hq => h'.2.2 q ?_⟩, by rw [mm_set1_len]; exact h.2.1, fun i w hw => ?_⟩
  · obtain ⟨i, w⟩ := q
    obtain ⟨u, h1, h2⟩ := mm_lv_mem.mp hq
    rcases mm_set1_get L n v i u h1 with ⟨h3, h4⟩ | ⟨h3, h4, h5⟩
    · rw [h3, h2, h4]; exact List.mem_cons_self
    · refine List.mem_cons_of_mem _ (List.mem_filter.mpr ⟨mm_lv_mem.mpr ⟨u, h4, h2⟩, ?_⟩)
      by_cases h6 : i + 1 = n
      · have h7 := h5 h6
        simp [h2, mm_val_cat, h7, h3]
      · simp [h3, h6]
  · rcases mm_set1_get L n v i w hw with ⟨h3, h4⟩ | ⟨h3, h4, h5⟩
    · rw [h4]; exact hv
    · exact h.2.2 i w h4
theorem mm_LR.set2 {ad : Nat → Nat} {nL : Nat} {L : mmL} {ls ls' : Array Slot} (h : mm_LR ad nL L ls) {n : Nat} {v : mmV} (hn : n + 1 < nL) (hv : mm_vin v) (h' : lv_has ls' nL ((n, mm_val ad v) :: (mm_lv ad L).filter (fun q => !(q.1 == n) && (!(q.1 == n + 1) && !(q.1 + 1 == n && q.2.category == 2))))) : mm_LR ad nL (mm_set2 L n v) ls' := by
  have hl : n + 1 < L.length := by rw [h.2.1]; exact hn
  refine ⟨⟨h'.1, h'.2.1, fun q hq => h'.2.2 q ?_⟩, by rw [mm_set2_len]; exact h.2.1, fun i w hw => ?_⟩
  · obtain ⟨i, w⟩ := q
    obtain ⟨u, h1, h2⟩ := mm_lv_mem.mp hq
    rcases mm_set2_get L n v i u hl h1 with ⟨h3, h4⟩ | ⟨h3, h8, h4, h5⟩
    · rw [h3, h2, h4]; exact List.mem_cons_self
    · refine List.mem_cons_of_mem _ (List.mem_filter.mpr ⟨mm_lv_mem.mpr ⟨u, h4, h2⟩, ?_⟩)
      by_cases h6 : i + 1 = n
      · have h7 := h5 h6
        simp [h2, mm_val_cat, h7, h3, h8]
      · simp [h3, h6, h8]
  · rcases mm_set2_get L n v i w hl hw with ⟨h3, h4⟩ | ⟨h3, h8, h4, h5⟩
    · rw [h4]; exact hv
    · exact h.2.2 i w h4
theorem mm_lv_args (ad : Nat → Nat) : ∀ (as : List mmV) (k i : Nat) (v : mmV), (mm_ent as)[i]? = some (some v) → (k + i, mm_val ad v) ∈ lv_args k (as.map (mm_val ad))
  | [], k, i, v => by intro h; simp [mm_ent] at h
  | .inl x :: r, k, i, v => by
    intro h
    cases i with
    | zero => simp [mm_ent] at h; rw [← h]; exact List.mem_cons_self
    | succ i =>
      have := mm_lv_args ad r (k + 1) i v (by simpa [mm_ent] using h)
      refine List.mem_cons_of_mem _ ?_
      rw [show k + (i + 1) = k + 1 + i by omega]
      exact this
  | .inr (.inl x) :: r, k, i, v => by
    intro h
    match i with
    | 0 => simp [mm_ent] at h; rw [← h]; exact List.mem_cons_self
    | 1 => simp [mm_ent] at h
    | i + 2 =>
      have := mm_lv_args ad r (k + 2) i v (by simpa [mm_ent] using h)
      refine List.mem_cons_of_mem _ ?_
      rw [show k + (i + 2) = k + 2 + i by omega]
      exact this
  | .inr (.inr x) :: r, k, i, v => by
    intro h
    cases i with
    | zero => simp [mm_ent] at h; rw [← h]; exact List.mem_cons_self
    | succ i =>
      have := mm_lv_args ad r (k + 1) i v (by simpa [mm_ent] using h)
      refine List.mem_cons_of_mem _ ?_
      rw [show k + (i + 1) = k + 1 + i by omega]
      exact this
theorem mm_ent_len (ad : Nat → Nat) : ∀ as : List mmV, (lg_sl (as.map (mm_val ad))).length = (mm_ent as).length
  | [] => rfl
  | .inl x :: r => by
    show (([.val _] : List Slot) ++ lg_sl (r.map (mm_val ad))).length = _
    rw [List.length_append, mm_ent_len ad r]
    simp [mm_ent]; omega
  | .inr (.inl x) :: r => by
    show (([.val _, .second] : List Slot) ++ lg_sl (r.map (mm_val ad))).length = _
    rw [List.length_append, mm_ent_len ad r]
    simp [mm_ent]; omega
  | .inr (.inr x) :: r => by
    show (([.val _] : List Slot) ++ lg_sl (r.map (mm_val ad))).length = _
    rw [List.length_append, mm_ent_len ad r]
    simp [mm_ent]; omega
theorem mm_ent_mem : ∀ (as : List mmV) (i : Nat) (v : mmV), (mm_ent as)[i]? = some (some v) → v ∈ as
  | [], i, v => by intro h; simp [mm_ent] at h
  | .inl x :: r, i, v => by
    intro h
    cases i with
    | zero => simp [mm_ent] at h; rw [← h]; exact List.mem_cons_self
    | succ i => exact List.mem_cons_of_mem _ (mm_ent_mem r i v (by simpa [mm_ent] using h))
  | .inr (.inl x) :: r, i, v => by
    intro h
    match i with
    | 0 => simp [mm_ent] at h; rw [← h]; exact List.mem_cons_self
    | 1 => simp [mm_ent] at h
    | i + 2 => exact List.mem_cons_of_mem _ (mm_ent_mem r i v (by simpa [mm_ent] using h))
  | .inr (.inr x) :: r, i, v => by
    intro h
    cases i with
    | zero => simp [mm_ent] at h; rw [← h]; exact List.mem_cons_self
    | succ i => exact List.mem_cons_of_mem _ (mm_ent_mem r i v (by simpa [mm_ent] using h))
theorem mm_entry_get {n : Nat} {as : List mmV} {i : Nat} {v : mmV} (h : (mm_entry n as)[i]? = some (some v)) : (mm_ent as)[i]? = some (some v) := by
  unfold mm_entry at h
  by_cases hi : i < (mm_ent as).length
  · rwa [List.getElem?_append_left hi] at h
  · rw [List.getElem?_append_right (by omega), List.getElem?_replicate] at h
    split at h <;> simp at h
theorem mm_LR_entry {ad : Nat → Nat} {n : Nat} {as : List mmV} (hn : (mm_ent as).length ≤ n) (hv : ∀ v ∈ as, mm_vin v) : mm_LR ad n (mm_entry n as) ((lg_sl (as.map (mm_val ad)) ++ List.replicate (n - (lg_sl (as.map (mm_val ad))).length) Slot.unset).toArray) := by
  have h0 := lv_entry (as.map (mm_val ad)) (n := n) (by rw [mm_ent_len]; exact hn)
  refine ⟨⟨h0.1, h0.2.1, fun q hq => h0.2.2 q ?_⟩, ?_, fun i v h => hv v (mm_ent_mem as i v (mm_entry_get h))⟩
  · obtain ⟨i, w⟩ := q
    obtain ⟨v, h1, h2⟩ := mm_lv_mem.mp hq
    rw [h2]
    have := mm_lv_args ad as 0 i v (mm_entry_get h1)
    rwa [Nat.zero_add] at this
  · unfold mm_entry
    rw [List.length_append, List.length_replicate]
    omega
/-- a class' fields: none an int, some d the object d further on -/
def mm_ft : Nat → List (Option Nat) := fun ci => ([[some 1, some 2, none, none], [some 1, some 3, none], [some 1, some 2, some 3, some 4, none], [some 1, some 2, some 7, none, none, none, none, none, none, none], [some 1, some 2, some 3, some 4, none, none], [some 1, none], [some 1, some 2, some 3, some 9, none], [some 1, some 2], [some 1, none, none, none], [some 1, none, none, none, none, none, none], [some 1, some 13, some 18, some 23, some 26, some 31, some 42, some 45, some 47, none, none, none],
  [none, some 1, none, none, some 2, none, some 3, some 4, none, some 5, none, none, none, none, some 6, none, some 7, some 8, none, some 9, none, none, none, none, none, none, none, none, some 10, none, some 11, some 12, some 13, none, none, none, none, none, some 14, none, none, none, none, none, none, none, none, none, none, none]] : List (List (Option Nat))).getD ci []
def mm_fv (ad : Nat → Nat) (M : mmM) (o : Nat) (q : Option Nat × Nat) : Value := match q.1 with
  | none => .int (Int32.ofInt (M o q.2))
  | some d => .ref (ad (o + d))
def mm_fl (ad : Nat → Nat) (M : mmM) (o : Nat) : List Value := (mm_ft (mm_cls o)).zipIdx.map (mm_fv ad M o)
def mm_cell (ad : Nat → Nat) (G : ClassId × ClassId × ClassId) (M : mmM) (o : Nat) : va_E :=
  if mm_cls o = 100 then .inl (G.1, (mm_len o).toNat, .inl (fun j => Int32.ofInt (M o j)))
  else if mm_cls o = 101 then .inl (G.2.1, (mm_len o).toNat, .inl (fun j => Int32.ofInt (M o j)))
  else if mm_cls o = 102 then .inl (G.2.2, (mm_len o).toNat, .inr (.inr (.inr (.inr (fun j => some (ad (o + 1 + j)))))))
  else .inr (mm_cls o, mm_fl ad M o)
def mm_ws (ad : Nat → Nat) (G : ClassId × ClassId × ClassId) (M : mmM) : va_W := (List.range 77).map (fun o => (ad o, mm_cell ad G M o))
def mm_A (ad : Nat → Nat) : Nat → Prop := fun q => ∃ o, o < 77 ∧ q = ad o
theorem mm_ws_get {ad : Nat → Nat} {G : ClassId × ClassId × ClassId} {M : mmM} {o : Nat} (h : o < 77) : (mm_ws ad G M)[o]? = some (ad o, mm_cell ad G M o) := by
  unfold mm_ws
  rw [List.getElem?_map, List.getElem?_range h]
  rfl
theorem mm_ws_inv {ad : Nat → Nat} {G : ClassId × ClassId × ClassId} {M : mmM} {k : Nat} {q : Nat × va_E} (h : (mm_ws ad G M)[k]? = some q) : k < 77 ∧ q = (ad k, mm_cell ad G M k) := by
  by_cases hk : k < 77
  · rw [mm_ws_get hk] at h
    exact ⟨hk, (Option.some.inj h).symm⟩
  · have : (mm_ws ad G M)[k]? = none := List.getElem?_eq_none (by simp [mm_ws]; omega)
    rw [this] at h; cases h
theorem mm_lt77 {o : Nat} (h : mm_cls o ≠ 999) : o < 77 := by
  rcases Nat.lt_or_ge o 77 with h1 | h1
  · exact h1
  · exact absurd (by unfold mm_cls; rw [List.getD_eq_getElem?_getD, List.getElem?_eq_none (by show 77 ≤ o; exact h1)]; rfl) h
theorem mm_D {ad : Nat → Nat} {G : ClassId × ClassId × ClassId} {M : mmM} (hinj : ∀ i j, i < 77 → j < 77 → ad i = ad j → i = j) : va_D (mm_A ad) (mm_ws ad G M) := by
  refine ⟨fun i j p q hi hj h => ?_, fun k q hk => ?_⟩
  · obtain ⟨h1, rfl⟩ := mm_ws_inv hi
    obtain ⟨h2, rfl⟩ := mm_ws_inv hj
    exact hinj i j h1 h2 h
  · obtain ⟨h1, rfl⟩ := mm_ws_inv hk
    exact ⟨k, h1, rfl⟩
theorem mm_cell_other {ad : Nat → Nat} {G : ClassId × ClassId × ClassId} {M M' : mmM} {o : Nat} (h : ∀ i, M' o i = M o i) : mm_cell ad G M' o = mm_cell ad G M o := by
  have hf : mm_fl ad M' o = mm_fl ad M o := by
    unfold mm_fl
    apply List.map_congr_left
    intro q _
    unfold mm_fv
    split
    · rw [h]
    · rfl
  unfold mm_cell
  rw [hf]
  simp only [h]
theorem mm_ws_set {ad : Nat → Nat} {G : ClassId × ClassId × ClassId} {M M' : mmM} {o : Nat} {e : va_E} (h : ∀ o', o' ≠ o → ∀ i, M' o' i = M o' i) (he : mm_cell ad G M' o = e) : (mm_ws ad G M).set o (ad o, e) = mm_ws ad G M' := by
  apply List.ext_getElem?
  intro k
  by_cases hk : k < 77
  · rw [mm_ws_get hk]
    by_cases hko : k = o
    · subst hko
      rw [List.getElem?_set_self (by simp [mm_ws]; exact hk), he]
    · rw [List.getElem?_set_ne (Ne.symm hko), mm_ws_get hk, mm_cell_other (h k hko)]
  · rw [List.getElem?_eq_none (by simp [mm_ws]; omega), List.getElem?_eq_none (by simp [mm_ws]; omega)]
theorem mm_up_ne {M : mmM} {o : Nat} {i v : Int} : ∀ o', o' ≠ o → ∀ i', mm_up M o i v o' i' = M o' i' := fun o' h i' => if_neg (fun q => h q.1)
theorem mm_up_fn {M : mmM} {o : Nat} {i v : Int} (h0 : 0 ≤ i) : (fun j : Nat => Int32.ofInt (mm_up M o i v o j)) = upd (fun j : Nat => Int32.ofInt (M o j)) i.toNat (Int32.ofInt v) := by
  funext j
  unfold mm_up upd
  by_cases h : j = i.toNat
  · rw [if_pos ⟨rfl, by omega⟩, if_pos h]
  · rw [if_neg (fun q => h (by omega)), if_neg h]
theorem mm_cell_i {ad : Nat → Nat} {G : ClassId × ClassId × ClassId} {M : mmM} {o : Nat} (h : mm_cls o = 100) : mm_cell ad G M o = .inl (G.1, (mm_len o).toNat, .inl (fun j => Int32.ofInt (M o j))) := if_pos h
theorem mm_cell_b {ad : Nat → Nat} {G : ClassId × ClassId × ClassId} {M : mmM} {o : Nat} (h : mm_cls o = 101) : mm_cell ad G M o = .inl (G.2.1, (mm_len o).toNat, .inl (fun j => Int32.ofInt (M o j))) := by
  unfold mm_cell; rw [if_neg (by omega), if_pos h]
theorem mm_cell_a {ad : Nat → Nat} {G : ClassId × ClassId × ClassId} {M : mmM} {o : Nat} (h : mm_cls o = 102) : mm_cell ad G M o = .inl (G.2.2, (mm_len o).toNat, .inr (.inr (.inr (.inr (fun j => some (ad (o + 1 + j))))))) := by
  unfold mm_cell; rw [if_neg (by omega), if_neg (by omega), if_pos h]
theorem mm_cell_o {ad : Nat → Nat} {G : ClassId × ClassId × ClassId} {M : mmM} {o : Nat} (h : mm_cls o < 100) : mm_cell ad G M o = .inr (mm_cls o, mm_fl ad M o) := by
  unfold mm_cell; rw [if_neg (by omega), if_neg (by omega), if_neg (by omega)]
theorem mm_fl_get {ad : Nat → Nat} {M : mmM} {o k : Nat} {q : Option Nat} (h : (mm_ft (mm_cls o))[k]? = some q) : (mm_fl ad M o)[k]? = some (mm_fv ad M o (q, k)) := by
  unfold mm_fl
  rw [List.getElem?_map, List.getElem?_zipIdx, h]
  simp
theorem mm_fl_set {ad : Nat → Nat} {M : mmM} {o k : Nat} {x : Int} (h : (mm_ft (mm_cls o))[k]? = some none) : mm_fl ad (mm_up M o k x) o = (mm_fl ad M o).set k (.int (Int32.ofInt x)) := by
  apply List.ext_getElem?
  intro j
  cases hj : (mm_ft (mm_cls o))[j]? with
  | none =>
    have h1 := List.getElem?_eq_none_iff.mp hj
    rw [List.getElem?_eq_none (by simp [mm_fl]; exact h1), List.getElem?_eq_none (by simp [mm_fl]; exact h1)]
  | some q =>
    rw [mm_fl_get hj]
    by_cases hjk : j = k
    · subst hjk
      rw [h] at hj
      cases hj
      have h1 := (List.getElem?_eq_some_iff.mp h).1
      rw [List.getElem?_set_self (by simp [mm_fl]; exact h1)]
      simp [mm_fv, mm_up]
    · rw [List.getElem?_set_ne (Ne.symm hjk), mm_fl_get hj]
      congr 1
      unfold mm_fv
      split
      · unfold mm_up
        rw [if_neg (by simp; omega)]
      · rfl
end
section
/-! a method's blocks, held against the code, and what holds of them by mm_wp holds of the machine -/
def mm_tys (G : ClassId × ClassId × ClassId) : List (ClassId × FieldType) := [(G.1, .int), (G.2.1, .byte), (G.2.2, .array .int)]
def mm_sidx : List (Nat × String) := [(66, "row"), (74, "set"), (79, "ask"), (123, "at"), (129, "sum"), (131, "unlike"), (133, "often"), (135, "which"), (137, "powe\x72"), (139, "missing"), (141, "parts"), (143, "pairs")]
/-- what holds of the tables and of the texts, all along -/
def mm_E (D : va_G) (ad : Nat → Nat) (G : ClassId × ClassId × ClassId) (X : State → Prop) (U : State) : Prop := va_K D vwCl (mm_tys G) U ∧ (∀ q ∈ mm_nestF, va_Nw (.fieldLinkNest q.1 q.2.1 q.2.2.1 q.2.2.2.1 q.2.2.2.2 RX10) U) ∧ (∀ q ∈ mm_nestM, va_Nw (.methodLinkNest q.1 q.2.1 q.2.2 RX10) U) ∧ (∀ (j : Nat) (q : Nat × String), mm_sidx[j]? = some q → vk_R RX3 q.1 q.2 (ad (1000 + j)) U) ∧ X U
/-- a word on the state that stays: over a call, and while nothing outside the cells changes -/
def mm_XOk (ad : Nat → Nat) (X : State → Prop) : Prop := (∀ s U : State, s.WarmedH U.vm → (∀ q : Nat, q < s.heap.size → ¬ mm_A ad q → U.heap[q]? = s.heap[q]?) → X s → X U) ∧ ∀ u U : State, U.vm = u.vm → U.heap = u.heap → X u → X U
theorem mm_E.to {D : va_G} {ad : Nat → Nat} {G : ClassId × ClassId × ClassId} {X : State → Prop} (hX : mm_XOk ad X) {s U : State} (h : mm_E D ad G X s) (hW : s.WarmedH U.vm) (hh : ∀ q : Nat, q < s.heap.size → ¬ mm_A ad q → U.heap[q]? = s.heap[q]?) : mm_E D ad G X U :=
  ⟨va_K.moved hW.alike h.1, fun q hq => va_Nw.warmF hW (h.2.1 q hq), fun q hq => va_Nw.warmM hW (h.2.2.1 q hq), fun j q hq => vk_R.warm hW (h.2.2.2.1 j q hq), hX.1 s U hW hh h.2.2.2.2⟩
theorem mm_E.calling {D : va_G} {ad : Nat → Nat} {G : ClassId × ClassId × ClassId} {X : State → Prop} (hX : mm_XOk ad X) {U : State} (h : mm_E D ad G X U) (g : JFrame) (mk : MethodId) (a : Array Value) : mm_E D ad G X (U.calling g mk a) :=
  ⟨va_K.moved (u := U) (U := U.calling g mk a) (Vm.Alike.refl U.vm) h.1, fun q hq => va_Nw.same (u := U) rfl rfl (h.2.1 q hq), fun q hq => va_Nw.same (u := U) rfl rfl (h.2.2.1 q hq), fun j q hq => vk_R.same (u := U) rfl (h.2.2.2.1 j q hq), hX.2 U (U.calling g mk a) rfl rfl h.2.2.2.2⟩
def mm_Qc (D : va_G) (ad : Nat → Nat) (G : ClassId × ClassId × ClassId) (Q : mmP) : Array Value → State → Outcome → State → Prop := fun _ st o t => (∃ (r : Option mmV) (M : mmM), o = .returned (r.map (mm_val ad)) ∧ Q r M ∧ (∀ v, r = some v → mm_vin v) ∧ mm_mem M ∧ va_P D vwCl (mm_ws ad G M) t.heap) ∧ va_F (mm_A ad) st t
def mm_Pc (D : va_G) (ad : Nat → Nat) (G : ClassId × ClassId × ClassId) (X : State → Prop) (as : List mmV) (M : mmM) : Array Value → State → Prop := va_Pc (as.map (mm_val ad)) (fun U => va_P D vwCl (mm_ws ad G M) U.heap ∧ mm_E D ad G X U)
def mm_rm (r : mmRec) : Room := { frames := r.2.2.2.2.2.2.1, cells := 0, slots := 0, locals := r.2.2.2.2.2.2.2.1 }
def mm_rws (r : mmRec) : List Cond := Cond.code r.1 r.2.1 r.2.2.1 r.2.2.2.1 :: mm_words
def mm_met (l : Launch) (D : va_G) (ad : Nat → Nat) (G : ClassId × ClassId × ClassId) (X : State → Prop) (r : mmRec) (as : List mmV) (M : mmM) (Q : mmP) : Prop := Met l r.1 (mm_rws r) (mm_rm r) (mm_Pc D ad G X as M) (mm_Qc D ad G Q) 0 0 (mm_A ad)
/-- the method x does what t says -/
def mm_snd (l : Launch) (D : va_G) (ad : Nat → Nat) (G : ClassId × ClassId × ClassId) (X : State → Prop) (x : Nat) (t : mmT) : Prop := ∀ r, mm_rlk mm_recs x = some r → ∀ as M Q, (∀ v ∈ as, mm_vin v) → mm_mem M → t as M Q → mm_met l D ad G X r as M Q
/-- the ways in which an instruction may be written -/
def mm_exp (pc : Nat) (i : Instr) (x : Nat) : List (Instr × Nat) := match i with
  | .iload n => (.iload n, 2) :: (if h : n < 4 then [(.iload_n ⟨n, h⟩, 1)] else [])
  | .lload n => (.lload n, 2) :: (if h : n < 4 then [(.lload_n ⟨n, h⟩, 1)] else [])
  | .aload n => (.aload n, 2) :: (if h : n < 4 then [(.aload_n ⟨n, h⟩, 1)] else [])
  | .istore n => (.istore n, 2) :: (if h : n < 4 then [(.istore_n ⟨n, h⟩, 1)] else [])
  | .lstore n => (.lstore n, 2) :: (if h : n < 4 then [(.lstore_n ⟨n, h⟩, 1)] else [])
  | .astore n => (.astore n, 2) :: (if h : n < 4 then [(.astore_n ⟨n, h⟩, 1)] else [])
  | .iinc n d => [(.iinc n d, 3)]
  | .iconst z => [(.iconst z, 1), (.bipush z, 2), (.sipush z, 3), (.ldc x, 2), (.ldc_w x, 3)]
  | .bipush z => [(.ldc2_w x, 3)] ++ (if z = 0 then [(.lconst 0, 1)] else if z = 1 then [(.lconst 1, 1)] else [])
  | .ldc j => [(.ldc ((mm_sidx.getD j (0, "")).1), 2)]
  | .if_icmp c _ => [(.if_icmp c ((x : Int) - pc), 3)]
  | .ifCond c _ => [(.ifCond c ((x : Int) - pc), 3)]
  | .goto _ => [(.goto ((x : Int) - pc), 3)]
  | .lookupswitch _ ps => [(.tableswitch ((x : Int) - pc) ((ps.toList.headD (0, 0)).1) ((ps.toList.headD (0, 0)).1 + ps.toList.length - 1) ((ps.toList.map (fun q => q.2 - (pc : Int))).toArray), 1 + (3 - pc % 4) + 12 + 4 * ps.toList.length)]
  | .getfield n => [(.getfield n, 3)]
  | .getstatic n => [(.getfield n, 3)]
  | .putfield n => [(.putfield n, 3)]
  | .invokevirtual n => [(.invokevirtual n, 3)]
  | .invokestatic n => [(.invokestatic n, 3)]
  | .fadd => [(.invokestatic x, 3)]
  | .fsub => [(.invokestatic x, 3)]
  | .fmul => [(.invokestatic x, 3)]
  | .freturn => [(.ireturn, 1)]
  | i => [(i, 1)]
def mm_term (i : Instr) : Bool := match i with
  | .goto _ | .nop | .lookupswitch _ _ | .ireturn | .freturn | .lreturn | .areturn | .return_ => true
  | _ => false
def mm_hd (ops : List mmO) : Nat := match ops with
  | [] => 0
  | q :: _ => q.1
def mm_inR (z : Int) : Bool := decide (-2147483648 ≤ z) && decide (z ≤ 2147483647)
/-- the switch's cases are the numbers from the first on -/
def mm_seq (lo : Int) (ps : List (Int × Int)) : Bool := match ps with
  | [] => true
  | q :: r => decide (q.1 = lo) && decide (0 ≤ q.2) && mm_seq (lo + 1) r
def mm_side (oc maxL : Nat) (ret : Option FieldType) (fr lo : Nat) (d : Instr × Nat) (i : Instr) (x : Nat) (y : Int) : Bool := match i with
  | .istore n => decide (n < maxL)
  | .astore n => decide (n < maxL)
  | .lstore n => decide (n + 1 < maxL)
  | .iinc n e => decide (n < maxL) && mm_inR e
  | .iconst z => mm_inR z && (match d.1 with
    | .iconst _ => true
    | .bipush _ => decide (-128 ≤ z) && decide (z ≤ 127)
    | .sipush _ => decide (-32768 ≤ z) && decide (z ≤ 32767)
    | _ => mm_ints.contains (oc, x, z))
  | .bipush z => (decide (-9223372036854775808 ≤ z) && decide (z ≤ 9223372036854775807)) && (match d.1 with
    | .lconst _ => true
    | _ => mm_longs.contains (oc, x, z))
  | .ldc j => decide (j < 12) && decide (oc = 3)
  | .lookupswitch _ ps => mm_seq ((ps.toList.headD (0, 0)).1) ps.toList && decide (0 < ps.toList.length)
  | .getfield n => decide (0 ≤ y) && decide (x < 12) && decide ((mm_ft x)[y.toNat]? = some none) && (mm_flds.contains (oc, n, x, y.toNat, false) || mm_flds.contains (oc, n, x, y.toNat, true))
  | .putfield n => decide (0 ≤ y) && decide (x < 12) && decide ((mm_ft x)[y.toNat]? = some none) && (mm_flds.contains (oc, n, x, y.toNat, false) || mm_flds.contains (oc, n, x, y.toNat, true))
  | .getstatic n => decide (x < 12) && (List.range (mm_ft x).length).any (fun k => decide ((mm_ft x)[k]? = some (some y.toNat)) && (mm_flds.contains (oc, n, x, k, false) || mm_flds.contains (oc, n, x, k, true)))
  | .invokevirtual n => mm_sites.contains (oc, n, x, false) && decide (x / 100 < 12) && (match mm_rlk mm_recs x with
    | some r => !r.2.2.2.2.1 && decide (y = r.2.2.2.2.2.1 + 1) && decide (r.2.2.2.2.2.2.1 + 1 ≤ fr) && decide (8 + (r.2.2.1 + 11) + r.2.2.2.2.2.2.2.1 ≤ lo) && decide (r.2.2.2.2.2.2.2.2 = x / 100)
    | none => false)
  | .invokestatic n => (mm_sites.contains (oc, n, x, false) || mm_sites.contains (oc, n, x, true)) && (match mm_rlk mm_recs x with
    | some r => r.2.2.2.2.1 && decide (y = r.2.2.2.2.2.1) && decide (r.2.2.2.2.2.2.1 + 1 ≤ fr) && decide (8 + (r.2.2.1 + 11) + r.2.2.2.2.2.2.2.1 ≤ lo)
    | none => false)
  | .fadd => mm_maxs.contains (oc, x) && decide (1 ≤ fr) && decide (21 ≤ lo)
  | .fsub => mm_mins.contains (oc, x) && decide (1 ≤ fr) && decide (21 ≤ lo)
  | .fmul => mm_cpys.contains (oc, x) && decide (1 ≤ fr) && decide (26 ≤ lo)
  | .ireturn => decide (ret = some .int)
  | .freturn => decide (ret = some .boolean)
  | .lreturn => decide (ret = some .long)
  | .areturn => decide (ret = some (.array .int))
  | .return_ => decide (ret = none)
  | _ => true
def mm_chk (cc : ByteArray) (oc maxL : Nat) (ret : Option FieldType) (fr lo : Nat) : List mmO → Bool
  | [] => true
  | (pc, i, x, y) :: r => decide (i = .nop) || ((match decode cc pc with
    | .ok d => (mm_exp pc i x).any (fun a => decide (d = a)) && (mm_term i || decide (mm_hd r = pc + d.2)) && mm_side oc maxL ret fr lo d i x y
    | .error _ => false) && (mm_term i || mm_chk cc oc maxL ret fr lo r))
def mm_chkB (r : mmRec) (B : List (Nat × List mmO)) : Bool := B.all (fun q => decide (mm_hd q.2 = q.1) && mm_chk r.2.1 r.2.2.2.2.2.2.2.2 r.2.2.1 r.2.2.2.1 r.2.2.2.2.2.2.1 r.2.2.2.2.2.2.2.1 q.2)
theorem mm_ck_ints {e : Nat × Nat × Int} (h : mm_ints.contains e = true) : Cond.constant (mm_own e.1) e.2.1 (Int32.ofInt e.2.2) ∈ mm_words := mm_ints_ok e (by simpa using h)
end
section
/-! an instruction of the small machine is the machine's own -/
def mm_Cx (p : Program) (s : State) (m : MethodId) (args : Array Value) (meth : Method) (c : Code) (D : va_G) (ad : Nat → Nat) (G : ClassId × ClassId × ClassId) (X : State → Prop) (oc : Nat) (cc : ByteArray) (maxL : Nat) (ret : Option FieldType) : Prop :=
  p.tables.exec = Jvm.exec ∧ c.code = cc ∧ c.maxLocals = maxL ∧ meth.sig.returnType = ret ∧ meth.locks = false ∧ s.vm.findClass (mm_own oc) = some m.cls ∧ (∀ w ∈ mm_words, w.before args s = true) ∧ mm_E D ad G X s ∧ mm_XOk ad X ∧ ∀ i j, i < 77 → j < 77 → ad i = ad j → i = j
def mm_W (p : Program) (l : Launch) (e : Env) (R : Room) (s : State) (m : MethodId) (args : Array Value) (below : List Frame) (meth : Method) (c : Code) (Qs : State → Prop) (D : va_G) (ad : Nat → Nat) (G : ClassId × ClassId × ClassId) (maxL : Nat) (pc : Nat) : mmK := fun L S M => ∀ (H : Heap) (locs : List Loc) (ls : Array Slot), mm_LR ad maxL L ls → (∀ v ∈ S, mm_vin v) → mm_mem M → va_P D vwCl (mm_ws ad G M) H → va_S (mm_A ad) s.heap H locs → W p l e R s m args below meth c H locs 0 0 Qs (F0 m pc ls (S.map (mm_val ad)))
section MMS
variable {p : Program} {l : Launch} {e : Env} {R : Room} {s : State} {m : MethodId} {args : Array Value} {below : List Frame} {meth : Method} {c : Code} {Qs : State → Prop} {D : va_G} {ad : Nat → Nat} {G : ClassId × ClassId × ClassId} {X : State → Prop} {oc : Nat} {cc : ByteArray} {maxL : Nat} {ret : Option FieldType} {pc nx : Nat} {K : mmK} {L : mmL} {S : mmS} {M : mmM}
theorem mm_s_ldi (C : mm_Cx p s m args meth c D ad G X oc cc maxL ret) {n : Nat} (hd : (decode cc pc = .ok (.iload n, 2) ∧ nx = pc + 2) ∨ ∃ k : Fin 4, (k : Nat) = n ∧ decode cc pc = .ok (.iload_n k, 1) ∧ nx = pc + 1) (hK : ∀ L S M, K L S M → mm_W p l e R s m args below meth c Qs D ad G maxL nx L S M) (h : mm_ldi n K L S M) : mm_W p l e R s m args below meth c Qs D ad G maxL pc L S M := by
  intro H locs ls hL hS hM hP hSt
  unfold mm_ldi at h
  split at h
  · rename_i x hx
    have hl := hL.at hx
    have hk := hK _ _ _ h H locs ls hL (List.forall_mem_cons.mpr ⟨hL.2.2 n _ hx, hS⟩) hM hP hSt
    rcases hd with ⟨d, rfl⟩ | ⟨k, hkn, d, rfl⟩
    · exact lv_iload C.1 C.2.1 d hl hk
    · exact lv_iload_n C.1 C.2.1 d hkn hl hk
  · exact h.elim
theorem mm_s_ldl (C : mm_Cx p s m args meth c D ad G X oc cc maxL ret) {n : Nat} (hd : (decode cc pc = .ok (.lload n, 2) ∧ nx = pc + 2) ∨ ∃ k : Fin 4, (k : Nat) = n ∧ decode cc pc = .ok (.lload_n k, 1) ∧ nx = pc + 1) (hK : ∀ L S M, K L S M → mm_W p l e R s m args below meth c Qs D ad G maxL nx L S M) (h : mm_ldl n K L S M) : mm_W p l e R s m args below meth c Qs D ad G maxL pc L S M := by
  intro H locs ls hL hS hM hP hSt
  unfold mm_ldl at h
  split at h
  · rename_i x hx
    have hl := hL.at hx
    have hk := hK _ _ _ h H locs ls hL (List.forall_mem_cons.mpr ⟨hL.2.2 n _ hx, hS⟩) hM hP hSt
    rcases hd with ⟨d, rfl⟩ | ⟨k, hkn, d, rfl⟩
    · exact lv_lload C.1 C.2.1 d hl hk
    · exact lv_lload_n C.1 C.2.1 d hkn hl hk
  · exact h.elim
theorem mm_s_lda (C : mm_Cx p s m args meth c D ad G X oc cc maxL ret) {n : Nat} (hd : (decode cc pc = .ok (.aload n, 2) ∧ nx = pc + 2) ∨ ∃ k : Fin 4, (k : Nat) = n ∧ decode cc pc = .ok (.aload_n k, 1) ∧ nx = pc + 1) (hK : ∀ L S M, K L S M → mm_W p l e R s m args below meth c Qs D ad G maxL nx L S M) (h : mm_lda n K L S M) : mm_W p l e R s m args below meth c Qs D ad G maxL pc L S M := by
  intro H locs ls hL hS hM hP hSt
  unfold mm_lda at h
  split at h
  · rename_i x hx
    have hl := hL.at hx
    have hk := hK _ _ _ h H locs ls hL (List.forall_mem_cons.mpr ⟨hL.2.2 n _ hx, hS⟩) hM hP hSt
    rcases hd with ⟨d, rfl⟩ | ⟨k, hkn, d, rfl⟩
    · exact lv_aload C.1 C.2.1 d hl hk
    · exact lv_aload_n C.1 C.2.1 d hkn hl hk
  · exact h.elim
theorem mm_s_sti (C : mm_Cx p s m args meth c D ad G X oc cc maxL ret) {n : Nat} (hn : n < maxL) (hd : (decode cc pc = .ok (.istore n, 2) ∧ nx = pc + 2) ∨ ∃ k : Fin 4, (k : Nat) = n ∧ decode cc pc = .ok (.istore_n k, 1) ∧ nx = pc + 1) (hK : ∀ L S M, K L S M → mm_W p l e R s m args below meth c Qs D ad G maxL nx L S M) (h : mm_sti n K L S M) : mm_W p l e R s m args below meth c Qs D ad G maxL pc L S M := by
  intro H locs ls hL hS hM hP hSt
  rcases S with _ | ⟨x | x | x, S⟩
  · exact h.elim
  · obtain ⟨hv, hS⟩ := List.forall_mem_cons.mp hS
    have kk : ∀ ls' : Array Slot, lv_has ls' maxL ((n, mm_val ad (vi x)) :: (mm_lv ad L).filter (fun q => !(q.1 == n) && !(q.1 + 1 == n && q.2.category == 2))) → W p l e R s m args below meth c H locs 0 0 Qs (F0 m nx ls' (S.map (mm_val ad))) := fun ls' h' => hK _ _ _ h H locs ls' (hL.set1 hv h') hS hM hP hSt
    rcases hd with ⟨d, rfl⟩ | ⟨k, hkn, d, rfl⟩
    · exact lv_istore C.1 C.2.1 d hL.1 hn rfl kk
    · exact lv_istore_n C.1 C.2.1 d hkn hL.1 hn rfl kk
  · exact h.elim
  · exact h.elim
theorem mm_s_sta (C : mm_Cx p s m args meth c D ad G X oc cc maxL ret) {n : Nat} (hn : n < maxL) (hd : (decode cc pc = .ok (.astore n, 2) ∧ nx = pc + 2) ∨ ∃ k : Fin 4, (k : Nat) = n ∧ decode cc pc = .ok (.astore_n k, 1) ∧ nx = pc + 1) (hK : ∀ L S M, K L S M → mm_W p l e R s m args below meth c Qs D ad G maxL nx L S M) (h : mm_sta n K L S M) : mm_W p l e R s m args below meth c Qs D ad G maxL pc L S M := by
  intro H locs ls hL hS hM hP hSt
  rcases S with _ | ⟨x | x | x, S⟩
  · exact h.elim
  · exact h.elim
  · exact h.elim
  · obtain ⟨hv, hS⟩ := List.forall_mem_cons.mp hS
    have kk : ∀ ls' : Array Slot, lv_has ls' maxL ((n, mm_val ad (vr x)) :: (mm_lv ad L).filter (fun q => !(q.1 == n) && !(q.1 + 1 == n && q.2.category == 2))) → W p l e R s m args below meth c H locs 0 0 Qs (F0 m nx ls' (S.map (mm_val ad))) := fun ls' h' => hK _ _ _ h H locs ls' (hL.set1 hv h') hS hM hP hSt
    rcases hd with ⟨d, rfl⟩ | ⟨k, hkn, d, rfl⟩
    · exact lv_astore C.1 C.2.1 d hL.1 hn rfl kk
    · exact lv_astore_n C.1 C.2.1 d hkn hL.1 hn rfl kk
theorem mm_s_stl (C : mm_Cx p s m args meth c D ad G X oc cc maxL ret) {n : Nat} (hn : n + 1 < maxL) (hd : (decode cc pc = .ok (.lstore n, 2) ∧ nx = pc + 2) ∨ ∃ k : Fin 4, (k : Nat) = n ∧ decode cc pc = .ok (.lstore_n k, 1) ∧ nx = pc + 1) (hK : ∀ L S M, K L S M → mm_W p l e R s m args below meth c Qs D ad G maxL nx L S M) (h : mm_stl n K L S M) : mm_W p l e R s m args below meth c Qs D ad G maxL pc L S M := by
  intro H locs ls hL hS hM hP hSt
  rcases S with _ | ⟨x | x | x, S⟩
  · exact h.elim
  · exact h.elim
  · obtain ⟨hv, hS⟩ := List.forall_mem_cons.mp hS
    have kk : ∀ ls' : Array Slot, lv_has ls' maxL ((n, mm_val ad (vl x)) :: (mm_lv ad L).filter (fun q => !(q.1 == n) && (!(q.1 == n + 1) && !(q.1 + 1 == n && q.2.category == 2)))) → W p l e R s m args below meth c H locs 0 0 Qs (F0 m nx ls' (S.map (mm_val ad))) := fun ls' h' => hK _ _ _ h H locs ls' (hL.set2 hn hv h') hS hM hP hSt
    rcases hd with ⟨d, rfl⟩ | ⟨k, hkn, d, rfl⟩
    · exact lv_lstore C.1 C.2.1 d hL.1 hn rfl kk
    · exact lv_lstore_n C.1 C.2.1 d hkn hL.1 hn rfl kk
  · exact h.elim
theorem mm_s_inc (C : mm_Cx p s m args meth c D ad G X oc cc maxL ret) {n : Nat} {z : Int} (hn : n < maxL) (hd : decode cc pc = .ok (.iinc n z, 3)) (hK : ∀ L S M, K L S M → mm_W p l e R s m args below meth c Qs D ad G maxL (pc + 3) L S M) (h : mm_inc n z K L S M) : mm_W p l e R s m args below meth c Qs D ad G maxL pc L S M := by
  intro H locs ls hL hS hM hP hSt
  unfold mm_inc at h
  split at h
  · rename_i x hx
    obtain ⟨k, hk⟩ := List.getElem?_of_mem (mm_lv_mem (ad := ad) (w := mm_val ad (vi x)).mpr ⟨_, hx, rfl⟩)
    exact lv_iinc (v := Int32.ofInt (x + z)) C.1 C.2.1 hd hL.1 hk (Int32.ofInt_add x z).symm hn rfl (fun ls' h' => hK _ _ _ h.2 H locs ls' (hL.set1 (v := vi (x + z)) h.1 h') hS hM hP hSt)
  · exact h.elim
theorem mm_s_2i {P : Int → Int → Prop} {f : Int → Int → Int} (hrow : ∀ (x y : Int) (H : Heap) (locs : List Loc) (ls : Array Slot) (rest : List Value), mm_R x → mm_R y → P x y → mm_R (f x y) ∧ (W p l e R s m args below meth c H locs 0 0 Qs (F0 m nx ls (.int (Int32.ofInt (f x y)) :: rest)) → W p l e R s m args below meth c H locs 0 0 Qs (F0 m pc ls (.int (Int32.ofInt y) :: .int (Int32.ofInt x) :: rest)))) (hK : ∀ L S M, K L S M → mm_W p l e R s m args below meth c Qs D ad G maxL nx L S M) (h : mm_2i P f K L S M) : mm_W p l e R s m args below meth c Qs D ad G maxL pc L S M := by
  intro H locs ls hL hS hM hP hSt
  rcases S with _ | ⟨y | y | y, _ | ⟨x | x | x, S⟩⟩ <;> first | exact h.elim | skip
  obtain ⟨hy, hS⟩ := List.forall_mem_cons.mp hS
  obtain ⟨hx, hS⟩ := List.forall_mem_cons.mp hS
  obtain ⟨h1, h2⟩ := hrow x y H locs ls (S.map (mm_val ad)) hx hy h.1
  exact h2 (hK _ _ _ h.2 H locs ls hL (List.forall_mem_cons.mpr ⟨h1, hS⟩) hM hP hSt)
theorem mm_s_mm {f : Int → Int → Int} (hrow : ∀ (x y : Int) (H : Heap) (locs : List Loc) (ls : Array Slot) (rest : List Value), ls.size = maxL → (rest.map fun v => v.category).sum ≤ 8 → mm_R x → mm_R y → mm_R (f x y) ∧ (W p l e R s m args below meth c H locs 0 0 Qs (F0 m nx ls (.int (Int32.ofInt (f x y)) :: rest)) → W p l e R s m args below meth c H locs 0 0 Qs (F0 m pc ls (.int (Int32.ofInt y) :: .int (Int32.ofInt x) :: rest)))) (hK : ∀ L S M, K L S M → mm_W p l e R s m args below meth c Qs D ad G maxL nx L S M) (h : mm_mm f K L S M) (hcat : ∀ S : mmS, ((S.map (mm_val ad)).map fun v => v.category).sum = mm_cats S) : mm_W p l e R s m args below meth c Qs D ad G maxL pc L S M := by
  intro H locs ls hL hS hM hP hSt
  rcases S with _ | ⟨y | y | y, _ | ⟨x | x | x, S⟩⟩ <;> first | exact h.elim | skip
  obtain ⟨hy, hS⟩ := List.forall_mem_cons.mp hS
  obtain ⟨hx, hS⟩ := List.forall_mem_cons.mp hS
  obtain ⟨h1, h2⟩ := hrow x y H locs ls (S.map (mm_val ad)) hL.1.1 (by rw [hcat]; exact h.1) hx hy
  exact h2 (hK _ _ _ h.2 H locs ls hL (List.forall_mem_cons.mpr ⟨h1, hS⟩) hM hP hSt)
theorem mm_s_2l {P : Int → Int → Prop} {f : Int → Int → Int} (hrow : ∀ (x y : Int) (H : Heap) (locs : List Loc) (ls : Array Slot) (rest : List Value), mm_R64 x → mm_R64 y → P x y → mm_R64 (f x y) ∧ (W p l e R s m args below meth c H locs 0 0 Qs (F0 m nx ls (.long (Int64.ofInt (f x y)) :: rest)) → W p l e R s m args below meth c H locs 0 0 Qs (F0 m pc ls (.long (Int64.ofInt y) :: .long (Int64.ofInt x) :: rest)))) (hK : ∀ L S M, K L S M → mm_W p l e R s m args below meth c Qs D ad G maxL nx L S M) (h : mm_2l P f K L S M) : mm_W p l e R s m args below meth c Qs D ad G maxL pc L S M := by
  intro H locs ls hL hS hM hP hSt
  rcases S with _ | ⟨y | y | y, _ | ⟨x | x | x, S⟩⟩ <;> first | exact h.elim | skip
  obtain ⟨hy, hS⟩ := List.forall_mem_cons.mp hS
  obtain ⟨hx, hS⟩ := List.forall_mem_cons.mp hS
  obtain ⟨h1, h2⟩ := hrow x y H locs ls (S.map (mm_val ad)) hx hy h.1
  exact h2 (hK _ _ _ h.2 H locs ls hL (List.forall_mem_cons.mpr ⟨h1, hS⟩) hM hP hSt)
theorem mm_s_if2 (C : mm_Cx p s m args meth c D ad G X oc cc maxL ret) {J : mmK} {tg : Nat} {cn : Jvm.ClassFile.Cond} {off : Int} (hd : decode cc pc = .ok (.if_icmp cn off, 3)) (ht : (pc : Int) + off = (tg : Int)) (hJ : ∀ L S M, J L S M → mm_W p l e R s m args below meth c Qs D ad G maxL tg L S M) (hK : ∀ L S M, K L S M → mm_W p l e R s m args below meth c Qs D ad G maxL (pc + 3) L S M) (h : mm_if2 cn J K L S M) : mm_W p l e R s m args below meth c Qs D ad G maxL pc L S M := by
  intro H locs ls hL hS hM hP hSt
  rcases S with _ | ⟨y | y | y, _ | ⟨x | x | x, S⟩⟩ <;> first | exact h.elim | skip
  obtain ⟨hy, hS⟩ := List.forall_mem_cons.mp hS
  obtain ⟨hx, hS⟩ := List.forall_mem_cons.mp hS
  obtain ⟨h1, h2⟩ := h
  have a1 : mm_cmp cn x y → W p l e R s m args below meth c H locs 0 0 Qs (F0 m tg ls (S.map (mm_val ad))) := fun q => hJ _ _ _ (h1 q) H locs ls hL hS hM hP hSt
  have a2 : ¬ mm_cmp cn x y → W p l e R s m args below meth c H locs 0 0 Qs (F0 m (pc + 3) ls (S.map (mm_val ad))) := fun q => hK _ _ _ (h2 q) H locs ls hL hS hM hP hSt
  have hx : mm_R x := hx
  have hy : mm_R y := hy
  cases cn with
  | eq => exact lv_icmp_eq C.1 C.2.1 hd ht (fun q => a1 ((mm_inj hx hy).mp q)) (fun q => a2 (fun z => q ((mm_inj hx hy).mpr z)))
  | ne => exact lv_icmp_ne C.1 C.2.1 hd ht (fun q => a1 (fun z => q ((mm_inj hx hy).mpr z))) (fun q => a2 (fun z => z ((mm_inj hx hy).mp q)))
  | lt => exact lv_icmp_lt C.1 C.2.1 hd ht (fun q => a1 ((mm_lt hx hy).mp q)) (fun q => a2 (fun z => q ((mm_lt hx hy).mpr z)))
  | ge => exact lv_icmp_ge C.1 C.2.1 hd ht (fun q => a1 ((mm_le hy hx).mp q)) (fun q => a2 (fun z => q ((mm_le hy hx).mpr z)))
  | gt => exact lv_icmp_gt C.1 C.2.1 hd ht (fun q => a1 ((mm_lt hy hx).mp q)) (fun q => a2 (fun z => q ((mm_lt hy hx).mpr z)))
  | le => exact lv_icmp_le C.1 C.2.1 hd ht (fun q => a1 ((mm_le hx hy).mp q)) (fun q => a2 (fun z => q ((mm_le hx hy).mpr z)))
theorem mm_s_if1 (C : mm_Cx p s m args meth c D ad G X oc cc maxL ret) {J : mmK} {tg : Nat} {cn : Jvm.ClassFile.Cond} {off : Int} (hd : decode cc pc = .ok (.ifCond cn off, 3)) (ht : (pc : Int) + off = (tg : Int)) (hJ : ∀ L S M, J L S M → mm_W p l e R s m args below meth c Qs D ad G maxL tg L S M) (hK : ∀ L S M, K L S M → mm_W p l e R s m args below meth c Qs D ad G maxL (pc + 3) L S M) (h : mm_if1 cn J K L S M) : mm_W p l e R s m args below meth c Qs D ad G maxL pc L S M := by
  intro H locs ls hL hS hM hP hSt
  rcases S with _ | ⟨x | x | x, S⟩ <;> first | exact h.elim | skip
  obtain ⟨hx, hS⟩ := List.forall_mem_cons.mp hS
  obtain ⟨h1, h2⟩ := h
  have a1 : mm_cmp cn x 0 → W p l e R s m args below meth c H locs 0 0 Qs (F0 m tg ls (S.map (mm_val ad))) := fun q => hJ _ _ _ (h1 q) H locs ls hL hS hM hP hSt
  have a2 : ¬ mm_cmp cn x 0 → W p l e R s m args below meth c H locs 0 0 Qs (F0 m (pc + 3) ls (S.map (mm_val ad))) := fun q => hK _ _ _ (h2 q) H locs ls hL hS hM hP hSt
  have hx : mm_R x := hx
  have hy : mm_R 0 := ⟨by decide, by decide⟩
  cases cn with
  | eq => exact lv_if_eq C.1 C.2.1 hd ht (fun q => a1 ((mm_inj hx hy).mp q)) (fun q => a2 (fun z => q ((mm_inj hx hy).mpr z)))
  | ne => exact lv_if_ne C.1 C.2.1 hd ht (fun q => a1 (fun z => q ((mm_inj hx hy).mpr z))) (fun q => a2 (fun z => z ((mm_inj hx hy).mp q)))
  | lt => exact lv_if_lt C.1 C.2.1 hd ht (fun q => a1 ((mm_lt hx hy).mp q)) (fun q => a2 (fun z => q ((mm_lt hx hy).mpr z)))
  | ge => exact lv_if_ge C.1 C.2.1 hd ht (fun q => a1 ((mm_le hy hx).mp q)) (fun q => a2 (fun z => q ((mm_le hy hx).mpr z)))
  | gt => exact lv_if_gt C.1 C.2.1 hd ht (fun q => a1 ((mm_lt hy hx).mp q)) (fun q => a2 (fun z => q ((mm_lt hy hx).mpr z)))
  | le => exact lv_if_le C.1 C.2.1 hd ht (fun q => a1 ((mm_le hx hy).mp q)) (fun q => a2 (fun z => q ((mm_le hx hy).mpr z)))
theorem mm_sw_use {J : Int → Prop} {z d : Int} : ∀ (ps : List (Int × Int)) (lo : Int), mm_seq lo ps = true → mm_sw J z d ps → ((z < lo ∨ lo + ps.length ≤ z) → J d) ∧ ∀ (k : Nat) (q : Int × Int), ps[k]? = some q → z = lo + k → J q.2 ∧ 0 ≤ q.2
  | [], lo, _, h => ⟨fun _ => h, fun k q hk => by simp at hk⟩
  | a :: r, lo, hs, h => by
    simp only [mm_seq, Bool.and_eq_true, decide_eq_true_eq] at hs
    obtain ⟨⟨h1, h0⟩, h2⟩ := hs
    obtain ⟨g1, g2⟩ := h
    refine ⟨fun hz => ?_, fun k q hk hz => ?_⟩
    · have hz' : ¬ z = a.1 := by simp only [List.length_cons] at hz; omega
      exact (mm_sw_use r (lo + 1) h2 (g2 hz')).1 (by simp only [List.length_cons] at hz; omega)
    · cases k with
      | zero =>
        cases hk
        exact ⟨g1 (by omega), h0⟩
      | succ k =>
        have hz' : ¬ z = a.1 := by omega
        exact (mm_sw_use r (lo + 1) h2 (g2 hz')).2 k q (by simpa using hk) (by omega)
theorem mm_s_sw (C : mm_Cx p s m args meth c D ad G X oc cc maxL ret) {J : mmJ} {tg len : Nat} {ps : List (Int × Int)} {lo : Int} (hd : decode cc pc = .ok (.tableswitch ((tg : Int) - pc) lo (lo + ps.length - 1) ((ps.map (fun q => q.2 - (pc : Int))).toArray), len)) (hs : mm_seq lo ps = true) (hJ : ∀ b L S M, J b L S M → mm_W p l e R s m args below meth c Qs D ad G maxL b L S M) (h : mm_swi J tg ps L S M) : mm_W p l e R s m args below meth c Qs D ad G maxL pc L S M := by
  intro H locs ls hL hS hM hP hSt
  rcases S with _ | ⟨z | z | z, S⟩ <;> first | exact h.elim | skip
  obtain ⟨hz, hS⟩ := List.forall_mem_cons.mp hS
  have hz : mm_R z := hz
  obtain ⟨g1, g2⟩ := mm_sw_use ps lo hs h
  by_cases hr : z < lo ∨ lo + ps.length ≤ z
  · have := hJ _ _ _ _ (g1 hr) H locs ls hL hS hM hP hSt
    refine lv_tableOut (tgt := tg) C.1 C.2.1 hd (by rw [mm_ti hz]; omega) (by omega) ?_
    exact this
  · have hk : (z - lo).toNat < ps.length := by omega
    obtain ⟨k1, k2⟩ := g2 (z - lo).toNat _ (List.getElem?_eq_getElem hk) (by omega)
    have := hJ _ _ _ _ k1 H locs ls hL hS hM hP hSt
    refine lv_tableIn (off := ps[(z - lo).toNat].2 - pc) (tgt := ps[(z - lo).toNat].2.toNat) C.1 C.2.1 hd (by rw [mm_ti hz]; omega) (by rw [mm_ti hz]; omega) ?_ (by omega) this
    rw [mm_ti hz]
    simp [hk]
end MMS
end
section
/-! fields, arrays and calls of the small machine -/
theorem mm_len_R (o : Nat) : 0 ≤ mm_len o ∧ mm_len o ≤ 600 := by
  rcases Nat.lt_or_ge o 77 with h | h
  · have : ∀ o : Fin 77, 0 ≤ mm_len o.val ∧ mm_len o.val ≤ 600 := by decide +kernel
    exact this ⟨o, h⟩
  · have : mm_len o = 0 := by unfold mm_len; rw [List.getD_eq_getElem?_getD, List.getElem?_eq_none (by show 77 ≤ o; exact h)]; rfl
    omega
theorem mm_mem_up {M : mmM} {o : Nat} {i x : Int} (h : mm_mem M) (hx : mm_R x) : mm_mem (mm_up M o i x) := by
  intro o' i'
  unfold mm_up
  split
  · exact hx
  · exact h o' i'
theorem mm_mem_cpy {M : mmM} {a b : Nat} {sp dp n : Int} (h : mm_mem M) : mm_mem (mm_cpy M a sp b dp n) := by
  intro o' i'
  unfold mm_cpy
  split
  · exact h _ _
  · exact h o' i'
def mm_clsF (ci : Nat) (C : String) (T : u_T) (N : Nat) : Prop := (∀ w ∈ u_ws C T N, w ∈ mm_words) ∧ ∃ ty : Nat → FieldType, (∀ k, k < N → parseFieldDescriptor (T k).2.2.1 = some (ty k)) ∧ (∀ a, a < N → ∀ b, b < N → a ≠ b → (T a).2.1 ≠ (T b).2.1) ∧ ∀ k, k < N → (mm_ft ci)[k]? = some none → ty k = .int ∧ (T k).2.2.2 = false
theorem mm_clsOk {ci : Nat} {C : String} {T : u_T} {N : Nat} (h : vwCl[ci]? = some (C, T, N)) : mm_clsF ci C T N := by
  match ci, h with
  | 0, h => cases h; exact ⟨mc_0, tyX0, tyX0_ok, nmX0, by decide +kernel⟩
  | 1, h => cases h; exact ⟨mc_1, tyX1, tyX1_ok, nmX1, by decide +kernel⟩
  | 2, h => cases h; exact ⟨mc_2, tyX2, tyX2_ok, nmX2, by decide +kernel⟩
  | 3, h => cases h; exact ⟨mc_3, tyX3, tyX3_ok, nmX3, by decide +kernel⟩
  | 4, h => cases h; exact ⟨mc_4, tyX4, tyX4_ok, nmX4, by decide +kernel⟩
  | 5, h => cases h; exact ⟨mc_5, tyX5, tyX5_ok, nmX5, by decide +kernel⟩
  | 6, h => cases h; exact ⟨mc_6, tyX6, tyX6_ok, nmX6, by decide +kernel⟩
  | 7, h => cases h; exact ⟨mc_7, tyX7, tyX7_ok, nmX7, by decide +kernel⟩
  | 8, h => cases h; exact ⟨mc_8, tyX8, tyX8_ok, nmX8, by decide +kernel⟩
  | 9, h => cases h; exact ⟨mc_9, tyX9, tyX9_ok, nmX9, by decide +kernel⟩
  | 10, h => cases h; exact ⟨mc_10, tyX10, tyX10_ok, nmX10, by decide +kernel⟩
  | 11, h => cases h; exact ⟨mc_11, tyX11, tyX11_ok, nmX11, by decide +kernel⟩
  | k + 12, h => simp at h
theorem mm_catsE (ad : Nat → Nat) : ∀ S : mmS, ((S.map (mm_val ad)).map fun v => v.category).sum = mm_cats S
  | [] => rfl
  | v :: S => by
    simp only [List.map_cons, List.sum_cons, mm_catsE ad S, mm_val_cat]
    rfl
section MMM
variable {p : Program} {l : Launch} {e : Env} {R : Room} {s : State} {m : MethodId} {args : Array Value} {below : List Frame} {meth : Method} {c : Code} {Qs : State → Prop} {D : va_G} {ad : Nat → Nat} {G : ClassId × ClassId × ClassId} {X : State → Prop} {oc : Nat} {cc : ByteArray} {maxL : Nat} {ret : Option FieldType} {pc nx : Nat} {K : mmK} {L : mmL} {S : mmS} {M : mmM}
theorem mm_obj {o : Nat} (h : mm_cls o < 12) : (mm_ws ad G M)[o]? = some (ad o, .inr (mm_cls o, mm_fl ad M o)) := by
  rw [mm_ws_get (mm_lt77 (by omega)), mm_cell_o (by omega)]
theorem mm_s_get (C : mm_Cx p s m args meth c D ad G X oc cc maxL ret) {o k idx : Nat} {nest : Bool} {v : Value} {H : Heap} {locs : List Loc} {ls : Array Slot} {rest : List Value} (hci : mm_cls o < 12) (hfl : mm_fact (oc, idx, mm_cls o, k, nest)) (hv : (mm_fl ad M o)[k]? = some v) (hP : va_P D vwCl (mm_ws ad G M) H) (hd : decode cc pc = .ok (.getfield idx, 3)) (kk : W p l e R s m args below meth c H locs 0 0 Qs (F0 m (pc + 3) ls (v :: rest))) : W p l e R s m args below meth c H locs 0 0 Qs (F0 m pc ls (.ref (ad o) :: rest)) := by
  obtain ⟨Cn, T, N, hc, hkN, hT1, hl0, hl1⟩ := hfl
  obtain ⟨hin, ty, hty, hnm, hint⟩ := mm_clsOk hc
  have hE := C.2.2.2.2.2.2.2.1
  cases nest with
  | false => exact va_get C.1 C.2.1 C.2.2.2.2.2.2.1 hin C.2.2.2.2.2.1 hE.1 hP o (mm_obj hci) hc k hkN (C.2.2.2.2.2.2.1 _ (hl0 rfl)) (fun x hx => by rw [hT1] at hx; exact hx) hv hd kk
  | true => exact va_getN C.1 C.2.1 C.2.2.2.2.2.2.1 hin C.2.2.2.2.2.1 hE.1 hP o (mm_obj hci) hc k hkN (va_Nw.use rfl (hE.2.1 _ (hl1 rfl))) (fun x hx => by rw [hT1] at hx; exact hx) hv hd kk
theorem mm_s_geti (C : mm_Cx p s m args meth c D ad G X oc cc maxL ret) {ci k idx : Nat} {nest : Bool} (hci : ci < 12) (hft : (mm_ft ci)[k]? = some none) (hfl : mm_fact (oc, idx, ci, k, nest)) (hd : decode cc pc = .ok (.getfield idx, 3)) (hK : ∀ L S M, K L S M → mm_W p l e R s m args below meth c Qs D ad G maxL (pc + 3) L S M) (h : mm_geti ci k K L S M) : mm_W p l e R s m args below meth c Qs D ad G maxL pc L S M := by
  intro H locs ls hL hS hM hP hSt
  rcases S with _ | ⟨o | o | o, S⟩ <;> first | exact h.elim | skip
  obtain ⟨rfl, hk⟩ := h
  exact mm_s_get C hci hfl (mm_fl_get hft) hP hd (hK _ _ _ hk H locs ls hL (List.forall_mem_cons.mpr ⟨hM o k, (List.forall_mem_cons.mp hS).2⟩) hM hP hSt)
theorem mm_s_geta (C : mm_Cx p s m args meth c D ad G X oc cc maxL ret) {ci k idx d : Nat} {nest : Bool} (hci : ci < 12) (hft : (mm_ft ci)[k]? = some (some d)) (hfl : mm_fact (oc, idx, ci, k, nest)) (hd : decode cc pc = .ok (.getfield idx, 3)) (hK : ∀ L S M, K L S M → mm_W p l e R s m args below meth c Qs D ad G maxL (pc + 3) L S M) (h : mm_geta ci d K L S M) : mm_W p l e R s m args below meth c Qs D ad G maxL pc L S M := by
  intro H locs ls hL hS hM hP hSt
  rcases S with _ | ⟨o | o | o, S⟩ <;> first | exact h.elim | skip
  obtain ⟨rfl, hk⟩ := h
  exact mm_s_get C hci hfl (mm_fl_get hft) hP hd (hK _ _ _ hk H locs ls hL (List.forall_mem_cons.mpr ⟨trivial, (List.forall_mem_cons.mp hS).2⟩) hM hP hSt)
theorem mm_s_puti (C : mm_Cx p s m args meth c D ad G X oc cc maxL ret) {ci k idx : Nat} {nest : Bool} (hci : ci < 12) (hft : (mm_ft ci)[k]? = some none) (hfl : mm_fact (oc, idx, ci, k, nest)) (hd : decode cc pc = .ok (.putfield idx, 3)) (hK : ∀ L S M, K L S M → mm_W p l e R s m args below meth c Qs D ad G maxL (pc + 3) L S M) (h : mm_puti ci k K L S M) : mm_W p l e R s m args below meth c Qs D ad G maxL pc L S M := by
  intro H locs ls hL hS hM hP hSt
  rcases S with _ | ⟨x | x | x, _ | ⟨o | o | o, S⟩⟩ <;> first | exact h.elim | skip
  obtain ⟨rfl, hk⟩ := h
  obtain ⟨hx, hS⟩ := List.forall_mem_cons.mp hS
  obtain ⟨-, hS⟩ := List.forall_mem_cons.mp hS
  obtain ⟨Cn, T, N, hc, hkN, hT1, hl0, hl1⟩ := hfl
  obtain ⟨hin, ty, hty, hnm, hint⟩ := mm_clsOk hc
  obtain ⟨hti, hfin⟩ := hint k hkN hft
  have hE := C.2.2.2.2.2.2.2.1
  have hD : va_D (mm_A ad) (mm_ws ad G M) := mm_D C.2.2.2.2.2.2.2.2.2
  have kk : ∀ (H1 : Heap) (locs1 : List Loc), va_P D vwCl ((mm_ws ad G M).set o (ad o, .inr (mm_cls o, (mm_fl ad M o).set k (.int (Int32.ofInt x))))) H1 → va_D (mm_A ad) ((mm_ws ad G M).set o (ad o, .inr (mm_cls o, (mm_fl ad M o).set k (.int (Int32.ofInt x))))) → va_S (mm_A ad) s.heap H1 locs1 → W p l e R s m args below meth c H1 locs1 0 0 Qs (F0 m (pc + 3) ls (S.map (mm_val ad))) := by
    intro H1 locs1 hP1 _ hS1
    rw [mm_ws_set (M' := mm_up M o k x) mm_up_ne (by rw [mm_cell_o (by omega), mm_fl_set hft])] at hP1
    exact hK _ _ _ hk H1 locs1 ls hL hS (mm_mem_up hM hx) hP1 hS1
  have hl : k < (mm_fl ad M o).length := (List.getElem?_eq_some_iff.mp (mm_fl_get (ad := ad) (M := M) hft)).1
  cases nest with
  | false => exact va_put (ty := .int) C.1 C.2.1 C.2.2.2.2.2.2.1 hin ty hty hnm C.2.2.2.2.2.1 hE.1 hP hD hSt o (mm_obj hci) hc k hkN (C.2.2.2.2.2.2.1 _ (hl0 rfl)) (fun z hz => by rw [hT1] at hz; exact hz) hfin (by rw [← hti]; exact hty k hkN) rfl rfl hl hd kk
  | true => exact va_putN (ty := .int) C.1 C.2.1 C.2.2.2.2.2.2.1 hin ty hty hnm C.2.2.2.2.2.1 hE.1 hP hD hSt o (mm_obj hci) hc k hkN (va_Nw.use rfl (hE.2.1 _ (hl1 rfl))) (fun z hz => by rw [hT1] at hz; exact hz) hfin (by rw [← hti]; exact hty k hkN) rfl rfl hl hd kk
theorem mm_s_iald (C : mm_Cx p s m args meth c D ad G X oc cc maxL ret) (hd : decode cc pc = .ok (.iaload, 1)) (hK : ∀ L S M, K L S M → mm_W p l e R s m args below meth c Qs D ad G maxL (pc + 1) L S M) (h : mm_iald K L S M) : mm_W p l e R s m args below meth c Qs D ad G maxL pc L S M := by
  intro H locs ls hL hS hM hP hSt
  rcases S with _ | ⟨i | i | i, _ | ⟨a | a | a, S⟩⟩ <;> first | exact h.elim | skip
  obtain ⟨hc, ⟨h0, h1⟩, hk⟩ := h
  obtain ⟨hi, hS⟩ := List.forall_mem_cons.mp hS
  obtain ⟨-, hS⟩ := List.forall_mem_cons.mp hS
  refine va_iald C.1 C.2.1 C.2.2.2.2.2.2.2.1.1 hP a 0 (by rw [mm_ws_get (mm_lt77 (by omega)), mm_cell_i hc]) rfl (mm_vpin hi h0 h1) hd ?_
  rw [mm_clamp hi h0, Int.toNat_of_nonneg h0]
  exact hK _ _ _ hk H locs ls hL (List.forall_mem_cons.mpr ⟨hM a i, hS⟩) hM hP hSt
theorem mm_s_bald (C : mm_Cx p s m args meth c D ad G X oc cc maxL ret) (hd : decode cc pc = .ok (.baload, 1)) (hK : ∀ L S M, K L S M → mm_W p l e R s m args below meth c Qs D ad G maxL (pc + 1) L S M) (h : mm_bald K L S M) : mm_W p l e R s m args below meth c Qs D ad G maxL pc L S M := by
  intro H locs ls hL hS hM hP hSt
  rcases S with _ | ⟨i | i | i, _ | ⟨a | a | a, S⟩⟩ <;> first | exact h.elim | skip
  obtain ⟨hc, ⟨h0, h1⟩, hk⟩ := h
  obtain ⟨hi, hS⟩ := List.forall_mem_cons.mp hS
  obtain ⟨-, hS⟩ := List.forall_mem_cons.mp hS
  refine va_bald C.1 C.2.1 C.2.2.2.2.2.2.2.1.1 hP a 1 (by rw [mm_ws_get (mm_lt77 (by omega)), mm_cell_b hc]) rfl (mm_vpin hi h0 h1) hd ?_
  rw [mm_clamp hi h0, Int.toNat_of_nonneg h0]
  exact hK _ _ _ hk H locs ls hL (List.forall_mem_cons.mpr ⟨hM a i, hS⟩) hM hP hSt
theorem mm_s_aald (C : mm_Cx p s m args meth c D ad G X oc cc maxL ret) (hd : decode cc pc = .ok (.aaload, 1)) (hK : ∀ L S M, K L S M → mm_W p l e R s m args below meth c Qs D ad G maxL (pc + 1) L S M) (h : mm_aald K L S M) : mm_W p l e R s m args below meth c Qs D ad G maxL pc L S M := by
  intro H locs ls hL hS hM hP hSt
  rcases S with _ | ⟨i | i | i, _ | ⟨a | a | a, S⟩⟩ <;> first | exact h.elim | skip
  obtain ⟨hc, ⟨h0, h1⟩, hk⟩ := h
  obtain ⟨hi, hS⟩ := List.forall_mem_cons.mp hS
  obtain ⟨-, hS⟩ := List.forall_mem_cons.mp hS
  have hcell := hP a _ (by rw [mm_ws_get (mm_lt77 (by omega)), mm_cell_a hc])
  have hin := mm_vpin hi h0 h1
  have hlt : (Int32.ofInt i).toNatClampNeg < (mm_len a).toNat := Nat.not_le.mp fun q => hin (Or.inr q)
  refine W.aald (v := .ref (ad (a + 1 + i.toNat))) (ty := .array .int) C.1 C.2.1 hcell ((C.2.2.2.2.2.2.2.1.1.2 2 _ rfl).1 (mm_len a).toNat (fun j => va_rf (some (ad (a + 1 + j))))) rfl (fun q => by cases q) (by show ¬ (_ ∨ (arrV _ _ _).slots.size ≤ _); rw [arrV_size]; exact hin) (by show (arrV _ _ _).slots[_]? = _; rw [arrV_read _ _ hlt, mm_clamp hi h0]; rfl) rfl rfl hd ?_
  exact hK _ _ _ hk H locs ls hL (List.forall_mem_cons.mpr ⟨trivial, hS⟩) hM hP hSt
theorem mm_s_iast (C : mm_Cx p s m args meth c D ad G X oc cc maxL ret) (hd : decode cc pc = .ok (.iastore, 1)) (hK : ∀ L S M, K L S M → mm_W p l e R s m args below meth c Qs D ad G maxL (pc + 1) L S M) (h : mm_iast K L S M) : mm_W p l e R s m args below meth c Qs D ad G maxL pc L S M := by
  intro H locs ls hL hS hM hP hSt
  rcases S with _ | ⟨x | x | x, _ | ⟨i | i | i, _ | ⟨a | a | a, S⟩⟩⟩ <;> first | exact h.elim | skip
  obtain ⟨hc, ⟨h0, h1⟩, hk⟩ := h
  obtain ⟨hx, hS⟩ := List.forall_mem_cons.mp hS
  obtain ⟨hi, hS⟩ := List.forall_mem_cons.mp hS
  obtain ⟨-, hS⟩ := List.forall_mem_cons.mp hS
  refine va_iast C.1 C.2.1 C.2.2.2.2.2.2.2.1.1 hP (mm_D C.2.2.2.2.2.2.2.2.2) hSt a 0 (by rw [mm_ws_get (mm_lt77 (by omega)), mm_cell_i hc]) rfl (mm_vpin hi h0 h1) hd (fun H1 locs1 hP1 _ hS1 => ?_)
  rw [mm_clamp hi h0, mm_ws_set (M' := mm_up M a i x) mm_up_ne (by rw [mm_cell_i hc, mm_up_fn h0])] at hP1
  exact hK _ _ _ hk H1 locs1 ls hL hS (mm_mem_up hM hx) hP1 hS1
theorem mm_i2bR (x : Int) : mm_R (mm_i2b x) := mm_Rof _
theorem mm_s_bast (C : mm_Cx p s m args meth c D ad G X oc cc maxL ret) (hd : decode cc pc = .ok (.bastore, 1)) (hK : ∀ L S M, K L S M → mm_W p l e R s m args below meth c Qs D ad G maxL (pc + 1) L S M) (h : mm_bast K L S M) : mm_W p l e R s m args below meth c Qs D ad G maxL pc L S M := by
  intro H locs ls hL hS hM hP hSt
  rcases S with _ | ⟨x | x | x, _ | ⟨i | i | i, _ | ⟨a | a | a, S⟩⟩⟩ <;> first | exact h.elim | skip
  obtain ⟨hc, ⟨h0, h1⟩, hk⟩ := h
  obtain ⟨hx, hS⟩ := List.forall_mem_cons.mp hS
  obtain ⟨hi, hS⟩ := List.forall_mem_cons.mp hS
  obtain ⟨-, hS⟩ := List.forall_mem_cons.mp hS
  refine va_bast C.1 C.2.1 C.2.2.2.2.2.2.2.1.1 hP (mm_D C.2.2.2.2.2.2.2.2.2) hSt a 1 (by rw [mm_ws_get (mm_lt77 (by omega)), mm_cell_b hc]) rfl (mm_vpin hi h0 h1) hd (fun H1 locs1 hP1 _ hS1 => ?_)
  rw [mm_clamp hi h0, mm_ws_set (M' := mm_up M a i (mm_i2b x)) mm_up_ne (by rw [mm_cell_b hc, mm_up_fn h0, vp_nar_byte, mm_i2b, mm_of])] at hP1
  exact hK _ _ _ hk H1 locs1 ls hL hS (mm_mem_up hM (mm_i2bR x)) hP1 hS1
theorem mm_s_alen (C : mm_Cx p s m args meth c D ad G X oc cc maxL ret) (hd : decode cc pc = .ok (.arraylength, 1)) (hK : ∀ L S M, K L S M → mm_W p l e R s m args below meth c Qs D ad G maxL (pc + 1) L S M) (h : mm_alen K L S M) : mm_W p l e R s m args below meth c Qs D ad G maxL pc L S M := by
  intro H locs ls hL hS hM hP hSt
  rcases S with _ | ⟨a | a | a, S⟩ <;> first | exact h.elim | skip
  obtain ⟨hc, hk⟩ := h
  obtain ⟨-, hS⟩ := List.forall_mem_cons.mp hS
  have hl := mm_len_R a
  have hv : Int32.ofNat (mm_len a).toNat = Int32.ofInt (mm_len a) := by
    apply Int32.toInt_inj.mp
    rw [mm_ti ⟨by omega, by omega⟩]
    show (nI (mm_len a).toNat).toInt = _
    rw [nI_toInt (by omega)]
    omega
  have kk := hK _ _ _ hk H locs ls hL (List.forall_mem_cons.mpr ⟨show mm_R (mm_len a) from ⟨by omega, by omega⟩, hS⟩) hM hP hSt
  rcases hc with hc | hc
  · exact va_alen C.1 C.2.1 C.2.2.2.2.2.2.2.1.1 hP a 0 (by rw [mm_ws_get (mm_lt77 (by omega)), mm_cell_i hc]) (ty := .int) rfl hv hd kk
  · exact va_alen C.1 C.2.1 C.2.2.2.2.2.2.2.1.1 hP a 1 (by rw [mm_ws_get (mm_lt77 (by omega)), mm_cell_b hc]) (ty := .byte) rfl hv hd kk
theorem mm_nn {x : Int} (h : mm_R x) (h0 : 0 ≤ x) : ¬ Int32.ofInt x < 0 := fun q => by
  have h9 : mm_R 0 := ⟨by decide, by decide⟩
  have := (mm_lt h h9).mp q
  omega
theorem mm_s_acpy (C : mm_Cx p s m args meth c D ad G X oc cc maxL ret) {idx : Nat} (hfr : 1 ≤ R.frames) (hlo : 26 ≤ R.locals) (hl : Cond.methodLink (mm_own oc) idx arraycopyName ∈ mm_words) (hd : decode cc pc = .ok (.invokestatic idx, 3)) (hK : ∀ L S M, K L S M → mm_W p l e R s m args below meth c Qs D ad G maxL (pc + 3) L S M) (h : mm_acpy K L S M) : mm_W p l e R s m args below meth c Qs D ad G maxL pc L S M := by
  intro H locs ls hL hS hM hP hSt
  rcases S with _ | ⟨n | n | n, _ | ⟨dp | dp | dp, _ | ⟨b | b | b, _ | ⟨sp | sp | sp, _ | ⟨a | a | a, S⟩⟩⟩⟩⟩ <;> first | exact h.elim | skip
  obtain ⟨⟨ha, hb, hab, hn0, hs0, hs1, hd0, hd1, hcat⟩, hk⟩ := h
  obtain ⟨hn, hS⟩ := List.forall_mem_cons.mp hS
  obtain ⟨hdp, hS⟩ := List.forall_mem_cons.mp hS
  obtain ⟨-, hS⟩ := List.forall_mem_cons.mp hS
  obtain ⟨hsp, hS⟩ := List.forall_mem_cons.mp hS
  obtain ⟨-, hS⟩ := List.forall_mem_cons.mp hS
  have hw := C.2.2.2.2.2.2.1
  refine va_copyi (ty := .int) C.1 C.2.1 (C.2.2.1.trans hL.1.1.symm) C.2.2.2.2.2.1 (hw _ hl) (hw _ mm_cpyN) (hw _ mm_cpyS) (hw _ mm_cpyI) C.2.2.2.2.2.2.2.1.1 hP (mm_D C.2.2.2.2.2.2.2.2.2) hSt a b 0 0 (by rw [mm_ws_get (mm_lt77 (by omega)), mm_cell_i ha]) (by rw [mm_ws_get (mm_lt77 (by omega)), mm_cell_i hb]) rfl rfl rfl (mm_nn hsp hs0) (mm_nn hdp hd0) (mm_nn hn hn0) (by rw [mm_clamp hsp hs0, mm_clamp hn hn0]; omega) (by rw [mm_clamp hdp hd0, mm_clamp hn hn0]; omega) (fun _ _ => rfl) hfr ?_ hd (fun H1 locs1 hP1 _ hS1 => ?_)
  · rw [mm_catsE]
    show _ + (nativeFrameWords "java/lang/System" "arraycopy" 5 + 11) ≤ _
    have : nativeFrameWords "java/lang/System" "arraycopy" 5 = 7 := by decide +kernel
    omega
  · rw [mm_clamp hsp hs0, mm_clamp hdp hd0, mm_clamp hn hn0, mm_ws_set (M' := mm_cpy M a sp b dp n) (fun o' ho i => if_neg (fun q => ho q.1)) (by
      rw [mm_cell_i hb]
      congr 4
      funext j
      unfold va_cpy mm_cpy
      by_cases hj : dp.toNat ≤ j ∧ j < dp.toNat + n.toNat
      · rw [if_pos ⟨rfl, by omega, by omega⟩, if_pos hj]
        congr 2
        omega
      · rw [if_neg (by omega), if_neg hj])] at hP1
    exact hK _ _ _ hk H1 locs1 ls hL hS (mm_mem_cpy hM) hP1 hS1
end MMM
end
section
/-! calls of the small machine, and a method's soundness -/
theorem mm_pop_use {K : List mmV → mmS → Prop} : ∀ (n : Nat) (acc : List mmV) (S : mmS), mm_pop K n acc S → ∃ (vs : List mmV) (rest : mmS), vs.length = n ∧ S = vs ++ rest ∧ K (vs.reverse ++ acc) rest
  | 0, acc, S, h => ⟨[], S, rfl, rfl, h⟩
  | n + 1, acc, [], h => h.elim
  | n + 1, acc, v :: S, h => by
    obtain ⟨vs, rest, h1, h2, h3⟩ := mm_pop_use n (v :: acc) S h
    exact ⟨v :: vs, rest, by simp [h1], by simp [h2], by simpa using h3⟩
theorem mm_find_use {T : List (Nat × mmT)} {x : Nat} {as : List mmV} {M : mmM} {Q : mmP} : mm_find T x as M Q → ∃ t, (x, t) ∈ T ∧ t as M Q := by
  induction T with
  | nil => intro h; exact h.elim
  | cons q r ih =>
    intro h
    unfold mm_find at h
    split at h
    · rename_i h1
      exact ⟨q.2, by rw [← h1]; exact List.mem_cons_self, h⟩
    · obtain ⟨t, h1, h2⟩ := ih h
      exact ⟨t, List.mem_cons_of_mem _ h1, h2⟩
theorem mm_good {w : Cond} (h : w ∈ mm_words) : w ∈ mm_words ∧ ((w.onTables && w.keeps) = true ∨ ∃ ty, w = .arrayClass ty) := ⟨h, good_of_word (List.mem_filter.mp h).2⟩
theorem mm_goodR {r : mmRec} (h : mm_recOk r) : GoodIn mm_words (mm_rws r) := fun w hw => by
  rcases List.mem_cons.mp hw with rfl | h1
  · exact mm_good h.1
  · exact mm_good h1
theorem mm_rlk_mem {r : mmRec} {x : Nat} : ∀ {l : List (Nat × mmRec)}, mm_rlk l x = some r → (x, r) ∈ l
  | [], h => by cases h
  | q :: t, h => by
    unfold mm_rlk at h
    cases hb : Nat.beq q.1 x with
    | true =>
      rw [hb] at h
      have h1 : q.1 = x := Nat.eq_of_beq_eq_true hb
      have h2 : q.2 = r := Option.some.inj h
      rw [← h1, ← h2]; exact List.mem_cons_self
    | false => rw [hb] at h; exact List.mem_cons_of_mem _ (mm_rlk_mem h)
section MMC
variable {p : Program} {l : Launch} {e : Env} {R : Room} {s : State} {m : MethodId} {args : Array Value} {below : List Frame} {meth : Method} {c : Code} {Qs : State → Prop} {D : va_G} {ad : Nat → Nat} {G : ClassId × ClassId × ClassId} {X : State → Prop} {oc : Nat} {cc : ByteArray} {maxL : Nat} {ret : Option FieldType} {pc nx : Nat} {K : mmK} {L : mmL} {S : mmS} {M : mmM}
theorem mm_run {H : Heap} {locs : List Loc} {ls : Array Slot} {st0 rest : List Value} {a : Array Value} {Q : mmP} (hr : va_Run p l e R s m args below meth c H locs 0 0 0 0 (F0 m pc ls st0) rest (mm_Qc D ad G Q a) (mm_A ad)) (hS : va_S (mm_A ad) s.heap H locs)
    (kk : ∀ (r : Option mmV) (M : mmM) (H1 : Heap) (locs1 : List Loc), Q r M → (∀ v, r = some v → mm_vin v) → mm_mem M → va_P D vwCl (mm_ws ad G M) H1 → va_S (mm_A ad) s.heap H1 locs1 → W p l e R s m args below meth c H1 locs1 0 0 Qs (F0 m (pc + 3) ls ((r.map (mm_val ad)).toList ++ rest))) : W p l e R s m args below meth c H locs 0 0 Qs (F0 m pc ls st0) := by
  intro T hT X
  obtain ⟨v, st₀, t, T', L, h0, X', hL, e1, e2, ⟨⟨r, M', hv, hq, hvr, hm, hp⟩, hz, hk⟩, st⟩ := hr T hT X
  cases hv
  rw [h0] at hz hk
  obtain ⟨t2, a1, b1⟩ := kk r M' T'.heap (locs ++ L) hq hvr hm (by rw [e1]; exact hp)
    ⟨Nat.le_trans hS.1 (by rw [e1]; exact hz), fun q h1 h2 => by rw [e1, hk q (Nat.lt_of_lt_of_le h1 hS.1) h2]; exact hS.2.1 q h1 h2, fun q hq => by
      rcases List.mem_append.mp hq with h | h
      · exact hS.2.2 q h
      · exact hL q h⟩ T' rfl X'
  exact ⟨t2, st t2 a1, b1⟩
theorem mm_blind {as : List mmV} (hX : mm_XOk ad X) : FrameBlind (mm_Pc D ad G X as M) := fun a U g mk q => by
  obtain ⟨h1, h2, h3⟩ := q
  exact ⟨h1, h2, h3.calling hX g mk a⟩
theorem mm_push_val (ad : Nat → Nat) (r : Option mmV) (S : mmS) : (mm_push r S).map (mm_val ad) = (r.map (mm_val ad)).toList ++ S.map (mm_val ad) := by
  cases r <;> rfl
theorem mm_push_vin {r : Option mmV} {S : mmS} (h : ∀ v, r = some v → mm_vin v) (hS : ∀ v ∈ S, mm_vin v) : ∀ v ∈ mm_push r S, mm_vin v := by
  cases r with
  | none => exact hS
  | some v => exact List.forall_mem_cons.mpr ⟨h v rfl, hS⟩
/-- what a call's side check gives -/
theorem mm_s_calls (C : mm_Cx p s m args meth c D ad G X oc cc maxL ret) {T : List (Nat × mmT)} (hT : ∀ q ∈ T, mm_snd l D ad G X q.1 q.2) {idx x n : Nat} {nest : Bool} {r : mmRec} (hr : mm_rlk mm_recs x = some r) (hst : r.2.2.2.2.1 = true) (hn : n = r.2.2.2.2.2.1) (hfr : r.2.2.2.2.2.2.1 + 1 ≤ R.frames) (hlo : 8 + (r.2.2.1 + 11) + r.2.2.2.2.2.2.2.1 ≤ R.locals) (hsi : mm_site (oc, idx, x, nest)) (hd : decode cc pc = .ok (.invokestatic idx, 3)) (hK : ∀ L S M, K L S M → mm_W p l e R s m args below meth c Qs D ad G maxL (pc + 3) L S M) (h : mm_call T x n K L S M) : mm_W p l e R s m args below meth c Qs D ad G maxL pc L S M := by
  intro H locs ls hL hS hM hP hSt
  obtain ⟨vs, rest, h1, h2, h3, h4⟩ := mm_pop_use n [] S h
  subst h2
  rw [List.append_nil] at h4
  obtain ⟨t, h5, h6⟩ := mm_find_use h4
  have hvs : ∀ v ∈ vs.reverse, mm_vin v := fun v hv => hS v (List.mem_append_left _ (List.mem_reverse.mp hv))
  have hre : ∀ v ∈ rest, mm_vin v := fun v hv => hS v (List.mem_append_right _ hv)
  have hmet := hT _ h5 r hr vs.reverse M _ hvs hM h6
  have hok := mm_recs_ok _ (mm_rlk_mem hr)
  obtain ⟨r', hr', hl0, hl1⟩ := hsi
  cases hr.symm.trans hr'
  have hw := C.2.2.2.2.2.2.1
  have hE := C.2.2.2.2.2.2.2.1
  have hX := C.2.2.2.2.2.2.2.2.1
  have hpre : PreS s H (mm_Pc D ad G X vs.reverse M) (vs.reverse.map (mm_val ad)) := ⟨mm_blind hX, fun U hU hW => ⟨rfl, by rw [hU]; exact hP, hE.to hX hW (fun q h7 h8 => by rw [hU]; exact hSt.2.1 q h7 h8)⟩⟩
  have hstack : (vs ++ rest).map (mm_val ad) = (vs.reverse.map (mm_val ad)).reverse ++ rest.map (mm_val ad) := by
    rw [List.map_append, List.map_reverse, List.reverse_reverse]
  have hlen : (vs.reverse.map (mm_val ad)).length = r.2.2.2.2.2.1 := by rw [List.length_map, List.length_reverse, h1, hn]
  have hroom : 0 + 0 ≤ R.cells ∧ 0 + 0 ≤ R.slots := ⟨Nat.zero_le _, Nat.zero_le _⟩
  have kk : ∀ (rv : Option mmV) (M' : mmM) (H1 : Heap) (locs1 : List Loc), K L (mm_push rv rest) M' → (∀ v, rv = some v → mm_vin v) → mm_mem M' → va_P D vwCl (mm_ws ad G M') H1 → va_S (mm_A ad) s.heap H1 locs1 → W p l e R s m args below meth c H1 locs1 0 0 Qs (F0 m (pc + 3) ls ((rv.map (mm_val ad)).toList ++ rest.map (mm_val ad))) := by
    intro rv M' H1 locs1 hk hv hm hp hs
    rw [← mm_push_val]
    exact hK _ _ _ hk H1 locs1 ls hL (mm_push_vin hv hre) hm hp hs
  cases nest with
  | false =>
    exact mm_run (va_runS (n := r.2.2.2.2.2.1) ⟨C.1, C.2.1, C.2.2.1, C.2.2.2.2.2.1, hw⟩ hmet ⟨callB_of _ hw (mm_goodR hok) rfl rfl rfl (hw _ hok.2.2.2.1) (hw _ (hl0 rfl)) hok.2.2.2.2.1 ⟨hfr, hlo⟩, hw _ (hok.2.1 hst)⟩ hpre rfl hlen hL.1.1 hstack (lv_room (by rw [mm_catsE]; exact h3)) hd hroom) hSt kk
  | true =>
    exact mm_run (va_runSN (n := r.2.2.2.2.2.1) (host := RX10) ⟨C.1, C.2.1, C.2.2.1, C.2.2.2.2.2.1, hw⟩ hmet ⟨va_cnB _ hw (mm_goodR hok) rfl rfl rfl (hE.2.2.1 _ (hl1 rfl)) (hw _ hok.2.2.2.1) hok.2.2.2.2.1 ⟨hfr, hlo⟩, hw _ (hok.2.1 hst), trivial⟩ hpre rfl hlen hL.1.1 hstack (lv_room (by rw [mm_catsE]; exact h3)) hd hroom) hSt kk
theorem mm_own_cl {ci : Nat} {C : String} {T : u_T} {N : Nat} (h : vwCl[ci]? = some (C, T, N)) : mm_own ci = C := by
  match ci, h with
  | 0, h => cases h; rfl
  | 1, h => cases h; rfl
  | 2, h => cases h; rfl
  | 3, h => cases h; rfl
  | 4, h => cases h; rfl
  | 5, h => cases h; rfl
  | 6, h => cases h; rfl
  | 7, h => cases h; rfl
  | 8, h => cases h; rfl
  | 9, h => cases h; rfl
  | 10, h => cases h; rfl
  | 11, h => cases h; rfl
  | k + 12, h => simp at h
theorem mm_vwCl {ci : Nat} (h : ci < 12) : ∃ C T N, vwCl[ci]? = some (C, T, N) := ⟨_, _, _, List.getElem?_eq_getElem (show ci < vwCl.length from h)⟩
theorem mm_s_callv (C : mm_Cx p s m args meth c D ad G X oc cc maxL ret) {T : List (Nat × mmT)} (hT : ∀ q ∈ T, mm_snd l D ad G X q.1 q.2) {idx x n : Nat} {r : mmRec} (hci : x / 100 < 12) (hr : mm_rlk mm_recs x = some r) (hst : r.2.2.2.2.1 = false) (hn : n = r.2.2.2.2.2.1 + 1) (hfr : r.2.2.2.2.2.2.1 + 1 ≤ R.frames) (hlo : 8 + (r.2.2.1 + 11) + r.2.2.2.2.2.2.2.1 ≤ R.locals) (hoc : r.2.2.2.2.2.2.2.2 = x / 100) (hsi : mm_site (oc, idx, x, false)) (hd : decode cc pc = .ok (.invokevirtual idx, 3)) (hK : ∀ L S M, K L S M → mm_W p l e R s m args below meth c Qs D ad G maxL (pc + 3) L S M) (h : mm_callv T x n K L S M) : mm_W p l e R s m args below meth c Qs D ad G maxL pc L S M := by
  intro H locs ls hL hS hM hP hSt
  obtain ⟨vs, rest, h1, h2, h9, h3, h4⟩ := mm_pop_use n [] S h
  subst h2
  rw [List.append_nil] at h4 h9
  obtain ⟨t, h5, h6⟩ := mm_find_use h4
  have hvs : ∀ v ∈ vs.reverse, mm_vin v := fun v hv => hS v (List.mem_append_left _ (List.mem_reverse.mp hv))
  have hre : ∀ v ∈ rest, mm_vin v := fun v hv => hS v (List.mem_append_right _ hv)
  have hmet := hT _ h5 r hr vs.reverse M _ hvs hM h6
  have hok := mm_recs_ok _ (mm_rlk_mem hr)
  obtain ⟨r', hr', hl0, hl1⟩ := hsi
  cases hr.symm.trans hr'
  have hw := C.2.2.2.2.2.2.1
  have hE := C.2.2.2.2.2.2.2.1
  have hX := C.2.2.2.2.2.2.2.2.1
  generalize hrv : vs.reverse = as at h9 hmet hvs
  have hvs2 : vs = as.reverse := by rw [← hrv, List.reverse_reverse]
  subst hvs2
  rcases as with _ | ⟨o | o | o, as⟩ <;> first | exact h9.elim | skip
  have hco : mm_cls o = x / 100 := h9
  obtain ⟨Cn, Tn, N, hc⟩ := mm_vwCl (ci := mm_cls o) (by omega)
  have hcn : r.1.cls = Cn := by rw [hok.2.2.2.2.2.2, hoc, ← hco]; exact mm_own_cl hc
  have hrec := va_recv (a := ad o) (q0 := o) hE.1 hP hc (mm_obj (by omega))
  have hpre : PreV s H Cn (ad o) (mm_Pc D ad G X (vr o :: as) M) (as.map (mm_val ad)) := ⟨mm_blind hX, hrec, fun U hU hW => ⟨rfl, by rw [hU]; exact hP, hE.to hX hW (fun q h7 h8 => by rw [hU]; exact hSt.2.1 q h7 h8)⟩⟩
  have hstack : ((vr o :: as).reverse ++ rest).map (mm_val ad) = (as.map (mm_val ad)).reverse ++ .ref (ad o) :: rest.map (mm_val ad) := by
    simp [mm_val]
  have hlen : (as.map (mm_val ad)).length = r.2.2.2.2.2.1 := by
    simp only [List.length_reverse, List.length_cons] at h1
    rw [List.length_map]; omega
  have hroom : 0 + 0 ≤ R.cells ∧ 0 + 0 ≤ R.slots := ⟨Nat.zero_le _, Nat.zero_le _⟩
  have kk : ∀ (rv : Option mmV) (M' : mmM) (H1 : Heap) (locs1 : List Loc), K L (mm_push rv rest) M' → (∀ v, rv = some v → mm_vin v) → mm_mem M' → va_P D vwCl (mm_ws ad G M') H1 → va_S (mm_A ad) s.heap H1 locs1 → W p l e R s m args below meth c H1 locs1 0 0 Qs (F0 m (pc + 3) ls ((rv.map (mm_val ad)).toList ++ rest.map (mm_val ad))) := by
    intro rv M' H1 locs1 hk hv hm hp hs
    rw [← mm_push_val]
    exact hK _ _ _ hk H1 locs1 ls hL (mm_push_vin hv hre) hm hp hs
  have hG : GoodIn mm_words (wsV (mm_own oc) idx Cn r.1 (mm_rws r)) := by
    intro w hw
    unfold wsV at hw
    rcases List.mem_append.mp hw with h7 | h7
    · simp only [List.mem_cons, List.not_mem_nil, or_false] at h7
      rcases h7 with rfl | rfl | rfl | rfl
      · exact mm_good (hl0 rfl)
      · exact mm_good (hok.2.2.1 hst).1
      · rw [← hcn]; exact mm_good (hok.2.2.1 hst).2
      · rw [← hcn]; exact mm_good hok.2.2.2.1
    · exact mm_goodR hok w h7
  rw [hstack]
  exact mm_run (va_runV (n := r.2.2.2.2.2.1) ⟨C.1, C.2.1, C.2.2.1, C.2.2.2.2.2.1, hw⟩ hmet (cwV _ hw hG rfl rfl rfl ⟨hcn, hok.2.2.2.2.1⟩ ⟨hfr, hlo⟩) hpre rfl hlen hL.1.1 rfl (lv_room (by rw [mm_catsE]; exact h3)) hd hroom) hSt kk
end MMC
end
section
/-! a block, and a method -/
theorem mm_exp1 {pc : Nat} {i : Instr} {x : Nat} {d : Instr × Nat} {a : Instr × Nat} (h : (mm_exp pc i x).any (fun a => decide (d = a)) = true) (he : mm_exp pc i x = [a]) : d = a := by
  rw [he] at h
  simpa using h
theorem mm_exp_ld {n : Nat} {d a : Instr × Nat} {f : Fin 4 → Instr} (h : (a :: (if h : n < 4 then [((f ⟨n, h⟩, 1) : Instr × Nat)] else [])).any (fun a => decide (d = a)) = true) : d = a ∨ ∃ k : Fin 4, (k : Nat) = n ∧ d = (f k, 1) := by
  by_cases hn : n < 4
  · rw [dif_pos hn] at h
    have : d = a ∨ d = (f ⟨n, hn⟩, 1) := by simpa using h
    rcases this with h1 | h1
    · exact Or.inl h1
    · exact Or.inr ⟨⟨n, hn⟩, rfl, h1⟩
  · rw [dif_neg hn] at h
    exact Or.inl (by simpa using h)
theorem mm_andE (a b : Int) : Int32.ofInt (mm_and a b) = Int32.ofInt a &&& Int32.ofInt b := mm_of _
theorem mm_xorE (a b : Int) : Int32.ofInt (mm_xor a b) = Int32.ofInt a ^^^ Int32.ofInt b := mm_of _
theorem mm_shrE (a b : Int) : Int32.ofInt (mm_shr a b) = Int32.ofInt a >>> (Int32.ofInt b &&& 31) := mm_of _
theorem mm_inRok {z : Int} (h : mm_inR z = true) : mm_R z := by
  simp only [mm_inR, Bool.and_eq_true, decide_eq_true_eq] at h
  exact h
section MMB
variable {p : Program} {l : Launch} {e : Env} {R : Room} {s : State} {m : MethodId} {args : Array Value} {below : List Frame} {meth : Method} {c : Code} {D : va_G} {ad : Nat → Nat} {G : ClassId × ClassId × ClassId} {X : State → Prop} {oc : Nat} {cc : ByteArray} {maxL : Nat} {ret : Option FieldType} {K : mmK} {L : mmL} {S : mmS} {M : mmM}
theorem mm_s_const {Qs : State → Prop} {pc nx : Nat} {v : mmV} (hv : mm_vin v) (hrow : ∀ (H : Heap) (locs : List Loc) (ls : Array Slot) (rest : List Value), W p l e R s m args below meth c H locs 0 0 Qs (F0 m nx ls (mm_val ad v :: rest)) → W p l e R s m args below meth c H locs 0 0 Qs (F0 m pc ls rest)) (hK : ∀ L S M, K L S M → mm_W p l e R s m args below meth c Qs D ad G maxL nx L S M) (h : K L (v :: S) M) : mm_W p l e R s m args below meth c Qs D ad G maxL pc L S M := by
  intro H locs ls hL hS hM hP hSt
  exact hrow H locs ls _ (hK _ _ _ h H locs ls hL (List.forall_mem_cons.mpr ⟨hv, hS⟩) hM hP hSt)
set_option maxHeartbeats 4000000 in
set_option maxRecDepth 100000 in
theorem mm_blk (C : mm_Cx p s m args meth c D ad G X oc cc maxL ret) {T : List (Nat × mmT)} (hT : ∀ q ∈ T, mm_snd l D ad G X q.1 q.2) {Q : mmP} : ∀ (ops : List mmO), mm_chk cc oc maxL ret R.frames R.locals ops = true → ∀ (L : mmL) (S : mmS) (M : mmM), mm_wp T (mm_W p l e R s m args below meth c (MQ below (mm_Qc D ad G Q) args s 0 0 (mm_A ad)) D ad G maxL) Q ops L S M → mm_W p l e R s m args below meth c (MQ below (mm_Qc D ad G Q) args s 0 0 (mm_A ad)) D ad G maxL (mm_hd ops) L S M := by
  intro ops
  induction ops with
  | nil => intro _ L S M h; exact h.elim
  | cons q r ih =>
    obtain ⟨pc, i, x, y⟩ := q
    intro hc L S M h
    show mm_W p l e R s m args below meth c _ D ad G maxL pc L S M
    generalize hQs : MQ below (mm_Qc D ad G Q) args s 0 0 (mm_A ad) = Qs at *
    by_cases hnop : i = .nop
    · subst hnop; exact h
    have hlocks : meth.locks = false := C.2.2.2.2.1
    simp only [mm_chk, Bool.or_eq_true, decide_eq_true_eq, hnop, false_or, Bool.and_eq_true] at hc
    obtain ⟨hc, hr⟩ := hc
    cases hdec : decode cc pc with
    | error z => rw [hdec] at hc; cases hc
    | ok d =>
    rw [hdec] at hc
    simp only [Bool.and_eq_true, Bool.or_eq_true, decide_eq_true_eq] at hc
    obtain ⟨⟨hexp, hnx⟩, hside⟩ := hc
    have hK : mm_term i = false → ∀ L S M, mm_wp T (mm_W p l e R s m args below meth c Qs D ad G maxL) Q r L S M → mm_W p l e R s m args below meth c Qs D ad G maxL (pc + d.2) L S M := by
      intro ht L S M h
      rw [ht] at hnx hr
      have h1 : mm_hd r = pc + d.2 := by simpa using hnx
      rw [← h1]
      exact ih (by simpa using hr) L S M h
    have hret : ∀ (rv : Option mmV), (∀ v, rv = some v → mm_vin v) → Q rv M → ∀ (H : Heap) (locs : List Loc), mm_mem M → va_P D vwCl (mm_ws ad G M) H → va_S (mm_A ad) s.heap H locs → ∀ t : State, t.heap = H → s.WarmedH t.vm → mm_Qc D ad G Q args s (.returned (rv.map (mm_val ad))) t := by
      intro rv hv hq H locs hm hp hs t ht _
      exact ⟨⟨rv, M, rfl, hq, hv, hm, by rw [ht]; exact hp⟩, hs.F ht⟩
    cases i <;> first | exact h.elim | skip
    case aaload =>
      have := mm_exp1 hexp rfl; subst this
      exact mm_s_aald C hdec (hK rfl) h
    case aload n =>
      rcases mm_exp_ld hexp with rfl | ⟨k, hk, rfl⟩
      · exact mm_s_lda C (Or.inl ⟨hdec, rfl⟩) (hK rfl) h
      · exact mm_s_lda C (Or.inr ⟨k, hk, hdec, rfl⟩) (hK rfl) h
    case areturn =>
      have := mm_exp1 hexp rfl; subst this
      have hr9 : ret = some (.array .int) := by simpa [mm_side] using hside
      intro H locs ls hL hS hM hP hSt
      rcases S with _ | ⟨v | v | v, _ | ⟨w, S⟩⟩ <;> first | exact h.elim | skip
      subst hQs
      exact W.aret C.1 C.2.1 (C.2.2.2.1.trans hr9) (Or.inr ⟨_, rfl⟩) (Or.inr ⟨_, rfl⟩) (hret (some (vr v)) (fun w hw => by cases hw; trivial) h H locs hM hP hSt) hSt.2.2 hdec
    case arraylength =>
      have := mm_exp1 hexp rfl; subst this
      exact mm_s_alen C hdec (hK rfl) h
    case astore n =>
      have hn : n < maxL := by simpa [mm_side] using hside
      rcases mm_exp_ld hexp with rfl | ⟨k, hk, rfl⟩
      · exact mm_s_sta C hn (Or.inl ⟨hdec, rfl⟩) (hK rfl) h
      · exact mm_s_sta C hn (Or.inr ⟨k, hk, hdec, rfl⟩) (hK rfl) h
    case baload =>
      have := mm_exp1 hexp rfl; subst this
      exact mm_s_bald C hdec (hK rfl) h
    case bastore =>
      have := mm_exp1 hexp rfl; subst this
      exact mm_s_bast C hdec (hK rfl) h
    case bipush z =>
      have hz : mm_R64 z ∧ (match d.1 with | .lconst _ => true | _ => mm_longs.contains (oc, x, z)) = true := by
        simp only [mm_side, Bool.and_eq_true, decide_eq_true_eq] at hside
        exact hside
      have hd : d = (.ldc2_w x, 3) ∨ (z = 0 ∧ d = (.lconst 0, 1)) ∨ (z = 1 ∧ d = (.lconst 1, 1)) := by
        simp only [mm_exp, List.any_eq_true, List.mem_append, List.mem_singleton, decide_eq_true_eq] at hexp
        obtain ⟨a, h1, rfl⟩ := hexp
        rcases h1 with h1 | h1
        · exact Or.inl h1
        · split at h1
          · exact Or.inr (Or.inl ⟨by assumption, by simpa using h1⟩)
          · split at h1
            · exact Or.inr (Or.inr ⟨by assumption, by simpa using h1⟩)
            · simp at h1
      refine mm_s_const (v := vl z) (nx := pc + d.2) hz.1 (fun H locs ls rest k => ?_) (hK rfl) h
      rcases hd with rfl | ⟨rfl, rfl⟩ | ⟨rfl, rfl⟩
      · exact lv_ldc2 C.1 C.2.1 C.2.2.2.2.2.1 (C.2.2.2.2.2.2.1 _ (mm_longs_ok (oc, x, z) (by simpa using hz.2))) hdec k
      · exact lv_lconst C.1 C.2.1 hdec rfl k
      · exact lv_lconst C.1 C.2.1 hdec rfl k
    case dup =>
      have := mm_exp1 hexp rfl; subst this
      intro H locs ls hL hS hM hP hSt
      rcases S with _ | ⟨v | v | v, S⟩ <;> first | exact h.elim | skip
      · exact lv_dup C.1 C.2.1 hdec rfl (hK rfl _ _ _ h H locs ls hL (List.forall_mem_cons.mpr ⟨(List.forall_mem_cons.mp hS).1, hS⟩) hM hP hSt)
      · exact lv_dup C.1 C.2.1 hdec rfl (hK rfl _ _ _ h H locs ls hL (List.forall_mem_cons.mpr ⟨(List.forall_mem_cons.mp hS).1, hS⟩) hM hP hSt)
    case dup2 =>
      have := mm_exp1 hexp rfl; subst this
      intro H locs ls hL hS hM hP hSt
      rcases S with _ | ⟨v | v | v, _ | ⟨w | w | w, S⟩⟩ <;> first | exact h.elim | skip
      · exact lv_dup2_11 C.1 C.2.1 hdec rfl rfl (hK rfl _ _ _ h H locs ls hL (List.forall_mem_cons.mpr ⟨(List.forall_mem_cons.mp hS).1, List.forall_mem_cons.mpr ⟨(List.forall_mem_cons.mp (List.forall_mem_cons.mp hS).2).1, hS⟩⟩) hM hP hSt)
      · exact lv_dup2_11 C.1 C.2.1 hdec rfl rfl (hK rfl _ _ _ h H locs ls hL (List.forall_mem_cons.mpr ⟨(List.forall_mem_cons.mp hS).1, List.forall_mem_cons.mpr ⟨(List.forall_mem_cons.mp (List.forall_mem_cons.mp hS).2).1, hS⟩⟩) hM hP hSt)
    case fadd =>
      have := mm_exp1 hexp rfl; subst this
      simp only [mm_side, Bool.and_eq_true, decide_eq_true_eq] at hside
      have hw := C.2.2.2.2.2.2.1
      refine mm_s_mm (fun a b H locs ls rest hls hrest ha hb => ⟨mm_maxR ha hb, fun k => ?_⟩) (hK rfl) h (mm_catsE ad)
      rw [← mm_maxE ha hb] at k
      exact va_mmax C.1 C.2.1 (C.2.2.1.trans hls.symm) C.2.2.2.2.2.1 (hw _ (mm_maxs_ok (oc, x) (by simpa using hside.1.1))) (hw _ mm_maxS) (hw _ mm_mathI) (hw _ mm_maxC) hside.1.2 (by omega) (Nat.zero_le _) (Nat.zero_le _) hdec k
    case fsub =>
      have := mm_exp1 hexp rfl; subst this
      simp only [mm_side, Bool.and_eq_true, decide_eq_true_eq] at hside
      have hw := C.2.2.2.2.2.2.1
      refine mm_s_mm (fun a b H locs ls rest hls hrest ha hb => ⟨mm_minR ha hb, fun k => ?_⟩) (hK rfl) h (mm_catsE ad)
      rw [← mm_minE ha hb] at k
      exact va_mmin C.1 C.2.1 (C.2.2.1.trans hls.symm) C.2.2.2.2.2.1 (hw _ (mm_mins_ok (oc, x) (by simpa using hside.1.1))) (hw _ mm_minS) (hw _ mm_mathI) (hw _ mm_minC) hside.1.2 (by omega) (Nat.zero_le _) (Nat.zero_le _) hdec k
    case fmul =>
      have := mm_exp1 hexp rfl; subst this
      simp only [mm_side, Bool.and_eq_true, decide_eq_true_eq] at hside
      exact mm_s_acpy C hside.1.2 hside.2 (mm_cpys_ok (oc, x) (by simpa using hside.1.1)) hdec (hK rfl) h
    case freturn =>
      have := mm_exp1 hexp rfl; subst this
      have hr9 : ret = some .boolean := by simpa [mm_side] using hside
      intro H locs ls hL hS hM hP hSt
      rcases S with _ | ⟨v | v | v, _ | ⟨w, S⟩⟩ <;> first | exact h.elim | skip
      subst hQs
      have hn : narrow .boolean (.int (Int32.ofInt v)) = .int (Int32.ofInt v) := by rcases h.1 with rfl | rfl <;> rfl
      exact W.zret C.1 C.2.1 (C.2.2.2.1.trans hr9) hn (hret (some (vi v)) (fun w hw => by cases hw; exact (List.forall_mem_cons.mp hS).1) h.2 H locs hM hP hSt) hSt.2.2 hdec
    case getfield n =>
      have := mm_exp1 hexp rfl; subst this
      simp only [mm_side, Bool.and_eq_true, Bool.or_eq_true, decide_eq_true_eq] at hside
      obtain ⟨⟨⟨h0, h1⟩, h2⟩, h3⟩ := hside
      have h' : mm_geti x (y.toNat : Int) (mm_wp T (mm_W p l e R s m args below meth c Qs D ad G maxL) Q r) L S M := by rw [Int.toNat_of_nonneg h0]; exact h
      rcases h3 with h3 | h3
      · exact mm_s_geti C h1 h2 (mm_flds_ok _ (by simpa using h3)) hdec (hK rfl) h'
      · exact mm_s_geti C h1 h2 (mm_flds_ok _ (by simpa using h3)) hdec (hK rfl) h'
    case getstatic n =>
      have := mm_exp1 hexp rfl; subst this
      simp only [mm_side, Bool.and_eq_true, decide_eq_true_eq, List.any_eq_true, Bool.or_eq_true] at hside
      obtain ⟨h1, k, -, h2, h3⟩ := hside
      rcases h3 with h3 | h3
      · exact mm_s_geta C h1 h2 (mm_flds_ok _ (by simpa using h3)) hdec (hK rfl) h
      · exact mm_s_geta C h1 h2 (mm_flds_ok _ (by simpa using h3)) hdec (hK rfl) h
    case goto off =>
      have := mm_exp1 hexp rfl; subst this
      intro H locs ls hL hS hM hP hSt
      exact lv_goto C.1 C.2.1 hdec (by omega) (h H locs ls hL hS hM hP hSt)
    case i2b =>
      have := mm_exp1 hexp rfl; subst this
      intro H locs ls hL hS hM hP hSt
      rcases S with _ | ⟨v | v | v, S⟩ <;> first | exact h.elim | skip
      exact lv_i2b C.1 C.2.1 hdec (v := Int32.ofInt (mm_i2b v)) (by rw [mm_i2b, mm_of]) (hK rfl _ _ _ h H locs ls hL (List.forall_mem_cons.mpr ⟨mm_i2bR v, (List.forall_mem_cons.mp hS).2⟩) hM hP hSt)
    case i2l =>
      have := mm_exp1 hexp rfl; subst this
      intro H locs ls hL hS hM hP hSt
      rcases S with _ | ⟨v | v | v, S⟩ <;> first | exact h.elim | skip
      have hv : mm_R v := (List.forall_mem_cons.mp hS).1
      exact lv_i2l C.1 C.2.1 hdec (mm_i2lE hv) (hK rfl _ _ _ h H locs ls hL (List.forall_mem_cons.mpr ⟨show mm_R64 v from ⟨by omega, by omega⟩, (List.forall_mem_cons.mp hS).2⟩) hM hP hSt)
    case iadd =>
      have := mm_exp1 hexp rfl; subst this
      exact mm_s_2i (fun a b H locs ls rest ha hb hP => ⟨hP, fun k => by rw [Int32.ofInt_add] at k; exact lv_iadd C.1 C.2.1 hdec k⟩) (hK rfl) h
    case iaload =>
      have := mm_exp1 hexp rfl; subst this
      exact mm_s_iald C hdec (hK rfl) h
    case iand =>
      have := mm_exp1 hexp rfl; subst this
      exact mm_s_2i (fun a b H locs ls rest ha hb hP => ⟨mm_Rof _, fun k => by rw [mm_of] at k; exact lv_iand C.1 C.2.1 hdec k⟩) (hK rfl) h
    case iastore =>
      have := mm_exp1 hexp rfl; subst this
      exact mm_s_iast C hdec (hK rfl) h
    case iconst z =>
      have hz : mm_R z ∧ (match d.1 with | .iconst _ => true | .bipush _ => decide (-128 ≤ z) && decide (z ≤ 127) | .sipush _ => decide (-32768 ≤ z) && decide (z ≤ 32767) | _ => mm_ints.contains (oc, x, z)) = true := by
        simp only [mm_side, Bool.and_eq_true] at hside
        exact ⟨mm_inRok hside.1, hside.2⟩
      have hd : d = (.iconst z, 1) ∨ d = (.bipush z, 2) ∨ d = (.sipush z, 3) ∨ d = (.ldc x, 2) ∨ d = (.ldc_w x, 3) := by
        simpa [mm_exp] using hexp
      refine mm_s_const (v := vi z) (nx := pc + d.2) hz.1 (fun H locs ls rest k => ?_) (hK rfl) h
      rcases hd with rfl | rfl | rfl | rfl | rfl
      · exact lv_iconst C.1 C.2.1 hdec rfl k
      · have h9 := hz.2
        simp only [Bool.and_eq_true, decide_eq_true_eq] at h9
        exact lv_bipush C.1 C.2.1 hdec (mm_bc h9.1 h9.2) k
      · have h9 := hz.2
        simp only [Bool.and_eq_true, decide_eq_true_eq] at h9
        exact lv_sipush C.1 C.2.1 hdec (mm_sc h9.1 h9.2) k
      · exact lv_ldc C.1 C.2.1 C.2.2.2.2.2.1 (C.2.2.2.2.2.2.1 _ (mm_ints_ok (oc, x, z) (by simpa using hz.2))) hdec k
      · exact lv_ldcw C.1 C.2.1 C.2.2.2.2.2.1 (C.2.2.2.2.2.2.1 _ (mm_ints_ok (oc, x, z) (by simpa using hz.2))) hdec k
    case idiv =>
      have := mm_exp1 hexp rfl; subst this
      exact mm_s_2i (fun a b H locs ls rest ha hb hP => ⟨mm_divR ha hP, fun k => by rw [← mm_div ha hb hP] at k; exact lv_idiv C.1 C.2.1 hdec (mm_ne0 hb hP) k⟩) (hK rfl) h
    case if_icmp cn off =>
      have := mm_exp1 hexp rfl; subst this
      exact mm_s_if2 C hdec (by omega) (fun L S M h => h) (hK rfl) h
    case ifCond cn off =>
      have := mm_exp1 hexp rfl; subst this
      exact mm_s_if1 C hdec (by omega) (fun L S M h => h) (hK rfl) h
    case iinc n z =>
      have := mm_exp1 hexp rfl; subst this
      simp only [mm_side, Bool.and_eq_true, decide_eq_true_eq] at hside
      exact mm_s_inc C hside.1 hdec (hK rfl) h
    case iload n =>
      rcases mm_exp_ld hexp with rfl | ⟨k, hk, rfl⟩
      · exact mm_s_ldi C (Or.inl ⟨hdec, rfl⟩) (hK rfl) h
      · exact mm_s_ldi C (Or.inr ⟨k, hk, hdec, rfl⟩) (hK rfl) h
    case imul =>
      have := mm_exp1 hexp rfl; subst this
      exact mm_s_2i (fun a b H locs ls rest ha hb hP => ⟨hP, fun k => by rw [Int32.ofInt_mul] at k; exact lv_imul C.1 C.2.1 hdec k⟩) (hK rfl) h
    case invokestatic n =>
      have := mm_exp1 hexp rfl; subst this
      simp only [mm_side, Bool.and_eq_true, Bool.or_eq_true, decide_eq_true_eq] at hside
      obtain ⟨h1, h2⟩ := hside
      split at h2
      · rename_i rc hrc
        simp only [Bool.and_eq_true, decide_eq_true_eq] at h2
        obtain ⟨⟨⟨g1, g2⟩, g3⟩, g4⟩ := h2
        rcases h1 with h1 | h1
        · exact mm_s_calls C hT hrc g1 (by omega) g3 g4 (mm_sites_ok _ (by simpa using h1)) hdec (hK rfl) h
        · exact mm_s_calls C hT hrc g1 (by omega) g3 g4 (mm_sites_ok _ (by simpa using h1)) hdec (hK rfl) h
      · cases h2
    case invokevirtual n =>
      have := mm_exp1 hexp rfl; subst this
      simp only [mm_side, Bool.and_eq_true, decide_eq_true_eq] at hside
      obtain ⟨⟨h1, h0⟩, h2⟩ := hside
      split at h2
      · rename_i rc hrc
        simp only [Bool.and_eq_true, decide_eq_true_eq, Bool.not_eq_true'] at h2
        obtain ⟨⟨⟨⟨g1, g2⟩, g3⟩, g4⟩, g5⟩ := h2
        exact mm_s_callv C hT h0 hrc g1 (by omega) g3 g4 g5 (mm_sites_ok _ (by simpa using h1)) hdec (hK rfl) h
      · cases h2
    case irem =>
      have := mm_exp1 hexp rfl; subst this
      exact mm_s_2i (fun a b H locs ls rest ha hb hP => ⟨mm_remR ha hb hP, fun k => by rw [← mm_rem ha hb hP] at k; exact lv_irem C.1 C.2.1 hdec (mm_ne0 hb hP) k⟩) (hK rfl) h
    case ireturn =>
      have := mm_exp1 hexp rfl; subst this
      have hr9 : ret = some .int := by simpa [mm_side] using hside
      intro H locs ls hL hS hM hP hSt
      rcases S with _ | ⟨v | v | v, _ | ⟨w, S⟩⟩ <;> first | exact h.elim | skip
      subst hQs
      exact W.iret C.1 C.2.1 (C.2.2.2.1.trans hr9) (hret (some (vi v)) (fun w hw => by cases hw; exact (List.forall_mem_cons.mp hS).1) h H locs hM hP hSt) hSt.2.2 hdec
    case ishr =>
      have := mm_exp1 hexp rfl; subst this
      exact mm_s_2i (fun a b H locs ls rest ha hb hP => ⟨mm_Rof _, fun k => by rw [mm_of] at k; exact lv_ishr C.1 C.2.1 hdec k⟩) (hK rfl) h
    case istore n =>
      have hn : n < maxL := by simpa [mm_side] using hside
      rcases mm_exp_ld hexp with rfl | ⟨k, hk, rfl⟩
      · exact mm_s_sti C hn (Or.inl ⟨hdec, rfl⟩) (hK rfl) h
      · exact mm_s_sti C hn (Or.inr ⟨k, hk, hdec, rfl⟩) (hK rfl) h
    case isub =>
      have := mm_exp1 hexp rfl; subst this
      exact mm_s_2i (fun a b H locs ls rest ha hb hP => ⟨hP, fun k => by rw [Int32.ofInt_sub] at k; exact lv_isub C.1 C.2.1 hdec k⟩) (hK rfl) h
    case ixor =>
      have := mm_exp1 hexp rfl; subst this
      exact mm_s_2i (fun a b H locs ls rest ha hb hP => ⟨mm_Rof _, fun k => by rw [mm_of] at k; exact lv_ixor C.1 C.2.1 hdec k⟩) (hK rfl) h
    case l2i =>
      have := mm_exp1 hexp rfl; subst this
      intro H locs ls hL hS hM hP hSt
      rcases S with _ | ⟨v | v | v, S⟩ <;> first | exact h.elim | skip
      exact lv_l2i C.1 C.2.1 hdec (mm_l2iE h.1) (hK rfl _ _ _ h.2 H locs ls hL (List.forall_mem_cons.mpr ⟨h.1, (List.forall_mem_cons.mp hS).2⟩) hM hP hSt)
    case ladd =>
      have := mm_exp1 hexp rfl; subst this
      exact mm_s_2l (fun a b H locs ls rest ha hb hP => ⟨hP, fun k => by rw [Int64.ofInt_add] at k; exact lv_ladd C.1 C.2.1 hdec k⟩) (hK rfl) h
    case lcmp =>
      have := mm_exp1 hexp rfl; subst this
      intro H locs ls hL hS hM hP hSt
      rcases S with _ | ⟨b | b | b, _ | ⟨a | a | a, S⟩⟩ <;> first | exact h.elim | skip
      have hb : mm_R64 b := (List.forall_mem_cons.mp hS).1
      have ha : mm_R64 a := (List.forall_mem_cons.mp (List.forall_mem_cons.mp hS).2).1
      have k := hK rfl _ _ _ h H locs ls hL (List.forall_mem_cons.mpr ⟨mm_lcR a b, (List.forall_mem_cons.mp (List.forall_mem_cons.mp hS).2).2⟩) hM hP hSt
      have k' : W p l e R s m args below meth c H locs 0 0 Qs (F0 m (pc + 1) ls (.int (lg_cmp (Int64.ofInt a) (Int64.ofInt b)) :: S.map (mm_val ad))) := by rw [mm_lcE ha hb]; exact k
      exact W.lcmp C.1 C.2.1 hdec k'
    case ldc j =>
      have := mm_exp1 hexp rfl; subst this
      simp only [mm_side, Bool.and_eq_true, decide_eq_true_eq] at hside
      obtain ⟨hj, hoc⟩ := hside
      subst hoc
      have hsi : mm_sidx[j]? = some (mm_sidx.getD j (0, "")) := by
        rw [List.getD_eq_getElem?_getD, List.getElem?_eq_getElem (show j < mm_sidx.length from hj)]
        rfl
      have hZ := C.2.2.2.2.2.2.2.1.2.2.2.1 j _ hsi
      refine mm_s_const (v := vr (1000 + j)) (nx := pc + 2) trivial (fun H locs ls rest k => ?_) (hK rfl) h
      exact va_ldcS C.1 C.2.1 C.2.2.2.2.2.1 hZ hdec k
    case ldiv =>
      have := mm_exp1 hexp rfl; subst this
      exact mm_s_2l (fun a b H locs ls rest ha hb hP => ⟨mm_ldivR ha hP, fun k => by rw [← mm_ldiv ha hb hP] at k; exact lv_ldiv C.1 C.2.1 hdec (mm_lne0 hb hP) k⟩) (hK rfl) h
    case lload n =>
      rcases mm_exp_ld hexp with rfl | ⟨k, hk, rfl⟩
      · exact mm_s_ldl C (Or.inl ⟨hdec, rfl⟩) (hK rfl) h
      · exact mm_s_ldl C (Or.inr ⟨k, hk, hdec, rfl⟩) (hK rfl) h
    case lmul =>
      have := mm_exp1 hexp rfl; subst this
      exact mm_s_2l (fun a b H locs ls rest ha hb hP => ⟨hP, fun k => by rw [Int64.ofInt_mul] at k; exact lv_lmul C.1 C.2.1 hdec k⟩) (hK rfl) h
    case lookupswitch off ps =>
      have := mm_exp1 hexp rfl; subst this
      simp only [mm_side, Bool.and_eq_true, decide_eq_true_eq] at hside
      exact mm_s_sw C hdec hside.1 (fun b L S M h => h) h
    case lreturn =>
      have := mm_exp1 hexp rfl; subst this
      have hr9 : ret = some .long := by simpa [mm_side] using hside
      intro H locs ls hL hS hM hP hSt
      rcases S with _ | ⟨v | v | v, _ | ⟨w, S⟩⟩ <;> first | exact h.elim | skip
      subst hQs
      exact W.lret C.1 C.2.1 (C.2.2.2.1.trans hr9) (hret (some (vl v)) (fun w hw => by cases hw; exact (List.forall_mem_cons.mp hS).1) h H locs hM hP hSt) hSt.2.2 hdec
    case lstore n =>
      have hn : n + 1 < maxL := by simpa [mm_side] using hside
      rcases mm_exp_ld hexp with rfl | ⟨k, hk, rfl⟩
      · exact mm_s_stl C hn (Or.inl ⟨hdec, rfl⟩) (hK rfl) h
      · exact mm_s_stl C hn (Or.inr ⟨k, hk, hdec, rfl⟩) (hK rfl) h
    case lsub =>
      have := mm_exp1 hexp rfl; subst this
      exact mm_s_2l (fun a b H locs ls rest ha hb hP => ⟨hP, fun k => by rw [Int64.ofInt_sub] at k; exact lv_lsub C.1 C.2.1 hdec k⟩) (hK rfl) h
    case nop => exact absurd rfl hnop
    case pop =>
      have := mm_exp1 hexp rfl; subst this
      intro H locs ls hL hS hM hP hSt
      rcases S with _ | ⟨v | v | v, S⟩ <;> first | exact h.elim | skip
      · exact lv_pop C.1 C.2.1 hdec rfl (hK rfl _ _ _ h H locs ls hL (List.forall_mem_cons.mp hS).2 hM hP hSt)
      · exact lv_pop C.1 C.2.1 hdec rfl (hK rfl _ _ _ h H locs ls hL (List.forall_mem_cons.mp hS).2 hM hP hSt)
    case putfield n =>
      have := mm_exp1 hexp rfl; subst this
      simp only [mm_side, Bool.and_eq_true, Bool.or_eq_true, decide_eq_true_eq] at hside
      obtain ⟨⟨⟨h0, h1⟩, h2⟩, h3⟩ := hside
      have h' : mm_puti x (y.toNat : Int) (mm_wp T (mm_W p l e R s m args below meth c Qs D ad G maxL) Q r) L S M := by rw [Int.toNat_of_nonneg h0]; exact h
      rcases h3 with h3 | h3
      · exact mm_s_puti C h1 h2 (mm_flds_ok _ (by simpa using h3)) hdec (hK rfl) h'
      · exact mm_s_puti C h1 h2 (mm_flds_ok _ (by simpa using h3)) hdec (hK rfl) h'
    case return_ =>
      have := mm_exp1 hexp rfl; subst this
      have hr9 : ret = none := by simpa [mm_side] using hside
      intro H locs ls hL hS hM hP hSt
      rcases S with _ | ⟨v, S⟩ <;> first | exact h.elim | skip
      subst hQs
      exact W.vret C.1 C.2.1 (C.2.2.2.1.trans hr9) (hret none (fun w hw => by cases hw) h H locs hM hP hSt) hSt.2.2 hdec
end MMB
theorem mm_lk_in {B : List (Nat × List mmO)} {b : Nat} : mm_lk B b = [] ∨ (b, mm_lk B b) ∈ B := by
  induction B with
  | nil => exact Or.inl rfl
  | cons q r ih =>
    unfold mm_lk
    cases hb : Nat.beq q.1 b with
    | true =>
      have h1 : q.1 = b := Nat.eq_of_beq_eq_true hb
      right
      show (b, q.2) ∈ _
      rw [← h1]; exact List.mem_cons_self
    | false =>
      rcases ih with h | h
      · exact Or.inl h
      · exact Or.inr (List.mem_cons_of_mem _ h)
/-- A METHOD: blocks that are the code's, callees that do what T says, and mm_ok for every start: the method does what t says -/
theorem mm_sound {l : Launch} {D : va_G} {ad : Nat → Nat} {G : ClassId × ClassId × ClassId} {X : State → Prop} (hX : mm_XOk ad X) (hinj : ∀ i j, i < 77 → j < 77 → ad i = ad j → i = j) {x : Nat} {r : mmRec} (hr : mm_rlk mm_recs x = some r) {B : List (Nat × List mmO)} (hc : mm_chkB r B = true) {T : List (Nat × mmT)} (hT : ∀ q ∈ T, mm_snd l D ad G X q.1 q.2) {t : mmT}
    (h : ∀ as M Q, (∀ v ∈ as, mm_vin v) → mm_mem M → t as M Q → (mm_ent as).length ≤ r.2.2.1 ∧ mm_ok B T (mm_entry r.2.2.1 as) M Q) : mm_snd l D ad G X x t := by
  intro r' hr' as M Q has hM ht
  cases hr.symm.trans hr'
  obtain ⟨hlen, hok⟩ := h as M Q has hM ht
  have hrec := mm_recs_ok _ (mm_rlk_mem hr)
  refine Met.ofW (cc := r.2.1) (maxL := r.2.2.1) (ret := r.2.2.2.1) hrec.2.2.2.2.2.1 rfl ?_
  intro p e s m args below meth c s₁ B9 hml hv
  obtain ⟨rfl, hP, hE⟩ := hv
  have hts : ∀ w ∈ mm_rws r, w.before (as.map (mm_val ad)).toArray s = true := atoms_spec (ws := mm_rws r) B9.pre
  have hown : s.vm.findClass r.1.cls = some m.cls := findClass_of_methodNamed B9.named
  have C : mm_Cx p s m (as.map (mm_val ad)).toArray meth c D ad G X r.2.2.2.2.2.2.2.2 r.2.1 r.2.2.1 r.2.2.2.1 := ⟨B9.exec, B9.bytes, hml, B9.returns, B9.notSynchronized, by rw [← hrec.2.2.2.2.2.2]; exact hown, fun w hw => hts w (List.mem_cons_of_mem _ hw), hE, hX, hinj⟩
  rw [lg_entry_eq]
  refine hok (mm_W p l e (headSpec (mm_rws r) (mm_rm r)).room s m (as.map (mm_val ad)).toArray below meth c (MQ below (mm_Qc D ad G Q) (as.map (mm_val ad)).toArray s 0 0 (mm_A ad)) D ad G r.2.2.1) ?_ s.heap [] _ (mm_LR_entry hlen has) (fun v hv => by cases hv) hM hP va_S.rf
  intro b L S M h9
  rcases mm_lk_in (B := B) (b := b) with h1 | h1
  · rw [h1] at h9; exact h9.elim
  · have h2 := List.all_eq_true.mp hc _ h1
    simp only [Bool.and_eq_true, decide_eq_true_eq] at h2
    have h3 := mm_blk (R := (headSpec (mm_rws r) (mm_rm r)).room) C hT (mm_lk B b) h2.2 L S M h9
    rw [h2.1] at h3
    exact h3
end
section
/-! every method's blocks are its code's, by the kernel -/
set_option maxRecDepth 100000 in
theorem ck_Acts_note : mm_chkB mr_1 mb_Acts_note = true := by decide +kernel
set_option maxRecDepth 100000 in
theorem ck_Acts_takeLast : mm_chkB mr_2 mb_Acts_takeLast = true := by decide +kernel
set_option maxRecDepth 100000 in
theorem ck_Plan_lay : mm_chkB mr_101 mb_Plan_lay = true := by decide +kernel
set_option maxRecDepth 100000 in
theorem ck_Plan_keyOf : mm_chkB mr_102 mb_Plan_keyOf = true := by decide +kernel
set_option maxRecDepth 100000 in
theorem ck_Plan_thereAndBack : mm_chkB mr_103 mb_Plan_thereAndBack = true := by decide +kernel
set_option maxRecDepth 100000 in
theorem ck_Plan_curve : mm_chkB mr_104 mb_Plan_curve = true := by decide +kernel
set_option maxRecDepth 100000 in
theorem ck_Plan_follow : mm_chkB mr_105 mb_Plan_follow = true := by decide +kernel
set_option maxRecDepth 100000 in
theorem ck_Plan_goAhead : mm_chkB mr_106 mb_Plan_goAhead = true := by decide +kernel
set_option maxRecDepth 100000 in
theorem ck_Q_isPlannedKind : mm_chkB mr_201 mb_Q_isPlannedKind = true := by decide +kernel
set_option maxRecDepth 100000 in
theorem ck_Q_copyFrom : mm_chkB mr_202 mb_Q_copyFrom = true := by decide +kernel
set_option maxRecDepth 100000 in
theorem ck_Q_has : mm_chkB mr_203 mb_Q_has = true := by decide +kernel
set_option maxRecDepth 100000 in
theorem ck_Q_add : mm_chkB mr_204 mb_Q_add = true := by decide +kernel
set_option maxRecDepth 100000 in
theorem ck_Q_removeLast : mm_chkB mr_205 mb_Q_removeLast = true := by decide +kernel
set_option maxRecDepth 100000 in
theorem ck_Q_isPlanned : mm_chkB mr_206 mb_Q_isPlanned = true := by decide +kernel
set_option maxRecDepth 100000 in
theorem ck_Q_areAlike : mm_chkB mr_207 mb_Q_areAlike = true := by decide +kernel
set_option maxRecDepth 100000 in
theorem ck_Q_firstAlike : mm_chkB mr_208 mb_Q_firstAlike = true := by decide +kernel
set_option maxRecDepth 100000 in
theorem ck_Q_howManyAlike : mm_chkB mr_209 mb_Q_howManyAlike = true := by decide +kernel
set_option maxRecDepth 100000 in
theorem ck_Q_unlikeOnes : mm_chkB mr_210 mb_Q_unlikeOnes = true := by decide +kernel
set_option maxRecDepth 100000 in
theorem ck_Q_howManyHave : mm_chkB mr_211 mb_Q_howManyHave = true := by decide +kernel
set_option maxRecDepth 100000 in
theorem ck_Q_aim : mm_chkB mr_212 mb_Q_aim = true := by decide +kernel
set_option maxRecDepth 100000 in
theorem ck_Rd_put : mm_chkB mr_301 mb_Rd_put = true := by decide +kernel
set_option maxRecDepth 100000 in
theorem ck_Rd_read : mm_chkB mr_302 mb_Rd_read = true := by decide +kernel
set_option maxRecDepth 100000 in
theorem ck_Rd_readLine : mm_chkB mr_303 mb_Rd_readLine = true := by decide +kernel
set_option maxRecDepth 100000 in
theorem ck_Rd_readRow : mm_chkB mr_304 mb_Rd_readRow = true := by decide +kernel
set_option maxRecDepth 100000 in
theorem ck_Rd_readCell : mm_chkB mr_305 mb_Rd_readCell = true := by decide +kernel
set_option maxRecDepth 100000 in
theorem ck_Rd_readSet : mm_chkB mr_306 mb_Rd_readSet = true := by decide +kernel
set_option maxRecDepth 100000 in
theorem ck_Rd_readAsk : mm_chkB mr_307 mb_Rd_readAsk = true := by decide +kernel
set_option maxRecDepth 100000 in
theorem ck_Rd_readTime : mm_chkB mr_308 mb_Rd_readTime = true := by decide +kernel
set_option maxRecDepth 100000 in
theorem ck_Rd_kindHere : mm_chkB mr_309 mb_Rd_kindHere = true := by decide +kernel
set_option maxRecDepth 100000 in
theorem ck_Rd_refuse : mm_chkB mr_310 mb_Rd_refuse = true := by decide +kernel
set_option maxRecDepth 100000 in
theorem ck_Rd_pass : mm_chkB mr_311 mb_Rd_pass = true := by decide +kernel
set_option maxRecDepth 100000 in
theorem ck_Rd_isWhole : mm_chkB mr_312 mb_Rd_isWhole = true := by decide +kernel
set_option maxRecDepth 100000 in
theorem ck_Rd_next : mm_chkB mr_314 mb_Rd_next = true := by decide +kernel
set_option maxRecDepth 100000 in
theorem ck_Rd_readWord : mm_chkB mr_315 mb_Rd_readWord = true := by decide +kernel
set_option maxRecDepth 100000 in
theorem ck_Rd_readWhole : mm_chkB mr_316 mb_Rd_readWhole = true := by decide +kernel
set_option maxRecDepth 100000 in
theorem ck_Rd_byteAt : mm_chkB mr_317 mb_Rd_byteAt = true := by decide +kernel
set_option maxRecDepth 100000 in
theorem ck_Rd_isBlank : mm_chkB mr_318 mb_Rd_isBlank = true := by decide +kernel
set_option maxRecDepth 100000 in
theorem ck_Rd_isLetter : mm_chkB mr_319 mb_Rd_isLetter = true := by decide +kernel
set_option maxRecDepth 100000 in
theorem ck_Rd_isDigit : mm_chkB mr_320 mb_Rd_isDigit = true := by decide +kernel
set_option maxRecDepth 100000 in
theorem ck_Row_clear : mm_chkB mr_401 mb_Row_clear = true := by decide +kernel
set_option maxRecDepth 100000 in
theorem ck_Row_copyFrom : mm_chkB mr_402 mb_Row_copyFrom = true := by decide +kernel
set_option maxRecDepth 100000 in
theorem ck_Row_has : mm_chkB mr_403 mb_Row_has = true := by decide +kernel
set_option maxRecDepth 100000 in
theorem ck_Row_hasTime : mm_chkB mr_404 mb_Row_hasTime = true := by decide +kernel
set_option maxRecDepth 100000 in
theorem ck_Row_hasRoomForCell : mm_chkB mr_405 mb_Row_hasRoomForCell = true := by decide +kernel
set_option maxRecDepth 100000 in
theorem ck_Row_hasRoomForChange : mm_chkB mr_406 mb_Row_hasRoomForChange = true := by decide +kernel
set_option maxRecDepth 100000 in
theorem ck_Row_addCell : mm_chkB mr_407 mb_Row_addCell = true := by decide +kernel
set_option maxRecDepth 100000 in
theorem ck_Row_setCell : mm_chkB mr_408 mb_Row_setCell = true := by decide +kernel
set_option maxRecDepth 100000 in
theorem ck_Row_addChange : mm_chkB mr_409 mb_Row_addChange = true := by decide +kernel
set_option maxRecDepth 100000 in
theorem ck_Row_removeLastChange : mm_chkB mr_410 mb_Row_removeLastChange = true := by decide +kernel
set_option maxRecDepth 100000 in
theorem ck_Row_numberAt : mm_chkB mr_411 mb_Row_numberAt = true := by decide +kernel
set_option maxRecDepth 100000 in
theorem ck_Row_asAt : mm_chkB mr_412 mb_Row_asAt = true := by decide +kernel
set_option maxRecDepth 100000 in
theorem ck_Srt_key : mm_chkB mr_501 mb_Srt_key = true := by decide +kernel
set_option maxRecDepth 100000 in
theorem ck_Srt_insert : mm_chkB mr_502 mb_Srt_insert = true := by decide +kernel
set_option maxRecDepth 100000 in
theorem ck_Srt_question : mm_chkB mr_503 mb_Srt_question = true := by decide +kernel
set_option maxRecDepth 100000 in
theorem ck_Srt_goesOn : mm_chkB mr_504 mb_Srt_goesOn = true := by decide +kernel
set_option maxRecDepth 100000 in
theorem ck_Spl_measure : mm_chkB mr_601 mb_Spl_measure = true := by decide +kernel
set_option maxRecDepth 100000 in
theorem ck_Spl_costOfRow : mm_chkB mr_602 mb_Spl_costOfRow = true := by decide +kernel
set_option maxRecDepth 100000 in
theorem ck_Spl_solve : mm_chkB mr_603 mb_Spl_solve = true := by decide +kernel
set_option maxRecDepth 100000 in
theorem ck_Spl_leastFrom : mm_chkB mr_604 mb_Spl_leastFrom = true := by decide +kernel
set_option maxRecDepth 100000 in
theorem ck_Spl_greatest : mm_chkB mr_605 mb_Spl_greatest = true := by decide +kernel
set_option maxRecDepth 100000 in
theorem ck_Spl_share : mm_chkB mr_606 mb_Spl_share = true := by decide +kernel
set_option maxRecDepth 100000 in
theorem ck_Spl_furthest : mm_chkB mr_607 mb_Spl_furthest = true := by decide +kernel
set_option maxRecDepth 100000 in
theorem ck_Tal_take : mm_chkB mr_701 mb_Tal_take = true := by decide +kernel
set_option maxRecDepth 100000 in
theorem ck_Tal_tell : mm_chkB mr_702 mb_Tal_tell = true := by decide +kernel
set_option maxRecDepth 100000 in
theorem ck_Tal_sum : mm_chkB mr_703 mb_Tal_sum = true := by decide +kernel
set_option maxRecDepth 100000 in
theorem ck_Tal_unlike : mm_chkB mr_704 mb_Tal_unlike = true := by decide +kernel
set_option maxRecDepth 100000 in
theorem ck_Tal_mostFrequent : mm_chkB mr_705 mb_Tal_mostFrequent = true := by decide +kernel
set_option maxRecDepth 100000 in
theorem ck_Tal_power : mm_chkB mr_706 mb_Tal_power = true := by decide +kernel
set_option maxRecDepth 100000 in
theorem ck_Tal_missing : mm_chkB mr_707 mb_Tal_missing = true := by decide +kernel
set_option maxRecDepth 100000 in
theorem ck_Tal_parts : mm_chkB mr_708 mb_Tal_parts = true := by decide +kernel
set_option maxRecDepth 100000 in
theorem ck_Tal_join : mm_chkB mr_709 mb_Tal_join = true := by decide +kernel
set_option maxRecDepth 100000 in
theorem ck_Tal_pairs : mm_chkB mr_710 mb_Tal_pairs = true := by decide +kernel
set_option maxRecDepth 100000 in
theorem ck_Und_lay : mm_chkB mr_801 mb_Und_lay = true := by decide +kernel
set_option maxRecDepth 100000 in
theorem ck_Und_follow : mm_chkB mr_802 mb_Und_follow = true := by decide +kernel
set_option maxRecDepth 100000 in
theorem ck_Und_come : mm_chkB mr_803 mb_Und_come = true := by decide +kernel
set_option maxRecDepth 100000 in
theorem ck_Win_begin : mm_chkB mr_901 mb_Win_begin = true := by decide +kernel
set_option maxRecDepth 100000 in
theorem ck_Win_has : mm_chkB mr_902 mb_Win_has = true := by decide +kernel
set_option maxRecDepth 100000 in
theorem ck_Win_cost : mm_chkB mr_903 mb_Win_cost = true := by decide +kernel
set_option maxRecDepth 100000 in
theorem ck_Win_aim : mm_chkB mr_904 mb_Win_aim = true := by decide +kernel
set_option maxRecDepth 100000 in
theorem ck_Win_distance : mm_chkB mr_905 mb_Win_distance = true := by decide +kernel
set_option maxRecDepth 100000 in
theorem ck_Win_nextKind : mm_chkB mr_906 mb_Win_nextKind = true := by decide +kernel
set_option maxRecDepth 100000 in
theorem ck_Win_make : mm_chkB mr_907 mb_Win_make = true := by decide +kernel
set_option maxRecDepth 100000 in
theorem ck_Win_shift : mm_chkB mr_908 mb_Win_shift = true := by decide +kernel
set_option maxRecDepth 100000 in
theorem ck_Win_movedBy : mm_chkB mr_909 mb_Win_movedBy = true := by decide +kernel
set_option maxRecDepth 100000 in
theorem ck_P_feed : mm_chkB mr_1001 mb_P_feed = true := by decide +kernel
set_option maxRecDepth 100000 in
theorem ck_P_text : mm_chkB mr_1002 mb_P_text = true := by decide +kernel
set_option maxRecDepth 100000 in
theorem ck_P_cell : mm_chkB mr_1003 mb_P_cell = true := by decide +kernel
set_option maxRecDepth 100000 in
theorem ck_P_change : mm_chkB mr_1004 mb_P_change = true := by decide +kernel
set_option maxRecDepth 100000 in
theorem ck_P_ask : mm_chkB mr_1005 mb_P_ask = true := by decide +kernel
set_option maxRecDepth 100000 in
theorem ck_P_drop : mm_chkB mr_1006 mb_P_drop = true := by decide +kernel
set_option maxRecDepth 100000 in
theorem ck_P_weight : mm_chkB mr_1007 mb_P_weight = true := by decide +kernel
set_option maxRecDepth 100000 in
theorem ck_P_set : mm_chkB mr_1008 mb_P_set = true := by decide +kernel
set_option maxRecDepth 100000 in
theorem ck_P_back : mm_chkB mr_1009 mb_P_back = true := by decide +kernel
set_option maxRecDepth 100000 in
theorem ck_P_at : mm_chkB mr_1011 mb_P_at = true := by decide +kernel
set_option maxRecDepth 100000 in
theorem ck_P_of : mm_chkB mr_1012 mb_P_of = true := by decide +kernel
set_option maxRecDepth 100000 in
theorem ck_P_planned : mm_chkB mr_1013 mb_P_planned = true := by decide +kernel
set_option maxRecDepth 100000 in
theorem ck_P_moves : mm_chkB mr_1014 mb_P_moves = true := by decide +kernel
set_option maxRecDepth 100000 in
theorem ck_P_best : mm_chkB mr_1015 mb_P_best = true := by decide +kernel
set_option maxRecDepth 100000 in
theorem ck_P_split : mm_chkB mr_1016 mb_P_split = true := by decide +kernel
set_option maxRecDepth 100000 in
theorem ck_P_move : mm_chkB mr_1017 mb_P_move = true := by decide +kernel
set_option maxRecDepth 100000 in
theorem ck_P_saves : mm_chkB mr_1018 mb_P_saves = true := by decide +kernel
set_option maxRecDepth 100000 in
theorem ck_P_would : mm_chkB mr_1019 mb_P_would = true := by decide +kernel
set_option maxRecDepth 100000 in
theorem ck_P_undone : mm_chkB mr_1020 mb_P_undone = true := by decide +kernel
set_option maxRecDepth 100000 in
theorem ck_P_adds : mm_chkB mr_1021 mb_P_adds = true := by decide +kernel
set_option maxRecDepth 100000 in
theorem ck_P_walk : mm_chkB mr_1022 mb_P_walk = true := by decide +kernel
set_option maxRecDepth 100000 in
theorem ck_P_home : mm_chkB mr_1023 mb_P_home = true := by decide +kernel
set_option maxRecDepth 100000 in
theorem ck_P_window : mm_chkB mr_1024 mb_P_window = true := by decide +kernel
set_option maxRecDepth 100000 in
theorem ck_P_holds : mm_chkB mr_1025 mb_P_holds = true := by decide +kernel
set_option maxRecDepth 100000 in
theorem ck_P_tells : mm_chkB mr_1026 mb_P_tells = true := by decide +kernel
set_option maxRecDepth 100000 in
theorem ck_P_touched : mm_chkB mr_1027 mb_P_touched = true := by decide +kernel
set_option maxRecDepth 100000 in
theorem ck_P_count : mm_chkB mr_1028 mb_P_count = true := by decide +kernel
set_option maxRecDepth 100000 in
theorem ck_P_isNumber : mm_chkB mr_1029 mb_P_isNumber = true := by decide +kernel
set_option maxRecDepth 100000 in
theorem ck_P_isKind : mm_chkB mr_1030 mb_P_isKind = true := by decide +kernel
set_option maxRecDepth 100000 in
theorem ck_P_isBlock : mm_chkB mr_1031 mb_P_isBlock = true := by decide +kernel
set_option maxRecDepth 100000 in
theorem ck_P_isPlan : mm_chkB mr_1032 mb_P_isPlan = true := by decide +kernel
set_option maxRecDepth 100000 in
theorem ck_P_isQuestion : mm_chkB mr_1033 mb_P_isQuestion = true := by decide +kernel
set_option maxRecDepth 100000 in
theorem ck_P_timeMeant : mm_chkB mr_1034 mb_P_timeMeant = true := by decide +kernel
set_option maxRecDepth 100000 in
theorem ck_P_takeBackChange : mm_chkB mr_1035 mb_P_takeBackChange = true := by decide +kernel
set_option maxRecDepth 100000 in
theorem ck_P_answerOf : mm_chkB mr_1036 mb_P_answerOf = true := by decide +kernel
set_option maxRecDepth 100000 in
theorem ck_P_tallyWindow : mm_chkB mr_1037 mb_P_tallyWindow = true := by decide +kernel
set_option maxRecDepth 100000 in
theorem ck_P_costOf : mm_chkB mr_1038 mb_P_costOf = true := by decide +kernel
set_option maxRecDepth 100000 in
theorem ck_P_bound : mm_chkB mr_1039 mb_P_bound = true := by decide +kernel
set_option maxRecDepth 100000 in
theorem ck_P_busiestCell : mm_chkB mr_1040 mb_P_busiestCell = true := by decide +kernel
set_option maxRecDepth 100000 in
theorem ck_M_thrown : mm_chkB mr_1101 mb_M_thrown = true := by decide +kernel
set_option maxRecDepth 100000 in
theorem ck_M_within : mm_chkB mr_1102 mb_M_within = true := by decide +kernel
set_option maxRecDepth 100000 in
theorem ck_M_feed : mm_chkB mr_1103 mb_M_feed = true := by decide +kernel
set_option maxRecDepth 100000 in
theorem ck_M_puts : mm_chkB mr_1104 mb_M_puts = true := by decide +kernel
set_option maxRecDepth 100000 in
theorem ck_M_byteAt : mm_chkB mr_1105 mb_M_byteAt = true := by decide +kernel
set_option maxRecDepth 100000 in
theorem ck_M_isLetter : mm_chkB mr_1106 mb_M_isLetter = true := by decide +kernel
set_option maxRecDepth 100000 in
theorem ck_M_isDigit : mm_chkB mr_1107 mb_M_isDigit = true := by decide +kernel
set_option maxRecDepth 100000 in
theorem ck_M_go : mm_chkB mr_1108 mb_M_go = true := by decide +kernel
set_option maxRecDepth 100000 in
theorem ck_M_wrong : mm_chkB mr_1109 mb_M_wrong = true := by decide +kernel
set_option maxRecDepth 100000 in
theorem ck_M_isSign : mm_chkB mr_1110 mb_M_isSign = true := by decide +kernel
set_option maxRecDepth 100000 in
theorem ck_M_isWord : mm_chkB mr_1111 mb_M_isWord = true := by decide +kernel
set_option maxRecDepth 100000 in
theorem ck_M_byteOf : mm_chkB mr_1112 mb_M_byteOf = true := by decide +kernel
set_option maxRecDepth 100000 in
theorem ck_M_isSet : mm_chkB mr_1113 mb_M_isSet = true := by decide +kernel
set_option maxRecDepth 100000 in
theorem ck_M_isAsk : mm_chkB mr_1114 mb_M_isAsk = true := by decide +kernel
set_option maxRecDepth 100000 in
theorem ck_M_isRow : mm_chkB mr_1115 mb_M_isRow = true := by decide +kernel
set_option maxRecDepth 100000 in
theorem ck_M_kindHere : mm_chkB mr_1116 mb_M_kindHere = true := by decide +kernel
set_option maxRecDepth 100000 in
theorem ck_M_number : mm_chkB mr_1117 mb_M_number = true := by decide +kernel
set_option maxRecDepth 100000 in
theorem ck_M_rowCell : mm_chkB mr_1118 mb_M_rowCell = true := by decide +kernel
set_option maxRecDepth 100000 in
theorem ck_M_rowLine : mm_chkB mr_1119 mb_M_rowLine = true := by decide +kernel
set_option maxRecDepth 100000 in
theorem ck_M_setLine : mm_chkB mr_1120 mb_M_setLine = true := by decide +kernel
set_option maxRecDepth 100000 in
theorem ck_M_askLine : mm_chkB mr_1121 mb_M_askLine = true := by decide +kernel
set_option maxRecDepth 100000 in
theorem ck_M_line : mm_chkB mr_1122 mb_M_line = true := by decide +kernel
set_option maxRecDepth 100000 in
theorem ck_M_text : mm_chkB mr_1123 mb_M_text = true := by decide +kernel
set_option maxRecDepth 100000 in
theorem ck_M_takes : mm_chkB mr_1124 mb_M_takes = true := by decide +kernel
set_option maxRecDepth 100000 in
theorem ck_M_keeps : mm_chkB mr_1125 mb_M_keeps = true := by decide +kernel
set_option maxRecDepth 100000 in
theorem ck_M_isCell : mm_chkB mr_1126 mb_M_isCell = true := by decide +kernel
set_option maxRecDepth 100000 in
theorem ck_M_isQuestion : mm_chkB mr_1127 mb_M_isQuestion = true := by decide +kernel
set_option maxRecDepth 100000 in
theorem ck_M_cell : mm_chkB mr_1128 mb_M_cell = true := by decide +kernel
set_option maxRecDepth 100000 in
theorem ck_M_change : mm_chkB mr_1129 mb_M_change = true := by decide +kernel
set_option maxRecDepth 100000 in
theorem ck_M_canAsk : mm_chkB mr_1130 mb_M_canAsk = true := by decide +kernel
set_option maxRecDepth 100000 in
theorem ck_M_asks : mm_chkB mr_1131 mb_M_asks = true := by decide +kernel
set_option maxRecDepth 100000 in
theorem ck_M_ask : mm_chkB mr_1132 mb_M_ask = true := by decide +kernel
set_option maxRecDepth 100000 in
theorem ck_M_drop : mm_chkB mr_1133 mb_M_drop = true := by decide +kernel
set_option maxRecDepth 100000 in
theorem ck_M_weight : mm_chkB mr_1134 mb_M_weight = true := by decide +kernel
set_option maxRecDepth 100000 in
theorem ck_M_isPlan : mm_chkB mr_1135 mb_M_isPlan = true := by decide +kernel
set_option maxRecDepth 100000 in
theorem ck_M_set : mm_chkB mr_1136 mb_M_set = true := by decide +kernel
set_option maxRecDepth 100000 in
theorem ck_M_back : mm_chkB mr_1137 mb_M_back = true := by decide +kernel
set_option maxRecDepth 100000 in
theorem ck_M_cellAt : mm_chkB mr_1138 mb_M_cellAt = true := by decide +kernel
set_option maxRecDepth 100000 in
theorem ck_M_at : mm_chkB mr_1139 mb_M_at = true := by decide +kernel
set_option maxRecDepth 100000 in
theorem ck_M_lays : mm_chkB mr_1140 mb_M_lays = true := by decide +kernel
set_option maxRecDepth 100000 in
theorem ck_M_parts : mm_chkB mr_1141 mb_M_parts = true := by decide +kernel
set_option maxRecDepth 100000 in
theorem ck_M_most : mm_chkB mr_1142 mb_M_most = true := by decide +kernel
set_option maxRecDepth 100000 in
theorem ck_M_tellsOf : mm_chkB mr_1143 mb_M_tellsOf = true := by decide +kernel
set_option maxRecDepth 100000 in
theorem ck_M_answerOf : mm_chkB mr_1144 mb_M_answerOf = true := by decide +kernel
set_option maxRecDepth 100000 in
theorem ck_M_answer : mm_chkB mr_1145 mb_M_answer = true := by decide +kernel
set_option maxRecDepth 100000 in
theorem ck_M_areAlike : mm_chkB mr_1146 mb_M_areAlike = true := by decide +kernel
set_option maxRecDepth 100000 in
theorem ck_M_firstAlike : mm_chkB mr_1147 mb_M_firstAlike = true := by decide +kernel
set_option maxRecDepth 100000 in
theorem ck_M_of : mm_chkB mr_1148 mb_M_of = true := by decide +kernel
set_option maxRecDepth 100000 in
theorem ck_M_touched : mm_chkB mr_1149 mb_M_touched = true := by decide +kernel
set_option maxRecDepth 100000 in
theorem ck_M_isPlanned : mm_chkB mr_1150 mb_M_isPlanned = true := by decide +kernel
set_option maxRecDepth 100000 in
theorem ck_M_curve : mm_chkB mr_1151 mb_M_curve = true := by decide +kernel
set_option maxRecDepth 100000 in
theorem ck_M_weightOf : mm_chkB mr_1152 mb_M_weightOf = true := by decide +kernel
set_option maxRecDepth 100000 in
theorem ck_M_plans : mm_chkB mr_1153 mb_M_plans = true := by decide +kernel
set_option maxRecDepth 100000 in
theorem ck_M_planned : mm_chkB mr_1154 mb_M_planned = true := by decide +kernel
set_option maxRecDepth 100000 in
theorem ck_M_apart : mm_chkB mr_1155 mb_M_apart = true := by decide +kernel
set_option maxRecDepth 100000 in
theorem ck_M_along : mm_chkB mr_1156 mb_M_along = true := by decide +kernel
set_option maxRecDepth 100000 in
theorem ck_M_cost : mm_chkB mr_1157 mb_M_cost = true := by decide +kernel
set_option maxRecDepth 100000 in
theorem ck_M_costOf : mm_chkB mr_1158 mb_M_costOf = true := by decide +kernel
set_option maxRecDepth 100000 in
theorem ck_M_moves : mm_chkB mr_1159 mb_M_moves = true := by decide +kernel
set_option maxRecDepth 100000 in
theorem ck_M_best : mm_chkB mr_1160 mb_M_best = true := by decide +kernel
set_option maxRecDepth 100000 in
theorem ck_M_laysSplit : mm_chkB mr_1161 mb_M_laysSplit = true := by decide +kernel
set_option maxRecDepth 100000 in
theorem ck_M_share : mm_chkB mr_1162 mb_M_share = true := by decide +kernel
set_option maxRecDepth 100000 in
theorem ck_M_split : mm_chkB mr_1163 mb_M_split = true := by decide +kernel
set_option maxRecDepth 100000 in
theorem ck_M_saves : mm_chkB mr_1164 mb_M_saves = true := by decide +kernel
set_option maxRecDepth 100000 in
theorem ck_M_would : mm_chkB mr_1165 mb_M_would = true := by decide +kernel
set_option maxRecDepth 100000 in
theorem ck_M_moves_ : mm_chkB mr_1166 mb_M_moves_ = true := by decide +kernel
set_option maxRecDepth 100000 in
theorem ck_M_tells : mm_chkB mr_1167 mb_M_tells = true := by decide +kernel
set_option maxRecDepth 100000 in
theorem ck_M_move : mm_chkB mr_1168 mb_M_move = true := by decide +kernel
set_option maxRecDepth 100000 in
theorem ck_M_walk : mm_chkB mr_1169 mb_M_walk = true := by decide +kernel
set_option maxRecDepth 100000 in
theorem ck_M_home : mm_chkB mr_1170 mb_M_home = true := by decide +kernel
set_option maxRecDepth 100000 in
theorem ck_M_laysWindow : mm_chkB mr_1171 mb_M_laysWindow = true := by decide +kernel
set_option maxRecDepth 100000 in
theorem ck_M_window : mm_chkB mr_1172 mb_M_window = true := by decide +kernel
set_option maxRecDepth 100000 in
theorem ck_M_holds : mm_chkB mr_1173 mb_M_holds = true := by decide +kernel
set_option maxRecDepth 100000 in
theorem ck_M_tells_ : mm_chkB mr_1174 mb_M_tells_ = true := by decide +kernel
set_option maxRecDepth 100000 in
theorem ck_M_isUndone : mm_chkB mr_1175 mb_M_isUndone = true := by decide +kernel
set_option maxRecDepth 100000 in
theorem ck_M_undoneWeight : mm_chkB mr_1176 mb_M_undoneWeight = true := by decide +kernel
set_option maxRecDepth 100000 in
theorem ck_M_laysUndone : mm_chkB mr_1177 mb_M_laysUndone = true := by decide +kernel
set_option maxRecDepth 100000 in
theorem ck_M_undone : mm_chkB mr_1178 mb_M_undone = true := by decide +kernel
set_option maxRecDepth 100000 in
theorem ck_M_adds : mm_chkB mr_1179 mb_M_adds = true := by decide +kernel
set_option maxRecDepth 100000 in
theorem ck_M_having : mm_chkB mr_1180 mb_M_having = true := by decide +kernel
set_option maxRecDepth 100000 in
theorem ck_M_count : mm_chkB mr_1181 mb_M_count = true := by decide +kernel
set_option maxRecDepth 100000 in
theorem ck_J_fill : mm_chkB mr_1500 mb_J_fill = true := by decide +kernel
end
section
/-! words for the pure layer -/
def mm_b (P : Prop) [Decidable P] : Int := if P then 1 else 0
theorem mm_b0 (P : Prop) [Decidable P] : mm_b P = 0 ↔ ¬ P := by
  unfold mm_b; split <;> simp_all
theorem mm_b1 (P : Prop) [Decidable P] : mm_b P = 1 ↔ P := by
  unfold mm_b; split <;> simp_all
theorem mm_b01 (P : Prop) [Decidable P] : mm_b P = 0 ∨ mm_b P = 1 := by
  unfold mm_b; split <;> simp
theorem mm_bT {P : Prop} [Decidable P] (h : P) : mm_b P = 1 := if_pos h
theorem mm_bF {P : Prop} [Decidable P] (h : ¬ P) : mm_b P = 0 := if_neg h
theorem mm_lc_lt (x y : Int) : mm_lc x y < 0 ↔ x < y := by
  unfold mm_lc
  split
  · constructor <;> intro <;> omega
  · split <;> constructor <;> intro <;> omega
theorem mm_lc_le (x y : Int) : mm_lc x y ≤ 0 ↔ x ≤ y := by
  unfold mm_lc
  split
  · constructor <;> intro <;> omega
  · split <;> constructor <;> intro <;> omega
theorem mm_lc_gt (x y : Int) : 0 < mm_lc x y ↔ y < x := by
  unfold mm_lc
  split
  · constructor <;> intro <;> omega
  · split <;> constructor <;> intro <;> omega
theorem mm_lc_ge (x y : Int) : 0 ≤ mm_lc x y ↔ y ≤ x := by
  unfold mm_lc
  split
  · constructor <;> intro <;> omega
  · split <;> constructor <;> intro <;> omega
theorem mm_lc_eq (x y : Int) : mm_lc x y = 0 ↔ x = y := by
  unfold mm_lc
  split
  · constructor <;> intro <;> omega
  · split <;> constructor <;> intro <;> omega
theorem mm_up_s (M : mmM) (o : Nat) (i v : Int) : mm_up M o i v o i = v := if_pos ⟨rfl, rfl⟩
theorem mm_up_o {M : mmM} {o o' : Nat} (i v : Int) (h : o' ≠ o) : mm_up M o i v o' = M o' := funext fun i' => if_neg (fun q => h q.1)
theorem mm_up_i {M : mmM} {o : Nat} {i i' : Int} (v : Int) (h : i' ≠ i) : mm_up M o i v o i' = M o i' := if_neg (fun q => h q.2)
theorem mm_up_if (M : mmM) (o : Nat) (i v i' : Int) : mm_up M o i v o i' = if i' = i then v else M o i' := by
  unfold mm_up
  by_cases h : i' = i
  · rw [if_pos ⟨rfl, h⟩, if_pos h]
  · rw [if_neg (fun q => h q.2), if_neg h]
end
section
/-! the planner's Row -/
def t_Row_has : mmT := fun as M Q => match as with
  | [.inr (.inr o), .inl i] => mm_cls o = 4 ∧ Q (some (vi (mm_b (0 ≤ i ∧ i < M o 4)))) M
  | _ => False
set_option maxHeartbeats 4000000 in
set_option maxRecDepth 100000 in
theorem p_Row_has : ∀ as M Q, (∀ v ∈ as, mm_vin v) → mm_mem M → t_Row_has as M Q → (mm_ent as).length ≤ 2 ∧ mm_ok mb_Row_has [] (mm_entry 2 as) M Q := by
  intro as M Q hin hM h
  unfold t_Row_has at h
  split at h
  rotate_left
  · exact h.elim
  rename_i o i
  have hR_i : mm_R i := hin (vi i) (by simp)
  refine ⟨by simp [mm_ent], (show mm_ok mb_Row_has [] [some (vr o), some (vi i)] M Q from ?_)⟩
  intro J hJ
  obtain ⟨ho, h⟩ := h
  repeat' first | (refine And.intro ?_ ?_) | (intro _) | (refine hJ 0 _ _ _ ?_; show mm_wp _ _ _ mo_Row_has_0 _ _ _; simp only [mo_Row_has_0, mm_wp, mm_ldi, mm_lda, mm_ldl, mm_sti, mm_sta, mm_stl, mm_inc, mm_2i, mm_mm, mm_2l, mm_lcmp, mm_i2l, mm_l2i, mm_cast8, mm_if1, mm_if2, mm_cmp, mm_swi, mm_sw, mm_pop1, mm_dup, mm_dup2, mm_geti, mm_geta, mm_puti, mm_iald, mm_bald, mm_aald, mm_iast, mm_bast, mm_alen, mm_acpy, mm_call, mm_callv, mm_recv, mm_pop, mm_find, mm_push, mm_cats, mm_cat, mm_reti, mm_retz, mm_retl, mm_reta, mm_retv, mm_set1, mm_set2, mm_kill, List.getElem?_cons_zero, List.getElem?_cons_succ, Int.reduceToNat, ↓reduceIte, Nat.reduceEqDiff, Nat.reduceDiv, Nat.reduceAdd, Nat.reduceLeDiff, Nat.zero_le, true_and, and_true, true_or, or_true, mm_b0, mm_b1, mm_lc_lt, mm_lc_le, mm_lc_gt, mm_lc_ge, mm_lc_eq, Int.not_lt, Int.not_le, Decidable.not_not, Int.sub_neg]) | (refine hJ 16 _ _ _ ?_; show mm_wp _ _ _ mo_Row_has_16 _ _ _; simp only [mo_Row_has_16, mm_wp, mm_ldi, mm_lda, mm_ldl, mm_sti, mm_sta, mm_stl, mm_inc, mm_2i, mm_mm, mm_2l, mm_lcmp, mm_i2l, mm_l2i, mm_cast8, mm_if1, mm_if2, mm_cmp, mm_swi, mm_sw, mm_pop1, mm_dup, mm_dup2, mm_geti, mm_geta, mm_puti, mm_iald, mm_bald, mm_aald, mm_iast, mm_bast, mm_alen, mm_acpy, mm_call, mm_callv, mm_recv, mm_pop, mm_find, mm_push, mm_cats, mm_cat, mm_reti, mm_retz, mm_retl, mm_reta, mm_retv, mm_set1, mm_set2, mm_kill, List.getElem?_cons_zero, List.getElem?_cons_succ, Int.reduceToNat, ↓reduceIte, Nat.reduceEqDiff, Nat.reduceDiv, Nat.reduceAdd, Nat.reduceLeDiff, Nat.zero_le, true_and, and_true, true_or, or_true, mm_b0, mm_b1, mm_lc_lt, mm_lc_le, mm_lc_gt, mm_lc_ge, mm_lc_eq, Int.not_lt, Int.not_le, Decidable.not_not, Int.sub_neg]) | (refine hJ 17 _ _ _ ?_; show mm_wp _ _ _ mo_Row_has_17 _ _ _; simp only [mo_Row_has_17, mm_wp, mm_ldi, mm_lda, mm_ldl, mm_sti, mm_sta, mm_stl, mm_inc, mm_2i, mm_mm, mm_2l, mm_lcmp, mm_i2l, mm_l2i, mm_cast8, mm_if1, mm_if2, mm_cmp, mm_swi, mm_sw, mm_pop1, mm_dup, mm_dup2, mm_geti, mm_geta, mm_puti, mm_iald, mm_bald, mm_aald, mm_iast, mm_bast, mm_alen, mm_acpy, mm_call, mm_callv, mm_recv, mm_pop, mm_find, mm_push, mm_cats, mm_cat, mm_reti, mm_retz, mm_retl, mm_reta, mm_retv, mm_set1, mm_set2, mm_kill, List.getElem?_cons_zero, List.getElem?_cons_succ, Int.reduceToNat, ↓reduceIte, Nat.reduceEqDiff, Nat.reduceDiv, Nat.reduceAdd, Nat.reduceLeDiff, Nat.zero_le, true_and, and_true, true_or, or_true, mm_b0, mm_b1, mm_lc_lt, mm_lc_le, mm_lc_gt, mm_lc_ge, mm_lc_eq, Int.not_lt, Int.not_le, Decidable.not_not, Int.sub_neg])
  all_goals first | assumption | (exact Or.inl rfl) | (exact Or.inr rfl) | (exact rfl) | trivial | omega | (rw [mm_bF (by omega)] at h; exact h) | (rw [mm_bT (by omega)] at h; exact h)
def t_Row_hasTime : mmT := fun as M Q => match as with
  | [.inr (.inr o), .inl i] => mm_cls o = 4 ∧ Q (some (vi (mm_b (0 ≤ i ∧ i ≤ M o 5)))) M
  | _ => False
set_option maxHeartbeats 4000000 in
set_option maxRecDepth 100000 in
theorem p_Row_hasTime : ∀ as M Q, (∀ v ∈ as, mm_vin v) → mm_mem M → t_Row_hasTime as M Q → (mm_ent as).length ≤ 2 ∧ mm_ok mb_Row_hasTime [] (mm_entry 2 as) M Q := by
  intro as M Q hin hM h
  unfold t_Row_hasTime at h
  split at h
  rotate_left
  · exact h.elim
  rename_i o i
  have hR_i : mm_R i := hin (vi i) (by simp)
  refine ⟨by simp [mm_ent], (show mm_ok mb_Row_hasTime [] [some (vr o), some (vi i)] M Q from ?_)⟩
  intro J hJ
  obtain ⟨ho, h⟩ := h
  repeat' first | (refine And.intro ?_ ?_) | (intro _) | (refine hJ 0 _ _ _ ?_; show mm_wp _ _ _ mo_Row_hasTime_0 _ _ _; simp only [mo_Row_hasTime_0, mm_wp, mm_ldi, mm_lda, mm_ldl, mm_sti, mm_sta, mm_stl, mm_inc, mm_2i, mm_mm, mm_2l, mm_lcmp, mm_i2l, mm_l2i, mm_cast8, mm_if1, mm_if2, mm_cmp, mm_swi, mm_sw, mm_pop1, mm_dup, mm_dup2, mm_geti, mm_geta, mm_puti, mm_iald, mm_bald, mm_aald, mm_iast, mm_bast, mm_alen, mm_acpy, mm_call, mm_callv, mm_recv, mm_pop, mm_find, mm_push, mm_cats, mm_cat, mm_reti, mm_retz, mm_retl, mm_reta, mm_retv, mm_set1, mm_set2, mm_kill, List.getElem?_cons_zero, List.getElem?_cons_succ, Int.reduceToNat, ↓reduceIte, Nat.reduceEqDiff, Nat.reduceDiv, Nat.reduceAdd, Nat.reduceLeDiff, Nat.zero_le, true_and, and_true, true_or, or_true, mm_b0, mm_b1, mm_lc_lt, mm_lc_le, mm_lc_gt, mm_lc_ge, mm_lc_eq, Int.not_lt, Int.not_le, Decidable.not_not, Int.sub_neg]) | (refine hJ 16 _ _ _ ?_; show mm_wp _ _ _ mo_Row_hasTime_16 _ _ _; simp only [mo_Row_hasTime_16, mm_wp, mm_ldi, mm_lda, mm_ldl, mm_sti, mm_sta, mm_stl, mm_inc, mm_2i, mm_mm, mm_2l, mm_lcmp, mm_i2l, mm_l2i, mm_cast8, mm_if1, mm_if2, mm_cmp, mm_swi, mm_sw, mm_pop1, mm_dup, mm_dup2, mm_geti, mm_geta, mm_puti, mm_iald, mm_bald, mm_aald, mm_iast, mm_bast, mm_alen, mm_acpy, mm_call, mm_callv, mm_recv, mm_pop, mm_find, mm_push, mm_cats, mm_cat, mm_reti, mm_retz, mm_retl, mm_reta, mm_retv, mm_set1, mm_set2, mm_kill, List.getElem?_cons_zero, List.getElem?_cons_succ, Int.reduceToNat, ↓reduceIte, Nat.reduceEqDiff, Nat.reduceDiv, Nat.reduceAdd, Nat.reduceLeDiff, Nat.zero_le, true_and, and_true, true_or, or_true, mm_b0, mm_b1, mm_lc_lt, mm_lc_le, mm_lc_gt, mm_lc_ge, mm_lc_eq, Int.not_lt, Int.not_le, Decidable.not_not, Int.sub_neg]) | (refine hJ 17 _ _ _ ?_; show mm_wp _ _ _ mo_Row_hasTime_17 _ _ _; simp only [mo_Row_hasTime_17, mm_wp, mm_ldi, mm_lda, mm_ldl, mm_sti, mm_sta, mm_stl, mm_inc, mm_2i, mm_mm, mm_2l, mm_lcmp, mm_i2l, mm_l2i, mm_cast8, mm_if1, mm_if2, mm_cmp, mm_swi, mm_sw, mm_pop1, mm_dup, mm_dup2, mm_geti, mm_geta, mm_puti, mm_iald, mm_bald, mm_aald, mm_iast, mm_bast, mm_alen, mm_acpy, mm_call, mm_callv, mm_recv, mm_pop, mm_find, mm_push, mm_cats, mm_cat, mm_reti, mm_retz, mm_retl, mm_reta, mm_retv, mm_set1, mm_set2, mm_kill, List.getElem?_cons_zero, List.getElem?_cons_succ, Int.reduceToNat, ↓reduceIte, Nat.reduceEqDiff, Nat.reduceDiv, Nat.reduceAdd, Nat.reduceLeDiff, Nat.zero_le, true_and, and_true, true_or, or_true, mm_b0, mm_b1, mm_lc_lt, mm_lc_le, mm_lc_gt, mm_lc_ge, mm_lc_eq, Int.not_lt, Int.not_le, Decidable.not_not, Int.sub_neg])
  all_goals first | assumption | (exact Or.inl rfl) | (exact Or.inr rfl) | (exact rfl) | trivial | omega | (rw [mm_bF (by omega)] at h; exact h) | (rw [mm_bT (by omega)] at h; exact h)
def t_Row_hasRoomForCell : mmT := fun as M Q => match as with
  | [.inr (.inr o)] => mm_cls o = 4 ∧ Q (some (vi (mm_b (M o 4 < 60)))) M
  | _ => False
set_option maxHeartbeats 4000000 in
set_option maxRecDepth 100000 in
theorem p_Row_hasRoomForCell : ∀ as M Q, (∀ v ∈ as, mm_vin v) → mm_mem M → t_Row_hasRoomForCell as M Q → (mm_ent as).length ≤ 1 ∧ mm_ok mb_Row_hasRoomForCell [] (mm_entry 1 as) M Q := by
  intro as M Q hin hM h
  unfold t_Row_hasRoomForCell at h
  split at h
  rotate_left
  · exact h.elim
  rename_i o
  refine ⟨by simp [mm_ent], (show mm_ok mb_Row_hasRoomForCell [] [some (vr o)] M Q from ?_)⟩
  intro J hJ
  obtain ⟨ho, h⟩ := h
  repeat' first | (refine And.intro ?_ ?_) | (intro _) | (refine hJ 0 _ _ _ ?_; show mm_wp _ _ _ mo_Row_hasRoomForCell_0 _ _ _; simp only [mo_Row_hasRoomForCell_0, mm_wp, mm_ldi, mm_lda, mm_ldl, mm_sti, mm_sta, mm_stl, mm_inc, mm_2i, mm_mm, mm_2l, mm_lcmp, mm_i2l, mm_l2i, mm_cast8, mm_if1, mm_if2, mm_cmp, mm_swi, mm_sw, mm_pop1, mm_dup, mm_dup2, mm_geti, mm_geta, mm_puti, mm_iald, mm_bald, mm_aald, mm_iast, mm_bast, mm_alen, mm_acpy, mm_call, mm_callv, mm_recv, mm_pop, mm_find, mm_push, mm_cats, mm_cat, mm_reti, mm_retz, mm_retl, mm_reta, mm_retv, mm_set1, mm_set2, mm_kill, List.getElem?_cons_zero, List.getElem?_cons_succ, Int.reduceToNat, ↓reduceIte, Nat.reduceEqDiff, Nat.reduceDiv, Nat.reduceAdd, Nat.reduceLeDiff, Nat.zero_le, true_and, and_true, true_or, or_true, mm_b0, mm_b1, mm_lc_lt, mm_lc_le, mm_lc_gt, mm_lc_ge, mm_lc_eq, Int.not_lt, Int.not_le, Decidable.not_not, Int.sub_neg]) | (refine hJ 13 _ _ _ ?_; show mm_wp _ _ _ mo_Row_hasRoomForCell_13 _ _ _; simp only [mo_Row_hasRoomForCell_13, mm_wp, mm_ldi, mm_lda, mm_ldl, mm_sti, mm_sta, mm_stl, mm_inc, mm_2i, mm_mm, mm_2l, mm_lcmp, mm_i2l, mm_l2i, mm_cast8, mm_if1, mm_if2, mm_cmp, mm_swi, mm_sw, mm_pop1, mm_dup, mm_dup2, mm_geti, mm_geta, mm_puti, mm_iald, mm_bald, mm_aald, mm_iast, mm_bast, mm_alen, mm_acpy, mm_call, mm_callv, mm_recv, mm_pop, mm_find, mm_push, mm_cats, mm_cat, mm_reti, mm_retz, mm_retl, mm_reta, mm_retv, mm_set1, mm_set2, mm_kill, List.getElem?_cons_zero, List.getElem?_cons_succ, Int.reduceToNat, ↓reduceIte, Nat.reduceEqDiff, Nat.reduceDiv, Nat.reduceAdd, Nat.reduceLeDiff, Nat.zero_le, true_and, and_true, true_or, or_true, mm_b0, mm_b1, mm_lc_lt, mm_lc_le, mm_lc_gt, mm_lc_ge, mm_lc_eq, Int.not_lt, Int.not_le, Decidable.not_not, Int.sub_neg]) | (refine hJ 14 _ _ _ ?_; show mm_wp _ _ _ mo_Row_hasRoomForCell_14 _ _ _; simp only [mo_Row_hasRoomForCell_14, mm_wp, mm_ldi, mm_lda, mm_ldl, mm_sti, mm_sta, mm_stl, mm_inc, mm_2i, mm_mm, mm_2l, mm_lcmp, mm_i2l, mm_l2i, mm_cast8, mm_if1, mm_if2, mm_cmp, mm_swi, mm_sw, mm_pop1, mm_dup, mm_dup2, mm_geti, mm_geta, mm_puti, mm_iald, mm_bald, mm_aald, mm_iast, mm_bast, mm_alen, mm_acpy, mm_call, mm_callv, mm_recv, mm_pop, mm_find, mm_push, mm_cats, mm_cat, mm_reti, mm_retz, mm_retl, mm_reta, mm_retv, mm_set1, mm_set2, mm_kill, List.getElem?_cons_zero, List.getElem?_cons_succ, Int.reduceToNat, ↓reduceIte, Nat.reduceEqDiff, Nat.reduceDiv, Nat.reduceAdd, Nat.reduceLeDiff, Nat.zero_le, true_and, and_true, true_or, or_true, mm_b0, mm_b1, mm_lc_lt, mm_lc_le, mm_lc_gt, mm_lc_ge, mm_lc_eq, Int.not_lt, Int.not_le, Decidable.not_not, Int.sub_neg])
  all_goals first | assumption | (exact Or.inl rfl) | (exact Or.inr rfl) | (exact rfl) | trivial | omega | (rw [mm_bF (by omega)] at h; exact h) | (rw [mm_bT (by omega)] at h; exact h)
def t_Row_hasRoomForChange : mmT := fun as M Q => match as with
  | [.inr (.inr o)] => mm_cls o = 4 ∧ Q (some (vi (mm_b (M o 5 < 32)))) M
  | _ => False
set_option maxHeartbeats 4000000 in
set_option maxRecDepth 100000 in
theorem p_Row_hasRoomForChange : ∀ as M Q, (∀ v ∈ as, mm_vin v) → mm_mem M → t_Row_hasRoomForChange as M Q → (mm_ent as).length ≤ 1 ∧ mm_ok mb_Row_hasRoomForChange [] (mm_entry 1 as) M Q := by
  intro as M Q hin hM h
  unfold t_Row_hasRoomForChange at h
  split at h
  rotate_left
  · exact h.elim
  rename_i o
  refine ⟨by simp [mm_ent], (show mm_ok mb_Row_hasRoomForChange [] [some (vr o)] M Q from ?_)⟩
  intro J hJ
  obtain ⟨ho, h⟩ := h
  repeat' first | (refine And.intro ?_ ?_) | (intro _) | (refine hJ 0 _ _ _ ?_; show mm_wp _ _ _ mo_Row_hasRoomForChange_0 _ _ _; simp only [mo_Row_hasRoomForChange_0, mm_wp, mm_ldi, mm_lda, mm_ldl, mm_sti, mm_sta, mm_stl, mm_inc, mm_2i, mm_mm, mm_2l, mm_lcmp, mm_i2l, mm_l2i, mm_cast8, mm_if1, mm_if2, mm_cmp, mm_swi, mm_sw, mm_pop1, mm_dup, mm_dup2, mm_geti, mm_geta, mm_puti, mm_iald, mm_bald, mm_aald, mm_iast, mm_bast, mm_alen, mm_acpy, mm_call, mm_callv, mm_recv, mm_pop, mm_find, mm_push, mm_cats, mm_cat, mm_reti, mm_retz, mm_retl, mm_reta, mm_retv, mm_set1, mm_set2, mm_kill, List.getElem?_cons_zero, List.getElem?_cons_succ, Int.reduceToNat, ↓reduceIte, Nat.reduceEqDiff, Nat.reduceDiv, Nat.reduceAdd, Nat.reduceLeDiff, Nat.zero_le, true_and, and_true, true_or, or_true, mm_b0, mm_b1, mm_lc_lt, mm_lc_le, mm_lc_gt, mm_lc_ge, mm_lc_eq, Int.not_lt, Int.not_le, Decidable.not_not, Int.sub_neg]) | (refine hJ 13 _ _ _ ?_; show mm_wp _ _ _ mo_Row_hasRoomForChange_13 _ _ _; simp only [mo_Row_hasRoomForChange_13, mm_wp, mm_ldi, mm_lda, mm_ldl, mm_sti, mm_sta, mm_stl, mm_inc, mm_2i, mm_mm, mm_2l, mm_lcmp, mm_i2l, mm_l2i, mm_cast8, mm_if1, mm_if2, mm_cmp, mm_swi, mm_sw, mm_pop1, mm_dup, mm_dup2, mm_geti, mm_geta, mm_puti, mm_iald, mm_bald, mm_aald, mm_iast, mm_bast, mm_alen, mm_acpy, mm_call, mm_callv, mm_recv, mm_pop, mm_find, mm_push, mm_cats, mm_cat, mm_reti, mm_retz, mm_retl, mm_reta, mm_retv, mm_set1, mm_set2, mm_kill, List.getElem?_cons_zero, List.getElem?_cons_succ, Int.reduceToNat, ↓reduceIte, Nat.reduceEqDiff, Nat.reduceDiv, Nat.reduceAdd, Nat.reduceLeDiff, Nat.zero_le, true_and, and_true, true_or, or_true, mm_b0, mm_b1, mm_lc_lt, mm_lc_le, mm_lc_gt, mm_lc_ge, mm_lc_eq, Int.not_lt, Int.not_le, Decidable.not_not, Int.sub_neg]) | (refine hJ 14 _ _ _ ?_; show mm_wp _ _ _ mo_Row_hasRoomForChange_14 _ _ _; simp only [mo_Row_hasRoomForChange_14, mm_wp, mm_ldi, mm_lda, mm_ldl, mm_sti, mm_sta, mm_stl, mm_inc, mm_2i, mm_mm, mm_2l, mm_lcmp, mm_i2l, mm_l2i, mm_cast8, mm_if1, mm_if2, mm_cmp, mm_swi, mm_sw, mm_pop1, mm_dup, mm_dup2, mm_geti, mm_geta, mm_puti, mm_iald, mm_bald, mm_aald, mm_iast, mm_bast, mm_alen, mm_acpy, mm_call, mm_callv, mm_recv, mm_pop, mm_find, mm_push, mm_cats, mm_cat, mm_reti, mm_retz, mm_retl, mm_reta, mm_retv, mm_set1, mm_set2, mm_kill, List.getElem?_cons_zero, List.getElem?_cons_succ, Int.reduceToNat, ↓reduceIte, Nat.reduceEqDiff, Nat.reduceDiv, Nat.reduceAdd, Nat.reduceLeDiff, Nat.zero_le, true_and, and_true, true_or, or_true, mm_b0, mm_b1, mm_lc_lt, mm_lc_le, mm_lc_gt, mm_lc_ge, mm_lc_eq, Int.not_lt, Int.not_le, Decidable.not_not, Int.sub_neg])
  all_goals first | assumption | (exact Or.inl rfl) | (exact Or.inr rfl) | (exact rfl) | trivial | omega | (rw [mm_bF (by omega)] at h; exact h) | (rw [mm_bT (by omega)] at h; exact h)
def t_Row_clear : mmT := fun as M Q => match as with
  | [.inr (.inr o)] => mm_cls o = 4 ∧ Q none (mm_up (mm_up M o 4 0) o 5 0)
  | _ => False
set_option maxHeartbeats 4000000 in
set_option maxRecDepth 100000 in
theorem p_Row_clear : ∀ as M Q, (∀ v ∈ as, mm_vin v) → mm_mem M → t_Row_clear as M Q → (mm_ent as).length ≤ 1 ∧ mm_ok mb_Row_clear [] (mm_entry 1 as) M Q := by
  intro as M Q hin hM h
  unfold t_Row_clear at h
  split at h
  rotate_left
  · exact h.elim
  rename_i o
  refine ⟨by simp [mm_ent], (show mm_ok mb_Row_clear [] [some (vr o)] M Q from ?_)⟩
  intro J hJ
  obtain ⟨ho, h⟩ := h
  repeat' first | (refine And.intro ?_ ?_) | (intro _) | (refine hJ 0 _ _ _ ?_; show mm_wp _ _ _ mo_Row_clear_0 _ _ _; simp only [mo_Row_clear_0, mm_wp, mm_ldi, mm_lda, mm_ldl, mm_sti, mm_sta, mm_stl, mm_inc, mm_2i, mm_mm, mm_2l, mm_lcmp, mm_i2l, mm_l2i, mm_cast8, mm_if1, mm_if2, mm_cmp, mm_swi, mm_sw, mm_pop1, mm_dup, mm_dup2, mm_geti, mm_geta, mm_puti, mm_iald, mm_bald, mm_aald, mm_iast, mm_bast, mm_alen, mm_acpy, mm_call, mm_callv, mm_recv, mm_pop, mm_find, mm_push, mm_cats, mm_cat, mm_reti, mm_retz, mm_retl, mm_reta, mm_retv, mm_set1, mm_set2, mm_kill, List.getElem?_cons_zero, List.getElem?_cons_succ, Int.reduceToNat, ↓reduceIte, Nat.reduceEqDiff, Nat.reduceDiv, Nat.reduceAdd, Nat.reduceLeDiff, Nat.zero_le, true_and, and_true, true_or, or_true, mm_b0, mm_b1, mm_lc_lt, mm_lc_le, mm_lc_gt, mm_lc_ge, mm_lc_eq, Int.not_lt, Int.not_le, Decidable.not_not, Int.sub_neg])
  all_goals first | assumption | (exact Or.inl rfl) | (exact Or.inr rfl) | (exact rfl) | trivial | omega
def t_Row_addCell : mmT := fun as M Q => match as with
  | [.inr (.inr o), .inl v] => mm_cls o = 4 ∧ mm_cls (o + 1) = 100 ∧ mm_len (o + 1) = 60 ∧ 0 ≤ M o 4 ∧ M o 4 < 60 ∧ Q none (mm_up (mm_up M (o + 1) (M o 4) v) o 4 (M o 4 + 1))
  | _ => False
set_option maxHeartbeats 4000000 in
set_option maxRecDepth 100000 in
theorem p_Row_addCell : ∀ as M Q, (∀ v ∈ as, mm_vin v) → mm_mem M → t_Row_addCell as M Q → (mm_ent as).length ≤ 2 ∧ mm_ok mb_Row_addCell [(405, t_Row_hasRoomForCell)] (mm_entry 2 as) M Q := by
  intro as M Q hin hM h
  unfold t_Row_addCell at h
  split at h
  rotate_left
  · exact h.elim
  rename_i o v
  have hR_v : mm_R v := hin (vi v) (by simp)
  refine ⟨by simp [mm_ent], (show mm_ok mb_Row_addCell [(405, t_Row_hasRoomForCell)] [some (vr o), some (vi v)] M Q from ?_)⟩
  intro J hJ
  obtain ⟨ho, h1, h2, h3, h4, h⟩ := h
  have h5 : mm_up M (o + 1) (M o 4) v o = M o := mm_up_o _ _ (by omega)
  repeat' first | (refine And.intro ?_ ?_) | (intro _) | (refine hJ 0 _ _ _ ?_; show mm_wp _ _ _ mo_Row_addCell_0 _ _ _; simp only [mo_Row_addCell_0, mm_wp, mm_ldi, mm_lda, mm_ldl, mm_sti, mm_sta, mm_stl, mm_inc, mm_2i, mm_mm, mm_2l, mm_lcmp, mm_i2l, mm_l2i, mm_cast8, mm_if1, mm_if2, mm_cmp, mm_swi, mm_sw, mm_pop1, mm_dup, mm_dup2, mm_geti, mm_geta, mm_puti, mm_iald, mm_bald, mm_aald, mm_iast, mm_bast, mm_alen, mm_acpy, mm_call, mm_callv, mm_recv, mm_pop, mm_find, mm_push, mm_cats, mm_cat, mm_reti, mm_retz, mm_retl, mm_reta, mm_retv, mm_set1, mm_set2, mm_kill, List.getElem?_cons_zero, List.getElem?_cons_succ, Int.reduceToNat, ↓reduceIte, Nat.reduceEqDiff, Nat.reduceDiv, Nat.reduceAdd, Nat.reduceLeDiff, Nat.zero_le, true_and, and_true, true_or, or_true, mm_b0, mm_b1, mm_lc_lt, mm_lc_le, mm_lc_gt, mm_lc_ge, mm_lc_eq, Int.not_lt, Int.not_le, Decidable.not_not, Int.sub_neg, t_Row_hasRoomForCell, h5]) | (refine hJ 27 _ _ _ ?_; show mm_wp _ _ _ mo_Row_addCell_27 _ _ _; simp only [mo_Row_addCell_27, mm_wp, mm_ldi, mm_lda, mm_ldl, mm_sti, mm_sta, mm_stl, mm_inc, mm_2i, mm_mm, mm_2l, mm_lcmp, mm_i2l, mm_l2i, mm_cast8, mm_if1, mm_if2, mm_cmp, mm_swi, mm_sw, mm_pop1, mm_dup, mm_dup2, mm_geti, mm_geta, mm_puti, mm_iald, mm_bald, mm_aald, mm_iast, mm_bast, mm_alen, mm_acpy, mm_call, mm_callv, mm_recv, mm_pop, mm_find, mm_push, mm_cats, mm_cat, mm_reti, mm_retz, mm_retl, mm_reta, mm_retv, mm_set1, mm_set2, mm_kill, List.getElem?_cons_zero, List.getElem?_cons_succ, Int.reduceToNat, ↓reduceIte, Nat.reduceEqDiff, Nat.reduceDiv, Nat.reduceAdd, Nat.reduceLeDiff, Nat.zero_le, true_and, and_true, true_or, or_true, mm_b0, mm_b1, mm_lc_lt, mm_lc_le, mm_lc_gt, mm_lc_ge, mm_lc_eq, Int.not_lt, Int.not_le, Decidable.not_not, Int.sub_neg, t_Row_hasRoomForCell, h5])
  all_goals first | assumption | (exact Or.inl rfl) | (exact Or.inr rfl) | (exact rfl) | trivial | omega | (rw [mm_bF (by omega)] at *; omega)
def t_Row_setCell : mmT := fun as M Q => match as with
  | [.inr (.inr o), .inl i, .inl v] => mm_cls o = 4 ∧ mm_cls (o + 1) = 100 ∧ mm_len (o + 1) = 60 ∧ 0 ≤ i ∧ i < M o 4 ∧ M o 4 ≤ 60 ∧ Q none (mm_up M (o + 1) i v)
  | _ => False
set_option maxHeartbeats 4000000 in
set_option maxRecDepth 100000 in
theorem p_Row_setCell : ∀ as M Q, (∀ v ∈ as, mm_vin v) → mm_mem M → t_Row_setCell as M Q → (mm_ent as).length ≤ 3 ∧ mm_ok mb_Row_setCell [(403, t_Row_has)] (mm_entry 3 as) M Q := by
  intro as M Q hin hM h
  unfold t_Row_setCell at h
  split at h
  rotate_left
  · exact h.elim
  rename_i o i v
  have hR_i : mm_R i := hin (vi i) (by simp)
  have hR_v : mm_R v := hin (vi v) (by simp)
  refine ⟨by simp [mm_ent], (show mm_ok mb_Row_setCell [(403, t_Row_has)] [some (vr o), some (vi i), some (vi v)] M Q from ?_)⟩
  intro J hJ
  obtain ⟨ho, h1, h2, h3, h4, h5, h⟩ := h
  repeat' first | (refine And.intro ?_ ?_) | (intro _) | (refine hJ 0 _ _ _ ?_; show mm_wp _ _ _ mo_Row_setCell_0 _ _ _; simp only [mo_Row_setCell_0, mm_wp, mm_ldi, mm_lda, mm_ldl, mm_sti, mm_sta, mm_stl, mm_inc, mm_2i, mm_mm, mm_2l, mm_lcmp, mm_i2l, mm_l2i, mm_cast8, mm_if1, mm_if2, mm_cmp, mm_swi, mm_sw, mm_pop1, mm_dup, mm_dup2, mm_geti, mm_geta, mm_puti, mm_iald, mm_bald, mm_aald, mm_iast, mm_bast, mm_alen, mm_acpy, mm_call, mm_callv, mm_recv, mm_pop, mm_find, mm_push, mm_cats, mm_cat, mm_reti, mm_retz, mm_retl, mm_reta, mm_retv, mm_set1, mm_set2, mm_kill, List.getElem?_cons_zero, List.getElem?_cons_succ, Int.reduceToNat, ↓reduceIte, Nat.reduceEqDiff, Nat.reduceDiv, Nat.reduceAdd, Nat.reduceLeDiff, Nat.zero_le, true_and, and_true, true_or, or_true, mm_b0, mm_b1, mm_lc_lt, mm_lc_le, mm_lc_gt, mm_lc_ge, mm_lc_eq, Int.not_lt, Int.not_le, Decidable.not_not, Int.sub_neg, t_Row_has]) | (refine hJ 15 _ _ _ ?_; show mm_wp _ _ _ mo_Row_setCell_15 _ _ _; simp only [mo_Row_setCell_15, mm_wp, mm_ldi, mm_lda, mm_ldl, mm_sti, mm_sta, mm_stl, mm_inc, mm_2i, mm_mm, mm_2l, mm_lcmp, mm_i2l, mm_l2i, mm_cast8, mm_if1, mm_if2, mm_cmp, mm_swi, mm_sw, mm_pop1, mm_dup, mm_dup2, mm_geti, mm_geta, mm_puti, mm_iald, mm_bald, mm_aald, mm_iast, mm_bast, mm_alen, mm_acpy, mm_call, mm_callv, mm_recv, mm_pop, mm_find, mm_push, mm_cats, mm_cat, mm_reti, mm_retz, mm_retl, mm_reta, mm_retv, mm_set1, mm_set2, mm_kill, List.getElem?_cons_zero, List.getElem?_cons_succ, Int.reduceToNat, ↓reduceIte, Nat.reduceEqDiff, Nat.reduceDiv, Nat.reduceAdd, Nat.reduceLeDiff, Nat.zero_le, true_and, and_true, true_or, or_true, mm_b0, mm_b1, mm_lc_lt, mm_lc_le, mm_lc_gt, mm_lc_ge, mm_lc_eq, Int.not_lt, Int.not_le, Decidable.not_not, Int.sub_neg, t_Row_has])
  all_goals first | assumption | (exact Or.inl rfl) | (exact Or.inr rfl) | (exact rfl) | trivial | omega
def t_Row_addChange : mmT := fun as M Q => match as with
  | [.inr (.inr o), .inl i, .inl v] => mm_cls o = 4 ∧ mm_cls (o + 2) = 100 ∧ mm_len (o + 2) = 32 ∧ mm_cls (o + 3) = 100 ∧ mm_len (o + 3) = 32 ∧ 0 ≤ M o 5 ∧ M o 5 < 32 ∧ Q none (mm_up (mm_up (mm_up M (o + 2) (M o 5) i) (o + 3) (M o 5) v) o 5 (M o 5 + 1))
  | _ => False
set_option maxHeartbeats 4000000 in
set_option maxRecDepth 100000 in
theorem p_Row_addChange : ∀ as M Q, (∀ v ∈ as, mm_vin v) → mm_mem M → t_Row_addChange as M Q → (mm_ent as).length ≤ 3 ∧ mm_ok mb_Row_addChange [(406, t_Row_hasRoomForChange)] (mm_entry 3 as) M Q := by
  intro as M Q hin hM h
  unfold t_Row_addChange at h
  split at h
  rotate_left
  · exact h.elim
  rename_i o i v
  have hR_i : mm_R i := hin (vi i) (by simp)
  have hR_v : mm_R v := hin (vi v) (by simp)
  refine ⟨by simp [mm_ent], (show mm_ok mb_Row_addChange [(406, t_Row_hasRoomForChange)] [some (vr o), some (vi i), some (vi v)] M Q from ?_)⟩
  intro J hJ
  obtain ⟨ho, h1, h2, h3, h4, h5, h6, h⟩ := h
  have e1 : mm_up M (o + 2) (M o 5) i o = M o := mm_up_o _ _ (by omega)
  have e2 : mm_up (mm_up M (o + 2) (M o 5) i) (o + 3) (M o 5) v o = M o := by rw [mm_up_o _ _ (by omega), e1]
  repeat' first | (refine And.intro ?_ ?_) | (intro _) | (refine hJ 0 _ _ _ ?_; show mm_wp _ _ _ mo_Row_addChange_0 _ _ _; simp only [mo_Row_addChange_0, mm_wp, mm_ldi, mm_lda, mm_ldl, mm_sti, mm_sta, mm_stl, mm_inc, mm_2i, mm_mm, mm_2l, mm_lcmp, mm_i2l, mm_l2i, mm_cast8, mm_if1, mm_if2, mm_cmp, mm_swi, mm_sw, mm_pop1, mm_dup, mm_dup2, mm_geti, mm_geta, mm_puti, mm_iald, mm_bald, mm_aald, mm_iast, mm_bast, mm_alen, mm_acpy, mm_call, mm_callv, mm_recv, mm_pop, mm_find, mm_push, mm_cats, mm_cat, mm_reti, mm_retz, mm_retl, mm_reta, mm_retv, mm_set1, mm_set2, mm_kill, List.getElem?_cons_zero, List.getElem?_cons_succ, Int.reduceToNat, ↓reduceIte, Nat.reduceEqDiff, Nat.reduceDiv, Nat.reduceAdd, Nat.reduceLeDiff, Nat.zero_le, true_and, and_true, true_or, or_true, mm_b0, mm_b1, mm_lc_lt, mm_lc_le, mm_lc_gt, mm_lc_ge, mm_lc_eq, Int.not_lt, Int.not_le, Decidable.not_not, Int.sub_neg, t_Row_hasRoomForChange, e1, e2]) | (refine hJ 37 _ _ _ ?_; show mm_wp _ _ _ mo_Row_addChange_37 _ _ _; simp only [mo_Row_addChange_37, mm_wp, mm_ldi, mm_lda, mm_ldl, mm_sti, mm_sta, mm_stl, mm_inc, mm_2i, mm_mm, mm_2l, mm_lcmp, mm_i2l, mm_l2i, mm_cast8, mm_if1, mm_if2, mm_cmp, mm_swi, mm_sw, mm_pop1, mm_dup, mm_dup2, mm_geti, mm_geta, mm_puti, mm_iald, mm_bald, mm_aald, mm_iast, mm_bast, mm_alen, mm_acpy, mm_call, mm_callv, mm_recv, mm_pop, mm_find, mm_push, mm_cats, mm_cat, mm_reti, mm_retz, mm_retl, mm_reta, mm_retv, mm_set1, mm_set2, mm_kill, List.getElem?_cons_zero, List.getElem?_cons_succ, Int.reduceToNat, ↓reduceIte, Nat.reduceEqDiff, Nat.reduceDiv, Nat.reduceAdd, Nat.reduceLeDiff, Nat.zero_le, true_and, and_true, true_or, or_true, mm_b0, mm_b1, mm_lc_lt, mm_lc_le, mm_lc_gt, mm_lc_ge, mm_lc_eq, Int.not_lt, Int.not_le, Decidable.not_not, Int.sub_neg, t_Row_hasRoomForChange, e1, e2])
  all_goals first | assumption | (exact Or.inl rfl) | (exact Or.inr rfl) | (exact rfl) | trivial | omega
def t_Row_removeLastChange : mmT := fun as M Q => match as with
  | [.inr (.inr o)] => mm_cls o = 4 ∧ 0 < M o 5 ∧ Q none (mm_up M o 5 (M o 5 - 1))
  | _ => False
set_option maxHeartbeats 4000000 in
set_option maxRecDepth 100000 in
theorem p_Row_removeLastChange : ∀ as M Q, (∀ v ∈ as, mm_vin v) → mm_mem M → t_Row_removeLastChange as M Q → (mm_ent as).length ≤ 1 ∧ mm_ok mb_Row_removeLastChange [] (mm_entry 1 as) M Q := by
  intro as M Q hin hM h
  unfold t_Row_removeLastChange at h
  split at h
  rotate_left
  · exact h.elim
  rename_i o
  refine ⟨by simp [mm_ent], (show mm_ok mb_Row_removeLastChange [] [some (vr o)] M Q from ?_)⟩
  intro J hJ
  obtain ⟨ho, h1, h⟩ := h
  have := hM o 5
  repeat' first | (refine And.intro ?_ ?_) | (intro _) | (refine hJ 0 _ _ _ ?_; show mm_wp _ _ _ mo_Row_removeLastChange_0 _ _ _; simp only [mo_Row_removeLastChange_0, mm_wp, mm_ldi, mm_lda, mm_ldl, mm_sti, mm_sta, mm_stl, mm_inc, mm_2i, mm_mm, mm_2l, mm_lcmp, mm_i2l, mm_l2i, mm_cast8, mm_if1, mm_if2, mm_cmp, mm_swi, mm_sw, mm_pop1, mm_dup, mm_dup2, mm_geti, mm_geta, mm_puti, mm_iald, mm_bald, mm_aald, mm_iast, mm_bast, mm_alen, mm_acpy, mm_call, mm_callv, mm_recv, mm_pop, mm_find, mm_push, mm_cats, mm_cat, mm_reti, mm_retz, mm_retl, mm_reta, mm_retv, mm_set1, mm_set2, mm_kill, List.getElem?_cons_zero, List.getElem?_cons_succ, Int.reduceToNat, ↓reduceIte, Nat.reduceEqDiff, Nat.reduceDiv, Nat.reduceAdd, Nat.reduceLeDiff, Nat.zero_le, true_and, and_true, true_or, or_true, mm_b0, mm_b1, mm_lc_lt, mm_lc_le, mm_lc_gt, mm_lc_ge, mm_lc_eq, Int.not_lt, Int.not_le, Decidable.not_not, Int.sub_neg]) | (refine hJ 17 _ _ _ ?_; show mm_wp _ _ _ mo_Row_removeLastChange_17 _ _ _; simp only [mo_Row_removeLastChange_17, mm_wp, mm_ldi, mm_lda, mm_ldl, mm_sti, mm_sta, mm_stl, mm_inc, mm_2i, mm_mm, mm_2l, mm_lcmp, mm_i2l, mm_l2i, mm_cast8, mm_if1, mm_if2, mm_cmp, mm_swi, mm_sw, mm_pop1, mm_dup, mm_dup2, mm_geti, mm_geta, mm_puti, mm_iald, mm_bald, mm_aald, mm_iast, mm_bast, mm_alen, mm_acpy, mm_call, mm_callv, mm_recv, mm_pop, mm_find, mm_push, mm_cats, mm_cat, mm_reti, mm_retz, mm_retl, mm_reta, mm_retv, mm_set1, mm_set2, mm_kill, List.getElem?_cons_zero, List.getElem?_cons_succ, Int.reduceToNat, ↓reduceIte, Nat.reduceEqDiff, Nat.reduceDiv, Nat.reduceAdd, Nat.reduceLeDiff, Nat.zero_le, true_and, and_true, true_or, or_true, mm_b0, mm_b1, mm_lc_lt, mm_lc_le, mm_lc_gt, mm_lc_ge, mm_lc_eq, Int.not_lt, Int.not_le, Decidable.not_not, Int.sub_neg])
  all_goals first | assumption | (exact Or.inl rfl) | (exact Or.inr rfl) | (exact rfl) | trivial | omega
end
section
/-! the planner's Window -/
def isW (o : Nat) : Prop := mm_cls o = 9 ∧ mm_cls (o + 1) = 100 ∧ mm_len (o + 1) = 6
def t_Win_begin : mmT := fun as M Q => match as with
  | [.inr (.inr o)] => isW o ∧ ∀ M', (∀ o', o' ≠ o → M' o' = M o') → M' o 1 = 0 → M' o 2 = -1 → M' o 3 = 0 → M' o 4 = 0 → M' o 5 = 0 → M' o 6 = 0 → Q none M'
  | _ => False
set_option maxHeartbeats 4000000 in
set_option maxRecDepth 100000 in
theorem p_Win_begin : ∀ as M Q, (∀ v ∈ as, mm_vin v) → mm_mem M → t_Win_begin as M Q → (mm_ent as).length ≤ 1 ∧ mm_ok mb_Win_begin [] (mm_entry 1 as) M Q := by
  intro as M Q hin hM h
  unfold t_Win_begin at h
  split at h
  rotate_left
  · exact h.elim
  rename_i o
  refine ⟨by simp [mm_ent], (show mm_ok mb_Win_begin [] [some (vr o)] M Q from ?_)⟩
  intro J hJ
  obtain ⟨⟨ho, h1, h2⟩, h⟩ := h
  refine hJ 0 _ _ _ (show mm_wp _ _ _ mo_Win_begin_0 _ _ _ from ?_)
  simp only [mo_Win_begin_0, mm_wp, mm_ldi, mm_lda, mm_ldl, mm_sti, mm_sta, mm_stl, mm_inc, mm_2i, mm_mm, mm_2l, mm_lcmp, mm_i2l, mm_l2i, mm_cast8, mm_if1, mm_if2, mm_cmp, mm_swi, mm_sw, mm_pop1, mm_dup, mm_dup2, mm_geti, mm_geta, mm_puti, mm_iald, mm_bald, mm_aald, mm_iast, mm_bast, mm_alen, mm_acpy, mm_call, mm_callv, mm_recv, mm_pop, mm_find, mm_push, mm_cats, mm_cat, mm_reti, mm_retz, mm_retl, mm_reta, mm_retv, mm_set1, mm_set2, mm_kill, List.getElem?_cons_zero, List.getElem?_cons_succ, Int.reduceToNat, ↓reduceIte, Nat.reduceEqDiff, Nat.reduceDiv, Nat.reduceAdd, Nat.reduceLeDiff, Nat.zero_le, true_and, and_true, true_or, or_true, mm_b0, mm_b1, mm_lc_lt, mm_lc_le, mm_lc_gt, mm_lc_ge, mm_lc_eq, Int.not_lt, Int.not_le, Decidable.not_not, Int.sub_neg]
  refine ⟨ho, ho, ho, ho, ho, ho, h _ (fun o' h' => ?_) ?_ ?_ ?_ ?_ ?_ ?_⟩
  · simp only [mm_up_o _ _ h']
  all_goals simp [mm_up]
def t_Win_has : mmT := fun as M Q => match as with
  | [.inr (.inr o), .inl i] => isW o ∧ Q (some (vi (mm_b (M o 1 ≤ i ∧ i ≤ M o 2)))) M
  | _ => False
set_option maxHeartbeats 4000000 in
set_option maxRecDepth 100000 in
theorem p_Win_has : ∀ as M Q, (∀ v ∈ as, mm_vin v) → mm_mem M → t_Win_has as M Q → (mm_ent as).length ≤ 2 ∧ mm_ok mb_Win_has [] (mm_entry 2 as) M Q := by
  intro as M Q hin hM h
  unfold t_Win_has at h
  split at h
  rotate_left
  · exact h.elim
  rename_i o i
  have hR_i : mm_R i := hin (vi i) (by simp)
  refine ⟨by simp [mm_ent], (show mm_ok mb_Win_has [] [some (vr o), some (vi i)] M Q from ?_)⟩
  intro J hJ
  obtain ⟨⟨ho, h1, h2⟩, h⟩ := h
  repeat' first | (refine And.intro ?_ ?_) | (intro _) | (refine hJ 0 _ _ _ ?_; show mm_wp _ _ _ mo_Win_has_0 _ _ _; simp only [mo_Win_has_0, mm_wp, mm_ldi, mm_lda, mm_ldl, mm_sti, mm_sta, mm_stl, mm_inc, mm_2i, mm_mm, mm_2l, mm_lcmp, mm_i2l, mm_l2i, mm_cast8, mm_if1, mm_if2, mm_cmp, mm_swi, mm_sw, mm_pop1, mm_dup, mm_dup2, mm_geti, mm_geta, mm_puti, mm_iald, mm_bald, mm_aald, mm_iast, mm_bast, mm_alen, mm_acpy, mm_call, mm_callv, mm_recv, mm_pop, mm_find, mm_push, mm_cats, mm_cat, mm_reti, mm_retz, mm_retl, mm_reta, mm_retv, mm_set1, mm_set2, mm_kill, List.getElem?_cons_zero, List.getElem?_cons_succ, Int.reduceToNat, ↓reduceIte, Nat.reduceEqDiff, Nat.reduceDiv, Nat.reduceAdd, Nat.reduceLeDiff, Nat.zero_le, true_and, and_true, true_or, or_true, mm_b0, mm_b1, mm_lc_lt, mm_lc_le, mm_lc_gt, mm_lc_ge, mm_lc_eq, Int.not_lt, Int.not_le, Decidable.not_not, Int.sub_neg]) | (refine hJ 20 _ _ _ ?_; show mm_wp _ _ _ mo_Win_has_20 _ _ _; simp only [mo_Win_has_20, mm_wp, mm_ldi, mm_lda, mm_ldl, mm_sti, mm_sta, mm_stl, mm_inc, mm_2i, mm_mm, mm_2l, mm_lcmp, mm_i2l, mm_l2i, mm_cast8, mm_if1, mm_if2, mm_cmp, mm_swi, mm_sw, mm_pop1, mm_dup, mm_dup2, mm_geti, mm_geta, mm_puti, mm_iald, mm_bald, mm_aald, mm_iast, mm_bast, mm_alen, mm_acpy, mm_call, mm_callv, mm_recv, mm_pop, mm_find, mm_push, mm_cats, mm_cat, mm_reti, mm_retz, mm_retl, mm_reta, mm_retv, mm_set1, mm_set2, mm_kill, List.getElem?_cons_zero, List.getElem?_cons_succ, Int.reduceToNat, ↓reduceIte, Nat.reduceEqDiff, Nat.reduceDiv, Nat.reduceAdd, Nat.reduceLeDiff, Nat.zero_le, true_and, and_true, true_or, or_true, mm_b0, mm_b1, mm_lc_lt, mm_lc_le, mm_lc_gt, mm_lc_ge, mm_lc_eq, Int.not_lt, Int.not_le, Decidable.not_not, Int.sub_neg]) | (refine hJ 21 _ _ _ ?_; show mm_wp _ _ _ mo_Win_has_21 _ _ _; simp only [mo_Win_has_21, mm_wp, mm_ldi, mm_lda, mm_ldl, mm_sti, mm_sta, mm_stl, mm_inc, mm_2i, mm_mm, mm_2l, mm_lcmp, mm_i2l, mm_l2i, mm_cast8, mm_if1, mm_if2, mm_cmp, mm_swi, mm_sw, mm_pop1, mm_dup, mm_dup2, mm_geti, mm_geta, mm_puti, mm_iald, mm_bald, mm_aald, mm_iast, mm_bast, mm_alen, mm_acpy, mm_call, mm_callv, mm_recv, mm_pop, mm_find, mm_push, mm_cats, mm_cat, mm_reti, mm_retz, mm_retl, mm_reta, mm_retv, mm_set1, mm_set2, mm_kill, List.getElem?_cons_zero, List.getElem?_cons_succ, Int.reduceToNat, ↓reduceIte, Nat.reduceEqDiff, Nat.reduceDiv, Nat.reduceAdd, Nat.reduceLeDiff, Nat.zero_le, true_and, and_true, true_or, or_true, mm_b0, mm_b1, mm_lc_lt, mm_lc_le, mm_lc_gt, mm_lc_ge, mm_lc_eq, Int.not_lt, Int.not_le, Decidable.not_not, Int.sub_neg])
  all_goals first | assumption | (exact Or.inl rfl) | (exact Or.inr rfl) | (exact rfl) | trivial | omega | (rw [mm_bF (by omega)] at h; exact h) | (rw [mm_bT (by omega)] at h; exact h)
def t_Win_cost : mmT := fun as M Q => match as with
  | [.inr (.inr o), .inl w] => isW o ∧ 0 ≤ w ∧ w ≤ 9 ∧ 0 ≤ M o 4 ∧ M o 4 ≤ 100000000 ∧ 0 ≤ M o 5 ∧ M o 5 ≤ 100000000 ∧ Q (some (vi (M o 4 + w * M o 5))) M
  | _ => False
set_option maxHeartbeats 4000000 in
set_option maxRecDepth 100000 in
theorem p_Win_cost : ∀ as M Q, (∀ v ∈ as, mm_vin v) → mm_mem M → t_Win_cost as M Q → (mm_ent as).length ≤ 2 ∧ mm_ok mb_Win_cost [] (mm_entry 2 as) M Q := by
  intro as M Q hin hM h
  unfold t_Win_cost at h
  split at h
  rotate_left
  · exact h.elim
  rename_i o w
  have hR_w : mm_R w := hin (vi w) (by simp)
  refine ⟨by simp [mm_ent], (show mm_ok mb_Win_cost [] [some (vr o), some (vi w)] M Q from ?_)⟩
  intro J hJ
  obtain ⟨⟨ho, h1, h2⟩, a1, a2, a3, a4, a5, a6, h⟩ := h
  have b1 : 0 ≤ w * M o 5 := Int.mul_nonneg a1 a5
  have b2 : w * M o 5 ≤ 9 * 100000000 := Int.mul_le_mul a2 a6 a5 (by omega)
  repeat' first | (refine And.intro ?_ ?_) | (intro _) | (refine hJ 0 _ _ _ ?_; show mm_wp _ _ _ mo_Win_cost_0 _ _ _; simp only [mo_Win_cost_0, mm_wp, mm_ldi, mm_lda, mm_ldl, mm_sti, mm_sta, mm_stl, mm_inc, mm_2i, mm_mm, mm_2l, mm_lcmp, mm_i2l, mm_l2i, mm_cast8, mm_if1, mm_if2, mm_cmp, mm_swi, mm_sw, mm_pop1, mm_dup, mm_dup2, mm_geti, mm_geta, mm_puti, mm_iald, mm_bald, mm_aald, mm_iast, mm_bast, mm_alen, mm_acpy, mm_call, mm_callv, mm_recv, mm_pop, mm_find, mm_push, mm_cats, mm_cat, mm_reti, mm_retz, mm_retl, mm_reta, mm_retv, mm_set1, mm_set2, mm_kill, List.getElem?_cons_zero, List.getElem?_cons_succ, Int.reduceToNat, ↓reduceIte, Nat.reduceEqDiff, Nat.reduceDiv, Nat.reduceAdd, Nat.reduceLeDiff, Nat.zero_le, true_and, and_true, true_or, or_true, mm_b0, mm_b1, mm_lc_lt, mm_lc_le, mm_lc_gt, mm_lc_ge, mm_lc_eq, Int.not_lt, Int.not_le, Decidable.not_not, Int.sub_neg])
  all_goals first | assumption | (exact Or.inl rfl) | (exact Or.inr rfl) | (exact rfl) | trivial | omega
/-- where a window stands, within bounds -/
def wB (M : mmM) (o : Nat) : Prop := 0 ≤ M o 1 ∧ M o 1 ≤ 60 ∧ -1 ≤ M o 2 ∧ M o 2 ≤ 60 ∧ 0 ≤ M o 3 ∧ M o 3 ≤ 32
def t_Win_aim : mmT := fun as M Q => match as with
  | [.inr (.inr o), .inl f, .inl l, .inl t] => isW o ∧ wB M o ∧ (0 ≤ f ∧ f ≤ 60 ∧ 0 ≤ l ∧ l ≤ 60 ∧ 0 ≤ t ∧ t ≤ 32) ∧ ∀ M', (∀ o', o' ≠ o + 1 → M' o' = M o') → M' (o + 1) 0 = max 0 (M o 1 - f) → M' (o + 1) 1 = max 0 (l - M o 2) → M' (o + 1) 2 = max 0 (f - M o 1) → M' (o + 1) 3 = max 0 (M o 2 - l) → M' (o + 1) 4 = max 0 (t - M o 3) → M' (o + 1) 5 = max 0 (M o 3 - t) → Q none M'
  | _ => False
set_option maxHeartbeats 4000000 in
set_option maxRecDepth 100000 in
theorem p_Win_aim : ∀ as M Q, (∀ v ∈ as, mm_vin v) → mm_mem M → t_Win_aim as M Q → (mm_ent as).length ≤ 4 ∧ mm_ok mb_Win_aim [] (mm_entry 4 as) M Q := by
  intro as M Q hin hM h
  unfold t_Win_aim at h
  split at h
  rotate_left
  · exact h.elim
  rename_i o f l t
  have hR_f : mm_R f := hin (vi f) (by simp)
  have hR_l : mm_R l := hin (vi l) (by simp)
  have hR_t : mm_R t := hin (vi t) (by simp)
  refine ⟨by simp [mm_ent], (show mm_ok mb_Win_aim [] [some (vr o), some (vi f), some (vi l), some (vi t)] M Q from ?_)⟩
  intro J hJ
  obtain ⟨⟨ho, h1, h2⟩, hw, hb, h⟩ := h
  obtain ⟨w1, w2, w3, w4, w5, w6⟩ := hw
  have e : ∀ (M1 : mmM) (i v : Int), mm_up M1 (o + 1) i v o = M1 o := fun M1 i v => mm_up_o _ _ (by omega)
  refine hJ 0 _ _ _ (show mm_wp _ _ _ mo_Win_aim_0 _ _ _ from ?_)
  simp only [mo_Win_aim_0, mm_wp, mm_ldi, mm_lda, mm_ldl, mm_sti, mm_sta, mm_stl, mm_inc, mm_2i, mm_mm, mm_2l, mm_lcmp, mm_i2l, mm_l2i, mm_cast8, mm_if1, mm_if2, mm_cmp, mm_swi, mm_sw, mm_pop1, mm_dup, mm_dup2, mm_geti, mm_geta, mm_puti, mm_iald, mm_bald, mm_aald, mm_iast, mm_bast, mm_alen, mm_acpy, mm_call, mm_callv, mm_recv, mm_pop, mm_find, mm_push, mm_cats, mm_cat, mm_reti, mm_retz, mm_retl, mm_reta, mm_retv, mm_set1, mm_set2, mm_kill, List.getElem?_cons_zero, List.getElem?_cons_succ, Int.reduceToNat, ↓reduceIte, Nat.reduceEqDiff, Nat.reduceDiv, Nat.reduceAdd, Nat.reduceLeDiff, Nat.zero_le, true_and, and_true, true_or, or_true, mm_b0, mm_b1, mm_lc_lt, mm_lc_le, mm_lc_gt, mm_lc_ge, mm_lc_eq, Int.not_lt, Int.not_le, Decidable.not_not, Int.sub_neg, e, ho, h1, h2]
  refine ⟨by omega, by omega, by omega, by omega, by omega, by omega, by omega, by omega, by omega, by omega, by omega, by omega, h _ (fun o' h' => ?_) ?_ ?_ ?_ ?_ ?_ ?_⟩
  · simp only [mm_up_o _ _ h']
  all_goals simp [mm_up]
/-- what shift does: the field that kind names, and ends or turns -/
def wSh (M : mmM) (o : Nat) (k n : Int) : mmM :=
  if k = 0 then mm_up (mm_up M o 1 (M o 1 - n)) o 4 (M o 4 + n)
  else if k = 1 then mm_up (mm_up M o 2 (M o 2 + n)) o 4 (M o 4 + n)
  else if k = 2 then mm_up (mm_up M o 1 (M o 1 + n)) o 4 (M o 4 + n)
  else if k = 3 then mm_up (mm_up M o 2 (M o 2 - n)) o 4 (M o 4 + n)
  else if k = 4 then mm_up (mm_up M o 3 (M o 3 + n)) o 5 (M o 5 + n)
  else mm_up (mm_up M o 3 (M o 3 - n)) o 5 (M o 5 + n)
def t_Win_shift : mmT := fun as M Q => match as with
  | [.inr (.inr o), .inl k, .inl n] => isW o ∧ (0 ≤ k ∧ k ≤ 5 ∧ -100 ≤ n ∧ n ≤ 100 ∧ -100 ≤ M o 1 ∧ M o 1 ≤ 100 ∧ -100 ≤ M o 2 ∧ M o 2 ≤ 100 ∧ -100 ≤ M o 3 ∧ M o 3 ≤ 100 ∧ 0 ≤ M o 4 ∧ M o 4 ≤ 100000000 ∧ 0 ≤ M o 5 ∧ M o 5 ≤ 100000000) ∧ Q (some (vi n)) (wSh M o k n)
  | _ => False
set_option maxHeartbeats 4000000 in
set_option maxRecDepth 100000 in
theorem p_Win_shift : ∀ as M Q, (∀ v ∈ as, mm_vin v) → mm_mem M → t_Win_shift as M Q → (mm_ent as).length ≤ 3 ∧ mm_ok mb_Win_shift [] (mm_entry 3 as) M Q := by
  intro as M Q hin hM h
  unfold t_Win_shift at h
  split at h
  rotate_left
  · exact h.elim
  rename_i o k n
  have hR_k : mm_R k := hin (vi k) (by simp)
  have hR_n : mm_R n := hin (vi n) (by simp)
  refine ⟨by simp [mm_ent], (show mm_ok mb_Win_shift [] [some (vr o), some (vi k), some (vi n)] M Q from ?_)⟩
  intro J hJ
  obtain ⟨⟨ho, h1, h2⟩, hb, h⟩ := h
  have e4 : ∀ v : Int, mm_up M o 1 v o 4 = M o 4 ∧ mm_up M o 2 v o 4 = M o 4 ∧ mm_up M o 3 v o 5 = M o 5 := fun v => ⟨mm_up_i _ (by decide), mm_up_i _ (by decide), mm_up_i _ (by decide)⟩
  have hk : k = 0 ∨ k = 1 ∨ k = 2 ∨ k = 3 ∨ k = 4 ∨ k = 5 := by omega
  rcases hk with rfl | rfl | rfl | rfl | rfl | rfl <;> simp only [wSh, Int.reduceEq, ↓reduceIte] at h
  all_goals
    repeat' first | (refine And.intro ?_ ?_) | (intro _) | (refine hJ 0 _ _ _ ?_; show mm_wp _ _ _ mo_Win_shift_0 _ _ _; simp only [mo_Win_shift_0, mm_wp, mm_ldi, mm_lda, mm_ldl, mm_sti, mm_sta, mm_stl, mm_inc, mm_2i, mm_mm, mm_2l, mm_lcmp, mm_i2l, mm_l2i, mm_cast8, mm_if1, mm_if2, mm_cmp, mm_swi, mm_sw, mm_pop1, mm_dup, mm_dup2, mm_geti, mm_geta, mm_puti, mm_iald, mm_bald, mm_aald, mm_iast, mm_bast, mm_alen, mm_acpy, mm_call, mm_callv, mm_recv, mm_pop, mm_find, mm_push, mm_cats, mm_cat, mm_reti, mm_retz, mm_retl, mm_reta, mm_retv, mm_set1, mm_set2, mm_kill, List.getElem?_cons_zero, List.getElem?_cons_succ, Int.reduceToNat, ↓reduceIte, Nat.reduceEqDiff, Nat.reduceDiv, Nat.reduceAdd, Nat.reduceLeDiff, Nat.zero_le, true_and, and_true, true_or, or_true, mm_b0, mm_b1, mm_lc_lt, mm_lc_le, mm_lc_gt, mm_lc_ge, mm_lc_eq, Int.not_lt, Int.not_le, Decidable.not_not, Int.sub_neg, ho, (e4 _).1, (e4 _).2.1, (e4 _).2.2, Int.reduceEq, not_true_eq_false, not_false_eq_true, forall_const, false_implies, implies_true]) | (refine hJ 36 _ _ _ ?_; show mm_wp _ _ _ mo_Win_shift_36 _ _ _; simp only [mo_Win_shift_36, mm_wp, mm_ldi, mm_lda, mm_ldl, mm_sti, mm_sta, mm_stl, mm_inc, mm_2i, mm_mm, mm_2l, mm_lcmp, mm_i2l, mm_l2i, mm_cast8, mm_if1, mm_if2, mm_cmp, mm_swi, mm_sw, mm_pop1, mm_dup, mm_dup2, mm_geti, mm_geta, mm_puti, mm_iald, mm_bald, mm_aald, mm_iast, mm_bast, mm_alen, mm_acpy, mm_call, mm_callv, mm_recv, mm_pop, mm_find, mm_push, mm_cats, mm_cat, mm_reti, mm_retz, mm_retl, mm_reta, mm_retv, mm_set1, mm_set2, mm_kill, List.getElem?_cons_zero, List.getElem?_cons_succ, Int.reduceToNat, ↓reduceIte, Nat.reduceEqDiff, Nat.reduceDiv, Nat.reduceAdd, Nat.reduceLeDiff, Nat.zero_le, true_and, and_true, true_or, or_true, mm_b0, mm_b1, mm_lc_lt, mm_lc_le, mm_lc_gt, mm_lc_ge, mm_lc_eq, Int.not_lt, Int.not_le, Decidable.not_not, Int.sub_neg, ho, (e4 _).1, (e4 _).2.1, (e4 _).2.2, Int.reduceEq, not_true_eq_false, not_false_eq_true, forall_const, false_implies, implies_true]) | (refine hJ 49 _ _ _ ?_; show mm_wp _ _ _ mo_Win_shift_49 _ _ _; simp only [mo_Win_shift_49, mm_wp, mm_ldi, mm_lda, mm_ldl, mm_sti, mm_sta, mm_stl, mm_inc, mm_2i, mm_mm, mm_2l, mm_lcmp, mm_i2l, mm_l2i, mm_cast8, mm_if1, mm_if2, mm_cmp, mm_swi, mm_sw, mm_pop1, mm_dup, mm_dup2, mm_geti, mm_geta, mm_puti, mm_iald, mm_bald, mm_aald, mm_iast, mm_bast, mm_alen, mm_acpy, mm_call, mm_callv, mm_recv, mm_pop, mm_find, mm_push, mm_cats, mm_cat, mm_reti, mm_retz, mm_retl, mm_reta, mm_retv, mm_set1, mm_set2, mm_kill, List.getElem?_cons_zero, List.getElem?_cons_succ, Int.reduceToNat, ↓reduceIte, Nat.reduceEqDiff, Nat.reduceDiv, Nat.reduceAdd, Nat.reduceLeDiff, Nat.zero_le, true_and, and_true, true_or, or_true, mm_b0, mm_b1, mm_lc_lt, mm_lc_le, mm_lc_gt, mm_lc_ge, mm_lc_eq, Int.not_lt, Int.not_le, Decidable.not_not, Int.sub_neg, ho, (e4 _).1, (e4 _).2.1, (e4 _).2.2, Int.reduceEq, not_true_eq_false, not_false_eq_true, forall_const, false_implies, implies_true]) | (refine hJ 62 _ _ _ ?_; show mm_wp _ _ _ mo_Win_shift_62 _ _ _; simp only [mo_Win_shift_62, mm_wp, mm_ldi, mm_lda, mm_ldl, mm_sti, mm_sta, mm_stl, mm_inc, mm_2i, mm_mm, mm_2l, mm_lcmp, mm_i2l, mm_l2i, mm_cast8, mm_if1, mm_if2, mm_cmp, mm_swi, mm_sw, mm_pop1, mm_dup, mm_dup2, mm_geti, mm_geta, mm_puti, mm_iald, mm_bald, mm_aald, mm_iast, mm_bast, mm_alen, mm_acpy, mm_call, mm_callv, mm_recv, mm_pop, mm_find, mm_push, mm_cats, mm_cat, mm_reti, mm_retz, mm_retl, mm_reta, mm_retv, mm_set1, mm_set2, mm_kill, List.getElem?_cons_zero, List.getElem?_cons_succ, Int.reduceToNat, ↓reduceIte, Nat.reduceEqDiff, Nat.reduceDiv, Nat.reduceAdd, Nat.reduceLeDiff, Nat.zero_le, true_and, and_true, true_or, or_true, mm_b0, mm_b1, mm_lc_lt, mm_lc_le, mm_lc_gt, mm_lc_ge, mm_lc_eq, Int.not_lt, Int.not_le, Decidable.not_not, Int.sub_neg, ho, (e4 _).1, (e4 _).2.1, (e4 _).2.2, Int.reduceEq, not_true_eq_false, not_false_eq_true, forall_const, false_implies, implies_true]) | (refine hJ 75 _ _ _ ?_; show mm_wp _ _ _ mo_Win_shift_75 _ _ _; simp only [mo_Win_shift_75, mm_wp, mm_ldi, mm_lda, mm_ldl, mm_sti, mm_sta, mm_stl, mm_inc, mm_2i, mm_mm, mm_2l, mm_lcmp, mm_i2l, mm_l2i, mm_cast8, mm_if1, mm_if2, mm_cmp, mm_swi, mm_sw, mm_pop1, mm_dup, mm_dup2, mm_geti, mm_geta, mm_puti, mm_iald, mm_bald, mm_aald, mm_iast, mm_bast, mm_alen, mm_acpy, mm_call, mm_callv, mm_recv, mm_pop, mm_find, mm_push, mm_cats, mm_cat, mm_reti, mm_retz, mm_retl, mm_reta, mm_retv, mm_set1, mm_set2, mm_kill, List.getElem?_cons_zero, List.getElem?_cons_succ, Int.reduceToNat, ↓reduceIte, Nat.reduceEqDiff, Nat.reduceDiv, Nat.reduceAdd, Nat.reduceLeDiff, Nat.zero_le, true_and, and_true, true_or, or_true, mm_b0, mm_b1, mm_lc_lt, mm_lc_le, mm_lc_gt, mm_lc_ge, mm_lc_eq, Int.not_lt, Int.not_le, Decidable.not_not, Int.sub_neg, ho, (e4 _).1, (e4 _).2.1, (e4 _).2.2, Int.reduceEq, not_true_eq_false, not_false_eq_true, forall_const, false_implies, implies_true]) | (refine hJ 88 _ _ _ ?_; show mm_wp _ _ _ mo_Win_shift_88 _ _ _; simp only [mo_Win_shift_88, mm_wp, mm_ldi, mm_lda, mm_ldl, mm_sti, mm_sta, mm_stl, mm_inc, mm_2i, mm_mm, mm_2l, mm_lcmp, mm_i2l, mm_l2i, mm_cast8, mm_if1, mm_if2, mm_cmp, mm_swi, mm_sw, mm_pop1, mm_dup, mm_dup2, mm_geti, mm_geta, mm_puti, mm_iald, mm_bald, mm_aald, mm_iast, mm_bast, mm_alen, mm_acpy, mm_call, mm_callv, mm_recv, mm_pop, mm_find, mm_push, mm_cats, mm_cat, mm_reti, mm_retz, mm_retl, mm_reta, mm_retv, mm_set1, mm_set2, mm_kill, List.getElem?_cons_zero, List.getElem?_cons_succ, Int.reduceToNat, ↓reduceIte, Nat.reduceEqDiff, Nat.reduceDiv, Nat.reduceAdd, Nat.reduceLeDiff, Nat.zero_le, true_and, and_true, true_or, or_true, mm_b0, mm_b1, mm_lc_lt, mm_lc_le, mm_lc_gt, mm_lc_ge, mm_lc_eq, Int.not_lt, Int.not_le, Decidable.not_not, Int.sub_neg, ho, (e4 _).1, (e4 _).2.1, (e4 _).2.2, Int.reduceEq, not_true_eq_false, not_false_eq_true, forall_const, false_implies, implies_true]) | (refine hJ 101 _ _ _ ?_; show mm_wp _ _ _ mo_Win_shift_101 _ _ _; simp only [mo_Win_shift_101, mm_wp, mm_ldi, mm_lda, mm_ldl, mm_sti, mm_sta, mm_stl, mm_inc, mm_2i, mm_mm, mm_2l, mm_lcmp, mm_i2l, mm_l2i, mm_cast8, mm_if1, mm_if2, mm_cmp, mm_swi, mm_sw, mm_pop1, mm_dup, mm_dup2, mm_geti, mm_geta, mm_puti, mm_iald, mm_bald, mm_aald, mm_iast, mm_bast, mm_alen, mm_acpy, mm_call, mm_callv, mm_recv, mm_pop, mm_find, mm_push, mm_cats, mm_cat, mm_reti, mm_retz, mm_retl, mm_reta, mm_retv, mm_set1, mm_set2, mm_kill, List.getElem?_cons_zero, List.getElem?_cons_succ, Int.reduceToNat, ↓reduceIte, Nat.reduceEqDiff, Nat.reduceDiv, Nat.reduceAdd, Nat.reduceLeDiff, Nat.zero_le, true_and, and_true, true_or, or_true, mm_b0, mm_b1, mm_lc_lt, mm_lc_le, mm_lc_gt, mm_lc_ge, mm_lc_eq, Int.not_lt, Int.not_le, Decidable.not_not, Int.sub_neg, ho, (e4 _).1, (e4 _).2.1, (e4 _).2.2, Int.reduceEq, not_true_eq_false, not_false_eq_true, forall_const, false_implies, implies_true]) | (refine hJ 111 _ _ _ ?_; show mm_wp _ _ _ mo_Win_shift_111 _ _ _; simp only [mo_Win_shift_111, mm_wp, mm_ldi, mm_lda, mm_ldl, mm_sti, mm_sta, mm_stl, mm_inc, mm_2i, mm_mm, mm_2l, mm_lcmp, mm_i2l, mm_l2i, mm_cast8, mm_if1, mm_if2, mm_cmp, mm_swi, mm_sw, mm_pop1, mm_dup, mm_dup2, mm_geti, mm_geta, mm_puti, mm_iald, mm_bald, mm_aald, mm_iast, mm_bast, mm_alen, mm_acpy, mm_call, mm_callv, mm_recv, mm_pop, mm_find, mm_push, mm_cats, mm_cat, mm_reti, mm_retz, mm_retl, mm_reta, mm_retv, mm_set1, mm_set2, mm_kill, List.getElem?_cons_zero, List.getElem?_cons_succ, Int.reduceToNat, ↓reduceIte, Nat.reduceEqDiff, Nat.reduceDiv, Nat.reduceAdd, Nat.reduceLeDiff, Nat.zero_le, true_and, and_true, true_or, or_true, mm_b0, mm_b1, mm_lc_lt, mm_lc_le, mm_lc_gt, mm_lc_ge, mm_lc_eq, Int.not_lt, Int.not_le, Decidable.not_not, Int.sub_neg, ho, (e4 _).1, (e4 _).2.1, (e4 _).2.2, Int.reduceEq, not_true_eq_false, not_false_eq_true, forall_const, false_implies, implies_true]) | (refine hJ 121 _ _ _ ?_; show mm_wp _ _ _ mo_Win_shift_121 _ _ _; simp only [mo_Win_shift_121, mm_wp, mm_ldi, mm_lda, mm_ldl, mm_sti, mm_sta, mm_stl, mm_inc, mm_2i, mm_mm, mm_2l, mm_lcmp, mm_i2l, mm_l2i, mm_cast8, mm_if1, mm_if2, mm_cmp, mm_swi, mm_sw, mm_pop1, mm_dup, mm_dup2, mm_geti, mm_geta, mm_puti, mm_iald, mm_bald, mm_aald, mm_iast, mm_bast, mm_alen, mm_acpy, mm_call, mm_callv, mm_recv, mm_pop, mm_find, mm_push, mm_cats, mm_cat, mm_reti, mm_retz, mm_retl, mm_reta, mm_retv, mm_set1, mm_set2, mm_kill, List.getElem?_cons_zero, List.getElem?_cons_succ, Int.reduceToNat, ↓reduceIte, Nat.reduceEqDiff, Nat.reduceDiv, Nat.reduceAdd, Nat.reduceLeDiff, Nat.zero_le, true_and, and_true, true_or, or_true, mm_b0, mm_b1, mm_lc_lt, mm_lc_le, mm_lc_gt, mm_lc_ge, mm_lc_eq, Int.not_lt, Int.not_le, Decidable.not_not, Int.sub_neg, ho, (e4 _).1, (e4 _).2.1, (e4 _).2.2, Int.reduceEq, not_true_eq_false, not_false_eq_true, forall_const, false_implies, implies_true]) | (refine hJ 134 _ _ _ ?_; show mm_wp _ _ _ mo_Win_shift_134 _ _ _; simp only [mo_Win_shift_134, mm_wp, mm_ldi, mm_lda, mm_ldl, mm_sti, mm_sta, mm_stl, mm_inc, mm_2i, mm_mm, mm_2l, mm_lcmp, mm_i2l, mm_l2i, mm_cast8, mm_if1, mm_if2, mm_cmp, mm_swi, mm_sw, mm_pop1, mm_dup, mm_dup2, mm_geti, mm_geta, mm_puti, mm_iald, mm_bald, mm_aald, mm_iast, mm_bast, mm_alen, mm_acpy, mm_call, mm_callv, mm_recv, mm_pop, mm_find, mm_push, mm_cats, mm_cat, mm_reti, mm_retz, mm_retl, mm_reta, mm_retv, mm_set1, mm_set2, mm_kill, List.getElem?_cons_zero, List.getElem?_cons_succ, Int.reduceToNat, ↓reduceIte, Nat.reduceEqDiff, Nat.reduceDiv, Nat.reduceAdd, Nat.reduceLeDiff, Nat.zero_le, true_and, and_true, true_or, or_true, mm_b0, mm_b1, mm_lc_lt, mm_lc_le, mm_lc_gt, mm_lc_ge, mm_lc_eq, Int.not_lt, Int.not_le, Decidable.not_not, Int.sub_neg, ho, (e4 _).1, (e4 _).2.1, (e4 _).2.2, Int.reduceEq, not_true_eq_false, not_false_eq_true, forall_const, false_implies, implies_true]) | (refine hJ 144 _ _ _ ?_; show mm_wp _ _ _ mo_Win_shift_144 _ _ _; simp only [mo_Win_shift_144, mm_wp, mm_ldi, mm_lda, mm_ldl, mm_sti, mm_sta, mm_stl, mm_inc, mm_2i, mm_mm, mm_2l, mm_lcmp, mm_i2l, mm_l2i, mm_cast8, mm_if1, mm_if2, mm_cmp, mm_swi, mm_sw, mm_pop1, mm_dup, mm_dup2, mm_geti, mm_geta, mm_puti, mm_iald, mm_bald, mm_aald, mm_iast, mm_bast, mm_alen, mm_acpy, mm_call, mm_callv, mm_recv, mm_pop, mm_find, mm_push, mm_cats, mm_cat, mm_reti, mm_retz, mm_retl, mm_reta, mm_retv, mm_set1, mm_set2, mm_kill, List.getElem?_cons_zero, List.getElem?_cons_succ, Int.reduceToNat, ↓reduceIte, Nat.reduceEqDiff, Nat.reduceDiv, Nat.reduceAdd, Nat.reduceLeDiff, Nat.zero_le, true_and, and_true, true_or, or_true, mm_b0, mm_b1, mm_lc_lt, mm_lc_le, mm_lc_gt, mm_lc_ge, mm_lc_eq, Int.not_lt, Int.not_le, Decidable.not_not, Int.sub_neg, ho, (e4 _).1, (e4 _).2.1, (e4 _).2.2, Int.reduceEq, not_true_eq_false, not_false_eq_true, forall_const, false_implies, implies_true])
    all_goals first | assumption | (exact Or.inl rfl) | (exact Or.inr rfl) | (exact rfl) | trivial | omega
def t_Win_distance : mmT := fun as M Q => match as with
  | [.inr (.inr o)] => isW o ∧ (∀ k, 0 ≤ k → k < 6 → 0 ≤ M (o + 1) k ∧ M (o + 1) k ≤ 100) ∧ Q (some (vi (M (o + 1) 0 + M (o + 1) 1 + M (o + 1) 2 + M (o + 1) 3 + M (o + 1) 4 + M (o + 1) 5))) M
  | _ => False
set_option maxHeartbeats 4000000 in
set_option maxRecDepth 100000 in
theorem p_Win_distance : ∀ as M Q, (∀ v ∈ as, mm_vin v) → mm_mem M → t_Win_distance as M Q → (mm_ent as).length ≤ 3 ∧ mm_ok mb_Win_distance [] (mm_entry 3 as) M Q := by
  intro as M Q hin hM h
  unfold t_Win_distance at h
  split at h
  rotate_left
  · exact h.elim
  rename_i o
  refine ⟨by simp [mm_ent], (show mm_ok mb_Win_distance [] [some (vr o), none, none] M Q from ?_)⟩
  intro J hJ
  obtain ⟨⟨ho, h1, h2⟩, hb, h⟩ := h
  have b0 := hb 0 (by decide) (by decide)
  have b1 := hb 1 (by decide) (by decide)
  have b2 := hb 2 (by decide) (by decide)
  have b3 := hb 3 (by decide) (by decide)
  have b4 := hb 4 (by decide) (by decide)
  have b5 := hb 5 (by decide) (by decide)
  repeat' first | (refine And.intro ?_ ?_) | (intro _) | (refine hJ 0 _ _ _ ?_; show mm_wp _ _ _ mo_Win_distance_0 _ _ _; simp only [mo_Win_distance_0, mm_wp, mm_ldi, mm_lda, mm_ldl, mm_sti, mm_sta, mm_stl, mm_inc, mm_2i, mm_mm, mm_2l, mm_lcmp, mm_i2l, mm_l2i, mm_cast8, mm_if1, mm_if2, mm_cmp, mm_swi, mm_sw, mm_pop1, mm_dup, mm_dup2, mm_geti, mm_geta, mm_puti, mm_iald, mm_bald, mm_aald, mm_iast, mm_bast, mm_alen, mm_acpy, mm_call, mm_callv, mm_recv, mm_pop, mm_find, mm_push, mm_cats, mm_cat, mm_reti, mm_retz, mm_retl, mm_reta, mm_retv, mm_set1, mm_set2, mm_kill, List.getElem?_cons_zero, List.getElem?_cons_succ, Int.reduceToNat, ↓reduceIte, Nat.reduceEqDiff, Nat.reduceDiv, Nat.reduceAdd, Nat.reduceLeDiff, Nat.zero_le, true_and, and_true, true_or, or_true, mm_b0, mm_b1, mm_lc_lt, mm_lc_le, mm_lc_gt, mm_lc_ge, mm_lc_eq, Int.not_lt, Int.not_le, Decidable.not_not, Int.sub_neg, ho, h1, h2, Int.reduceLT, Int.reduceLE, Int.reduceAdd, Int.zero_add, not_true_eq_false, not_false_eq_true, forall_const, false_implies, implies_true, Int.reduceNeg]) | (refine hJ 4 _ _ _ ?_; show mm_wp _ _ _ mo_Win_distance_4 _ _ _; simp only [mo_Win_distance_4, mm_wp, mm_ldi, mm_lda, mm_ldl, mm_sti, mm_sta, mm_stl, mm_inc, mm_2i, mm_mm, mm_2l, mm_lcmp, mm_i2l, mm_l2i, mm_cast8, mm_if1, mm_if2, mm_cmp, mm_swi, mm_sw, mm_pop1, mm_dup, mm_dup2, mm_geti, mm_geta, mm_puti, mm_iald, mm_bald, mm_aald, mm_iast, mm_bast, mm_alen, mm_acpy, mm_call, mm_callv, mm_recv, mm_pop, mm_find, mm_push, mm_cats, mm_cat, mm_reti, mm_retz, mm_retl, mm_reta, mm_retv, mm_set1, mm_set2, mm_kill, List.getElem?_cons_zero, List.getElem?_cons_succ, Int.reduceToNat, ↓reduceIte, Nat.reduceEqDiff, Nat.reduceDiv, Nat.reduceAdd, Nat.reduceLeDiff, Nat.zero_le, true_and, and_true, true_or, or_true, mm_b0, mm_b1, mm_lc_lt, mm_lc_le, mm_lc_gt, mm_lc_ge, mm_lc_eq, Int.not_lt, Int.not_le, Decidable.not_not, Int.sub_neg, ho, h1, h2, Int.reduceLT, Int.reduceLE, Int.reduceAdd, Int.zero_add, not_true_eq_false, not_false_eq_true, forall_const, false_implies, implies_true, Int.reduceNeg]) | (refine hJ 25 _ _ _ ?_; show mm_wp _ _ _ mo_Win_distance_25 _ _ _; simp only [mo_Win_distance_25, mm_wp, mm_ldi, mm_lda, mm_ldl, mm_sti, mm_sta, mm_stl, mm_inc, mm_2i, mm_mm, mm_2l, mm_lcmp, mm_i2l, mm_l2i, mm_cast8, mm_if1, mm_if2, mm_cmp, mm_swi, mm_sw, mm_pop1, mm_dup, mm_dup2, mm_geti, mm_geta, mm_puti, mm_iald, mm_bald, mm_aald, mm_iast, mm_bast, mm_alen, mm_acpy, mm_call, mm_callv, mm_recv, mm_pop, mm_find, mm_push, mm_cats, mm_cat, mm_reti, mm_retz, mm_retl, mm_reta, mm_retv, mm_set1, mm_set2, mm_kill, List.getElem?_cons_zero, List.getElem?_cons_succ, Int.reduceToNat, ↓reduceIte, Nat.reduceEqDiff, Nat.reduceDiv, Nat.reduceAdd, Nat.reduceLeDiff, Nat.zero_le, true_and, and_true, true_or, or_true, mm_b0, mm_b1, mm_lc_lt, mm_lc_le, mm_lc_gt, mm_lc_ge, mm_lc_eq, Int.not_lt, Int.not_le, Decidable.not_not, Int.sub_neg, ho, h1, h2, Int.reduceLT, Int.reduceLE, Int.reduceAdd, Int.zero_add, not_true_eq_false, not_false_eq_true, forall_const, false_implies, implies_true, Int.reduceNeg])
  all_goals first | assumption | (exact Or.inl rfl) | (exact Or.inr rfl) | (exact rfl) | trivial | omega
def mm_hid (P : Prop) : Prop := P
/-- one more kind's moves p, from M1 to M2 -/
def wStep (o : Nat) (k p : Int) (M1 M2 : mmM) : Prop := (∀ o', o' ≠ o → o' ≠ o + 1 → M2 o' = M1 o') ∧ (∀ j, j ≠ k → M2 (o + 1) j = M1 (o + 1) j) ∧ M2 (o + 1) k = M1 (o + 1) k - p ∧ M2 o 1 = M1 o 1 + (if k = 0 then -p else if k = 2 then p else 0) ∧ M2 o 2 = M1 o 2 + (if k = 1 then p else if k = 3 then -p else 0) ∧ M2 o 3 = M1 o 3 + (if k = 4 then p else if k = 5 then -p else 0) ∧ M2 o 4 = M1 o 4 + (if k ≤ 3 then p else 0) ∧ M2 o 5 = M1 o 5 + (if k ≤ 3 then 0 else p) ∧ M2 o 6 = M1 o 6
theorem wSh_step (M : mmM) (o : Nat) (k p : Int) (h0 : 0 ≤ k) (h5 : k ≤ 5) : wStep o k p M (wSh (mm_up M (o + 1) k (M (o + 1) k - p)) o k p) := by
  have e1 : mm_up M (o + 1) k (M (o + 1) k - p) o = M o := mm_up_o _ _ (by omega)
  have e2 : ∀ (M1 : mmM) (i v : Int), mm_up M1 o i v (o + 1) = M1 (o + 1) := fun M1 i v => mm_up_o _ _ (by omega)
  have hk : k = 0 ∨ k = 1 ∨ k = 2 ∨ k = 3 ∨ k = 4 ∨ k = 5 := by omega
  refine ⟨fun o' g1 g2 => ?_, fun j hj => ?_, ?_, ?_, ?_, ?_, ?_, ?_, ?_⟩
  · rcases hk with rfl | rfl | rfl | rfl | rfl | rfl <;> simp [wSh, mm_up_o _ _ g1, mm_up_o _ _ g2]
  · rcases hk with rfl | rfl | rfl | rfl | rfl | rfl <;> simp [wSh, e2, mm_up_i _ hj]
  · rcases hk with rfl | rfl | rfl | rfl | rfl | rfl <;> simp [wSh, e2, mm_up_s]
  all_goals rcases hk with rfl | rfl | rfl | rfl | rfl | rfl <;> simp [wSh, mm_up_if, e1] <;> omega
/-- how many moves of each kind: as many as lie ahead, as long as the limit lasts -/
def wParts (a0 a1 a2 a3 a4 a5 lim p0 p1 p2 p3 p4 p5 : Int) : Prop := p0 = min a0 lim ∧ p1 = min a1 (lim - p0) ∧ p2 = min a2 (lim - (p0 + p1)) ∧ p3 = min a3 (lim - (p0 + p1 + p2)) ∧ p4 = min a4 (lim - (p0 + p1 + p2 + p3)) ∧ p5 = min a5 (lim - (p0 + p1 + p2 + p3 + p4))
def wMade (o : Nat) (M M' : mmM) (p0 p1 p2 p3 p4 p5 : Int) : Prop := (∀ o', o' ≠ o → o' ≠ o + 1 → M' o' = M o') ∧ M' o 1 = M o 1 - p0 + p2 ∧ M' o 2 = M o 2 + p1 - p3 ∧ M' o 3 = M o 3 + p4 - p5 ∧ M' o 4 = M o 4 + p0 + p1 + p2 + p3 ∧ M' o 5 = M o 5 + p4 + p5 ∧ M' o 6 = M o 6 ∧ M' (o + 1) 0 = M (o + 1) 0 - p0 ∧ M' (o + 1) 1 = M (o + 1) 1 - p1 ∧ M' (o + 1) 2 = M (o + 1) 2 - p2 ∧ M' (o + 1) 3 = M (o + 1) 3 - p3 ∧ M' (o + 1) 4 = M (o + 1) 4 - p4 ∧ M' (o + 1) 5 = M (o + 1) 5 - p5
def t_Win_make : mmT := fun as M Q => match as with
  | [.inr (.inr o), .inl lim] => isW o ∧ 0 ≤ lim ∧ (0 ≤ M (o + 1) 0 ∧ M (o + 1) 0 ≤ 61 ∧ 0 ≤ M (o + 1) 1 ∧ M (o + 1) 1 ≤ 61 ∧ 0 ≤ M (o + 1) 2 ∧ M (o + 1) 2 ≤ 61 ∧ 0 ≤ M (o + 1) 3 ∧ M (o + 1) 3 ≤ 61 ∧ 0 ≤ M (o + 1) 4 ∧ M (o + 1) 4 ≤ 61 ∧ 0 ≤ M (o + 1) 5 ∧ M (o + 1) 5 ≤ 61) ∧ (M (o + 1) 0 ≤ M o 1 ∧ M o 1 + M (o + 1) 2 ≤ 61 ∧ -1 ≤ M o 2 - M (o + 1) 3 ∧ M o 2 + M (o + 1) 1 ≤ 61 ∧ 0 ≤ M o 3 - M (o + 1) 5 ∧ M o 3 + M (o + 1) 4 ≤ 61 ∧ 0 ≤ M o 4 ∧ M o 4 ≤ 10000000 ∧ 0 ≤ M o 5 ∧ M o 5 ≤ 10000000) ∧ ∀ M' p0 p1 p2 p3 p4 p5, wParts (M (o + 1) 0) (M (o + 1) 1) (M (o + 1) 2) (M (o + 1) 3) (M (o + 1) 4) (M (o + 1) 5) lim p0 p1 p2 p3 p4 p5 → wMade o M M' p0 p1 p2 p3 p4 p5 → Q (some (vi (p0 + p1 + p2 + p3 + p4 + p5))) M'
  | _ => False
set_option maxHeartbeats 4000000 in
set_option maxRecDepth 100000 in
theorem p_Win_make : ∀ as M Q, (∀ v ∈ as, mm_vin v) → mm_mem M → t_Win_make as M Q → (mm_ent as).length ≤ 5 ∧ mm_ok mb_Win_make [(908, t_Win_shift)] (mm_entry 5 as) M Q := by
  intro as M Q hin hM h
  unfold t_Win_make at h
  split at h
  rotate_left
  · exact h.elim
  rename_i o lim
  have hR_lim : mm_R lim := hin (vi lim) (by simp)
  refine ⟨by simp [mm_ent], (show mm_ok mb_Win_make [(908, t_Win_shift)] [some (vr o), some (vi lim), none, none, none] M Q from ?_)⟩
  intro J hJ
  obtain ⟨hw, hlim, ha, hb, h⟩ := h
  have ho : mm_cls o = 9 := hw.1
  have h1 := hw.2.1
  have h2 := hw.2.2
  have step : ∀ (k m : Int) (M1 : mmM), 0 ≤ k → k ≤ 5 → 0 ≤ m → m ≤ lim → m ≤ 600 → 0 ≤ M1 (o + 1) k → M1 (o + 1) k ≤ 61 → (-100 ≤ M1 o 1 ∧ M1 o 1 ≤ 100 ∧ -100 ≤ M1 o 2 ∧ M1 o 2 ≤ 100 ∧ -100 ≤ M1 o 3 ∧ M1 o 3 ≤ 100 ∧ 0 ≤ M1 o 4 ∧ M1 o 4 ≤ 100000000 ∧ 0 ≤ M1 o 5 ∧ M1 o 5 ≤ 100000000) → (∀ p M2, mm_hid (p = min (M1 (o + 1) k) (lim - m)) → 0 ≤ p → p ≤ M1 (o + 1) k → p ≤ lim - m → wStep o k p M1 M2 → J 4 [some (vr o), some (vi lim), some (vi (m + p)), some (vi (k + 1)), some (vi p)] [] M2) → ∀ x4, J 4 [some (vr o), some (vi lim), some (vi m), some (vi k), x4] [] M1 := by
    intro k m M1 k0 k5 m0 ml m6 a0 a1 hB hN x4
    have e1 : ∀ (i v : Int), mm_up M1 (o + 1) i v o = M1 o := fun i v => mm_up_o _ _ (by omega)
    have hst := wSh_step M1 o k (min (M1 (o + 1) k) (lim - m)) k0 k5
    have hN2 := hN _ _ rfl (by omega) (by omega) (by omega) hst
    refine hJ 4 _ _ _ (show mm_wp _ _ _ mo_Win_make_4 _ _ _ from ?_)
    simp only [mo_Win_make_4, mm_wp, mm_ldi, mm_lda, mm_ldl, mm_sti, mm_sta, mm_stl, mm_inc, mm_2i, mm_mm, mm_2l, mm_lcmp, mm_i2l, mm_l2i, mm_cast8, mm_if1, mm_if2, mm_cmp, mm_swi, mm_sw, mm_pop1, mm_dup, mm_dup2, mm_geti, mm_geta, mm_puti, mm_iald, mm_bald, mm_aald, mm_iast, mm_bast, mm_alen, mm_acpy, mm_call, mm_callv, mm_recv, mm_pop, mm_find, mm_push, mm_cats, mm_cat, mm_reti, mm_retz, mm_retl, mm_reta, mm_retv, mm_set1, mm_set2, mm_kill, List.getElem?_cons_zero, List.getElem?_cons_succ, Int.reduceToNat, ↓reduceIte, Nat.reduceEqDiff, Nat.reduceDiv, Nat.reduceAdd, Nat.reduceLeDiff, Nat.zero_le, true_and, and_true, true_or, or_true, mm_b0, mm_b1, mm_lc_lt, mm_lc_le, mm_lc_gt, mm_lc_ge, mm_lc_eq, Int.not_lt, Int.not_le, Decidable.not_not, Int.sub_neg, ho, h1, h2, t_Win_shift, Nat.reduceMul, e1]
    exact ⟨fun q => by omega, fun _ => ⟨by omega, by omega, by omega, by omega, by omega, hw, by omega, by omega, by omega, hN2⟩⟩
  have fin : ∀ (m : Int) (M1 : mmM) x4, Q (some (vi m)) M1 → J 4 [some (vr o), some (vi lim), some (vi m), some (vi 6), x4] [] M1 := by
    intro m M1 x4 hq
    have h51 : J 51 [some (vr o), some (vi lim), some (vi m), some (vi 6), x4] [] M1 := by
      refine hJ 51 _ _ _ (show mm_wp _ _ _ mo_Win_make_51 _ _ _ from ?_)
      simp only [mo_Win_make_51, mm_wp, mm_ldi, mm_lda, mm_ldl, mm_sti, mm_sta, mm_stl, mm_inc, mm_2i, mm_mm, mm_2l, mm_lcmp, mm_i2l, mm_l2i, mm_cast8, mm_if1, mm_if2, mm_cmp, mm_swi, mm_sw, mm_pop1, mm_dup, mm_dup2, mm_geti, mm_geta, mm_puti, mm_iald, mm_bald, mm_aald, mm_iast, mm_bast, mm_alen, mm_acpy, mm_call, mm_callv, mm_recv, mm_pop, mm_find, mm_push, mm_cats, mm_cat, mm_reti, mm_retz, mm_retl, mm_reta, mm_retv, mm_set1, mm_set2, mm_kill, List.getElem?_cons_zero, List.getElem?_cons_succ, Int.reduceToNat, ↓reduceIte, Nat.reduceEqDiff, Nat.reduceDiv, Nat.reduceAdd, Nat.reduceLeDiff, Nat.zero_le, true_and, and_true, true_or, or_true, mm_b0, mm_b1, mm_lc_lt, mm_lc_le, mm_lc_gt, mm_lc_ge, mm_lc_eq, Int.not_lt, Int.not_le, Decidable.not_not, Int.sub_neg]
      exact hq
    refine hJ 4 _ _ _ (show mm_wp _ _ _ mo_Win_make_4 _ _ _ from ?_)
    simp only [mo_Win_make_4, mm_wp, mm_ldi, mm_lda, mm_ldl, mm_sti, mm_sta, mm_stl, mm_inc, mm_2i, mm_mm, mm_2l, mm_lcmp, mm_i2l, mm_l2i, mm_cast8, mm_if1, mm_if2, mm_cmp, mm_swi, mm_sw, mm_pop1, mm_dup, mm_dup2, mm_geti, mm_geta, mm_puti, mm_iald, mm_bald, mm_aald, mm_iast, mm_bast, mm_alen, mm_acpy, mm_call, mm_callv, mm_recv, mm_pop, mm_find, mm_push, mm_cats, mm_cat, mm_reti, mm_retz, mm_retl, mm_reta, mm_retv, mm_set1, mm_set2, mm_kill, List.getElem?_cons_zero, List.getElem?_cons_succ, Int.reduceToNat, ↓reduceIte, Nat.reduceEqDiff, Nat.reduceDiv, Nat.reduceAdd, Nat.reduceLeDiff, Nat.zero_le, true_and, and_true, true_or, or_true, mm_b0, mm_b1, mm_lc_lt, mm_lc_le, mm_lc_gt, mm_lc_ge, mm_lc_eq, Int.not_lt, Int.not_le, Decidable.not_not, Int.sub_neg]
    exact ⟨fun _ => h51, fun q => by omega⟩
  refine hJ 0 _ _ _ (show mm_wp _ _ _ mo_Win_make_0 _ _ _ from ?_)
  simp only [mo_Win_make_0, mm_wp, mm_ldi, mm_lda, mm_ldl, mm_sti, mm_sta, mm_stl, mm_inc, mm_2i, mm_mm, mm_2l, mm_lcmp, mm_i2l, mm_l2i, mm_cast8, mm_if1, mm_if2, mm_cmp, mm_swi, mm_sw, mm_pop1, mm_dup, mm_dup2, mm_geti, mm_geta, mm_puti, mm_iald, mm_bald, mm_aald, mm_iast, mm_bast, mm_alen, mm_acpy, mm_call, mm_callv, mm_recv, mm_pop, mm_find, mm_push, mm_cats, mm_cat, mm_reti, mm_retz, mm_retl, mm_reta, mm_retv, mm_set1, mm_set2, mm_kill, List.getElem?_cons_zero, List.getElem?_cons_succ, Int.reduceToNat, ↓reduceIte, Nat.reduceEqDiff, Nat.reduceDiv, Nat.reduceAdd, Nat.reduceLeDiff, Nat.zero_le, true_and, and_true, true_or, or_true, mm_b0, mm_b1, mm_lc_lt, mm_lc_le, mm_lc_gt, mm_lc_ge, mm_lc_eq, Int.not_lt, Int.not_le, Decidable.not_not, Int.sub_neg]
  refine step 0 0 M (by omega) (by omega) (by omega) (by omega) (by omega) (by omega) (by omega) (by omega) (fun p0 M1 hp0 u0 v0 w0 s1 => ?_) _
  obtain ⟨f1, g1, g2, g3, g4, g5, g6, g7, g8⟩ := s1
  simp only [↓reduceIte, Int.reduceEq, Int.reduceLE] at g3 g4 g5 g6 g7
  refine step 1 _ M1 (by omega) (by omega) (by omega) (by omega) (by omega) (by rw [g1 1 (by decide)]; omega) (by rw [g1 1 (by decide)]; omega) (by omega) (fun p1 M2 hp1 u1 v1 w1 s2 => ?_) _
  obtain ⟨f2, i1, i2, i3, i4, i5, i6, i7, i8⟩ := s2
  rw [g1 1 (by decide)] at hp1 i2 v1
  simp only [↓reduceIte, Int.reduceEq, Int.reduceLE] at i3 i4 i5 i6 i7
  have j2 : M2 (o + 1) 2 = M (o + 1) 2 := by rw [i1 2 (by decide), g1 2 (by decide)]
  refine step 2 _ M2 (by omega) (by omega) (by omega) (by omega) (by omega) (by omega) (by omega) (by omega) (fun p2 M3 hp2 u2 v2 w2 s3 => ?_) _
  obtain ⟨f3, k1, k2, k3, k4, k5, k6, k7, k8⟩ := s3
  rw [j2] at hp2 k2 v2
  simp only [↓reduceIte, Int.reduceEq, Int.reduceLE] at k3 k4 k5 k6 k7
  have j3 : M3 (o + 1) 3 = M (o + 1) 3 := by rw [k1 3 (by decide), i1 3 (by decide), g1 3 (by decide)]
  refine step 3 _ M3 (by omega) (by omega) (by omega) (by omega) (by omega) (by omega) (by omega) (by omega) (fun p3 M4 hp3 u3 v3 w3 s4 => ?_) _
  obtain ⟨f4, l1, l2, l3, l4, l5, l6, l7, l8⟩ := s4
  rw [j3] at hp3 l2 v3
  simp only [↓reduceIte, Int.reduceEq, Int.reduceLE] at l3 l4 l5 l6 l7
  have j4 : M4 (o + 1) 4 = M (o + 1) 4 := by rw [l1 4 (by decide), k1 4 (by decide), i1 4 (by decide), g1 4 (by decide)]
  refine step 4 _ M4 (by omega) (by omega) (by omega) (by omega) (by omega) (by omega) (by omega) (by omega) (fun p4 M5 hp4 u4 v4 w4 s5 => ?_) _
  obtain ⟨f5, n1, n2, n3, n4, n5, n6, n7, n8⟩ := s5
  rw [j4] at hp4 n2 v4
  simp only [↓reduceIte, Int.reduceEq, Int.reduceLE] at n3 n4 n5 n6 n7
  have j5 : M5 (o + 1) 5 = M (o + 1) 5 := by rw [n1 5 (by decide), l1 5 (by decide), k1 5 (by decide), i1 5 (by decide), g1 5 (by decide)]
  refine step 5 _ M5 (by omega) (by omega) (by omega) (by omega) (by omega) (by omega) (by omega) (by omega) (fun p5 M6 hp5 u5 v5 w5 s6 => ?_) _
  obtain ⟨f6, r1, r2, r3, r4, r5, r6, r7, r8⟩ := s6
  rw [j5] at hp5 r2 v5
  simp only [↓reduceIte, Int.reduceEq, Int.reduceLE] at r3 r4 r5 r6 r7
  refine fin _ M6 _ ?_
  rw [show 0 + p0 + p1 + p2 + p3 + p4 + p5 = p0 + p1 + p2 + p3 + p4 + p5 by omega]
  refine h M6 p0 p1 p2 p3 p4 p5 ?_ ⟨fun o' c1 c2 => by rw [f6 o' c1 c2, f5 o' c1 c2, f4 o' c1 c2, f3 o' c1 c2, f2 o' c1 c2, f1 o' c1 c2], by omega, by omega, by omega, by omega, by omega, by omega, ?_, ?_, ?_, ?_, ?_, by omega⟩
  · rw [Int.sub_zero] at hp0
    rw [Int.zero_add] at hp1 hp2 hp3 hp4 hp5
    exact ⟨hp0, hp1, hp2, hp3, hp4, hp5⟩
  · rw [r1 0 (by decide), n1 0 (by decide), l1 0 (by decide), k1 0 (by decide), i1 0 (by decide)]; omega
  · rw [r1 1 (by decide), n1 1 (by decide), l1 1 (by decide), k1 1 (by decide)]; omega
  · rw [r1 2 (by decide), n1 2 (by decide), l1 2 (by decide)]; omega
  · rw [r1 3 (by decide), n1 3 (by decide)]; omega
  · rw [r1 4 (by decide)]; omega
def t_Win_nextKind : mmT := fun as M Q => match as with
  | [.inr (.inr o)] => isW o ∧ Q (some (vi (if 0 < M (o + 1) 0 then 0 else if 0 < M (o + 1) 1 then 1 else if 0 < M (o + 1) 2 then 2 else if 0 < M (o + 1) 3 then 3 else if 0 < M (o + 1) 4 then 4 else if 0 < M (o + 1) 5 then 5 else -1))) M
  | _ => False
set_option maxHeartbeats 4000000 in
set_option maxRecDepth 100000 in
theorem p_Win_nextKind : ∀ as M Q, (∀ v ∈ as, mm_vin v) → mm_mem M → t_Win_nextKind as M Q → (mm_ent as).length ≤ 2 ∧ mm_ok mb_Win_nextKind [] (mm_entry 2 as) M Q := by
  intro as M Q hin hM h
  unfold t_Win_nextKind at h
  split at h
  rotate_left
  · exact h.elim
  rename_i o
  refine ⟨by simp [mm_ent], (show mm_ok mb_Win_nextKind [] [some (vr o), none] M Q from ?_)⟩
  intro J hJ
  obtain ⟨⟨ho, h1, h2⟩, h⟩ := h
  repeat' first | (refine And.intro ?_ ?_) | (intro _) | (refine hJ 0 _ _ _ ?_; show mm_wp _ _ _ mo_Win_nextKind_0 _ _ _; simp only [mo_Win_nextKind_0, mm_wp, mm_ldi, mm_lda, mm_ldl, mm_sti, mm_sta, mm_stl, mm_inc, mm_2i, mm_mm, mm_2l, mm_lcmp, mm_i2l, mm_l2i, mm_cast8, mm_if1, mm_if2, mm_cmp, mm_swi, mm_sw, mm_pop1, mm_dup, mm_dup2, mm_geti, mm_geta, mm_puti, mm_iald, mm_bald, mm_aald, mm_iast, mm_bast, mm_alen, mm_acpy, mm_call, mm_callv, mm_recv, mm_pop, mm_find, mm_push, mm_cats, mm_cat, mm_reti, mm_retz, mm_retl, mm_reta, mm_retv, mm_set1, mm_set2, mm_kill, List.getElem?_cons_zero, List.getElem?_cons_succ, Int.reduceToNat, ↓reduceIte, Nat.reduceEqDiff, Nat.reduceDiv, Nat.reduceAdd, Nat.reduceLeDiff, Nat.zero_le, true_and, and_true, true_or, or_true, mm_b0, mm_b1, mm_lc_lt, mm_lc_le, mm_lc_gt, mm_lc_ge, mm_lc_eq, Int.not_lt, Int.not_le, Decidable.not_not, Int.sub_neg, ho, h1, h2, Int.reduceLT, Int.reduceLE, Int.reduceAdd, Int.zero_add, not_true_eq_false, not_false_eq_true, forall_const, false_implies, implies_true, Int.reduceNeg]) | (refine hJ 2 _ _ _ ?_; show mm_wp _ _ _ mo_Win_nextKind_2 _ _ _; simp only [mo_Win_nextKind_2, mm_wp, mm_ldi, mm_lda, mm_ldl, mm_sti, mm_sta, mm_stl, mm_inc, mm_2i, mm_mm, mm_2l, mm_lcmp, mm_i2l, mm_l2i, mm_cast8, mm_if1, mm_if2, mm_cmp, mm_swi, mm_sw, mm_pop1, mm_dup, mm_dup2, mm_geti, mm_geta, mm_puti, mm_iald, mm_bald, mm_aald, mm_iast, mm_bast, mm_alen, mm_acpy, mm_call, mm_callv, mm_recv, mm_pop, mm_find, mm_push, mm_cats, mm_cat, mm_reti, mm_retz, mm_retl, mm_reta, mm_retv, mm_set1, mm_set2, mm_kill, List.getElem?_cons_zero, List.getElem?_cons_succ, Int.reduceToNat, ↓reduceIte, Nat.reduceEqDiff, Nat.reduceDiv, Nat.reduceAdd, Nat.reduceLeDiff, Nat.zero_le, true_and, and_true, true_or, or_true, mm_b0, mm_b1, mm_lc_lt, mm_lc_le, mm_lc_gt, mm_lc_ge, mm_lc_eq, Int.not_lt, Int.not_le, Decidable.not_not, Int.sub_neg, ho, h1, h2, Int.reduceLT, Int.reduceLE, Int.reduceAdd, Int.zero_add, not_true_eq_false, not_false_eq_true, forall_const, false_implies, implies_true, Int.reduceNeg]) | (refine hJ 19 _ _ _ ?_; show mm_wp _ _ _ mo_Win_nextKind_19 _ _ _; simp only [mo_Win_nextKind_19, mm_wp, mm_ldi, mm_lda, mm_ldl, mm_sti, mm_sta, mm_stl, mm_inc, mm_2i, mm_mm, mm_2l, mm_lcmp, mm_i2l, mm_l2i, mm_cast8, mm_if1, mm_if2, mm_cmp, mm_swi, mm_sw, mm_pop1, mm_dup, mm_dup2, mm_geti, mm_geta, mm_puti, mm_iald, mm_bald, mm_aald, mm_iast, mm_bast, mm_alen, mm_acpy, mm_call, mm_callv, mm_recv, mm_pop, mm_find, mm_push, mm_cats, mm_cat, mm_reti, mm_retz, mm_retl, mm_reta, mm_retv, mm_set1, mm_set2, mm_kill, List.getElem?_cons_zero, List.getElem?_cons_succ, Int.reduceToNat, ↓reduceIte, Nat.reduceEqDiff, Nat.reduceDiv, Nat.reduceAdd, Nat.reduceLeDiff, Nat.zero_le, true_and, and_true, true_or, or_true, mm_b0, mm_b1, mm_lc_lt, mm_lc_le, mm_lc_gt, mm_lc_ge, mm_lc_eq, Int.not_lt, Int.not_le, Decidable.not_not, Int.sub_neg, ho, h1, h2, Int.reduceLT, Int.reduceLE, Int.reduceAdd, Int.zero_add, not_true_eq_false, not_false_eq_true, forall_const, false_implies, implies_true, Int.reduceNeg]) | (refine hJ 25 _ _ _ ?_; show mm_wp _ _ _ mo_Win_nextKind_25 _ _ _; simp only [mo_Win_nextKind_25, mm_wp, mm_ldi, mm_lda, mm_ldl, mm_sti, mm_sta, mm_stl, mm_inc, mm_2i, mm_mm, mm_2l, mm_lcmp, mm_i2l, mm_l2i, mm_cast8, mm_if1, mm_if2, mm_cmp, mm_swi, mm_sw, mm_pop1, mm_dup, mm_dup2, mm_geti, mm_geta, mm_puti, mm_iald, mm_bald, mm_aald, mm_iast, mm_bast, mm_alen, mm_acpy, mm_call, mm_callv, mm_recv, mm_pop, mm_find, mm_push, mm_cats, mm_cat, mm_reti, mm_retz, mm_retl, mm_reta, mm_retv, mm_set1, mm_set2, mm_kill, List.getElem?_cons_zero, List.getElem?_cons_succ, Int.reduceToNat, ↓reduceIte, Nat.reduceEqDiff, Nat.reduceDiv, Nat.reduceAdd, Nat.reduceLeDiff, Nat.zero_le, true_and, and_true, true_or, or_true, mm_b0, mm_b1, mm_lc_lt, mm_lc_le, mm_lc_gt, mm_lc_ge, mm_lc_eq, Int.not_lt, Int.not_le, Decidable.not_not, Int.sub_neg, ho, h1, h2, Int.reduceLT, Int.reduceLE, Int.reduceAdd, Int.zero_add, not_true_eq_false, not_false_eq_true, forall_const, false_implies, implies_true, Int.reduceNeg])
  all_goals first | assumption | (exact Or.inl rfl) | (exact Or.inr rfl) | (exact rfl) | trivial | omega | (repeat' (first | assumption | omega | split at h))
def t_Win_movedBy : mmT := fun as M Q => match as with
  | [.inr (.inr o), .inl k] => isW o ∧ (0 ≤ k ∧ k ≤ 5 ∧ -100 ≤ M o 1 ∧ M o 1 ≤ 100 ∧ -100 ≤ M o 2 ∧ M o 2 ≤ 100 ∧ -100 ≤ M o 3 ∧ M o 3 ≤ 100) ∧ Q (some (vi (if k = 0 then M o 1 - 1 else if k = 1 then M o 2 + 1 else if k = 2 then M o 1 else if k = 3 then M o 2 else if k = 4 then M o 3 else M o 3 - 1))) M
  | _ => False
set_option maxHeartbeats 4000000 in
set_option maxRecDepth 100000 in
theorem p_Win_movedBy : ∀ as M Q, (∀ v ∈ as, mm_vin v) → mm_mem M → t_Win_movedBy as M Q → (mm_ent as).length ≤ 2 ∧ mm_ok mb_Win_movedBy [] (mm_entry 2 as) M Q := by
  intro as M Q hin hM h
  unfold t_Win_movedBy at h
  split at h
  rotate_left
  · exact h.elim
  rename_i o k
  have hR_k : mm_R k := hin (vi k) (by simp)
  refine ⟨by simp [mm_ent], (show mm_ok mb_Win_movedBy [] [some (vr o), some (vi k)] M Q from ?_)⟩
  intro J hJ
  obtain ⟨⟨ho, h1, h2⟩, hb, h⟩ := h
  have hk : k = 0 ∨ k = 1 ∨ k = 2 ∨ k = 3 ∨ k = 4 ∨ k = 5 := by omega
  rcases hk with rfl | rfl | rfl | rfl | rfl | rfl <;> simp only [Int.reduceEq, ↓reduceIte] at h
  all_goals
    repeat' first | (refine And.intro ?_ ?_) | (intro _) | (refine hJ 0 _ _ _ ?_; show mm_wp _ _ _ mo_Win_movedBy_0 _ _ _; simp only [mo_Win_movedBy_0, mm_wp, mm_ldi, mm_lda, mm_ldl, mm_sti, mm_sta, mm_stl, mm_inc, mm_2i, mm_mm, mm_2l, mm_lcmp, mm_i2l, mm_l2i, mm_cast8, mm_if1, mm_if2, mm_cmp, mm_swi, mm_sw, mm_pop1, mm_dup, mm_dup2, mm_geti, mm_geta, mm_puti, mm_iald, mm_bald, mm_aald, mm_iast, mm_bast, mm_alen, mm_acpy, mm_call, mm_callv, mm_recv, mm_pop, mm_find, mm_push, mm_cats, mm_cat, mm_reti, mm_retz, mm_retl, mm_reta, mm_retv, mm_set1, mm_set2, mm_kill, List.getElem?_cons_zero, List.getElem?_cons_succ, Int.reduceToNat, ↓reduceIte, Nat.reduceEqDiff, Nat.reduceDiv, Nat.reduceAdd, Nat.reduceLeDiff, Nat.zero_le, true_and, and_true, true_or, or_true, mm_b0, mm_b1, mm_lc_lt, mm_lc_le, mm_lc_gt, mm_lc_ge, mm_lc_eq, Int.not_lt, Int.not_le, Decidable.not_not, Int.sub_neg, ho, Int.reduceEq, not_true_eq_false, not_false_eq_true, forall_const, false_implies, implies_true]) | (refine hJ 36 _ _ _ ?_; show mm_wp _ _ _ mo_Win_movedBy_36 _ _ _; simp only [mo_Win_movedBy_36, mm_wp, mm_ldi, mm_lda, mm_ldl, mm_sti, mm_sta, mm_stl, mm_inc, mm_2i, mm_mm, mm_2l, mm_lcmp, mm_i2l, mm_l2i, mm_cast8, mm_if1, mm_if2, mm_cmp, mm_swi, mm_sw, mm_pop1, mm_dup, mm_dup2, mm_geti, mm_geta, mm_puti, mm_iald, mm_bald, mm_aald, mm_iast, mm_bast, mm_alen, mm_acpy, mm_call, mm_callv, mm_recv, mm_pop, mm_find, mm_push, mm_cats, mm_cat, mm_reti, mm_retz, mm_retl, mm_reta, mm_retv, mm_set1, mm_set2, mm_kill, List.getElem?_cons_zero, List.getElem?_cons_succ, Int.reduceToNat, ↓reduceIte, Nat.reduceEqDiff, Nat.reduceDiv, Nat.reduceAdd, Nat.reduceLeDiff, Nat.zero_le, true_and, and_true, true_or, or_true, mm_b0, mm_b1, mm_lc_lt, mm_lc_le, mm_lc_gt, mm_lc_ge, mm_lc_eq, Int.not_lt, Int.not_le, Decidable.not_not, Int.sub_neg, ho, Int.reduceEq, not_true_eq_false, not_false_eq_true, forall_const, false_implies, implies_true]) | (refine hJ 43 _ _ _ ?_; show mm_wp _ _ _ mo_Win_movedBy_43 _ _ _; simp only [mo_Win_movedBy_43, mm_wp, mm_ldi, mm_lda, mm_ldl, mm_sti, mm_sta, mm_stl, mm_inc, mm_2i, mm_mm, mm_2l, mm_lcmp, mm_i2l, mm_l2i, mm_cast8, mm_if1, mm_if2, mm_cmp, mm_swi, mm_sw, mm_pop1, mm_dup, mm_dup2, mm_geti, mm_geta, mm_puti, mm_iald, mm_bald, mm_aald, mm_iast, mm_bast, mm_alen, mm_acpy, mm_call, mm_callv, mm_recv, mm_pop, mm_find, mm_push, mm_cats, mm_cat, mm_reti, mm_retz, mm_retl, mm_reta, mm_retv, mm_set1, mm_set2, mm_kill, List.getElem?_cons_zero, List.getElem?_cons_succ, Int.reduceToNat, ↓reduceIte, Nat.reduceEqDiff, Nat.reduceDiv, Nat.reduceAdd, Nat.reduceLeDiff, Nat.zero_le, true_and, and_true, true_or, or_true, mm_b0, mm_b1, mm_lc_lt, mm_lc_le, mm_lc_gt, mm_lc_ge, mm_lc_eq, Int.not_lt, Int.not_le, Decidable.not_not, Int.sub_neg, ho, Int.reduceEq, not_true_eq_false, not_false_eq_true, forall_const, false_implies, implies_true]) | (refine hJ 50 _ _ _ ?_; show mm_wp _ _ _ mo_Win_movedBy_50 _ _ _; simp only [mo_Win_movedBy_50, mm_wp, mm_ldi, mm_lda, mm_ldl, mm_sti, mm_sta, mm_stl, mm_inc, mm_2i, mm_mm, mm_2l, mm_lcmp, mm_i2l, mm_l2i, mm_cast8, mm_if1, mm_if2, mm_cmp, mm_swi, mm_sw, mm_pop1, mm_dup, mm_dup2, mm_geti, mm_geta, mm_puti, mm_iald, mm_bald, mm_aald, mm_iast, mm_bast, mm_alen, mm_acpy, mm_call, mm_callv, mm_recv, mm_pop, mm_find, mm_push, mm_cats, mm_cat, mm_reti, mm_retz, mm_retl, mm_reta, mm_retv, mm_set1, mm_set2, mm_kill, List.getElem?_cons_zero, List.getElem?_cons_succ, Int.reduceToNat, ↓reduceIte, Nat.reduceEqDiff, Nat.reduceDiv, Nat.reduceAdd, Nat.reduceLeDiff, Nat.zero_le, true_and, and_true, true_or, or_true, mm_b0, mm_b1, mm_lc_lt, mm_lc_le, mm_lc_gt, mm_lc_ge, mm_lc_eq, Int.not_lt, Int.not_le, Decidable.not_not, Int.sub_neg, ho, Int.reduceEq, not_true_eq_false, not_false_eq_true, forall_const, false_implies, implies_true]) | (refine hJ 55 _ _ _ ?_; show mm_wp _ _ _ mo_Win_movedBy_55 _ _ _; simp only [mo_Win_movedBy_55, mm_wp, mm_ldi, mm_lda, mm_ldl, mm_sti, mm_sta, mm_stl, mm_inc, mm_2i, mm_mm, mm_2l, mm_lcmp, mm_i2l, mm_l2i, mm_cast8, mm_if1, mm_if2, mm_cmp, mm_swi, mm_sw, mm_pop1, mm_dup, mm_dup2, mm_geti, mm_geta, mm_puti, mm_iald, mm_bald, mm_aald, mm_iast, mm_bast, mm_alen, mm_acpy, mm_call, mm_callv, mm_recv, mm_pop, mm_find, mm_push, mm_cats, mm_cat, mm_reti, mm_retz, mm_retl, mm_reta, mm_retv, mm_set1, mm_set2, mm_kill, List.getElem?_cons_zero, List.getElem?_cons_succ, Int.reduceToNat, ↓reduceIte, Nat.reduceEqDiff, Nat.reduceDiv, Nat.reduceAdd, Nat.reduceLeDiff, Nat.zero_le, true_and, and_true, true_or, or_true, mm_b0, mm_b1, mm_lc_lt, mm_lc_le, mm_lc_gt, mm_lc_ge, mm_lc_eq, Int.not_lt, Int.not_le, Decidable.not_not, Int.sub_neg, ho, Int.reduceEq, not_true_eq_false, not_false_eq_true, forall_const, false_implies, implies_true]) | (refine hJ 60 _ _ _ ?_; show mm_wp _ _ _ mo_Win_movedBy_60 _ _ _; simp only [mo_Win_movedBy_60, mm_wp, mm_ldi, mm_lda, mm_ldl, mm_sti, mm_sta, mm_stl, mm_inc, mm_2i, mm_mm, mm_2l, mm_lcmp, mm_i2l, mm_l2i, mm_cast8, mm_if1, mm_if2, mm_cmp, mm_swi, mm_sw, mm_pop1, mm_dup, mm_dup2, mm_geti, mm_geta, mm_puti, mm_iald, mm_bald, mm_aald, mm_iast, mm_bast, mm_alen, mm_acpy, mm_call, mm_callv, mm_recv, mm_pop, mm_find, mm_push, mm_cats, mm_cat, mm_reti, mm_retz, mm_retl, mm_reta, mm_retv, mm_set1, mm_set2, mm_kill, List.getElem?_cons_zero, List.getElem?_cons_succ, Int.reduceToNat, ↓reduceIte, Nat.reduceEqDiff, Nat.reduceDiv, Nat.reduceAdd, Nat.reduceLeDiff, Nat.zero_le, true_and, and_true, true_or, or_true, mm_b0, mm_b1, mm_lc_lt, mm_lc_le, mm_lc_gt, mm_lc_ge, mm_lc_eq, Int.not_lt, Int.not_le, Decidable.not_not, Int.sub_neg, ho, Int.reduceEq, not_true_eq_false, not_false_eq_true, forall_const, false_implies, implies_true]) | (refine hJ 65 _ _ _ ?_; show mm_wp _ _ _ mo_Win_movedBy_65 _ _ _; simp only [mo_Win_movedBy_65, mm_wp, mm_ldi, mm_lda, mm_ldl, mm_sti, mm_sta, mm_stl, mm_inc, mm_2i, mm_mm, mm_2l, mm_lcmp, mm_i2l, mm_l2i, mm_cast8, mm_if1, mm_if2, mm_cmp, mm_swi, mm_sw, mm_pop1, mm_dup, mm_dup2, mm_geti, mm_geta, mm_puti, mm_iald, mm_bald, mm_aald, mm_iast, mm_bast, mm_alen, mm_acpy, mm_call, mm_callv, mm_recv, mm_pop, mm_find, mm_push, mm_cats, mm_cat, mm_reti, mm_retz, mm_retl, mm_reta, mm_retv, mm_set1, mm_set2, mm_kill, List.getElem?_cons_zero, List.getElem?_cons_succ, Int.reduceToNat, ↓reduceIte, Nat.reduceEqDiff, Nat.reduceDiv, Nat.reduceAdd, Nat.reduceLeDiff, Nat.zero_le, true_and, and_true, true_or, or_true, mm_b0, mm_b1, mm_lc_lt, mm_lc_le, mm_lc_gt, mm_lc_ge, mm_lc_eq, Int.not_lt, Int.not_le, Decidable.not_not, Int.sub_neg, ho, Int.reduceEq, not_true_eq_false, not_false_eq_true, forall_const, false_implies, implies_true])
    all_goals first | assumption | (exact Or.inl rfl) | (exact Or.inr rfl) | (exact rfl) | trivial | omega
end
section
/-! the planner's Questions -/
def sN (f : Int → Int) : Nat → Int
  | 0 => 0
  | n + 1 => sN f n + f n
theorem sN_cong {f g : Int → Int} : ∀ (n : Nat), (∀ k : Nat, k < n → f k = g k) → sN f n = sN g n
  | 0, _ => rfl
  | n + 1, h => by
    show sN f n + f n = sN g n + g n
    rw [sN_cong n (fun k hk => h k (by omega)), h n (by omega)]
theorem sN_b {f : Int → Int} {a b : Int} : ∀ (n : Nat), (∀ k : Nat, k < n → a ≤ f k ∧ f k ≤ b) → a * n ≤ sN f n ∧ sN f n ≤ b * n
  | 0, _ => by simp [sN]
  | n + 1, h => by
    have h1 := sN_b n (fun k hk => h k (by omega))
    have h2 := h n (by omega)
    simp only [sN, Int.natCast_succ, Int.mul_add, Int.mul_one]
    omega
noncomputable def mm_c (P : Prop) : Int := @ite _ P (Classical.propDecidable P) 1 0
theorem mm_cT {P : Prop} (h : P) : mm_c P = 1 := if_pos h
theorem mm_cF {P : Prop} (h : ¬ P) : mm_c P = 0 := if_neg h
theorem mm_c01 (P : Prop) : 0 ≤ mm_c P ∧ mm_c P ≤ 1 := by
  by_cases h : P
  · rw [mm_cT h]; omega
  · rw [mm_cF h]; omega
theorem mm_cE {P R : Prop} (h : P ↔ R) : mm_c P = mm_c R := by
  by_cases h1 : P
  · rw [mm_cT h1, mm_cT (h.mp h1)]
  · rw [mm_cF h1, mm_cF (fun q => h1 (h.mpr q))]
theorem mm_b_R (P : Prop) [Decidable P] : 0 ≤ mm_b P ∧ mm_b P ≤ 1 := by
  rcases mm_b01 P with h | h <;> omega
def isQ (o : Nat) : Prop := mm_cls o = 2 ∧ mm_cls (o + 1) = 100 ∧ mm_cls (o + 2) = 100 ∧ mm_cls (o + 3) = 100 ∧ mm_cls (o + 4) = 100 ∧ mm_len (o + 1) = 25 ∧ mm_len (o + 2) = 25 ∧ mm_len (o + 3) = 25 ∧ mm_len (o + 4) = 25
def t_Q_isPlannedKind : mmT := fun as M Q => match as with
  | [.inl k] => Q (some (vi (mm_b (¬ k = 2 ∧ ¬ k = 3 ∧ ¬ k = 6)))) M
  | _ => False
set_option maxHeartbeats 4000000 in
set_option maxRecDepth 100000 in
theorem p_Q_isPlannedKind : ∀ as M Q, (∀ v ∈ as, mm_vin v) → mm_mem M → t_Q_isPlannedKind as M Q → (mm_ent as).length ≤ 1 ∧ mm_ok mb_Q_isPlannedKind [] (mm_entry 1 as) M Q := by
  intro as M Q hin hM h
  unfold t_Q_isPlannedKind at h
  split at h
  rotate_left
  · exact h.elim
  rename_i k
  have hR_k : mm_R k := hin (vi k) (by simp)
  refine ⟨by simp [mm_ent], (show mm_ok mb_Q_isPlannedKind [] [some (vi k)] M Q from ?_)⟩
  intro J hJ
  repeat' first | (refine And.intro ?_ ?_) | (intro _) | (refine hJ 0 _ _ _ ?_; show mm_wp _ _ _ mo_Q_isPlannedKind_0 _ _ _; simp only [mo_Q_isPlannedKind_0, mm_wp, mm_ldi, mm_lda, mm_ldl, mm_sti, mm_sta, mm_stl, mm_inc, mm_2i, mm_mm, mm_2l, mm_lcmp, mm_i2l, mm_l2i, mm_cast8, mm_if1, mm_if2, mm_cmp, mm_swi, mm_sw, mm_pop1, mm_dup, mm_dup2, mm_geti, mm_geta, mm_puti, mm_iald, mm_bald, mm_aald, mm_iast, mm_bast, mm_alen, mm_acpy, mm_call, mm_callv, mm_recv, mm_pop, mm_find, mm_push, mm_cats, mm_cat, mm_reti, mm_retz, mm_retl, mm_reta, mm_retv, mm_set1, mm_set2, mm_kill, List.getElem?_cons_zero, List.getElem?_cons_succ, Int.reduceToNat, ↓reduceIte, Nat.reduceEqDiff, Nat.reduceDiv, Nat.reduceAdd, Nat.reduceLeDiff, Nat.zero_le, true_and, and_true, true_or, or_true, mm_b0, mm_b1, mm_lc_lt, mm_lc_le, mm_lc_gt, mm_lc_ge, mm_lc_eq, Int.not_lt, Int.not_le, Decidable.not_not, Int.sub_neg]) | (refine hJ 20 _ _ _ ?_; show mm_wp _ _ _ mo_Q_isPlannedKind_20 _ _ _; simp only [mo_Q_isPlannedKind_20, mm_wp, mm_ldi, mm_lda, mm_ldl, mm_sti, mm_sta, mm_stl, mm_inc, mm_2i, mm_mm, mm_2l, mm_lcmp, mm_i2l, mm_l2i, mm_cast8, mm_if1, mm_if2, mm_cmp, mm_swi, mm_sw, mm_pop1, mm_dup, mm_dup2, mm_geti, mm_geta, mm_puti, mm_iald, mm_bald, mm_aald, mm_iast, mm_bast, mm_alen, mm_acpy, mm_call, mm_callv, mm_recv, mm_pop, mm_find, mm_push, mm_cats, mm_cat, mm_reti, mm_retz, mm_retl, mm_reta, mm_retv, mm_set1, mm_set2, mm_kill, List.getElem?_cons_zero, List.getElem?_cons_succ, Int.reduceToNat, ↓reduceIte, Nat.reduceEqDiff, Nat.reduceDiv, Nat.reduceAdd, Nat.reduceLeDiff, Nat.zero_le, true_and, and_true, true_or, or_true, mm_b0, mm_b1, mm_lc_lt, mm_lc_le, mm_lc_gt, mm_lc_ge, mm_lc_eq, Int.not_lt, Int.not_le, Decidable.not_not, Int.sub_neg]) | (refine hJ 21 _ _ _ ?_; show mm_wp _ _ _ mo_Q_isPlannedKind_21 _ _ _; simp only [mo_Q_isPlannedKind_21, mm_wp, mm_ldi, mm_lda, mm_ldl, mm_sti, mm_sta, mm_stl, mm_inc, mm_2i, mm_mm, mm_2l, mm_lcmp, mm_i2l, mm_l2i, mm_cast8, mm_if1, mm_if2, mm_cmp, mm_swi, mm_sw, mm_pop1, mm_dup, mm_dup2, mm_geti, mm_geta, mm_puti, mm_iald, mm_bald, mm_aald, mm_iast, mm_bast, mm_alen, mm_acpy, mm_call, mm_callv, mm_recv, mm_pop, mm_find, mm_push, mm_cats, mm_cat, mm_reti, mm_retz, mm_retl, mm_reta, mm_retv, mm_set1, mm_set2, mm_kill, List.getElem?_cons_zero, List.getElem?_cons_succ, Int.reduceToNat, ↓reduceIte, Nat.reduceEqDiff, Nat.reduceDiv, Nat.reduceAdd, Nat.reduceLeDiff, Nat.zero_le, true_and, and_true, true_or, or_true, mm_b0, mm_b1, mm_lc_lt, mm_lc_le, mm_lc_gt, mm_lc_ge, mm_lc_eq, Int.not_lt, Int.not_le, Decidable.not_not, Int.sub_neg])
  all_goals first | assumption | (exact Or.inl rfl) | (exact Or.inr rfl) | (exact rfl) | trivial | omega | (rw [mm_bF (by omega)] at h; exact h) | (rw [mm_bT (by omega)] at h; exact h)
def t_Q_has : mmT := fun as M Q => match as with
  | [.inr (.inr o), .inl q] => isQ o ∧ Q (some (vi (mm_b (0 ≤ q ∧ q < M o 4)))) M
  | _ => False
set_option maxHeartbeats 4000000 in
set_option maxRecDepth 100000 in
theorem p_Q_has : ∀ as M Q, (∀ v ∈ as, mm_vin v) → mm_mem M → t_Q_has as M Q → (mm_ent as).length ≤ 2 ∧ mm_ok mb_Q_has [] (mm_entry 2 as) M Q := by
  intro as M Q hin hM h
  unfold t_Q_has at h
  split at h
  rotate_left
  · exact h.elim
  rename_i o q
  have hR_q : mm_R q := hin (vi q) (by simp)
  refine ⟨by simp [mm_ent], (show mm_ok mb_Q_has [] [some (vr o), some (vi q)] M Q from ?_)⟩
  intro J hJ
  obtain ⟨ho, h⟩ := h
  have ho := ho.1
  repeat' first | (refine And.intro ?_ ?_) | (intro _) | (refine hJ 0 _ _ _ ?_; show mm_wp _ _ _ mo_Q_has_0 _ _ _; simp only [mo_Q_has_0, mm_wp, mm_ldi, mm_lda, mm_ldl, mm_sti, mm_sta, mm_stl, mm_inc, mm_2i, mm_mm, mm_2l, mm_lcmp, mm_i2l, mm_l2i, mm_cast8, mm_if1, mm_if2, mm_cmp, mm_swi, mm_sw, mm_pop1, mm_dup, mm_dup2, mm_geti, mm_geta, mm_puti, mm_iald, mm_bald, mm_aald, mm_iast, mm_bast, mm_alen, mm_acpy, mm_call, mm_callv, mm_recv, mm_pop, mm_find, mm_push, mm_cats, mm_cat, mm_reti, mm_retz, mm_retl, mm_reta, mm_retv, mm_set1, mm_set2, mm_kill, List.getElem?_cons_zero, List.getElem?_cons_succ, Int.reduceToNat, ↓reduceIte, Nat.reduceEqDiff, Nat.reduceDiv, Nat.reduceAdd, Nat.reduceLeDiff, Nat.zero_le, true_and, and_true, true_or, or_true, mm_b0, mm_b1, mm_lc_lt, mm_lc_le, mm_lc_gt, mm_lc_ge, mm_lc_eq, Int.not_lt, Int.not_le, Decidable.not_not, Int.sub_neg]) | (refine hJ 16 _ _ _ ?_; show mm_wp _ _ _ mo_Q_has_16 _ _ _; simp only [mo_Q_has_16, mm_wp, mm_ldi, mm_lda, mm_ldl, mm_sti, mm_sta, mm_stl, mm_inc, mm_2i, mm_mm, mm_2l, mm_lcmp, mm_i2l, mm_l2i, mm_cast8, mm_if1, mm_if2, mm_cmp, mm_swi, mm_sw, mm_pop1, mm_dup, mm_dup2, mm_geti, mm_geta, mm_puti, mm_iald, mm_bald, mm_aald, mm_iast, mm_bast, mm_alen, mm_acpy, mm_call, mm_callv, mm_recv, mm_pop, mm_find, mm_push, mm_cats, mm_cat, mm_reti, mm_retz, mm_retl, mm_reta, mm_retv, mm_set1, mm_set2, mm_kill, List.getElem?_cons_zero, List.getElem?_cons_succ, Int.reduceToNat, ↓reduceIte, Nat.reduceEqDiff, Nat.reduceDiv, Nat.reduceAdd, Nat.reduceLeDiff, Nat.zero_le, true_and, and_true, true_or, or_true, mm_b0, mm_b1, mm_lc_lt, mm_lc_le, mm_lc_gt, mm_lc_ge, mm_lc_eq, Int.not_lt, Int.not_le, Decidable.not_not, Int.sub_neg]) | (refine hJ 17 _ _ _ ?_; show mm_wp _ _ _ mo_Q_has_17 _ _ _; simp only [mo_Q_has_17, mm_wp, mm_ldi, mm_lda, mm_ldl, mm_sti, mm_sta, mm_stl, mm_inc, mm_2i, mm_mm, mm_2l, mm_lcmp, mm_i2l, mm_l2i, mm_cast8, mm_if1, mm_if2, mm_cmp, mm_swi, mm_sw, mm_pop1, mm_dup, mm_dup2, mm_geti, mm_geta, mm_puti, mm_iald, mm_bald, mm_aald, mm_iast, mm_bast, mm_alen, mm_acpy, mm_call, mm_callv, mm_recv, mm_pop, mm_find, mm_push, mm_cats, mm_cat, mm_reti, mm_retz, mm_retl, mm_reta, mm_retv, mm_set1, mm_set2, mm_kill, List.getElem?_cons_zero, List.getElem?_cons_succ, Int.reduceToNat, ↓reduceIte, Nat.reduceEqDiff, Nat.reduceDiv, Nat.reduceAdd, Nat.reduceLeDiff, Nat.zero_le, true_and, and_true, true_or, or_true, mm_b0, mm_b1, mm_lc_lt, mm_lc_le, mm_lc_gt, mm_lc_ge, mm_lc_eq, Int.not_lt, Int.not_le, Decidable.not_not, Int.sub_neg])
  all_goals first | assumption | (exact Or.inl rfl) | (exact Or.inr rfl) | (exact rfl) | trivial | omega | (rw [mm_bF (by omega)] at h; exact h) | (rw [mm_bT (by omega)] at h; exact h)
def t_Q_removeLast : mmT := fun as M Q => match as with
  | [.inr (.inr o)] => isQ o ∧ 0 < M o 4 ∧ Q none (mm_up M o 4 (M o 4 - 1))
  | _ => False
set_option maxHeartbeats 4000000 in
set_option maxRecDepth 100000 in
theorem p_Q_removeLast : ∀ as M Q, (∀ v ∈ as, mm_vin v) → mm_mem M → t_Q_removeLast as M Q → (mm_ent as).length ≤ 1 ∧ mm_ok mb_Q_removeLast [] (mm_entry 1 as) M Q := by
  intro as M Q hin hM h
  unfold t_Q_removeLast at h
  split at h
  rotate_left
  · exact h.elim
  rename_i o
  refine ⟨by simp [mm_ent], (show mm_ok mb_Q_removeLast [] [some (vr o)] M Q from ?_)⟩
  intro J hJ
  obtain ⟨ho, h1, h⟩ := h
  have ho := ho.1
  have := hM o 4
  repeat' first | (refine And.intro ?_ ?_) | (intro _) | (refine hJ 0 _ _ _ ?_; show mm_wp _ _ _ mo_Q_removeLast_0 _ _ _; simp only [mo_Q_removeLast_0, mm_wp, mm_ldi, mm_lda, mm_ldl, mm_sti, mm_sta, mm_stl, mm_inc, mm_2i, mm_mm, mm_2l, mm_lcmp, mm_i2l, mm_l2i, mm_cast8, mm_if1, mm_if2, mm_cmp, mm_swi, mm_sw, mm_pop1, mm_dup, mm_dup2, mm_geti, mm_geta, mm_puti, mm_iald, mm_bald, mm_aald, mm_iast, mm_bast, mm_alen, mm_acpy, mm_call, mm_callv, mm_recv, mm_pop, mm_find, mm_push, mm_cats, mm_cat, mm_reti, mm_retz, mm_retl, mm_reta, mm_retv, mm_set1, mm_set2, mm_kill, List.getElem?_cons_zero, List.getElem?_cons_succ, Int.reduceToNat, ↓reduceIte, Nat.reduceEqDiff, Nat.reduceDiv, Nat.reduceAdd, Nat.reduceLeDiff, Nat.zero_le, true_and, and_true, true_or, or_true, mm_b0, mm_b1, mm_lc_lt, mm_lc_le, mm_lc_gt, mm_lc_ge, mm_lc_eq, Int.not_lt, Int.not_le, Decidable.not_not, Int.sub_neg]) | (refine hJ 17 _ _ _ ?_; show mm_wp _ _ _ mo_Q_removeLast_17 _ _ _; simp only [mo_Q_removeLast_17, mm_wp, mm_ldi, mm_lda, mm_ldl, mm_sti, mm_sta, mm_stl, mm_inc, mm_2i, mm_mm, mm_2l, mm_lcmp, mm_i2l, mm_l2i, mm_cast8, mm_if1, mm_if2, mm_cmp, mm_swi, mm_sw, mm_pop1, mm_dup, mm_dup2, mm_geti, mm_geta, mm_puti, mm_iald, mm_bald, mm_aald, mm_iast, mm_bast, mm_alen, mm_acpy, mm_call, mm_callv, mm_recv, mm_pop, mm_find, mm_push, mm_cats, mm_cat, mm_reti, mm_retz, mm_retl, mm_reta, mm_retv, mm_set1, mm_set2, mm_kill, List.getElem?_cons_zero, List.getElem?_cons_succ, Int.reduceToNat, ↓reduceIte, Nat.reduceEqDiff, Nat.reduceDiv, Nat.reduceAdd, Nat.reduceLeDiff, Nat.zero_le, true_and, and_true, true_or, or_true, mm_b0, mm_b1, mm_lc_lt, mm_lc_le, mm_lc_gt, mm_lc_ge, mm_lc_eq, Int.not_lt, Int.not_le, Decidable.not_not, Int.sub_neg])
  all_goals first | assumption | (exact Or.inl rfl) | (exact Or.inr rfl) | (exact rfl) | trivial | omega
def t_Q_isPlanned : mmT := fun as M Q => match as with
  | [.inr (.inr o), .inl q] => isQ o ∧ 0 ≤ q ∧ q < 25 ∧ Q (some (vi (mm_b (¬ M (o + 1) q = 2 ∧ ¬ M (o + 1) q = 3 ∧ ¬ M (o + 1) q = 6)))) M
  | _ => False
set_option maxHeartbeats 4000000 in
set_option maxRecDepth 100000 in
theorem p_Q_isPlanned : ∀ as M Q, (∀ v ∈ as, mm_vin v) → mm_mem M → t_Q_isPlanned as M Q → (mm_ent as).length ≤ 2 ∧ mm_ok mb_Q_isPlanned [(201, t_Q_isPlannedKind)] (mm_entry 2 as) M Q := by
  intro as M Q hin hM h
  unfold t_Q_isPlanned at h
  split at h
  rotate_left
  · exact h.elim
  rename_i o q
  have hR_q : mm_R q := hin (vi q) (by simp)
  refine ⟨by simp [mm_ent], (show mm_ok mb_Q_isPlanned [(201, t_Q_isPlannedKind)] [some (vr o), some (vi q)] M Q from ?_)⟩
  intro J hJ
  obtain ⟨⟨ho, o1, o2, o3, o4, l1, l2, l3, l4⟩, h1, h2, h⟩ := h
  refine hJ 0 _ _ _ (show mm_wp _ _ _ mo_Q_isPlanned_0 _ _ _ from ?_)
  simp only [mo_Q_isPlanned_0, mm_wp, mm_ldi, mm_lda, mm_ldl, mm_sti, mm_sta, mm_stl, mm_inc, mm_2i, mm_mm, mm_2l, mm_lcmp, mm_i2l, mm_l2i, mm_cast8, mm_if1, mm_if2, mm_cmp, mm_swi, mm_sw, mm_pop1, mm_dup, mm_dup2, mm_geti, mm_geta, mm_puti, mm_iald, mm_bald, mm_aald, mm_iast, mm_bast, mm_alen, mm_acpy, mm_call, mm_callv, mm_recv, mm_pop, mm_find, mm_push, mm_cats, mm_cat, mm_reti, mm_retz, mm_retl, mm_reta, mm_retv, mm_set1, mm_set2, mm_kill, List.getElem?_cons_zero, List.getElem?_cons_succ, Int.reduceToNat, ↓reduceIte, Nat.reduceEqDiff, Nat.reduceDiv, Nat.reduceAdd, Nat.reduceLeDiff, Nat.zero_le, true_and, and_true, true_or, or_true, mm_b0, mm_b1, mm_lc_lt, mm_lc_le, mm_lc_gt, mm_lc_ge, mm_lc_eq, Int.not_lt, Int.not_le, Decidable.not_not, Int.sub_neg, t_Q_isPlannedKind, ho, o1, l1]
  exact ⟨⟨h1, h2⟩, by omega, h⟩
/-- memory with one more question -/
def qAdd (M : mmM) (o : Nat) (k f l t : Int) : mmM := mm_up (mm_up (mm_up (mm_up (mm_up M (o + 1) (M o 4) k) (o + 2) (M o 4) f) (o + 3) (M o 4) l) (o + 4) (M o 4) t) o 4 (M o 4 + 1)
def t_Q_add : mmT := fun as M Q => match as with
  | [.inr (.inr o), .inl k, .inl f, .inl l, .inl t] => isQ o ∧ 0 ≤ M o 4 ∧ M o 4 ≤ 24 ∧ Q none (qAdd M o k f l t)
  | _ => False
set_option maxHeartbeats 4000000 in
set_option maxRecDepth 100000 in
theorem p_Q_add : ∀ as M Q, (∀ v ∈ as, mm_vin v) → mm_mem M → t_Q_add as M Q → (mm_ent as).length ≤ 5 ∧ mm_ok mb_Q_add [] (mm_entry 5 as) M Q := by
  intro as M Q hin hM h
  unfold t_Q_add at h
  split at h
  rotate_left
  · exact h.elim
  rename_i o k f l t
  have hR_k : mm_R k := hin (vi k) (by simp)
  have hR_f : mm_R f := hin (vi f) (by simp)
  have hR_l : mm_R l := hin (vi l) (by simp)
  have hR_t : mm_R t := hin (vi t) (by simp)
  refine ⟨by simp [mm_ent], (show mm_ok mb_Q_add [] [some (vr o), some (vi k), some (vi f), some (vi l), some (vi t)] M Q from ?_)⟩
  intro J hJ
  obtain ⟨⟨ho, o1, o2, o3, o4, l1, l2, l3, l4⟩, h1, h2, h⟩ := h
  have e : ∀ (M1 : mmM) (d : Nat) (i v : Int), 0 < d → mm_up M1 (o + d) i v o = M1 o := fun M1 d i v hd => mm_up_o _ _ (by omega)
  have e1 : ∀ (M1 : mmM) (i v : Int), mm_up M1 (o + 1) i v o = M1 o := fun M1 i v => e M1 1 i v (by omega)
  have e2 : ∀ (M1 : mmM) (i v : Int), mm_up M1 (o + 2) i v o = M1 o := fun M1 i v => e M1 2 i v (by omega)
  have e3 : ∀ (M1 : mmM) (i v : Int), mm_up M1 (o + 3) i v o = M1 o := fun M1 i v => e M1 3 i v (by omega)
  have e4 : ∀ (M1 : mmM) (i v : Int), mm_up M1 (o + 4) i v o = M1 o := fun M1 i v => e M1 4 i v (by omega)
  unfold qAdd at h
  repeat' first | (refine And.intro ?_ ?_) | (intro _) | (refine hJ 0 _ _ _ ?_; show mm_wp _ _ _ mo_Q_add_0 _ _ _; simp only [mo_Q_add_0, mm_wp, mm_ldi, mm_lda, mm_ldl, mm_sti, mm_sta, mm_stl, mm_inc, mm_2i, mm_mm, mm_2l, mm_lcmp, mm_i2l, mm_l2i, mm_cast8, mm_if1, mm_if2, mm_cmp, mm_swi, mm_sw, mm_pop1, mm_dup, mm_dup2, mm_geti, mm_geta, mm_puti, mm_iald, mm_bald, mm_aald, mm_iast, mm_bast, mm_alen, mm_acpy, mm_call, mm_callv, mm_recv, mm_pop, mm_find, mm_push, mm_cats, mm_cat, mm_reti, mm_retz, mm_retl, mm_reta, mm_retv, mm_set1, mm_set2, mm_kill, List.getElem?_cons_zero, List.getElem?_cons_succ, Int.reduceToNat, ↓reduceIte, Nat.reduceEqDiff, Nat.reduceDiv, Nat.reduceAdd, Nat.reduceLeDiff, Nat.zero_le, true_and, and_true, true_or, or_true, mm_b0, mm_b1, mm_lc_lt, mm_lc_le, mm_lc_gt, mm_lc_ge, mm_lc_eq, Int.not_lt, Int.not_le, Decidable.not_not, Int.sub_neg, ho, o1, o2, o3, o4, l1, l2, l3, l4, e1, e2, e3, e4]) | (refine hJ 60 _ _ _ ?_; show mm_wp _ _ _ mo_Q_add_60 _ _ _; simp only [mo_Q_add_60, mm_wp, mm_ldi, mm_lda, mm_ldl, mm_sti, mm_sta, mm_stl, mm_inc, mm_2i, mm_mm, mm_2l, mm_lcmp, mm_i2l, mm_l2i, mm_cast8, mm_if1, mm_if2, mm_cmp, mm_swi, mm_sw, mm_pop1, mm_dup, mm_dup2, mm_geti, mm_geta, mm_puti, mm_iald, mm_bald, mm_aald, mm_iast, mm_bast, mm_alen, mm_acpy, mm_call, mm_callv, mm_recv, mm_pop, mm_find, mm_push, mm_cats, mm_cat, mm_reti, mm_retz, mm_retl, mm_reta, mm_retv, mm_set1, mm_set2, mm_kill, List.getElem?_cons_zero, List.getElem?_cons_succ, Int.reduceToNat, ↓reduceIte, Nat.reduceEqDiff, Nat.reduceDiv, Nat.reduceAdd, Nat.reduceLeDiff, Nat.zero_le, true_and, and_true, true_or, or_true, mm_b0, mm_b1, mm_lc_lt, mm_lc_le, mm_lc_gt, mm_lc_ge, mm_lc_eq, Int.not_lt, Int.not_le, Decidable.not_not, Int.sub_neg, ho, o1, o2, o3, o4, l1, l2, l3, l4, e1, e2, e3, e4])
  all_goals first | assumption | (exact Or.inl rfl) | (exact Or.inr rfl) | (exact rfl) | trivial | omega
/-- two questions are alike -/
def qAl (k f l t : Int → Int) (p q : Int) : Prop := k p = k q ∧ f p = f q ∧ l p = l q ∧ t p = t q
theorem qAl_symm {k f l t : Int → Int} {p q : Int} : qAl k f l t p q ↔ qAl k f l t q p := by
  unfold qAl
  constructor <;> (rintro ⟨a, b, c, d⟩; exact ⟨a.symm, b.symm, c.symm, d.symm⟩)
def t_Q_areAlike : mmT := fun as M Q => match as with
  | [.inr (.inr o), .inl q, .inl r] => isQ o ∧ 0 ≤ q ∧ q < 25 ∧ 0 ≤ r ∧ r < 25 ∧ Q (some (vi (mm_c (qAl (M (o + 1)) (M (o + 2)) (M (o + 3)) (M (o + 4)) q r)))) M
  | _ => False
set_option maxHeartbeats 4000000 in
set_option maxRecDepth 100000 in
theorem p_Q_areAlike : ∀ as M Q, (∀ v ∈ as, mm_vin v) → mm_mem M → t_Q_areAlike as M Q → (mm_ent as).length ≤ 3 ∧ mm_ok mb_Q_areAlike [] (mm_entry 3 as) M Q := by
  intro as M Q hin hM h
  unfold t_Q_areAlike at h
  split at h
  rotate_left
  · exact h.elim
  rename_i o q r
  have hR_q : mm_R q := hin (vi q) (by simp)
  have hR_r : mm_R r := hin (vi r) (by simp)
  refine ⟨by simp [mm_ent], (show mm_ok mb_Q_areAlike [] [some (vr o), some (vi q), some (vi r)] M Q from ?_)⟩
  intro J hJ
  obtain ⟨⟨ho, o1, o2, o3, o4, l1, l2, l3, l4⟩, h1, h2, h3, h4, h⟩ := h
  repeat' first | (refine And.intro ?_ ?_) | (intro _) | (refine hJ 0 _ _ _ ?_; show mm_wp _ _ _ mo_Q_areAlike_0 _ _ _; simp only [mo_Q_areAlike_0, mm_wp, mm_ldi, mm_lda, mm_ldl, mm_sti, mm_sta, mm_stl, mm_inc, mm_2i, mm_mm, mm_2l, mm_lcmp, mm_i2l, mm_l2i, mm_cast8, mm_if1, mm_if2, mm_cmp, mm_swi, mm_sw, mm_pop1, mm_dup, mm_dup2, mm_geti, mm_geta, mm_puti, mm_iald, mm_bald, mm_aald, mm_iast, mm_bast, mm_alen, mm_acpy, mm_call, mm_callv, mm_recv, mm_pop, mm_find, mm_push, mm_cats, mm_cat, mm_reti, mm_retz, mm_retl, mm_reta, mm_retv, mm_set1, mm_set2, mm_kill, List.getElem?_cons_zero, List.getElem?_cons_succ, Int.reduceToNat, ↓reduceIte, Nat.reduceEqDiff, Nat.reduceDiv, Nat.reduceAdd, Nat.reduceLeDiff, Nat.zero_le, true_and, and_true, true_or, or_true, mm_b0, mm_b1, mm_lc_lt, mm_lc_le, mm_lc_gt, mm_lc_ge, mm_lc_eq, Int.not_lt, Int.not_le, Decidable.not_not, Int.sub_neg, ho, o1, o2, o3, o4, l1, l2, l3, l4]) | (refine hJ 64 _ _ _ ?_; show mm_wp _ _ _ mo_Q_areAlike_64 _ _ _; simp only [mo_Q_areAlike_64, mm_wp, mm_ldi, mm_lda, mm_ldl, mm_sti, mm_sta, mm_stl, mm_inc, mm_2i, mm_mm, mm_2l, mm_lcmp, mm_i2l, mm_l2i, mm_cast8, mm_if1, mm_if2, mm_cmp, mm_swi, mm_sw, mm_pop1, mm_dup, mm_dup2, mm_geti, mm_geta, mm_puti, mm_iald, mm_bald, mm_aald, mm_iast, mm_bast, mm_alen, mm_acpy, mm_call, mm_callv, mm_recv, mm_pop, mm_find, mm_push, mm_cats, mm_cat, mm_reti, mm_retz, mm_retl, mm_reta, mm_retv, mm_set1, mm_set2, mm_kill, List.getElem?_cons_zero, List.getElem?_cons_succ, Int.reduceToNat, ↓reduceIte, Nat.reduceEqDiff, Nat.reduceDiv, Nat.reduceAdd, Nat.reduceLeDiff, Nat.zero_le, true_and, and_true, true_or, or_true, mm_b0, mm_b1, mm_lc_lt, mm_lc_le, mm_lc_gt, mm_lc_ge, mm_lc_eq, Int.not_lt, Int.not_le, Decidable.not_not, Int.sub_neg, ho, o1, o2, o3, o4, l1, l2, l3, l4]) | (refine hJ 65 _ _ _ ?_; show mm_wp _ _ _ mo_Q_areAlike_65 _ _ _; simp only [mo_Q_areAlike_65, mm_wp, mm_ldi, mm_lda, mm_ldl, mm_sti, mm_sta, mm_stl, mm_inc, mm_2i, mm_mm, mm_2l, mm_lcmp, mm_i2l, mm_l2i, mm_cast8, mm_if1, mm_if2, mm_cmp, mm_swi, mm_sw, mm_pop1, mm_dup, mm_dup2, mm_geti, mm_geta, mm_puti, mm_iald, mm_bald, mm_aald, mm_iast, mm_bast, mm_alen, mm_acpy, mm_call, mm_callv, mm_recv, mm_pop, mm_find, mm_push, mm_cats, mm_cat, mm_reti, mm_retz, mm_retl, mm_reta, mm_retv, mm_set1, mm_set2, mm_kill, List.getElem?_cons_zero, List.getElem?_cons_succ, Int.reduceToNat, ↓reduceIte, Nat.reduceEqDiff, Nat.reduceDiv, Nat.reduceAdd, Nat.reduceLeDiff, Nat.zero_le, true_and, and_true, true_or, or_true, mm_b0, mm_b1, mm_lc_lt, mm_lc_le, mm_lc_gt, mm_lc_ge, mm_lc_eq, Int.not_lt, Int.not_le, Decidable.not_not, Int.sub_neg, ho, o1, o2, o3, o4, l1, l2, l3, l4])
  all_goals first | assumption | (exact Or.inl rfl) | (exact Or.inr rfl) | (exact rfl) | trivial | omega | (rw [mm_cF (by unfold qAl; omega)] at h; exact h) | (rw [mm_cT (by unfold qAl; omega)] at h; exact h)
/-- r is the first that is like q -/
def qFi (k f l t : Int → Int) (q r : Int) : Prop := 0 ≤ r ∧ r ≤ q ∧ qAl k f l t q r ∧ ∀ r', 0 ≤ r' → r' < r → ¬ qAl k f l t q r'
theorem mm_c0 (P : Prop) : mm_c P = 0 ↔ ¬ P := by
  by_cases h : P
  · rw [mm_cT h]; simp [h]
  · rw [mm_cF h]; simp [h]
def t_Q_firstAlike : mmT := fun as M Q => match as with
  | [.inr (.inr o), .inl q] => isQ o ∧ 0 ≤ q ∧ q < 25 ∧ ∀ r, qFi (M (o + 1)) (M (o + 2)) (M (o + 3)) (M (o + 4)) q r → Q (some (vi r)) M
  | _ => False
set_option maxHeartbeats 4000000 in
set_option maxRecDepth 100000 in
theorem p_Q_firstAlike : ∀ as M Q, (∀ v ∈ as, mm_vin v) → mm_mem M → t_Q_firstAlike as M Q → (mm_ent as).length ≤ 3 ∧ mm_ok mb_Q_firstAlike [(207, t_Q_areAlike)] (mm_entry 3 as) M Q := by
  intro as M Q hin hM h
  unfold t_Q_firstAlike at h
  split at h
  rotate_left
  · exact h.elim
  rename_i o q
  have hR_q : mm_R q := hin (vi q) (by simp)
  refine ⟨by simp [mm_ent], (show mm_ok mb_Q_firstAlike [(207, t_Q_areAlike)] [some (vr o), some (vi q), none] M Q from ?_)⟩
  intro J hJ
  obtain ⟨hq, h1, h2, h⟩ := h
  have ho : mm_cls o = 2 := hq.1
  have h24 : ∀ x, (∀ r', 0 ≤ r' → r' < q → ¬ qAl (M (o + 1)) (M (o + 2)) (M (o + 3)) (M (o + 4)) q r') → J 24 [some (vr o), some (vi q), some (vi x)] [] M := by
    intro x hx
    refine hJ 24 _ _ _ (show mm_wp _ _ _ mo_Q_firstAlike_24 _ _ _ from ?_)
    simp only [mo_Q_firstAlike_24, mm_wp, mm_ldi, mm_lda, mm_ldl, mm_sti, mm_sta, mm_stl, mm_inc, mm_2i, mm_mm, mm_2l, mm_lcmp, mm_i2l, mm_l2i, mm_cast8, mm_if1, mm_if2, mm_cmp, mm_swi, mm_sw, mm_pop1, mm_dup, mm_dup2, mm_geti, mm_geta, mm_puti, mm_iald, mm_bald, mm_aald, mm_iast, mm_bast, mm_alen, mm_acpy, mm_call, mm_callv, mm_recv, mm_pop, mm_find, mm_push, mm_cats, mm_cat, mm_reti, mm_retz, mm_retl, mm_reta, mm_retv, mm_set1, mm_set2, mm_kill, List.getElem?_cons_zero, List.getElem?_cons_succ, Int.reduceToNat, ↓reduceIte, Nat.reduceEqDiff, Nat.reduceDiv, Nat.reduceAdd, Nat.reduceLeDiff, Nat.zero_le, true_and, and_true, true_or, or_true, mm_b0, mm_b1, mm_lc_lt, mm_lc_le, mm_lc_gt, mm_lc_ge, mm_lc_eq, Int.not_lt, Int.not_le, Decidable.not_not, Int.sub_neg]
    exact h q ⟨h1, Int.le_refl q, ⟨rfl, rfl, rfl, rfl⟩, hx⟩
  have hl : ∀ (d : Nat) (i : Int), 0 ≤ i → i ≤ q → (q - i).toNat = d → (∀ r', 0 ≤ r' → r' < i → ¬ qAl (M (o + 1)) (M (o + 2)) (M (o + 3)) (M (o + 4)) q r') → J 2 [some (vr o), some (vi q), some (vi i)] [] M := by
    intro d
    induction d with
    | zero =>
      intro i i0 i1 i2 hx
      refine hJ 2 _ _ _ (show mm_wp _ _ _ mo_Q_firstAlike_2 _ _ _ from ?_)
      simp only [mo_Q_firstAlike_2, mm_wp, mm_ldi, mm_lda, mm_ldl, mm_sti, mm_sta, mm_stl, mm_inc, mm_2i, mm_mm, mm_2l, mm_lcmp, mm_i2l, mm_l2i, mm_cast8, mm_if1, mm_if2, mm_cmp, mm_swi, mm_sw, mm_pop1, mm_dup, mm_dup2, mm_geti, mm_geta, mm_puti, mm_iald, mm_bald, mm_aald, mm_iast, mm_bast, mm_alen, mm_acpy, mm_call, mm_callv, mm_recv, mm_pop, mm_find, mm_push, mm_cats, mm_cat, mm_reti, mm_retz, mm_retl, mm_reta, mm_retv, mm_set1, mm_set2, mm_kill, List.getElem?_cons_zero, List.getElem?_cons_succ, Int.reduceToNat, ↓reduceIte, Nat.reduceEqDiff, Nat.reduceDiv, Nat.reduceAdd, Nat.reduceLeDiff, Nat.zero_le, true_and, and_true, true_or, or_true, mm_b0, mm_b1, mm_lc_lt, mm_lc_le, mm_lc_gt, mm_lc_ge, mm_lc_eq, Int.not_lt, Int.not_le, Decidable.not_not, Int.sub_neg]
      exact ⟨fun _ => h24 _ (fun r' a b => hx r' a (by omega)), fun q2 => by omega⟩
    | succ d ih =>
      intro i i0 i1 i2 hx
      have h18 : ¬ qAl (M (o + 1)) (M (o + 2)) (M (o + 3)) (M (o + 4)) q i → J 18 [some (vr o), some (vi q), some (vi i)] [] M := by
        intro hn
        refine hJ 18 _ _ _ (show mm_wp _ _ _ mo_Q_firstAlike_18 _ _ _ from ?_)
        simp only [mo_Q_firstAlike_18, mm_wp, mm_ldi, mm_lda, mm_ldl, mm_sti, mm_sta, mm_stl, mm_inc, mm_2i, mm_mm, mm_2l, mm_lcmp, mm_i2l, mm_l2i, mm_cast8, mm_if1, mm_if2, mm_cmp, mm_swi, mm_sw, mm_pop1, mm_dup, mm_dup2, mm_geti, mm_geta, mm_puti, mm_iald, mm_bald, mm_aald, mm_iast, mm_bast, mm_alen, mm_acpy, mm_call, mm_callv, mm_recv, mm_pop, mm_find, mm_push, mm_cats, mm_cat, mm_reti, mm_retz, mm_retl, mm_reta, mm_retv, mm_set1, mm_set2, mm_kill, List.getElem?_cons_zero, List.getElem?_cons_succ, Int.reduceToNat, ↓reduceIte, Nat.reduceEqDiff, Nat.reduceDiv, Nat.reduceAdd, Nat.reduceLeDiff, Nat.zero_le, true_and, and_true, true_or, or_true, mm_b0, mm_b1, mm_lc_lt, mm_lc_le, mm_lc_gt, mm_lc_ge, mm_lc_eq, Int.not_lt, Int.not_le, Decidable.not_not, Int.sub_neg]
        refine ⟨by omega, ih (i + 1) (by omega) (by omega) (by omega) (fun r' a b => ?_)⟩
        by_cases hr : r' = i
        · rw [hr]; exact hn
        · exact hx r' a (by omega)
      refine hJ 2 _ _ _ (show mm_wp _ _ _ mo_Q_firstAlike_2 _ _ _ from ?_)
      simp only [mo_Q_firstAlike_2, mm_wp, mm_ldi, mm_lda, mm_ldl, mm_sti, mm_sta, mm_stl, mm_inc, mm_2i, mm_mm, mm_2l, mm_lcmp, mm_i2l, mm_l2i, mm_cast8, mm_if1, mm_if2, mm_cmp, mm_swi, mm_sw, mm_pop1, mm_dup, mm_dup2, mm_geti, mm_geta, mm_puti, mm_iald, mm_bald, mm_aald, mm_iast, mm_bast, mm_alen, mm_acpy, mm_call, mm_callv, mm_recv, mm_pop, mm_find, mm_push, mm_cats, mm_cat, mm_reti, mm_retz, mm_retl, mm_reta, mm_retv, mm_set1, mm_set2, mm_kill, List.getElem?_cons_zero, List.getElem?_cons_succ, Int.reduceToNat, ↓reduceIte, Nat.reduceEqDiff, Nat.reduceDiv, Nat.reduceAdd, Nat.reduceLeDiff, Nat.zero_le, true_and, and_true, true_or, or_true, mm_b0, mm_b1, mm_lc_lt, mm_lc_le, mm_lc_gt, mm_lc_ge, mm_lc_eq, Int.not_lt, Int.not_le, Decidable.not_not, Int.sub_neg, t_Q_areAlike, ho, mm_c0]
      refine ⟨fun q2 => by omega, fun _ => ⟨hq, by omega, by omega, by omega, by omega, h18, fun hc => h i ⟨i0, i1, Classical.not_not.mp hc, hx⟩⟩⟩
  refine hJ 0 _ _ _ (show mm_wp _ _ _ mo_Q_firstAlike_0 _ _ _ from ?_)
  simp only [mo_Q_firstAlike_0, mm_wp, mm_ldi, mm_lda, mm_ldl, mm_sti, mm_sta, mm_stl, mm_inc, mm_2i, mm_mm, mm_2l, mm_lcmp, mm_i2l, mm_l2i, mm_cast8, mm_if1, mm_if2, mm_cmp, mm_swi, mm_sw, mm_pop1, mm_dup, mm_dup2, mm_geti, mm_geta, mm_puti, mm_iald, mm_bald, mm_aald, mm_iast, mm_bast, mm_alen, mm_acpy, mm_call, mm_callv, mm_recv, mm_pop, mm_find, mm_push, mm_cats, mm_cat, mm_reti, mm_retz, mm_retl, mm_reta, mm_retv, mm_set1, mm_set2, mm_kill, List.getElem?_cons_zero, List.getElem?_cons_succ, Int.reduceToNat, ↓reduceIte, Nat.reduceEqDiff, Nat.reduceDiv, Nat.reduceAdd, Nat.reduceLeDiff, Nat.zero_le, true_and, and_true, true_or, or_true, mm_b0, mm_b1, mm_lc_lt, mm_lc_le, mm_lc_gt, mm_lc_ge, mm_lc_eq, Int.not_lt, Int.not_le, Decidable.not_not, Int.sub_neg]
  exact hl _ 0 (by omega) h1 rfl (fun r' a b => by omega)
def t_Q_howManyAlike : mmT := fun as M Q => match as with
  | [.inr (.inr o), .inl q] => isQ o ∧ 0 ≤ q ∧ q < 25 ∧ 0 ≤ M o 4 ∧ M o 4 ≤ 25 ∧ Q (some (vi (sN (fun r => mm_c (qAl (M (o + 1)) (M (o + 2)) (M (o + 3)) (M (o + 4)) q r)) (M o 4).toNat))) M
  | _ => False
set_option maxHeartbeats 4000000 in
set_option maxRecDepth 100000 in
theorem p_Q_howManyAlike : ∀ as M Q, (∀ v ∈ as, mm_vin v) → mm_mem M → t_Q_howManyAlike as M Q → (mm_ent as).length ≤ 4 ∧ mm_ok mb_Q_howManyAlike [(207, t_Q_areAlike)] (mm_entry 4 as) M Q := by
  intro as M Q hin hM h
  unfold t_Q_howManyAlike at h
  split at h
  rotate_left
  · exact h.elim
  rename_i o q
  have hR_q : mm_R q := hin (vi q) (by simp)
  refine ⟨by simp [mm_ent], (show mm_ok mb_Q_howManyAlike [(207, t_Q_areAlike)] [some (vr o), some (vi q), none, none] M Q from ?_)⟩
  intro J hJ
  obtain ⟨hq, h1, h2, h3, h4, h⟩ := h
  have ho : mm_cls o = 2 := hq.1
  generalize hf : (fun r => mm_c (qAl (M (o + 1)) (M (o + 2)) (M (o + 3)) (M (o + 4)) q r)) = f at h
  have hfv : ∀ r, f r = mm_c (qAl (M (o + 1)) (M (o + 2)) (M (o + 3)) (M (o + 4)) q r) := fun r => by rw [← hf]
  have hb : ∀ n : Nat, 0 ≤ sN f n ∧ sN f n ≤ n := fun n => by
    have := sN_b (f := f) (a := 0) (b := 1) n (fun k _ => by rw [hfv]; exact mm_c01 _)
    omega
  have hl : ∀ (d k : Nat), k + d = (M o 4).toNat → J 4 [some (vr o), some (vi q), some (vi (sN f k)), some (vi k)] [] M := by
    intro d
    induction d with
    | zero =>
      intro k hk
      have h30 : J 30 [some (vr o), some (vi q), some (vi (sN f k)), some (vi k)] [] M := by
        refine hJ 30 _ _ _ (show mm_wp _ _ _ mo_Q_howManyAlike_30 _ _ _ from ?_)
        simp only [mo_Q_howManyAlike_30, mm_wp, mm_ldi, mm_lda, mm_ldl, mm_sti, mm_sta, mm_stl, mm_inc, mm_2i, mm_mm, mm_2l, mm_lcmp, mm_i2l, mm_l2i, mm_cast8, mm_if1, mm_if2, mm_cmp, mm_swi, mm_sw, mm_pop1, mm_dup, mm_dup2, mm_geti, mm_geta, mm_puti, mm_iald, mm_bald, mm_aald, mm_iast, mm_bast, mm_alen, mm_acpy, mm_call, mm_callv, mm_recv, mm_pop, mm_find, mm_push, mm_cats, mm_cat, mm_reti, mm_retz, mm_retl, mm_reta, mm_retv, mm_set1, mm_set2, mm_kill, List.getElem?_cons_zero, List.getElem?_cons_succ, Int.reduceToNat, ↓reduceIte, Nat.reduceEqDiff, Nat.reduceDiv, Nat.reduceAdd, Nat.reduceLeDiff, Nat.zero_le, true_and, and_true, true_or, or_true, mm_b0, mm_b1, mm_lc_lt, mm_lc_le, mm_lc_gt, mm_lc_ge, mm_lc_eq, Int.not_lt, Int.not_le, Decidable.not_not, Int.sub_neg]
        rw [show k = (M o 4).toNat by omega]
        exact h
      refine hJ 4 _ _ _ (show mm_wp _ _ _ mo_Q_howManyAlike_4 _ _ _ from ?_)
      simp only [mo_Q_howManyAlike_4, mm_wp, mm_ldi, mm_lda, mm_ldl, mm_sti, mm_sta, mm_stl, mm_inc, mm_2i, mm_mm, mm_2l, mm_lcmp, mm_i2l, mm_l2i, mm_cast8, mm_if1, mm_if2, mm_cmp, mm_swi, mm_sw, mm_pop1, mm_dup, mm_dup2, mm_geti, mm_geta, mm_puti, mm_iald, mm_bald, mm_aald, mm_iast, mm_bast, mm_alen, mm_acpy, mm_call, mm_callv, mm_recv, mm_pop, mm_find, mm_push, mm_cats, mm_cat, mm_reti, mm_retz, mm_retl, mm_reta, mm_retv, mm_set1, mm_set2, mm_kill, List.getElem?_cons_zero, List.getElem?_cons_succ, Int.reduceToNat, ↓reduceIte, Nat.reduceEqDiff, Nat.reduceDiv, Nat.reduceAdd, Nat.reduceLeDiff, Nat.zero_le, true_and, and_true, true_or, or_true, mm_b0, mm_b1, mm_lc_lt, mm_lc_le, mm_lc_gt, mm_lc_ge, mm_lc_eq, Int.not_lt, Int.not_le, Decidable.not_not, Int.sub_neg, ho]
      exact ⟨fun _ => h30, fun q2 => by omega⟩
    | succ d ih =>
      intro k hk
      have hk1 := hb k
      have h24 : ∀ z, z = sN f (k + 1) → J 24 [some (vr o), some (vi q), some (vi z), some (vi k)] [] M := by
        intro z hz
        refine hJ 24 _ _ _ (show mm_wp _ _ _ mo_Q_howManyAlike_24 _ _ _ from ?_)
        simp only [mo_Q_howManyAlike_24, mm_wp, mm_ldi, mm_lda, mm_ldl, mm_sti, mm_sta, mm_stl, mm_inc, mm_2i, mm_mm, mm_2l, mm_lcmp, mm_i2l, mm_l2i, mm_cast8, mm_if1, mm_if2, mm_cmp, mm_swi, mm_sw, mm_pop1, mm_dup, mm_dup2, mm_geti, mm_geta, mm_puti, mm_iald, mm_bald, mm_aald, mm_iast, mm_bast, mm_alen, mm_acpy, mm_call, mm_callv, mm_recv, mm_pop, mm_find, mm_push, mm_cats, mm_cat, mm_reti, mm_retz, mm_retl, mm_reta, mm_retv, mm_set1, mm_set2, mm_kill, List.getElem?_cons_zero, List.getElem?_cons_succ, Int.reduceToNat, ↓reduceIte, Nat.reduceEqDiff, Nat.reduceDiv, Nat.reduceAdd, Nat.reduceLeDiff, Nat.zero_le, true_and, and_true, true_or, or_true, mm_b0, mm_b1, mm_lc_lt, mm_lc_le, mm_lc_gt, mm_lc_ge, mm_lc_eq, Int.not_lt, Int.not_le, Decidable.not_not, Int.sub_neg]
        refine ⟨by omega, ?_⟩
        rw [hz]
        exact ih (k + 1) (by omega)
      refine hJ 4 _ _ _ (show mm_wp _ _ _ mo_Q_howManyAlike_4 _ _ _ from ?_)
      simp only [mo_Q_howManyAlike_4, mm_wp, mm_ldi, mm_lda, mm_ldl, mm_sti, mm_sta, mm_stl, mm_inc, mm_2i, mm_mm, mm_2l, mm_lcmp, mm_i2l, mm_l2i, mm_cast8, mm_if1, mm_if2, mm_cmp, mm_swi, mm_sw, mm_pop1, mm_dup, mm_dup2, mm_geti, mm_geta, mm_puti, mm_iald, mm_bald, mm_aald, mm_iast, mm_bast, mm_alen, mm_acpy, mm_call, mm_callv, mm_recv, mm_pop, mm_find, mm_push, mm_cats, mm_cat, mm_reti, mm_retz, mm_retl, mm_reta, mm_retv, mm_set1, mm_set2, mm_kill, List.getElem?_cons_zero, List.getElem?_cons_succ, Int.reduceToNat, ↓reduceIte, Nat.reduceEqDiff, Nat.reduceDiv, Nat.reduceAdd, Nat.reduceLeDiff, Nat.zero_le, true_and, and_true, true_or, or_true, mm_b0, mm_b1, mm_lc_lt, mm_lc_le, mm_lc_gt, mm_lc_ge, mm_lc_eq, Int.not_lt, Int.not_le, Decidable.not_not, Int.sub_neg, t_Q_areAlike, ho, mm_c0]
      refine ⟨fun q2 => by omega, fun _ => ⟨hq, by omega, by omega, by omega, by omega, fun hn => h24 _ ?_, fun hn => ⟨by omega, h24 _ ?_⟩⟩⟩
      · show _ = sN f k + f k
        rw [hfv, mm_cF hn]; omega
      · show _ = sN f k + f k
        rw [hfv, mm_cT (Classical.not_not.mp hn)]
  refine hJ 0 _ _ _ (show mm_wp _ _ _ mo_Q_howManyAlike_0 _ _ _ from ?_)
  simp only [mo_Q_howManyAlike_0, mm_wp, mm_ldi, mm_lda, mm_ldl, mm_sti, mm_sta, mm_stl, mm_inc, mm_2i, mm_mm, mm_2l, mm_lcmp, mm_i2l, mm_l2i, mm_cast8, mm_if1, mm_if2, mm_cmp, mm_swi, mm_sw, mm_pop1, mm_dup, mm_dup2, mm_geti, mm_geta, mm_puti, mm_iald, mm_bald, mm_aald, mm_iast, mm_bast, mm_alen, mm_acpy, mm_call, mm_callv, mm_recv, mm_pop, mm_find, mm_push, mm_cats, mm_cat, mm_reti, mm_retz, mm_retl, mm_reta, mm_retv, mm_set1, mm_set2, mm_kill, List.getElem?_cons_zero, List.getElem?_cons_succ, Int.reduceToNat, ↓reduceIte, Nat.reduceEqDiff, Nat.reduceDiv, Nat.reduceAdd, Nat.reduceLeDiff, Nat.zero_le, true_and, and_true, true_or, or_true, mm_b0, mm_b1, mm_lc_lt, mm_lc_le, mm_lc_gt, mm_lc_ge, mm_lc_eq, Int.not_lt, Int.not_le, Decidable.not_not, Int.sub_neg]
  exact hl _ 0 (Nat.zero_add _)
def t_Q_unlikeOnes : mmT := fun as M Q => match as with
  | [.inr (.inr o)] => isQ o ∧ 0 ≤ M o 4 ∧ M o 4 ≤ 25 ∧ Q (some (vi (sN (fun q => mm_c (qFi (M (o + 1)) (M (o + 2)) (M (o + 3)) (M (o + 4)) q q)) (M o 4).toNat))) M
  | _ => False
theorem qFi_uniq {k f l t : Int → Int} {q r r' : Int} (h : qFi k f l t q r) (h' : qFi k f l t q r') : r = r' := by
  obtain ⟨a1, a2, a3, a4⟩ := h
  obtain ⟨b1, b2, b3, b4⟩ := h'
  rcases Int.lt_trichotomy r r' with c | c | c
  · exact absurd a3 (b4 r a1 c)
  · exact c
  · exact absurd b3 (a4 r' b1 c)
set_option maxHeartbeats 4000000 in
set_option maxRecDepth 100000 in
theorem p_Q_unlikeOnes : ∀ as M Q, (∀ v ∈ as, mm_vin v) → mm_mem M → t_Q_unlikeOnes as M Q → (mm_ent as).length ≤ 3 ∧ mm_ok mb_Q_unlikeOnes [(208, t_Q_firstAlike)] (mm_entry 3 as) M Q := by
  intro as M Q hin hM h
  unfold t_Q_unlikeOnes at h
  split at h
  rotate_left
  · exact h.elim
  rename_i o
  refine ⟨by simp [mm_ent], (show mm_ok mb_Q_unlikeOnes [(208, t_Q_firstAlike)] [some (vr o), none, none] M Q from ?_)⟩
  intro J hJ
  obtain ⟨hq, h3, h4, h⟩ := h
  have ho : mm_cls o = 2 := hq.1
  generalize hf : (fun q => mm_c (qFi (M (o + 1)) (M (o + 2)) (M (o + 3)) (M (o + 4)) q q)) = f at h
  have hfv : ∀ r, f r = mm_c (qFi (M (o + 1)) (M (o + 2)) (M (o + 3)) (M (o + 4)) r r) := fun r => by rw [← hf]
  have hb : ∀ n : Nat, 0 ≤ sN f n ∧ sN f n ≤ n := fun n => by
    have := sN_b (f := f) (a := 0) (b := 1) n (fun k _ => by rw [hfv]; exact mm_c01 _)
    omega
  have hl : ∀ (d k : Nat), k + d = (M o 4).toNat → J 4 [some (vr o), some (vi (sN f k)), some (vi k)] [] M := by
    intro d
    induction d with
    | zero =>
      intro k hk
      have h30 : J 30 [some (vr o), some (vi (sN f k)), some (vi k)] [] M := by
        refine hJ 30 _ _ _ (show mm_wp _ _ _ mo_Q_unlikeOnes_30 _ _ _ from ?_)
        simp only [mo_Q_unlikeOnes_30, mm_wp, mm_ldi, mm_lda, mm_ldl, mm_sti, mm_sta, mm_stl, mm_inc, mm_2i, mm_mm, mm_2l, mm_lcmp, mm_i2l, mm_l2i, mm_cast8, mm_if1, mm_if2, mm_cmp, mm_swi, mm_sw, mm_pop1, mm_dup, mm_dup2, mm_geti, mm_geta, mm_puti, mm_iald, mm_bald, mm_aald, mm_iast, mm_bast, mm_alen, mm_acpy, mm_call, mm_callv, mm_recv, mm_pop, mm_find, mm_push, mm_cats, mm_cat, mm_reti, mm_retz, mm_retl, mm_reta, mm_retv, mm_set1, mm_set2, mm_kill, List.getElem?_cons_zero, List.getElem?_cons_succ, Int.reduceToNat, ↓reduceIte, Nat.reduceEqDiff, Nat.reduceDiv, Nat.reduceAdd, Nat.reduceLeDiff, Nat.zero_le, true_and, and_true, true_or, or_true, mm_b0, mm_b1, mm_lc_lt, mm_lc_le, mm_lc_gt, mm_lc_ge, mm_lc_eq, Int.not_lt, Int.not_le, Decidable.not_not, Int.sub_neg]
        rw [show k = (M o 4).toNat by omega]
        exact h
      refine hJ 4 _ _ _ (show mm_wp _ _ _ mo_Q_unlikeOnes_4 _ _ _ from ?_)
      simp only [mo_Q_unlikeOnes_4, mm_wp, mm_ldi, mm_lda, mm_ldl, mm_sti, mm_sta, mm_stl, mm_inc, mm_2i, mm_mm, mm_2l, mm_lcmp, mm_i2l, mm_l2i, mm_cast8, mm_if1, mm_if2, mm_cmp, mm_swi, mm_sw, mm_pop1, mm_dup, mm_dup2, mm_geti, mm_geta, mm_puti, mm_iald, mm_bald, mm_aald, mm_iast, mm_bast, mm_alen, mm_acpy, mm_call, mm_callv, mm_recv, mm_pop, mm_find, mm_push, mm_cats, mm_cat, mm_reti, mm_retz, mm_retl, mm_reta, mm_retv, mm_set1, mm_set2, mm_kill, List.getElem?_cons_zero, List.getElem?_cons_succ, Int.reduceToNat, ↓reduceIte, Nat.reduceEqDiff, Nat.reduceDiv, Nat.reduceAdd, Nat.reduceLeDiff, Nat.zero_le, true_and, and_true, true_or, or_true, mm_b0, mm_b1, mm_lc_lt, mm_lc_le, mm_lc_gt, mm_lc_ge, mm_lc_eq, Int.not_lt, Int.not_le, Decidable.not_not, Int.sub_neg, ho]
      exact ⟨fun _ => h30, fun q2 => by omega⟩
    | succ d ih =>
      intro k hk
      have hk1 := hb k
      have h24 : ∀ z, z = sN f (k + 1) → J 24 [some (vr o), some (vi z), some (vi k)] [] M := by
        intro z hz
        refine hJ 24 _ _ _ (show mm_wp _ _ _ mo_Q_unlikeOnes_24 _ _ _ from ?_)
        simp only [mo_Q_unlikeOnes_24, mm_wp, mm_ldi, mm_lda, mm_ldl, mm_sti, mm_sta, mm_stl, mm_inc, mm_2i, mm_mm, mm_2l, mm_lcmp, mm_i2l, mm_l2i, mm_cast8, mm_if1, mm_if2, mm_cmp, mm_swi, mm_sw, mm_pop1, mm_dup, mm_dup2, mm_geti, mm_geta, mm_puti, mm_iald, mm_bald, mm_aald, mm_iast, mm_bast, mm_alen, mm_acpy, mm_call, mm_callv, mm_recv, mm_pop, mm_find, mm_push, mm_cats, mm_cat, mm_reti, mm_retz, mm_retl, mm_reta, mm_retv, mm_set1, mm_set2, mm_kill, List.getElem?_cons_zero, List.getElem?_cons_succ, Int.reduceToNat, ↓reduceIte, Nat.reduceEqDiff, Nat.reduceDiv, Nat.reduceAdd, Nat.reduceLeDiff, Nat.zero_le, true_and, and_true, true_or, or_true, mm_b0, mm_b1, mm_lc_lt, mm_lc_le, mm_lc_gt, mm_lc_ge, mm_lc_eq, Int.not_lt, Int.not_le, Decidable.not_not, Int.sub_neg]
        refine ⟨by omega, ?_⟩
        rw [hz]
        exact ih (k + 1) (by omega)
      refine hJ 4 _ _ _ (show mm_wp _ _ _ mo_Q_unlikeOnes_4 _ _ _ from ?_)
      simp only [mo_Q_unlikeOnes_4, mm_wp, mm_ldi, mm_lda, mm_ldl, mm_sti, mm_sta, mm_stl, mm_inc, mm_2i, mm_mm, mm_2l, mm_lcmp, mm_i2l, mm_l2i, mm_cast8, mm_if1, mm_if2, mm_cmp, mm_swi, mm_sw, mm_pop1, mm_dup, mm_dup2, mm_geti, mm_geta, mm_puti, mm_iald, mm_bald, mm_aald, mm_iast, mm_bast, mm_alen, mm_acpy, mm_call, mm_callv, mm_recv, mm_pop, mm_find, mm_push, mm_cats, mm_cat, mm_reti, mm_retz, mm_retl, mm_reta, mm_retv, mm_set1, mm_set2, mm_kill, List.getElem?_cons_zero, List.getElem?_cons_succ, Int.reduceToNat, ↓reduceIte, Nat.reduceEqDiff, Nat.reduceDiv, Nat.reduceAdd, Nat.reduceLeDiff, Nat.zero_le, true_and, and_true, true_or, or_true, mm_b0, mm_b1, mm_lc_lt, mm_lc_le, mm_lc_gt, mm_lc_ge, mm_lc_eq, Int.not_lt, Int.not_le, Decidable.not_not, Int.sub_neg, t_Q_firstAlike, ho]
      refine ⟨fun q2 => by omega, fun _ => ⟨hq, by omega, by omega, fun r hr => ⟨fun hn => h24 _ ?_, fun hn => ⟨by omega, h24 _ ?_⟩⟩⟩⟩
      · show _ = sN f k + f k
        rw [hfv, mm_cF (fun z => hn (qFi_uniq hr z))]; omega
      · show _ = sN f k + f k
        rw [hfv, mm_cT (by rw [hn] at hr; exact hr)]
  refine hJ 0 _ _ _ (show mm_wp _ _ _ mo_Q_unlikeOnes_0 _ _ _ from ?_)
  simp only [mo_Q_unlikeOnes_0, mm_wp, mm_ldi, mm_lda, mm_ldl, mm_sti, mm_sta, mm_stl, mm_inc, mm_2i, mm_mm, mm_2l, mm_lcmp, mm_i2l, mm_l2i, mm_cast8, mm_if1, mm_if2, mm_cmp, mm_swi, mm_sw, mm_pop1, mm_dup, mm_dup2, mm_geti, mm_geta, mm_puti, mm_iald, mm_bald, mm_aald, mm_iast, mm_bast, mm_alen, mm_acpy, mm_call, mm_callv, mm_recv, mm_pop, mm_find, mm_push, mm_cats, mm_cat, mm_reti, mm_retz, mm_retl, mm_reta, mm_retv, mm_set1, mm_set2, mm_kill, List.getElem?_cons_zero, List.getElem?_cons_succ, Int.reduceToNat, ↓reduceIte, Nat.reduceEqDiff, Nat.reduceDiv, Nat.reduceAdd, Nat.reduceLeDiff, Nat.zero_le, true_and, and_true, true_or, or_true, mm_b0, mm_b1, mm_lc_lt, mm_lc_le, mm_lc_gt, mm_lc_ge, mm_lc_eq, Int.not_lt, Int.not_le, Decidable.not_not, Int.sub_neg]
  exact hl _ 0 (Nat.zero_add _)
def t_Q_howManyHave : mmT := fun as M Q => match as with
  | [.inr (.inr o), .inl i] => isQ o ∧ 0 ≤ M o 4 ∧ M o 4 ≤ 25 ∧ Q (some (vi (sN (fun q => mm_b (M (o + 2) q ≤ i ∧ i ≤ M (o + 3) q)) (M o 4).toNat))) M
  | _ => False
set_option maxHeartbeats 4000000 in
set_option maxRecDepth 100000 in
theorem p_Q_howManyHave : ∀ as M Q, (∀ v ∈ as, mm_vin v) → mm_mem M → t_Q_howManyHave as M Q → (mm_ent as).length ≤ 4 ∧ mm_ok mb_Q_howManyHave [] (mm_entry 4 as) M Q := by
  intro as M Q hin hM h
  unfold t_Q_howManyHave at h
  split at h
  rotate_left
  · exact h.elim
  rename_i o i
  have hR_i : mm_R i := hin (vi i) (by simp)
  refine ⟨by simp [mm_ent], (show mm_ok mb_Q_howManyHave [] [some (vr o), some (vi i), none, none] M Q from ?_)⟩
  intro J hJ
  obtain ⟨⟨ho, o1, o2, o3, o4, l1, l2, l3, l4⟩, h3, h4, h⟩ := h
  generalize hf : (fun q => mm_b (M (o + 2) q ≤ i ∧ i ≤ M (o + 3) q)) = f at h
  have hfv : ∀ q, f q = mm_b (M (o + 2) q ≤ i ∧ i ≤ M (o + 3) q) := fun r => by rw [← hf]
  have hb : ∀ n : Nat, 0 ≤ sN f n ∧ sN f n ≤ n := fun n => by
    have := sN_b (f := f) (a := 0) (b := 1) n (fun k _ => by rw [hfv]; exact mm_b_R _)
    omega
  have hl : ∀ (d k : Nat), k + d = (M o 4).toNat → J 4 [some (vr o), some (vi i), some (vi (sN f k)), some (vi k)] [] M := by
    intro d
    induction d with
    | zero =>
      intro k hk
      have h41 : J 41 [some (vr o), some (vi i), some (vi (sN f k)), some (vi k)] [] M := by
        refine hJ 41 _ _ _ (show mm_wp _ _ _ mo_Q_howManyHave_41 _ _ _ from ?_)
        simp only [mo_Q_howManyHave_41, mm_wp, mm_ldi, mm_lda, mm_ldl, mm_sti, mm_sta, mm_stl, mm_inc, mm_2i, mm_mm, mm_2l, mm_lcmp, mm_i2l, mm_l2i, mm_cast8, mm_if1, mm_if2, mm_cmp, mm_swi, mm_sw, mm_pop1, mm_dup, mm_dup2, mm_geti, mm_geta, mm_puti, mm_iald, mm_bald, mm_aald, mm_iast, mm_bast, mm_alen, mm_acpy, mm_call, mm_callv, mm_recv, mm_pop, mm_find, mm_push, mm_cats, mm_cat, mm_reti, mm_retz, mm_retl, mm_reta, mm_retv, mm_set1, mm_set2, mm_kill, List.getElem?_cons_zero, List.getElem?_cons_succ, Int.reduceToNat, ↓reduceIte, Nat.reduceEqDiff, Nat.reduceDiv, Nat.reduceAdd, Nat.reduceLeDiff, Nat.zero_le, true_and, and_true, true_or, or_true, mm_b0, mm_b1, mm_lc_lt, mm_lc_le, mm_lc_gt, mm_lc_ge, mm_lc_eq, Int.not_lt, Int.not_le, Decidable.not_not, Int.sub_neg]
        rw [show k = (M o 4).toNat by omega]
        exact h
      refine hJ 4 _ _ _ (show mm_wp _ _ _ mo_Q_howManyHave_4 _ _ _ from ?_)
      simp only [mo_Q_howManyHave_4, mm_wp, mm_ldi, mm_lda, mm_ldl, mm_sti, mm_sta, mm_stl, mm_inc, mm_2i, mm_mm, mm_2l, mm_lcmp, mm_i2l, mm_l2i, mm_cast8, mm_if1, mm_if2, mm_cmp, mm_swi, mm_sw, mm_pop1, mm_dup, mm_dup2, mm_geti, mm_geta, mm_puti, mm_iald, mm_bald, mm_aald, mm_iast, mm_bast, mm_alen, mm_acpy, mm_call, mm_callv, mm_recv, mm_pop, mm_find, mm_push, mm_cats, mm_cat, mm_reti, mm_retz, mm_retl, mm_reta, mm_retv, mm_set1, mm_set2, mm_kill, List.getElem?_cons_zero, List.getElem?_cons_succ, Int.reduceToNat, ↓reduceIte, Nat.reduceEqDiff, Nat.reduceDiv, Nat.reduceAdd, Nat.reduceLeDiff, Nat.zero_le, true_and, and_true, true_or, or_true, mm_b0, mm_b1, mm_lc_lt, mm_lc_le, mm_lc_gt, mm_lc_ge, mm_lc_eq, Int.not_lt, Int.not_le, Decidable.not_not, Int.sub_neg, ho]
      exact ⟨fun _ => h41, fun q2 => by omega⟩
    | succ d ih =>
      intro k hk
      have hk1 := hb k
      have h35 : ∀ z, z = sN f (k + 1) → J 35 [some (vr o), some (vi i), some (vi z), some (vi k)] [] M := by
        intro z hz
        refine hJ 35 _ _ _ (show mm_wp _ _ _ mo_Q_howManyHave_35 _ _ _ from ?_)
        simp only [mo_Q_howManyHave_35, mm_wp, mm_ldi, mm_lda, mm_ldl, mm_sti, mm_sta, mm_stl, mm_inc, mm_2i, mm_mm, mm_2l, mm_lcmp, mm_i2l, mm_l2i, mm_cast8, mm_if1, mm_if2, mm_cmp, mm_swi, mm_sw, mm_pop1, mm_dup, mm_dup2, mm_geti, mm_geta, mm_puti, mm_iald, mm_bald, mm_aald, mm_iast, mm_bast, mm_alen, mm_acpy, mm_call, mm_callv, mm_recv, mm_pop, mm_find, mm_push, mm_cats, mm_cat, mm_reti, mm_retz, mm_retl, mm_reta, mm_retv, mm_set1, mm_set2, mm_kill, List.getElem?_cons_zero, List.getElem?_cons_succ, Int.reduceToNat, ↓reduceIte, Nat.reduceEqDiff, Nat.reduceDiv, Nat.reduceAdd, Nat.reduceLeDiff, Nat.zero_le, true_and, and_true, true_or, or_true, mm_b0, mm_b1, mm_lc_lt, mm_lc_le, mm_lc_gt, mm_lc_ge, mm_lc_eq, Int.not_lt, Int.not_le, Decidable.not_not, Int.sub_neg]
        refine ⟨by omega, ?_⟩
        rw [hz]
        exact ih (k + 1) (by omega)
      refine hJ 4 _ _ _ (show mm_wp _ _ _ mo_Q_howManyHave_4 _ _ _ from ?_)
      simp only [mo_Q_howManyHave_4, mm_wp, mm_ldi, mm_lda, mm_ldl, mm_sti, mm_sta, mm_stl, mm_inc, mm_2i, mm_mm, mm_2l, mm_lcmp, mm_i2l, mm_l2i, mm_cast8, mm_if1, mm_if2, mm_cmp, mm_swi, mm_sw, mm_pop1, mm_dup, mm_dup2, mm_geti, mm_geta, mm_puti, mm_iald, mm_bald, mm_aald, mm_iast, mm_bast, mm_alen, mm_acpy, mm_call, mm_callv, mm_recv, mm_pop, mm_find, mm_push, mm_cats, mm_cat, mm_reti, mm_retz, mm_retl, mm_reta, mm_retv, mm_set1, mm_set2, mm_kill, List.getElem?_cons_zero, List.getElem?_cons_succ, Int.reduceToNat, ↓reduceIte, Nat.reduceEqDiff, Nat.reduceDiv, Nat.reduceAdd, Nat.reduceLeDiff, Nat.zero_le, true_and, and_true, true_or, or_true, mm_b0, mm_b1, mm_lc_lt, mm_lc_le, mm_lc_gt, mm_lc_ge, mm_lc_eq, Int.not_lt, Int.not_le, Decidable.not_not, Int.sub_neg, ho, o1, o2, o3, o4, l1, l2, l3, l4]
      refine ⟨fun q2 => by omega, fun _ => ⟨by omega, fun hn => h35 _ ?_, fun hn => ⟨by omega, fun hn2 => h35 _ ?_, fun hn2 => ⟨by omega, h35 _ ?_⟩⟩⟩⟩
      · show _ = sN f k + f k
        rw [hfv, mm_bF (by omega)]; omega
      · show _ = sN f k + f k
        rw [hfv, mm_bF (by omega)]; omega
      · show _ = sN f k + f k
        rw [hfv, mm_bT (by omega)]
  refine hJ 0 _ _ _ (show mm_wp _ _ _ mo_Q_howManyHave_0 _ _ _ from ?_)
  simp only [mo_Q_howManyHave_0, mm_wp, mm_ldi, mm_lda, mm_ldl, mm_sti, mm_sta, mm_stl, mm_inc, mm_2i, mm_mm, mm_2l, mm_lcmp, mm_i2l, mm_l2i, mm_cast8, mm_if1, mm_if2, mm_cmp, mm_swi, mm_sw, mm_pop1, mm_dup, mm_dup2, mm_geti, mm_geta, mm_puti, mm_iald, mm_bald, mm_aald, mm_iast, mm_bast, mm_alen, mm_acpy, mm_call, mm_callv, mm_recv, mm_pop, mm_find, mm_push, mm_cats, mm_cat, mm_reti, mm_retz, mm_retl, mm_reta, mm_retv, mm_set1, mm_set2, mm_kill, List.getElem?_cons_zero, List.getElem?_cons_succ, Int.reduceToNat, ↓reduceIte, Nat.reduceEqDiff, Nat.reduceDiv, Nat.reduceAdd, Nat.reduceLeDiff, Nat.zero_le, true_and, and_true, true_or, or_true, mm_b0, mm_b1, mm_lc_lt, mm_lc_le, mm_lc_gt, mm_lc_ge, mm_lc_eq, Int.not_lt, Int.not_le, Decidable.not_not, Int.sub_neg]
  exact hl _ 0 (Nat.zero_add _)
def t_Q_aim : mmT := fun as M Q => match as with
  | [.inr (.inr o), .inr (.inr w), .inl q] => isQ o ∧ isW w ∧ (0 ≤ q ∧ q < M o 4 ∧ M o 4 ≤ 25) ∧ t_Win_aim [vr w, vi (M (o + 2) q), vi (M (o + 3) q), vi (M (o + 4) q)] M Q
  | _ => False
set_option maxHeartbeats 4000000 in
set_option maxRecDepth 100000 in
theorem p_Q_aim : ∀ as M Q, (∀ v ∈ as, mm_vin v) → mm_mem M → t_Q_aim as M Q → (mm_ent as).length ≤ 3 ∧ mm_ok mb_Q_aim [(203, t_Q_has), (904, t_Win_aim)] (mm_entry 3 as) M Q := by
  intro as M Q hin hM h
  unfold t_Q_aim at h
  split at h
  rotate_left
  · exact h.elim
  rename_i o w q
  have hR_q : mm_R q := hin (vi q) (by simp)
  refine ⟨by simp [mm_ent], (show mm_ok mb_Q_aim [(203, t_Q_has), (904, t_Win_aim)] [some (vr o), some (vr w), some (vi q)] M Q from ?_)⟩
  intro J hJ
  obtain ⟨hq, hw, h1, h⟩ := h
  obtain ⟨ho, o1, o2, o3, o4, l1, l2, l3, l4⟩ := id hq
  have h30 : ∀ M', Q none M' → J 30 [some (vr o), some (vr w), some (vi q)] [] M' := by
    intro M' hq'
    refine hJ 30 _ _ _ (show mm_wp _ _ _ mo_Q_aim_30 _ _ _ from ?_)
    simp only [mo_Q_aim_30, mm_wp, mm_ldi, mm_lda, mm_ldl, mm_sti, mm_sta, mm_stl, mm_inc, mm_2i, mm_mm, mm_2l, mm_lcmp, mm_i2l, mm_l2i, mm_cast8, mm_if1, mm_if2, mm_cmp, mm_swi, mm_sw, mm_pop1, mm_dup, mm_dup2, mm_geti, mm_geta, mm_puti, mm_iald, mm_bald, mm_aald, mm_iast, mm_bast, mm_alen, mm_acpy, mm_call, mm_callv, mm_recv, mm_pop, mm_find, mm_push, mm_cats, mm_cat, mm_reti, mm_retz, mm_retl, mm_reta, mm_retv, mm_set1, mm_set2, mm_kill, List.getElem?_cons_zero, List.getElem?_cons_succ, Int.reduceToNat, ↓reduceIte, Nat.reduceEqDiff, Nat.reduceDiv, Nat.reduceAdd, Nat.reduceLeDiff, Nat.zero_le, true_and, and_true, true_or, or_true, mm_b0, mm_b1, mm_lc_lt, mm_lc_le, mm_lc_gt, mm_lc_ge, mm_lc_eq, Int.not_lt, Int.not_le, Decidable.not_not, Int.sub_neg]
    exact hq'
  refine hJ 0 _ _ _ (show mm_wp _ _ _ mo_Q_aim_0 _ _ _ from ?_)
  simp only [mo_Q_aim_0, mm_wp, mm_ldi, mm_lda, mm_ldl, mm_sti, mm_sta, mm_stl, mm_inc, mm_2i, mm_mm, mm_2l, mm_lcmp, mm_i2l, mm_l2i, mm_cast8, mm_if1, mm_if2, mm_cmp, mm_swi, mm_sw, mm_pop1, mm_dup, mm_dup2, mm_geti, mm_geta, mm_puti, mm_iald, mm_bald, mm_aald, mm_iast, mm_bast, mm_alen, mm_acpy, mm_call, mm_callv, mm_recv, mm_pop, mm_find, mm_push, mm_cats, mm_cat, mm_reti, mm_retz, mm_retl, mm_reta, mm_retv, mm_set1, mm_set2, mm_kill, List.getElem?_cons_zero, List.getElem?_cons_succ, Int.reduceToNat, ↓reduceIte, Nat.reduceEqDiff, Nat.reduceDiv, Nat.reduceAdd, Nat.reduceLeDiff, Nat.zero_le, true_and, and_true, true_or, or_true, mm_b0, mm_b1, mm_lc_lt, mm_lc_le, mm_lc_gt, mm_lc_ge, mm_lc_eq, Int.not_lt, Int.not_le, Decidable.not_not, Int.sub_neg, t_Q_has, t_Win_aim, ho, hw.1, o1, o2, o3, o4, l1, l2, l3, l4]
  obtain ⟨a1, a2, a3, a4⟩ := h
  exact ⟨hq, fun hn => by omega, fun _ => ⟨by omega, by omega, by omega, a1, a2, a3, fun M' b0 b1 b2 b3 b4 b5 b6 => h30 M' (a4 M' b0 b1 b2 b3 b4 b5 b6)⟩⟩
end
section
/-! Row by time, Sorted, Acts -/
def isRow (o : Nat) : Prop := mm_cls o = 4 ∧ mm_cls (o + 1) = 100 ∧ mm_cls (o + 2) = 100 ∧ mm_cls (o + 3) = 100 ∧ mm_cls (o + 4) = 100 ∧ mm_len (o + 1) = 60 ∧ mm_len (o + 2) = 32 ∧ mm_len (o + 3) = 32 ∧ mm_len (o + 4) = 60
/-- a cell behind the first n changes -/
def ca (c cc ct : Int → Int) (i : Int) : Nat → Int
  | 0 => c i
  | n + 1 => if cc n = i then ct n else ca c cc ct i n
theorem ca_cong {c cc ct c' cc' ct' : Int → Int} {i : Int} : ∀ n : Nat, c i = c' i → (∀ k : Nat, k < n → cc k = cc' k ∧ ct k = ct' k) → ca c cc ct i n = ca c' cc' ct' i n
  | 0, h, _ => h
  | n + 1, h, hk => by
    have h1 := hk n (by omega)
    simp only [ca]
    rw [h1.1, h1.2, ca_cong n h (fun k q => hk k (by omega))]
theorem ca_in {c cc ct : Int → Int} {i a b : Int} : ∀ n : Nat, (a ≤ c i ∧ c i < b) → (∀ k : Nat, k < n → a ≤ ct k ∧ ct k < b) → a ≤ ca c cc ct i n ∧ ca c cc ct i n < b
  | 0, h, _ => h
  | n + 1, h, hk => by
    simp only [ca]
    split
    · exact hk n (by omega)
    · exact ca_in n h (fun k q => hk k (by omega))
def t_Row_numberAt : mmT := fun as M Q => match as with
  | [.inr (.inr o), .inl i, .inl t] => isRow o ∧ 0 ≤ i ∧ i < M o 4 ∧ M o 4 ≤ 60 ∧ 0 ≤ t ∧ t ≤ M o 5 ∧ M o 5 ≤ 32 ∧ Q (some (vi (ca (M (o + 1)) (M (o + 2)) (M (o + 3)) i t.toNat))) M
  | _ => False
set_option maxHeartbeats 4000000 in
set_option maxRecDepth 100000 in
theorem p_Row_numberAt : ∀ as M Q, (∀ v ∈ as, mm_vin v) → mm_mem M → t_Row_numberAt as M Q → (mm_ent as).length ≤ 4 ∧ mm_ok mb_Row_numberAt [(403, t_Row_has)] (mm_entry 4 as) M Q := by
  intro as M Q hin hM h
  unfold t_Row_numberAt at h
  split at h
  rotate_left
  · exact h.elim
  rename_i o i t
  have hR_i : mm_R i := hin (vi i) (by simp)
  have hR_t : mm_R t := hin (vi t) (by simp)
  refine ⟨by simp [mm_ent], (show mm_ok mb_Row_numberAt [(403, t_Row_has)] [some (vr o), some (vi i), some (vi t), none] M Q from ?_)⟩
  intro J hJ
  obtain ⟨⟨ho, o1, o2, o3, o4, l1, l2, l3, l4⟩, h1, h2, h3, h4, h5, h6, h⟩ := h
  have h56 : ∀ x, J 56 [some (vr o), some (vi i), some (vi t), some (vi x)] [vi (ca (M (o + 1)) (M (o + 2)) (M (o + 3)) i t.toNat)] M := by
    intro x
    refine hJ 56 _ _ _ (show mm_wp _ _ _ mo_Row_numberAt_56 _ _ _ from ?_)
    simp only [mo_Row_numberAt_56, mm_wp, mm_ldi, mm_lda, mm_ldl, mm_sti, mm_sta, mm_stl, mm_inc, mm_2i, mm_mm, mm_2l, mm_lcmp, mm_i2l, mm_l2i, mm_cast8, mm_if1, mm_if2, mm_cmp, mm_swi, mm_sw, mm_pop1, mm_dup, mm_dup2, mm_geti, mm_geta, mm_puti, mm_iald, mm_bald, mm_aald, mm_iast, mm_bast, mm_alen, mm_acpy, mm_call, mm_callv, mm_recv, mm_pop, mm_find, mm_push, mm_cats, mm_cat, mm_reti, mm_retz, mm_retl, mm_reta, mm_retv, mm_set1, mm_set2, mm_kill, List.getElem?_cons_zero, List.getElem?_cons_succ, Int.reduceToNat, ↓reduceIte, Nat.reduceEqDiff, Nat.reduceDiv, Nat.reduceAdd, Nat.reduceLeDiff, Nat.zero_le, true_and, and_true, true_or, or_true, mm_b0, mm_b1, mm_lc_lt, mm_lc_le, mm_lc_gt, mm_lc_ge, mm_lc_eq, Int.not_lt, Int.not_le, Decidable.not_not, Int.sub_neg]
    exact h
  have h38 : ∀ x, ca (M (o + 1)) (M (o + 2)) (M (o + 3)) i 0 = ca (M (o + 1)) (M (o + 2)) (M (o + 3)) i t.toNat → J 38 [some (vr o), some (vi i), some (vi t), some (vi x)] [] M := by
    intro x hx
    have h56 := h56 x
    rw [← hx] at h56
    refine hJ 38 _ _ _ (show mm_wp _ _ _ mo_Row_numberAt_38 _ _ _ from ?_)
    simp only [mo_Row_numberAt_38, mm_wp, mm_ldi, mm_lda, mm_ldl, mm_sti, mm_sta, mm_stl, mm_inc, mm_2i, mm_mm, mm_2l, mm_lcmp, mm_i2l, mm_l2i, mm_cast8, mm_if1, mm_if2, mm_cmp, mm_swi, mm_sw, mm_pop1, mm_dup, mm_dup2, mm_geti, mm_geta, mm_puti, mm_iald, mm_bald, mm_aald, mm_iast, mm_bast, mm_alen, mm_acpy, mm_call, mm_callv, mm_recv, mm_pop, mm_find, mm_push, mm_cats, mm_cat, mm_reti, mm_retz, mm_retl, mm_reta, mm_retv, mm_set1, mm_set2, mm_kill, List.getElem?_cons_zero, List.getElem?_cons_succ, Int.reduceToNat, ↓reduceIte, Nat.reduceEqDiff, Nat.reduceDiv, Nat.reduceAdd, Nat.reduceLeDiff, Nat.zero_le, true_and, and_true, true_or, or_true, mm_b0, mm_b1, mm_lc_lt, mm_lc_le, mm_lc_gt, mm_lc_ge, mm_lc_eq, Int.not_lt, Int.not_le, Decidable.not_not, Int.sub_neg, t_Row_has, ho, o1, l1]
    exact ⟨fun hn => by omega, fun _ => ⟨by omega, h56⟩⟩
  have hl : ∀ (n : Nat), n ≤ 32 → ca (M (o + 1)) (M (o + 2)) (M (o + 3)) i n = ca (M (o + 1)) (M (o + 2)) (M (o + 3)) i t.toNat → J 11 [some (vr o), some (vi i), some (vi t), some (vi ((n : Int) - 1))] [] M := by
    intro n
    induction n with
    | zero =>
      intro _ hx
      refine hJ 11 _ _ _ (show mm_wp _ _ _ mo_Row_numberAt_11 _ _ _ from ?_)
      simp only [mo_Row_numberAt_11, mm_wp, mm_ldi, mm_lda, mm_ldl, mm_sti, mm_sta, mm_stl, mm_inc, mm_2i, mm_mm, mm_2l, mm_lcmp, mm_i2l, mm_l2i, mm_cast8, mm_if1, mm_if2, mm_cmp, mm_swi, mm_sw, mm_pop1, mm_dup, mm_dup2, mm_geti, mm_geta, mm_puti, mm_iald, mm_bald, mm_aald, mm_iast, mm_bast, mm_alen, mm_acpy, mm_call, mm_callv, mm_recv, mm_pop, mm_find, mm_push, mm_cats, mm_cat, mm_reti, mm_retz, mm_retl, mm_reta, mm_retv, mm_set1, mm_set2, mm_kill, List.getElem?_cons_zero, List.getElem?_cons_succ, Int.reduceToNat, ↓reduceIte, Nat.reduceEqDiff, Nat.reduceDiv, Nat.reduceAdd, Nat.reduceLeDiff, Nat.zero_le, true_and, and_true, true_or, or_true, mm_b0, mm_b1, mm_lc_lt, mm_lc_le, mm_lc_gt, mm_lc_ge, mm_lc_eq, Int.not_lt, Int.not_le, Decidable.not_not, Int.sub_neg, ho, o1, o2, l1, l2]
      exact ⟨fun _ => h38 _ hx, fun q => by omega⟩
    | succ n ih =>
      intro hn hx
      have h32 : ¬ M (o + 2) n = i → J 32 [some (vr o), some (vi i), some (vi t), some (vi (((n + 1 : Nat) : Int) - 1))] [] M := by
        intro hne
        refine hJ 32 _ _ _ (show mm_wp _ _ _ mo_Row_numberAt_32 _ _ _ from ?_)
        simp only [mo_Row_numberAt_32, mm_wp, mm_ldi, mm_lda, mm_ldl, mm_sti, mm_sta, mm_stl, mm_inc, mm_2i, mm_mm, mm_2l, mm_lcmp, mm_i2l, mm_l2i, mm_cast8, mm_if1, mm_if2, mm_cmp, mm_swi, mm_sw, mm_pop1, mm_dup, mm_dup2, mm_geti, mm_geta, mm_puti, mm_iald, mm_bald, mm_aald, mm_iast, mm_bast, mm_alen, mm_acpy, mm_call, mm_callv, mm_recv, mm_pop, mm_find, mm_push, mm_cats, mm_cat, mm_reti, mm_retz, mm_retl, mm_reta, mm_retv, mm_set1, mm_set2, mm_kill, List.getElem?_cons_zero, List.getElem?_cons_succ, Int.reduceToNat, ↓reduceIte, Nat.reduceEqDiff, Nat.reduceDiv, Nat.reduceAdd, Nat.reduceLeDiff, Nat.zero_le, true_and, and_true, true_or, or_true, mm_b0, mm_b1, mm_lc_lt, mm_lc_le, mm_lc_gt, mm_lc_ge, mm_lc_eq, Int.not_lt, Int.not_le, Decidable.not_not, Int.sub_neg]
        refine ⟨by omega, ?_⟩
        rw [show ((n + 1 : Nat) : Int) - 1 + -1 = (n : Int) - 1 by omega]
        refine ih (by omega) ?_
        rw [← hx]
        simp only [ca]
        rw [if_neg hne]
      have e : ((n + 1 : Nat) : Int) - 1 = (n : Int) := by omega
      rw [e] at h32 ⊢
      refine hJ 11 _ _ _ (show mm_wp _ _ _ mo_Row_numberAt_11 _ _ _ from ?_)
      simp only [mo_Row_numberAt_11, mm_wp, mm_ldi, mm_lda, mm_ldl, mm_sti, mm_sta, mm_stl, mm_inc, mm_2i, mm_mm, mm_2l, mm_lcmp, mm_i2l, mm_l2i, mm_cast8, mm_if1, mm_if2, mm_cmp, mm_swi, mm_sw, mm_pop1, mm_dup, mm_dup2, mm_geti, mm_geta, mm_puti, mm_iald, mm_bald, mm_aald, mm_iast, mm_bast, mm_alen, mm_acpy, mm_call, mm_callv, mm_recv, mm_pop, mm_find, mm_push, mm_cats, mm_cat, mm_reti, mm_retz, mm_retl, mm_reta, mm_retv, mm_set1, mm_set2, mm_kill, List.getElem?_cons_zero, List.getElem?_cons_succ, Int.reduceToNat, ↓reduceIte, Nat.reduceEqDiff, Nat.reduceDiv, Nat.reduceAdd, Nat.reduceLeDiff, Nat.zero_le, true_and, and_true, true_or, or_true, mm_b0, mm_b1, mm_lc_lt, mm_lc_le, mm_lc_gt, mm_lc_ge, mm_lc_eq, Int.not_lt, Int.not_le, Decidable.not_not, Int.sub_neg, ho, o1, o2, o3, l1, l2, l3]
      refine ⟨fun q => by omega, fun _ => ⟨by omega, h32, fun he => ⟨by omega, ?_⟩⟩⟩
      rw [show M (o + 3) n = ca (M (o + 1)) (M (o + 2)) (M (o + 3)) i (n + 1) by simp only [ca]; rw [if_pos he], hx]
      exact h
  refine hJ 0 _ _ _ (show mm_wp _ _ _ mo_Row_numberAt_0 _ _ _ from ?_)
  simp only [mo_Row_numberAt_0, mm_wp, mm_ldi, mm_lda, mm_ldl, mm_sti, mm_sta, mm_stl, mm_inc, mm_2i, mm_mm, mm_2l, mm_lcmp, mm_i2l, mm_l2i, mm_cast8, mm_if1, mm_if2, mm_cmp, mm_swi, mm_sw, mm_pop1, mm_dup, mm_dup2, mm_geti, mm_geta, mm_puti, mm_iald, mm_bald, mm_aald, mm_iast, mm_bast, mm_alen, mm_acpy, mm_call, mm_callv, mm_recv, mm_pop, mm_find, mm_push, mm_cats, mm_cat, mm_reti, mm_retz, mm_retl, mm_reta, mm_retv, mm_set1, mm_set2, mm_kill, List.getElem?_cons_zero, List.getElem?_cons_succ, Int.reduceToNat, ↓reduceIte, Nat.reduceEqDiff, Nat.reduceDiv, Nat.reduceAdd, Nat.reduceLeDiff, Nat.zero_le, true_and, and_true, true_or, or_true, mm_b0, mm_b1, mm_lc_lt, mm_lc_le, mm_lc_gt, mm_lc_ge, mm_lc_eq, Int.not_lt, Int.not_le, Decidable.not_not, Int.sub_neg, ho]
  refine ⟨by omega, ?_⟩
  have := hl t.toNat (by omega) rfl
  rw [show ((t.toNat : Nat) : Int) - 1 = min t (M o 5) - 1 by omega] at this
  exact this
def t_Row_asAt : mmT := fun as M Q => match as with
  | [.inr (.inr o), .inl t] => isRow o ∧ M o 4 ≤ 60 ∧ 0 ≤ t ∧ t ≤ M o 5 ∧ M o 5 ≤ 32 ∧ ∀ M', (∀ o', o' ≠ o + 4 → M' o' = M o') → (∀ i, 0 ≤ i → i < M o 4 → M' (o + 4) i = ca (M (o + 1)) (M (o + 2)) (M (o + 3)) i t.toNat) → Q (some (vr (o + 4))) M'
  | _ => False
set_option maxHeartbeats 4000000 in
set_option maxRecDepth 100000 in
theorem p_Row_asAt : ∀ as M Q, (∀ v ∈ as, mm_vin v) → mm_mem M → t_Row_asAt as M Q → (mm_ent as).length ≤ 4 ∧ mm_ok mb_Row_asAt [(403, t_Row_has)] (mm_entry 4 as) M Q := by
  intro as M Q hin hM h
  unfold t_Row_asAt at h
  split at h
  rotate_left
  · exact h.elim
  rename_i o t
  have hR_t : mm_R t := hin (vi t) (by simp)
  refine ⟨by simp [mm_ent], (show mm_ok mb_Row_asAt [(403, t_Row_has)] [some (vr o), some (vi t), none, none] M Q from ?_)⟩
  intro J hJ
  obtain ⟨⟨ho, o1, o2, o3, o4, l1, l2, l3, l4⟩, h3, h4, h5, h6, h⟩ := h
  have h63 : ∀ x2 x3 M', (∀ o', o' ≠ o + 4 → M' o' = M o') → (∀ i, 0 ≤ i → i < M o 4 → M' (o + 4) i = ca (M (o + 1)) (M (o + 2)) (M (o + 3)) i t.toNat) → J 63 [some (vr o), some (vi t), x2, x3] [] M' := by
    intro x2 x3 M' a b
    refine hJ 63 _ _ _ (show mm_wp _ _ _ mo_Row_asAt_63 _ _ _ from ?_)
    simp only [mo_Row_asAt_63, mm_wp, mm_ldi, mm_lda, mm_ldl, mm_sti, mm_sta, mm_stl, mm_inc, mm_2i, mm_mm, mm_2l, mm_lcmp, mm_i2l, mm_l2i, mm_cast8, mm_if1, mm_if2, mm_cmp, mm_swi, mm_sw, mm_pop1, mm_dup, mm_dup2, mm_geti, mm_geta, mm_puti, mm_iald, mm_bald, mm_aald, mm_iast, mm_bast, mm_alen, mm_acpy, mm_call, mm_callv, mm_recv, mm_pop, mm_find, mm_push, mm_cats, mm_cat, mm_reti, mm_retz, mm_retl, mm_reta, mm_retv, mm_set1, mm_set2, mm_kill, List.getElem?_cons_zero, List.getElem?_cons_succ, Int.reduceToNat, ↓reduceIte, Nat.reduceEqDiff, Nat.reduceDiv, Nat.reduceAdd, Nat.reduceLeDiff, Nat.zero_le, true_and, and_true, true_or, or_true, mm_b0, mm_b1, mm_lc_lt, mm_lc_le, mm_lc_gt, mm_lc_ge, mm_lc_eq, Int.not_lt, Int.not_le, Decidable.not_not, Int.sub_neg, ho]
    exact h M' a b
  have hl : ∀ (d k : Nat) (x3 : Option mmV) (M' : mmM), k + d = t.toNat → (∀ o', o' ≠ o + 4 → M' o' = M o') → (∀ i, 0 ≤ i → i < M o 4 → M' (o + 4) i = ca (M (o + 1)) (M (o + 2)) (M (o + 3)) i k) → J 17 [some (vr o), some (vi t), some (vi k), x3] [] M' := by
    intro d
    induction d with
    | zero =>
      intro k x3 M' hk a b
      refine hJ 17 _ _ _ (show mm_wp _ _ _ mo_Row_asAt_17 _ _ _ from ?_)
      simp only [mo_Row_asAt_17, mm_wp, mm_ldi, mm_lda, mm_ldl, mm_sti, mm_sta, mm_stl, mm_inc, mm_2i, mm_mm, mm_2l, mm_lcmp, mm_i2l, mm_l2i, mm_cast8, mm_if1, mm_if2, mm_cmp, mm_swi, mm_sw, mm_pop1, mm_dup, mm_dup2, mm_geti, mm_geta, mm_puti, mm_iald, mm_bald, mm_aald, mm_iast, mm_bast, mm_alen, mm_acpy, mm_call, mm_callv, mm_recv, mm_pop, mm_find, mm_push, mm_cats, mm_cat, mm_reti, mm_retz, mm_retl, mm_reta, mm_retv, mm_set1, mm_set2, mm_kill, List.getElem?_cons_zero, List.getElem?_cons_succ, Int.reduceToNat, ↓reduceIte, Nat.reduceEqDiff, Nat.reduceDiv, Nat.reduceAdd, Nat.reduceLeDiff, Nat.zero_le, true_and, and_true, true_or, or_true, mm_b0, mm_b1, mm_lc_lt, mm_lc_le, mm_lc_gt, mm_lc_ge, mm_lc_eq, Int.not_lt, Int.not_le, Decidable.not_not, Int.sub_neg, ho]
      exact ⟨fun _ => h63 _ _ _ a (by rw [show t.toNat = k by omega]; exact b), fun q => by omega⟩
    | succ d ih =>
      intro k x3 M' hk a b
      have e0 : M' o = M o := a o (by omega)
      have e2 : M' (o + 2) = M (o + 2) := a (o + 2) (by omega)
      have e3 : M' (o + 3) = M (o + 3) := a (o + 3) (by omega)
      have h57 : ∀ M'', (∀ o', o' ≠ o + 4 → M'' o' = M o') → (∀ i, 0 ≤ i → i < M o 4 → M'' (o + 4) i = ca (M (o + 1)) (M (o + 2)) (M (o + 3)) i (k + 1)) → J 57 [some (vr o), some (vi t), some (vi k), some (vi (M (o + 2) k))] [] M'' := by
        intro M'' a' b'
        refine hJ 57 _ _ _ (show mm_wp _ _ _ mo_Row_asAt_57 _ _ _ from ?_)
        simp only [mo_Row_asAt_57, mm_wp, mm_ldi, mm_lda, mm_ldl, mm_sti, mm_sta, mm_stl, mm_inc, mm_2i, mm_mm, mm_2l, mm_lcmp, mm_i2l, mm_l2i, mm_cast8, mm_if1, mm_if2, mm_cmp, mm_swi, mm_sw, mm_pop1, mm_dup, mm_dup2, mm_geti, mm_geta, mm_puti, mm_iald, mm_bald, mm_aald, mm_iast, mm_bast, mm_alen, mm_acpy, mm_call, mm_callv, mm_recv, mm_pop, mm_find, mm_push, mm_cats, mm_cat, mm_reti, mm_retz, mm_retl, mm_reta, mm_retv, mm_set1, mm_set2, mm_kill, List.getElem?_cons_zero, List.getElem?_cons_succ, Int.reduceToNat, ↓reduceIte, Nat.reduceEqDiff, Nat.reduceDiv, Nat.reduceAdd, Nat.reduceLeDiff, Nat.zero_le, true_and, and_true, true_or, or_true, mm_b0, mm_b1, mm_lc_lt, mm_lc_le, mm_lc_gt, mm_lc_ge, mm_lc_eq, Int.not_lt, Int.not_le, Decidable.not_not, Int.sub_neg]
        exact ⟨by omega, ih (k + 1) _ M'' (by omega) a' b'⟩
      refine hJ 17 _ _ _ (show mm_wp _ _ _ mo_Row_asAt_17 _ _ _ from ?_)
      simp only [mo_Row_asAt_17, mm_wp, mm_ldi, mm_lda, mm_ldl, mm_sti, mm_sta, mm_stl, mm_inc, mm_2i, mm_mm, mm_2l, mm_lcmp, mm_i2l, mm_l2i, mm_cast8, mm_if1, mm_if2, mm_cmp, mm_swi, mm_sw, mm_pop1, mm_dup, mm_dup2, mm_geti, mm_geta, mm_puti, mm_iald, mm_bald, mm_aald, mm_iast, mm_bast, mm_alen, mm_acpy, mm_call, mm_callv, mm_recv, mm_pop, mm_find, mm_push, mm_cats, mm_cat, mm_reti, mm_retz, mm_retl, mm_reta, mm_retv, mm_set1, mm_set2, mm_kill, List.getElem?_cons_zero, List.getElem?_cons_succ, Int.reduceToNat, ↓reduceIte, Nat.reduceEqDiff, Nat.reduceDiv, Nat.reduceAdd, Nat.reduceLeDiff, Nat.zero_le, true_and, and_true, true_or, or_true, mm_b0, mm_b1, mm_lc_lt, mm_lc_le, mm_lc_gt, mm_lc_ge, mm_lc_eq, Int.not_lt, Int.not_le, Decidable.not_not, Int.sub_neg, ho, o1, o2, o3, o4, l1, l2, l3, l4, t_Row_has, e0, e2, e3]
      refine ⟨fun q => by omega, fun _ => ⟨fun q => by omega, fun _ => ⟨by omega, fun hn => h57 M' a (fun i i0 i1 => ?_), fun hy => ⟨by omega, by omega, h57 _ (fun o' ho' => by rw [mm_up_o _ _ ho']; exact a o' ho') (fun i i0 i1 => ?_)⟩⟩⟩⟩
      · simp only [ca]
        rw [if_neg (by intro hc; rw [hc] at hn; omega)]
        exact b i i0 i1
      · rw [mm_up_if]
        simp only [ca]
        by_cases hc : M (o + 2) k = i
        · rw [if_pos hc.symm, if_pos hc]
        · rw [if_neg (fun q => hc q.symm), if_neg hc]
          exact b i i0 i1
  refine hJ 0 _ _ _ (show mm_wp _ _ _ mo_Row_asAt_0 _ _ _ from ?_)
  simp only [mo_Row_asAt_0, mm_wp, mm_ldi, mm_lda, mm_ldl, mm_sti, mm_sta, mm_stl, mm_inc, mm_2i, mm_mm, mm_2l, mm_lcmp, mm_i2l, mm_l2i, mm_cast8, mm_if1, mm_if2, mm_cmp, mm_swi, mm_sw, mm_pop1, mm_dup, mm_dup2, mm_geti, mm_geta, mm_puti, mm_iald, mm_bald, mm_aald, mm_iast, mm_bast, mm_alen, mm_acpy, mm_call, mm_callv, mm_recv, mm_pop, mm_find, mm_push, mm_cats, mm_cat, mm_reti, mm_retz, mm_retl, mm_reta, mm_retv, mm_set1, mm_set2, mm_kill, List.getElem?_cons_zero, List.getElem?_cons_succ, Int.reduceToNat, ↓reduceIte, Nat.reduceEqDiff, Nat.reduceDiv, Nat.reduceAdd, Nat.reduceLeDiff, Nat.zero_le, true_and, and_true, true_or, or_true, mm_b0, mm_b1, mm_lc_lt, mm_lc_le, mm_lc_gt, mm_lc_ge, mm_lc_eq, Int.not_lt, Int.not_le, Decidable.not_not, Int.sub_neg, ho, o1, o4, l1, l4]
  refine ⟨by omega, hl _ 0 _ _ (Nat.zero_add _) (fun o' ho' => funext fun i => ?_) (fun i i0 i1 => ?_)⟩
  · unfold mm_cpy
    rw [if_neg (fun q => ho' q.1)]
  · unfold mm_cpy
    rw [if_pos ⟨rfl, by omega, by omega⟩]
    simp [ca]
def t_Row_copyFrom : mmT := fun as M Q => match as with
  | [.inr (.inr o), .inr (.inr s)] => isRow o ∧ isRow s ∧ s + 4 < o ∧ ∀ M', (∀ o', o' ≠ o → o' ≠ o + 1 → o' ≠ o + 2 → o' ≠ o + 3 → M' o' = M o') → M' o 4 = M s 4 → M' o 5 = M s 5 → (∀ i, 0 ≤ i → i < 60 → M' (o + 1) i = M (s + 1) i) → (∀ i, 0 ≤ i → i < 32 → M' (o + 2) i = M (s + 2) i ∧ M' (o + 3) i = M (s + 3) i) → Q none M'
  | _ => False
set_option maxHeartbeats 4000000 in
set_option maxRecDepth 100000 in
theorem p_Row_copyFrom : ∀ as M Q, (∀ v ∈ as, mm_vin v) → mm_mem M → t_Row_copyFrom as M Q → (mm_ent as).length ≤ 2 ∧ mm_ok mb_Row_copyFrom [] (mm_entry 2 as) M Q := by
  intro as M Q hin hM h
  unfold t_Row_copyFrom at h
  split at h
  rotate_left
  · exact h.elim
  rename_i o s
  refine ⟨by simp [mm_ent], (show mm_ok mb_Row_copyFrom [] [some (vr o), some (vr s)] M Q from ?_)⟩
  intro J hJ
  obtain ⟨⟨ho, o1, o2, o3, o4, l1, l2, l3, l4⟩, ⟨so, s1, s2, s3, s4, k1, k2, k3, k4⟩, hd, h⟩ := h
  have ec : ∀ (M1 : mmM) (a b : Nat) (c : Nat) (sp dp n : Int), c ≠ b → mm_cpy M1 a sp b dp n c = M1 c := fun M1 a b c sp dp n hc => funext fun i => if_neg (fun q => hc q.1)
  refine hJ 0 _ _ _ (show mm_wp _ _ _ mo_Row_copyFrom_0 _ _ _ from ?_)
  simp only [mo_Row_copyFrom_0, mm_wp, mm_ldi, mm_lda, mm_ldl, mm_sti, mm_sta, mm_stl, mm_inc, mm_2i, mm_mm, mm_2l, mm_lcmp, mm_i2l, mm_l2i, mm_cast8, mm_if1, mm_if2, mm_cmp, mm_swi, mm_sw, mm_pop1, mm_dup, mm_dup2, mm_geti, mm_geta, mm_puti, mm_iald, mm_bald, mm_aald, mm_iast, mm_bast, mm_alen, mm_acpy, mm_call, mm_callv, mm_recv, mm_pop, mm_find, mm_push, mm_cats, mm_cat, mm_reti, mm_retz, mm_retl, mm_reta, mm_retv, mm_set1, mm_set2, mm_kill, List.getElem?_cons_zero, List.getElem?_cons_succ, Int.reduceToNat, ↓reduceIte, Nat.reduceEqDiff, Nat.reduceDiv, Nat.reduceAdd, Nat.reduceLeDiff, Nat.zero_le, true_and, and_true, true_or, or_true, mm_b0, mm_b1, mm_lc_lt, mm_lc_le, mm_lc_gt, mm_lc_ge, mm_lc_eq, Int.not_lt, Int.not_le, Decidable.not_not, Int.sub_neg, ho, o1, o2, o3, o4, l1, l2, l3, l4, so, s1, s2, s3, s4, k1, k2, k3, k4]
  refine ⟨by omega, by omega, by omega, h _ (fun o' a b c d => ?_) ?_ ?_ (fun i i0 i1 => ?_) (fun i i0 i1 => ⟨?_, ?_⟩)⟩
  · rw [mm_up_o _ _ a, mm_up_o _ _ a, ec _ _ _ _ _ _ _ d, ec _ _ _ _ _ _ _ c, ec _ _ _ _ _ _ _ b]
  · rw [mm_up_i _ (by decide), mm_up_s, ec _ _ _ _ _ _ _ (by omega), ec _ _ _ _ _ _ _ (by omega), ec _ _ _ _ _ _ _ (by omega)]
  · rw [mm_up_s, mm_up_o _ _ (by omega), ec _ _ _ _ _ _ _ (by omega), ec _ _ _ _ _ _ _ (by omega), ec _ _ _ _ _ _ _ (by omega)]
  · rw [mm_up_o _ _ (by omega), mm_up_o _ _ (by omega), ec _ _ _ _ _ _ _ (by omega), ec _ _ _ _ _ _ _ (by omega)]
    unfold mm_cpy
    rw [if_pos ⟨rfl, by omega, by omega⟩]
    simp
  · rw [mm_up_o _ _ (by omega), mm_up_o _ _ (by omega), ec _ _ _ _ _ _ _ (by omega)]
    unfold mm_cpy
    rw [if_pos ⟨rfl, by omega, by omega⟩, if_neg (by omega)]
    simp
  · rw [mm_up_o _ _ (by omega), mm_up_o _ _ (by omega)]
    unfold mm_cpy
    rw [if_pos ⟨rfl, by omega, by omega⟩, if_neg (by omega), if_neg (by omega)]
    simp
def isSrt (o : Nat) : Prop := mm_cls o = 5 ∧ mm_cls (o + 1) = 100 ∧ mm_len (o + 1) = 25
def t_Srt_key : mmT := fun as M Q => match as with
  | [.inl a, .inl b, .inl c, .inl q] => (0 ≤ a ∧ a < 64 ∧ 0 ≤ b ∧ b < 4096 ∧ 0 ≤ c ∧ c < 64 ∧ 0 ≤ q ∧ q < 32) ∧ Q (some (vi (((a * 64 + b) * 64 + c) * 32 + q))) M
  | _ => False
set_option maxHeartbeats 4000000 in
set_option maxRecDepth 100000 in
theorem p_Srt_key : ∀ as M Q, (∀ v ∈ as, mm_vin v) → mm_mem M → t_Srt_key as M Q → (mm_ent as).length ≤ 4 ∧ mm_ok mb_Srt_key [] (mm_entry 4 as) M Q := by
  intro as M Q hin hM h
  unfold t_Srt_key at h
  split at h
  rotate_left
  · exact h.elim
  rename_i a b c q
  have hR_a : mm_R a := hin (vi a) (by simp)
  have hR_b : mm_R b := hin (vi b) (by simp)
  have hR_c : mm_R c := hin (vi c) (by simp)
  have hR_q : mm_R q := hin (vi q) (by simp)
  refine ⟨by simp [mm_ent], (show mm_ok mb_Srt_key [] [some (vi a), some (vi b), some (vi c), some (vi q)] M Q from ?_)⟩
  intro J hJ
  obtain ⟨hb, h⟩ := h
  repeat' first | (refine And.intro ?_ ?_) | (intro _) | (refine hJ 0 _ _ _ ?_; show mm_wp _ _ _ mo_Srt_key_0 _ _ _; simp only [mo_Srt_key_0, mm_wp, mm_ldi, mm_lda, mm_ldl, mm_sti, mm_sta, mm_stl, mm_inc, mm_2i, mm_mm, mm_2l, mm_lcmp, mm_i2l, mm_l2i, mm_cast8, mm_if1, mm_if2, mm_cmp, mm_swi, mm_sw, mm_pop1, mm_dup, mm_dup2, mm_geti, mm_geta, mm_puti, mm_iald, mm_bald, mm_aald, mm_iast, mm_bast, mm_alen, mm_acpy, mm_call, mm_callv, mm_recv, mm_pop, mm_find, mm_push, mm_cats, mm_cat, mm_reti, mm_retz, mm_retl, mm_reta, mm_retv, mm_set1, mm_set2, mm_kill, List.getElem?_cons_zero, List.getElem?_cons_succ, Int.reduceToNat, ↓reduceIte, Nat.reduceEqDiff, Nat.reduceDiv, Nat.reduceAdd, Nat.reduceLeDiff, Nat.zero_le, true_and, and_true, true_or, or_true, mm_b0, mm_b1, mm_lc_lt, mm_lc_le, mm_lc_gt, mm_lc_ge, mm_lc_eq, Int.not_lt, Int.not_le, Decidable.not_not, Int.sub_neg])
  all_goals first | assumption | (exact Or.inl rfl) | (exact Or.inr rfl) | (exact rfl) | trivial | omega
/-- key put at its place p into n sorted ones -/
def sIns (K K' : Int → Int) (n key p : Int) : Prop := 0 ≤ p ∧ p ≤ n ∧ (0 < p → K (p - 1) ≤ key) ∧ (∀ j, p ≤ j → j < n → key < K j) ∧ (∀ j, 0 ≤ j → j < p → K' j = K j) ∧ K' p = key ∧ ∀ j, p < j → j ≤ n → K' j = K (j - 1)
def t_Srt_insert : mmT := fun as M Q => match as with
  | [.inr (.inr o), .inl key] => isSrt o ∧ 0 ≤ M o 1 ∧ M o 1 ≤ 24 ∧ ∀ M' p, sIns (M (o + 1)) (M' (o + 1)) (M o 1) key p → M' o 1 = M o 1 + 1 → (∀ o', o' ≠ o → o' ≠ o + 1 → M' o' = M o') → Q none M'
  | _ => False
set_option maxHeartbeats 4000000 in
set_option maxRecDepth 100000 in
theorem p_Srt_insert : ∀ as M Q, (∀ v ∈ as, mm_vin v) → mm_mem M → t_Srt_insert as M Q → (mm_ent as).length ≤ 3 ∧ mm_ok mb_Srt_insert [] (mm_entry 3 as) M Q := by
  intro as M Q hin hM h
  unfold t_Srt_insert at h
  split at h
  rotate_left
  · exact h.elim
  rename_i o key
  have hR_key : mm_R key := hin (vi key) (by simp)
  refine ⟨by simp [mm_ent], (show mm_ok mb_Srt_insert [] [some (vr o), some (vi key), none] M Q from ?_)⟩
  intro J hJ
  obtain ⟨⟨ho, o1, l1⟩, h1, h2, h⟩ := h
  have hl : ∀ (n : Nat) (M1 : mmM), (n : Int) ≤ M o 1 → (∀ o', o' ≠ o + 1 → M1 o' = M o') → (∀ j : Int, 0 ≤ j → j < n → M1 (o + 1) j = M (o + 1) j) → (∀ j, (n : Int) < j → j ≤ M o 1 → M1 (o + 1) j = M (o + 1) (j - 1)) → (∀ j, (n : Int) ≤ j → j < M o 1 → key < M (o + 1) j) → J 15 [some (vr o), some (vi key), some (vi n)] [] M1 := by
    intro n
    induction n with
    | zero =>
      intro M1 hn a b c d
      have e0 : M1 o = M o := a o (by omega)
      have e1 : mm_up M1 (o + 1) 0 key o = M o := by rw [mm_up_o _ _ (by omega), e0]
      have h51 : J 51 [some (vr o), some (vi key), some (vi ((0 : Nat) : Int))] [] M1 := by
        refine hJ 51 _ _ _ (show mm_wp _ _ _ mo_Srt_insert_51 _ _ _ from ?_)
        simp only [mo_Srt_insert_51, mm_wp, mm_ldi, mm_lda, mm_ldl, mm_sti, mm_sta, mm_stl, mm_inc, mm_2i, mm_mm, mm_2l, mm_lcmp, mm_i2l, mm_l2i, mm_cast8, mm_if1, mm_if2, mm_cmp, mm_swi, mm_sw, mm_pop1, mm_dup, mm_dup2, mm_geti, mm_geta, mm_puti, mm_iald, mm_bald, mm_aald, mm_iast, mm_bast, mm_alen, mm_acpy, mm_call, mm_callv, mm_recv, mm_pop, mm_find, mm_push, mm_cats, mm_cat, mm_reti, mm_retz, mm_retl, mm_reta, mm_retv, mm_set1, mm_set2, mm_kill, List.getElem?_cons_zero, List.getElem?_cons_succ, Int.reduceToNat, ↓reduceIte, Nat.reduceEqDiff, Nat.reduceDiv, Nat.reduceAdd, Nat.reduceLeDiff, Nat.zero_le, true_and, and_true, true_or, or_true, mm_b0, mm_b1, mm_lc_lt, mm_lc_le, mm_lc_gt, mm_lc_ge, mm_lc_eq, Int.not_lt, Int.not_le, Decidable.not_not, Int.sub_neg, ho, o1, l1, e0, Int.cast_ofNat_Int, e1]
        refine ⟨by omega, by omega, h _ 0 ⟨by omega, by omega, fun q => by omega, fun j j0 j1 => d j (by simpa using j0) j1, fun j j0 j1 => by omega, ?_, fun j j0 j1 => ?_⟩ (mm_up_s _ _ _ _) (fun o' c1 c2 => by rw [mm_up_o _ _ c1, mm_up_o _ _ c2, a o' c2])⟩
        · rw [mm_up_o _ _ (by omega), mm_up_s]
        · rw [mm_up_o _ _ (by omega), mm_up_i _ (by omega)]
          exact c j (by simpa using j0) j1
      refine hJ 15 _ _ _ (show mm_wp _ _ _ mo_Srt_insert_15 _ _ _ from ?_)
      simp only [mo_Srt_insert_15, mm_wp, mm_ldi, mm_lda, mm_ldl, mm_sti, mm_sta, mm_stl, mm_inc, mm_2i, mm_mm, mm_2l, mm_lcmp, mm_i2l, mm_l2i, mm_cast8, mm_if1, mm_if2, mm_cmp, mm_swi, mm_sw, mm_pop1, mm_dup, mm_dup2, mm_geti, mm_geta, mm_puti, mm_iald, mm_bald, mm_aald, mm_iast, mm_bast, mm_alen, mm_acpy, mm_call, mm_callv, mm_recv, mm_pop, mm_find, mm_push, mm_cats, mm_cat, mm_reti, mm_retz, mm_retl, mm_reta, mm_retv, mm_set1, mm_set2, mm_kill, List.getElem?_cons_zero, List.getElem?_cons_succ, Int.reduceToNat, ↓reduceIte, Nat.reduceEqDiff, Nat.reduceDiv, Nat.reduceAdd, Nat.reduceLeDiff, Nat.zero_le, true_and, and_true, true_or, or_true, mm_b0, mm_b1, mm_lc_lt, mm_lc_le, mm_lc_gt, mm_lc_ge, mm_lc_eq, Int.not_lt, Int.not_le, Decidable.not_not, Int.sub_neg]
      exact ⟨fun _ => h51, fun q => by simp at q⟩
    | succ n ih =>
      intro M1 hn a b c d
      have e0 : M1 o = M o := a o (by omega)
      have en : ((n + 1 : Nat) : Int) - 1 = n := by omega
      have eb : M1 (o + 1) n = M (o + 1) n := b n (by omega) (by omega)
      have h51 : M (o + 1) n ≤ key → J 51 [some (vr o), some (vi key), some (vi ((n + 1 : Nat) : Int))] [] M1 := by
        intro hk
        have e1 : ∀ v w : Int, mm_up M1 (o + 1) v w o = M o := fun v w => by rw [mm_up_o _ _ (by omega), e0]
        refine hJ 51 _ _ _ (show mm_wp _ _ _ mo_Srt_insert_51 _ _ _ from ?_)
        simp only [mo_Srt_insert_51, mm_wp, mm_ldi, mm_lda, mm_ldl, mm_sti, mm_sta, mm_stl, mm_inc, mm_2i, mm_mm, mm_2l, mm_lcmp, mm_i2l, mm_l2i, mm_cast8, mm_if1, mm_if2, mm_cmp, mm_swi, mm_sw, mm_pop1, mm_dup, mm_dup2, mm_geti, mm_geta, mm_puti, mm_iald, mm_bald, mm_aald, mm_iast, mm_bast, mm_alen, mm_acpy, mm_call, mm_callv, mm_recv, mm_pop, mm_find, mm_push, mm_cats, mm_cat, mm_reti, mm_retz, mm_retl, mm_reta, mm_retv, mm_set1, mm_set2, mm_kill, List.getElem?_cons_zero, List.getElem?_cons_succ, Int.reduceToNat, ↓reduceIte, Nat.reduceEqDiff, Nat.reduceDiv, Nat.reduceAdd, Nat.reduceLeDiff, Nat.zero_le, true_and, and_true, true_or, or_true, mm_b0, mm_b1, mm_lc_lt, mm_lc_le, mm_lc_gt, mm_lc_ge, mm_lc_eq, Int.not_lt, Int.not_le, Decidable.not_not, Int.sub_neg, ho, o1, l1, e0, e1]
        refine ⟨by omega, by omega, h _ ((n + 1 : Nat) : Int) ⟨by omega, by omega, fun _ => by rw [en]; exact hk, fun j j0 j1 => d j j0 j1, fun j j0 j1 => ?_, ?_, fun j j0 j1 => ?_⟩ (mm_up_s _ _ _ _) (fun o' c1 c2 => by rw [mm_up_o _ _ c1, mm_up_o _ _ c2, a o' c2])⟩
        · rw [mm_up_o _ _ (by omega), mm_up_i _ (by omega)]
          exact b j j0 j1
        · rw [mm_up_o _ _ (by omega), mm_up_s]
        · rw [mm_up_o _ _ (by omega), mm_up_i _ (by omega)]
          exact c j j0 j1
      refine hJ 15 _ _ _ (show mm_wp _ _ _ mo_Srt_insert_15 _ _ _ from ?_)
      simp only [mo_Srt_insert_15, mm_wp, mm_ldi, mm_lda, mm_ldl, mm_sti, mm_sta, mm_stl, mm_inc, mm_2i, mm_mm, mm_2l, mm_lcmp, mm_i2l, mm_l2i, mm_cast8, mm_if1, mm_if2, mm_cmp, mm_swi, mm_sw, mm_pop1, mm_dup, mm_dup2, mm_geti, mm_geta, mm_puti, mm_iald, mm_bald, mm_aald, mm_iast, mm_bast, mm_alen, mm_acpy, mm_call, mm_callv, mm_recv, mm_pop, mm_find, mm_push, mm_cats, mm_cat, mm_reti, mm_retz, mm_retl, mm_reta, mm_retv, mm_set1, mm_set2, mm_kill, List.getElem?_cons_zero, List.getElem?_cons_succ, Int.reduceToNat, ↓reduceIte, Nat.reduceEqDiff, Nat.reduceDiv, Nat.reduceAdd, Nat.reduceLeDiff, Nat.zero_le, true_and, and_true, true_or, or_true, mm_b0, mm_b1, mm_lc_lt, mm_lc_le, mm_lc_gt, mm_lc_ge, mm_lc_eq, Int.not_lt, Int.not_le, Decidable.not_not, Int.sub_neg, ho, o1, l1, en, eb]
      refine ⟨fun q => by omega, fun _ => ⟨by omega, by omega, fun q => h51 q, fun q => ⟨by omega, by omega, by omega, ?_⟩⟩⟩
      rw [show ((n + 1 : Nat) : Int) + -1 = n by omega]
      refine ⟨by omega, ih _ (by omega) (fun o' c1 => by rw [mm_up_o _ _ c1, a o' c1]) (fun j j0 j1 => by rw [mm_up_i _ (by omega)]; exact b j j0 (by omega)) (fun j j0 j1 => ?_) (fun j j0 j1 => ?_)⟩
      · rw [mm_up_if]
        by_cases hj : j = ((n + 1 : Nat) : Int)
        · rw [if_pos hj, hj, en]
        · rw [if_neg hj]; exact c j (by omega) j1
      · by_cases hj : j = (n : Int)
        · rw [hj]; exact q
        · exact d j (by omega) j1
  have h10 : J 10 [some (vr o), some (vi key), none] [] M := by
    refine hJ 10 _ _ _ (show mm_wp _ _ _ mo_Srt_insert_10 _ _ _ from ?_)
    simp only [mo_Srt_insert_10, mm_wp, mm_ldi, mm_lda, mm_ldl, mm_sti, mm_sta, mm_stl, mm_inc, mm_2i, mm_mm, mm_2l, mm_lcmp, mm_i2l, mm_l2i, mm_cast8, mm_if1, mm_if2, mm_cmp, mm_swi, mm_sw, mm_pop1, mm_dup, mm_dup2, mm_geti, mm_geta, mm_puti, mm_iald, mm_bald, mm_aald, mm_iast, mm_bast, mm_alen, mm_acpy, mm_call, mm_callv, mm_recv, mm_pop, mm_find, mm_push, mm_cats, mm_cat, mm_reti, mm_retz, mm_retl, mm_reta, mm_retv, mm_set1, mm_set2, mm_kill, List.getElem?_cons_zero, List.getElem?_cons_succ, Int.reduceToNat, ↓reduceIte, Nat.reduceEqDiff, Nat.reduceDiv, Nat.reduceAdd, Nat.reduceLeDiff, Nat.zero_le, true_and, and_true, true_or, or_true, mm_b0, mm_b1, mm_lc_lt, mm_lc_le, mm_lc_gt, mm_lc_ge, mm_lc_eq, Int.not_lt, Int.not_le, Decidable.not_not, Int.sub_neg, ho]
    have := hl (M o 1).toNat M (by omega) (fun _ _ => rfl) (fun _ _ _ => rfl) (fun j j0 j1 => by omega) (fun j j0 j1 => by omega)
    rw [Int.toNat_of_nonneg h1] at this
    exact this
  refine hJ 0 _ _ _ (show mm_wp _ _ _ mo_Srt_insert_0 _ _ _ from ?_)
  simp only [mo_Srt_insert_0, mm_wp, mm_ldi, mm_lda, mm_ldl, mm_sti, mm_sta, mm_stl, mm_inc, mm_2i, mm_mm, mm_2l, mm_lcmp, mm_i2l, mm_l2i, mm_cast8, mm_if1, mm_if2, mm_cmp, mm_swi, mm_sw, mm_pop1, mm_dup, mm_dup2, mm_geti, mm_geta, mm_puti, mm_iald, mm_bald, mm_aald, mm_iast, mm_bast, mm_alen, mm_acpy, mm_call, mm_callv, mm_recv, mm_pop, mm_find, mm_push, mm_cats, mm_cat, mm_reti, mm_retz, mm_retl, mm_reta, mm_retv, mm_set1, mm_set2, mm_kill, List.getElem?_cons_zero, List.getElem?_cons_succ, Int.reduceToNat, ↓reduceIte, Nat.reduceEqDiff, Nat.reduceDiv, Nat.reduceAdd, Nat.reduceLeDiff, Nat.zero_le, true_and, and_true, true_or, or_true, mm_b0, mm_b1, mm_lc_lt, mm_lc_le, mm_lc_gt, mm_lc_ge, mm_lc_eq, Int.not_lt, Int.not_le, Decidable.not_not, Int.sub_neg, ho]
  exact ⟨fun _ => h10, fun q => by omega⟩
def t_Srt_question : mmT := fun as M Q => match as with
  | [.inr (.inr o), .inl i] => isSrt o ∧ M o 1 ≤ 25 ∧ Q (some (vi (if 0 ≤ i ∧ i < M o 1 then (M (o + 1) i).tmod 32 else -1))) M
  | _ => False
set_option maxHeartbeats 4000000 in
set_option maxRecDepth 100000 in
theorem p_Srt_question : ∀ as M Q, (∀ v ∈ as, mm_vin v) → mm_mem M → t_Srt_question as M Q → (mm_ent as).length ≤ 2 ∧ mm_ok mb_Srt_question [] (mm_entry 2 as) M Q := by
  intro as M Q hin hM h
  unfold t_Srt_question at h
  split at h
  rotate_left
  · exact h.elim
  rename_i o i
  have hR_i : mm_R i := hin (vi i) (by simp)
  refine ⟨by simp [mm_ent], (show mm_ok mb_Srt_question [] [some (vr o), some (vi i)] M Q from ?_)⟩
  intro J hJ
  obtain ⟨⟨ho, o1, l1⟩, h1, h⟩ := h
  repeat' first | (refine And.intro ?_ ?_) | (intro _) | (refine hJ 0 _ _ _ ?_; show mm_wp _ _ _ mo_Srt_question_0 _ _ _; simp only [mo_Srt_question_0, mm_wp, mm_ldi, mm_lda, mm_ldl, mm_sti, mm_sta, mm_stl, mm_inc, mm_2i, mm_mm, mm_2l, mm_lcmp, mm_i2l, mm_l2i, mm_cast8, mm_if1, mm_if2, mm_cmp, mm_swi, mm_sw, mm_pop1, mm_dup, mm_dup2, mm_geti, mm_geta, mm_puti, mm_iald, mm_bald, mm_aald, mm_iast, mm_bast, mm_alen, mm_acpy, mm_call, mm_callv, mm_recv, mm_pop, mm_find, mm_push, mm_cats, mm_cat, mm_reti, mm_retz, mm_retl, mm_reta, mm_retv, mm_set1, mm_set2, mm_kill, List.getElem?_cons_zero, List.getElem?_cons_succ, Int.reduceToNat, ↓reduceIte, Nat.reduceEqDiff, Nat.reduceDiv, Nat.reduceAdd, Nat.reduceLeDiff, Nat.zero_le, true_and, and_true, true_or, or_true, mm_b0, mm_b1, mm_lc_lt, mm_lc_le, mm_lc_gt, mm_lc_ge, mm_lc_eq, Int.not_lt, Int.not_le, Decidable.not_not, Int.sub_neg, ho, o1, l1]) | (refine hJ 24 _ _ _ ?_; show mm_wp _ _ _ mo_Srt_question_24 _ _ _; simp only [mo_Srt_question_24, mm_wp, mm_ldi, mm_lda, mm_ldl, mm_sti, mm_sta, mm_stl, mm_inc, mm_2i, mm_mm, mm_2l, mm_lcmp, mm_i2l, mm_l2i, mm_cast8, mm_if1, mm_if2, mm_cmp, mm_swi, mm_sw, mm_pop1, mm_dup, mm_dup2, mm_geti, mm_geta, mm_puti, mm_iald, mm_bald, mm_aald, mm_iast, mm_bast, mm_alen, mm_acpy, mm_call, mm_callv, mm_recv, mm_pop, mm_find, mm_push, mm_cats, mm_cat, mm_reti, mm_retz, mm_retl, mm_reta, mm_retv, mm_set1, mm_set2, mm_kill, List.getElem?_cons_zero, List.getElem?_cons_succ, Int.reduceToNat, ↓reduceIte, Nat.reduceEqDiff, Nat.reduceDiv, Nat.reduceAdd, Nat.reduceLeDiff, Nat.zero_le, true_and, and_true, true_or, or_true, mm_b0, mm_b1, mm_lc_lt, mm_lc_le, mm_lc_gt, mm_lc_ge, mm_lc_eq, Int.not_lt, Int.not_le, Decidable.not_not, Int.sub_neg, ho, o1, l1]) | (refine hJ 25 _ _ _ ?_; show mm_wp _ _ _ mo_Srt_question_25 _ _ _; simp only [mo_Srt_question_25, mm_wp, mm_ldi, mm_lda, mm_ldl, mm_sti, mm_sta, mm_stl, mm_inc, mm_2i, mm_mm, mm_2l, mm_lcmp, mm_i2l, mm_l2i, mm_cast8, mm_if1, mm_if2, mm_cmp, mm_swi, mm_sw, mm_pop1, mm_dup, mm_dup2, mm_geti, mm_geta, mm_puti, mm_iald, mm_bald, mm_aald, mm_iast, mm_bast, mm_alen, mm_acpy, mm_call, mm_callv, mm_recv, mm_pop, mm_find, mm_push, mm_cats, mm_cat, mm_reti, mm_retz, mm_retl, mm_reta, mm_retv, mm_set1, mm_set2, mm_kill, List.getElem?_cons_zero, List.getElem?_cons_succ, Int.reduceToNat, ↓reduceIte, Nat.reduceEqDiff, Nat.reduceDiv, Nat.reduceAdd, Nat.reduceLeDiff, Nat.zero_le, true_and, and_true, true_or, or_true, mm_b0, mm_b1, mm_lc_lt, mm_lc_le, mm_lc_gt, mm_lc_ge, mm_lc_eq, Int.not_lt, Int.not_le, Decidable.not_not, Int.sub_neg, ho, o1, l1])
  all_goals first | assumption | (exact Or.inl rfl) | (exact Or.inr rfl) | (exact rfl) | trivial | omega | (rw [if_neg (by omega)] at h; exact h) | (rw [if_pos (by omega)] at h; exact h)
def t_Srt_goesOn : mmT := fun as M Q => match as with
  | [.inr (.inr o), .inl i] => isSrt o ∧ M o 1 ≤ 25 ∧ Q (some (vi (mm_b (0 < i ∧ i < M o 1 ∧ (M (o + 1) i).tdiv 2048 = (M (o + 1) (i - 1)).tdiv 2048)))) M
  | _ => False
set_option maxHeartbeats 4000000 in
set_option maxRecDepth 100000 in
theorem p_Srt_goesOn : ∀ as M Q, (∀ v ∈ as, mm_vin v) → mm_mem M → t_Srt_goesOn as M Q → (mm_ent as).length ≤ 3 ∧ mm_ok mb_Srt_goesOn [] (mm_entry 3 as) M Q := by
  intro as M Q hin hM h
  unfold t_Srt_goesOn at h
  split at h
  rotate_left
  · exact h.elim
  rename_i o i
  have hR_i : mm_R i := hin (vi i) (by simp)
  refine ⟨by simp [mm_ent], (show mm_ok mb_Srt_goesOn [] [some (vr o), some (vi i), none] M Q from ?_)⟩
  intro J hJ
  obtain ⟨⟨ho, o1, l1⟩, h1, h⟩ := h
  repeat' first | (refine And.intro ?_ ?_) | (intro _) | (refine hJ 0 _ _ _ ?_; show mm_wp _ _ _ mo_Srt_goesOn_0 _ _ _; simp only [mo_Srt_goesOn_0, mm_wp, mm_ldi, mm_lda, mm_ldl, mm_sti, mm_sta, mm_stl, mm_inc, mm_2i, mm_mm, mm_2l, mm_lcmp, mm_i2l, mm_l2i, mm_cast8, mm_if1, mm_if2, mm_cmp, mm_swi, mm_sw, mm_pop1, mm_dup, mm_dup2, mm_geti, mm_geta, mm_puti, mm_iald, mm_bald, mm_aald, mm_iast, mm_bast, mm_alen, mm_acpy, mm_call, mm_callv, mm_recv, mm_pop, mm_find, mm_push, mm_cats, mm_cat, mm_reti, mm_retz, mm_retl, mm_reta, mm_retv, mm_set1, mm_set2, mm_kill, List.getElem?_cons_zero, List.getElem?_cons_succ, Int.reduceToNat, ↓reduceIte, Nat.reduceEqDiff, Nat.reduceDiv, Nat.reduceAdd, Nat.reduceLeDiff, Nat.zero_le, true_and, and_true, true_or, or_true, mm_b0, mm_b1, mm_lc_lt, mm_lc_le, mm_lc_gt, mm_lc_ge, mm_lc_eq, Int.not_lt, Int.not_le, Decidable.not_not, Int.sub_neg, ho, o1, l1]) | (refine hJ 41 _ _ _ ?_; show mm_wp _ _ _ mo_Srt_goesOn_41 _ _ _; simp only [mo_Srt_goesOn_41, mm_wp, mm_ldi, mm_lda, mm_ldl, mm_sti, mm_sta, mm_stl, mm_inc, mm_2i, mm_mm, mm_2l, mm_lcmp, mm_i2l, mm_l2i, mm_cast8, mm_if1, mm_if2, mm_cmp, mm_swi, mm_sw, mm_pop1, mm_dup, mm_dup2, mm_geti, mm_geta, mm_puti, mm_iald, mm_bald, mm_aald, mm_iast, mm_bast, mm_alen, mm_acpy, mm_call, mm_callv, mm_recv, mm_pop, mm_find, mm_push, mm_cats, mm_cat, mm_reti, mm_retz, mm_retl, mm_reta, mm_retv, mm_set1, mm_set2, mm_kill, List.getElem?_cons_zero, List.getElem?_cons_succ, Int.reduceToNat, ↓reduceIte, Nat.reduceEqDiff, Nat.reduceDiv, Nat.reduceAdd, Nat.reduceLeDiff, Nat.zero_le, true_and, and_true, true_or, or_true, mm_b0, mm_b1, mm_lc_lt, mm_lc_le, mm_lc_gt, mm_lc_ge, mm_lc_eq, Int.not_lt, Int.not_le, Decidable.not_not, Int.sub_neg, ho, o1, l1]) | (refine hJ 42 _ _ _ ?_; show mm_wp _ _ _ mo_Srt_goesOn_42 _ _ _; simp only [mo_Srt_goesOn_42, mm_wp, mm_ldi, mm_lda, mm_ldl, mm_sti, mm_sta, mm_stl, mm_inc, mm_2i, mm_mm, mm_2l, mm_lcmp, mm_i2l, mm_l2i, mm_cast8, mm_if1, mm_if2, mm_cmp, mm_swi, mm_sw, mm_pop1, mm_dup, mm_dup2, mm_geti, mm_geta, mm_puti, mm_iald, mm_bald, mm_aald, mm_iast, mm_bast, mm_alen, mm_acpy, mm_call, mm_callv, mm_recv, mm_pop, mm_find, mm_push, mm_cats, mm_cat, mm_reti, mm_retz, mm_retl, mm_reta, mm_retv, mm_set1, mm_set2, mm_kill, List.getElem?_cons_zero, List.getElem?_cons_succ, Int.reduceToNat, ↓reduceIte, Nat.reduceEqDiff, Nat.reduceDiv, Nat.reduceAdd, Nat.reduceLeDiff, Nat.zero_le, true_and, and_true, true_or, or_true, mm_b0, mm_b1, mm_lc_lt, mm_lc_le, mm_lc_gt, mm_lc_ge, mm_lc_eq, Int.not_lt, Int.not_le, Decidable.not_not, Int.sub_neg, ho, o1, l1])
  all_goals first | assumption | (exact Or.inl rfl) | (exact Or.inr rfl) | (exact rfl) | trivial | omega | (rw [mm_bF (by omega)] at h; exact h) | (rw [mm_bT ⟨by omega, by omega, by assumption⟩] at h; exact h) | (rw [mm_bF (by intro q; have := q.2.2; contradiction)] at h; exact h)
end
section
/-! the order of questions: keys, and a row of questions in their order -/
def tb (outer inner : Int) : Int := if outer % 2 = 0 then inner else 63 - inner
/-- the curve's number, n more halvings from s on -/
def cvF : Nat → Int → Int → Int → Int → Int
  | 0, _, _, _, d => d
  | n + 1, s, x, y, d => if x / s % 2 = 0 then (if y / s % 2 = 0 then cvF n (s / 2) y x (d + s * s * 0) else cvF n (s / 2) x y (d + s * s * 1)) else (if y / s % 2 = 0 then cvF n (s / 2) (63 - y) (63 - x) (d + s * s * 3) else cvF n (s / 2) x y (d + s * s * 2))
def cv (x y : Int) : Int := cvF 6 32 x y 0
theorem cvF_b1 (x y d : Int) : d ≤ cvF 1 1 x y d ∧ cvF 1 1 x y d ≤ d + 3 := by
  unfold cvF
  simp only [cvF]
  split <;> split <;> omega
theorem cvF_b2 (x y d : Int) : d ≤ cvF 2 2 x y d ∧ cvF 2 2 x y d ≤ d + 15 := by
  unfold cvF
  rw [show (2 : Int) / 2 = 1 by decide]
  split <;> split
  · have := cvF_b1 y x (d + 2 * 2 * 0); omega
  · have := cvF_b1 x y (d + 2 * 2 * 1); omega
  · have := cvF_b1 (63 - y) (63 - x) (d + 2 * 2 * 3); omega
  · have := cvF_b1 x y (d + 2 * 2 * 2); omega
theorem cvF_b3 (x y d : Int) : d ≤ cvF 3 4 x y d ∧ cvF 3 4 x y d ≤ d + 63 := by
  unfold cvF
  rw [show (4 : Int) / 2 = 2 by decide]
  split <;> split
  · have := cvF_b2 y x (d + 4 * 4 * 0); omega
  · have := cvF_b2 x y (d + 4 * 4 * 1); omega
  · have := cvF_b2 (63 - y) (63 - x) (d + 4 * 4 * 3); omega
  · have := cvF_b2 x y (d + 4 * 4 * 2); omega
theorem cvF_b4 (x y d : Int) : d ≤ cvF 4 8 x y d ∧ cvF 4 8 x y d ≤ d + 255 := by
  unfold cvF
  rw [show (8 : Int) / 2 = 4 by decide]
  split <;> split
  · have := cvF_b3 y x (d + 8 * 8 * 0); omega
  · have := cvF_b3 x y (d + 8 * 8 * 1); omega
  · have := cvF_b3 (63 - y) (63 - x) (d + 8 * 8 * 3); omega
  · have := cvF_b3 x y (d + 8 * 8 * 2); omega
theorem cvF_b5 (x y d : Int) : d ≤ cvF 5 16 x y d ∧ cvF 5 16 x y d ≤ d + 1023 := by
  unfold cvF
  rw [show (16 : Int) / 2 = 8 by decide]
  split <;> split
  · have := cvF_b4 y x (d + 16 * 16 * 0); omega
  · have := cvF_b4 x y (d + 16 * 16 * 1); omega
  · have := cvF_b4 (63 - y) (63 - x) (d + 16 * 16 * 3); omega
  · have := cvF_b4 x y (d + 16 * 16 * 2); omega
theorem cvF_b6 (x y d : Int) : d ≤ cvF 6 32 x y d ∧ cvF 6 32 x y d ≤ d + 4095 := by
  unfold cvF
  rw [show (32 : Int) / 2 = 16 by decide]
  split <;> split
  · have := cvF_b5 y x (d + 32 * 32 * 0); omega
  · have := cvF_b5 x y (d + 32 * 32 * 1); omega
  · have := cvF_b5 (63 - y) (63 - x) (d + 32 * 32 * 3); omega
  · have := cvF_b5 x y (d + 32 * 32 * 2); omega
theorem cv_b (x y : Int) : 0 ≤ cv x y ∧ cv x y < 4096 := by
  have := cvF_b6 x y 0
  unfold cv
  omega
theorem dB {f b : Int} (h0 : 0 ≤ f) (h1 : f < 64) (hb : 1 ≤ b) : 0 ≤ f / b ∧ f / b < 64 ∧ f / b ≤ f ∧ f.tdiv b = f / b := by
  have a := Int.ediv_nonneg h0 (show 0 ≤ b by omega)
  have c := Int.ediv_le_self b h0
  exact ⟨a, by omega, c, Int.tdiv_eq_ediv_of_nonneg h0⟩
theorem tb_b {o i : Int} (h0 : 0 ≤ i) (h1 : i < 64) : 0 ≤ tb o i ∧ tb o i < 64 := by
  unfold tb
  split <;> omega
/-- what a question is laid by, but for its number -/
def pA (ord b f l t : Int) : Int := if ord = 0 then ((f / b) * 64 + l / b) * 64 + t else if ord = 2 then cv (f / b) (l / b) * 64 + t else ((f / b) * 64 + tb (f / b) (l / b)) * 64 + tb (l / b) t
/-- the row P of n questions holds just those of S, in the order of w -/
def isOrd (S : Int → Prop) (w P : Int → Int) (n : Int) : Prop := 0 ≤ n ∧ (∀ i, 0 ≤ i → i < n → S (P i)) ∧ (∀ i j, 0 ≤ i → i < j → j < n → w (P i) < w (P j)) ∧ ∀ q, S q → ∃ i, 0 ≤ i ∧ i < n ∧ P i = q
theorem isOrd_len {S : Int → Prop} {w w' P P' : Int → Int} {n n' : Int} (h : isOrd S w P n) (h' : isOrd S w' P' n') (hw : ∀ q r, S q → S r → (w q < w r ↔ w' q < w' r)) : ∀ k : Nat, (k : Int) ≤ n → (∀ i : Int, 0 ≤ i → i < k → i < n' ∧ P i = P' i) := by
  obtain ⟨a0, a1, a2, a3⟩ := h
  obtain ⟨b0, b1, b2, b3⟩ := h'
  intro k
  induction k with
  | zero => intro _ i i0 i1; omega
  | succ k ih =>
    intro hk i i0 i1
    have ih := ih (by omega)
    by_cases hi : i < k
    · exact ih i i0 hi
    · have hik : i = (k : Int) := by omega
      subst hik
      have hn : (k : Int) < n := by omega
      have s0 := a1 k i0 hn
      obtain ⟨j, j0, j1, j2⟩ := b3 _ s0
      rcases Int.lt_trichotomy j k with c | c | c
      · have e := (ih j j0 c).2
        have := a2 j k j0 c hn
        rw [e, j2] at this
        omega
      · subst c
        exact ⟨j1, j2.symm⟩
      · exfalso
        have hkn' : (k : Int) < n' := by omega
        have s1 := b1 k i0 hkn'
        obtain ⟨m, m0, m1, m2⟩ := a3 _ s1
        have w1 := b2 k j i0 c j1
        rw [j2] at w1
        have w2 := (hw _ _ s1 s0).mpr w1
        rw [← m2] at w2
        rcases Int.lt_trichotomy m k with d | d | d
        · have e := (ih m m0 d).2
          rw [m2] at e
          have w3 := b2 m k m0 d hkn'
          rw [← e] at w3
          omega
        · rw [d] at w2; omega
        · have := a2 k m i0 d m1
          omega
theorem isOrd_uniq {S : Int → Prop} {w w' P P' : Int → Int} {n n' : Int} (h : isOrd S w P n) (h' : isOrd S w' P' n') (hw : ∀ q r, S q → S r → (w q < w r ↔ w' q < w' r)) : n = n' ∧ ∀ i, 0 ≤ i → i < n → P i = P' i := by
  have e1 := isOrd_len h h' hw n.toNat (by have := h.1; omega)
  have e2 := isOrd_len h' h (fun q r a b => (hw q r a b).symm) n'.toNat (by have := h'.1; omega)
  have f1 : n ≤ n' := by
    rcases Int.lt_or_le 0 n with c | c
    · have := (e1 (n - 1) (by omega) (by omega)).1
      omega
    · have := h'.1; omega
  have f2 : n' ≤ n := by
    rcases Int.lt_or_le 0 n' with c | c
    · have := (e2 (n' - 1) (by omega) (by omega)).1
      omega
    · have := h.1; omega
  exact ⟨by omega, fun i i0 i1 => (e1 i i0 (by omega)).2⟩
theorem isOrd_cong {S S' : Int → Prop} {w w' P P' : Int → Int} {n : Int} (h : isOrd S w P n) (hS : ∀ q, S q ↔ S' q) (hw : ∀ q, S q → w q = w' q) (hP : ∀ i, 0 ≤ i → i < n → P i = P' i) : isOrd S' w' P' n := by
  obtain ⟨a0, a1, a2, a3⟩ := h
  refine ⟨a0, fun i i0 i1 => ?_, fun i j i0 ij j1 => ?_, fun q hq => ?_⟩
  · rw [← hP i i0 i1]; exact (hS _).mp (a1 i i0 i1)
  · rw [← hP i i0 (by omega), ← hP j (by omega) j1, ← hw _ (a1 i i0 (by omega)), ← hw _ (a1 j (by omega) j1)]
    exact a2 i j i0 ij j1
  · obtain ⟨i, i0, i1, i2⟩ := a3 q ((hS q).mpr hq)
    exact ⟨i, i0, i1, by rw [← hP i i0 i1]; exact i2⟩
/-- keys that hold their question's number, sorted -/
def isKey (S : Int → Prop) (key K : Int → Int) (n : Int) : Prop := isOrd S key (fun i => (K i).tmod 32) n ∧ ∀ i, 0 ≤ i → i < n → K i = key ((K i).tmod 32)
theorem isKey_0 {S : Int → Prop} {key K : Int → Int} (h : ∀ q, ¬ S q) : isKey S key K 0 := ⟨⟨by omega, fun i i0 i1 => by omega, fun i j i0 ij j1 => by omega, fun q hq => absurd hq (h q)⟩, fun i i0 i1 => by omega⟩
theorem isKey_ins {S : Int → Prop} {key K K' : Int → Int} {n q p : Int} (h : isKey S key K n) (hq : ¬ S q) (hk : (key q).tmod 32 = q) (hi : sIns K K' n (key q) p) : isKey (fun z => S z ∨ z = q) key K' (n + 1) := by
  obtain ⟨⟨a0, a1, a2, a3⟩, a4⟩ := h
  obtain ⟨p0, p1, p2, p3, p4, p5, p6⟩ := hi
  have lo : ∀ i, 0 ≤ i → i < p → K i < key q := by
    intro i i0 i1
    have h1 := p2 (by omega)
    have h2 : K (p - 1) ≠ key q := by
      intro e
      have := a1 (p - 1) (by omega) (by omega)
      simp only [e, hk] at this
      exact hq this
    by_cases hip : i = p - 1
    · rw [hip]; omega
    · have := a2 i (p - 1) i0 (by omega) (by omega)
      simp only at this
      rw [← a4 i i0 (by omega), ← a4 (p - 1) (by omega) (by omega)] at this
      omega
  have val : ∀ i, 0 ≤ i → i < n + 1 → (i < p ∧ K' i = K i) ∨ (i = p ∧ K' i = key q) ∨ (p < i ∧ K' i = K (i - 1)) := by
    intro i i0 i1
    rcases Int.lt_trichotomy i p with c | c | c
    · exact Or.inl ⟨c, p4 i i0 c⟩
    · exact Or.inr (Or.inl ⟨c, by rw [c]; exact p5⟩)
    · exact Or.inr (Or.inr ⟨c, p6 i c (by omega)⟩)
  have keyv : ∀ i, 0 ≤ i → i < n + 1 → K' i = key ((K' i).tmod 32) := by
    intro i i0 i1
    rcases val i i0 i1 with ⟨c, e⟩ | ⟨c, e⟩ | ⟨c, e⟩
    · rw [e]; exact a4 i i0 (by omega)
    · rw [e, hk]
    · rw [e]; exact a4 (i - 1) (by omega) (by omega)
  refine ⟨⟨by omega, fun i i0 i1 => ?_, fun i j i0 ij j1 => ?_, fun z hz => ?_⟩, keyv⟩
  · rcases val i i0 i1 with ⟨c, e⟩ | ⟨c, e⟩ | ⟨c, e⟩
    · simp only [e]; exact Or.inl (a1 i i0 (by omega))
    · simp only [e, hk]; exact Or.inr trivial
    · simp only [e]; exact Or.inl (a1 (i - 1) (by omega) (by omega))
  · simp only
    rw [← keyv i i0 (by omega), ← keyv j (by omega) j1]
    have srt : ∀ x y, 0 ≤ x → x < y → y < n → K x < K y := by
      intro x y x0 xy y1
      have := a2 x y x0 xy y1
      simp only at this
      rwa [← a4 x x0 (by omega), ← a4 y (by omega) y1] at this
    rcases val i i0 (by omega) with ⟨c, e⟩ | ⟨c, e⟩ | ⟨c, e⟩ <;> rcases val j (by omega) j1 with ⟨c', e'⟩ | ⟨c', e'⟩ | ⟨c', e'⟩ <;> rw [e, e']
    · exact srt i j i0 ij (by omega)
    · exact lo i i0 c
    · exact srt i (j - 1) i0 (by omega) (by omega)
    · omega
    · omega
    · exact p3 (j - 1) (by omega) (by omega)
    · omega
    · omega
    · exact srt (i - 1) (j - 1) (by omega) (by omega) (by omega)
  · rcases hz with hz | hz
    · obtain ⟨i, i0, i1, i2⟩ := a3 z hz
      by_cases c : i < p
      · exact ⟨i, i0, by omega, by simp only; rw [p4 i i0 c]; exact i2⟩
      · refine ⟨i + 1, by omega, by omega, ?_⟩
        simp only
        rw [p6 (i + 1) (by omega) (by omega), show i + 1 - 1 = i by omega]
        exact i2
    · exact ⟨p, p0, by omega, by simp only; rw [p5, hk, hz]⟩
end
section
/-! the planner's Plan -/
theorem mm_and_bit : ∀ (k : Fin 6) (x : Fin 64), (mm_and (x.val : Int) (2 ^ k.val) = 0 ↔ (x.val : Int) / 2 ^ k.val % 2 = 0) := by decide +kernel
theorem mm_andB (k : Nat) (s : Int) (hk : k < 6) (hs : (2 : Int) ^ k = s) {x : Int} (h0 : 0 ≤ x) (h1 : x < 64) : mm_and x s = 0 ↔ x / s % 2 = 0 := by
  have := mm_and_bit ⟨k, hk⟩ ⟨x.toNat, by omega⟩
  simp only [Int.toNat_of_nonneg h0, hs] at this
  exact this
theorem xr00 : mm_xor (3 * 0) 0 = 0 := by decide +kernel
theorem xr01 : mm_xor (3 * 0) 1 = 1 := by decide +kernel
theorem xr10 : mm_xor (3 * 1) 0 = 3 := by decide +kernel
theorem xr11 : mm_xor (3 * 1) 1 = 2 := by decide +kernel
def t_Plan_thereAndBack : mmT := fun as M Q => match as with
  | [.inl a, .inl b] => (0 ≤ a ∧ 0 ≤ b ∧ b < 64) ∧ Q (some (vi (tb a b))) M
  | _ => False
set_option maxHeartbeats 4000000 in
set_option maxRecDepth 100000 in
theorem p_Plan_thereAndBack : ∀ as M Q, (∀ v ∈ as, mm_vin v) → mm_mem M → t_Plan_thereAndBack as M Q → (mm_ent as).length ≤ 2 ∧ mm_ok mb_Plan_thereAndBack [] (mm_entry 2 as) M Q := by
  intro as M Q hin hM h
  unfold t_Plan_thereAndBack at h
  split at h
  rotate_left
  · exact h.elim
  rename_i a b
  have hR_a : mm_R a := hin (vi a) (by simp)
  have hR_b : mm_R b := hin (vi b) (by simp)
  refine ⟨by simp [mm_ent], (show mm_ok mb_Plan_thereAndBack [] [some (vi a), some (vi b)] M Q from ?_)⟩
  intro J hJ
  obtain ⟨⟨h1, h2, h3⟩, h⟩ := h
  unfold tb at h
  repeat' first | (refine And.intro ?_ ?_) | (intro _) | (refine hJ 0 _ _ _ ?_; show mm_wp _ _ _ mo_Plan_thereAndBack_0 _ _ _; simp only [mo_Plan_thereAndBack_0, mm_wp, mm_ldi, mm_lda, mm_ldl, mm_sti, mm_sta, mm_stl, mm_inc, mm_2i, mm_mm, mm_2l, mm_lcmp, mm_i2l, mm_l2i, mm_cast8, mm_if1, mm_if2, mm_cmp, mm_swi, mm_sw, mm_pop1, mm_dup, mm_dup2, mm_geti, mm_geta, mm_puti, mm_iald, mm_bald, mm_aald, mm_iast, mm_bast, mm_alen, mm_acpy, mm_call, mm_callv, mm_recv, mm_pop, mm_find, mm_push, mm_cats, mm_cat, mm_reti, mm_retz, mm_retl, mm_reta, mm_retv, mm_set1, mm_set2, mm_kill, List.getElem?_cons_zero, List.getElem?_cons_succ, Int.reduceToNat, ↓reduceIte, Nat.reduceEqDiff, Nat.reduceDiv, Nat.reduceAdd, Nat.reduceLeDiff, Nat.zero_le, true_and, and_true, true_or, or_true, mm_b0, mm_b1, mm_lc_lt, mm_lc_le, mm_lc_gt, mm_lc_ge, mm_lc_eq, Int.not_lt, Int.not_le, Decidable.not_not, Int.sub_neg, Int.tmod_eq_emod_of_nonneg h1]) | (refine hJ 10 _ _ _ ?_; show mm_wp _ _ _ mo_Plan_thereAndBack_10 _ _ _; simp only [mo_Plan_thereAndBack_10, mm_wp, mm_ldi, mm_lda, mm_ldl, mm_sti, mm_sta, mm_stl, mm_inc, mm_2i, mm_mm, mm_2l, mm_lcmp, mm_i2l, mm_l2i, mm_cast8, mm_if1, mm_if2, mm_cmp, mm_swi, mm_sw, mm_pop1, mm_dup, mm_dup2, mm_geti, mm_geta, mm_puti, mm_iald, mm_bald, mm_aald, mm_iast, mm_bast, mm_alen, mm_acpy, mm_call, mm_callv, mm_recv, mm_pop, mm_find, mm_push, mm_cats, mm_cat, mm_reti, mm_retz, mm_retl, mm_reta, mm_retv, mm_set1, mm_set2, mm_kill, List.getElem?_cons_zero, List.getElem?_cons_succ, Int.reduceToNat, ↓reduceIte, Nat.reduceEqDiff, Nat.reduceDiv, Nat.reduceAdd, Nat.reduceLeDiff, Nat.zero_le, true_and, and_true, true_or, or_true, mm_b0, mm_b1, mm_lc_lt, mm_lc_le, mm_lc_gt, mm_lc_ge, mm_lc_eq, Int.not_lt, Int.not_le, Decidable.not_not, Int.sub_neg, Int.tmod_eq_emod_of_nonneg h1]) | (refine hJ 14 _ _ _ ?_; show mm_wp _ _ _ mo_Plan_thereAndBack_14 _ _ _; simp only [mo_Plan_thereAndBack_14, mm_wp, mm_ldi, mm_lda, mm_ldl, mm_sti, mm_sta, mm_stl, mm_inc, mm_2i, mm_mm, mm_2l, mm_lcmp, mm_i2l, mm_l2i, mm_cast8, mm_if1, mm_if2, mm_cmp, mm_swi, mm_sw, mm_pop1, mm_dup, mm_dup2, mm_geti, mm_geta, mm_puti, mm_iald, mm_bald, mm_aald, mm_iast, mm_bast, mm_alen, mm_acpy, mm_call, mm_callv, mm_recv, mm_pop, mm_find, mm_push, mm_cats, mm_cat, mm_reti, mm_retz, mm_retl, mm_reta, mm_retv, mm_set1, mm_set2, mm_kill, List.getElem?_cons_zero, List.getElem?_cons_succ, Int.reduceToNat, ↓reduceIte, Nat.reduceEqDiff, Nat.reduceDiv, Nat.reduceAdd, Nat.reduceLeDiff, Nat.zero_le, true_and, and_true, true_or, or_true, mm_b0, mm_b1, mm_lc_lt, mm_lc_le, mm_lc_gt, mm_lc_ge, mm_lc_eq, Int.not_lt, Int.not_le, Decidable.not_not, Int.sub_neg, Int.tmod_eq_emod_of_nonneg h1])
  all_goals first | assumption | (exact Or.inl rfl) | (exact Or.inr rfl) | (exact rfl) | trivial | omega | (rw [if_neg (by omega)] at h; exact h) | (rw [if_pos (by omega)] at h; exact h)
def t_Plan_curve : mmT := fun as M Q => match as with
  | [.inl x0, .inl y0] => (0 ≤ x0 ∧ x0 < 64 ∧ 0 ≤ y0 ∧ y0 < 64) ∧ Q (some (vi (cv x0 y0))) M
  | _ => False
set_option maxHeartbeats 4000000 in
set_option maxRecDepth 100000 in
theorem p_Plan_curve : ∀ as M Q, (∀ v ∈ as, mm_vin v) → mm_mem M → t_Plan_curve as M Q → (mm_ent as).length ≤ 10 ∧ mm_ok mb_Plan_curve [] (mm_entry 10 as) M Q := by
  intro as M Q hin hM h
  unfold t_Plan_curve at h
  split at h
  rotate_left
  · exact h.elim
  rename_i x0 y0
  have hR_x0 : mm_R x0 := hin (vi x0) (by simp)
  have hR_y0 : mm_R y0 := hin (vi y0) (by simp)
  refine ⟨by simp [mm_ent], (show mm_ok mb_Plan_curve [] [some (vi x0), some (vi y0), none, none, none, none, none, none, none, none] M Q from ?_)⟩
  intro J hJ
  obtain ⟨hb, h⟩ := h
  have c0 : ∀ (x y d : Int) (x6 x7 x8 x9 : Option mmV), 0 ≤ x → x < 64 → 0 ≤ y → y < 64 → 0 ≤ d → d ≤ 5000 → Q (some (vi (cvF 0 0 x y d))) M → J 11 [some (vi x0), some (vi y0), some (vi x), some (vi y), some (vi d), some (vi 0), x6, x7, x8, x9] [] M := by
    intro x y d x6 x7 x8 x9 b1 b2 b3 b4 b5 b6 hq
    have h114 : J 114 [some (vi x0), some (vi y0), some (vi x), some (vi y), some (vi d), some (vi 0), x6, x7, x8, x9] [] M := by
      refine hJ 114 _ _ _ (show mm_wp _ _ _ mo_Plan_curve_114 _ _ _ from ?_)
      simp only [mo_Plan_curve_114, mm_wp, mm_ldi, mm_lda, mm_ldl, mm_sti, mm_sta, mm_stl, mm_inc, mm_2i, mm_mm, mm_2l, mm_lcmp, mm_i2l, mm_l2i, mm_cast8, mm_if1, mm_if2, mm_cmp, mm_swi, mm_sw, mm_pop1, mm_dup, mm_dup2, mm_geti, mm_geta, mm_puti, mm_iald, mm_bald, mm_aald, mm_iast, mm_bast, mm_alen, mm_acpy, mm_call, mm_callv, mm_recv, mm_pop, mm_find, mm_push, mm_cats, mm_cat, mm_reti, mm_retz, mm_retl, mm_reta, mm_retv, mm_set1, mm_set2, mm_kill, List.getElem?_cons_zero, List.getElem?_cons_succ, Int.reduceToNat, ↓reduceIte, Nat.reduceEqDiff, Nat.reduceDiv, Nat.reduceAdd, Nat.reduceLeDiff, Nat.zero_le, true_and, and_true, true_or, or_true, mm_b0, mm_b1, mm_lc_lt, mm_lc_le, mm_lc_gt, mm_lc_ge, mm_lc_eq, Int.not_lt, Int.not_le, Decidable.not_not, Int.sub_neg]
      exact hq
    refine hJ 11 _ _ _ (show mm_wp _ _ _ mo_Plan_curve_11 _ _ _ from ?_)
    simp only [mo_Plan_curve_11, mm_wp, mm_ldi, mm_lda, mm_ldl, mm_sti, mm_sta, mm_stl, mm_inc, mm_2i, mm_mm, mm_2l, mm_lcmp, mm_i2l, mm_l2i, mm_cast8, mm_if1, mm_if2, mm_cmp, mm_swi, mm_sw, mm_pop1, mm_dup, mm_dup2, mm_geti, mm_geta, mm_puti, mm_iald, mm_bald, mm_aald, mm_iast, mm_bast, mm_alen, mm_acpy, mm_call, mm_callv, mm_recv, mm_pop, mm_find, mm_push, mm_cats, mm_cat, mm_reti, mm_retz, mm_retl, mm_reta, mm_retv, mm_set1, mm_set2, mm_kill, List.getElem?_cons_zero, List.getElem?_cons_succ, Int.reduceToNat, ↓reduceIte, Nat.reduceEqDiff, Nat.reduceDiv, Nat.reduceAdd, Nat.reduceLeDiff, Nat.zero_le, true_and, and_true, true_or, or_true, mm_b0, mm_b1, mm_lc_lt, mm_lc_le, mm_lc_gt, mm_lc_ge, mm_lc_eq, Int.not_lt, Int.not_le, Decidable.not_not, Int.sub_neg]
    exact ⟨fun _ => h114, fun q => by omega⟩
  have c1 : ∀ (x y d : Int) (x6 x7 x8 x9 : Option mmV), 0 ≤ x → x < 64 → 0 ≤ y → y < 64 → 0 ≤ d → d ≤ 4997 → Q (some (vi (cvF 1 1 x y d))) M → J 11 [some (vi x0), some (vi y0), some (vi x), some (vi y), some (vi d), some (vi 1), x6, x7, x8, x9] [] M := by
    intro x y d x6 x7 x8 x9 b1 b2 b3 b4 b5 b6 hq
    have hq : Q (some (vi (if x / 1 % 2 = 0 then (if y / 1 % 2 = 0 then cvF 0 0 y x (d + 1 * 1 * 0) else cvF 0 0 x y (d + 1 * 1 * 1)) else (if y / 1 % 2 = 0 then cvF 0 0 (63 - y) (63 - x) (d + 1 * 1 * 3) else cvF 0 0 x y (d + 1 * 1 * 2))))) M := hq
    have e1 := mm_andB 0 1 (by decide) (by decide) b1 b2
    have e2 := mm_andB 0 1 (by decide) (by decide) b3 b4
    refine hJ 11 _ _ _ (show mm_wp _ _ _ mo_Plan_curve_11 _ _ _ from ?_)
    simp only [mo_Plan_curve_11, mm_wp, mm_ldi, mm_lda, mm_ldl, mm_sti, mm_sta, mm_stl, mm_inc, mm_2i, mm_mm, mm_2l, mm_lcmp, mm_i2l, mm_l2i, mm_cast8, mm_if1, mm_if2, mm_cmp, mm_swi, mm_sw, mm_pop1, mm_dup, mm_dup2, mm_geti, mm_geta, mm_puti, mm_iald, mm_bald, mm_aald, mm_iast, mm_bast, mm_alen, mm_acpy, mm_call, mm_callv, mm_recv, mm_pop, mm_find, mm_push, mm_cats, mm_cat, mm_reti, mm_retz, mm_retl, mm_reta, mm_retv, mm_set1, mm_set2, mm_kill, List.getElem?_cons_zero, List.getElem?_cons_succ, Int.reduceToNat, ↓reduceIte, Nat.reduceEqDiff, Nat.reduceDiv, Nat.reduceAdd, Nat.reduceLeDiff, Nat.zero_le, true_and, and_true, true_or, or_true, mm_b0, mm_b1, mm_lc_lt, mm_lc_le, mm_lc_gt, mm_lc_ge, mm_lc_eq, Int.not_lt, Int.not_le, Decidable.not_not, Int.sub_neg, e1]
    refine ⟨fun q => by omega, fun _ => ?_⟩
    repeat' first | (refine And.intro ?_ ?_) | (intro _) | (refine hJ 0 _ _ _ ?_; show mm_wp _ _ _ mo_Plan_curve_0 _ _ _; simp only [mo_Plan_curve_0, mm_wp, mm_ldi, mm_lda, mm_ldl, mm_sti, mm_sta, mm_stl, mm_inc, mm_2i, mm_mm, mm_2l, mm_lcmp, mm_i2l, mm_l2i, mm_cast8, mm_if1, mm_if2, mm_cmp, mm_swi, mm_sw, mm_pop1, mm_dup, mm_dup2, mm_geti, mm_geta, mm_puti, mm_iald, mm_bald, mm_aald, mm_iast, mm_bast, mm_alen, mm_acpy, mm_call, mm_callv, mm_recv, mm_pop, mm_find, mm_push, mm_cats, mm_cat, mm_reti, mm_retz, mm_retl, mm_reta, mm_retv, mm_set1, mm_set2, mm_kill, List.getElem?_cons_zero, List.getElem?_cons_succ, Int.reduceToNat, ↓reduceIte, Nat.reduceEqDiff, Nat.reduceDiv, Nat.reduceAdd, Nat.reduceLeDiff, Nat.zero_le, true_and, and_true, true_or, or_true, mm_b0, mm_b1, mm_lc_lt, mm_lc_le, mm_lc_gt, mm_lc_ge, mm_lc_eq, Int.not_lt, Int.not_le, Decidable.not_not, Int.sub_neg, e1, e2, xr00, xr01, xr10, xr11, show Int.tdiv 1 2 = 0 by decide, Int.reduceEq, not_true_eq_false, not_false_eq_true, forall_const, false_implies, implies_true]) | (refine hJ 27 _ _ _ ?_; show mm_wp _ _ _ mo_Plan_curve_27 _ _ _; simp only [mo_Plan_curve_27, mm_wp, mm_ldi, mm_lda, mm_ldl, mm_sti, mm_sta, mm_stl, mm_inc, mm_2i, mm_mm, mm_2l, mm_lcmp, mm_i2l, mm_l2i, mm_cast8, mm_if1, mm_if2, mm_cmp, mm_swi, mm_sw, mm_pop1, mm_dup, mm_dup2, mm_geti, mm_geta, mm_puti, mm_iald, mm_bald, mm_aald, mm_iast, mm_bast, mm_alen, mm_acpy, mm_call, mm_callv, mm_recv, mm_pop, mm_find, mm_push, mm_cats, mm_cat, mm_reti, mm_retz, mm_retl, mm_reta, mm_retv, mm_set1, mm_set2, mm_kill, List.getElem?_cons_zero, List.getElem?_cons_succ, Int.reduceToNat, ↓reduceIte, Nat.reduceEqDiff, Nat.reduceDiv, Nat.reduceAdd, Nat.reduceLeDiff, Nat.zero_le, true_and, and_true, true_or, or_true, mm_b0, mm_b1, mm_lc_lt, mm_lc_le, mm_lc_gt, mm_lc_ge, mm_lc_eq, Int.not_lt, Int.not_le, Decidable.not_not, Int.sub_neg, e1, e2, xr00, xr01, xr10, xr11, show Int.tdiv 1 2 = 0 by decide, Int.reduceEq, not_true_eq_false, not_false_eq_true, forall_const, false_implies, implies_true]) | (refine hJ 28 _ _ _ ?_; show mm_wp _ _ _ mo_Plan_curve_28 _ _ _; simp only [mo_Plan_curve_28, mm_wp, mm_ldi, mm_lda, mm_ldl, mm_sti, mm_sta, mm_stl, mm_inc, mm_2i, mm_mm, mm_2l, mm_lcmp, mm_i2l, mm_l2i, mm_cast8, mm_if1, mm_if2, mm_cmp, mm_swi, mm_sw, mm_pop1, mm_dup, mm_dup2, mm_geti, mm_geta, mm_puti, mm_iald, mm_bald, mm_aald, mm_iast, mm_bast, mm_alen, mm_acpy, mm_call, mm_callv, mm_recv, mm_pop, mm_find, mm_push, mm_cats, mm_cat, mm_reti, mm_retz, mm_retl, mm_reta, mm_retv, mm_set1, mm_set2, mm_kill, List.getElem?_cons_zero, List.getElem?_cons_succ, Int.reduceToNat, ↓reduceIte, Nat.reduceEqDiff, Nat.reduceDiv, Nat.reduceAdd, Nat.reduceLeDiff, Nat.zero_le, true_and, and_true, true_or, or_true, mm_b0, mm_b1, mm_lc_lt, mm_lc_le, mm_lc_gt, mm_lc_ge, mm_lc_eq, Int.not_lt, Int.not_le, Decidable.not_not, Int.sub_neg, e1, e2, xr00, xr01, xr10, xr11, show Int.tdiv 1 2 = 0 by decide, Int.reduceEq, not_true_eq_false, not_false_eq_true, forall_const, false_implies, implies_true]) | (refine hJ 41 _ _ _ ?_; show mm_wp _ _ _ mo_Plan_curve_41 _ _ _; simp only [mo_Plan_curve_41, mm_wp, mm_ldi, mm_lda, mm_ldl, mm_sti, mm_sta, mm_stl, mm_inc, mm_2i, mm_mm, mm_2l, mm_lcmp, mm_i2l, mm_l2i, mm_cast8, mm_if1, mm_if2, mm_cmp, mm_swi, mm_sw, mm_pop1, mm_dup, mm_dup2, mm_geti, mm_geta, mm_puti, mm_iald, mm_bald, mm_aald, mm_iast, mm_bast, mm_alen, mm_acpy, mm_call, mm_callv, mm_recv, mm_pop, mm_find, mm_push, mm_cats, mm_cat, mm_reti, mm_retz, mm_retl, mm_reta, mm_retv, mm_set1, mm_set2, mm_kill, List.getElem?_cons_zero, List.getElem?_cons_succ, Int.reduceToNat, ↓reduceIte, Nat.reduceEqDiff, Nat.reduceDiv, Nat.reduceAdd, Nat.reduceLeDiff, Nat.zero_le, true_and, and_true, true_or, or_true, mm_b0, mm_b1, mm_lc_lt, mm_lc_le, mm_lc_gt, mm_lc_ge, mm_lc_eq, Int.not_lt, Int.not_le, Decidable.not_not, Int.sub_neg, e1, e2, xr00, xr01, xr10, xr11, show Int.tdiv 1 2 = 0 by decide, Int.reduceEq, not_true_eq_false, not_false_eq_true, forall_const, false_implies, implies_true]) | (refine hJ 42 _ _ _ ?_; show mm_wp _ _ _ mo_Plan_curve_42 _ _ _; simp only [mo_Plan_curve_42, mm_wp, mm_ldi, mm_lda, mm_ldl, mm_sti, mm_sta, mm_stl, mm_inc, mm_2i, mm_mm, mm_2l, mm_lcmp, mm_i2l, mm_l2i, mm_cast8, mm_if1, mm_if2, mm_cmp, mm_swi, mm_sw, mm_pop1, mm_dup, mm_dup2, mm_geti, mm_geta, mm_puti, mm_iald, mm_bald, mm_aald, mm_iast, mm_bast, mm_alen, mm_acpy, mm_call, mm_callv, mm_recv, mm_pop, mm_find, mm_push, mm_cats, mm_cat, mm_reti, mm_retz, mm_retl, mm_reta, mm_retv, mm_set1, mm_set2, mm_kill, List.getElem?_cons_zero, List.getElem?_cons_succ, Int.reduceToNat, ↓reduceIte, Nat.reduceEqDiff, Nat.reduceDiv, Nat.reduceAdd, Nat.reduceLeDiff, Nat.zero_le, true_and, and_true, true_or, or_true, mm_b0, mm_b1, mm_lc_lt, mm_lc_le, mm_lc_gt, mm_lc_ge, mm_lc_eq, Int.not_lt, Int.not_le, Decidable.not_not, Int.sub_neg, e1, e2, xr00, xr01, xr10, xr11, show Int.tdiv 1 2 = 0 by decide, Int.reduceEq, not_true_eq_false, not_false_eq_true, forall_const, false_implies, implies_true]) | (refine hJ 80 _ _ _ ?_; show mm_wp _ _ _ mo_Plan_curve_80 _ _ _; simp only [mo_Plan_curve_80, mm_wp, mm_ldi, mm_lda, mm_ldl, mm_sti, mm_sta, mm_stl, mm_inc, mm_2i, mm_mm, mm_2l, mm_lcmp, mm_i2l, mm_l2i, mm_cast8, mm_if1, mm_if2, mm_cmp, mm_swi, mm_sw, mm_pop1, mm_dup, mm_dup2, mm_geti, mm_geta, mm_puti, mm_iald, mm_bald, mm_aald, mm_iast, mm_bast, mm_alen, mm_acpy, mm_call, mm_callv, mm_recv, mm_pop, mm_find, mm_push, mm_cats, mm_cat, mm_reti, mm_retz, mm_retl, mm_reta, mm_retv, mm_set1, mm_set2, mm_kill, List.getElem?_cons_zero, List.getElem?_cons_succ, Int.reduceToNat, ↓reduceIte, Nat.reduceEqDiff, Nat.reduceDiv, Nat.reduceAdd, Nat.reduceLeDiff, Nat.zero_le, true_and, and_true, true_or, or_true, mm_b0, mm_b1, mm_lc_lt, mm_lc_le, mm_lc_gt, mm_lc_ge, mm_lc_eq, Int.not_lt, Int.not_le, Decidable.not_not, Int.sub_neg, e1, e2, xr00, xr01, xr10, xr11, show Int.tdiv 1 2 = 0 by decide, Int.reduceEq, not_true_eq_false, not_false_eq_true, forall_const, false_implies, implies_true]) | (refine hJ 81 _ _ _ ?_; show mm_wp _ _ _ mo_Plan_curve_81 _ _ _; simp only [mo_Plan_curve_81, mm_wp, mm_ldi, mm_lda, mm_ldl, mm_sti, mm_sta, mm_stl, mm_inc, mm_2i, mm_mm, mm_2l, mm_lcmp, mm_i2l, mm_l2i, mm_cast8, mm_if1, mm_if2, mm_cmp, mm_swi, mm_sw, mm_pop1, mm_dup, mm_dup2, mm_geti, mm_geta, mm_puti, mm_iald, mm_bald, mm_aald, mm_iast, mm_bast, mm_alen, mm_acpy, mm_call, mm_callv, mm_recv, mm_pop, mm_find, mm_push, mm_cats, mm_cat, mm_reti, mm_retz, mm_retl, mm_reta, mm_retv, mm_set1, mm_set2, mm_kill, List.getElem?_cons_zero, List.getElem?_cons_succ, Int.reduceToNat, ↓reduceIte, Nat.reduceEqDiff, Nat.reduceDiv, Nat.reduceAdd, Nat.reduceLeDiff, Nat.zero_le, true_and, and_true, true_or, or_true, mm_b0, mm_b1, mm_lc_lt, mm_lc_le, mm_lc_gt, mm_lc_ge, mm_lc_eq, Int.not_lt, Int.not_le, Decidable.not_not, Int.sub_neg, e1, e2, xr00, xr01, xr10, xr11, show Int.tdiv 1 2 = 0 by decide, Int.reduceEq, not_true_eq_false, not_false_eq_true, forall_const, false_implies, implies_true]) | (refine hJ 96 _ _ _ ?_; show mm_wp _ _ _ mo_Plan_curve_96 _ _ _; simp only [mo_Plan_curve_96, mm_wp, mm_ldi, mm_lda, mm_ldl, mm_sti, mm_sta, mm_stl, mm_inc, mm_2i, mm_mm, mm_2l, mm_lcmp, mm_i2l, mm_l2i, mm_cast8, mm_if1, mm_if2, mm_cmp, mm_swi, mm_sw, mm_pop1, mm_dup, mm_dup2, mm_geti, mm_geta, mm_puti, mm_iald, mm_bald, mm_aald, mm_iast, mm_bast, mm_alen, mm_acpy, mm_call, mm_callv, mm_recv, mm_pop, mm_find, mm_push, mm_cats, mm_cat, mm_reti, mm_retz, mm_retl, mm_reta, mm_retv, mm_set1, mm_set2, mm_kill, List.getElem?_cons_zero, List.getElem?_cons_succ, Int.reduceToNat, ↓reduceIte, Nat.reduceEqDiff, Nat.reduceDiv, Nat.reduceAdd, Nat.reduceLeDiff, Nat.zero_le, true_and, and_true, true_or, or_true, mm_b0, mm_b1, mm_lc_lt, mm_lc_le, mm_lc_gt, mm_lc_ge, mm_lc_eq, Int.not_lt, Int.not_le, Decidable.not_not, Int.sub_neg, e1, e2, xr00, xr01, xr10, xr11, show Int.tdiv 1 2 = 0 by decide, Int.reduceEq, not_true_eq_false, not_false_eq_true, forall_const, false_implies, implies_true]) | (refine hJ 97 _ _ _ ?_; show mm_wp _ _ _ mo_Plan_curve_97 _ _ _; simp only [mo_Plan_curve_97, mm_wp, mm_ldi, mm_lda, mm_ldl, mm_sti, mm_sta, mm_stl, mm_inc, mm_2i, mm_mm, mm_2l, mm_lcmp, mm_i2l, mm_l2i, mm_cast8, mm_if1, mm_if2, mm_cmp, mm_swi, mm_sw, mm_pop1, mm_dup, mm_dup2, mm_geti, mm_geta, mm_puti, mm_iald, mm_bald, mm_aald, mm_iast, mm_bast, mm_alen, mm_acpy, mm_call, mm_callv, mm_recv, mm_pop, mm_find, mm_push, mm_cats, mm_cat, mm_reti, mm_retz, mm_retl, mm_reta, mm_retv, mm_set1, mm_set2, mm_kill, List.getElem?_cons_zero, List.getElem?_cons_succ, Int.reduceToNat, ↓reduceIte, Nat.reduceEqDiff, Nat.reduceDiv, Nat.reduceAdd, Nat.reduceLeDiff, Nat.zero_le, true_and, and_true, true_or, or_true, mm_b0, mm_b1, mm_lc_lt, mm_lc_le, mm_lc_gt, mm_lc_ge, mm_lc_eq, Int.not_lt, Int.not_le, Decidable.not_not, Int.sub_neg, e1, e2, xr00, xr01, xr10, xr11, show Int.tdiv 1 2 = 0 by decide, Int.reduceEq, not_true_eq_false, not_false_eq_true, forall_const, false_implies, implies_true]) | (refine hJ 105 _ _ _ ?_; show mm_wp _ _ _ mo_Plan_curve_105 _ _ _; simp only [mo_Plan_curve_105, mm_wp, mm_ldi, mm_lda, mm_ldl, mm_sti, mm_sta, mm_stl, mm_inc, mm_2i, mm_mm, mm_2l, mm_lcmp, mm_i2l, mm_l2i, mm_cast8, mm_if1, mm_if2, mm_cmp, mm_swi, mm_sw, mm_pop1, mm_dup, mm_dup2, mm_geti, mm_geta, mm_puti, mm_iald, mm_bald, mm_aald, mm_iast, mm_bast, mm_alen, mm_acpy, mm_call, mm_callv, mm_recv, mm_pop, mm_find, mm_push, mm_cats, mm_cat, mm_reti, mm_retz, mm_retl, mm_reta, mm_retv, mm_set1, mm_set2, mm_kill, List.getElem?_cons_zero, List.getElem?_cons_succ, Int.reduceToNat, ↓reduceIte, Nat.reduceEqDiff, Nat.reduceDiv, Nat.reduceAdd, Nat.reduceLeDiff, Nat.zero_le, true_and, and_true, true_or, or_true, mm_b0, mm_b1, mm_lc_lt, mm_lc_le, mm_lc_gt, mm_lc_ge, mm_lc_eq, Int.not_lt, Int.not_le, Decidable.not_not, Int.sub_neg, e1, e2, xr00, xr01, xr10, xr11, show Int.tdiv 1 2 = 0 by decide, Int.reduceEq, not_true_eq_false, not_false_eq_true, forall_const, false_implies, implies_true]) | (refine hJ 114 _ _ _ ?_; show mm_wp _ _ _ mo_Plan_curve_114 _ _ _; simp only [mo_Plan_curve_114, mm_wp, mm_ldi, mm_lda, mm_ldl, mm_sti, mm_sta, mm_stl, mm_inc, mm_2i, mm_mm, mm_2l, mm_lcmp, mm_i2l, mm_l2i, mm_cast8, mm_if1, mm_if2, mm_cmp, mm_swi, mm_sw, mm_pop1, mm_dup, mm_dup2, mm_geti, mm_geta, mm_puti, mm_iald, mm_bald, mm_aald, mm_iast, mm_bast, mm_alen, mm_acpy, mm_call, mm_callv, mm_recv, mm_pop, mm_find, mm_push, mm_cats, mm_cat, mm_reti, mm_retz, mm_retl, mm_reta, mm_retv, mm_set1, mm_set2, mm_kill, List.getElem?_cons_zero, List.getElem?_cons_succ, Int.reduceToNat, ↓reduceIte, Nat.reduceEqDiff, Nat.reduceDiv, Nat.reduceAdd, Nat.reduceLeDiff, Nat.zero_le, true_and, and_true, true_or, or_true, mm_b0, mm_b1, mm_lc_lt, mm_lc_le, mm_lc_gt, mm_lc_ge, mm_lc_eq, Int.not_lt, Int.not_le, Decidable.not_not, Int.sub_neg, e1, e2, xr00, xr01, xr10, xr11, show Int.tdiv 1 2 = 0 by decide, Int.reduceEq, not_true_eq_false, not_false_eq_true, forall_const, false_implies, implies_true])
    all_goals first | assumption | (exact Or.inl rfl) | (exact Or.inr rfl) | (exact rfl) | trivial | omega | (refine c0 _ _ _ _ _ _ _ (by omega) (by omega) (by omega) (by omega) (by omega) (by omega) ?_; (repeat' (first | assumption | omega | split at hq)))
  have c2 : ∀ (x y d : Int) (x6 x7 x8 x9 : Option mmV), 0 ≤ x → x < 64 → 0 ≤ y → y < 64 → 0 ≤ d → d ≤ 4985 → Q (some (vi (cvF 2 2 x y d))) M → J 11 [some (vi x0), some (vi y0), some (vi x), some (vi y), some (vi d), some (vi 2), x6, x7, x8, x9] [] M := by
    intro x y d x6 x7 x8 x9 b1 b2 b3 b4 b5 b6 hq
    have hq : Q (some (vi (if x / 2 % 2 = 0 then (if y / 2 % 2 = 0 then cvF 1 1 y x (d + 2 * 2 * 0) else cvF 1 1 x y (d + 2 * 2 * 1)) else (if y / 2 % 2 = 0 then cvF 1 1 (63 - y) (63 - x) (d + 2 * 2 * 3) else cvF 1 1 x y (d + 2 * 2 * 2))))) M := hq
    have e1 := mm_andB 1 2 (by decide) (by decide) b1 b2
    have e2 := mm_andB 1 2 (by decide) (by decide) b3 b4
    refine hJ 11 _ _ _ (show mm_wp _ _ _ mo_Plan_curve_11 _ _ _ from ?_)
    simp only [mo_Plan_curve_11, mm_wp, mm_ldi, mm_lda, mm_ldl, mm_sti, mm_sta, mm_stl, mm_inc, mm_2i, mm_mm, mm_2l, mm_lcmp, mm_i2l, mm_l2i, mm_cast8, mm_if1, mm_if2, mm_cmp, mm_swi, mm_sw, mm_pop1, mm_dup, mm_dup2, mm_geti, mm_geta, mm_puti, mm_iald, mm_bald, mm_aald, mm_iast, mm_bast, mm_alen, mm_acpy, mm_call, mm_callv, mm_recv, mm_pop, mm_find, mm_push, mm_cats, mm_cat, mm_reti, mm_retz, mm_retl, mm_reta, mm_retv, mm_set1, mm_set2, mm_kill, List.getElem?_cons_zero, List.getElem?_cons_succ, Int.reduceToNat, ↓reduceIte, Nat.reduceEqDiff, Nat.reduceDiv, Nat.reduceAdd, Nat.reduceLeDiff, Nat.zero_le, true_and, and_true, true_or, or_true, mm_b0, mm_b1, mm_lc_lt, mm_lc_le, mm_lc_gt, mm_lc_ge, mm_lc_eq, Int.not_lt, Int.not_le, Decidable.not_not, Int.sub_neg, e1]
    refine ⟨fun q => by omega, fun _ => ?_⟩
    repeat' first | (refine And.intro ?_ ?_) | (intro _) | (refine hJ 0 _ _ _ ?_; show mm_wp _ _ _ mo_Plan_curve_0 _ _ _; simp only [mo_Plan_curve_0, mm_wp, mm_ldi, mm_lda, mm_ldl, mm_sti, mm_sta, mm_stl, mm_inc, mm_2i, mm_mm, mm_2l, mm_lcmp, mm_i2l, mm_l2i, mm_cast8, mm_if1, mm_if2, mm_cmp, mm_swi, mm_sw, mm_pop1, mm_dup, mm_dup2, mm_geti, mm_geta, mm_puti, mm_iald, mm_bald, mm_aald, mm_iast, mm_bast, mm_alen, mm_acpy, mm_call, mm_callv, mm_recv, mm_pop, mm_find, mm_push, mm_cats, mm_cat, mm_reti, mm_retz, mm_retl, mm_reta, mm_retv, mm_set1, mm_set2, mm_kill, List.getElem?_cons_zero, List.getElem?_cons_succ, Int.reduceToNat, ↓reduceIte, Nat.reduceEqDiff, Nat.reduceDiv, Nat.reduceAdd, Nat.reduceLeDiff, Nat.zero_le, true_and, and_true, true_or, or_true, mm_b0, mm_b1, mm_lc_lt, mm_lc_le, mm_lc_gt, mm_lc_ge, mm_lc_eq, Int.not_lt, Int.not_le, Decidable.not_not, Int.sub_neg, e1, e2, xr00, xr01, xr10, xr11, show Int.tdiv 2 2 = 1 by decide, Int.reduceEq, not_true_eq_false, not_false_eq_true, forall_const, false_implies, implies_true]) | (refine hJ 27 _ _ _ ?_; show mm_wp _ _ _ mo_Plan_curve_27 _ _ _; simp only [mo_Plan_curve_27, mm_wp, mm_ldi, mm_lda, mm_ldl, mm_sti, mm_sta, mm_stl, mm_inc, mm_2i, mm_mm, mm_2l, mm_lcmp, mm_i2l, mm_l2i, mm_cast8, mm_if1, mm_if2, mm_cmp, mm_swi, mm_sw, mm_pop1, mm_dup, mm_dup2, mm_geti, mm_geta, mm_puti, mm_iald, mm_bald, mm_aald, mm_iast, mm_bast, mm_alen, mm_acpy, mm_call, mm_callv, mm_recv, mm_pop, mm_find, mm_push, mm_cats, mm_cat, mm_reti, mm_retz, mm_retl, mm_reta, mm_retv, mm_set1, mm_set2, mm_kill, List.getElem?_cons_zero, List.getElem?_cons_succ, Int.reduceToNat, ↓reduceIte, Nat.reduceEqDiff, Nat.reduceDiv, Nat.reduceAdd, Nat.reduceLeDiff, Nat.zero_le, true_and, and_true, true_or, or_true, mm_b0, mm_b1, mm_lc_lt, mm_lc_le, mm_lc_gt, mm_lc_ge, mm_lc_eq, Int.not_lt, Int.not_le, Decidable.not_not, Int.sub_neg, e1, e2, xr00, xr01, xr10, xr11, show Int.tdiv 2 2 = 1 by decide, Int.reduceEq, not_true_eq_false, not_false_eq_true, forall_const, false_implies, implies_true]) | (refine hJ 28 _ _ _ ?_; show mm_wp _ _ _ mo_Plan_curve_28 _ _ _; simp only [mo_Plan_curve_28, mm_wp, mm_ldi, mm_lda, mm_ldl, mm_sti, mm_sta, mm_stl, mm_inc, mm_2i, mm_mm, mm_2l, mm_lcmp, mm_i2l, mm_l2i, mm_cast8, mm_if1, mm_if2, mm_cmp, mm_swi, mm_sw, mm_pop1, mm_dup, mm_dup2, mm_geti, mm_geta, mm_puti, mm_iald, mm_bald, mm_aald, mm_iast, mm_bast, mm_alen, mm_acpy, mm_call, mm_callv, mm_recv, mm_pop, mm_find, mm_push, mm_cats, mm_cat, mm_reti, mm_retz, mm_retl, mm_reta, mm_retv, mm_set1, mm_set2, mm_kill, List.getElem?_cons_zero, List.getElem?_cons_succ, Int.reduceToNat, ↓reduceIte, Nat.reduceEqDiff, Nat.reduceDiv, Nat.reduceAdd, Nat.reduceLeDiff, Nat.zero_le, true_and, and_true, true_or, or_true, mm_b0, mm_b1, mm_lc_lt, mm_lc_le, mm_lc_gt, mm_lc_ge, mm_lc_eq, Int.not_lt, Int.not_le, Decidable.not_not, Int.sub_neg, e1, e2, xr00, xr01, xr10, xr11, show Int.tdiv 2 2 = 1 by decide, Int.reduceEq, not_true_eq_false, not_false_eq_true, forall_const, false_implies, implies_true]) | (refine hJ 41 _ _ _ ?_; show mm_wp _ _ _ mo_Plan_curve_41 _ _ _; simp only [mo_Plan_curve_41, mm_wp, mm_ldi, mm_lda, mm_ldl, mm_sti, mm_sta, mm_stl, mm_inc, mm_2i, mm_mm, mm_2l, mm_lcmp, mm_i2l, mm_l2i, mm_cast8, mm_if1, mm_if2, mm_cmp, mm_swi, mm_sw, mm_pop1, mm_dup, mm_dup2, mm_geti, mm_geta, mm_puti, mm_iald, mm_bald, mm_aald, mm_iast, mm_bast, mm_alen, mm_acpy, mm_call, mm_callv, mm_recv, mm_pop, mm_find, mm_push, mm_cats, mm_cat, mm_reti, mm_retz, mm_retl, mm_reta, mm_retv, mm_set1, mm_set2, mm_kill, List.getElem?_cons_zero, List.getElem?_cons_succ, Int.reduceToNat, ↓reduceIte, Nat.reduceEqDiff, Nat.reduceDiv, Nat.reduceAdd, Nat.reduceLeDiff, Nat.zero_le, true_and, and_true, true_or, or_true, mm_b0, mm_b1, mm_lc_lt, mm_lc_le, mm_lc_gt, mm_lc_ge, mm_lc_eq, Int.not_lt, Int.not_le, Decidable.not_not, Int.sub_neg, e1, e2, xr00, xr01, xr10, xr11, show Int.tdiv 2 2 = 1 by decide, Int.reduceEq, not_true_eq_false, not_false_eq_true, forall_const, false_implies, implies_true]) | (refine hJ 42 _ _ _ ?_; show mm_wp _ _ _ mo_Plan_curve_42 _ _ _; simp only [mo_Plan_curve_42, mm_wp, mm_ldi, mm_lda, mm_ldl, mm_sti, mm_sta, mm_stl, mm_inc, mm_2i, mm_mm, mm_2l, mm_lcmp, mm_i2l, mm_l2i, mm_cast8, mm_if1, mm_if2, mm_cmp, mm_swi, mm_sw, mm_pop1, mm_dup, mm_dup2, mm_geti, mm_geta, mm_puti, mm_iald, mm_bald, mm_aald, mm_iast, mm_bast, mm_alen, mm_acpy, mm_call, mm_callv, mm_recv, mm_pop, mm_find, mm_push, mm_cats, mm_cat, mm_reti, mm_retz, mm_retl, mm_reta, mm_retv, mm_set1, mm_set2, mm_kill, List.getElem?_cons_zero, List.getElem?_cons_succ, Int.reduceToNat, ↓reduceIte, Nat.reduceEqDiff, Nat.reduceDiv, Nat.reduceAdd, Nat.reduceLeDiff, Nat.zero_le, true_and, and_true, true_or, or_true, mm_b0, mm_b1, mm_lc_lt, mm_lc_le, mm_lc_gt, mm_lc_ge, mm_lc_eq, Int.not_lt, Int.not_le, Decidable.not_not, Int.sub_neg, e1, e2, xr00, xr01, xr10, xr11, show Int.tdiv 2 2 = 1 by decide, Int.reduceEq, not_true_eq_false, not_false_eq_true, forall_const, false_implies, implies_true]) | (refine hJ 80 _ _ _ ?_; show mm_wp _ _ _ mo_Plan_curve_80 _ _ _; simp only [mo_Plan_curve_80, mm_wp, mm_ldi, mm_lda, mm_ldl, mm_sti, mm_sta, mm_stl, mm_inc, mm_2i, mm_mm, mm_2l, mm_lcmp, mm_i2l, mm_l2i, mm_cast8, mm_if1, mm_if2, mm_cmp, mm_swi, mm_sw, mm_pop1, mm_dup, mm_dup2, mm_geti, mm_geta, mm_puti, mm_iald, mm_bald, mm_aald, mm_iast, mm_bast, mm_alen, mm_acpy, mm_call, mm_callv, mm_recv, mm_pop, mm_find, mm_push, mm_cats, mm_cat, mm_reti, mm_retz, mm_retl, mm_reta, mm_retv, mm_set1, mm_set2, mm_kill, List.getElem?_cons_zero, List.getElem?_cons_succ, Int.reduceToNat, ↓reduceIte, Nat.reduceEqDiff, Nat.reduceDiv, Nat.reduceAdd, Nat.reduceLeDiff, Nat.zero_le, true_and, and_true, true_or, or_true, mm_b0, mm_b1, mm_lc_lt, mm_lc_le, mm_lc_gt, mm_lc_ge, mm_lc_eq, Int.not_lt, Int.not_le, Decidable.not_not, Int.sub_neg, e1, e2, xr00, xr01, xr10, xr11, show Int.tdiv 2 2 = 1 by decide, Int.reduceEq, not_true_eq_false, not_false_eq_true, forall_const, false_implies, implies_true]) | (refine hJ 81 _ _ _ ?_; show mm_wp _ _ _ mo_Plan_curve_81 _ _ _; simp only [mo_Plan_curve_81, mm_wp, mm_ldi, mm_lda, mm_ldl, mm_sti, mm_sta, mm_stl, mm_inc, mm_2i, mm_mm, mm_2l, mm_lcmp, mm_i2l, mm_l2i, mm_cast8, mm_if1, mm_if2, mm_cmp, mm_swi, mm_sw, mm_pop1, mm_dup, mm_dup2, mm_geti, mm_geta, mm_puti, mm_iald, mm_bald, mm_aald, mm_iast, mm_bast, mm_alen, mm_acpy, mm_call, mm_callv, mm_recv, mm_pop, mm_find, mm_push, mm_cats, mm_cat, mm_reti, mm_retz, mm_retl, mm_reta, mm_retv, mm_set1, mm_set2, mm_kill, List.getElem?_cons_zero, List.getElem?_cons_succ, Int.reduceToNat, ↓reduceIte, Nat.reduceEqDiff, Nat.reduceDiv, Nat.reduceAdd, Nat.reduceLeDiff, Nat.zero_le, true_and, and_true, true_or, or_true, mm_b0, mm_b1, mm_lc_lt, mm_lc_le, mm_lc_gt, mm_lc_ge, mm_lc_eq, Int.not_lt, Int.not_le, Decidable.not_not, Int.sub_neg, e1, e2, xr00, xr01, xr10, xr11, show Int.tdiv 2 2 = 1 by decide, Int.reduceEq, not_true_eq_false, not_false_eq_true, forall_const, false_implies, implies_true]) | (refine hJ 96 _ _ _ ?_; show mm_wp _ _ _ mo_Plan_curve_96 _ _ _; simp only [mo_Plan_curve_96, mm_wp, mm_ldi, mm_lda, mm_ldl, mm_sti, mm_sta, mm_stl, mm_inc, mm_2i, mm_mm, mm_2l, mm_lcmp, mm_i2l, mm_l2i, mm_cast8, mm_if1, mm_if2, mm_cmp, mm_swi, mm_sw, mm_pop1, mm_dup, mm_dup2, mm_geti, mm_geta, mm_puti, mm_iald, mm_bald, mm_aald, mm_iast, mm_bast, mm_alen, mm_acpy, mm_call, mm_callv, mm_recv, mm_pop, mm_find, mm_push, mm_cats, mm_cat, mm_reti, mm_retz, mm_retl, mm_reta, mm_retv, mm_set1, mm_set2, mm_kill, List.getElem?_cons_zero, List.getElem?_cons_succ, Int.reduceToNat, ↓reduceIte, Nat.reduceEqDiff, Nat.reduceDiv, Nat.reduceAdd, Nat.reduceLeDiff, Nat.zero_le, true_and, and_true, true_or, or_true, mm_b0, mm_b1, mm_lc_lt, mm_lc_le, mm_lc_gt, mm_lc_ge, mm_lc_eq, Int.not_lt, Int.not_le, Decidable.not_not, Int.sub_neg, e1, e2, xr00, xr01, xr10, xr11, show Int.tdiv 2 2 = 1 by decide, Int.reduceEq, not_true_eq_false, not_false_eq_true, forall_const, false_implies, implies_true]) | (refine hJ 97 _ _ _ ?_; show mm_wp _ _ _ mo_Plan_curve_97 _ _ _; simp only [mo_Plan_curve_97, mm_wp, mm_ldi, mm_lda, mm_ldl, mm_sti, mm_sta, mm_stl, mm_inc, mm_2i, mm_mm, mm_2l, mm_lcmp, mm_i2l, mm_l2i, mm_cast8, mm_if1, mm_if2, mm_cmp, mm_swi, mm_sw, mm_pop1, mm_dup, mm_dup2, mm_geti, mm_geta, mm_puti, mm_iald, mm_bald, mm_aald, mm_iast, mm_bast, mm_alen, mm_acpy, mm_call, mm_callv, mm_recv, mm_pop, mm_find, mm_push, mm_cats, mm_cat, mm_reti, mm_retz, mm_retl, mm_reta, mm_retv, mm_set1, mm_set2, mm_kill, List.getElem?_cons_zero, List.getElem?_cons_succ, Int.reduceToNat, ↓reduceIte, Nat.reduceEqDiff, Nat.reduceDiv, Nat.reduceAdd, Nat.reduceLeDiff, Nat.zero_le, true_and, and_true, true_or, or_true, mm_b0, mm_b1, mm_lc_lt, mm_lc_le, mm_lc_gt, mm_lc_ge, mm_lc_eq, Int.not_lt, Int.not_le, Decidable.not_not, Int.sub_neg, e1, e2, xr00, xr01, xr10, xr11, show Int.tdiv 2 2 = 1 by decide, Int.reduceEq, not_true_eq_false, not_false_eq_true, forall_const, false_implies, implies_true]) | (refine hJ 105 _ _ _ ?_; show mm_wp _ _ _ mo_Plan_curve_105 _ _ _; simp only [mo_Plan_curve_105, mm_wp, mm_ldi, mm_lda, mm_ldl, mm_sti, mm_sta, mm_stl, mm_inc, mm_2i, mm_mm, mm_2l, mm_lcmp, mm_i2l, mm_l2i, mm_cast8, mm_if1, mm_if2, mm_cmp, mm_swi, mm_sw, mm_pop1, mm_dup, mm_dup2, mm_geti, mm_geta, mm_puti, mm_iald, mm_bald, mm_aald, mm_iast, mm_bast, mm_alen, mm_acpy, mm_call, mm_callv, mm_recv, mm_pop, mm_find, mm_push, mm_cats, mm_cat, mm_reti, mm_retz, mm_retl, mm_reta, mm_retv, mm_set1, mm_set2, mm_kill, List.getElem?_cons_zero, List.getElem?_cons_succ, Int.reduceToNat, ↓reduceIte, Nat.reduceEqDiff, Nat.reduceDiv, Nat.reduceAdd, Nat.reduceLeDiff, Nat.zero_le, true_and, and_true, true_or, or_true, mm_b0, mm_b1, mm_lc_lt, mm_lc_le, mm_lc_gt, mm_lc_ge, mm_lc_eq, Int.not_lt, Int.not_le, Decidable.not_not, Int.sub_neg, e1, e2, xr00, xr01, xr10, xr11, show Int.tdiv 2 2 = 1 by decide, Int.reduceEq, not_true_eq_false, not_false_eq_true, forall_const, false_implies, implies_true]) | (refine hJ 114 _ _ _ ?_; show mm_wp _ _ _ mo_Plan_curve_114 _ _ _; simp only [mo_Plan_curve_114, mm_wp, mm_ldi, mm_lda, mm_ldl, mm_sti, mm_sta, mm_stl, mm_inc, mm_2i, mm_mm, mm_2l, mm_lcmp, mm_i2l, mm_l2i, mm_cast8, mm_if1, mm_if2, mm_cmp, mm_swi, mm_sw, mm_pop1, mm_dup, mm_dup2, mm_geti, mm_geta, mm_puti, mm_iald, mm_bald, mm_aald, mm_iast, mm_bast, mm_alen, mm_acpy, mm_call, mm_callv, mm_recv, mm_pop, mm_find, mm_push, mm_cats, mm_cat, mm_reti, mm_retz, mm_retl, mm_reta, mm_retv, mm_set1, mm_set2, mm_kill, List.getElem?_cons_zero, List.getElem?_cons_succ, Int.reduceToNat, ↓reduceIte, Nat.reduceEqDiff, Nat.reduceDiv, Nat.reduceAdd, Nat.reduceLeDiff, Nat.zero_le, true_and, and_true, true_or, or_true, mm_b0, mm_b1, mm_lc_lt, mm_lc_le, mm_lc_gt, mm_lc_ge, mm_lc_eq, Int.not_lt, Int.not_le, Decidable.not_not, Int.sub_neg, e1, e2, xr00, xr01, xr10, xr11, show Int.tdiv 2 2 = 1 by decide, Int.reduceEq, not_true_eq_false, not_false_eq_true, forall_const, false_implies, implies_true])
    all_goals first | assumption | (exact Or.inl rfl) | (exact Or.inr rfl) | (exact rfl) | trivial | omega | (refine c1 _ _ _ _ _ _ _ (by omega) (by omega) (by omega) (by omega) (by omega) (by omega) ?_; (repeat' (first | assumption | omega | split at hq)))
  have c3 : ∀ (x y d : Int) (x6 x7 x8 x9 : Option mmV), 0 ≤ x → x < 64 → 0 ≤ y → y < 64 → 0 ≤ d → d ≤ 4937 → Q (some (vi (cvF 3 4 x y d))) M → J 11 [some (vi x0), some (vi y0), some (vi x), some (vi y), some (vi d), some (vi 4), x6, x7, x8, x9] [] M := by
    intro x y d x6 x7 x8 x9 b1 b2 b3 b4 b5 b6 hq
    have hq : Q (some (vi (if x / 4 % 2 = 0 then (if y / 4 % 2 = 0 then cvF 2 2 y x (d + 4 * 4 * 0) else cvF 2 2 x y (d + 4 * 4 * 1)) else (if y / 4 % 2 = 0 then cvF 2 2 (63 - y) (63 - x) (d + 4 * 4 * 3) else cvF 2 2 x y (d + 4 * 4 * 2))))) M := hq
    have e1 := mm_andB 2 4 (by decide) (by decide) b1 b2
    have e2 := mm_andB 2 4 (by decide) (by decide) b3 b4
    refine hJ 11 _ _ _ (show mm_wp _ _ _ mo_Plan_curve_11 _ _ _ from ?_)
    simp only [mo_Plan_curve_11, mm_wp, mm_ldi, mm_lda, mm_ldl, mm_sti, mm_sta, mm_stl, mm_inc, mm_2i, mm_mm, mm_2l, mm_lcmp, mm_i2l, mm_l2i, mm_cast8, mm_if1, mm_if2, mm_cmp, mm_swi, mm_sw, mm_pop1, mm_dup, mm_dup2, mm_geti, mm_geta, mm_puti, mm_iald, mm_bald, mm_aald, mm_iast, mm_bast, mm_alen, mm_acpy, mm_call, mm_callv, mm_recv, mm_pop, mm_find, mm_push, mm_cats, mm_cat, mm_reti, mm_retz, mm_retl, mm_reta, mm_retv, mm_set1, mm_set2, mm_kill, List.getElem?_cons_zero, List.getElem?_cons_succ, Int.reduceToNat, ↓reduceIte, Nat.reduceEqDiff, Nat.reduceDiv, Nat.reduceAdd, Nat.reduceLeDiff, Nat.zero_le, true_and, and_true, true_or, or_true, mm_b0, mm_b1, mm_lc_lt, mm_lc_le, mm_lc_gt, mm_lc_ge, mm_lc_eq, Int.not_lt, Int.not_le, Decidable.not_not, Int.sub_neg, e1]
    refine ⟨fun q => by omega, fun _ => ?_⟩
    repeat' first | (refine And.intro ?_ ?_) | (intro _) | (refine hJ 0 _ _ _ ?_; show mm_wp _ _ _ mo_Plan_curve_0 _ _ _; simp only [mo_Plan_curve_0, mm_wp, mm_ldi, mm_lda, mm_ldl, mm_sti, mm_sta, mm_stl, mm_inc, mm_2i, mm_mm, mm_2l, mm_lcmp, mm_i2l, mm_l2i, mm_cast8, mm_if1, mm_if2, mm_cmp, mm_swi, mm_sw, mm_pop1, mm_dup, mm_dup2, mm_geti, mm_geta, mm_puti, mm_iald, mm_bald, mm_aald, mm_iast, mm_bast, mm_alen, mm_acpy, mm_call, mm_callv, mm_recv, mm_pop, mm_find, mm_push, mm_cats, mm_cat, mm_reti, mm_retz, mm_retl, mm_reta, mm_retv, mm_set1, mm_set2, mm_kill, List.getElem?_cons_zero, List.getElem?_cons_succ, Int.reduceToNat, ↓reduceIte, Nat.reduceEqDiff, Nat.reduceDiv, Nat.reduceAdd, Nat.reduceLeDiff, Nat.zero_le, true_and, and_true, true_or, or_true, mm_b0, mm_b1, mm_lc_lt, mm_lc_le, mm_lc_gt, mm_lc_ge, mm_lc_eq, Int.not_lt, Int.not_le, Decidable.not_not, Int.sub_neg, e1, e2, xr00, xr01, xr10, xr11, show Int.tdiv 4 2 = 2 by decide, Int.reduceEq, not_true_eq_false, not_false_eq_true, forall_const, false_implies, implies_true]) | (refine hJ 27 _ _ _ ?_; show mm_wp _ _ _ mo_Plan_curve_27 _ _ _; simp only [mo_Plan_curve_27, mm_wp, mm_ldi, mm_lda, mm_ldl, mm_sti, mm_sta, mm_stl, mm_inc, mm_2i, mm_mm, mm_2l, mm_lcmp, mm_i2l, mm_l2i, mm_cast8, mm_if1, mm_if2, mm_cmp, mm_swi, mm_sw, mm_pop1, mm_dup, mm_dup2, mm_geti, mm_geta, mm_puti, mm_iald, mm_bald, mm_aald, mm_iast, mm_bast, mm_alen, mm_acpy, mm_call, mm_callv, mm_recv, mm_pop, mm_find, mm_push, mm_cats, mm_cat, mm_reti, mm_retz, mm_retl, mm_reta, mm_retv, mm_set1, mm_set2, mm_kill, List.getElem?_cons_zero, List.getElem?_cons_succ, Int.reduceToNat, ↓reduceIte, Nat.reduceEqDiff, Nat.reduceDiv, Nat.reduceAdd, Nat.reduceLeDiff, Nat.zero_le, true_and, and_true, true_or, or_true, mm_b0, mm_b1, mm_lc_lt, mm_lc_le, mm_lc_gt, mm_lc_ge, mm_lc_eq, Int.not_lt, Int.not_le, Decidable.not_not, Int.sub_neg, e1, e2, xr00, xr01, xr10, xr11, show Int.tdiv 4 2 = 2 by decide, Int.reduceEq, not_true_eq_false, not_false_eq_true, forall_const, false_implies, implies_true]) | (refine hJ 28 _ _ _ ?_; show mm_wp _ _ _ mo_Plan_curve_28 _ _ _; simp only [mo_Plan_curve_28, mm_wp, mm_ldi, mm_lda, mm_ldl, mm_sti, mm_sta, mm_stl, mm_inc, mm_2i, mm_mm, mm_2l, mm_lcmp, mm_i2l, mm_l2i, mm_cast8, mm_if1, mm_if2, mm_cmp, mm_swi, mm_sw, mm_pop1, mm_dup, mm_dup2, mm_geti, mm_geta, mm_puti, mm_iald, mm_bald, mm_aald, mm_iast, mm_bast, mm_alen, mm_acpy, mm_call, mm_callv, mm_recv, mm_pop, mm_find, mm_push, mm_cats, mm_cat, mm_reti, mm_retz, mm_retl, mm_reta, mm_retv, mm_set1, mm_set2, mm_kill, List.getElem?_cons_zero, List.getElem?_cons_succ, Int.reduceToNat, ↓reduceIte, Nat.reduceEqDiff, Nat.reduceDiv, Nat.reduceAdd, Nat.reduceLeDiff, Nat.zero_le, true_and, and_true, true_or, or_true, mm_b0, mm_b1, mm_lc_lt, mm_lc_le, mm_lc_gt, mm_lc_ge, mm_lc_eq, Int.not_lt, Int.not_le, Decidable.not_not, Int.sub_neg, e1, e2, xr00, xr01, xr10, xr11, show Int.tdiv 4 2 = 2 by decide, Int.reduceEq, not_true_eq_false, not_false_eq_true, forall_const, false_implies, implies_true]) | (refine hJ 41 _ _ _ ?_; show mm_wp _ _ _ mo_Plan_curve_41 _ _ _; simp only [mo_Plan_curve_41, mm_wp, mm_ldi, mm_lda, mm_ldl, mm_sti, mm_sta, mm_stl, mm_inc, mm_2i, mm_mm, mm_2l, mm_lcmp, mm_i2l, mm_l2i, mm_cast8, mm_if1, mm_if2, mm_cmp, mm_swi, mm_sw, mm_pop1, mm_dup, mm_dup2, mm_geti, mm_geta, mm_puti, mm_iald, mm_bald, mm_aald, mm_iast, mm_bast, mm_alen, mm_acpy, mm_call, mm_callv, mm_recv, mm_pop, mm_find, mm_push, mm_cats, mm_cat, mm_reti, mm_retz, mm_retl, mm_reta, mm_retv, mm_set1, mm_set2, mm_kill, List.getElem?_cons_zero, List.getElem?_cons_succ, Int.reduceToNat, ↓reduceIte, Nat.reduceEqDiff, Nat.reduceDiv, Nat.reduceAdd, Nat.reduceLeDiff, Nat.zero_le, true_and, and_true, true_or, or_true, mm_b0, mm_b1, mm_lc_lt, mm_lc_le, mm_lc_gt, mm_lc_ge, mm_lc_eq, Int.not_lt, Int.not_le, Decidable.not_not, Int.sub_neg, e1, e2, xr00, xr01, xr10, xr11, show Int.tdiv 4 2 = 2 by decide, Int.reduceEq, not_true_eq_false, not_false_eq_true, forall_const, false_implies, implies_true]) | (refine hJ 42 _ _ _ ?_; show mm_wp _ _ _ mo_Plan_curve_42 _ _ _; simp only [mo_Plan_curve_42, mm_wp, mm_ldi, mm_lda, mm_ldl, mm_sti, mm_sta, mm_stl, mm_inc, mm_2i, mm_mm, mm_2l, mm_lcmp, mm_i2l, mm_l2i, mm_cast8, mm_if1, mm_if2, mm_cmp, mm_swi, mm_sw, mm_pop1, mm_dup, mm_dup2, mm_geti, mm_geta, mm_puti, mm_iald, mm_bald, mm_aald, mm_iast, mm_bast, mm_alen, mm_acpy, mm_call, mm_callv, mm_recv, mm_pop, mm_find, mm_push, mm_cats, mm_cat, mm_reti, mm_retz, mm_retl, mm_reta, mm_retv, mm_set1, mm_set2, mm_kill, List.getElem?_cons_zero, List.getElem?_cons_succ, Int.reduceToNat, ↓reduceIte, Nat.reduceEqDiff, Nat.reduceDiv, Nat.reduceAdd, Nat.reduceLeDiff, Nat.zero_le, true_and, and_true, true_or, or_true, mm_b0, mm_b1, mm_lc_lt, mm_lc_le, mm_lc_gt, mm_lc_ge, mm_lc_eq, Int.not_lt, Int.not_le, Decidable.not_not, Int.sub_neg, e1, e2, xr00, xr01, xr10, xr11, show Int.tdiv 4 2 = 2 by decide, Int.reduceEq, not_true_eq_false, not_false_eq_true, forall_const, false_implies, implies_true]) | (refine hJ 80 _ _ _ ?_; show mm_wp _ _ _ mo_Plan_curve_80 _ _ _; simp only [mo_Plan_curve_80, mm_wp, mm_ldi, mm_lda, mm_ldl, mm_sti, mm_sta, mm_stl, mm_inc, mm_2i, mm_mm, mm_2l, mm_lcmp, mm_i2l, mm_l2i, mm_cast8, mm_if1, mm_if2, mm_cmp, mm_swi, mm_sw, mm_pop1, mm_dup, mm_dup2, mm_geti, mm_geta, mm_puti, mm_iald, mm_bald, mm_aald, mm_iast, mm_bast, mm_alen, mm_acpy, mm_call, mm_callv, mm_recv, mm_pop, mm_find, mm_push, mm_cats, mm_cat, mm_reti, mm_retz, mm_retl, mm_reta, mm_retv, mm_set1, mm_set2, mm_kill, List.getElem?_cons_zero, List.getElem?_cons_succ, Int.reduceToNat, ↓reduceIte, Nat.reduceEqDiff, Nat.reduceDiv, Nat.reduceAdd, Nat.reduceLeDiff, Nat.zero_le, true_and, and_true, true_or, or_true, mm_b0, mm_b1, mm_lc_lt, mm_lc_le, mm_lc_gt, mm_lc_ge, mm_lc_eq, Int.not_lt, Int.not_le, Decidable.not_not, Int.sub_neg, e1, e2, xr00, xr01, xr10, xr11, show Int.tdiv 4 2 = 2 by decide, Int.reduceEq, not_true_eq_false, not_false_eq_true, forall_const, false_implies, implies_true]) | (refine hJ 81 _ _ _ ?_; show mm_wp _ _ _ mo_Plan_curve_81 _ _ _; simp only [mo_Plan_curve_81, mm_wp, mm_ldi, mm_lda, mm_ldl, mm_sti, mm_sta, mm_stl, mm_inc, mm_2i, mm_mm, mm_2l, mm_lcmp, mm_i2l, mm_l2i, mm_cast8, mm_if1, mm_if2, mm_cmp, mm_swi, mm_sw, mm_pop1, mm_dup, mm_dup2, mm_geti, mm_geta, mm_puti, mm_iald, mm_bald, mm_aald, mm_iast, mm_bast, mm_alen, mm_acpy, mm_call, mm_callv, mm_recv, mm_pop, mm_find, mm_push, mm_cats, mm_cat, mm_reti, mm_retz, mm_retl, mm_reta, mm_retv, mm_set1, mm_set2, mm_kill, List.getElem?_cons_zero, List.getElem?_cons_succ, Int.reduceToNat, ↓reduceIte, Nat.reduceEqDiff, Nat.reduceDiv, Nat.reduceAdd, Nat.reduceLeDiff, Nat.zero_le, true_and, and_true, true_or, or_true, mm_b0, mm_b1, mm_lc_lt, mm_lc_le, mm_lc_gt, mm_lc_ge, mm_lc_eq, Int.not_lt, Int.not_le, Decidable.not_not, Int.sub_neg, e1, e2, xr00, xr01, xr10, xr11, show Int.tdiv 4 2 = 2 by decide, Int.reduceEq, not_true_eq_false, not_false_eq_true, forall_const, false_implies, implies_true]) | (refine hJ 96 _ _ _ ?_; show mm_wp _ _ _ mo_Plan_curve_96 _ _ _; simp only [mo_Plan_curve_96, mm_wp, mm_ldi, mm_lda, mm_ldl, mm_sti, mm_sta, mm_stl, mm_inc, mm_2i, mm_mm, mm_2l, mm_lcmp, mm_i2l, mm_l2i, mm_cast8, mm_if1, mm_if2, mm_cmp, mm_swi, mm_sw, mm_pop1, mm_dup, mm_dup2, mm_geti, mm_geta, mm_puti, mm_iald, mm_bald, mm_aald, mm_iast, mm_bast, mm_alen, mm_acpy, mm_call, mm_callv, mm_recv, mm_pop, mm_find, mm_push, mm_cats, mm_cat, mm_reti, mm_retz, mm_retl, mm_reta, mm_retv, mm_set1, mm_set2, mm_kill, List.getElem?_cons_zero, List.getElem?_cons_succ, Int.reduceToNat, ↓reduceIte, Nat.reduceEqDiff, Nat.reduceDiv, Nat.reduceAdd, Nat.reduceLeDiff, Nat.zero_le, true_and, and_true, true_or, or_true, mm_b0, mm_b1, mm_lc_lt, mm_lc_le, mm_lc_gt, mm_lc_ge, mm_lc_eq, Int.not_lt, Int.not_le, Decidable.not_not, Int.sub_neg, e1, e2, xr00, xr01, xr10, xr11, show Int.tdiv 4 2 = 2 by decide, Int.reduceEq, not_true_eq_false, not_false_eq_true, forall_const, false_implies, implies_true]) | (refine hJ 97 _ _ _ ?_; show mm_wp _ _ _ mo_Plan_curve_97 _ _ _; simp only [mo_Plan_curve_97, mm_wp, mm_ldi, mm_lda, mm_ldl, mm_sti, mm_sta, mm_stl, mm_inc, mm_2i, mm_mm, mm_2l, mm_lcmp, mm_i2l, mm_l2i, mm_cast8, mm_if1, mm_if2, mm_cmp, mm_swi, mm_sw, mm_pop1, mm_dup, mm_dup2, mm_geti, mm_geta, mm_puti, mm_iald, mm_bald, mm_aald, mm_iast, mm_bast, mm_alen, mm_acpy, mm_call, mm_callv, mm_recv, mm_pop, mm_find, mm_push, mm_cats, mm_cat, mm_reti, mm_retz, mm_retl, mm_reta, mm_retv, mm_set1, mm_set2, mm_kill, List.getElem?_cons_zero, List.getElem?_cons_succ, Int.reduceToNat, ↓reduceIte, Nat.reduceEqDiff, Nat.reduceDiv, Nat.reduceAdd, Nat.reduceLeDiff, Nat.zero_le, true_and, and_true, true_or, or_true, mm_b0, mm_b1, mm_lc_lt, mm_lc_le, mm_lc_gt, mm_lc_ge, mm_lc_eq, Int.not_lt, Int.not_le, Decidable.not_not, Int.sub_neg, e1, e2, xr00, xr01, xr10, xr11, show Int.tdiv 4 2 = 2 by decide, Int.reduceEq, not_true_eq_false, not_false_eq_true, forall_const, false_implies, implies_true]) | (refine hJ 105 _ _ _ ?_; show mm_wp _ _ _ mo_Plan_curve_105 _ _ _; simp only [mo_Plan_curve_105, mm_wp, mm_ldi, mm_lda, mm_ldl, mm_sti, mm_sta, mm_stl, mm_inc, mm_2i, mm_mm, mm_2l, mm_lcmp, mm_i2l, mm_l2i, mm_cast8, mm_if1, mm_if2, mm_cmp, mm_swi, mm_sw, mm_pop1, mm_dup, mm_dup2, mm_geti, mm_geta, mm_puti, mm_iald, mm_bald, mm_aald, mm_iast, mm_bast, mm_alen, mm_acpy, mm_call, mm_callv, mm_recv, mm_pop, mm_find, mm_push, mm_cats, mm_cat, mm_reti, mm_retz, mm_retl, mm_reta, mm_retv, mm_set1, mm_set2, mm_kill, List.getElem?_cons_zero, List.getElem?_cons_succ, Int.reduceToNat, ↓reduceIte, Nat.reduceEqDiff, Nat.reduceDiv, Nat.reduceAdd, Nat.reduceLeDiff, Nat.zero_le, true_and, and_true, true_or, or_true, mm_b0, mm_b1, mm_lc_lt, mm_lc_le, mm_lc_gt, mm_lc_ge, mm_lc_eq, Int.not_lt, Int.not_le, Decidable.not_not, Int.sub_neg, e1, e2, xr00, xr01, xr10, xr11, show Int.tdiv 4 2 = 2 by decide, Int.reduceEq, not_true_eq_false, not_false_eq_true, forall_const, false_implies, implies_true]) | (refine hJ 114 _ _ _ ?_; show mm_wp _ _ _ mo_Plan_curve_114 _ _ _; simp only [mo_Plan_curve_114, mm_wp, mm_ldi, mm_lda, mm_ldl, mm_sti, mm_sta, mm_stl, mm_inc, mm_2i, mm_mm, mm_2l, mm_lcmp, mm_i2l, mm_l2i, mm_cast8, mm_if1, mm_if2, mm_cmp, mm_swi, mm_sw, mm_pop1, mm_dup, mm_dup2, mm_geti, mm_geta, mm_puti, mm_iald, mm_bald, mm_aald, mm_iast, mm_bast, mm_alen, mm_acpy, mm_call, mm_callv, mm_recv, mm_pop, mm_find, mm_push, mm_cats, mm_cat, mm_reti, mm_retz, mm_retl, mm_reta, mm_retv, mm_set1, mm_set2, mm_kill, List.getElem?_cons_zero, List.getElem?_cons_succ, Int.reduceToNat, ↓reduceIte, Nat.reduceEqDiff, Nat.reduceDiv, Nat.reduceAdd, Nat.reduceLeDiff, Nat.zero_le, true_and, and_true, true_or, or_true, mm_b0, mm_b1, mm_lc_lt, mm_lc_le, mm_lc_gt, mm_lc_ge, mm_lc_eq, Int.not_lt, Int.not_le, Decidable.not_not, Int.sub_neg, e1, e2, xr00, xr01, xr10, xr11, show Int.tdiv 4 2 = 2 by decide, Int.reduceEq, not_true_eq_false, not_false_eq_true, forall_const, false_implies, implies_true])
    all_goals first | assumption | (exact Or.inl rfl) | (exact Or.inr rfl) | (exact rfl) | trivial | omega | (refine c2 _ _ _ _ _ _ _ (by omega) (by omega) (by omega) (by omega) (by omega) (by omega) ?_; (repeat' (first | assumption | omega | split at hq)))
  have c4 : ∀ (x y d : Int) (x6 x7 x8 x9 : Option mmV), 0 ≤ x → x < 64 → 0 ≤ y → y < 64 → 0 ≤ d → d ≤ 4745 → Q (some (vi (cvF 4 8 x y d))) M → J 11 [some (vi x0), some (vi y0), some (vi x), some (vi y), some (vi d), some (vi 8), x6, x7, x8, x9] [] M := by
    intro x y d x6 x7 x8 x9 b1 b2 b3 b4 b5 b6 hq
    have hq : Q (some (vi (if x / 8 % 2 = 0 then (if y / 8 % 2 = 0 then cvF 3 4 y x (d + 8 * 8 * 0) else cvF 3 4 x y (d + 8 * 8 * 1)) else (if y / 8 % 2 = 0 then cvF 3 4 (63 - y) (63 - x) (d + 8 * 8 * 3) else cvF 3 4 x y (d + 8 * 8 * 2))))) M := hq
    have e1 := mm_andB 3 8 (by decide) (by decide) b1 b2
    have e2 := mm_andB 3 8 (by decide) (by decide) b3 b4
    refine hJ 11 _ _ _ (show mm_wp _ _ _ mo_Plan_curve_11 _ _ _ from ?_)
    simp only [mo_Plan_curve_11, mm_wp, mm_ldi, mm_lda, mm_ldl, mm_sti, mm_sta, mm_stl, mm_inc, mm_2i, mm_mm, mm_2l, mm_lcmp, mm_i2l, mm_l2i, mm_cast8, mm_if1, mm_if2, mm_cmp, mm_swi, mm_sw, mm_pop1, mm_dup, mm_dup2, mm_geti, mm_geta, mm_puti, mm_iald, mm_bald, mm_aald, mm_iast, mm_bast, mm_alen, mm_acpy, mm_call, mm_callv, mm_recv, mm_pop, mm_find, mm_push, mm_cats, mm_cat, mm_reti, mm_retz, mm_retl, mm_reta, mm_retv, mm_set1, mm_set2, mm_kill, List.getElem?_cons_zero, List.getElem?_cons_succ, Int.reduceToNat, ↓reduceIte, Nat.reduceEqDiff, Nat.reduceDiv, Nat.reduceAdd, Nat.reduceLeDiff, Nat.zero_le, true_and, and_true, true_or, or_true, mm_b0, mm_b1, mm_lc_lt, mm_lc_le, mm_lc_gt, mm_lc_ge, mm_lc_eq, Int.not_lt, Int.not_le, Decidable.not_not, Int.sub_neg, e1]
    refine ⟨fun q => by omega, fun _ => ?_⟩
    repeat' first | (refine And.intro ?_ ?_) | (intro _) | (refine hJ 0 _ _ _ ?_; show mm_wp _ _ _ mo_Plan_curve_0 _ _ _; simp only [mo_Plan_curve_0, mm_wp, mm_ldi, mm_lda, mm_ldl, mm_sti, mm_sta, mm_stl, mm_inc, mm_2i, mm_mm, mm_2l, mm_lcmp, mm_i2l, mm_l2i, mm_cast8, mm_if1, mm_if2, mm_cmp, mm_swi, mm_sw, mm_pop1, mm_dup, mm_dup2, mm_geti, mm_geta, mm_puti, mm_iald, mm_bald, mm_aald, mm_iast, mm_bast, mm_alen, mm_acpy, mm_call, mm_callv, mm_recv, mm_pop, mm_find, mm_push, mm_cats, mm_cat, mm_reti, mm_retz, mm_retl, mm_reta, mm_retv, mm_set1, mm_set2, mm_kill, List.getElem?_cons_zero, List.getElem?_cons_succ, Int.reduceToNat, ↓reduceIte, Nat.reduceEqDiff, Nat.reduceDiv, Nat.reduceAdd, Nat.reduceLeDiff, Nat.zero_le, true_and, and_true, true_or, or_true, mm_b0, mm_b1, mm_lc_lt, mm_lc_le, mm_lc_gt, mm_lc_ge, mm_lc_eq, Int.not_lt, Int.not_le, Decidable.not_not, Int.sub_neg, e1, e2, xr00, xr01, xr10, xr11, show Int.tdiv 8 2 = 4 by decide, Int.reduceEq, not_true_eq_false, not_false_eq_true, forall_const, false_implies, implies_true]) | (refine hJ 27 _ _ _ ?_; show mm_wp _ _ _ mo_Plan_curve_27 _ _ _; simp only [mo_Plan_curve_27, mm_wp, mm_ldi, mm_lda, mm_ldl, mm_sti, mm_sta, mm_stl, mm_inc, mm_2i, mm_mm, mm_2l, mm_lcmp, mm_i2l, mm_l2i, mm_cast8, mm_if1, mm_if2, mm_cmp, mm_swi, mm_sw, mm_pop1, mm_dup, mm_dup2, mm_geti, mm_geta, mm_puti, mm_iald, mm_bald, mm_aald, mm_iast, mm_bast, mm_alen, mm_acpy, mm_call, mm_callv, mm_recv, mm_pop, mm_find, mm_push, mm_cats, mm_cat, mm_reti, mm_retz, mm_retl, mm_reta, mm_retv, mm_set1, mm_set2, mm_kill, List.getElem?_cons_zero, List.getElem?_cons_succ, Int.reduceToNat, ↓reduceIte, Nat.reduceEqDiff, Nat.reduceDiv, Nat.reduceAdd, Nat.reduceLeDiff, Nat.zero_le, true_and, and_true, true_or, or_true, mm_b0, mm_b1, mm_lc_lt, mm_lc_le, mm_lc_gt, mm_lc_ge, mm_lc_eq, Int.not_lt, Int.not_le, Decidable.not_not, Int.sub_neg, e1, e2, xr00, xr01, xr10, xr11, show Int.tdiv 8 2 = 4 by decide, Int.reduceEq, not_true_eq_false, not_false_eq_true, forall_const, false_implies, implies_true]) | (refine hJ 28 _ _ _ ?_; show mm_wp _ _ _ mo_Plan_curve_28 _ _ _; simp only [mo_Plan_curve_28, mm_wp, mm_ldi, mm_lda, mm_ldl, mm_sti, mm_sta, mm_stl, mm_inc, mm_2i, mm_mm, mm_2l, mm_lcmp, mm_i2l, mm_l2i, mm_cast8, mm_if1, mm_if2, mm_cmp, mm_swi, mm_sw, mm_pop1, mm_dup, mm_dup2, mm_geti, mm_geta, mm_puti, mm_iald, mm_bald, mm_aald, mm_iast, mm_bast, mm_alen, mm_acpy, mm_call, mm_callv, mm_recv, mm_pop, mm_find, mm_push, mm_cats, mm_cat, mm_reti, mm_retz, mm_retl, mm_reta, mm_retv, mm_set1, mm_set2, mm_kill, List.getElem?_cons_zero, List.getElem?_cons_succ, Int.reduceToNat, ↓reduceIte, Nat.reduceEqDiff, Nat.reduceDiv, Nat.reduceAdd, Nat.reduceLeDiff, Nat.zero_le, true_and, and_true, true_or, or_true, mm_b0, mm_b1, mm_lc_lt, mm_lc_le, mm_lc_gt, mm_lc_ge, mm_lc_eq, Int.not_lt, Int.not_le, Decidable.not_not, Int.sub_neg, e1, e2, xr00, xr01, xr10, xr11, show Int.tdiv 8 2 = 4 by decide, Int.reduceEq, not_true_eq_false, not_false_eq_true, forall_const, false_implies, implies_true]) | (refine hJ 41 _ _ _ ?_; show mm_wp _ _ _ mo_Plan_curve_41 _ _ _; simp only [mo_Plan_curve_41, mm_wp, mm_ldi, mm_lda, mm_ldl, mm_sti, mm_sta, mm_stl, mm_inc, mm_2i, mm_mm, mm_2l, mm_lcmp, mm_i2l, mm_l2i, mm_cast8, mm_if1, mm_if2, mm_cmp, mm_swi, mm_sw, mm_pop1, mm_dup, mm_dup2, mm_geti, mm_geta, mm_puti, mm_iald, mm_bald, mm_aald, mm_iast, mm_bast, mm_alen, mm_acpy, mm_call, mm_callv, mm_recv, mm_pop, mm_find, mm_push, mm_cats, mm_cat, mm_reti, mm_retz, mm_retl, mm_reta, mm_retv, mm_set1, mm_set2, mm_kill, List.getElem?_cons_zero, List.getElem?_cons_succ, Int.reduceToNat, ↓reduceIte, Nat.reduceEqDiff, Nat.reduceDiv, Nat.reduceAdd, Nat.reduceLeDiff, Nat.zero_le, true_and, and_true, true_or, or_true, mm_b0, mm_b1, mm_lc_lt, mm_lc_le, mm_lc_gt, mm_lc_ge, mm_lc_eq, Int.not_lt, Int.not_le, Decidable.not_not, Int.sub_neg, e1, e2, xr00, xr01, xr10, xr11, show Int.tdiv 8 2 = 4 by decide, Int.reduceEq, not_true_eq_false, not_false_eq_true, forall_const, false_implies, implies_true]) | (refine hJ 42 _ _ _ ?_; show mm_wp _ _ _ mo_Plan_curve_42 _ _ _; simp only [mo_Plan_curve_42, mm_wp, mm_ldi, mm_lda, mm_ldl, mm_sti, mm_sta, mm_stl, mm_inc, mm_2i, mm_mm, mm_2l, mm_lcmp, mm_i2l, mm_l2i, mm_cast8, mm_if1, mm_if2, mm_cmp, mm_swi, mm_sw, mm_pop1, mm_dup, mm_dup2, mm_geti, mm_geta, mm_puti, mm_iald, mm_bald, mm_aald, mm_iast, mm_bast, mm_alen, mm_acpy, mm_call, mm_callv, mm_recv, mm_pop, mm_find, mm_push, mm_cats, mm_cat, mm_reti, mm_retz, mm_retl, mm_reta, mm_retv, mm_set1, mm_set2, mm_kill, List.getElem?_cons_zero, List.getElem?_cons_succ, Int.reduceToNat, ↓reduceIte, Nat.reduceEqDiff, Nat.reduceDiv, Nat.reduceAdd, Nat.reduceLeDiff, Nat.zero_le, true_and, and_true, true_or, or_true, mm_b0, mm_b1, mm_lc_lt, mm_lc_le, mm_lc_gt, mm_lc_ge, mm_lc_eq, Int.not_lt, Int.not_le, Decidable.not_not, Int.sub_neg, e1, e2, xr00, xr01, xr10, xr11, show Int.tdiv 8 2 = 4 by decide, Int.reduceEq, not_true_eq_false, not_false_eq_true, forall_const, false_implies, implies_true]) | (refine hJ 80 _ _ _ ?_; show mm_wp _ _ _ mo_Plan_curve_80 _ _ _; simp only [mo_Plan_curve_80, mm_wp, mm_ldi, mm_lda, mm_ldl, mm_sti, mm_sta, mm_stl, mm_inc, mm_2i, mm_mm, mm_2l, mm_lcmp, mm_i2l, mm_l2i, mm_cast8, mm_if1, mm_if2, mm_cmp, mm_swi, mm_sw, mm_pop1, mm_dup, mm_dup2, mm_geti, mm_geta, mm_puti, mm_iald, mm_bald, mm_aald, mm_iast, mm_bast, mm_alen, mm_acpy, mm_call, mm_callv, mm_recv, mm_pop, mm_find, mm_push, mm_cats, mm_cat, mm_reti, mm_retz, mm_retl, mm_reta, mm_retv, mm_set1, mm_set2, mm_kill, List.getElem?_cons_zero, List.getElem?_cons_succ, Int.reduceToNat, ↓reduceIte, Nat.reduceEqDiff, Nat.reduceDiv, Nat.reduceAdd, Nat.reduceLeDiff, Nat.zero_le, true_and, and_true, true_or, or_true, mm_b0, mm_b1, mm_lc_lt, mm_lc_le, mm_lc_gt, mm_lc_ge, mm_lc_eq, Int.not_lt, Int.not_le, Decidable.not_not, Int.sub_neg, e1, e2, xr00, xr01, xr10, xr11, show Int.tdiv 8 2 = 4 by decide, Int.reduceEq, not_true_eq_false, not_false_eq_true, forall_const, false_implies, implies_true]) | (refine hJ 81 _ _ _ ?_; show mm_wp _ _ _ mo_Plan_curve_81 _ _ _; simp only [mo_Plan_curve_81, mm_wp, mm_ldi, mm_lda, mm_ldl, mm_sti, mm_sta, mm_stl, mm_inc, mm_2i, mm_mm, mm_2l, mm_lcmp, mm_i2l, mm_l2i, mm_cast8, mm_if1, mm_if2, mm_cmp, mm_swi, mm_sw, mm_pop1, mm_dup, mm_dup2, mm_geti, mm_geta, mm_puti, mm_iald, mm_bald, mm_aald, mm_iast, mm_bast, mm_alen, mm_acpy, mm_call, mm_callv, mm_recv, mm_pop, mm_find, mm_push, mm_cats, mm_cat, mm_reti, mm_retz, mm_retl, mm_reta, mm_retv, mm_set1, mm_set2, mm_kill, List.getElem?_cons_zero, List.getElem?_cons_succ, Int.reduceToNat, ↓reduceIte, Nat.reduceEqDiff, Nat.reduceDiv, Nat.reduceAdd, Nat.reduceLeDiff, Nat.zero_le, true_and, and_true, true_or, or_true, mm_b0, mm_b1, mm_lc_lt, mm_lc_le, mm_lc_gt, mm_lc_ge, mm_lc_eq, Int.not_lt, Int.not_le, Decidable.not_not, Int.sub_neg, e1, e2, xr00, xr01, xr10, xr11, show Int.tdiv 8 2 = 4 by decide, Int.reduceEq, not_true_eq_false, not_false_eq_true, forall_const, false_implies, implies_true]) | (refine hJ 96 _ _ _ ?_; show mm_wp _ _ _ mo_Plan_curve_96 _ _ _; simp only [mo_Plan_curve_96, mm_wp, mm_ldi, mm_lda, mm_ldl, mm_sti, mm_sta, mm_stl, mm_inc, mm_2i, mm_mm, mm_2l, mm_lcmp, mm_i2l, mm_l2i, mm_cast8, mm_if1, mm_if2, mm_cmp, mm_swi, mm_sw, mm_pop1, mm_dup, mm_dup2, mm_geti, mm_geta, mm_puti, mm_iald, mm_bald, mm_aald, mm_iast, mm_bast, mm_alen, mm_acpy, mm_call, mm_callv, mm_recv, mm_pop, mm_find, mm_push, mm_cats, mm_cat, mm_reti, mm_retz, mm_retl, mm_reta, mm_retv, mm_set1, mm_set2, mm_kill, List.getElem?_cons_zero, List.getElem?_cons_succ, Int.reduceToNat, ↓reduceIte, Nat.reduceEqDiff, Nat.reduceDiv, Nat.reduceAdd, Nat.reduceLeDiff, Nat.zero_le, true_and, and_true, true_or, or_true, mm_b0, mm_b1, mm_lc_lt, mm_lc_le, mm_lc_gt, mm_lc_ge, mm_lc_eq, Int.not_lt, Int.not_le, Decidable.not_not, Int.sub_neg, e1, e2, xr00, xr01, xr10, xr11, show Int.tdiv 8 2 = 4 by decide, Int.reduceEq, not_true_eq_false, not_false_eq_true, forall_const, false_implies, implies_true]) | (refine hJ 97 _ _ _ ?_; show mm_wp _ _ _ mo_Plan_curve_97 _ _ _; simp only [mo_Plan_curve_97, mm_wp, mm_ldi, mm_lda, mm_ldl, mm_sti, mm_sta, mm_stl, mm_inc, mm_2i, mm_mm, mm_2l, mm_lcmp, mm_i2l, mm_l2i, mm_cast8, mm_if1, mm_if2, mm_cmp, mm_swi, mm_sw, mm_pop1, mm_dup, mm_dup2, mm_geti, mm_geta, mm_puti, mm_iald, mm_bald, mm_aald, mm_iast, mm_bast, mm_alen, mm_acpy, mm_call, mm_callv, mm_recv, mm_pop, mm_find, mm_push, mm_cats, mm_cat, mm_reti, mm_retz, mm_retl, mm_reta, mm_retv, mm_set1, mm_set2, mm_kill, List.getElem?_cons_zero, List.getElem?_cons_succ, Int.reduceToNat, ↓reduceIte, Nat.reduceEqDiff, Nat.reduceDiv, Nat.reduceAdd, Nat.reduceLeDiff, Nat.zero_le, true_and, and_true, true_or, or_true, mm_b0, mm_b1, mm_lc_lt, mm_lc_le, mm_lc_gt, mm_lc_ge, mm_lc_eq, Int.not_lt, Int.not_le, Decidable.not_not, Int.sub_neg, e1, e2, xr00, xr01, xr10, xr11, show Int.tdiv 8 2 = 4 by decide, Int.reduceEq, not_true_eq_false, not_false_eq_true, forall_const, false_implies, implies_true]) | (refine hJ 105 _ _ _ ?_; show mm_wp _ _ _ mo_Plan_curve_105 _ _ _; simp only [mo_Plan_curve_105, mm_wp, mm_ldi, mm_lda, mm_ldl, mm_sti, mm_sta, mm_stl, mm_inc, mm_2i, mm_mm, mm_2l, mm_lcmp, mm_i2l, mm_l2i, mm_cast8, mm_if1, mm_if2, mm_cmp, mm_swi, mm_sw, mm_pop1, mm_dup, mm_dup2, mm_geti, mm_geta, mm_puti, mm_iald, mm_bald, mm_aald, mm_iast, mm_bast, mm_alen, mm_acpy, mm_call, mm_callv, mm_recv, mm_pop, mm_find, mm_push, mm_cats, mm_cat, mm_reti, mm_retz, mm_retl, mm_reta, mm_retv, mm_set1, mm_set2, mm_kill, List.getElem?_cons_zero, List.getElem?_cons_succ, Int.reduceToNat, ↓reduceIte, Nat.reduceEqDiff, Nat.reduceDiv, Nat.reduceAdd, Nat.reduceLeDiff, Nat.zero_le, true_and, and_true, true_or, or_true, mm_b0, mm_b1, mm_lc_lt, mm_lc_le, mm_lc_gt, mm_lc_ge, mm_lc_eq, Int.not_lt, Int.not_le, Decidable.not_not, Int.sub_neg, e1, e2, xr00, xr01, xr10, xr11, show Int.tdiv 8 2 = 4 by decide, Int.reduceEq, not_true_eq_false, not_false_eq_true, forall_const, false_implies, implies_true]) | (refine hJ 114 _ _ _ ?_; show mm_wp _ _ _ mo_Plan_curve_114 _ _ _; simp only [mo_Plan_curve_114, mm_wp, mm_ldi, mm_lda, mm_ldl, mm_sti, mm_sta, mm_stl, mm_inc, mm_2i, mm_mm, mm_2l, mm_lcmp, mm_i2l, mm_l2i, mm_cast8, mm_if1, mm_if2, mm_cmp, mm_swi, mm_sw, mm_pop1, mm_dup, mm_dup2, mm_geti, mm_geta, mm_puti, mm_iald, mm_bald, mm_aald, mm_iast, mm_bast, mm_alen, mm_acpy, mm_call, mm_callv, mm_recv, mm_pop, mm_find, mm_push, mm_cats, mm_cat, mm_reti, mm_retz, mm_retl, mm_reta, mm_retv, mm_set1, mm_set2, mm_kill, List.getElem?_cons_zero, List.getElem?_cons_succ, Int.reduceToNat, ↓reduceIte, Nat.reduceEqDiff, Nat.reduceDiv, Nat.reduceAdd, Nat.reduceLeDiff, Nat.zero_le, true_and, and_true, true_or, or_true, mm_b0, mm_b1, mm_lc_lt, mm_lc_le, mm_lc_gt, mm_lc_ge, mm_lc_eq, Int.not_lt, Int.not_le, Decidable.not_not, Int.sub_neg, e1, e2, xr00, xr01, xr10, xr11, show Int.tdiv 8 2 = 4 by decide, Int.reduceEq, not_true_eq_false, not_false_eq_true, forall_const, false_implies, implies_true])
    all_goals first | assumption | (exact Or.inl rfl) | (exact Or.inr rfl) | (exact rfl) | trivial | omega | (refine c3 _ _ _ _ _ _ _ (by omega) (by omega) (by omega) (by omega) (by omega) (by omega) ?_; (repeat' (first | assumption | omega | split at hq)))
  have c5 : ∀ (x y d : Int) (x6 x7 x8 x9 : Option mmV), 0 ≤ x → x < 64 → 0 ≤ y → y < 64 → 0 ≤ d → d ≤ 3977 → Q (some (vi (cvF 5 16 x y d))) M → J 11 [some (vi x0), some (vi y0), some (vi x), some (vi y), some (vi d), some (vi 16), x6, x7, x8, x9] [] M := by
    intro x y d x6 x7 x8 x9 b1 b2 b3 b4 b5 b6 hq
    have hq : Q (some (vi (if x / 16 % 2 = 0 then (if y / 16 % 2 = 0 then cvF 4 8 y x (d + 16 * 16 * 0) else cvF 4 8 x y (d + 16 * 16 * 1)) else (if y / 16 % 2 = 0 then cvF 4 8 (63 - y) (63 - x) (d + 16 * 16 * 3) else cvF 4 8 x y (d + 16 * 16 * 2))))) M := hq
    have e1 := mm_andB 4 16 (by decide) (by decide) b1 b2
    have e2 := mm_andB 4 16 (by decide) (by decide) b3 b4
    refine hJ 11 _ _ _ (show mm_wp _ _ _ mo_Plan_curve_11 _ _ _ from ?_)
    simp only [mo_Plan_curve_11, mm_wp, mm_ldi, mm_lda, mm_ldl, mm_sti, mm_sta, mm_stl, mm_inc, mm_2i, mm_mm, mm_2l, mm_lcmp, mm_i2l, mm_l2i, mm_cast8, mm_if1, mm_if2, mm_cmp, mm_swi, mm_sw, mm_pop1, mm_dup, mm_dup2, mm_geti, mm_geta, mm_puti, mm_iald, mm_bald, mm_aald, mm_iast, mm_bast, mm_alen, mm_acpy, mm_call, mm_callv, mm_recv, mm_pop, mm_find, mm_push, mm_cats, mm_cat, mm_reti, mm_retz, mm_retl, mm_reta, mm_retv, mm_set1, mm_set2, mm_kill, List.getElem?_cons_zero, List.getElem?_cons_succ, Int.reduceToNat, ↓reduceIte, Nat.reduceEqDiff, Nat.reduceDiv, Nat.reduceAdd, Nat.reduceLeDiff, Nat.zero_le, true_and, and_true, true_or, or_true, mm_b0, mm_b1, mm_lc_lt, mm_lc_le, mm_lc_gt, mm_lc_ge, mm_lc_eq, Int.not_lt, Int.not_le, Decidable.not_not, Int.sub_neg, e1]
    refine ⟨fun q => by omega, fun _ => ?_⟩
    repeat' first | (refine And.intro ?_ ?_) | (intro _) | (refine hJ 0 _ _ _ ?_; show mm_wp _ _ _ mo_Plan_curve_0 _ _ _; simp only [mo_Plan_curve_0, mm_wp, mm_ldi, mm_lda, mm_ldl, mm_sti, mm_sta, mm_stl, mm_inc, mm_2i, mm_mm, mm_2l, mm_lcmp, mm_i2l, mm_l2i, mm_cast8, mm_if1, mm_if2, mm_cmp, mm_swi, mm_sw, mm_pop1, mm_dup, mm_dup2, mm_geti, mm_geta, mm_puti, mm_iald, mm_bald, mm_aald, mm_iast, mm_bast, mm_alen, mm_acpy, mm_call, mm_callv, mm_recv, mm_pop, mm_find, mm_push, mm_cats, mm_cat, mm_reti, mm_retz, mm_retl, mm_reta, mm_retv, mm_set1, mm_set2, mm_kill, List.getElem?_cons_zero, List.getElem?_cons_succ, Int.reduceToNat, ↓reduceIte, Nat.reduceEqDiff, Nat.reduceDiv, Nat.reduceAdd, Nat.reduceLeDiff, Nat.zero_le, true_and, and_true, true_or, or_true, mm_b0, mm_b1, mm_lc_lt, mm_lc_le, mm_lc_gt, mm_lc_ge, mm_lc_eq, Int.not_lt, Int.not_le, Decidable.not_not, Int.sub_neg, e1, e2, xr00, xr01, xr10, xr11, show Int.tdiv 16 2 = 8 by decide, Int.reduceEq, not_true_eq_false, not_false_eq_true, forall_const, false_implies, implies_true]) | (refine hJ 27 _ _ _ ?_; show mm_wp _ _ _ mo_Plan_curve_27 _ _ _; simp only [mo_Plan_curve_27, mm_wp, mm_ldi, mm_lda, mm_ldl, mm_sti, mm_sta, mm_stl, mm_inc, mm_2i, mm_mm, mm_2l, mm_lcmp, mm_i2l, mm_l2i, mm_cast8, mm_if1, mm_if2, mm_cmp, mm_swi, mm_sw, mm_pop1, mm_dup, mm_dup2, mm_geti, mm_geta, mm_puti, mm_iald, mm_bald, mm_aald, mm_iast, mm_bast, mm_alen, mm_acpy, mm_call, mm_callv, mm_recv, mm_pop, mm_find, mm_push, mm_cats, mm_cat, mm_reti, mm_retz, mm_retl, mm_reta, mm_retv, mm_set1, mm_set2, mm_kill, List.getElem?_cons_zero, List.getElem?_cons_succ, Int.reduceToNat, ↓reduceIte, Nat.reduceEqDiff, Nat.reduceDiv, Nat.reduceAdd, Nat.reduceLeDiff, Nat.zero_le, true_and, and_true, true_or, or_true, mm_b0, mm_b1, mm_lc_lt, mm_lc_le, mm_lc_gt, mm_lc_ge, mm_lc_eq, Int.not_lt, Int.not_le, Decidable.not_not, Int.sub_neg, e1, e2, xr00, xr01, xr10, xr11, show Int.tdiv 16 2 = 8 by decide, Int.reduceEq, not_true_eq_false, not_false_eq_true, forall_const, false_implies, implies_true]) | (refine hJ 28 _ _ _ ?_; show mm_wp _ _ _ mo_Plan_curve_28 _ _ _; simp only [mo_Plan_curve_28, mm_wp, mm_ldi, mm_lda, mm_ldl, mm_sti, mm_sta, mm_stl, mm_inc, mm_2i, mm_mm, mm_2l, mm_lcmp, mm_i2l, mm_l2i, mm_cast8, mm_if1, mm_if2, mm_cmp, mm_swi, mm_sw, mm_pop1, mm_dup, mm_dup2, mm_geti, mm_geta, mm_puti, mm_iald, mm_bald, mm_aald, mm_iast, mm_bast, mm_alen, mm_acpy, mm_call, mm_callv, mm_recv, mm_pop, mm_find, mm_push, mm_cats, mm_cat, mm_reti, mm_retz, mm_retl, mm_reta, mm_retv, mm_set1, mm_set2, mm_kill, List.getElem?_cons_zero, List.getElem?_cons_succ, Int.reduceToNat, ↓reduceIte, Nat.reduceEqDiff, Nat.reduceDiv, Nat.reduceAdd, Nat.reduceLeDiff, Nat.zero_le, true_and, and_true, true_or, or_true, mm_b0, mm_b1, mm_lc_lt, mm_lc_le, mm_lc_gt, mm_lc_ge, mm_lc_eq, Int.not_lt, Int.not_le, Decidable.not_not, Int.sub_neg, e1, e2, xr00, xr01, xr10, xr11, show Int.tdiv 16 2 = 8 by decide, Int.reduceEq, not_true_eq_false, not_false_eq_true, forall_const, false_implies, implies_true]) | (refine hJ 41 _ _ _ ?_; show mm_wp _ _ _ mo_Plan_curve_41 _ _ _; simp only [mo_Plan_curve_41, mm_wp, mm_ldi, mm_lda, mm_ldl, mm_sti, mm_sta, mm_stl, mm_inc, mm_2i, mm_mm, mm_2l, mm_lcmp, mm_i2l, mm_l2i, mm_cast8, mm_if1, mm_if2, mm_cmp, mm_swi, mm_sw, mm_pop1, mm_dup, mm_dup2, mm_geti, mm_geta, mm_puti, mm_iald, mm_bald, mm_aald, mm_iast, mm_bast, mm_alen, mm_acpy, mm_call, mm_callv, mm_recv, mm_pop, mm_find, mm_push, mm_cats, mm_cat, mm_reti, mm_retz, mm_retl, mm_reta, mm_retv, mm_set1, mm_set2, mm_kill, List.getElem?_cons_zero, List.getElem?_cons_succ, Int.reduceToNat, ↓reduceIte, Nat.reduceEqDiff, Nat.reduceDiv, Nat.reduceAdd, Nat.reduceLeDiff, Nat.zero_le, true_and, and_true, true_or, or_true, mm_b0, mm_b1, mm_lc_lt, mm_lc_le, mm_lc_gt, mm_lc_ge, mm_lc_eq, Int.not_lt, Int.not_le, Decidable.not_not, Int.sub_neg, e1, e2, xr00, xr01, xr10, xr11, show Int.tdiv 16 2 = 8 by decide, Int.reduceEq, not_true_eq_false, not_false_eq_true, forall_const, false_implies, implies_true]) | (refine hJ 42 _ _ _ ?_; show mm_wp _ _ _ mo_Plan_curve_42 _ _ _; simp only [mo_Plan_curve_42, mm_wp, mm_ldi, mm_lda, mm_ldl, mm_sti, mm_sta, mm_stl, mm_inc, mm_2i, mm_mm, mm_2l, mm_lcmp, mm_i2l, mm_l2i, mm_cast8, mm_if1, mm_if2, mm_cmp, mm_swi, mm_sw, mm_pop1, mm_dup, mm_dup2, mm_geti, mm_geta, mm_puti, mm_iald, mm_bald, mm_aald, mm_iast, mm_bast, mm_alen, mm_acpy, mm_call, mm_callv, mm_recv, mm_pop, mm_find, mm_push, mm_cats, mm_cat, mm_reti, mm_retz, mm_retl, mm_reta, mm_retv, mm_set1, mm_set2, mm_kill, List.getElem?_cons_zero, List.getElem?_cons_succ, Int.reduceToNat, ↓reduceIte, Nat.reduceEqDiff, Nat.reduceDiv, Nat.reduceAdd, Nat.reduceLeDiff, Nat.zero_le, true_and, and_true, true_or, or_true, mm_b0, mm_b1, mm_lc_lt, mm_lc_le, mm_lc_gt, mm_lc_ge, mm_lc_eq, Int.not_lt, Int.not_le, Decidable.not_not, Int.sub_neg, e1, e2, xr00, xr01, xr10, xr11, show Int.tdiv 16 2 = 8 by decide, Int.reduceEq, not_true_eq_false, not_false_eq_true, forall_const, false_implies, implies_true]) | (refine hJ 80 _ _ _ ?_; show mm_wp _ _ _ mo_Plan_curve_80 _ _ _; simp only [mo_Plan_curve_80, mm_wp, mm_ldi, mm_lda, mm_ldl, mm_sti, mm_sta, mm_stl, mm_inc, mm_2i, mm_mm, mm_2l, mm_lcmp, mm_i2l, mm_l2i, mm_cast8, mm_if1, mm_if2, mm_cmp, mm_swi, mm_sw, mm_pop1, mm_dup, mm_dup2, mm_geti, mm_geta, mm_puti, mm_iald, mm_bald, mm_aald, mm_iast, mm_bast, mm_alen, mm_acpy, mm_call, mm_callv, mm_recv, mm_pop, mm_find, mm_push, mm_cats, mm_cat, mm_reti, mm_retz, mm_retl, mm_reta, mm_retv, mm_set1, mm_set2, mm_kill, List.getElem?_cons_zero, List.getElem?_cons_succ, Int.reduceToNat, ↓reduceIte, Nat.reduceEqDiff, Nat.reduceDiv, Nat.reduceAdd, Nat.reduceLeDiff, Nat.zero_le, true_and, and_true, true_or, or_true, mm_b0, mm_b1, mm_lc_lt, mm_lc_le, mm_lc_gt, mm_lc_ge, mm_lc_eq, Int.not_lt, Int.not_le, Decidable.not_not, Int.sub_neg, e1, e2, xr00, xr01, xr10, xr11, show Int.tdiv 16 2 = 8 by decide, Int.reduceEq, not_true_eq_false, not_false_eq_true, forall_const, false_implies, implies_true]) | (refine hJ 81 _ _ _ ?_; show mm_wp _ _ _ mo_Plan_curve_81 _ _ _; simp only [mo_Plan_curve_81, mm_wp, mm_ldi, mm_lda, mm_ldl, mm_sti, mm_sta, mm_stl, mm_inc, mm_2i, mm_mm, mm_2l, mm_lcmp, mm_i2l, mm_l2i, mm_cast8, mm_if1, mm_if2, mm_cmp, mm_swi, mm_sw, mm_pop1, mm_dup, mm_dup2, mm_geti, mm_geta, mm_puti, mm_iald, mm_bald, mm_aald, mm_iast, mm_bast, mm_alen, mm_acpy, mm_call, mm_callv, mm_recv, mm_pop, mm_find, mm_push, mm_cats, mm_cat, mm_reti, mm_retz, mm_retl, mm_reta, mm_retv, mm_set1, mm_set2, mm_kill, List.getElem?_cons_zero, List.getElem?_cons_succ, Int.reduceToNat, ↓reduceIte, Nat.reduceEqDiff, Nat.reduceDiv, Nat.reduceAdd, Nat.reduceLeDiff, Nat.zero_le, true_and, and_true, true_or, or_true, mm_b0, mm_b1, mm_lc_lt, mm_lc_le, mm_lc_gt, mm_lc_ge, mm_lc_eq, Int.not_lt, Int.not_le, Decidable.not_not, Int.sub_neg, e1, e2, xr00, xr01, xr10, xr11, show Int.tdiv 16 2 = 8 by decide, Int.reduceEq, not_true_eq_false, not_false_eq_true, forall_const, false_implies, implies_true]) | (refine hJ 96 _ _ _ ?_; show mm_wp _ _ _ mo_Plan_curve_96 _ _ _; simp only [mo_Plan_curve_96, mm_wp, mm_ldi, mm_lda, mm_ldl, mm_sti, mm_sta, mm_stl, mm_inc, mm_2i, mm_mm, mm_2l, mm_lcmp, mm_i2l, mm_l2i, mm_cast8, mm_if1, mm_if2, mm_cmp, mm_swi, mm_sw, mm_pop1, mm_dup, mm_dup2, mm_geti, mm_geta, mm_puti, mm_iald, mm_bald, mm_aald, mm_iast, mm_bast, mm_alen, mm_acpy, mm_call, mm_callv, mm_recv, mm_pop, mm_find, mm_push, mm_cats, mm_cat, mm_reti, mm_retz, mm_retl, mm_reta, mm_retv, mm_set1, mm_set2, mm_kill, List.getElem?_cons_zero, List.getElem?_cons_succ, Int.reduceToNat, ↓reduceIte, Nat.reduceEqDiff, Nat.reduceDiv, Nat.reduceAdd, Nat.reduceLeDiff, Nat.zero_le, true_and, and_true, true_or, or_true, mm_b0, mm_b1, mm_lc_lt, mm_lc_le, mm_lc_gt, mm_lc_ge, mm_lc_eq, Int.not_lt, Int.not_le, Decidable.not_not, Int.sub_neg, e1, e2, xr00, xr01, xr10, xr11, show Int.tdiv 16 2 = 8 by decide, Int.reduceEq, not_true_eq_false, not_false_eq_true, forall_const, false_implies, implies_true]) | (refine hJ 97 _ _ _ ?_; show mm_wp _ _ _ mo_Plan_curve_97 _ _ _; simp only [mo_Plan_curve_97, mm_wp, mm_ldi, mm_lda, mm_ldl, mm_sti, mm_sta, mm_stl, mm_inc, mm_2i, mm_mm, mm_2l, mm_lcmp, mm_i2l, mm_l2i, mm_cast8, mm_if1, mm_if2, mm_cmp, mm_swi, mm_sw, mm_pop1, mm_dup, mm_dup2, mm_geti, mm_geta, mm_puti, mm_iald, mm_bald, mm_aald, mm_iast, mm_bast, mm_alen, mm_acpy, mm_call, mm_callv, mm_recv, mm_pop, mm_find, mm_push, mm_cats, mm_cat, mm_reti, mm_retz, mm_retl, mm_reta, mm_retv, mm_set1, mm_set2, mm_kill, List.getElem?_cons_zero, List.getElem?_cons_succ, Int.reduceToNat, ↓reduceIte, Nat.reduceEqDiff, Nat.reduceDiv, Nat.reduceAdd, Nat.reduceLeDiff, Nat.zero_le, true_and, and_true, true_or, or_true, mm_b0, mm_b1, mm_lc_lt, mm_lc_le, mm_lc_gt, mm_lc_ge, mm_lc_eq, Int.not_lt, Int.not_le, Decidable.not_not, Int.sub_neg, e1, e2, xr00, xr01, xr10, xr11, show Int.tdiv 16 2 = 8 by decide, Int.reduceEq, not_true_eq_false, not_false_eq_true, forall_const, false_implies, implies_true]) | (refine hJ 105 _ _ _ ?_; show mm_wp _ _ _ mo_Plan_curve_105 _ _ _; simp only [mo_Plan_curve_105, mm_wp, mm_ldi, mm_lda, mm_ldl, mm_sti, mm_sta, mm_stl, mm_inc, mm_2i, mm_mm, mm_2l, mm_lcmp, mm_i2l, mm_l2i, mm_cast8, mm_if1, mm_if2, mm_cmp, mm_swi, mm_sw, mm_pop1, mm_dup, mm_dup2, mm_geti, mm_geta, mm_puti, mm_iald, mm_bald, mm_aald, mm_iast, mm_bast, mm_alen, mm_acpy, mm_call, mm_callv, mm_recv, mm_pop, mm_find, mm_push, mm_cats, mm_cat, mm_reti, mm_retz, mm_retl, mm_reta, mm_retv, mm_set1, mm_set2, mm_kill, List.getElem?_cons_zero, List.getElem?_cons_succ, Int.reduceToNat, ↓reduceIte, Nat.reduceEqDiff, Nat.reduceDiv, Nat.reduceAdd, Nat.reduceLeDiff, Nat.zero_le, true_and, and_true, true_or, or_true, mm_b0, mm_b1, mm_lc_lt, mm_lc_le, mm_lc_gt, mm_lc_ge, mm_lc_eq, Int.not_lt, Int.not_le, Decidable.not_not, Int.sub_neg, e1, e2, xr00, xr01, xr10, xr11, show Int.tdiv 16 2 = 8 by decide, Int.reduceEq, not_true_eq_false, not_false_eq_true, forall_const, false_implies, implies_true]) | (refine hJ 114 _ _ _ ?_; show mm_wp _ _ _ mo_Plan_curve_114 _ _ _; simp only [mo_Plan_curve_114, mm_wp, mm_ldi, mm_lda, mm_ldl, mm_sti, mm_sta, mm_stl, mm_inc, mm_2i, mm_mm, mm_2l, mm_lcmp, mm_i2l, mm_l2i, mm_cast8, mm_if1, mm_if2, mm_cmp, mm_swi, mm_sw, mm_pop1, mm_dup, mm_dup2, mm_geti, mm_geta, mm_puti, mm_iald, mm_bald, mm_aald, mm_iast, mm_bast, mm_alen, mm_acpy, mm_call, mm_callv, mm_recv, mm_pop, mm_find, mm_push, mm_cats, mm_cat, mm_reti, mm_retz, mm_retl, mm_reta, mm_retv, mm_set1, mm_set2, mm_kill, List.getElem?_cons_zero, List.getElem?_cons_succ, Int.reduceToNat, ↓reduceIte, Nat.reduceEqDiff, Nat.reduceDiv, Nat.reduceAdd, Nat.reduceLeDiff, Nat.zero_le, true_and, and_true, true_or, or_true, mm_b0, mm_b1, mm_lc_lt, mm_lc_le, mm_lc_gt, mm_lc_ge, mm_lc_eq, Int.not_lt, Int.not_le, Decidable.not_not, Int.sub_neg, e1, e2, xr00, xr01, xr10, xr11, show Int.tdiv 16 2 = 8 by decide, Int.reduceEq, not_true_eq_false, not_false_eq_true, forall_const, false_implies, implies_true])
    all_goals first | assumption | (exact Or.inl rfl) | (exact Or.inr rfl) | (exact rfl) | trivial | omega | (refine c4 _ _ _ _ _ _ _ (by omega) (by omega) (by omega) (by omega) (by omega) (by omega) ?_; (repeat' (first | assumption | omega | split at hq)))
  have c6 : ∀ (x y d : Int) (x6 x7 x8 x9 : Option mmV), 0 ≤ x → x < 64 → 0 ≤ y → y < 64 → 0 ≤ d → d ≤ 905 → Q (some (vi (cvF 6 32 x y d))) M → J 11 [some (vi x0), some (vi y0), some (vi x), some (vi y), some (vi d), some (vi 32), x6, x7, x8, x9] [] M := by
    intro x y d x6 x7 x8 x9 b1 b2 b3 b4 b5 b6 hq
    have hq : Q (some (vi (if x / 32 % 2 = 0 then (if y / 32 % 2 = 0 then cvF 5 16 y x (d + 32 * 32 * 0) else cvF 5 16 x y (d + 32 * 32 * 1)) else (if y / 32 % 2 = 0 then cvF 5 16 (63 - y) (63 - x) (d + 32 * 32 * 3) else cvF 5 16 x y (d + 32 * 32 * 2))))) M := hq
    have e1 := mm_andB 5 32 (by decide) (by decide) b1 b2
    have e2 := mm_andB 5 32 (by decide) (by decide) b3 b4
    refine hJ 11 _ _ _ (show mm_wp _ _ _ mo_Plan_curve_11 _ _ _ from ?_)
    simp only [mo_Plan_curve_11, mm_wp, mm_ldi, mm_lda, mm_ldl, mm_sti, mm_sta, mm_stl, mm_inc, mm_2i, mm_mm, mm_2l, mm_lcmp, mm_i2l, mm_l2i, mm_cast8, mm_if1, mm_if2, mm_cmp, mm_swi, mm_sw, mm_pop1, mm_dup, mm_dup2, mm_geti, mm_geta, mm_puti, mm_iald, mm_bald, mm_aald, mm_iast, mm_bast, mm_alen, mm_acpy, mm_call, mm_callv, mm_recv, mm_pop, mm_find, mm_push, mm_cats, mm_cat, mm_reti, mm_retz, mm_retl, mm_reta, mm_retv, mm_set1, mm_set2, mm_kill, List.getElem?_cons_zero, List.getElem?_cons_succ, Int.reduceToNat, ↓reduceIte, Nat.reduceEqDiff, Nat.reduceDiv, Nat.reduceAdd, Nat.reduceLeDiff, Nat.zero_le, true_and, and_true, true_or, or_true, mm_b0, mm_b1, mm_lc_lt, mm_lc_le, mm_lc_gt, mm_lc_ge, mm_lc_eq, Int.not_lt, Int.not_le, Decidable.not_not, Int.sub_neg, e1]
    refine ⟨fun q => by omega, fun _ => ?_⟩
    repeat' first | (refine And.intro ?_ ?_) | (intro _) | (refine hJ 0 _ _ _ ?_; show mm_wp _ _ _ mo_Plan_curve_0 _ _ _; simp only [mo_Plan_curve_0, mm_wp, mm_ldi, mm_lda, mm_ldl, mm_sti, mm_sta, mm_stl, mm_inc, mm_2i, mm_mm, mm_2l, mm_lcmp, mm_i2l, mm_l2i, mm_cast8, mm_if1, mm_if2, mm_cmp, mm_swi, mm_sw, mm_pop1, mm_dup, mm_dup2, mm_geti, mm_geta, mm_puti, mm_iald, mm_bald, mm_aald, mm_iast, mm_bast, mm_alen, mm_acpy, mm_call, mm_callv, mm_recv, mm_pop, mm_find, mm_push, mm_cats, mm_cat, mm_reti, mm_retz, mm_retl, mm_reta, mm_retv, mm_set1, mm_set2, mm_kill, List.getElem?_cons_zero, List.getElem?_cons_succ, Int.reduceToNat, ↓reduceIte, Nat.reduceEqDiff, Nat.reduceDiv, Nat.reduceAdd, Nat.reduceLeDiff, Nat.zero_le, true_and, and_true, true_or, or_true, mm_b0, mm_b1, mm_lc_lt, mm_lc_le, mm_lc_gt, mm_lc_ge, mm_lc_eq, Int.not_lt, Int.not_le, Decidable.not_not, Int.sub_neg, e1, e2, xr00, xr01, xr10, xr11, show Int.tdiv 32 2 = 16 by decide, Int.reduceEq, not_true_eq_false, not_false_eq_true, forall_const, false_implies, implies_true]) | (refine hJ 27 _ _ _ ?_; show mm_wp _ _ _ mo_Plan_curve_27 _ _ _; simp only [mo_Plan_curve_27, mm_wp, mm_ldi, mm_lda, mm_ldl, mm_sti, mm_sta, mm_stl, mm_inc, mm_2i, mm_mm, mm_2l, mm_lcmp, mm_i2l, mm_l2i, mm_cast8, mm_if1, mm_if2, mm_cmp, mm_swi, mm_sw, mm_pop1, mm_dup, mm_dup2, mm_geti, mm_geta, mm_puti, mm_iald, mm_bald, mm_aald, mm_iast, mm_bast, mm_alen, mm_acpy, mm_call, mm_callv, mm_recv, mm_pop, mm_find, mm_push, mm_cats, mm_cat, mm_reti, mm_retz, mm_retl, mm_reta, mm_retv, mm_set1, mm_set2, mm_kill, List.getElem?_cons_zero, List.getElem?_cons_succ, Int.reduceToNat, ↓reduceIte, Nat.reduceEqDiff, Nat.reduceDiv, Nat.reduceAdd, Nat.reduceLeDiff, Nat.zero_le, true_and, and_true, true_or, or_true, mm_b0, mm_b1, mm_lc_lt, mm_lc_le, mm_lc_gt, mm_lc_ge, mm_lc_eq, Int.not_lt, Int.not_le, Decidable.not_not, Int.sub_neg, e1, e2, xr00, xr01, xr10, xr11, show Int.tdiv 32 2 = 16 by decide, Int.reduceEq, not_true_eq_false, not_false_eq_true, forall_const, false_implies, implies_true]) | (refine hJ 28 _ _ _ ?_; show mm_wp _ _ _ mo_Plan_curve_28 _ _ _; simp only [mo_Plan_curve_28, mm_wp, mm_ldi, mm_lda, mm_ldl, mm_sti, mm_sta, mm_stl, mm_inc, mm_2i, mm_mm, mm_2l, mm_lcmp, mm_i2l, mm_l2i, mm_cast8, mm_if1, mm_if2, mm_cmp, mm_swi, mm_sw, mm_pop1, mm_dup, mm_dup2, mm_geti, mm_geta, mm_puti, mm_iald, mm_bald, mm_aald, mm_iast, mm_bast, mm_alen, mm_acpy, mm_call, mm_callv, mm_recv, mm_pop, mm_find, mm_push, mm_cats, mm_cat, mm_reti, mm_retz, mm_retl, mm_reta, mm_retv, mm_set1, mm_set2, mm_kill, List.getElem?_cons_zero, List.getElem?_cons_succ, Int.reduceToNat, ↓reduceIte, Nat.reduceEqDiff, Nat.reduceDiv, Nat.reduceAdd, Nat.reduceLeDiff, Nat.zero_le, true_and, and_true, true_or, or_true, mm_b0, mm_b1, mm_lc_lt, mm_lc_le, mm_lc_gt, mm_lc_ge, mm_lc_eq, Int.not_lt, Int.not_le, Decidable.not_not, Int.sub_neg, e1, e2, xr00, xr01, xr10, xr11, show Int.tdiv 32 2 = 16 by decide, Int.reduceEq, not_true_eq_false, not_false_eq_true, forall_const, false_implies, implies_true]) | (refine hJ 41 _ _ _ ?_; show mm_wp _ _ _ mo_Plan_curve_41 _ _ _; simp only [mo_Plan_curve_41, mm_wp, mm_ldi, mm_lda, mm_ldl, mm_sti, mm_sta, mm_stl, mm_inc, mm_2i, mm_mm, mm_2l, mm_lcmp, mm_i2l, mm_l2i, mm_cast8, mm_if1, mm_if2, mm_cmp, mm_swi, mm_sw, mm_pop1, mm_dup, mm_dup2, mm_geti, mm_geta, mm_puti, mm_iald, mm_bald, mm_aald, mm_iast, mm_bast, mm_alen, mm_acpy, mm_call, mm_callv, mm_recv, mm_pop, mm_find, mm_push, mm_cats, mm_cat, mm_reti, mm_retz, mm_retl, mm_reta, mm_retv, mm_set1, mm_set2, mm_kill, List.getElem?_cons_zero, List.getElem?_cons_succ, Int.reduceToNat, ↓reduceIte, Nat.reduceEqDiff, Nat.reduceDiv, Nat.reduceAdd, Nat.reduceLeDiff, Nat.zero_le, true_and, and_true, true_or, or_true, mm_b0, mm_b1, mm_lc_lt, mm_lc_le, mm_lc_gt, mm_lc_ge, mm_lc_eq, Int.not_lt, Int.not_le, Decidable.not_not, Int.sub_neg, e1, e2, xr00, xr01, xr10, xr11, show Int.tdiv 32 2 = 16 by decide, Int.reduceEq, not_true_eq_false, not_false_eq_true, forall_const, false_implies, implies_true]) | (refine hJ 42 _ _ _ ?_; show mm_wp _ _ _ mo_Plan_curve_42 _ _ _; simp only [mo_Plan_curve_42, mm_wp, mm_ldi, mm_lda, mm_ldl, mm_sti, mm_sta, mm_stl, mm_inc, mm_2i, mm_mm, mm_2l, mm_lcmp, mm_i2l, mm_l2i, mm_cast8, mm_if1, mm_if2, mm_cmp, mm_swi, mm_sw, mm_pop1, mm_dup, mm_dup2, mm_geti, mm_geta, mm_puti, mm_iald, mm_bald, mm_aald, mm_iast, mm_bast, mm_alen, mm_acpy, mm_call, mm_callv, mm_recv, mm_pop, mm_find, mm_push, mm_cats, mm_cat, mm_reti, mm_retz, mm_retl, mm_reta, mm_retv, mm_set1, mm_set2, mm_kill, List.getElem?_cons_zero, List.getElem?_cons_succ, Int.reduceToNat, ↓reduceIte, Nat.reduceEqDiff, Nat.reduceDiv, Nat.reduceAdd, Nat.reduceLeDiff, Nat.zero_le, true_and, and_true, true_or, or_true, mm_b0, mm_b1, mm_lc_lt, mm_lc_le, mm_lc_gt, mm_lc_ge, mm_lc_eq, Int.not_lt, Int.not_le, Decidable.not_not, Int.sub_neg, e1, e2, xr00, xr01, xr10, xr11, show Int.tdiv 32 2 = 16 by decide, Int.reduceEq, not_true_eq_false, not_false_eq_true, forall_const, false_implies, implies_true]) | (refine hJ 80 _ _ _ ?_; show mm_wp _ _ _ mo_Plan_curve_80 _ _ _; simp only [mo_Plan_curve_80, mm_wp, mm_ldi, mm_lda, mm_ldl, mm_sti, mm_sta, mm_stl, mm_inc, mm_2i, mm_mm, mm_2l, mm_lcmp, mm_i2l, mm_l2i, mm_cast8, mm_if1, mm_if2, mm_cmp, mm_swi, mm_sw, mm_pop1, mm_dup, mm_dup2, mm_geti, mm_geta, mm_puti, mm_iald, mm_bald, mm_aald, mm_iast, mm_bast, mm_alen, mm_acpy, mm_call, mm_callv, mm_recv, mm_pop, mm_find, mm_push, mm_cats, mm_cat, mm_reti, mm_retz, mm_retl, mm_reta, mm_retv, mm_set1, mm_set2, mm_kill, List.getElem?_cons_zero, List.getElem?_cons_succ, Int.reduceToNat, ↓reduceIte, Nat.reduceEqDiff, Nat.reduceDiv, Nat.reduceAdd, Nat.reduceLeDiff, Nat.zero_le, true_and, and_true, true_or, or_true, mm_b0, mm_b1, mm_lc_lt, mm_lc_le, mm_lc_gt, mm_lc_ge, mm_lc_eq, Int.not_lt, Int.not_le, Decidable.not_not, Int.sub_neg, e1, e2, xr00, xr01, xr10, xr11, show Int.tdiv 32 2 = 16 by decide, Int.reduceEq, not_true_eq_false, not_false_eq_true, forall_const, false_implies, implies_true]) | (refine hJ 81 _ _ _ ?_; show mm_wp _ _ _ mo_Plan_curve_81 _ _ _; simp only [mo_Plan_curve_81, mm_wp, mm_ldi, mm_lda, mm_ldl, mm_sti, mm_sta, mm_stl, mm_inc, mm_2i, mm_mm, mm_2l, mm_lcmp, mm_i2l, mm_l2i, mm_cast8, mm_if1, mm_if2, mm_cmp, mm_swi, mm_sw, mm_pop1, mm_dup, mm_dup2, mm_geti, mm_geta, mm_puti, mm_iald, mm_bald, mm_aald, mm_iast, mm_bast, mm_alen, mm_acpy, mm_call, mm_callv, mm_recv, mm_pop, mm_find, mm_push, mm_cats, mm_cat, mm_reti, mm_retz, mm_retl, mm_reta, mm_retv, mm_set1, mm_set2, mm_kill, List.getElem?_cons_zero, List.getElem?_cons_succ, Int.reduceToNat, ↓reduceIte, Nat.reduceEqDiff, Nat.reduceDiv, Nat.reduceAdd, Nat.reduceLeDiff, Nat.zero_le, true_and, and_true, true_or, or_true, mm_b0, mm_b1, mm_lc_lt, mm_lc_le, mm_lc_gt, mm_lc_ge, mm_lc_eq, Int.not_lt, Int.not_le, Decidable.not_not, Int.sub_neg, e1, e2, xr00, xr01, xr10, xr11, show Int.tdiv 32 2 = 16 by decide, Int.reduceEq, not_true_eq_false, not_false_eq_true, forall_const, false_implies, implies_true]) | (refine hJ 96 _ _ _ ?_; show mm_wp _ _ _ mo_Plan_curve_96 _ _ _; simp only [mo_Plan_curve_96, mm_wp, mm_ldi, mm_lda, mm_ldl, mm_sti, mm_sta, mm_stl, mm_inc, mm_2i, mm_mm, mm_2l, mm_lcmp, mm_i2l, mm_l2i, mm_cast8, mm_if1, mm_if2, mm_cmp, mm_swi, mm_sw, mm_pop1, mm_dup, mm_dup2, mm_geti, mm_geta, mm_puti, mm_iald, mm_bald, mm_aald, mm_iast, mm_bast, mm_alen, mm_acpy, mm_call, mm_callv, mm_recv, mm_pop, mm_find, mm_push, mm_cats, mm_cat, mm_reti, mm_retz, mm_retl, mm_reta, mm_retv, mm_set1, mm_set2, mm_kill, List.getElem?_cons_zero, List.getElem?_cons_succ, Int.reduceToNat, ↓reduceIte, Nat.reduceEqDiff, Nat.reduceDiv, Nat.reduceAdd, Nat.reduceLeDiff, Nat.zero_le, true_and, and_true, true_or, or_true, mm_b0, mm_b1, mm_lc_lt, mm_lc_le, mm_lc_gt, mm_lc_ge, mm_lc_eq, Int.not_lt, Int.not_le, Decidable.not_not, Int.sub_neg, e1, e2, xr00, xr01, xr10, xr11, show Int.tdiv 32 2 = 16 by decide, Int.reduceEq, not_true_eq_false, not_false_eq_true, forall_const, false_implies, implies_true]) | (refine hJ 97 _ _ _ ?_; show mm_wp _ _ _ mo_Plan_curve_97 _ _ _; simp only [mo_Plan_curve_97, mm_wp, mm_ldi, mm_lda, mm_ldl, mm_sti, mm_sta, mm_stl, mm_inc, mm_2i, mm_mm, mm_2l, mm_lcmp, mm_i2l, mm_l2i, mm_cast8, mm_if1, mm_if2, mm_cmp, mm_swi, mm_sw, mm_pop1, mm_dup, mm_dup2, mm_geti, mm_geta, mm_puti, mm_iald, mm_bald, mm_aald, mm_iast, mm_bast, mm_alen, mm_acpy, mm_call, mm_callv, mm_recv, mm_pop, mm_find, mm_push, mm_cats, mm_cat, mm_reti, mm_retz, mm_retl, mm_reta, mm_retv, mm_set1, mm_set2, mm_kill, List.getElem?_cons_zero, List.getElem?_cons_succ, Int.reduceToNat, ↓reduceIte, Nat.reduceEqDiff, Nat.reduceDiv, Nat.reduceAdd, Nat.reduceLeDiff, Nat.zero_le, true_and, and_true, true_or, or_true, mm_b0, mm_b1, mm_lc_lt, mm_lc_le, mm_lc_gt, mm_lc_ge, mm_lc_eq, Int.not_lt, Int.not_le, Decidable.not_not, Int.sub_neg, e1, e2, xr00, xr01, xr10, xr11, show Int.tdiv 32 2 = 16 by decide, Int.reduceEq, not_true_eq_false, not_false_eq_true, forall_const, false_implies, implies_true]) | (refine hJ 105 _ _ _ ?_; show mm_wp _ _ _ mo_Plan_curve_105 _ _ _; simp only [mo_Plan_curve_105, mm_wp, mm_ldi, mm_lda, mm_ldl, mm_sti, mm_sta, mm_stl, mm_inc, mm_2i, mm_mm, mm_2l, mm_lcmp, mm_i2l, mm_l2i, mm_cast8, mm_if1, mm_if2, mm_cmp, mm_swi, mm_sw, mm_pop1, mm_dup, mm_dup2, mm_geti, mm_geta, mm_puti, mm_iald, mm_bald, mm_aald, mm_iast, mm_bast, mm_alen, mm_acpy, mm_call, mm_callv, mm_recv, mm_pop, mm_find, mm_push, mm_cats, mm_cat, mm_reti, mm_retz, mm_retl, mm_reta, mm_retv, mm_set1, mm_set2, mm_kill, List.getElem?_cons_zero, List.getElem?_cons_succ, Int.reduceToNat, ↓reduceIte, Nat.reduceEqDiff, Nat.reduceDiv, Nat.reduceAdd, Nat.reduceLeDiff, Nat.zero_le, true_and, and_true, true_or, or_true, mm_b0, mm_b1, mm_lc_lt, mm_lc_le, mm_lc_gt, mm_lc_ge, mm_lc_eq, Int.not_lt, Int.not_le, Decidable.not_not, Int.sub_neg, e1, e2, xr00, xr01, xr10, xr11, show Int.tdiv 32 2 = 16 by decide, Int.reduceEq, not_true_eq_false, not_false_eq_true, forall_const, false_implies, implies_true]) | (refine hJ 114 _ _ _ ?_; show mm_wp _ _ _ mo_Plan_curve_114 _ _ _; simp only [mo_Plan_curve_114, mm_wp, mm_ldi, mm_lda, mm_ldl, mm_sti, mm_sta, mm_stl, mm_inc, mm_2i, mm_mm, mm_2l, mm_lcmp, mm_i2l, mm_l2i, mm_cast8, mm_if1, mm_if2, mm_cmp, mm_swi, mm_sw, mm_pop1, mm_dup, mm_dup2, mm_geti, mm_geta, mm_puti, mm_iald, mm_bald, mm_aald, mm_iast, mm_bast, mm_alen, mm_acpy, mm_call, mm_callv, mm_recv, mm_pop, mm_find, mm_push, mm_cats, mm_cat, mm_reti, mm_retz, mm_retl, mm_reta, mm_retv, mm_set1, mm_set2, mm_kill, List.getElem?_cons_zero, List.getElem?_cons_succ, Int.reduceToNat, ↓reduceIte, Nat.reduceEqDiff, Nat.reduceDiv, Nat.reduceAdd, Nat.reduceLeDiff, Nat.zero_le, true_and, and_true, true_or, or_true, mm_b0, mm_b1, mm_lc_lt, mm_lc_le, mm_lc_gt, mm_lc_ge, mm_lc_eq, Int.not_lt, Int.not_le, Decidable.not_not, Int.sub_neg, e1, e2, xr00, xr01, xr10, xr11, show Int.tdiv 32 2 = 16 by decide, Int.reduceEq, not_true_eq_false, not_false_eq_true, forall_const, false_implies, implies_true])
    all_goals first | assumption | (exact Or.inl rfl) | (exact Or.inr rfl) | (exact rfl) | trivial | omega | (refine c5 _ _ _ _ _ _ _ (by omega) (by omega) (by omega) (by omega) (by omega) (by omega) ?_; (repeat' (first | assumption | omega | split at hq)))
  refine hJ 0 _ _ _ (show mm_wp _ _ _ mo_Plan_curve_0 _ _ _ from ?_)
  simp only [mo_Plan_curve_0, mm_wp, mm_ldi, mm_lda, mm_ldl, mm_sti, mm_sta, mm_stl, mm_inc, mm_2i, mm_mm, mm_2l, mm_lcmp, mm_i2l, mm_l2i, mm_cast8, mm_if1, mm_if2, mm_cmp, mm_swi, mm_sw, mm_pop1, mm_dup, mm_dup2, mm_geti, mm_geta, mm_puti, mm_iald, mm_bald, mm_aald, mm_iast, mm_bast, mm_alen, mm_acpy, mm_call, mm_callv, mm_recv, mm_pop, mm_find, mm_push, mm_cats, mm_cat, mm_reti, mm_retz, mm_retl, mm_reta, mm_retv, mm_set1, mm_set2, mm_kill, List.getElem?_cons_zero, List.getElem?_cons_succ, Int.reduceToNat, ↓reduceIte, Nat.reduceEqDiff, Nat.reduceDiv, Nat.reduceAdd, Nat.reduceLeDiff, Nat.zero_le, true_and, and_true, true_or, or_true, mm_b0, mm_b1, mm_lc_lt, mm_lc_le, mm_lc_gt, mm_lc_ge, mm_lc_eq, Int.not_lt, Int.not_le, Decidable.not_not, Int.sub_neg]
  exact c6 x0 y0 0 _ _ _ _ (by omega) (by omega) (by omega) (by omega) (by omega) (by omega) h
/-- the questions at o are within the row's bounds -/
def qB (M : mmM) (o : Nat) : Prop := 0 ≤ M o 4 ∧ M o 4 ≤ 25 ∧ ∀ q, 0 ≤ q → q < M o 4 → 0 ≤ M (o + 2) q ∧ M (o + 2) q < 60 ∧ 0 ≤ M (o + 3) q ∧ M (o + 3) q < 60 ∧ 0 ≤ M (o + 4) q ∧ M (o + 4) q ≤ 32
def t_Plan_keyOf : mmT := fun as M Q => match as with
  | [.inr (.inr o), .inl q, .inl ord, .inl b] => isQ o ∧ qB M o ∧ 0 ≤ q ∧ q < M o 4 ∧ 0 ≤ ord ∧ ord ≤ 2 ∧ 1 ≤ b ∧ b ≤ 60 ∧ Q (some (vi (pA ord b (M (o + 2) q) (M (o + 3) q) (M (o + 4) q) * 32 + q))) M
  | _ => False
set_option maxHeartbeats 4000000 in
set_option maxRecDepth 100000 in
theorem p_Plan_keyOf : ∀ as M Q, (∀ v ∈ as, mm_vin v) → mm_mem M → t_Plan_keyOf as M Q → (mm_ent as).length ≤ 7 ∧ mm_ok mb_Plan_keyOf [(501, t_Srt_key), (104, t_Plan_curve), (103, t_Plan_thereAndBack)] (mm_entry 7 as) M Q := by
  intro as M Q hin hM h
  unfold t_Plan_keyOf at h
  split at h
  rotate_left
  · exact h.elim
  rename_i o q ord b
  have hR_q : mm_R q := hin (vi q) (by simp)
  have hR_ord : mm_R ord := hin (vi ord) (by simp)
  have hR_b : mm_R b := hin (vi b) (by simp)
  refine ⟨by simp [mm_ent], (show mm_ok mb_Plan_keyOf [(501, t_Srt_key), (104, t_Plan_curve), (103, t_Plan_thereAndBack)] [some (vr o), some (vi q), some (vi ord), some (vi b), none, none, none] M Q from ?_)⟩
  intro J hJ
  obtain ⟨⟨ho, o1, o2, o3, o4, l1, l2, l3, l4⟩, hB, h1, h2, h3, h4, h5, h6, h⟩ := h
  have hq := hB.2.2 q h1 h2
  have hn := hB.2.1
  obtain ⟨q1, q2, q3, q4, q5, q6⟩ := hq
  obtain ⟨x1, x2, x3, x4⟩ := dB (b := b) q1 (by omega) h5
  obtain ⟨y1, y2, y3, y4⟩ := dB (b := b) q3 (by omega) h5
  have c1 := cv_b (M (o + 2) q / b) (M (o + 3) q / b)
  have t1 := tb_b (o := M (o + 2) q / b) y1 y2
  have t2 := tb_b (o := M (o + 3) q / b) q5 (by omega)
  unfold pA at h
  generalize M (o + 2) q / b = x at x1 x2 x3 x4 c1 t1 h ⊢
  generalize M (o + 3) q / b = y at y1 y2 y3 y4 c1 t1 t2 h ⊢
  have h70 : ¬ ord = 0 → ¬ ord = 2 → J 70 [some (vr o), some (vi q), some (vi ord), some (vi b), some (vi x), some (vi y), some (vi (M (o + 4) q))] [] M := by
    intro g1 g2
    rw [if_neg g1, if_neg g2] at h
    refine hJ 70 _ _ _ (show mm_wp _ _ _ mo_Plan_keyOf_70 _ _ _ from ?_)
    simp only [mo_Plan_keyOf_70, mm_wp, mm_ldi, mm_lda, mm_ldl, mm_sti, mm_sta, mm_stl, mm_inc, mm_2i, mm_mm, mm_2l, mm_lcmp, mm_i2l, mm_l2i, mm_cast8, mm_if1, mm_if2, mm_cmp, mm_swi, mm_sw, mm_pop1, mm_dup, mm_dup2, mm_geti, mm_geta, mm_puti, mm_iald, mm_bald, mm_aald, mm_iast, mm_bast, mm_alen, mm_acpy, mm_call, mm_callv, mm_recv, mm_pop, mm_find, mm_push, mm_cats, mm_cat, mm_reti, mm_retz, mm_retl, mm_reta, mm_retv, mm_set1, mm_set2, mm_kill, List.getElem?_cons_zero, List.getElem?_cons_succ, Int.reduceToNat, ↓reduceIte, Nat.reduceEqDiff, Nat.reduceDiv, Nat.reduceAdd, Nat.reduceLeDiff, Nat.zero_le, true_and, and_true, true_or, or_true, mm_b0, mm_b1, mm_lc_lt, mm_lc_le, mm_lc_gt, mm_lc_ge, mm_lc_eq, Int.not_lt, Int.not_le, Decidable.not_not, Int.sub_neg, t_Plan_thereAndBack, t_Srt_key]
    repeat (refine And.intro (by omega) ?_)
    exact h
  have h50 : ¬ ord = 0 → J 50 [some (vr o), some (vi q), some (vi ord), some (vi b), some (vi x), some (vi y), some (vi (M (o + 4) q))] [] M := by
    intro g1
    refine hJ 50 _ _ _ (show mm_wp _ _ _ mo_Plan_keyOf_50 _ _ _ from ?_)
    simp only [mo_Plan_keyOf_50, mm_wp, mm_ldi, mm_lda, mm_ldl, mm_sti, mm_sta, mm_stl, mm_inc, mm_2i, mm_mm, mm_2l, mm_lcmp, mm_i2l, mm_l2i, mm_cast8, mm_if1, mm_if2, mm_cmp, mm_swi, mm_sw, mm_pop1, mm_dup, mm_dup2, mm_geti, mm_geta, mm_puti, mm_iald, mm_bald, mm_aald, mm_iast, mm_bast, mm_alen, mm_acpy, mm_call, mm_callv, mm_recv, mm_pop, mm_find, mm_push, mm_cats, mm_cat, mm_reti, mm_retz, mm_retl, mm_reta, mm_retv, mm_set1, mm_set2, mm_kill, List.getElem?_cons_zero, List.getElem?_cons_succ, Int.reduceToNat, ↓reduceIte, Nat.reduceEqDiff, Nat.reduceDiv, Nat.reduceAdd, Nat.reduceLeDiff, Nat.zero_le, true_and, and_true, true_or, or_true, mm_b0, mm_b1, mm_lc_lt, mm_lc_le, mm_lc_gt, mm_lc_ge, mm_lc_eq, Int.not_lt, Int.not_le, Decidable.not_not, Int.sub_neg, t_Plan_curve, t_Srt_key]
    refine ⟨fun g2 => h70 g1 g2, fun g2 => ?_⟩
    repeat (refine And.intro (by omega) ?_)
    rw [if_neg g1, if_pos g2] at h
    rw [show (0 * 64 + cv x y) = cv x y by omega]
    exact h
  have h7 : J 7 [some (vr o), some (vi q), some (vi ord), some (vi b), none, none, none] [] M := by
    refine hJ 7 _ _ _ (show mm_wp _ _ _ mo_Plan_keyOf_7 _ _ _ from ?_)
    simp only [mo_Plan_keyOf_7, mm_wp, mm_ldi, mm_lda, mm_ldl, mm_sti, mm_sta, mm_stl, mm_inc, mm_2i, mm_mm, mm_2l, mm_lcmp, mm_i2l, mm_l2i, mm_cast8, mm_if1, mm_if2, mm_cmp, mm_swi, mm_sw, mm_pop1, mm_dup, mm_dup2, mm_geti, mm_geta, mm_puti, mm_iald, mm_bald, mm_aald, mm_iast, mm_bast, mm_alen, mm_acpy, mm_call, mm_callv, mm_recv, mm_pop, mm_find, mm_push, mm_cats, mm_cat, mm_reti, mm_retz, mm_retl, mm_reta, mm_retv, mm_set1, mm_set2, mm_kill, List.getElem?_cons_zero, List.getElem?_cons_succ, Int.reduceToNat, ↓reduceIte, Nat.reduceEqDiff, Nat.reduceDiv, Nat.reduceAdd, Nat.reduceLeDiff, Nat.zero_le, true_and, and_true, true_or, or_true, mm_b0, mm_b1, mm_lc_lt, mm_lc_le, mm_lc_gt, mm_lc_ge, mm_lc_eq, Int.not_lt, Int.not_le, Decidable.not_not, Int.sub_neg, ho, o1, o2, o3, o4, l1, l2, l3, l4, t_Srt_key, x4, y4]
    refine ⟨by omega, by omega, by omega, by omega, by omega, h50, fun g1 => ⟨by omega, ?_⟩⟩
    rw [if_pos g1] at h
    exact h
  refine hJ 0 _ _ _ (show mm_wp _ _ _ mo_Plan_keyOf_0 _ _ _ from ?_)
  simp only [mo_Plan_keyOf_0, mm_wp, mm_ldi, mm_lda, mm_ldl, mm_sti, mm_sta, mm_stl, mm_inc, mm_2i, mm_mm, mm_2l, mm_lcmp, mm_i2l, mm_l2i, mm_cast8, mm_if1, mm_if2, mm_cmp, mm_swi, mm_sw, mm_pop1, mm_dup, mm_dup2, mm_geti, mm_geta, mm_puti, mm_iald, mm_bald, mm_aald, mm_iast, mm_bast, mm_alen, mm_acpy, mm_call, mm_callv, mm_recv, mm_pop, mm_find, mm_push, mm_cats, mm_cat, mm_reti, mm_retz, mm_retl, mm_reta, mm_retv, mm_set1, mm_set2, mm_kill, List.getElem?_cons_zero, List.getElem?_cons_succ, Int.reduceToNat, ↓reduceIte, Nat.reduceEqDiff, Nat.reduceDiv, Nat.reduceAdd, Nat.reduceLeDiff, Nat.zero_le, true_and, and_true, true_or, or_true, mm_b0, mm_b1, mm_lc_lt, mm_lc_le, mm_lc_gt, mm_lc_ge, mm_lc_eq, Int.not_lt, Int.not_le, Decidable.not_not, Int.sub_neg]
  exact ⟨fun _ => h7, fun g => by omega⟩
end
section
/-! laying the plan, going along it -/
theorem isKey_cong {S S' : Int → Prop} {key K K' : Int → Int} {n : Int} (h : isKey S key K n) (hS : ∀ q, S q ↔ S' q) (hK : ∀ i, 0 ≤ i → i < n → K i = K' i) : isKey S' key K' n := by
  refine ⟨isOrd_cong h.1 hS (fun _ _ => rfl) (fun i i0 i1 => by simp only [hK i i0 i1]), fun i i0 i1 => ?_⟩
  rw [← hK i i0 i1]
  exact h.2 i i0 i1
theorem pA_b {ord b f l t : Int} (hb : 1 ≤ b) (f0 : 0 ≤ f) (f1 : f < 60) (l0 : 0 ≤ l) (l1 : l < 60) (t0 : 0 ≤ t) (t1 : t ≤ 32) : 0 ≤ pA ord b f l t ∧ pA ord b f l t < 262144 := by
  obtain ⟨x1, x2, x3, x4⟩ := dB (b := b) f0 (by omega) hb
  obtain ⟨y1, y2, y3, y4⟩ := dB (b := b) l0 (by omega) hb
  have c1 := cv_b (f / b) (l / b)
  have u1 := tb_b (o := f / b) y1 y2
  have u2 := tb_b (o := l / b) t0 (by omega)
  unfold pA
  split
  · omega
  · split <;> omega
theorem key_mod {a q : Int} (ha : 0 ≤ a) (h0 : 0 ≤ q) (h1 : q < 32) : (a * 32 + q).tmod 32 = q := by
  rw [Int.tmod_eq_emod_of_nonneg (by omega)]
  omega
def isPl (o : Nat) : Prop := mm_cls o = 1 ∧ isSrt (o + 1) ∧ isW (o + 3)
/-- the questions at o that a plan has -/
def sPl (M : mmM) (o : Nat) (wo q : Int) : Prop := 0 ≤ q ∧ q < M o 4 ∧ ¬ q = wo ∧ ¬ M (o + 1) q = 2 ∧ ¬ M (o + 1) q = 3 ∧ ¬ M (o + 1) q = 6
def kyf (M : mmM) (o : Nat) (ord b q : Int) : Int := pA ord b (M (o + 2) q) (M (o + 3) q) (M (o + 4) q) * 32 + q
def t_Plan_lay : mmT := fun as M Q => match as with
  | [.inr (.inr o), .inr (.inr qo), .inl ord, .inl b, .inl wo] => isPl o ∧ isQ qo ∧ qB M qo ∧ qo + 4 < o ∧ 0 ≤ ord ∧ ord ≤ 2 ∧ 1 ≤ b ∧ b ≤ 60 ∧ ∀ M', (∀ o', o' ≠ o + 1 → o' ≠ o + 2 → M' o' = M o') → M' (o + 1) 1 ≤ M qo 4 → isKey (sPl M qo wo) (kyf M qo ord b) (M' (o + 2)) (M' (o + 1) 1) → Q none M'
  | _ => False
set_option maxHeartbeats 4000000 in
set_option maxRecDepth 100000 in
theorem p_Plan_lay : ∀ as M Q, (∀ v ∈ as, mm_vin v) → mm_mem M → t_Plan_lay as M Q → (mm_ent as).length ≤ 6 ∧ mm_ok mb_Plan_lay [(206, t_Q_isPlanned), (102, t_Plan_keyOf), (502, t_Srt_insert)] (mm_entry 6 as) M Q := by
  intro as M Q hin hM h
  unfold t_Plan_lay at h
  split at h
  rotate_left
  · exact h.elim
  rename_i o qo ord b wo
  have hR_ord : mm_R ord := hin (vi ord) (by simp)
  have hR_b : mm_R b := hin (vi b) (by simp)
  have hR_wo : mm_R wo := hin (vi wo) (by simp)
  refine ⟨by simp [mm_ent], (show mm_ok mb_Plan_lay [(206, t_Q_isPlanned), (102, t_Plan_keyOf), (502, t_Srt_insert)] [some (vr o), some (vr qo), some (vi ord), some (vi b), some (vi wo), none] M Q from ?_)⟩
  intro J hJ
  obtain ⟨⟨po, so, wo'⟩, hq, hB, hd, h3, h4, h5, h6, h⟩ := h
  obtain ⟨so0, so1, so2⟩ := id so
  have q0 : mm_cls qo = 2 := hq.1
  have hB2 := hB.2.1
  have hl : ∀ (d k : Nat) (M1 : mmM), (k : Int) + d = M qo 4 → (∀ o', o' ≠ o + 1 → o' ≠ o + 2 → M1 o' = M o') → M1 (o + 1) 1 ≤ k → isKey (fun z => sPl M qo wo z ∧ z < k) (kyf M qo ord b) (M1 (o + 2)) (M1 (o + 1) 1) → J 11 [some (vr o), some (vr qo), some (vi ord), some (vi b), some (vi wo), some (vi k)] [] M1 := by
    intro d
    induction d with
    | zero =>
      intro k M1 hk a c e
      have e0 : M1 qo = M qo := a qo (by omega) (by omega)
      have h57 : J 57 [some (vr o), some (vr qo), some (vi ord), some (vi b), some (vi wo), some (vi k)] [] M1 := by
        refine hJ 57 _ _ _ (show mm_wp _ _ _ mo_Plan_lay_57 _ _ _ from ?_)
        simp only [mo_Plan_lay_57, mm_wp, mm_ldi, mm_lda, mm_ldl, mm_sti, mm_sta, mm_stl, mm_inc, mm_2i, mm_mm, mm_2l, mm_lcmp, mm_i2l, mm_l2i, mm_cast8, mm_if1, mm_if2, mm_cmp, mm_swi, mm_sw, mm_pop1, mm_dup, mm_dup2, mm_geti, mm_geta, mm_puti, mm_iald, mm_bald, mm_aald, mm_iast, mm_bast, mm_alen, mm_acpy, mm_call, mm_callv, mm_recv, mm_pop, mm_find, mm_push, mm_cats, mm_cat, mm_reti, mm_retz, mm_retl, mm_reta, mm_retv, mm_set1, mm_set2, mm_kill, List.getElem?_cons_zero, List.getElem?_cons_succ, Int.reduceToNat, ↓reduceIte, Nat.reduceEqDiff, Nat.reduceDiv, Nat.reduceAdd, Nat.reduceLeDiff, Nat.zero_le, true_and, and_true, true_or, or_true, mm_b0, mm_b1, mm_lc_lt, mm_lc_le, mm_lc_gt, mm_lc_ge, mm_lc_eq, Int.not_lt, Int.not_le, Decidable.not_not, Int.sub_neg]
        exact h M1 a (by omega) (isKey_cong e (fun q => ⟨fun z => z.1, fun z => ⟨z, by have := z.2.1; omega⟩⟩) (fun _ _ _ => rfl))
      refine hJ 11 _ _ _ (show mm_wp _ _ _ mo_Plan_lay_11 _ _ _ from ?_)
      simp only [mo_Plan_lay_11, mm_wp, mm_ldi, mm_lda, mm_ldl, mm_sti, mm_sta, mm_stl, mm_inc, mm_2i, mm_mm, mm_2l, mm_lcmp, mm_i2l, mm_l2i, mm_cast8, mm_if1, mm_if2, mm_cmp, mm_swi, mm_sw, mm_pop1, mm_dup, mm_dup2, mm_geti, mm_geta, mm_puti, mm_iald, mm_bald, mm_aald, mm_iast, mm_bast, mm_alen, mm_acpy, mm_call, mm_callv, mm_recv, mm_pop, mm_find, mm_push, mm_cats, mm_cat, mm_reti, mm_retz, mm_retl, mm_reta, mm_retv, mm_set1, mm_set2, mm_kill, List.getElem?_cons_zero, List.getElem?_cons_succ, Int.reduceToNat, ↓reduceIte, Nat.reduceEqDiff, Nat.reduceDiv, Nat.reduceAdd, Nat.reduceLeDiff, Nat.zero_le, true_and, and_true, true_or, or_true, mm_b0, mm_b1, mm_lc_lt, mm_lc_le, mm_lc_gt, mm_lc_ge, mm_lc_eq, Int.not_lt, Int.not_le, Decidable.not_not, Int.sub_neg, q0, e0]
      exact ⟨fun _ => h57, fun z => by omega⟩
    | succ d ih =>
      intro k M1 hk a c e
      have e0 : M1 qo = M qo := a qo (by omega) (by omega)
      have e1 : M1 (qo + 1) = M (qo + 1) := a _ (by omega) (by omega)
      have e2 : M1 (qo + 2) = M (qo + 2) := a _ (by omega) (by omega)
      have e3 : M1 (qo + 3) = M (qo + 3) := a _ (by omega) (by omega)
      have e4 : M1 (qo + 4) = M (qo + 4) := a _ (by omega) (by omega)
      have n0 := e.1.1
      have hqk := hB.2.2 k (by omega) (by omega)
      have h51 : ∀ M2 : mmM, (∀ o', o' ≠ o + 1 → o' ≠ o + 2 → M2 o' = M o') → M2 (o + 1) 1 ≤ ((k + 1 : Nat) : Int) → isKey (fun z => sPl M qo wo z ∧ z < ((k + 1 : Nat) : Int)) (kyf M qo ord b) (M2 (o + 2)) (M2 (o + 1) 1) → J 51 [some (vr o), some (vr qo), some (vi ord), some (vi b), some (vi wo), some (vi k)] [] M2 := by
        intro M2 a' c' e'
        refine hJ 51 _ _ _ (show mm_wp _ _ _ mo_Plan_lay_51 _ _ _ from ?_)
        simp only [mo_Plan_lay_51, mm_wp, mm_ldi, mm_lda, mm_ldl, mm_sti, mm_sta, mm_stl, mm_inc, mm_2i, mm_mm, mm_2l, mm_lcmp, mm_i2l, mm_l2i, mm_cast8, mm_if1, mm_if2, mm_cmp, mm_swi, mm_sw, mm_pop1, mm_dup, mm_dup2, mm_geti, mm_geta, mm_puti, mm_iald, mm_bald, mm_aald, mm_iast, mm_bast, mm_alen, mm_acpy, mm_call, mm_callv, mm_recv, mm_pop, mm_find, mm_push, mm_cats, mm_cat, mm_reti, mm_retz, mm_retl, mm_reta, mm_retv, mm_set1, mm_set2, mm_kill, List.getElem?_cons_zero, List.getElem?_cons_succ, Int.reduceToNat, ↓reduceIte, Nat.reduceEqDiff, Nat.reduceDiv, Nat.reduceAdd, Nat.reduceLeDiff, Nat.zero_le, true_and, and_true, true_or, or_true, mm_b0, mm_b1, mm_lc_lt, mm_lc_le, mm_lc_gt, mm_lc_ge, mm_lc_eq, Int.not_lt, Int.not_le, Decidable.not_not, Int.sub_neg]
        exact ⟨by omega, ih (k + 1) M2 (by omega) a' c' e'⟩
      have hskip : ¬ sPl M qo wo k → J 51 [some (vr o), some (vr qo), some (vi ord), some (vi b), some (vi wo), some (vi k)] [] M1 := by
        intro hn
        refine h51 M1 a (by omega) (isKey_cong e (fun q => ⟨fun z => ⟨z.1, by omega⟩, fun z => ⟨z.1, ?_⟩⟩) (fun _ _ _ => rfl))
        have : q ≠ (k : Int) := fun w => hn (by rw [← w]; exact z.1)
        omega
      have hqB1 : qB M1 qo := by unfold qB; rw [e0, e2, e3, e4]; exact hB
      refine hJ 11 _ _ _ (show mm_wp _ _ _ mo_Plan_lay_11 _ _ _ from ?_)
      simp only [mo_Plan_lay_11, mm_wp, mm_ldi, mm_lda, mm_ldl, mm_sti, mm_sta, mm_stl, mm_inc, mm_2i, mm_mm, mm_2l, mm_lcmp, mm_i2l, mm_l2i, mm_cast8, mm_if1, mm_if2, mm_cmp, mm_swi, mm_sw, mm_pop1, mm_dup, mm_dup2, mm_geti, mm_geta, mm_puti, mm_iald, mm_bald, mm_aald, mm_iast, mm_bast, mm_alen, mm_acpy, mm_call, mm_callv, mm_recv, mm_pop, mm_find, mm_push, mm_cats, mm_cat, mm_reti, mm_retz, mm_retl, mm_reta, mm_retv, mm_set1, mm_set2, mm_kill, List.getElem?_cons_zero, List.getElem?_cons_succ, Int.reduceToNat, ↓reduceIte, Nat.reduceEqDiff, Nat.reduceDiv, Nat.reduceAdd, Nat.reduceLeDiff, Nat.zero_le, true_and, and_true, true_or, or_true, mm_b0, mm_b1, mm_lc_lt, mm_lc_le, mm_lc_gt, mm_lc_ge, mm_lc_eq, Int.not_lt, Int.not_le, Decidable.not_not, Int.sub_neg, q0, e0, e1, e2, e3, e4, t_Q_isPlanned, t_Plan_keyOf, t_Srt_insert, po, so0]
      refine ⟨fun z => by omega, fun _ => ⟨fun z => hskip (fun w => w.2.2.1 z), fun hz => ⟨hq, by omega, by omega, fun hn => hskip (fun w => hn w.2.2.2), fun hp => ⟨hq, hqB1, by omega, by omega, h3, h4, h5, h6, so, n0, by omega, fun M2 p hi hs hf => ?_⟩⟩⟩⟩
      have hpa := pA_b (ord := ord) (b := b) h5 hqk.1 hqk.2.1 hqk.2.2.1 hqk.2.2.2.1 hqk.2.2.2.2.1 hqk.2.2.2.2.2
      have hsk : sPl M qo wo k := ⟨by omega, by omega, hz, hp⟩
      have hins := isKey_ins (q := (k : Int)) e (fun w => by have := w.2; omega) (key_mod hpa.1 (by omega) (by omega)) hi
      refine h51 M2 (fun o' c1 c2 => by rw [hf o' c1 c2, a o' c1 c2]) (by omega) ?_
      rw [hs]
      refine isKey_cong hins (fun q => ⟨fun z => ?_, fun z => ?_⟩) (fun _ _ _ => rfl)
      · rcases z with z | z
        · exact ⟨z.1, by have := z.2; omega⟩
        · rw [z]; exact ⟨hsk, by omega⟩
      · by_cases hc : q = (k : Int)
        · exact Or.inr hc
        · exact Or.inl ⟨z.1, by have := z.2; omega⟩
  have e9 : mm_up M (o + 1) 1 0 (o + 1) 1 = 0 := mm_up_s _ _ _ _
  refine hJ 0 _ _ _ (show mm_wp _ _ _ mo_Plan_lay_0 _ _ _ from ?_)
  simp only [mo_Plan_lay_0, mm_wp, mm_ldi, mm_lda, mm_ldl, mm_sti, mm_sta, mm_stl, mm_inc, mm_2i, mm_mm, mm_2l, mm_lcmp, mm_i2l, mm_l2i, mm_cast8, mm_if1, mm_if2, mm_cmp, mm_swi, mm_sw, mm_pop1, mm_dup, mm_dup2, mm_geti, mm_geta, mm_puti, mm_iald, mm_bald, mm_aald, mm_iast, mm_bast, mm_alen, mm_acpy, mm_call, mm_callv, mm_recv, mm_pop, mm_find, mm_push, mm_cats, mm_cat, mm_reti, mm_retz, mm_retl, mm_reta, mm_retv, mm_set1, mm_set2, mm_kill, List.getElem?_cons_zero, List.getElem?_cons_succ, Int.reduceToNat, ↓reduceIte, Nat.reduceEqDiff, Nat.reduceDiv, Nat.reduceAdd, Nat.reduceLeDiff, Nat.zero_le, true_and, and_true, true_or, or_true, mm_b0, mm_b1, mm_lc_lt, mm_lc_le, mm_lc_gt, mm_lc_ge, mm_lc_eq, Int.not_lt, Int.not_le, Decidable.not_not, Int.sub_neg, po, so0]
  have := hl (M qo 4).toNat 0 (mm_up M (o + 1) 1 0) (by have := hB.1; omega) (fun o' c1 _ => mm_up_o _ _ c1) (by rw [e9]; omega) (by rw [e9]; exact isKey_0 (fun q z => by have := z.1.1; have := z.2; omega))
  exact this
end
