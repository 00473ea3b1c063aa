section
/-- a private method of a class that the tables say can be made, by its rows of tables_1 -/
def lw_okq (q : MethodName × Nat) : Prop := (q.1.cls ≠ "java/lang/invoke/MethodHandle" ∧ q.1.cls ≠ "java/lang/invoke/VarHandle") ∧ Cond.instantiable q.1.cls q.2 ∈ tables_1 ∧ Cond.privateMethod q.1 ∈ tables_1 ∧ Cond.instanceMethod q.1 ∈ tables_1
theorem lw_p0 : lw_okq (⟨"StuckSearch$TextReader", "read", "(LStuckSearch$Course;)Z"⟩, 9) := ⟨⟨by decide +kernel, by decide +kernel⟩, List.mem_of_getElem? (i := 115) (by decide +kernel), List.mem_of_getElem? (i := 282) (by decide +kernel), List.mem_of_getElem? (i := 283) (by decide +kernel)⟩
theorem lw_p1 : lw_okq (⟨"StuckSearch$Course", "reset", "()V"⟩, 6) := ⟨⟨by decide +kernel, by decide +kernel⟩, List.mem_of_getElem? (i := 57) (by decide +kernel), List.mem_of_getElem? (i := 286) (by decide +kernel), List.mem_of_getElem? (i := 287) (by decide +kernel)⟩
theorem lw_p2 : lw_okq (⟨"StuckSearch$TextReader", "beginText", "()V"⟩, 9) := ⟨⟨by decide +kernel, by decide +kernel⟩, List.mem_of_getElem? (i := 115) (by decide +kernel), List.mem_of_getElem? (i := 291) (by decide +kernel), List.mem_of_getElem? (i := 292) (by decide +kernel)⟩
theorem lw_p3 : lw_okq (⟨"StuckSearch$Part", "set", "(ZI)V"⟩, 3) := ⟨⟨by decide +kernel, by decide +kernel⟩, List.mem_of_getElem? (i := 122) (by decide +kernel), List.mem_of_getElem? (i := 295) (by decide +kernel), List.mem_of_getElem? (i := 296) (by decide +kernel)⟩
theorem lw_p4 : lw_okq (⟨"StuckSearch$TextReader", "readNext", "(LStuckSearch$Course;)V"⟩, 9) := ⟨⟨by decide +kernel, by decide +kernel⟩, List.mem_of_getElem? (i := 115) (by decide +kernel), List.mem_of_getElem? (i := 299) (by decide +kernel), List.mem_of_getElem? (i := 300) (by decide +kernel)⟩
theorem lw_p5 : lw_okq (⟨"StuckSearch$Tape", "byteAt", "(I)I"⟩, 2) := ⟨⟨by decide +kernel, by decide +kernel⟩, List.mem_of_getElem? (i := 31) (by decide +kernel), List.mem_of_getElem? (i := 303) (by decide +kernel), List.mem_of_getElem? (i := 304) (by decide +kernel)⟩
theorem lw_p6 : lw_okq (⟨"StuckSearch$TextReader", "endChoice", "()V"⟩, 9) := ⟨⟨by decide +kernel, by decide +kernel⟩, List.mem_of_getElem? (i := 115) (by decide +kernel), List.mem_of_getElem? (i := 307) (by decide +kernel), List.mem_of_getElem? (i := 308) (by decide +kernel)⟩
theorem lw_p7 : lw_okq (⟨"StuckSearch$Part", "addChoice", "(LStuckSearch$Part;)V"⟩, 3) := ⟨⟨by decide +kernel, by decide +kernel⟩, List.mem_of_getElem? (i := 122) (by decide +kernel), List.mem_of_getElem? (i := 311) (by decide +kernel), List.mem_of_getElem? (i := 312) (by decide +kernel)⟩
theorem lw_p8 : lw_okq (⟨"StuckSearch$TextReader", "openText", "()V"⟩, 9) := ⟨⟨by decide +kernel, by decide +kernel⟩, List.mem_of_getElem? (i := 115) (by decide +kernel), List.mem_of_getElem? (i := 315) (by decide +kernel), List.mem_of_getElem? (i := 316) (by decide +kernel)⟩
theorem lw_p9 : lw_okq (⟨"StuckSearch$TextReader", "meetFault", "(I)V"⟩, 9) := ⟨⟨by decide +kernel, by decide +kernel⟩, List.mem_of_getElem? (i := 115) (by decide +kernel), List.mem_of_getElem? (i := 319) (by decide +kernel), List.mem_of_getElem? (i := 320) (by decide +kernel)⟩
theorem lw_p10 : lw_okq (⟨"StuckSearch$TextReader", "closeText", "(LStuckSearch$Course;)V"⟩, 9) := ⟨⟨by decide +kernel, by decide +kernel⟩, List.mem_of_getElem? (i := 115) (by decide +kernel), List.mem_of_getElem? (i := 323) (by decide +kernel), List.mem_of_getElem? (i := 324) (by decide +kernel)⟩
theorem lw_p11 : lw_okq (⟨"StuckSearch$TextReader", "addThing", "(LStuckSearch$Course;LStuckSearch$Part;)V"⟩, 9) := ⟨⟨by decide +kernel, by decide +kernel⟩, List.mem_of_getElem? (i := 115) (by decide +kernel), List.mem_of_getElem? (i := 327) (by decide +kernel), List.mem_of_getElem? (i := 328) (by decide +kernel)⟩
theorem lw_p12 : lw_okq (⟨"StuckSearch$Course", "addSteps", "(II)V"⟩, 6) := ⟨⟨by decide +kernel, by decide +kernel⟩, List.mem_of_getElem? (i := 57) (by decide +kernel), List.mem_of_getElem? (i := 331) (by decide +kernel), List.mem_of_getElem? (i := 332) (by decide +kernel)⟩
theorem lw_p13 : lw_okq (⟨"StuckSearch$Part", "addBehind", "(LStuckSearch$Part;)V"⟩, 3) := ⟨⟨by decide +kernel, by decide +kernel⟩, List.mem_of_getElem? (i := 122) (by decide +kernel), List.mem_of_getElem? (i := 335) (by decide +kernel), List.mem_of_getElem? (i := 336) (by decide +kernel)⟩
theorem lw_p14 : lw_okq (⟨"StuckSearch$TextReader", "readAct", "(LStuckSearch$Course;)V"⟩, 9) := ⟨⟨by decide +kernel, by decide +kernel⟩, List.mem_of_getElem? (i := 115) (by decide +kernel), List.mem_of_getElem? (i := 339) (by decide +kernel), List.mem_of_getElem? (i := 340) (by decide +kernel)⟩
theorem lw_p15 : lw_okq (⟨"StuckSearch$Course", "isFull", "()Z"⟩, 6) := ⟨⟨by decide +kernel, by decide +kernel⟩, List.mem_of_getElem? (i := 57) (by decide +kernel), List.mem_of_getElem? (i := 343) (by decide +kernel), List.mem_of_getElem? (i := 344) (by decide +kernel)⟩
def lw_privs_1 : List (MethodName × Nat) := [(⟨"StuckSearch$TextReader", "read", "(LStuckSearch$Course;)Z"⟩, 9), (⟨"StuckSearch$Course", "reset", "()V"⟩, 6), (⟨"StuckSearch$TextReader", "beginText", "()V"⟩, 9), (⟨"StuckSearch$Part", "set", "(ZI)V"⟩, 3), (⟨"StuckSearch$TextReader", "readNext", "(LStuckSearch$Course;)V"⟩, 9), (⟨"StuckSearch$Tape", "byteAt", "(I)I"⟩, 2), (⟨"StuckSearch$TextReader", "endChoice", "()V"⟩, 9), (⟨"StuckSearch$Part", "addChoice", "(LStuckSearch$Part;)V"⟩, 3), (⟨"StuckSearch$TextReader", "openText", "()V"⟩, 9), (⟨"StuckSearch$TextReader", "meetFault", "(I)V"⟩, 9), (⟨"StuckSearch$TextReader", "closeText", "(LStuckSearch$Course;)V"⟩, 9), (⟨"StuckSearch$TextReader", "addThing", "(LStuckSearch$Course;LStuckSearch$Part;)V"⟩, 9), (⟨"StuckSearch$Course", "addSteps", "(II)V"⟩, 6), (⟨"StuckSearch$Part", "addBehind", "(LStuckSearch$Part;)V"⟩, 3), (⟨"StuckSearch$TextReader", "readAct", "(LStuckSearch$Course;)V"⟩, 9), (⟨"StuckSearch$Course", "isFull", "()Z"⟩, 6)]
theorem lw_r1 : ∀ q ∈ lw_privs_1, lw_okq q := List.forall_mem_cons.mpr ⟨lw_p0, List.forall_mem_cons.mpr ⟨lw_p1, List.forall_mem_cons.mpr ⟨lw_p2, List.forall_mem_cons.mpr ⟨lw_p3, List.forall_mem_cons.mpr ⟨lw_p4, List.forall_mem_cons.mpr ⟨lw_p5, List.forall_mem_cons.mpr ⟨lw_p6, List.forall_mem_cons.mpr ⟨lw_p7, List.forall_mem_cons.mpr ⟨lw_p8, List.forall_mem_cons.mpr ⟨lw_p9, List.forall_mem_cons.mpr ⟨lw_p10, List.forall_mem_cons.mpr ⟨lw_p11, List.forall_mem_cons.mpr ⟨lw_p12, List.forall_mem_cons.mpr ⟨lw_p13, List.forall_mem_cons.mpr ⟨lw_p14, List.forall_mem_cons.mpr ⟨lw_p15, fun _ h => absurd h List.not_mem_nil⟩⟩⟩⟩⟩⟩⟩⟩⟩⟩⟩⟩⟩⟩⟩⟩
theorem lw_p16 : lw_okq (⟨"StuckSearch$TextReader", "readKind", "()I"⟩, 9) := ⟨⟨by decide +kernel, by decide +kernel⟩, List.mem_of_getElem? (i := 115) (by decide +kernel), List.mem_of_getElem? (i := 347) (by decide +kernel), List.mem_of_getElem? (i := 348) (by decide +kernel)⟩
theorem lw_p17 : lw_okq (⟨"StuckSearch$TextReader", "readFigure", "(I)I"⟩, 9) := ⟨⟨by decide +kernel, by decide +kernel⟩, List.mem_of_getElem? (i := 115) (by decide +kernel), List.mem_of_getElem? (i := 354) (by decide +kernel), List.mem_of_getElem? (i := 355) (by decide +kernel)⟩
theorem lw_p18 : lw_okq (⟨"StuckSearch$Course", "addAct", "(III)I"⟩, 6) := ⟨⟨by decide +kernel, by decide +kernel⟩, List.mem_of_getElem? (i := 57) (by decide +kernel), List.mem_of_getElem? (i := 358) (by decide +kernel), List.mem_of_getElem? (i := 359) (by decide +kernel)⟩
theorem lw_p19 : lw_okq (⟨"StuckSearch$Course", "finish", "(LStuckSearch$Part;)V"⟩, 6) := ⟨⟨by decide +kernel, by decide +kernel⟩, List.mem_of_getElem? (i := 57) (by decide +kernel), List.mem_of_getElem? (i := 362) (by decide +kernel), List.mem_of_getElem? (i := 363) (by decide +kernel)⟩
theorem lw_p20 : lw_okq (⟨"StuckSearch", "beginAnew", "()V"⟩, 6) := ⟨⟨by decide +kernel, by decide +kernel⟩, List.mem_of_getElem? (i := 23) (by decide +kernel), List.mem_of_getElem? (i := 366) (by decide +kernel), List.mem_of_getElem? (i := 367) (by decide +kernel)⟩
theorem lw_p21 : lw_okq (⟨"StuckSearch$Search", "forget", "()V"⟩, 12) := ⟨⟨by decide +kernel, by decide +kernel⟩, List.mem_of_getElem? (i := 174) (by decide +kernel), List.mem_of_getElem? (i := 370) (by decide +kernel), List.mem_of_getElem? (i := 371) (by decide +kernel)⟩
theorem lw_p22 : lw_okq (⟨"StuckSearch", "returnToFirst", "()V"⟩, 6) := ⟨⟨by decide +kernel, by decide +kernel⟩, List.mem_of_getElem? (i := 23) (by decide +kernel), List.mem_of_getElem? (i := 374) (by decide +kernel), List.mem_of_getElem? (i := 375) (by decide +kernel)⟩
theorem lw_p23 : lw_okq (⟨"StuckSearch$World", "putFirst", "(LStuckSearch$State;)V"⟩, 5) := ⟨⟨by decide +kernel, by decide +kernel⟩, List.mem_of_getElem? (i := 47) (by decide +kernel), List.mem_of_getElem? (i := 378) (by decide +kernel), List.mem_of_getElem? (i := 379) (by decide +kernel)⟩
theorem lw_p24 : lw_okq (⟨"StuckSearch$World", "removeAll", "()V"⟩, 5) := ⟨⟨by decide +kernel, by decide +kernel⟩, List.mem_of_getElem? (i := 47) (by decide +kernel), List.mem_of_getElem? (i := 394) (by decide +kernel), List.mem_of_getElem? (i := 395) (by decide +kernel)⟩
theorem lw_p25 : lw_okq (⟨"StuckSearch$World", "isSearchable", "()Z"⟩, 5) := ⟨⟨by decide +kernel, by decide +kernel⟩, List.mem_of_getElem? (i := 47) (by decide +kernel), List.mem_of_getElem? (i := 402) (by decide +kernel), List.mem_of_getElem? (i := 403) (by decide +kernel)⟩
theorem lw_p26 : lw_okq (⟨"StuckSearch$World", "countStates", "()J"⟩, 5) := ⟨⟨by decide +kernel, by decide +kernel⟩, List.mem_of_getElem? (i := 47) (by decide +kernel), List.mem_of_getElem? (i := 406) (by decide +kernel), List.mem_of_getElem? (i := 407) (by decide +kernel)⟩
theorem lw_p27 : lw_okq (⟨"StuckSearch$Search", "findStanding", "()V"⟩, 12) := ⟨⟨by decide +kernel, by decide +kernel⟩, List.mem_of_getElem? (i := 174) (by decide +kernel), List.mem_of_getElem? (i := 416) (by decide +kernel), List.mem_of_getElem? (i := 417) (by decide +kernel)⟩
theorem lw_p28 : lw_okq (⟨"StuckSearch$Search", "weigh", "()V"⟩, 12) := ⟨⟨by decide +kernel, by decide +kernel⟩, List.mem_of_getElem? (i := 174) (by decide +kernel), List.mem_of_getElem? (i := 420) (by decide +kernel), List.mem_of_getElem? (i := 421) (by decide +kernel)⟩
theorem lw_p29 : lw_okq (⟨"StuckSearch$StateSet", "empty", "()V"⟩, 2) := ⟨⟨by decide +kernel, by decide +kernel⟩, List.mem_of_getElem? (i := 180) (by decide +kernel), List.mem_of_getElem? (i := 424) (by decide +kernel), List.mem_of_getElem? (i := 425) (by decide +kernel)⟩
theorem lw_p30 : lw_okq (⟨"StuckSearch$World", "numberOf", "(LStuckSearch$State;)I"⟩, 5) := ⟨⟨by decide +kernel, by decide +kernel⟩, List.mem_of_getElem? (i := 47) (by decide +kernel), List.mem_of_getElem? (i := 432) (by decide +kernel), List.mem_of_getElem? (i := 433) (by decide +kernel)⟩
theorem lw_p31 : lw_okq (⟨"StuckSearch$Search", "reach", "(I)V"⟩, 12) := ⟨⟨by decide +kernel, by decide +kernel⟩, List.mem_of_getElem? (i := 174) (by decide +kernel), List.mem_of_getElem? (i := 436) (by decide +kernel), List.mem_of_getElem? (i := 437) (by decide +kernel)⟩
def lw_privs_2 : List (MethodName × Nat) := [(⟨"StuckSearch$TextReader", "readKind", "()I"⟩, 9), (⟨"StuckSearch$TextReader", "readFigure", "(I)I"⟩, 9), (⟨"StuckSearch$Course", "addAct", "(III)I"⟩, 6), (⟨"StuckSearch$Course", "finish", "(LStuckSearch$Part;)V"⟩, 6), (⟨"StuckSearch", "beginAnew", "()V"⟩, 6), (⟨"StuckSearch$Search", "forget", "()V"⟩, 12), (⟨"StuckSearch", "returnToFirst", "()V"⟩, 6), (⟨"StuckSearch$World", "putFirst", "(LStuckSearch$State;)V"⟩, 5), (⟨"StuckSearch$World", "removeAll", "()V"⟩, 5), (⟨"StuckSearch$World", "isSearchable", "()Z"⟩, 5), (⟨"StuckSearch$World", "countStates", "()J"⟩, 5), (⟨"StuckSearch$Search", "findStanding", "()V"⟩, 12), (⟨"StuckSearch$Search", "weigh", "()V"⟩, 12), (⟨"StuckSearch$StateSet", "empty", "()V"⟩, 2), (⟨"StuckSearch$World", "numberOf", "(LStuckSearch$State;)I"⟩, 5), (⟨"StuckSearch$Search", "reach", "(I)V"⟩, 12)]
theorem lw_r2 : ∀ q ∈ lw_privs_2, lw_okq q := List.forall_mem_cons.mpr ⟨lw_p16, List.forall_mem_cons.mpr ⟨lw_p17, List.forall_mem_cons.mpr ⟨lw_p18, List.forall_mem_cons.mpr ⟨lw_p19, List.forall_mem_cons.mpr ⟨lw_p20, List.forall_mem_cons.mpr ⟨lw_p21, List.forall_mem_cons.mpr ⟨lw_p22, List.forall_mem_cons.mpr ⟨lw_p23, List.forall_mem_cons.mpr ⟨lw_p24, List.forall_mem_cons.mpr ⟨lw_p25, List.forall_mem_cons.mpr ⟨lw_p26, List.forall_mem_cons.mpr ⟨lw_p27, List.forall_mem_cons.mpr ⟨lw_p28, List.forall_mem_cons.mpr ⟨lw_p29, List.forall_mem_cons.mpr ⟨lw_p30, List.forall_mem_cons.mpr ⟨lw_p31, fun _ h => absurd h List.not_mem_nil⟩⟩⟩⟩⟩⟩⟩⟩⟩⟩⟩⟩⟩⟩⟩⟩
theorem lw_p32 : lw_okq (⟨"StuckSearch$StateSet", "contains", "(I)Z"⟩, 2) := ⟨⟨by decide +kernel, by decide +kernel⟩, List.mem_of_getElem? (i := 180) (by decide +kernel), List.mem_of_getElem? (i := 440) (by decide +kernel), List.mem_of_getElem? (i := 441) (by decide +kernel)⟩
theorem lw_p33 : lw_okq (⟨"StuckSearch$StateSet", "add", "(I)V"⟩, 2) := ⟨⟨by decide +kernel, by decide +kernel⟩, List.mem_of_getElem? (i := 180) (by decide +kernel), List.mem_of_getElem? (i := 444) (by decide +kernel), List.mem_of_getElem? (i := 445) (by decide +kernel)⟩
theorem lw_p34 : lw_okq (⟨"StuckSearch$StateSet", "takeLowest", "()I"⟩, 2) := ⟨⟨by decide +kernel, by decide +kernel⟩, List.mem_of_getElem? (i := 180) (by decide +kernel), List.mem_of_getElem? (i := 448) (by decide +kernel), List.mem_of_getElem? (i := 449) (by decide +kernel)⟩
theorem lw_p35 : lw_okq (⟨"StuckSearch$Search", "lookAhead", "(I)V"⟩, 12) := ⟨⟨by decide +kernel, by decide +kernel⟩, List.mem_of_getElem? (i := 174) (by decide +kernel), List.mem_of_getElem? (i := 461) (by decide +kernel), List.mem_of_getElem? (i := 462) (by decide +kernel)⟩
theorem lw_p36 : lw_okq (⟨"StuckSearch$World", "putNumbered", "(ILStuckSearch$State;)V"⟩, 5) := ⟨⟨by decide +kernel, by decide +kernel⟩, List.mem_of_getElem? (i := 47) (by decide +kernel), List.mem_of_getElem? (i := 465) (by decide +kernel), List.mem_of_getElem? (i := 466) (by decide +kernel)⟩
theorem lw_p37 : lw_okq (⟨"StuckSearch$World", "openPlaces", "(LStuckSearch$State;I)I"⟩, 5) := ⟨⟨by decide +kernel, by decide +kernel⟩, List.mem_of_getElem? (i := 47) (by decide +kernel), List.mem_of_getElem? (i := 472) (by decide +kernel), List.mem_of_getElem? (i := 473) (by decide +kernel)⟩
theorem lw_p38 : lw_okq (⟨"StuckSearch$World", "outcome", "(LStuckSearch$State;LStuckSearch$Course;I)I"⟩, 5) := ⟨⟨by decide +kernel, by decide +kernel⟩, List.mem_of_getElem? (i := 47) (by decide +kernel), List.mem_of_getElem? (i := 476) (by decide +kernel), List.mem_of_getElem? (i := 477) (by decide +kernel)⟩
theorem lw_p39 : lw_okq (⟨"StuckSearch$Course", "outcome", "(III)I"⟩, 6) := ⟨⟨by decide +kernel, by decide +kernel⟩, List.mem_of_getElem? (i := 57) (by decide +kernel), List.mem_of_getElem? (i := 480) (by decide +kernel), List.mem_of_getElem? (i := 481) (by decide +kernel)⟩
theorem lw_p40 : lw_okq (⟨"StuckSearch$Search", "reachAll", "(III)V"⟩, 12) := ⟨⟨by decide +kernel, by decide +kernel⟩, List.mem_of_getElem? (i := 174) (by decide +kernel), List.mem_of_getElem? (i := 484) (by decide +kernel), List.mem_of_getElem? (i := 485) (by decide +kernel)⟩
theorem lw_p41 : lw_okq (⟨"StuckSearch$World", "allAtEnds", "(LStuckSearch$State;)Z"⟩, 5) := ⟨⟨by decide +kernel, by decide +kernel⟩, List.mem_of_getElem? (i := 47) (by decide +kernel), List.mem_of_getElem? (i := 489) (by decide +kernel), List.mem_of_getElem? (i := 490) (by decide +kernel)⟩
theorem lw_p42 : lw_okq (⟨"StuckSearch$Course", "isEnd", "(I)Z"⟩, 6) := ⟨⟨by decide +kernel, by decide +kernel⟩, List.mem_of_getElem? (i := 57) (by decide +kernel), List.mem_of_getElem? (i := 493) (by decide +kernel), List.mem_of_getElem? (i := 494) (by decide +kernel)⟩
theorem lw_p43 : lw_okq (⟨"java/lang/Throwable", "fillInStackTrace", "(I)Ljava/lang/Throwable;"⟩, 6) := ⟨⟨by decide +kernel, by decide +kernel⟩, List.mem_of_getElem? (i := 562) (by decide +kernel), List.mem_of_getElem? (i := 560) (by decide +kernel), List.mem_of_getElem? (i := 561) (by decide +kernel)⟩
theorem lw_p44 : lw_okq (⟨"StuckSearch$Tape", "append", "(IJ)Z"⟩, 2) := ⟨⟨by decide +kernel, by decide +kernel⟩, List.mem_of_getElem? (i := 31) (by decide +kernel), List.mem_of_getElem? (i := 591) (by decide +kernel), List.mem_of_getElem? (i := 592) (by decide +kernel)⟩
theorem lw_p45 : lw_okq (⟨"StuckSearch$World", "addVariable", "(II)V"⟩, 5) := ⟨⟨by decide +kernel, by decide +kernel⟩, List.mem_of_getElem? (i := 47) (by decide +kernel), List.mem_of_getElem? (i := 603) (by decide +kernel), List.mem_of_getElem? (i := 604) (by decide +kernel)⟩
theorem lw_p46 : lw_okq (⟨"StuckSearch$Course", "countSteps", "()I"⟩, 6) := ⟨⟨by decide +kernel, by decide +kernel⟩, List.mem_of_getElem? (i := 57) (by decide +kernel), List.mem_of_getElem? (i := 634) (by decide +kernel), List.mem_of_getElem? (i := 635) (by decide +kernel)⟩
theorem lw_p47 : lw_okq (⟨"StuckSearch", "checkSearchable", "()V"⟩, 6) := ⟨⟨by decide +kernel, by decide +kernel⟩, List.mem_of_getElem? (i := 23) (by decide +kernel), List.mem_of_getElem? (i := 648) (by decide +kernel), List.mem_of_getElem? (i := 649) (by decide +kernel)⟩
def lw_privs_3 : List (MethodName × Nat) := [(⟨"StuckSearch$StateSet", "contains", "(I)Z"⟩, 2), (⟨"StuckSearch$StateSet", "add", "(I)V"⟩, 2), (⟨"StuckSearch$StateSet", "takeLowest", "()I"⟩, 2), (⟨"StuckSearch$Search", "lookAhead", "(I)V"⟩, 12), (⟨"StuckSearch$World", "putNumbered", "(ILStuckSearch$State;)V"⟩, 5), (⟨"StuckSearch$World", "openPlaces", "(LStuckSearch$State;I)I"⟩, 5), (⟨"StuckSearch$World", "outcome", "(LStuckSearch$State;LStuckSearch$Course;I)I"⟩, 5), (⟨"StuckSearch$Course", "outcome", "(III)I"⟩, 6), (⟨"StuckSearch$Search", "reachAll", "(III)V"⟩, 12), (⟨"StuckSearch$World", "allAtEnds", "(LStuckSearch$State;)Z"⟩, 5), (⟨"StuckSearch$Course", "isEnd", "(I)Z"⟩, 6), (⟨"java/lang/Throwable", "fillInStackTrace", "(I)Ljava/lang/Throwable;"⟩, 6), (⟨"StuckSearch$Tape", "append", "(IJ)Z"⟩, 2), (⟨"StuckSearch$World", "addVariable", "(II)V"⟩, 5), (⟨"StuckSearch$Course", "countSteps", "()I"⟩, 6), (⟨"StuckSearch", "checkSearchable", "()V"⟩, 6)]
theorem lw_r3 : ∀ q ∈ lw_privs_3, lw_okq q := List.forall_mem_cons.mpr ⟨lw_p32, List.forall_mem_cons.mpr ⟨lw_p33, List.forall_mem_cons.mpr ⟨lw_p34, List.forall_mem_cons.mpr ⟨lw_p35, List.forall_mem_cons.mpr ⟨lw_p36, List.forall_mem_cons.mpr ⟨lw_p37, List.forall_mem_cons.mpr ⟨lw_p38, List.forall_mem_cons.mpr ⟨lw_p39, List.forall_mem_cons.mpr ⟨lw_p40, List.forall_mem_cons.mpr ⟨lw_p41, List.forall_mem_cons.mpr ⟨lw_p42, List.forall_mem_cons.mpr ⟨lw_p43, List.forall_mem_cons.mpr ⟨lw_p44, List.forall_mem_cons.mpr ⟨lw_p45, List.forall_mem_cons.mpr ⟨lw_p46, List.forall_mem_cons.mpr ⟨lw_p47, fun _ h => absurd h List.not_mem_nil⟩⟩⟩⟩⟩⟩⟩⟩⟩⟩⟩⟩⟩⟩⟩⟩
theorem lw_p48 : lw_okq (⟨"StuckSearch$Search", "standingState", "(I)LStuckSearch$State;"⟩, 12) := ⟨⟨by decide +kernel, by decide +kernel⟩, List.mem_of_getElem? (i := 174) (by decide +kernel), List.mem_of_getElem? (i := 668) (by decide +kernel), List.mem_of_getElem? (i := 669) (by decide +kernel)⟩
theorem lw_p49 : lw_okq (⟨"StuckSearch$StateSet", "nth", "(I)I"⟩, 2) := ⟨⟨by decide +kernel, by decide +kernel⟩, List.mem_of_getElem? (i := 180) (by decide +kernel), List.mem_of_getElem? (i := 672) (by decide +kernel), List.mem_of_getElem? (i := 673) (by decide +kernel)⟩
theorem lw_p50 : lw_okq (⟨"StuckSearch$World", "go", "(LStuckSearch$State;II)V"⟩, 5) := ⟨⟨by decide +kernel, by decide +kernel⟩, List.mem_of_getElem? (i := 47) (by decide +kernel), List.mem_of_getElem? (i := 692) (by decide +kernel), List.mem_of_getElem? (i := 693) (by decide +kernel)⟩
theorem lw_p51 : lw_okq (⟨"StuckSearch$Search", "findFalling", "()V"⟩, 12) := ⟨⟨by decide +kernel, by decide +kernel⟩, List.mem_of_getElem? (i := 174) (by decide +kernel), List.mem_of_getElem? (i := 718) (by decide +kernel), List.mem_of_getElem? (i := 719) (by decide +kernel)⟩
theorem lw_p52 : lw_okq (⟨"StuckSearch$StateSet", "copyFrom", "(LStuckSearch$StateSet;)V"⟩, 2) := ⟨⟨by decide +kernel, by decide +kernel⟩, List.mem_of_getElem? (i := 180) (by decide +kernel), List.mem_of_getElem? (i := 723) (by decide +kernel), List.mem_of_getElem? (i := 724) (by decide +kernel)⟩
theorem lw_p53 : lw_okq (⟨"StuckSearch$Search", "lookBack", "(I)V"⟩, 12) := ⟨⟨by decide +kernel, by decide +kernel⟩, List.mem_of_getElem? (i := 174) (by decide +kernel), List.mem_of_getElem? (i := 730) (by decide +kernel), List.mem_of_getElem? (i := 731) (by decide +kernel)⟩
theorem lw_p54 : lw_okq (⟨"StuckSearch$Search", "undoAct", "(III)V"⟩, 12) := ⟨⟨by decide +kernel, by decide +kernel⟩, List.mem_of_getElem? (i := 174) (by decide +kernel), List.mem_of_getElem? (i := 734) (by decide +kernel), List.mem_of_getElem? (i := 735) (by decide +kernel)⟩
theorem lw_p55 : lw_okq (⟨"StuckSearch$Search", "undoStep", "(III)V"⟩, 12) := ⟨⟨by decide +kernel, by decide +kernel⟩, List.mem_of_getElem? (i := 174) (by decide +kernel), List.mem_of_getElem? (i := 739) (by decide +kernel), List.mem_of_getElem? (i := 740) (by decide +kernel)⟩
theorem lw_p56 : lw_okq (⟨"StuckSearch$Search", "fall", "(I)V"⟩, 12) := ⟨⟨by decide +kernel, by decide +kernel⟩, List.mem_of_getElem? (i := 174) (by decide +kernel), List.mem_of_getElem? (i := 743) (by decide +kernel), List.mem_of_getElem? (i := 744) (by decide +kernel)⟩
theorem lw_p57 : lw_okq (⟨"StuckSearchModel", "begin", "()V"⟩, 41) := ⟨⟨by decide +kernel, by decide +kernel⟩, List.mem_of_getElem? (i := 749) (by decide +kernel), List.mem_of_getElem? (i := 897) (by decide +kernel), List.mem_of_getElem? (i := 898) (by decide +kernel)⟩
theorem lw_p58 : lw_okq (⟨"StuckSearchModel", "beginChoices", "()V"⟩, 41) := ⟨⟨by decide +kernel, by decide +kernel⟩, List.mem_of_getElem? (i := 749) (by decide +kernel), List.mem_of_getElem? (i := 909) (by decide +kernel), List.mem_of_getElem? (i := 910) (by decide +kernel)⟩
theorem lw_p59 : lw_okq (⟨"StuckSearchModel", "beginRow", "()V"⟩, 41) := ⟨⟨by decide +kernel, by decide +kernel⟩, List.mem_of_getElem? (i := 749) (by decide +kernel), List.mem_of_getElem? (i := 913) (by decide +kernel), List.mem_of_getElem? (i := 914) (by decide +kernel)⟩
theorem lw_p60 : lw_okq (⟨"StuckSearchModel", "step", "()V"⟩, 41) := ⟨⟨by decide +kernel, by decide +kernel⟩, List.mem_of_getElem? (i := 749) (by decide +kernel), List.mem_of_getElem? (i := 917) (by decide +kernel), List.mem_of_getElem? (i := 918) (by decide +kernel)⟩
theorem lw_p61 : lw_okq (⟨"StuckSearchModel", "byteAt", "(I)I"⟩, 41) := ⟨⟨by decide +kernel, by decide +kernel⟩, List.mem_of_getElem? (i := 749) (by decide +kernel), List.mem_of_getElem? (i := 921) (by decide +kernel), List.mem_of_getElem? (i := 922) (by decide +kernel)⟩
theorem lw_p62 : lw_okq (⟨"StuckSearchModel", "fail", "(II)V"⟩, 41) := ⟨⟨by decide +kernel, by decide +kernel⟩, List.mem_of_getElem? (i := 749) (by decide +kernel), List.mem_of_getElem? (i := 925) (by decide +kernel), List.mem_of_getElem? (i := 926) (by decide +kernel)⟩
theorem lw_p63 : lw_okq (⟨"StuckSearchModel", "endRow", "()V"⟩, 41) := ⟨⟨by decide +kernel, by decide +kernel⟩, List.mem_of_getElem? (i := 749) (by decide +kernel), List.mem_of_getElem? (i := 929) (by decide +kernel), List.mem_of_getElem? (i := 930) (by decide +kernel)⟩
def lw_privs_4 : List (MethodName × Nat) := [(⟨"StuckSearch$Search", "standingState", "(I)LStuckSearch$State;"⟩, 12), (⟨"StuckSearch$StateSet", "nth", "(I)I"⟩, 2), (⟨"StuckSearch$World", "go", "(LStuckSearch$State;II)V"⟩, 5), (⟨"StuckSearch$Search", "findFalling", "()V"⟩, 12), (⟨"StuckSearch$StateSet", "copyFrom", "(LStuckSearch$StateSet;)V"⟩, 2), (⟨"StuckSearch$Search", "lookBack", "(I)V"⟩, 12), (⟨"StuckSearch$Search", "undoAct", "(III)V"⟩, 12), (⟨"StuckSearch$Search", "undoStep", "(III)V"⟩, 12), (⟨"StuckSearch$Search", "fall", "(I)V"⟩, 12), (⟨"StuckSearchModel", "begin", "()V"⟩, 41), (⟨"StuckSearchModel", "beginChoices", "()V"⟩, 41), (⟨"StuckSearchModel", "beginRow", "()V"⟩, 41), (⟨"StuckSearchModel", "step", "()V"⟩, 41), (⟨"StuckSearchModel", "byteAt", "(I)I"⟩, 41), (⟨"StuckSearchModel", "fail", "(II)V"⟩, 41), (⟨"StuckSearchModel", "endRow", "()V"⟩, 41)]
theorem lw_r4 : ∀ q ∈ lw_privs_4, lw_okq q := List.forall_mem_cons.mpr ⟨lw_p48, List.forall_mem_cons.mpr ⟨lw_p49, List.forall_mem_cons.mpr ⟨lw_p50, List.forall_mem_cons.mpr ⟨lw_p51, List.forall_mem_cons.mpr ⟨lw_p52, List.forall_mem_cons.mpr ⟨lw_p53, List.forall_mem_cons.mpr ⟨lw_p54, List.forall_mem_cons.mpr ⟨lw_p55, List.forall_mem_cons.mpr ⟨lw_p56, List.forall_mem_cons.mpr ⟨lw_p57, List.forall_mem_cons.mpr ⟨lw_p58, List.forall_mem_cons.mpr ⟨lw_p59, List.forall_mem_cons.mpr ⟨lw_p60, List.forall_mem_cons.mpr ⟨lw_p61, List.forall_mem_cons.mpr ⟨lw_p62, List.forall_mem_cons.mpr ⟨lw_p63, fun _ h => absurd h List.not_mem_nil⟩⟩⟩⟩⟩⟩⟩⟩⟩⟩⟩⟩⟩⟩⟩⟩
theorem lw_p64 : lw_okq (⟨"StuckSearchModel", "take", "()V"⟩, 41) := ⟨⟨by decide +kernel, by decide +kernel⟩, List.mem_of_getElem? (i := 749) (by decide +kernel), List.mem_of_getElem? (i := 933) (by decide +kernel), List.mem_of_getElem? (i := 934) (by decide +kernel)⟩
theorem lw_p65 : lw_okq (⟨"StuckSearchModel", "lead", "(II)V"⟩, 41) := ⟨⟨by decide +kernel, by decide +kernel⟩, List.mem_of_getElem? (i := 749) (by decide +kernel), List.mem_of_getElem? (i := 937) (by decide +kernel), List.mem_of_getElem? (i := 938) (by decide +kernel)⟩
theorem lw_p66 : lw_okq (⟨"StuckSearchModel", "readAct", "()V"⟩, 41) := ⟨⟨by decide +kernel, by decide +kernel⟩, List.mem_of_getElem? (i := 749) (by decide +kernel), List.mem_of_getElem? (i := 941) (by decide +kernel), List.mem_of_getElem? (i := 942) (by decide +kernel)⟩
theorem lw_p67 : lw_okq (⟨"StuckSearchModel", "act", "(III)V"⟩, 41) := ⟨⟨by decide +kernel, by decide +kernel⟩, List.mem_of_getElem? (i := 749) (by decide +kernel), List.mem_of_getElem? (i := 945) (by decide +kernel), List.mem_of_getElem? (i := 946) (by decide +kernel)⟩
theorem lw_p68 : lw_okq (⟨"StuckSearchModel", "noProcess", "(I)Z"⟩, 41) := ⟨⟨by decide +kernel, by decide +kernel⟩, List.mem_of_getElem? (i := 749) (by decide +kernel), List.mem_of_getElem? (i := 961) (by decide +kernel), List.mem_of_getElem? (i := 962) (by decide +kernel)⟩
theorem lw_p69 : lw_okq (⟨"StuckSearchModel", "fromNow", "()V"⟩, 41) := ⟨⟨by decide +kernel, by decide +kernel⟩, List.mem_of_getElem? (i := 749) (by decide +kernel), List.mem_of_getElem? (i := 972) (by decide +kernel), List.mem_of_getElem? (i := 973) (by decide +kernel)⟩
theorem lw_p70 : lw_okq (⟨"StuckSearchModel", "possible", "()I"⟩, 41) := ⟨⟨by decide +kernel, by decide +kernel⟩, List.mem_of_getElem? (i := 749) (by decide +kernel), List.mem_of_getElem? (i := 976) (by decide +kernel), List.mem_of_getElem? (i := 977) (by decide +kernel)⟩
theorem lw_p71 : lw_okq (⟨"StuckSearchModel", "goes", "(II)Z"⟩, 41) := ⟨⟨by decide +kernel, by decide +kernel⟩, List.mem_of_getElem? (i := 749) (by decide +kernel), List.mem_of_getElem? (i := 980) (by decide +kernel), List.mem_of_getElem? (i := 981) (by decide +kernel)⟩
theorem lw_p72 : lw_okq (⟨"StuckSearchModel", "know", "()V"⟩, 41) := ⟨⟨by decide +kernel, by decide +kernel⟩, List.mem_of_getElem? (i := 749) (by decide +kernel), List.mem_of_getElem? (i := 1009) (by decide +kernel), List.mem_of_getElem? (i := 1010) (by decide +kernel)⟩
theorem lw_p73 : lw_okq (⟨"StuckSearchModel", "number", "([I)I"⟩, 41) := ⟨⟨by decide +kernel, by decide +kernel⟩, List.mem_of_getElem? (i := 749) (by decide +kernel), List.mem_of_getElem? (i := 1013) (by decide +kernel), List.mem_of_getElem? (i := 1014) (by decide +kernel)⟩
theorem lw_p74 : lw_okq (⟨"StuckSearchModel", "walk", "(I)V"⟩, 41) := ⟨⟨by decide +kernel, by decide +kernel⟩, List.mem_of_getElem? (i := 749) (by decide +kernel), List.mem_of_getElem? (i := 1017) (by decide +kernel), List.mem_of_getElem? (i := 1018) (by decide +kernel)⟩
theorem lw_p75 : lw_okq (⟨"StuckSearchModel", "apart", "(I)V"⟩, 41) := ⟨⟨by decide +kernel, by decide +kernel⟩, List.mem_of_getElem? (i := 749) (by decide +kernel), List.mem_of_getElem? (i := 1021) (by decide +kernel), List.mem_of_getElem? (i := 1022) (by decide +kernel)⟩
def lw_privs_5 : List (MethodName × Nat) := [(⟨"StuckSearchModel", "take", "()V"⟩, 41), (⟨"StuckSearchModel", "lead", "(II)V"⟩, 41), (⟨"StuckSearchModel", "readAct", "()V"⟩, 41), (⟨"StuckSearchModel", "act", "(III)V"⟩, 41), (⟨"StuckSearchModel", "noProcess", "(I)Z"⟩, 41), (⟨"StuckSearchModel", "fromNow", "()V"⟩, 41), (⟨"StuckSearchModel", "possible", "()I"⟩, 41), (⟨"StuckSearchModel", "goes", "(II)Z"⟩, 41), (⟨"StuckSearchModel", "know", "()V"⟩, 41), (⟨"StuckSearchModel", "number", "([I)I"⟩, 41), (⟨"StuckSearchModel", "walk", "(I)V"⟩, 41), (⟨"StuckSearchModel", "apart", "(I)V"⟩, 41)]
theorem lw_r5 : ∀ q ∈ lw_privs_5, lw_okq q := List.forall_mem_cons.mpr ⟨lw_p64, List.forall_mem_cons.mpr ⟨lw_p65, List.forall_mem_cons.mpr ⟨lw_p66, List.forall_mem_cons.mpr ⟨lw_p67, List.forall_mem_cons.mpr ⟨lw_p68, List.forall_mem_cons.mpr ⟨lw_p69, List.forall_mem_cons.mpr ⟨lw_p70, List.forall_mem_cons.mpr ⟨lw_p71, List.forall_mem_cons.mpr ⟨lw_p72, List.forall_mem_cons.mpr ⟨lw_p73, List.forall_mem_cons.mpr ⟨lw_p74, List.forall_mem_cons.mpr ⟨lw_p75, fun _ h => absurd h List.not_mem_nil⟩⟩⟩⟩⟩⟩⟩⟩⟩⟩⟩⟩
def lw_privs : List (MethodName × Nat) := lw_privs_1 ++ (lw_privs_2 ++ (lw_privs_3 ++ (lw_privs_4 ++ (lw_privs_5))))
def lw_tbl : List Cond := k2_sels lw_privs ++ tables_1
theorem lw_privs_ok : ∀ q ∈ lw_privs, lw_okq q := by
  show ∀ q ∈ lw_privs_1 ++ (lw_privs_2 ++ (lw_privs_3 ++ (lw_privs_4 ++ (lw_privs_5)))), lw_okq q
  exact List.forall_mem_append.mpr ⟨lw_r1, List.forall_mem_append.mpr ⟨lw_r2, List.forall_mem_append.mpr ⟨lw_r3, List.forall_mem_append.mpr ⟨lw_r4, lw_r5⟩⟩⟩⟩
end
section
/-! names, printed by gen/names.py out of the Statement: words, classes, methods -/
section NAMES
theorem q_by {big ws : List Jvm.Cond} (ps : List Nat) (hp : ws = ps.filterMap (fun i => big[i]?)) : ∀ w ∈ ws, w ∈ big := by
  intro w hw
  rw [hp] at hw
  obtain ⟨i, -, hi⟩ := List.mem_filterMap.mp hw
  exact List.mem_of_getElem? hi
def q_gz : List Jvm.Cond := [.isRef (.static "java/lang/Throwable" "UNASSIGNED_STACK" "[Ljava/lang/StackTraceElement;"), .isRef (.static "java/lang/Throwable" "SUPPRESSED_SENTINEL" "Ljava/util/List;")]
def q_gw : List Jvm.Cond := tables_1 ++ (k2_sels lw_privs ++ q_gz)
theorem q_i {w : Jvm.Cond} (i : Nat) (h : tables_1[i]? = some w) : w ∈ q_gw := List.mem_append_left _ (List.mem_of_getElem? h)
theorem q_iz {w : Jvm.Cond} (i : Nat) (h : q_gz[i]? = some w) : w ∈ q_gw := List.mem_append_right _ (List.mem_append_right _ (List.mem_of_getElem? h))
theorem q_is {w : Jvm.Cond} (i : Nat) (h : (k2_sels lw_privs)[i]? = some w) : w ∈ q_gw := List.mem_append_right _ (List.mem_append_left _ (List.mem_of_getElem? h))
def q_T0 : u_T := fun k => match k with
  | 0 => ("StuckSearch", "tape", "LStuckSearch$Tape;", true)
  | 1 => ("StuckSearch", "world", "LStuckSearch$World;", true)
  | 2 => ("StuckSearch", "reader", "LStuckSearch$TextReader;", true)
  | 3 => ("StuckSearch", "search", "LStuckSearch$Search;", true)
  | 4 => ("StuckSearch", "current", "LStuckSearch$State;", true)
  | _ => ("StuckSearch", "stepsGone", "I", false)
def q_f0 : Nat → FieldType := fun k => match k with
  | 0 => (.object "StuckSearch$Tape")
  | 1 => (.object "StuckSearch$World")
  | 2 => (.object "StuckSearch$TextReader")
  | 3 => (.object "StuckSearch$Search")
  | 4 => (.object "StuckSearch$State")
  | _ => .int
theorem q_n0 : ∀ a, a < 6 → ∀ b, b < 6 → a ≠ b → (q_T0 a).2.1 ≠ (q_T0 b).2.1 := by decide +kernel
theorem q_y0 : ∀ k, k < 6 → parseFieldDescriptor (q_T0 k).2.2.1 = some (q_f0 k) := by decide +kernel
set_option maxRecDepth 100000 in
theorem q_u0 : ∀ w ∈ u_ws "StuckSearch" q_T0 6, w ∈ q_gw := fun w hw => List.mem_append_left _ (q_by [260, 262, 264, 266, 268, 270] (by rfl) w hw)
def q_T1 : u_T := fun k => match k with
  | 0 => ("StuckSearch$Tape", "bytes", "[B", true)
  | _ => ("StuckSearch$Tape", "length", "I", false)
def q_f1 : Nat → FieldType := fun k => match k with
  | 0 => (.array .byte)
  | _ => .int
theorem q_n1 : ∀ a, a < 2 → ∀ b, b < 2 → a ≠ b → (q_T1 a).2.1 ≠ (q_T1 b).2.1 := by decide +kernel
theorem q_y1 : ∀ k, k < 2 → parseFieldDescriptor (q_T1 k).2.2.1 = some (q_f1 k) := by decide +kernel
set_option maxRecDepth 100000 in
theorem q_u1 : ∀ w ∈ u_ws "StuckSearch$Tape" q_T1 2, w ∈ q_gw := fun w hw => List.mem_append_left _ (q_by [40, 42] (by rfl) w hw)
def q_T2 : u_T := fun k => match k with
  | 0 => ("StuckSearch$World", "sizes", "[I", true)
  | 1 => ("StuckSearch$World", "firsts", "[I", true)
  | 2 => ("StuckSearch$World", "variableCount", "I", false)
  | 3 => ("StuckSearch$World", "courses", "[LStuckSearch$Course;", true)
  | _ => ("StuckSearch$World", "processCount", "I", false)
def q_f2 : Nat → FieldType := fun k => match k with
  | 0 => (.array .int)
  | 1 => (.array .int)
  | 2 => .int
  | 3 => (.array (.object "StuckSearch$Course"))
  | _ => .int
theorem q_n2 : ∀ a, a < 5 → ∀ b, b < 5 → a ≠ b → (q_T2 a).2.1 ≠ (q_T2 b).2.1 := by decide +kernel
theorem q_y2 : ∀ k, k < 5 → parseFieldDescriptor (q_T2 k).2.2.1 = some (q_f2 k) := by decide +kernel
set_option maxRecDepth 100000 in
theorem q_u2 : ∀ w ∈ u_ws "StuckSearch$World" q_T2 5, w ∈ q_gw := fun w hw => List.mem_append_left _ (q_by [103, 105, 107, 109, 111] (by rfl) w hw)
def q_T3 : u_T := fun k => match k with
  | 0 => ("StuckSearch$Course", "placeCount", "I", false)
  | 1 => ("StuckSearch$Course", "ends", "I", false)
  | 2 => ("StuckSearch$Course", "steps", "[I", true)
  | 3 => ("StuckSearch$Course", "kinds", "[I", true)
  | 4 => ("StuckSearch$Course", "variables", "[I", true)
  | _ => ("StuckSearch$Course", "figures", "[I", true)
def q_f3 : Nat → FieldType := fun k => match k with
  | 0 => .int
  | 1 => .int
  | 2 => (.array .int)
  | 3 => (.array .int)
  | 4 => (.array .int)
  | _ => (.array .int)
theorem q_n3 : ∀ a, a < 6 → ∀ b, b < 6 → a ≠ b → (q_T3 a).2.1 ≠ (q_T3 b).2.1 := by decide +kernel
theorem q_y3 : ∀ k, k < 6 → parseFieldDescriptor (q_T3 k).2.2.1 = some (q_f3 k) := by decide +kernel
set_option maxRecDepth 100000 in
theorem q_u3 : ∀ w ∈ u_ws "StuckSearch$Course" q_T3 6, w ∈ q_gw := fun w hw => List.mem_append_left _ (q_by [76, 78, 80, 82, 84, 86] (by rfl) w hw)
def q_T4 : u_T := fun k => match k with
  | 0 => ("StuckSearch$TextReader", "tape", "LStuckSearch$Tape;", true)
  | 1 => ("StuckSearch$TextReader", "world", "LStuckSearch$World;", true)
  | 2 => ("StuckSearch$TextReader", "choices", "[LStuckSearch$Part;", true)
  | 3 => ("StuckSearch$TextReader", "rows", "[LStuckSearch$Part;", true)
  | 4 => ("StuckSearch$TextReader", "act", "LStuckSearch$Part;", true)
  | 5 => ("StuckSearch$TextReader", "depth", "I", false)
  | 6 => ("StuckSearch$TextReader", "at", "I", false)
  | 7 => ("StuckSearch$TextReader", "faultKind", "I", false)
  | _ => ("StuckSearch$TextReader", "faultPlace", "I", false)
def q_f4 : Nat → FieldType := fun k => match k with
  | 0 => (.object "StuckSearch$Tape")
  | 1 => (.object "StuckSearch$World")
  | 2 => (.array (.object "StuckSearch$Part"))
  | 3 => (.array (.object "StuckSearch$Part"))
  | 4 => (.object "StuckSearch$Part")
  | 5 => .int
  | 6 => .int
  | 7 => .int
  | _ => .int
theorem q_n4 : ∀ a, a < 9 → ∀ b, b < 9 → a ≠ b → (q_T4 a).2.1 ≠ (q_T4 b).2.1 := by decide +kernel
theorem q_y4 : ∀ k, k < 9 → parseFieldDescriptor (q_T4 k).2.2.1 = some (q_f4 k) := by decide +kernel
set_option maxRecDepth 100000 in
theorem q_u4 : ∀ w ∈ u_ws "StuckSearch$TextReader" q_T4 9, w ∈ q_gw := fun w hw => List.mem_append_left _ (q_by [154, 156, 158, 160, 162, 164, 166, 168, 170] (by rfl) w hw)
def q_T5 : u_T := fun k => match k with
  | 0 => ("StuckSearch$Part", "canBeNothing", "Z", false)
  | 1 => ("StuckSearch$Part", "first", "I", false)
  | _ => ("StuckSearch$Part", "last", "I", false)
def q_f5 : Nat → FieldType := fun k => match k with
  | 0 => .boolean
  | 1 => .int
  | _ => .int
theorem q_n5 : ∀ a, a < 3 → ∀ b, b < 3 → a ≠ b → (q_T5 a).2.1 ≠ (q_T5 b).2.1 := by decide +kernel
theorem q_y5 : ∀ k, k < 3 → parseFieldDescriptor (q_T5 k).2.2.1 = some (q_f5 k) := by decide +kernel
set_option maxRecDepth 100000 in
theorem q_u5 : ∀ w ∈ u_ws "StuckSearch$Part" q_T5 3, w ∈ q_gw := fun w hw => List.mem_append_left _ (q_by [136, 138, 140] (by rfl) w hw)
def q_T6 : u_T := fun k => match k with
  | 0 => ("StuckSearch$Search", "world", "LStuckSearch$World;", true)
  | 1 => ("StuckSearch$Search", "reached", "LStuckSearch$StateSet;", true)
  | 2 => ("StuckSearch$Search", "standing", "LStuckSearch$StateSet;", true)
  | 3 => ("StuckSearch$Search", "falling", "LStuckSearch$StateSet;", true)
  | 4 => ("StuckSearch$Search", "waiting", "LStuckSearch$StateSet;", true)
  | 5 => ("StuckSearch$Search", "seen", "LStuckSearch$State;", true)
  | 6 => ("StuckSearch$Search", "placeWeights", "[I", true)
  | 7 => ("StuckSearch$Search", "valueWeights", "[I", true)
  | 8 => ("StuckSearch$Search", "standingCount", "I", false)
  | 9 => ("StuckSearch$Search", "endedCount", "I", false)
  | 10 => ("StuckSearch$Search", "standingKnown", "Z", false)
  | _ => ("StuckSearch$Search", "fallingKnown", "Z", false)
def q_f6 : Nat → FieldType := fun k => match k with
  | 0 => (.object "StuckSearch$World")
  | 1 => (.object "StuckSearch$StateSet")
  | 2 => (.object "StuckSearch$StateSet")
  | 3 => (.object "StuckSearch$StateSet")
  | 4 => (.object "StuckSearch$StateSet")
  | 5 => (.object "StuckSearch$State")
  | 6 => (.array .int)
  | 7 => (.array .int)
  | 8 => .int
  | 9 => .int
  | 10 => .boolean
  | _ => .boolean
theorem q_n6 : ∀ a, a < 12 → ∀ b, b < 12 → a ≠ b → (q_T6 a).2.1 ≠ (q_T6 b).2.1 := by decide +kernel
theorem q_y6 : ∀ k, k < 12 → parseFieldDescriptor (q_T6 k).2.2.1 = some (q_f6 k) := by decide +kernel
set_option maxRecDepth 100000 in
theorem q_u6 : ∀ w ∈ u_ws "StuckSearch$Search" q_T6 12, w ∈ q_gw := fun w hw => List.mem_append_left _ (q_by [227, 229, 231, 233, 235, 237, 239, 241, 243, 245, 247, 249] (by rfl) w hw)
def q_T7 : u_T := fun k => match k with
  | 0 => ("StuckSearch$StateSet", "words", "[J", true)
  | _ => ("StuckSearch$StateSet", "lowest", "I", false)
def q_f7 : Nat → FieldType := fun k => match k with
  | 0 => (.array .long)
  | _ => .int
theorem q_n7 : ∀ a, a < 2 → ∀ b, b < 2 → a ≠ b → (q_T7 a).2.1 ≠ (q_T7 b).2.1 := by decide +kernel
theorem q_y7 : ∀ k, k < 2 → parseFieldDescriptor (q_T7 k).2.2.1 = some (q_f7 k) := by decide +kernel
set_option maxRecDepth 100000 in
theorem q_u7 : ∀ w ∈ u_ws "StuckSearch$StateSet" q_T7 2, w ∈ q_gw := fun w hw => List.mem_append_left _ (q_by [187, 189] (by rfl) w hw)
def q_T8 : u_T := fun k => match k with
  | 0 => ("StuckSearch$State", "places", "[I", true)
  | _ => ("StuckSearch$State", "values", "[I", true)
def q_f8 : Nat → FieldType := fun k => match k with
  | 0 => (.array .int)
  | _ => (.array .int)
theorem q_n8 : ∀ a, a < 2 → ∀ b, b < 2 → a ≠ b → (q_T8 a).2.1 ≠ (q_T8 b).2.1 := by decide +kernel
theorem q_y8 : ∀ k, k < 2 → parseFieldDescriptor (q_T8 k).2.2.1 = some (q_f8 k) := by decide +kernel
set_option maxRecDepth 100000 in
theorem q_u8 : ∀ w ∈ u_ws "StuckSearch$State" q_T8 2, w ∈ q_gw := fun w hw => List.mem_append_left _ (q_by [207, 209] (by rfl) w hw)
def q_T9 : u_T := fun k => match k with
  | 0 => ("StuckSearchModel", "thrown", "I", false)
  | 1 => ("StuckSearchModel", "tape", "[I", true)
  | 2 => ("StuckSearchModel", "size", "I", false)
  | 3 => ("StuckSearchModel", "fault", "I", false)
  | 4 => ("StuckSearchModel", "faultPlace", "I", false)
  | 5 => ("StuckSearchModel", "variables", "I", false)
  | 6 => ("StuckSearchModel", "sizes", "[I", true)
  | 7 => ("StuckSearchModel", "firsts", "[I", true)
  | 8 => ("StuckSearchModel", "processes", "I", false)
  | 9 => ("StuckSearchModel", "places", "[I", true)
  | 10 => ("StuckSearchModel", "ends", "[I", true)
  | 11 => ("StuckSearchModel", "follow", "[I", true)
  | 12 => ("StuckSearchModel", "acts", "[I", true)
  | 13 => ("StuckSearchModel", "actVariables", "[I", true)
  | 14 => ("StuckSearchModel", "actFigures", "[I", true)
  | 15 => ("StuckSearchModel", "at", "I", false)
  | 16 => ("StuckSearchModel", "count", "I", false)
  | 17 => ("StuckSearchModel", "newFollow", "[I", true)
  | 18 => ("StuckSearchModel", "newActs", "[I", true)
  | 19 => ("StuckSearchModel", "newVariables", "[I", true)
  | 20 => ("StuckSearchModel", "newFigures", "[I", true)
  | 21 => ("StuckSearchModel", "open", "I", false)
  | 22 => ("StuckSearchModel", "choicesNothing", "[Z", true)
  | 23 => ("StuckSearchModel", "choicesFirst", "[I", true)
  | 24 => ("StuckSearchModel", "choicesLast", "[I", true)
  | 25 => ("StuckSearchModel", "rowNothing", "[Z", true)
  | 26 => ("StuckSearchModel", "rowFirst", "[I", true)
  | 27 => ("StuckSearchModel", "rowLast", "[I", true)
  | 28 => ("StuckSearchModel", "nothing", "Z", false)
  | 29 => ("StuckSearchModel", "first", "I", false)
  | 30 => ("StuckSearchModel", "last", "I", false)
  | 31 => ("StuckSearchModel", "now", "[I", true)
  | 32 => ("StuckSearchModel", "state", "[I", true)
  | 33 => ("StuckSearchModel", "next", "[I", true)
  | 34 => ("StuckSearchModel", "gone", "I", false)
  | 35 => ("StuckSearchModel", "seen", "[Z", true)
  | 36 => ("StuckSearchModel", "queue", "[I", true)
  | 37 => ("StuckSearchModel", "known", "Z", false)
  | 38 => ("StuckSearchModel", "found", "[I", true)
  | 39 => ("StuckSearchModel", "foundCount", "I", false)
  | _ => ("StuckSearchModel", "endedCount", "I", false)
def q_f9 : Nat → FieldType := fun k => match k with
  | 0 => .int
  | 1 => (.array .int)
  | 2 => .int
  | 3 => .int
  | 4 => .int
  | 5 => .int
  | 6 => (.array .int)
  | 7 => (.array .int)
  | 8 => .int
  | 9 => (.array .int)
  | 10 => (.array .int)
  | 11 => (.array .int)
  | 12 => (.array .int)
  | 13 => (.array .int)
  | 14 => (.array .int)
  | 15 => .int
  | 16 => .int
  | 17 => (.array .int)
  | 18 => (.array .int)
  | 19 => (.array .int)
  | 20 => (.array .int)
  | 21 => .int
  | 22 => (.array .boolean)
  | 23 => (.array .int)
  | 24 => (.array .int)
  | 25 => (.array .boolean)
  | 26 => (.array .int)
  | 27 => (.array .int)
  | 28 => .boolean
  | 29 => .int
  | 30 => .int
  | 31 => (.array .int)
  | 32 => (.array .int)
  | 33 => (.array .int)
  | 34 => .int
  | 35 => (.array .boolean)
  | 36 => (.array .int)
  | 37 => .boolean
  | 38 => (.array .int)
  | 39 => .int
  | _ => .int
theorem q_n9 : ∀ a, a < 41 → ∀ b, b < 41 → a ≠ b → (q_T9 a).2.1 ≠ (q_T9 b).2.1 := by decide +kernel
theorem q_y9 : ∀ k, k < 41 → parseFieldDescriptor (q_T9 k).2.2.1 = some (q_f9 k) := by decide +kernel
set_option maxRecDepth 100000 in
theorem q_u9 : ∀ w ∈ u_ws "StuckSearchModel" q_T9 41, w ∈ q_gw := fun w hw => List.mem_append_left _ (q_by [795, 797, 799, 801, 803, 805, 807, 809, 811, 813, 815, 817, 819, 821, 823, 825, 827, 829, 831, 833, 835, 837, 839, 841, 843, 845, 847, 849, 851, 853, 855, 857, 859, 861, 863, 865, 867, 869, 871, 873, 875] (by rfl) w hw)
def q_T10 : u_T := fun k => match k with
  | _ => ("", "", "", false)
def q_f10 : Nat → FieldType := fun k => match k with
  | _ => .int
theorem q_n10 : ∀ a, a < 0 → ∀ b, b < 0 → a ≠ b → (q_T10 a).2.1 ≠ (q_T10 b).2.1 := by decide +kernel
theorem q_y10 : ∀ k, k < 0 → parseFieldDescriptor (q_T10 k).2.2.1 = some (q_f10 k) := by decide +kernel
set_option maxRecDepth 100000 in
theorem q_u10 : ∀ w ∈ u_ws "java/lang/IllegalArgumentException" q_T10 0, w ∈ q_gw := fun w hw => List.mem_append_left _ (q_by [] (by rfl) w hw)
def q_T11 : u_T := fun k => match k with
  | _ => ("", "", "", false)
def q_f11 : Nat → FieldType := fun k => match k with
  | _ => .int
theorem q_n11 : ∀ a, a < 0 → ∀ b, b < 0 → a ≠ b → (q_T11 a).2.1 ≠ (q_T11 b).2.1 := by decide +kernel
theorem q_y11 : ∀ k, k < 0 → parseFieldDescriptor (q_T11 k).2.2.1 = some (q_f11 k) := by decide +kernel
set_option maxRecDepth 100000 in
theorem q_u11 : ∀ w ∈ u_ws "java/lang/IndexOutOfBoundsException" q_T11 0, w ∈ q_gw := fun w hw => List.mem_append_left _ (q_by [] (by rfl) w hw)
def q_T12 : u_T := fun k => match k with
  | _ => ("", "", "", false)
def q_f12 : Nat → FieldType := fun k => match k with
  | _ => .int
theorem q_n12 : ∀ a, a < 0 → ∀ b, b < 0 → a ≠ b → (q_T12 a).2.1 ≠ (q_T12 b).2.1 := by decide +kernel
theorem q_y12 : ∀ k, k < 0 → parseFieldDescriptor (q_T12 k).2.2.1 = some (q_f12 k) := by decide +kernel
set_option maxRecDepth 100000 in
theorem q_u12 : ∀ w ∈ u_ws "java/lang/IllegalStateException" q_T12 0, w ∈ q_gw := fun w hw => List.mem_append_left _ (q_by [] (by rfl) w hw)
def q_cl : List vw_C := [("StuckSearch", q_T0, 6), ("StuckSearch$Tape", q_T1, 2), ("StuckSearch$World", q_T2, 5), ("StuckSearch$Course", q_T3, 6), ("StuckSearch$TextReader", q_T4, 9), ("StuckSearch$Part", q_T5, 3), ("StuckSearch$Search", q_T6, 12), ("StuckSearch$StateSet", q_T7, 2), ("StuckSearch$State", q_T8, 2), ("StuckSearchModel", q_T9, 41), ("java/lang/IllegalArgumentException", q_T10, 0), ("java/lang/IndexOutOfBoundsException", q_T11, 0), ("java/lang/IllegalStateException", q_T12, 0)]
def q_tf (c : Nat) : Nat → FieldType := match c with
  | 0 => q_f0
  | 1 => q_f1
  | 2 => q_f2
  | 3 => q_f3
  | 4 => q_f4
  | 5 => q_f5
  | 6 => q_f6
  | 7 => q_f7
  | 8 => q_f8
  | 9 => q_f9
  | 10 => q_f10
  | 11 => q_f11
  | _ => q_f12
theorem q_cl_in : ∀ (c : Nat) (q : vw_C), q_cl[c]? = some q → ∀ w ∈ u_ws q.1 q.2.1 q.2.2, w ∈ q_gw := by
  intro c q h
  have hl : c < 13 := (List.getElem?_eq_some_iff.mp h).1
  match c, hl, h with
  | 0, _, h => cases h; exact q_u0
  | 1, _, h => cases h; exact q_u1
  | 2, _, h => cases h; exact q_u2
  | 3, _, h => cases h; exact q_u3
  | 4, _, h => cases h; exact q_u4
  | 5, _, h => cases h; exact q_u5
  | 6, _, h => cases h; exact q_u6
  | 7, _, h => cases h; exact q_u7
  | 8, _, h => cases h; exact q_u8
  | 9, _, h => cases h; exact q_u9
  | 10, _, h => cases h; exact q_u10
  | 11, _, h => cases h; exact q_u11
  | 12, _, h => cases h; exact q_u12
  | k + 13, hl, _ => omega
theorem q_cl_ty : ∀ (c : Nat) (q : vw_C), q_cl[c]? = some q → ∀ k, k < q.2.2 → parseFieldDescriptor (q.2.1 k).2.2.1 = some (q_tf c k) := by
  intro c q h
  have hl : c < 13 := (List.getElem?_eq_some_iff.mp h).1
  match c, hl, h with
  | 0, _, h => cases h; exact q_y0
  | 1, _, h => cases h; exact q_y1
  | 2, _, h => cases h; exact q_y2
  | 3, _, h => cases h; exact q_y3
  | 4, _, h => cases h; exact q_y4
  | 5, _, h => cases h; exact q_y5
  | 6, _, h => cases h; exact q_y6
  | 7, _, h => cases h; exact q_y7
  | 8, _, h => cases h; exact q_y8
  | 9, _, h => cases h; exact q_y9
  | 10, _, h => cases h; exact q_y10
  | 11, _, h => cases h; exact q_y11
  | 12, _, h => cases h; exact q_y12
  | k + 13, hl, _ => omega
theorem q_cl_nm : ∀ (c : Nat) (q : vw_C), q_cl[c]? = some q → ∀ a, a < q.2.2 → ∀ b, b < q.2.2 → a ≠ b → (q.2.1 a).2.1 ≠ (q.2.1 b).2.1 := by
  intro c q h
  have hl : c < 13 := (List.getElem?_eq_some_iff.mp h).1
  match c, hl, h with
  | 0, _, h => cases h; exact q_n0
  | 1, _, h => cases h; exact q_n1
  | 2, _, h => cases h; exact q_n2
  | 3, _, h => cases h; exact q_n3
  | 4, _, h => cases h; exact q_n4
  | 5, _, h => cases h; exact q_n5
  | 6, _, h => cases h; exact q_n6
  | 7, _, h => cases h; exact q_n7
  | 8, _, h => cases h; exact q_n8
  | 9, _, h => cases h; exact q_n9
  | 10, _, h => cases h; exact q_n10
  | 11, _, h => cases h; exact q_n11
  | 12, _, h => cases h; exact q_n12
  | k + 13, hl, _ => omega
def q_ty : List FieldType := [.int, .long, .byte, .boolean, .object "StuckSearch$Course", .object "StuckSearch$Part"]
end NAMES
end
section
/-! The engine, 1: a walk of a method over a list of cells. Abstract addresses are places in the list; place k lies at address (heap size at the law's entry) + k. -/
section ENG1
/-- launch, the law's entry state and arguments, the script (address, length, values), class numbers and slots, array classes -/
abbrev q_G : Type := Launch × State × Array Value × (Nat × Nat × (Nat → Int32)) × va_G × (Nat → ClassId)
abbrev q_l (g : q_G) : Launch := g.1
abbrev q_s (g : q_G) : State := g.2.1
abbrev q_a (g : q_G) : Array Value := g.2.2.1
abbrev q_b (g : q_G) : Nat := g.2.1.heap.size
abbrev q_x (g : q_G) : Nat × Nat × (Nat → Int32) := g.2.2.2.1
abbrev q_D (g : q_G) : va_G := g.2.2.2.2.1
abbrev q_t (g : q_G) : Nat → ClassId := g.2.2.2.2.2
/-- a method: name, bytes, locals, result, handlers -/
abbrev q_Me : Type := MethodName × ByteArray × Nat × Option FieldType × List (Nat × Nat × Nat × Nat)
def q_w (M : q_Me) : Jvm.Cond := match M.2.2.2.2 with
  | [] => .code M.1 M.2.1 M.2.2.1 M.2.2.2.1
  | hs => .codeWith M.1 M.2.1 M.2.2.1 M.2.2.2.1 hs
def q_ev (g : q_G) : Value → Value
  | .int x => .int x
  | .long x => .long x
  | .float x => .float x
  | .double x => .double x
  | .null => .null
  | .ref a => .ref (q_b g + a)
  | .retAddr _ => .ref (q_x g).1
theorem q_ev_cat (g : q_G) (v : Value) : (q_ev g v).category = v.category := by cases v <;> rfl
def q_eo (g : q_G) : Outcome → Outcome
  | .returned v => .returned (v.map (q_ev g))
  | .threw a => .threw (q_b g + a)
def q_ex (g : q_G) : va_E → va_E
  | .inl (t, n, .inl f) => .inl (q_t g t, n, .inl f)
  | .inl (t, n, .inr (.inl f)) => .inl (q_t g t, n, .inr (.inl f))
  | .inl (t, n, .inr (.inr (.inl f))) => .inl (q_t g t, n, .inr (.inr (.inl f)))
  | .inl (t, n, .inr (.inr (.inr (.inl f)))) => .inl (q_t g t, n, .inr (.inr (.inr (.inl f))))
  | .inl (t, n, .inr (.inr (.inr (.inr f)))) => .inl (q_t g t, n, .inr (.inr (.inr (.inr (fun j => (f j).map (fun a => q_b g + a))))))
  | .inr (c, fs) => .inr (c, fs.map (q_ev g))
/-- the heap holds the list -/
def q_H (g : q_G) (hp : List va_E) (H : Heap) : Prop := H.size = q_b g + hp.length ∧ (∀ q : Nat, q < q_b g → H[q]? = (q_s g).heap[q]?) ∧ ∀ (k : Nat) (e : va_E), hp[k]? = some e → va_at (q_D g) q_cl (q_b g + k, q_ex g e) H
theorem q_H.set {g : q_G} {hp : List va_E} {H H1 : Heap} {k : Nat} {e0 e : va_E} (h : q_H g hp H) (hk : hp[k]? = some e0) (z : H1.size = H.size) (o : ∀ q : Nat, q ≠ q_b g + k → H1[q]? = H[q]?) (he : va_at (q_D g) q_cl (q_b g + k, q_ex g e) H1) : q_H g (hp.set k e) H1 := by
  have hl := (List.getElem?_eq_some_iff.mp hk).1
  refine ⟨by rw [z, h.1, List.length_set], fun q hq => by rw [o q (by omega)]; exact h.2.1 q hq, fun j x hj => ?_⟩
  by_cases hjk : j = k
  · subst hjk
    rw [List.getElem?_set_self hl] at hj
    cases hj
    exact he
  · rw [List.getElem?_set_ne (Ne.symm hjk)] at hj
    exact (h.2.2 j x hj).kept (o (q_b g + j) (by omega))
theorem q_H.push {g : q_G} {hp : List va_E} {H H1 : Heap} {e : va_E} (h : q_H g hp H) (z : H1.size = H.size + 1) (o : ∀ q : Nat, q < H.size → H1[q]? = H[q]?) (he : va_at (q_D g) q_cl (H.size, q_ex g e) H1) : q_H g (hp ++ [e]) H1 := by
  have hz := h.1
  refine ⟨by rw [z, hz, List.length_append]; rfl, fun q hq => by rw [o q (by omega)]; exact h.2.1 q hq, fun j x hj => ?_⟩
  by_cases hl : j < hp.length
  · rw [List.getElem?_append_left hl] at hj
    exact (h.2.2 j x hj).kept (o (q_b g + j) (by omega))
  · rw [List.getElem?_append_right (by omega)] at hj
    have h1 : j - hp.length < 1 := (List.getElem?_eq_some_iff.mp hj).1
    have h0 : j = hp.length := by omega
    subst h0
    rw [Nat.sub_self] at hj
    cases hj
    rw [← hz]
    exact he
/-- what holds at the law's entry, once for all -/
def q_GG (g : q_G) : Prop := (∀ w ∈ q_gw, w.before (q_a g) (q_s g) = true) ∧ (∀ (c : Nat) (q : vw_C), q_cl[c]? = some q → u_Kn (q_s g) q.1 q.2.1 q.2.2 ((q_D g).1 c) ((q_D g).2 c)) ∧
  (∀ (t : Nat) (ty : FieldType), q_ty[t]? = some ty → ArrOfT (q_s g) (q_t g t) ty ∧ va_RA (q_s g) (q_t g t) ty) ∧ va_X (q_x g).1 (q_x g).2.1 (q_x g).2.2 (q_s g) (q_s g).heap ∧ (q_l g).stackTraces = false
theorem q_word {g : q_G} (hG : q_GG g) {u : State} (hu : (q_s g).WarmedH u.vm) {args : Array Value} {w : Jvm.Cond} (hw : w ∈ q_gw) (hk : goodWord w = true) : w.before args u = true := word_at hu (good_of_word hk) (hG.1 w hw)
theorem q_K0 {g : q_G} (hG : q_GG g) {u : State} (hu : (q_s g).WarmedH u.vm) : va_K (q_D g) q_cl [] u := ⟨fun c q hq => u_Kn_moved hu.alike (hG.2.1 c q hq), fun k q hk => by simp at hk⟩
theorem q_K1 {g : q_G} (hG : q_GG g) {u : State} (hu : (q_s g).WarmedH u.vm) {t : Nat} {ty : FieldType} (ht : q_ty[t]? = some ty) : va_K (q_D g) q_cl [(q_t g t, ty)] u := by
  refine ⟨fun c q hq => u_Kn_moved hu.alike (hG.2.1 c q hq), fun k q hk => ?_⟩
  have hz : k < 1 := (List.getElem?_eq_some_iff.mp hk).1
  rw [show k = 0 by omega] at hk
  cases hk
  exact ⟨arrOfT_moved hu.alike (hG.2.2.1 t ty ht).1, (hG.2.2.1 t ty ht).2.moved hu.alike⟩
theorem q_P1 {g : q_G} {hp : List va_E} {H : Heap} (h : q_H g hp H) {k : Nat} {e : va_E} (hk : hp[k]? = some e) : va_P (q_D g) q_cl [(q_b g + k, q_ex g e)] H := by
  intro j q hj
  have hz : j < 1 := (List.getElem?_eq_some_iff.mp hj).1
  rw [show j = 0 by omega] at hj
  cases hj
  exact h.2.2 k e hk
/-- locals -/
def q_L (g : q_G) (nL : Nat) (la : Array Slot) (ls : List (Option Value)) : Prop := la.size = nL ∧ lv_wf la ∧ ∀ (i : Nat) (v : Value), ls[i]? = some (some v) → la[i]? = some (.val (q_ev g v))
def q_pr (g : q_G) (ls : List (Option Value)) : List (Nat × Value) := (List.range ls.length).filterMap (fun i => match ls[i]? with
  | some (some v) => some (i, q_ev g v)
  | _ => none)
theorem q_pr_in {g : q_G} {ls : List (Option Value)} {i : Nat} {v : Value} (h : ls[i]? = some (some v)) : (i, q_ev g v) ∈ q_pr g ls := by
  refine List.mem_filterMap.mpr ⟨i, List.mem_range.mpr (List.getElem?_eq_some_iff.mp h).1, ?_⟩
  simp [h]
theorem q_pr_of {g : q_G} {ls : List (Option Value)} {q : Nat × Value} (h : q ∈ q_pr g ls) : ∃ v, ls[q.1]? = some (some v) ∧ q.2 = q_ev g v := by
  obtain ⟨i, -, hi⟩ := List.mem_filterMap.mp h
  split at hi
  · next v hv => cases hi; exact ⟨v, hv, rfl⟩
  · cases hi
theorem q_L.has {g : q_G} {nL : Nat} {la : Array Slot} {ls : List (Option Value)} (h : q_L g nL la ls) : lv_has la nL (q_pr g ls) := ⟨h.1, h.2.1, fun q hq => by
  obtain ⟨v, h1, h2⟩ := q_pr_of hq
  rw [h2]
  exact h.2.2 _ _ h1⟩
/-- what a store at i leaves of the slot ahead of it -/
def q_cut (ls : List (Option Value)) : Nat → List (Option Value)
  | 0 => ls
  | j + 1 => match ls[j]? with
    | some (some w) => if w.category = 2 then ls.set j none else ls
    | _ => ls
theorem q_cut_at {ls : List (Option Value)} {i j : Nat} {v : Value} (h : (q_cut ls i)[j]? = some (some v)) : ls[j]? = some (some v) ∧ ¬ (j + 1 = i ∧ v.category = 2) := by
  cases i with
  | zero => exact ⟨h, fun q => by omega⟩
  | succ n =>
    simp only [q_cut] at h
    split at h
    · next w hw =>
      split at h
      · next hc =>
        by_cases hj : j = n
        · subst hj
          rw [List.getElem?_set_self (List.getElem?_eq_some_iff.mp hw).1] at h
          cases h
        · rw [List.getElem?_set_ne (fun q => hj q.symm)] at h
          exact ⟨h, fun q => hj (by omega)⟩
      · next hc =>
        refine ⟨h, fun q => ?_⟩
        have : j = n := by omega
        subst this
        rw [hw] at h
        cases h
        exact hc q.2
    · next hw =>
      refine ⟨h, fun q => ?_⟩
      have : j = n := by omega
      subst this
      exact hw v h
def q_st1 (ls : List (Option Value)) (i : Nat) (v : Value) : List (Option Value) := (q_cut ls i).set i (some v)
def q_st2 (ls : List (Option Value)) (i : Nat) (v : Value) : List (Option Value) := ((q_cut ls i).set (i + 1) none).set i (some v)
theorem q_set_at {ls : List (Option Value)} {i j : Nat} {v w : Value} (h : (ls.set i (some v))[j]? = some (some w)) : (j = i ∧ w = v) ∨ (j ≠ i ∧ ls[j]? = some (some w)) := by
  by_cases hj : j = i
  · subst hj
    by_cases hl : j < ls.length
    · rw [List.getElem?_set_self hl] at h
      cases h
      exact Or.inl ⟨rfl, rfl⟩
    · rw [List.set_eq_of_length_le (by omega)] at h
      exact absurd (List.getElem?_eq_some_iff.mp h).1 hl
  · rw [List.getElem?_set_ne (fun q => hj q.symm)] at h
    exact Or.inr ⟨hj, h⟩
theorem q_L.st1 {g : q_G} {nL i : Nat} {la : Array Slot} {ls : List (Option Value)} {v : Value} (h : lv_has la nL ((i, q_ev g v) :: (q_pr g ls).filter (fun q => !(q.1 == i) && !(q.1 + 1 == i && q.2.category == 2)))) : q_L g nL la (q_st1 ls i v) := by
  refine ⟨h.1, h.2.1, fun j w hj => ?_⟩
  rcases q_set_at hj with ⟨h1, h2⟩ | ⟨h1, h2⟩
  · subst h1; subst h2
    exact h.2.2 _ List.mem_cons_self
  · obtain ⟨h3, h4⟩ := q_cut_at h2
    refine h.2.2 (j, q_ev g w) (List.mem_cons_of_mem _ (List.mem_filter.mpr ⟨q_pr_in h3, ?_⟩))
    simp only [q_ev_cat, Bool.and_eq_true, Bool.not_eq_true', beq_eq_false_iff_ne, ne_eq, Bool.and_eq_false_iff]
    refine ⟨h1, ?_⟩
    by_cases h5 : j + 1 = i
    · exact Or.inr (fun q => h4 ⟨h5, q⟩)
    · exact Or.inl h5
theorem q_L.st2 {g : q_G} {nL i : Nat} {la : Array Slot} {ls : List (Option Value)} {v : Value} (h : lv_has la nL ((i, q_ev g v) :: (q_pr g ls).filter (fun q => !(q.1 == i) && (!(q.1 == i + 1) && !(q.1 + 1 == i && q.2.category == 2))))) : q_L g nL la (q_st2 ls i v) := by
  refine ⟨h.1, h.2.1, fun j w hj => ?_⟩
  rcases q_set_at hj with ⟨h1, h2⟩ | ⟨h1, h2⟩
  · subst h1; subst h2
    exact h.2.2 _ List.mem_cons_self
  · have h6 : j ≠ i + 1 ∧ (q_cut ls i)[j]? = some (some w) := by
      by_cases hj1 : j = i + 1
      · subst hj1
        by_cases hl : i + 1 < (q_cut ls i).length
        · rw [List.getElem?_set_self hl] at h2
          cases h2
        · rw [List.set_eq_of_length_le (by omega)] at h2
          exact absurd (List.getElem?_eq_some_iff.mp h2).1 hl
      · rw [List.getElem?_set_ne (fun q => hj1 q.symm)] at h2
        exact ⟨hj1, h2⟩
    obtain ⟨h3, h4⟩ := q_cut_at h6.2
    refine h.2.2 (j, q_ev g w) (List.mem_cons_of_mem _ (List.mem_filter.mpr ⟨q_pr_in h3, ?_⟩))
    simp only [q_ev_cat, Bool.and_eq_true, Bool.not_eq_true', beq_eq_false_iff_ne, ne_eq, Bool.and_eq_false_iff]
    refine ⟨h1, h6.1, ?_⟩
    by_cases h5 : j + 1 = i
    · exact Or.inr (fun q => h4 ⟨h5, q⟩)
    · exact Or.inl h5
/-- locals at the entry -/
def q_sl : List Value → List (Option Value)
  | [] => []
  | v :: vs => if v.category = 2 then some v :: none :: q_sl vs else some v :: q_sl vs
def q_en (as : List Value) (n : Nat) : List (Option Value) := q_sl as ++ List.replicate (n - (q_sl as).length) none
theorem q_sl_len (g : q_G) (as : List Value) : (lg_sl (as.map (q_ev g))).length = (q_sl as).length := by
  induction as with
  | nil => rfl
  | cons v vs ih =>
    unfold lg_sl at ih ⊢
    rw [List.map_cons, List.flatMap_cons, List.length_append, ih, q_ev_cat]
    simp only [q_sl]
    by_cases h : v.category = 2
    · rw [if_pos h, if_pos h]
      simp only [List.length_cons, List.length_nil]
      omega
    · rw [if_neg h, if_neg h]
      simp only [List.length_cons, List.length_nil]
      omega
theorem q_sl_in (g : q_G) (as : List Value) : ∀ (b i : Nat) (v : Value), (q_sl as)[i]? = some (some v) → (b + i, q_ev g v) ∈ lv_args b (as.map (q_ev g)) := by
  induction as with
  | nil => intro b i v h; simp [q_sl] at h
  | cons x xs ih =>
    intro b i v h
    rw [List.map_cons]
    simp only [lv_args, q_ev_cat]
    simp only [q_sl] at h
    by_cases hc : x.category = 2
    · rw [if_pos hc] at h ⊢
      match i, h with
      | 0, h =>
        cases h
        exact List.mem_cons_self
      | 1, h => cases h
      | n + 2, h =>
        have h1 := ih (b + 2) n v h
        rw [show b + (n + 2) = b + 2 + n by omega]
        exact List.mem_cons_of_mem _ h1
    · rw [if_neg hc] at h ⊢
      match i, h with
      | 0, h =>
        cases h
        exact List.mem_cons_self
      | n + 1, h =>
        have h1 := ih (b + 1) n v h
        rw [show b + (n + 1) = b + 1 + n by omega]
        exact List.mem_cons_of_mem _ h1
theorem q_L.entry {g : q_G} {as : List Value} {n : Nat} (h : (q_sl as).length ≤ n) : q_L g n ((lg_sl (as.map (q_ev g)) ++ List.replicate (n - (lg_sl (as.map (q_ev g))).length) Slot.unset).toArray) (q_en as n) := by
  obtain ⟨h1, h2, h3⟩ := lv_entry (as.map (q_ev g)) (n := n) (by rw [q_sl_len]; exact h)
  refine ⟨h1, h2, fun i v hi => ?_⟩
  unfold q_en at hi
  by_cases hl : i < (q_sl as).length
  · rw [List.getElem?_append_left hl] at hi
    have h4 := q_sl_in g as 0 i v hi
    rw [Nat.zero_add] at h4
    exact h3 _ h4
  · rw [List.getElem?_append_right (by omega)] at hi
    have h5 := List.mem_of_getElem? hi
    rw [List.mem_replicate] at h5
    exact absurd h5.2 (by simp)
end ENG1
end
section
/-! The engine, 2: the judgement and the rows of the instructions that touch no cell -/
section ENG2
/-- what a walk of M knows of its surroundings -/
def q_E (g : q_G) (M : q_Me) (rm : Room) (p : Program) (e : Env) (R : Room) (u : State) (m : MethodId) (meth : Method) (co : Code) : Prop :=
  q_GG g ∧ p.tables.exec = Jvm.exec ∧ co.code = M.2.1 ∧ co.maxLocals = M.2.2.1 ∧ u.vm.findClass M.1.cls = some m.cls ∧ (q_s g).WarmedH u.vm ∧ meth.sig.returnType = M.2.2.2.1 ∧ meth.locks = false ∧ meth.name = M.1.name ∧
  rm.frames ≤ R.frames ∧ rm.locals ≤ R.locals ∧ rm.cells ≤ R.cells ∧ rm.slots ≤ R.slots ∧ co.exceptionTable.toList.map (fun h => (h.startPc, h.endPc, h.handlerPc, h.catchType)) = M.2.2.2.2
/-- an end: outcome and cells -/
def q_Q (g : q_G) (fr : Bool) (P : Outcome → List va_E → Prop) (u : State) (o : Outcome) (t : State) : Prop := ∃ (r : Outcome) (hp : List va_E), o = q_eo g r ∧ q_H g hp t.heap ∧ P r hp ∧ (fr = false → (∃ v, r = .returned v) → t.heap = u.heap)
def q_M (below : List Frame) (Qc : State → Outcome → State → Prop) (u : State) (mc ms : Nat) (free : Addr → Prop) : State → Prop := fun t =>
  ∃ o, t.status = .running ∧ Ended t below o ∧ Qc u o t ∧ ∃ L, (u.WarmedH t.vm ∧ u.sameButNew ({ t with vm := u.vm } : State) L mc ms) ∧ ∀ q ∈ L, free q.base
def q_J (g : q_G) (M : q_Me) (fr : Bool) (rm : Room) (P : Outcome → List va_E → Prop) (pc : Nat) (ls : List (Option Value)) (st : List Value) (hp : List va_E) (c s : Nat) (w : Bool) : Prop :=
  ∀ (p : Program) (e : Env) (R : Room) (u : State) (m : MethodId) (args : Array Value) (below : List Frame) (meth : Method) (co : Code) (H : Heap) (locs : List Loc) (la : Array Slot),
    q_E g M rm p e R u m meth co → q_L g M.2.2.1 la ls → q_H g hp H → (∀ q ∈ locs, w = true ∧ q_b g ≤ q.base) → (w = false → H = u.heap) →
    W p (q_l g) e R u m args below meth co H locs c s (q_M below (q_Q g fr P) u rm.cells rm.slots (fun q => fr = true ∧ q_b g ≤ q)) (F0 m pc la (st.map (q_ev g)))
theorem q_mono {p : Program} {l : Launch} {e : Env} {R : Room} {s : State} {m : MethodId} {args : Array Value} {below : List Frame} {meth : Method} {c : Code} {H : Heap} {locs : List Loc} {cells slots : Nat} {Q Q' : State → Prop} {f : JFrame} (h : ∀ t, Q t → Q' t) (k : W p l e R s m args below meth c H locs cells slots Q f) : W p l e R s m args below meth c H locs cells slots Q' f := by
  intro T hT X
  obtain ⟨t, a, b⟩ := k T hT X
  exact ⟨t, a, h t b⟩
theorem q_ofMQ {below : List Frame} {Qc : State → Outcome → State → Prop} {a : Array Value} {u : State} {mc ms : Nat} {free : Addr → Prop} : ∀ t, MQ below (fun _ => Qc) a u mc ms free t → q_M below Qc u mc ms free t := fun t ⟨o, a1, a2, a3, L, a4, a5⟩ => ⟨o, a1, a2, a3, L, a4.2, a5⟩
variable {g : q_G} {M : q_Me} {fr : Bool} {rm : Room} {P : Outcome → List va_E → Prop} {pc : Nat} {ls : List (Option Value)} {st : List Value} {hp : List va_E} {c s : Nat} {w : Bool}
theorem q_more {c' s' : Nat} (h1 : c ≤ c') (h2 : s ≤ s') (k : q_J g M fr rm P pc ls st hp c' s' w) : q_J g M fr rm P pc ls st hp c s w :=
  fun p e R u m args below meth co H locs la E hL hH h3 h4 => W.widen h1 h2 (k p e R u m args below meth co H locs la E hL hH h3 h4)
theorem q_wrote (k : q_J g M fr rm P pc ls st hp c s true) : q_J g M fr rm P pc ls st hp c s w :=
  fun p e R u m args below meth co H locs la E hL hH h3 _ => k p e R u m args below meth co H locs la E hL hH (fun q hq => ⟨rfl, (h3 q hq).2⟩) (fun h => by cases h)
theorem q_post {P' : Outcome → List va_E → Prop} (h : ∀ r hp', P' r hp' → P r hp') (k : q_J g M fr rm P' pc ls st hp c s w) : q_J g M fr rm P pc ls st hp c s w :=
  fun p e R u m args below meth co H locs la E hL hH h3 h4 => q_mono (fun t ⟨o, a1, a2, ⟨r, hp', b1, b2, b3, b4⟩, a4⟩ => ⟨o, a1, a2, ⟨r, hp', b1, b2, h r hp' b3, b4⟩, a4⟩) (k p e R u m args below meth co H locs la E hL hH h3 h4)

theorem q_iconst {n : Int} {v : Int32} (hd : decode M.2.1 pc = .ok (.iconst n, 1)) (hv : Int32.ofInt n = v) (k : q_J g M fr rm P (pc + 1) ls (.int v :: st) hp c s w) : q_J g M fr rm P pc ls st hp c s w :=
  fun p e R u m args below meth co H locs la E hL hH h1 h2 => lv_iconst E.2.1 E.2.2.1 hd hv (k p e R u m args below meth co H locs la E hL hH h1 h2)
theorem q_bipush {n : Int} {v : Int32} (hd : decode M.2.1 pc = .ok (.bipush n, 2)) (hv : (Int8.ofInt n).toInt32 = v) (k : q_J g M fr rm P (pc + 2) ls (.int v :: st) hp c s w) : q_J g M fr rm P pc ls st hp c s w :=
  fun p e R u m args below meth co H locs la E hL hH h1 h2 => lv_bipush E.2.1 E.2.2.1 hd hv (k p e R u m args below meth co H locs la E hL hH h1 h2)
theorem q_sipush {n : Int} {v : Int32} (hd : decode M.2.1 pc = .ok (.sipush n, 3)) (hv : (Int16.ofInt n).toInt32 = v) (k : q_J g M fr rm P (pc + 3) ls (.int v :: st) hp c s w) : q_J g M fr rm P pc ls st hp c s w :=
  fun p e R u m args below meth co H locs la E hL hH h1 h2 => lv_sipush E.2.1 E.2.2.1 hd hv (k p e R u m args below meth co H locs la E hL hH h1 h2)
theorem q_lconst {n : Fin 2} {v : Int64} (hd : decode M.2.1 pc = .ok (.lconst n, 1)) (hv : Int64.ofNat (n : Nat) = v) (k : q_J g M fr rm P (pc + 1) ls (.long v :: st) hp c s w) : q_J g M fr rm P pc ls st hp c s w :=
  fun p e R u m args below meth co H locs la E hL hH h1 h2 => lv_lconst E.2.1 E.2.2.1 hd hv (k p e R u m args below meth co H locs la E hL hH h1 h2)
theorem q_null (hd : decode M.2.1 pc = .ok (.aconst_null, 1)) (k : q_J g M fr rm P (pc + 1) ls (.null :: st) hp c s w) : q_J g M fr rm P pc ls st hp c s w :=
  fun p e R u m args below meth co H locs la E hL hH h1 h2 => lv_null E.2.1 E.2.2.1 hd (k p e R u m args below meth co H locs la E hL hH h1 h2)
theorem q_iload_n {k : Fin 4} {x : Int32} (hd : decode M.2.1 pc = .ok (.iload_n k, 1)) (hl : ls[(k : Nat)]? = some (some (.int x))) (kk : q_J g M fr rm P (pc + 1) ls (.int x :: st) hp c s w) : q_J g M fr rm P pc ls st hp c s w :=
  fun p e R u m args below meth co H locs la E hL hH h1 h2 => lv_iload_n E.2.1 E.2.2.1 hd rfl (hL.2.2 _ _ hl) (kk p e R u m args below meth co H locs la E hL hH h1 h2)
theorem q_iload {i : Nat} {x : Int32} (hd : decode M.2.1 pc = .ok (.iload i, 2)) (hl : ls[i]? = some (some (.int x))) (kk : q_J g M fr rm P (pc + 2) ls (.int x :: st) hp c s w) : q_J g M fr rm P pc ls st hp c s w :=
  fun p e R u m args below meth co H locs la E hL hH h1 h2 => lv_iload E.2.1 E.2.2.1 hd (hL.2.2 _ _ hl) (kk p e R u m args below meth co H locs la E hL hH h1 h2)
theorem q_istore_n {k : Fin 4} {i : Nat} {x : Int32} {ls' : List (Option Value)} (hd : decode M.2.1 pc = .ok (.istore_n k, 1)) (hi : (k : Nat) = i) (hn : i < M.2.2.1) (hl : q_st1 ls i (.int x) = ls') (kk : q_J g M fr rm P (pc + 1) ls' st hp c s w) : q_J g M fr rm P pc ls (.int x :: st) hp c s w :=
  fun p e R u m args below meth co H locs la E hL hH h1 h2 => lv_istore_n E.2.1 E.2.2.1 hd hi hL.has hn rfl (fun la' h' => kk p e R u m args below meth co H locs la' E (hl ▸ q_L.st1 h') hH h1 h2)
theorem q_istore {i : Nat} {x : Int32} {ls' : List (Option Value)} (hd : decode M.2.1 pc = .ok (.istore i, 2)) (hn : i < M.2.2.1) (hl : q_st1 ls i (.int x) = ls') (kk : q_J g M fr rm P (pc + 2) ls' st hp c s w) : q_J g M fr rm P pc ls (.int x :: st) hp c s w :=
  fun p e R u m args below meth co H locs la E hL hH h1 h2 => lv_istore E.2.1 E.2.2.1 hd hL.has hn rfl (fun la' h' => kk p e R u m args below meth co H locs la' E (hl ▸ q_L.st1 h') hH h1 h2)
theorem q_lload_n {k : Fin 4} {x : Int64} (hd : decode M.2.1 pc = .ok (.lload_n k, 1)) (hl : ls[(k : Nat)]? = some (some (.long x))) (kk : q_J g M fr rm P (pc + 1) ls (.long x :: st) hp c s w) : q_J g M fr rm P pc ls st hp c s w :=
  fun p e R u m args below meth co H locs la E hL hH h1 h2 => lv_lload_n E.2.1 E.2.2.1 hd rfl (hL.2.2 _ _ hl) (kk p e R u m args below meth co H locs la E hL hH h1 h2)
theorem q_lload {i : Nat} {x : Int64} (hd : decode M.2.1 pc = .ok (.lload i, 2)) (hl : ls[i]? = some (some (.long x))) (kk : q_J g M fr rm P (pc + 2) ls (.long x :: st) hp c s w) : q_J g M fr rm P pc ls st hp c s w :=
  fun p e R u m args below meth co H locs la E hL hH h1 h2 => lv_lload E.2.1 E.2.2.1 hd (hL.2.2 _ _ hl) (kk p e R u m args below meth co H locs la E hL hH h1 h2)
theorem q_lstore_n {k : Fin 4} {i : Nat} {x : Int64} {ls' : List (Option Value)} (hd : decode M.2.1 pc = .ok (.lstore_n k, 1)) (hi : (k : Nat) = i) (hn : i + 1 < M.2.2.1) (hl : q_st2 ls i (.long x) = ls') (kk : q_J g M fr rm P (pc + 1) ls' st hp c s w) : q_J g M fr rm P pc ls (.long x :: st) hp c s w :=
  fun p e R u m args below meth co H locs la E hL hH h1 h2 => lv_lstore_n E.2.1 E.2.2.1 hd hi hL.has hn rfl (fun la' h' => kk p e R u m args below meth co H locs la' E (hl ▸ q_L.st2 h') hH h1 h2)
theorem q_lstore {i : Nat} {x : Int64} {ls' : List (Option Value)} (hd : decode M.2.1 pc = .ok (.lstore i, 2)) (hn : i + 1 < M.2.2.1) (hl : q_st2 ls i (.long x) = ls') (kk : q_J g M fr rm P (pc + 2) ls' st hp c s w) : q_J g M fr rm P pc ls (.long x :: st) hp c s w :=
  fun p e R u m args below meth co H locs la E hL hH h1 h2 => lv_lstore E.2.1 E.2.2.1 hd hL.has hn rfl (fun la' h' => kk p e R u m args below meth co H locs la' E (hl ▸ q_L.st2 h') hH h1 h2)
def q_isr : Value → Bool
  | .null | .ref _ | .retAddr _ => true
  | _ => false
theorem q_aload_n {k : Fin 4} {v : Value} (hd : decode M.2.1 pc = .ok (.aload_n k, 1)) (hl : ls[(k : Nat)]? = some (some v)) (hv : q_isr v = true) (kk : q_J g M fr rm P (pc + 1) ls (v :: st) hp c s w) : q_J g M fr rm P pc ls st hp c s w := by
  intro p e R u m args below meth co H locs la E hL hH h1 h2
  have h3 := hL.2.2 _ _ hl
  have h4 := kk p e R u m args below meth co H locs la E hL hH h1 h2
  cases v <;> first | (exact lv_aload_n E.2.1 E.2.2.1 hd rfl h3 h4) | (exact lv_aload_nN E.2.1 E.2.2.1 hd rfl h3 h4) | (exact absurd hv (by simp [q_isr]))
theorem q_aload {i : Nat} {v : Value} (hd : decode M.2.1 pc = .ok (.aload i, 2)) (hl : ls[i]? = some (some v)) (hv : q_isr v = true) (kk : q_J g M fr rm P (pc + 2) ls (v :: st) hp c s w) : q_J g M fr rm P pc ls st hp c s w := by
  intro p e R u m args below meth co H locs la E hL hH h1 h2
  have h3 := hL.2.2 _ _ hl
  have h4 := kk p e R u m args below meth co H locs la E hL hH h1 h2
  cases v <;> first | (exact lv_aload E.2.1 E.2.2.1 hd h3 h4) | (exact lv_aloadN E.2.1 E.2.2.1 hd h3 h4) | (exact absurd hv (by simp [q_isr]))
theorem q_astore_n {k : Fin 4} {i : Nat} {v : Value} {ls' : List (Option Value)} (hd : decode M.2.1 pc = .ok (.astore_n k, 1)) (hi : (k : Nat) = i) (hv : q_isr v = true) (hn : i < M.2.2.1) (hl : q_st1 ls i v = ls') (kk : q_J g M fr rm P (pc + 1) ls' st hp c s w) : q_J g M fr rm P pc ls (v :: st) hp c s w := by
  intro p e R u m args below meth co H locs la E hL hH h1 h2
  have h3 : ∀ la' : Array Slot, lv_has la' M.2.2.1 ((i, q_ev g v) :: (q_pr g ls).filter (fun q => !(q.1 == i) && !(q.1 + 1 == i && q.2.category == 2))) → W p (q_l g) e R u m args below meth co H locs c s (q_M below (q_Q g fr P) u rm.cells rm.slots (fun q => fr = true ∧ q_b g ≤ q)) (F0 m (pc + 1) la' (st.map (q_ev g))) := fun la' h' => kk p e R u m args below meth co H locs la' E (hl ▸ q_L.st1 h') hH h1 h2
  cases v <;> first | (exact lv_astore_n E.2.1 E.2.2.1 hd hi hL.has hn rfl h3) | (exact lv_astore_nN E.2.1 E.2.2.1 hd hi hL.has hn rfl h3) | (exact absurd hv (by simp [q_isr]))
theorem q_astore {i : Nat} {v : Value} {ls' : List (Option Value)} (hd : decode M.2.1 pc = .ok (.astore i, 2)) (hv : q_isr v = true) (hn : i < M.2.2.1) (hl : q_st1 ls i v = ls') (kk : q_J g M fr rm P (pc + 2) ls' st hp c s w) : q_J g M fr rm P pc ls (v :: st) hp c s w := by
  intro p e R u m args below meth co H locs la E hL hH h1 h2
  have h3 : ∀ la' : Array Slot, lv_has la' M.2.2.1 ((i, q_ev g v) :: (q_pr g ls).filter (fun q => !(q.1 == i) && !(q.1 + 1 == i && q.2.category == 2))) → W p (q_l g) e R u m args below meth co H locs c s (q_M below (q_Q g fr P) u rm.cells rm.slots (fun q => fr = true ∧ q_b g ≤ q)) (F0 m (pc + 2) la' (st.map (q_ev g))) := fun la' h' => kk p e R u m args below meth co H locs la' E (hl ▸ q_L.st1 h') hH h1 h2
  cases v <;> first | (exact lv_astore E.2.1 E.2.2.1 hd hL.has hn rfl h3) | (exact lv_astoreN E.2.1 E.2.2.1 hd hL.has hn rfl h3) | (exact absurd hv (by simp [q_isr]))
theorem q_iinc {i : Nat} {n : Int} {x v : Int32} {ls' : List (Option Value)} (hd : decode M.2.1 pc = .ok (.iinc i n, 3)) (hx : ls[i]? = some (some (.int x))) (hv : x + Int32.ofInt n = v) (hn : i < M.2.2.1) (hl : q_st1 ls i (.int v) = ls') (kk : q_J g M fr rm P (pc + 3) ls' st hp c s w) : q_J g M fr rm P pc ls st hp c s w := by
  intro p e R u m args below meth co H locs la E hL hH h1 h2
  obtain ⟨k, hk⟩ := List.getElem?_of_mem (q_pr_in (g := g) hx)
  exact lv_iinc E.2.1 E.2.2.1 hd hL.has hk hv hn rfl (fun la' h' => kk p e R u m args below meth co H locs la' E (hl ▸ q_L.st1 h') hH h1 h2)
theorem q_iadd {x y : Int32} (hd : decode M.2.1 pc = .ok (.iadd, 1)) (k : q_J g M fr rm P (pc + 1) ls (.int (x + y) :: st) hp c s w) : q_J g M fr rm P pc ls (.int y :: .int x :: st) hp c s w :=
  fun p e R u m args below meth co H locs la E hL hH h1 h2 => lv_iadd E.2.1 E.2.2.1 hd (k p e R u m args below meth co H locs la E hL hH h1 h2)
theorem q_isub {x y : Int32} (hd : decode M.2.1 pc = .ok (.isub, 1)) (k : q_J g M fr rm P (pc + 1) ls (.int (x - y) :: st) hp c s w) : q_J g M fr rm P pc ls (.int y :: .int x :: st) hp c s w :=
  fun p e R u m args below meth co H locs la E hL hH h1 h2 => lv_isub E.2.1 E.2.2.1 hd (k p e R u m args below meth co H locs la E hL hH h1 h2)
theorem q_imul {x y : Int32} (hd : decode M.2.1 pc = .ok (.imul, 1)) (k : q_J g M fr rm P (pc + 1) ls (.int (x * y) :: st) hp c s w) : q_J g M fr rm P pc ls (.int y :: .int x :: st) hp c s w :=
  fun p e R u m args below meth co H locs la E hL hH h1 h2 => lv_imul E.2.1 E.2.2.1 hd (k p e R u m args below meth co H locs la E hL hH h1 h2)
theorem q_iand {x y : Int32} (hd : decode M.2.1 pc = .ok (.iand, 1)) (k : q_J g M fr rm P (pc + 1) ls (.int (x &&& y) :: st) hp c s w) : q_J g M fr rm P pc ls (.int y :: .int x :: st) hp c s w :=
  fun p e R u m args below meth co H locs la E hL hH h1 h2 => lv_iand E.2.1 E.2.2.1 hd (k p e R u m args below meth co H locs la E hL hH h1 h2)
theorem q_ior {x y : Int32} (hd : decode M.2.1 pc = .ok (.ior, 1)) (k : q_J g M fr rm P (pc + 1) ls (.int (x ||| y) :: st) hp c s w) : q_J g M fr rm P pc ls (.int y :: .int x :: st) hp c s w :=
  fun p e R u m args below meth co H locs la E hL hH h1 h2 => lv_ior E.2.1 E.2.2.1 hd (k p e R u m args below meth co H locs la E hL hH h1 h2)
theorem q_ixor {x y : Int32} (hd : decode M.2.1 pc = .ok (.ixor, 1)) (k : q_J g M fr rm P (pc + 1) ls (.int (x ^^^ y) :: st) hp c s w) : q_J g M fr rm P pc ls (.int y :: .int x :: st) hp c s w :=
  fun p e R u m args below meth co H locs la E hL hH h1 h2 => lv_ixor E.2.1 E.2.2.1 hd (k p e R u m args below meth co H locs la E hL hH h1 h2)
theorem q_ishl {x y : Int32} (hd : decode M.2.1 pc = .ok (.ishl, 1)) (k : q_J g M fr rm P (pc + 1) ls (.int (x <<< (y &&& 31)) :: st) hp c s w) : q_J g M fr rm P pc ls (.int y :: .int x :: st) hp c s w :=
  fun p e R u m args below meth co H locs la E hL hH h1 h2 => lv_ishl E.2.1 E.2.2.1 hd (k p e R u m args below meth co H locs la E hL hH h1 h2)
theorem q_ishr {x y : Int32} (hd : decode M.2.1 pc = .ok (.ishr, 1)) (k : q_J g M fr rm P (pc + 1) ls (.int (x >>> (y &&& 31)) :: st) hp c s w) : q_J g M fr rm P pc ls (.int y :: .int x :: st) hp c s w :=
  fun p e R u m args below meth co H locs la E hL hH h1 h2 => lv_ishr E.2.1 E.2.2.1 hd (k p e R u m args below meth co H locs la E hL hH h1 h2)
theorem q_iushr {x y : Int32} (hd : decode M.2.1 pc = .ok (.iushr, 1)) (k : q_J g M fr rm P (pc + 1) ls (.int ((x.toUInt32 >>> (y.toUInt32 &&& Int32.toUInt32 31)).toInt32) :: st) hp c s w) : q_J g M fr rm P pc ls (.int y :: .int x :: st) hp c s w :=
  fun p e R u m args below meth co H locs la E hL hH h1 h2 => lv_iushr E.2.1 E.2.2.1 hd rfl (k p e R u m args below meth co H locs la E hL hH h1 h2)
theorem q_idiv {x y : Int32} (hd : decode M.2.1 pc = .ok (.idiv, 1)) (hne : ¬ y = 0) (k : q_J g M fr rm P (pc + 1) ls (.int (x / y) :: st) hp c s w) : q_J g M fr rm P pc ls (.int y :: .int x :: st) hp c s w :=
  fun p e R u m args below meth co H locs la E hL hH h1 h2 => lv_idiv E.2.1 E.2.2.1 hd hne (k p e R u m args below meth co H locs la E hL hH h1 h2)
theorem q_irem {x y : Int32} (hd : decode M.2.1 pc = .ok (.irem, 1)) (hne : ¬ y = 0) (k : q_J g M fr rm P (pc + 1) ls (.int (x - x / y * y) :: st) hp c s w) : q_J g M fr rm P pc ls (.int y :: .int x :: st) hp c s w :=
  fun p e R u m args below meth co H locs la E hL hH h1 h2 => lv_irem E.2.1 E.2.2.1 hd hne (k p e R u m args below meth co H locs la E hL hH h1 h2)
theorem q_ineg {x : Int32} (hd : decode M.2.1 pc = .ok (.ineg, 1)) (k : q_J g M fr rm P (pc + 1) ls (.int (-x) :: st) hp c s w) : q_J g M fr rm P pc ls (.int x :: st) hp c s w :=
  fun p e R u m args below meth co H locs la E hL hH h1 h2 => lv_ineg E.2.1 E.2.2.1 hd (k p e R u m args below meth co H locs la E hL hH h1 h2)
theorem q_ladd {x y : Int64} (hd : decode M.2.1 pc = .ok (.ladd, 1)) (k : q_J g M fr rm P (pc + 1) ls (.long (x + y) :: st) hp c s w) : q_J g M fr rm P pc ls (.long y :: .long x :: st) hp c s w :=
  fun p e R u m args below meth co H locs la E hL hH h1 h2 => lv_ladd E.2.1 E.2.2.1 hd (k p e R u m args below meth co H locs la E hL hH h1 h2)
theorem q_lsub {x y : Int64} (hd : decode M.2.1 pc = .ok (.lsub, 1)) (k : q_J g M fr rm P (pc + 1) ls (.long (x - y) :: st) hp c s w) : q_J g M fr rm P pc ls (.long y :: .long x :: st) hp c s w :=
  fun p e R u m args below meth co H locs la E hL hH h1 h2 => lv_lsub E.2.1 E.2.2.1 hd (k p e R u m args below meth co H locs la E hL hH h1 h2)
theorem q_lmul {x y : Int64} (hd : decode M.2.1 pc = .ok (.lmul, 1)) (k : q_J g M fr rm P (pc + 1) ls (.long (x * y) :: st) hp c s w) : q_J g M fr rm P pc ls (.long y :: .long x :: st) hp c s w :=
  fun p e R u m args below meth co H locs la E hL hH h1 h2 => lv_lmul E.2.1 E.2.2.1 hd (k p e R u m args below meth co H locs la E hL hH h1 h2)
theorem q_land {x y : Int64} (hd : decode M.2.1 pc = .ok (.land, 1)) (k : q_J g M fr rm P (pc + 1) ls (.long (x &&& y) :: st) hp c s w) : q_J g M fr rm P pc ls (.long y :: .long x :: st) hp c s w :=
  fun p e R u m args below meth co H locs la E hL hH h1 h2 => lv_land E.2.1 E.2.2.1 hd (k p e R u m args below meth co H locs la E hL hH h1 h2)
theorem q_lor {x y : Int64} (hd : decode M.2.1 pc = .ok (.lor, 1)) (k : q_J g M fr rm P (pc + 1) ls (.long (x ||| y) :: st) hp c s w) : q_J g M fr rm P pc ls (.long y :: .long x :: st) hp c s w :=
  fun p e R u m args below meth co H locs la E hL hH h1 h2 => lv_lor E.2.1 E.2.2.1 hd (k p e R u m args below meth co H locs la E hL hH h1 h2)
theorem q_lxor {x y : Int64} (hd : decode M.2.1 pc = .ok (.lxor, 1)) (k : q_J g M fr rm P (pc + 1) ls (.long (x ^^^ y) :: st) hp c s w) : q_J g M fr rm P pc ls (.long y :: .long x :: st) hp c s w :=
  fun p e R u m args below meth co H locs la E hL hH h1 h2 => lv_lxor E.2.1 E.2.2.1 hd (k p e R u m args below meth co H locs la E hL hH h1 h2)
theorem q_ldiv {x y : Int64} (hd : decode M.2.1 pc = .ok (.ldiv, 1)) (hne : ¬ y = 0) (k : q_J g M fr rm P (pc + 1) ls (.long (x / y) :: st) hp c s w) : q_J g M fr rm P pc ls (.long y :: .long x :: st) hp c s w :=
  fun p e R u m args below meth co H locs la E hL hH h1 h2 => lv_ldiv E.2.1 E.2.2.1 hd hne (k p e R u m args below meth co H locs la E hL hH h1 h2)
theorem q_lrem {x y : Int64} (hd : decode M.2.1 pc = .ok (.lrem, 1)) (hne : ¬ y = 0) (k : q_J g M fr rm P (pc + 1) ls (.long (x - x / y * y) :: st) hp c s w) : q_J g M fr rm P pc ls (.long y :: .long x :: st) hp c s w :=
  fun p e R u m args below meth co H locs la E hL hH h1 h2 => lv_lrem E.2.1 E.2.2.1 hd hne (k p e R u m args below meth co H locs la E hL hH h1 h2)
theorem q_lneg {x : Int64} (hd : decode M.2.1 pc = .ok (.lneg, 1)) (k : q_J g M fr rm P (pc + 1) ls (.long (-x) :: st) hp c s w) : q_J g M fr rm P pc ls (.long x :: st) hp c s w :=
  fun p e R u m args below meth co H locs la E hL hH h1 h2 => lv_lneg E.2.1 E.2.2.1 hd (k p e R u m args below meth co H locs la E hL hH h1 h2)
theorem q_lushr {x : Int64} {y : Int32} (hd : decode M.2.1 pc = .ok (.lushr, 1)) (k : q_J g M fr rm P (pc + 1) ls (.long ((x.toUInt64 >>> (y.toInt64.toUInt64 &&& Int64.toUInt64 63)).toInt64) :: st) hp c s w) : q_J g M fr rm P pc ls (.int y :: .long x :: st) hp c s w :=
  fun p e R u m args below meth co H locs la E hL hH h1 h2 => lv_lushr E.2.1 E.2.2.1 hd rfl (k p e R u m args below meth co H locs la E hL hH h1 h2)
theorem q_lshl {x : Int64} {y : Int32} (hd : decode M.2.1 pc = .ok (.lshl, 1)) (k : q_J g M fr rm P (pc + 1) ls (.long (x <<< (y.toInt64 &&& 63)) :: st) hp c s w) : q_J g M fr rm P pc ls (.int y :: .long x :: st) hp c s w :=
  fun p e R u m args below meth co H locs la E hL hH h1 h2 => lv_lshl E.2.1 E.2.2.1 hd rfl (k p e R u m args below meth co H locs la E hL hH h1 h2)
theorem q_lshr {x : Int64} {y : Int32} (hd : decode M.2.1 pc = .ok (.lshr, 1)) (k : q_J g M fr rm P (pc + 1) ls (.long (x >>> (y.toInt64 &&& 63)) :: st) hp c s w) : q_J g M fr rm P pc ls (.int y :: .long x :: st) hp c s w :=
  fun p e R u m args below meth co H locs la E hL hH h1 h2 => lv_lshr E.2.1 E.2.2.1 hd rfl (k p e R u m args below meth co H locs la E hL hH h1 h2)
theorem q_i2l {x : Int32} (hd : decode M.2.1 pc = .ok (.i2l, 1)) (k : q_J g M fr rm P (pc + 1) ls (.long x.toInt64 :: st) hp c s w) : q_J g M fr rm P pc ls (.int x :: st) hp c s w :=
  fun p e R u m args below meth co H locs la E hL hH h1 h2 => lv_i2l E.2.1 E.2.2.1 hd rfl (k p e R u m args below meth co H locs la E hL hH h1 h2)
theorem q_l2i {x : Int64} (hd : decode M.2.1 pc = .ok (.l2i, 1)) (k : q_J g M fr rm P (pc + 1) ls (.int x.toInt32 :: st) hp c s w) : q_J g M fr rm P pc ls (.long x :: st) hp c s w :=
  fun p e R u m args below meth co H locs la E hL hH h1 h2 => lv_l2i E.2.1 E.2.2.1 hd rfl (k p e R u m args below meth co H locs la E hL hH h1 h2)
theorem q_i2b {x : Int32} (hd : decode M.2.1 pc = .ok (.i2b, 1)) (k : q_J g M fr rm P (pc + 1) ls (.int x.toInt8.toInt32 :: st) hp c s w) : q_J g M fr rm P pc ls (.int x :: st) hp c s w :=
  fun p e R u m args below meth co H locs la E hL hH h1 h2 => lv_i2b E.2.1 E.2.2.1 hd rfl (k p e R u m args below meth co H locs la E hL hH h1 h2)
theorem q_lcmp {x y : Int64} (hd : decode M.2.1 pc = .ok (.lcmp, 1)) (k : q_J g M fr rm P (pc + 1) ls (.int (lg_cmp x y) :: st) hp c s w) : q_J g M fr rm P pc ls (.long y :: .long x :: st) hp c s w :=
  fun p e R u m args below meth co H locs la E hL hH h1 h2 => W.lcmp E.2.1 E.2.2.1 hd (k p e R u m args below meth co H locs la E hL hH h1 h2)
theorem q_dup {va : Value} (hd : decode M.2.1 pc = .ok (.dup, 1)) (hva : va.category = 1) (k : q_J g M fr rm P (pc + 1) ls (va :: va :: st) hp c s w) : q_J g M fr rm P pc ls (va :: st) hp c s w :=
  fun p e R u m args below meth co H locs la E hL hH h1 h2 => lv_dup E.2.1 E.2.2.1 hd (by rw [q_ev_cat]; exact hva) (k p e R u m args below meth co H locs la E hL hH h1 h2)
theorem q_pop {va : Value} (hd : decode M.2.1 pc = .ok (.pop, 1)) (hva : va.category = 1) (k : q_J g M fr rm P (pc + 1) ls st hp c s w) : q_J g M fr rm P pc ls (va :: st) hp c s w :=
  fun p e R u m args below meth co H locs la E hL hH h1 h2 => lv_pop E.2.1 E.2.2.1 hd (by rw [q_ev_cat]; exact hva) (k p e R u m args below meth co H locs la E hL hH h1 h2)
theorem q_dup_x1 {va vb : Value} (hd : decode M.2.1 pc = .ok (.dup_x1, 1)) (hva : va.category = 1) (hvb : vb.category = 1) (k : q_J g M fr rm P (pc + 1) ls (va :: vb :: va :: st) hp c s w) : q_J g M fr rm P pc ls (va :: vb :: st) hp c s w :=
  fun p e R u m args below meth co H locs la E hL hH h1 h2 => lv_dup_x1 E.2.1 E.2.2.1 hd (by rw [q_ev_cat]; exact hva) (by rw [q_ev_cat]; exact hvb) (k p e R u m args below meth co H locs la E hL hH h1 h2)
theorem q_dup_x2 {va vb vd : Value} (hd : decode M.2.1 pc = .ok (.dup_x2, 1)) (hva : va.category = 1) (hvb : vb.category = 1) (hvd : vd.category = 1) (k : q_J g M fr rm P (pc + 1) ls (va :: vb :: vd :: va :: st) hp c s w) : q_J g M fr rm P pc ls (va :: vb :: vd :: st) hp c s w :=
  fun p e R u m args below meth co H locs la E hL hH h1 h2 => lv_dup_x2 E.2.1 E.2.2.1 hd (by rw [q_ev_cat]; exact hva) (by rw [q_ev_cat]; exact hvb) (by rw [q_ev_cat]; exact hvd) (k p e R u m args below meth co H locs la E hL hH h1 h2)
theorem q_dup2 {va vb : Value} (hd : decode M.2.1 pc = .ok (.dup2, 1)) (hva : va.category = 1) (hvb : vb.category = 1) (k : q_J g M fr rm P (pc + 1) ls (va :: vb :: va :: vb :: st) hp c s w) : q_J g M fr rm P pc ls (va :: vb :: st) hp c s w :=
  fun p e R u m args below meth co H locs la E hL hH h1 h2 => lv_dup2_11 E.2.1 E.2.2.1 hd (by rw [q_ev_cat]; exact hva) (by rw [q_ev_cat]; exact hvb) (k p e R u m args below meth co H locs la E hL hH h1 h2)
theorem q_dup2_2 {va : Value} (hd : decode M.2.1 pc = .ok (.dup2, 1)) (hva : va.category = 2) (k : q_J g M fr rm P (pc + 1) ls (va :: va :: st) hp c s w) : q_J g M fr rm P pc ls (va :: st) hp c s w :=
  fun p e R u m args below meth co H locs la E hL hH h1 h2 => lv_dup2_2 E.2.1 E.2.2.1 hd (by rw [q_ev_cat]; exact hva) (k p e R u m args below meth co H locs la E hL hH h1 h2)
theorem q_pop2_2 {va : Value} (hd : decode M.2.1 pc = .ok (.pop2, 1)) (hva : va.category = 2) (k : q_J g M fr rm P (pc + 1) ls st hp c s w) : q_J g M fr rm P pc ls (va :: st) hp c s w :=
  fun p e R u m args below meth co H locs la E hL hH h1 h2 => lv_pop2_2 E.2.1 E.2.2.1 hd (by rw [q_ev_cat]; exact hva) (k p e R u m args below meth co H locs la E hL hH h1 h2)
theorem q_dup2_x1_2 {va vb : Value} (hd : decode M.2.1 pc = .ok (.dup2_x1, 1)) (hva : va.category = 2) (hvb : vb.category = 1) (k : q_J g M fr rm P (pc + 1) ls (va :: vb :: va :: st) hp c s w) : q_J g M fr rm P pc ls (va :: vb :: st) hp c s w :=
  fun p e R u m args below meth co H locs la E hL hH h1 h2 => lv_dup2_x1_2 E.2.1 E.2.2.1 hd (by rw [q_ev_cat]; exact hva) (by rw [q_ev_cat]; exact hvb) (k p e R u m args below meth co H locs la E hL hH h1 h2)
theorem q_dup2_x2_2 {va vb vd : Value} (hd : decode M.2.1 pc = .ok (.dup2_x2, 1)) (hva : va.category = 2) (hvb : vb.category = 1) (hvd : vd.category = 1) (k : q_J g M fr rm P (pc + 1) ls (va :: vb :: vd :: va :: st) hp c s w) : q_J g M fr rm P pc ls (va :: vb :: vd :: st) hp c s w :=
  fun p e R u m args below meth co H locs la E hL hH h1 h2 => lv_dup2_x2_2 E.2.1 E.2.2.1 hd (by rw [q_ev_cat]; exact hva) (by rw [q_ev_cat]; exact hvb) (by rw [q_ev_cat]; exact hvd) (k p e R u m args below meth co H locs la E hL hH h1 h2)
theorem q_if_eq {x : Int32} {off : Int} {tgt : Nat} (hd : decode M.2.1 pc = .ok (.ifCond .eq off, 3)) (ht : (pc : Int) + off = (tgt : Int)) (kt : x = 0 → q_J g M fr rm P tgt ls st hp c s w) (kf : ¬ x = 0 → q_J g M fr rm P (pc + 3) ls st hp c s w) : q_J g M fr rm P pc ls (.int x :: st) hp c s w :=
  fun p e R u m args below meth co H locs la E hL hH h1 h2 => lv_if_eq E.2.1 E.2.2.1 hd ht (fun h => kt h p e R u m args below meth co H locs la E hL hH h1 h2) (fun h => kf h p e R u m args below meth co H locs la E hL hH h1 h2)
theorem q_icmp_eq {x y : Int32} {off : Int} {tgt : Nat} (hd : decode M.2.1 pc = .ok (.if_icmp .eq off, 3)) (ht : (pc : Int) + off = (tgt : Int)) (kt : x = y → q_J g M fr rm P tgt ls st hp c s w) (kf : ¬ x = y → q_J g M fr rm P (pc + 3) ls st hp c s w) : q_J g M fr rm P pc ls (.int y :: .int x :: st) hp c s w :=
  fun p e R u m args below meth co H locs la E hL hH h1 h2 => lv_icmp_eq E.2.1 E.2.2.1 hd ht (fun h => kt h p e R u m args below meth co H locs la E hL hH h1 h2) (fun h => kf h p e R u m args below meth co H locs la E hL hH h1 h2)
theorem q_if_ne {x : Int32} {off : Int} {tgt : Nat} (hd : decode M.2.1 pc = .ok (.ifCond .ne off, 3)) (ht : (pc : Int) + off = (tgt : Int)) (kt : ¬ x = 0 → q_J g M fr rm P tgt ls st hp c s w) (kf : x = 0 → q_J g M fr rm P (pc + 3) ls st hp c s w) : q_J g M fr rm P pc ls (.int x :: st) hp c s w :=
  fun p e R u m args below meth co H locs la E hL hH h1 h2 => lv_if_ne E.2.1 E.2.2.1 hd ht (fun h => kt h p e R u m args below meth co H locs la E hL hH h1 h2) (fun h => kf h p e R u m args below meth co H locs la E hL hH h1 h2)
theorem q_icmp_ne {x y : Int32} {off : Int} {tgt : Nat} (hd : decode M.2.1 pc = .ok (.if_icmp .ne off, 3)) (ht : (pc : Int) + off = (tgt : Int)) (kt : ¬ x = y → q_J g M fr rm P tgt ls st hp c s w) (kf : x = y → q_J g M fr rm P (pc + 3) ls st hp c s w) : q_J g M fr rm P pc ls (.int y :: .int x :: st) hp c s w :=
  fun p e R u m args below meth co H locs la E hL hH h1 h2 => lv_icmp_ne E.2.1 E.2.2.1 hd ht (fun h => kt h p e R u m args below meth co H locs la E hL hH h1 h2) (fun h => kf h p e R u m args below meth co H locs la E hL hH h1 h2)
theorem q_if_lt {x : Int32} {off : Int} {tgt : Nat} (hd : decode M.2.1 pc = .ok (.ifCond .lt off, 3)) (ht : (pc : Int) + off = (tgt : Int)) (kt : x < 0 → q_J g M fr rm P tgt ls st hp c s w) (kf : ¬ x < 0 → q_J g M fr rm P (pc + 3) ls st hp c s w) : q_J g M fr rm P pc ls (.int x :: st) hp c s w :=
  fun p e R u m args below meth co H locs la E hL hH h1 h2 => lv_if_lt E.2.1 E.2.2.1 hd ht (fun h => kt h p e R u m args below meth co H locs la E hL hH h1 h2) (fun h => kf h p e R u m args below meth co H locs la E hL hH h1 h2)
theorem q_icmp_lt {x y : Int32} {off : Int} {tgt : Nat} (hd : decode M.2.1 pc = .ok (.if_icmp .lt off, 3)) (ht : (pc : Int) + off = (tgt : Int)) (kt : x < y → q_J g M fr rm P tgt ls st hp c s w) (kf : ¬ x < y → q_J g M fr rm P (pc + 3) ls st hp c s w) : q_J g M fr rm P pc ls (.int y :: .int x :: st) hp c s w :=
  fun p e R u m args below meth co H locs la E hL hH h1 h2 => lv_icmp_lt E.2.1 E.2.2.1 hd ht (fun h => kt h p e R u m args below meth co H locs la E hL hH h1 h2) (fun h => kf h p e R u m args below meth co H locs la E hL hH h1 h2)
theorem q_if_ge {x : Int32} {off : Int} {tgt : Nat} (hd : decode M.2.1 pc = .ok (.ifCond .ge off, 3)) (ht : (pc : Int) + off = (tgt : Int)) (kt : 0 ≤ x → q_J g M fr rm P tgt ls st hp c s w) (kf : ¬ 0 ≤ x → q_J g M fr rm P (pc + 3) ls st hp c s w) : q_J g M fr rm P pc ls (.int x :: st) hp c s w :=
  fun p e R u m args below meth co H locs la E hL hH h1 h2 => lv_if_ge E.2.1 E.2.2.1 hd ht (fun h => kt h p e R u m args below meth co H locs la E hL hH h1 h2) (fun h => kf h p e R u m args below meth co H locs la E hL hH h1 h2)
theorem q_icmp_ge {x y : Int32} {off : Int} {tgt : Nat} (hd : decode M.2.1 pc = .ok (.if_icmp .ge off, 3)) (ht : (pc : Int) + off = (tgt : Int)) (kt : y ≤ x → q_J g M fr rm P tgt ls st hp c s w) (kf : ¬ y ≤ x → q_J g M fr rm P (pc + 3) ls st hp c s w) : q_J g M fr rm P pc ls (.int y :: .int x :: st) hp c s w :=
  fun p e R u m args below meth co H locs la E hL hH h1 h2 => lv_icmp_ge E.2.1 E.2.2.1 hd ht (fun h => kt h p e R u m args below meth co H locs la E hL hH h1 h2) (fun h => kf h p e R u m args below meth co H locs la E hL hH h1 h2)
theorem q_if_gt {x : Int32} {off : Int} {tgt : Nat} (hd : decode M.2.1 pc = .ok (.ifCond .gt off, 3)) (ht : (pc : Int) + off = (tgt : Int)) (kt : 0 < x → q_J g M fr rm P tgt ls st hp c s w) (kf : ¬ 0 < x → q_J g M fr rm P (pc + 3) ls st hp c s w) : q_J g M fr rm P pc ls (.int x :: st) hp c s w :=
  fun p e R u m args below meth co H locs la E hL hH h1 h2 => lv_if_gt E.2.1 E.2.2.1 hd ht (fun h => kt h p e R u m args below meth co H locs la E hL hH h1 h2) (fun h => kf h p e R u m args below meth co H locs la E hL hH h1 h2)
theorem q_icmp_gt {x y : Int32} {off : Int} {tgt : Nat} (hd : decode M.2.1 pc = .ok (.if_icmp .gt off, 3)) (ht : (pc : Int) + off = (tgt : Int)) (kt : y < x → q_J g M fr rm P tgt ls st hp c s w) (kf : ¬ y < x → q_J g M fr rm P (pc + 3) ls st hp c s w) : q_J g M fr rm P pc ls (.int y :: .int x :: st) hp c s w :=
  fun p e R u m args below meth co H locs la E hL hH h1 h2 => lv_icmp_gt E.2.1 E.2.2.1 hd ht (fun h => kt h p e R u m args below meth co H locs la E hL hH h1 h2) (fun h => kf h p e R u m args below meth co H locs la E hL hH h1 h2)
theorem q_if_le {x : Int32} {off : Int} {tgt : Nat} (hd : decode M.2.1 pc = .ok (.ifCond .le off, 3)) (ht : (pc : Int) + off = (tgt : Int)) (kt : x ≤ 0 → q_J g M fr rm P tgt ls st hp c s w) (kf : ¬ x ≤ 0 → q_J g M fr rm P (pc + 3) ls st hp c s w) : q_J g M fr rm P pc ls (.int x :: st) hp c s w :=
  fun p e R u m args below meth co H locs la E hL hH h1 h2 => lv_if_le E.2.1 E.2.2.1 hd ht (fun h => kt h p e R u m args below meth co H locs la E hL hH h1 h2) (fun h => kf h p e R u m args below meth co H locs la E hL hH h1 h2)
theorem q_icmp_le {x y : Int32} {off : Int} {tgt : Nat} (hd : decode M.2.1 pc = .ok (.if_icmp .le off, 3)) (ht : (pc : Int) + off = (tgt : Int)) (kt : x ≤ y → q_J g M fr rm P tgt ls st hp c s w) (kf : ¬ x ≤ y → q_J g M fr rm P (pc + 3) ls st hp c s w) : q_J g M fr rm P pc ls (.int y :: .int x :: st) hp c s w :=
  fun p e R u m args below meth co H locs la E hL hH h1 h2 => lv_icmp_le E.2.1 E.2.2.1 hd ht (fun h => kt h p e R u m args below meth co H locs la E hL hH h1 h2) (fun h => kf h p e R u m args below meth co H locs la E hL hH h1 h2)
theorem q_goto {off : Int} {tgt : Nat} (hd : decode M.2.1 pc = .ok (.goto off, 3)) (ht : (pc : Int) + off = (tgt : Int)) (k : q_J g M fr rm P tgt ls st hp c s w) : q_J g M fr rm P pc ls st hp c s w :=
  fun p e R u m args below meth co H locs la E hL hH h1 h2 => lv_goto E.2.1 E.2.2.1 hd ht (k p e R u m args below meth co H locs la E hL hH h1 h2)
theorem q_ifnull_t {off : Int} {tgt : Nat} (hd : decode M.2.1 pc = .ok (.ifnull off, 3)) (ht : (pc : Int) + off = (tgt : Int)) (k : q_J g M fr rm P tgt ls st hp c s w) : q_J g M fr rm P pc ls (.null :: st) hp c s w :=
  fun p e R u m args below meth co H locs la E hL hH h1 h2 => lv_ifnullN E.2.1 E.2.2.1 hd ht (k p e R u m args below meth co H locs la E hL hH h1 h2)
theorem q_ifnull_f {a : Nat} {off : Int} (hd : decode M.2.1 pc = .ok (.ifnull off, 3)) (k : q_J g M fr rm P (pc + 3) ls st hp c s w) : q_J g M fr rm P pc ls (.ref a :: st) hp c s w :=
  fun p e R u m args below meth co H locs la E hL hH h1 h2 => lv_ifnull E.2.1 E.2.2.1 hd (k p e R u m args below meth co H locs la E hL hH h1 h2)
theorem q_ifnonnull_t {a : Nat} {off : Int} {tgt : Nat} (hd : decode M.2.1 pc = .ok (.ifnonnull off, 3)) (ht : (pc : Int) + off = (tgt : Int)) (k : q_J g M fr rm P tgt ls st hp c s w) : q_J g M fr rm P pc ls (.ref a :: st) hp c s w :=
  fun p e R u m args below meth co H locs la E hL hH h1 h2 => lv_ifnonnull E.2.1 E.2.2.1 hd ht (k p e R u m args below meth co H locs la E hL hH h1 h2)
theorem q_ifnonnull_f {off : Int} (hd : decode M.2.1 pc = .ok (.ifnonnull off, 3)) (k : q_J g M fr rm P (pc + 3) ls st hp c s w) : q_J g M fr rm P pc ls (.null :: st) hp c s w :=
  fun p e R u m args below meth co H locs la E hL hH h1 h2 => lv_ifnonnullN E.2.1 E.2.2.1 hd (k p e R u m args below meth co H locs la E hL hH h1 h2)
theorem q_lookup {dflt : Int} {ps : Array (Int × Int)} {len : Nat} {x : Int32} {off : Int} {tgt : Nat} (hd : decode M.2.1 pc = .ok (.lookupswitch dflt ps, len)) (hp' : (ps.toList.zip (ps.toList.drop 1)).all (fun (a, next) => a.1 < next.1) = true) (ho : Op.lookupswitch.offset ps.toList dflt x.toInt = off) (ht : (pc : Int) + off = (tgt : Int)) (k : q_J g M fr rm P tgt ls st hp c s w) : q_J g M fr rm P pc ls (.int x :: st) hp c s w :=
  fun p e R u m args below meth co H locs la E hL hH h1 h2 => lv_lookup E.2.1 E.2.2.1 hd hp' ho ht (k p e R u m args below meth co H locs la E hL hH h1 h2)
theorem q_tableOut {dflt lo hi : Int} {offs : Array Int} {len : Nat} {x : Int32} {tgt : Nat} (hd : decode M.2.1 pc = .ok (.tableswitch dflt lo hi offs, len)) (h : x.toInt < lo ∨ hi < x.toInt) (ht : (pc : Int) + dflt = (tgt : Int)) (k : q_J g M fr rm P tgt ls st hp c s w) : q_J g M fr rm P pc ls (.int x :: st) hp c s w :=
  fun p e R u m args below meth co H locs la E hL hH h1 h2 => lv_tableOut E.2.1 E.2.2.1 hd h ht (k p e R u m args below meth co H locs la E hL hH h1 h2)
theorem q_tableIn {dflt lo hi : Int} {offs : Array Int} {len : Nat} {x : Int32} {off : Int} {tgt : Nat} (hd : decode M.2.1 pc = .ok (.tableswitch dflt lo hi offs, len)) (h3 : ¬ x.toInt < lo) (h4 : ¬ hi < x.toInt) (ho : offs[(x.toInt - lo).toNat]? = some off) (ht : (pc : Int) + off = (tgt : Int)) (k : q_J g M fr rm P tgt ls st hp c s w) : q_J g M fr rm P pc ls (.int x :: st) hp c s w :=
  fun p e R u m args below meth co H locs la E hL hH h1 h2 => lv_tableIn E.2.1 E.2.2.1 hd h3 h4 ho ht (k p e R u m args below meth co H locs la E hL hH h1 h2)
theorem q_ldc {index : Nat} {v : Int32} (hd : decode M.2.1 pc = .ok (.ldc index, 2)) (hw : Jvm.Cond.constant M.1.cls index v ∈ q_gw) (k : q_J g M fr rm P (pc + 2) ls (.int v :: st) hp c s w) : q_J g M fr rm P pc ls st hp c s w :=
  fun p e R u m args below meth co H locs la E hL hH h1 h2 => lv_ldc E.2.1 E.2.2.1 E.2.2.2.2.1 (q_word E.1 E.2.2.2.2.2.1 hw rfl) hd (k p e R u m args below meth co H locs la E hL hH h1 h2)
theorem q_ldc2 {index : Nat} {v : Int64} (hd : decode M.2.1 pc = .ok (.ldc2_w index, 3)) (hw : Jvm.Cond.constantLong M.1.cls index v ∈ q_gw) (k : q_J g M fr rm P (pc + 3) ls (.long v :: st) hp c s w) : q_J g M fr rm P pc ls st hp c s w :=
  fun p e R u m args below meth co H locs la E hL hH h1 h2 => lv_ldc2 E.2.1 E.2.2.1 E.2.2.2.2.1 (q_word E.1 E.2.2.2.2.2.1 hw rfl) hd (k p e R u m args below meth co H locs la E hL hH h1 h2)
theorem q_iret {v : Int32} (hd : decode M.2.1 pc = .ok (.ireturn, 1)) (hr : M.2.2.2.1 = some .int) (hP : P (.returned (some (.int v))) hp) (hc : c ≤ rm.cells) (hs : s ≤ rm.slots) (hw : w = true → fr = true) : q_J g M fr rm P pc ls [.int v] hp c s w := by
  intro p e R u m args below meth co H locs la E hL hH h1 h2
  have hlk := E.2.2.2.2.2.2.2.1
  have hrt := E.2.2.2.2.2.2.1
  refine W.widen hc hs (q_mono q_ofMQ (W.iret (Qc := fun _ => q_Q g fr P) E.2.1 E.2.2.1 (hrt.trans hr) (fun t ht _ => ?_) (fun q hq => ⟨hw (h1 q hq).1, (h1 q hq).2⟩) hd hlk))
  refine ⟨.returned (some (.int v)), hp, rfl, by rw [ht]; exact hH, hP, fun hf _ => ?_⟩
  rw [ht]
  refine h2 ?_
  cases w with
  | true => rw [hw rfl] at hf; cases hf
  | false => rfl
theorem q_zret {v : Int32} (hd : decode M.2.1 pc = .ok (.ireturn, 1)) (hr : M.2.2.2.1 = some .boolean) (hn : narrow .boolean (.int v) = .int v) (hP : P (.returned (some (.int v))) hp) (hc : c ≤ rm.cells) (hs : s ≤ rm.slots) (hw : w = true → fr = true) : q_J g M fr rm P pc ls [.int v] hp c s w := by
  intro p e R u m args below meth co H locs la E hL hH h1 h2
  have hlk := E.2.2.2.2.2.2.2.1
  have hrt := E.2.2.2.2.2.2.1
  refine W.widen hc hs (q_mono q_ofMQ (W.zret (Qc := fun _ => q_Q g fr P) E.2.1 E.2.2.1 (hrt.trans hr) hn (fun t ht _ => ?_) (fun q hq => ⟨hw (h1 q hq).1, (h1 q hq).2⟩) hd hlk))
  refine ⟨.returned (some (.int v)), hp, rfl, by rw [ht]; exact hH, hP, fun hf _ => ?_⟩
  rw [ht]
  refine h2 ?_
  cases w with
  | true => rw [hw rfl] at hf; cases hf
  | false => rfl
theorem q_lret {v : Int64} (hd : decode M.2.1 pc = .ok (.lreturn, 1)) (hr : M.2.2.2.1 = some .long) (hP : P (.returned (some (.long v))) hp) (hc : c ≤ rm.cells) (hs : s ≤ rm.slots) (hw : w = true → fr = true) : q_J g M fr rm P pc ls [.long v] hp c s w := by
  intro p e R u m args below meth co H locs la E hL hH h1 h2
  have hlk := E.2.2.2.2.2.2.2.1
  have hrt := E.2.2.2.2.2.2.1
  refine W.widen hc hs (q_mono q_ofMQ (W.lret (Qc := fun _ => q_Q g fr P) E.2.1 E.2.2.1 (hrt.trans hr) (fun t ht _ => ?_) (fun q hq => ⟨hw (h1 q hq).1, (h1 q hq).2⟩) hd hlk))
  refine ⟨.returned (some (.long v)), hp, rfl, by rw [ht]; exact hH, hP, fun hf _ => ?_⟩
  rw [ht]
  refine h2 ?_
  cases w with
  | true => rw [hw rfl] at hf; cases hf
  | false => rfl
theorem q_vret (hd : decode M.2.1 pc = .ok (.return_, 1)) (hr : M.2.2.2.1 = none) (hP : P (.returned none) hp) (hc : c ≤ rm.cells) (hs : s ≤ rm.slots) (hw : w = true → fr = true) : q_J g M fr rm P pc ls [] hp c s w := by
  intro p e R u m args below meth co H locs la E hL hH h1 h2
  have hlk := E.2.2.2.2.2.2.2.1
  have hrt := E.2.2.2.2.2.2.1
  refine W.widen hc hs (q_mono q_ofMQ (W.vret (Qc := fun _ => q_Q g fr P) E.2.1 E.2.2.1 (hrt.trans hr) (fun t ht _ => ?_) (fun q hq => ⟨hw (h1 q hq).1, (h1 q hq).2⟩) hd hlk))
  refine ⟨.returned none, hp, rfl, by rw [ht]; exact hH, hP, fun hf _ => ?_⟩
  rw [ht]
  refine h2 ?_
  cases w with
  | true => rw [hw rfl] at hf; cases hf
  | false => rfl
theorem q_aret {v : Value} {n : String} (hd : decode M.2.1 pc = .ok (.areturn, 1)) (hr : M.2.2.2.1 = some (.object n)) (hv : q_isr v = true) (hP : P (.returned (some v)) hp) (hc : c ≤ rm.cells) (hs : s ≤ rm.slots) (hw : w = true → fr = true) : q_J g M fr rm P pc ls [v] hp c s w := by
  intro p e R u m args below meth co H locs la E hL hH h1 h2
  have hlk := E.2.2.2.2.2.2.2.1
  have hrt := E.2.2.2.2.2.2.1
  refine W.widen hc hs (q_mono q_ofMQ (W.aret (Qc := fun _ => q_Q g fr P) E.2.1 E.2.2.1 (hrt.trans hr) (Or.inl ⟨n, rfl⟩) ?_ (fun t ht _ => ?_) (fun q hq => ⟨hw (h1 q hq).1, (h1 q hq).2⟩) hd hlk))
  · cases v <;> first | (exact Or.inl rfl) | (exact Or.inr ⟨_, rfl⟩) | (exact absurd hv (by simp [q_isr]))
  · refine ⟨.returned (some v), hp, rfl, by rw [ht]; exact hH, hP, fun hf _ => ?_⟩
    rw [ht]
    refine h2 ?_
    cases w with
    | true => rw [hw rfl] at hf; cases hf
    | false => rfl
end ENG2
end
section
/-! The engine, 3: rows of the instructions that read, write and make cells -/
section ENG3
theorem q_fit_ok {g : q_G} {ty : FieldType} {v : Value} (h1 : narrow ty v = v) (h2 : fits ty v = true) : narrow ty (q_ev g v) = q_ev g v ∧ fits ty (q_ev g v) = true := by
  cases v with
  | ref a => cases ty <;> first | (exact ⟨rfl, rfl⟩) | (simp [fits] at h2)
  | retAddr a => cases ty <;> simp [fits] at h2
  | _ => exact ⟨h1, h2⟩
theorem q_lay_good {C : String} {T : u_T} {N : Nat} {w : Jvm.Cond} (h : w ∈ u_ws C T N) : goodWord w = true := by
  obtain ⟨k, -, rfl⟩ := List.mem_map.mp h
  unfold u_lay
  split <;> rfl
/-- a field's entry in a class's pool: the class's place, the field's place, final -/
def q_F (own : String) (idx ci k : Nat) (fl : Bool) : Prop := ∃ q : vw_C, q_cl[ci]? = some q ∧ k < q.2.2 ∧ (q.2.1 k).1 = q.1 ∧ (q.2.1 k).2.2.2 = fl ∧
  (Jvm.Cond.fieldLink own idx q.1 (q.2.1 k).2.1 (q.2.1 k).2.2.1 ∈ q_gw ∨ ∃ host, Jvm.Cond.fieldLinkNest own idx q.1 (q.2.1 k).2.1 (q.2.1 k).2.2.1 host ∈ q_gw)
theorem q_nestF {g : q_G} (hG : q_GG g) {u : State} (hu : (q_s g).WarmedH u.vm) {args : Array Value} {a : String} {i : Nat} {b n d h : String} (hw : Jvm.Cond.fieldLinkNest a i b n d h ∈ q_gw) : (Jvm.Cond.fieldLinkNest a i b n d h).before args u = true :=
  va_Nw.use rfl (va_Nw.warmF hu (va_Nw.of rfl (hG.1 _ hw)))
theorem q_nestM {g : q_G} (hG : q_GG g) {u : State} (hu : (q_s g).WarmedH u.vm) {args : Array Value} {a : String} {i : Nat} {x : MethodName} {h : String} (hw : Jvm.Cond.methodLinkNest a i x h ∈ q_gw) : (Jvm.Cond.methodLinkNest a i x h).before args u = true :=
  va_Nw.use rfl (va_Nw.warmM hu (va_Nw.of rfl (hG.1 _ hw)))
theorem q_lays {g : q_G} (hG : q_GG g) {u : State} (hu : (q_s g).WarmedH u.vm) {args : Array Value} {ci : Nat} {q : vw_C} (hc : q_cl[ci]? = some q) : ∀ w ∈ u_ws q.1 q.2.1 q.2.2, w.before args u = true := fun w hw => q_word hG hu (q_cl_in ci q hc w hw) (q_lay_good hw)
variable {g : q_G} {M : q_Me} {fr : Bool} {rm : Room} {P : Outcome → List va_E → Prop} {pc : Nat} {ls : List (Option Value)} {st : List Value} {hp : List va_E} {c s : Nat} {w : Bool}
theorem q_locs {g : q_G} {locs : List Loc} {w : Bool} {a i : Nat} (h1 : ∀ q ∈ locs, w = true ∧ q_b g ≤ q.base) : ∀ q ∈ locs ++ [⟨q_b g + a, i⟩], true = true ∧ q_b g ≤ q.base := by
  intro q hq
  rcases List.mem_append.mp hq with h | h
  · exact ⟨rfl, (h1 q h).2⟩
  · rw [List.mem_singleton.mp h]
    exact ⟨rfl, Nat.le_add_right _ _⟩
theorem q_get {idx ci k a : Nat} {fl : Bool} {fs : List Value} {v : Value} (hd : decode M.2.1 pc = .ok (.getfield idx, 3)) (hf : q_F M.1.cls idx ci k fl) (he : hp[a]? = some (.inr (ci, fs))) (hv : fs[k]? = some v) (kk : q_J g M fr rm P (pc + 3) ls (v :: st) hp c s w) : q_J g M fr rm P pc ls (.ref a :: st) hp c s w := by
  intro p e R u m args below meth co H locs la E hL hH h1 h2
  obtain ⟨q, hc, hk, hdl, -, hlk⟩ := hf
  have hu := E.2.2.2.2.2.1
  have hv' : (fs.map (q_ev g))[k]? = some (q_ev g v) := by rw [List.getElem?_map, hv]; rfl
  rcases hlk with hlk | ⟨host, hlk⟩
  · exact va_get (D := q_D g) (ci := ci) (v := q_ev g v) (C := q.1) (T := q.2.1) (N := q.2.2) (tys := []) E.2.1 E.2.2.1 (q_lays E.1 hu hc) (fun _ h => h) E.2.2.2.2.1 (q_K0 E.1 hu) (q_P1 hH he) 0 rfl hc k hk (q_word E.1 hu hlk rfl) (fun x hx => by rw [← hdl]; exact hx) hv' hd (kk p e R u m args below meth co H locs la E hL hH h1 h2)
  · exact va_getN (D := q_D g) (ci := ci) (v := q_ev g v) (C := q.1) (T := q.2.1) (N := q.2.2) (tys := []) E.2.1 E.2.2.1 (q_lays E.1 hu hc) (fun _ h => h) E.2.2.2.2.1 (q_K0 E.1 hu) (q_P1 hH he) 0 rfl hc k hk (q_nestF E.1 hu hlk) (fun x hx => by rw [← hdl]; exact hx) hv' hd (kk p e R u m args below meth co H locs la E hL hH h1 h2)
theorem q_put {idx ci k a : Nat} {fs : List Value} {v : Value} (hd : decode M.2.1 pc = .ok (.putfield idx, 3)) (hf : q_F M.1.cls idx ci k false) (he : hp[a]? = some (.inr (ci, fs))) (hl : k < fs.length) (hn : narrow (q_tf ci k) v = v) (ht : fits (q_tf ci k) v = true) (kk : q_J g M fr rm P (pc + 3) ls st (hp.set a (.inr (ci, fs.set k v))) c s true) : q_J g M fr rm P pc ls (v :: .ref a :: st) hp c s w := by
  intro p e R u m args below meth co H locs la E hL hH h1 h2
  obtain ⟨q, hc, hk, hdl, hfl, hlk⟩ := hf
  have hu := E.2.2.2.2.2.1
  have hlys := q_lays E.1 hu (args := args) hc
  have hKn := q_K0 E.1 hu
  have hap := va_apart (own := M.1.cls) hlys (fun _ h => h) (q_tf ci) (q_cl_ty ci q hc) (q_cl_nm ci q hc) hKn hc
  obtain ⟨r, h3, cell, q1, q2, q3, q4⟩ := hH.2.2 a _ he
  obtain ⟨hS, hfc, kC, hkC, hkind⟩ := hKn.1 ci _ hc
  have hr : r = q := Option.some.inj (h3.symm.trans hc)
  rw [hr] at q4
  obtain ⟨cf, kf, fi, f, hi, hsl⟩ := hS k hk
  have hlay := hlys _ (u_in_lay hk)
  unfold u_lay at hlay
  have hst := (u_facts hfc hkC (u_lays hlys (fun _ h => h) hk) hi).1
  obtain ⟨hn1, hn2⟩ := q_fit_ok (g := g) hn ht
  have key : ∀ H' : Heap, H'[q_b g + a]? = some (cell.setSlot f.slot (q_ev g v)) → H'.size = H.size → (∀ q, q ≠ q_b g + a → H'[q]? = H[q]?) → W p (q_l g) e R u m args below meth co H' (locs ++ [⟨q_b g + a, f.slot⟩]) c s (q_M below (q_Q g fr P) u rm.cells rm.slots (fun q => fr = true ∧ q_b g ≤ q)) (F0 m (pc + 3) la (st.map (q_ev g))) := by
    intro H' e1 e2 e3
    refine kk p e R u m args below meth co H' _ la E hL (hH.set he e2 e3 ?_) (q_locs h1) (fun h => by cases h)
    rw [hsl] at e1
    refine ⟨q, hc, t_OB.to (V := updV (vp_V (fs.map (q_ev g))) k (q_ev g v)) ⟨_, e1, q2, q3, t_set q4 hap hk _⟩ (fun j _ => ?_)⟩
    rw [vp_updV_set (by rw [List.length_map]; exact hl), List.map_set]
  have hlt : f.slot < cell.slots.size := by rw [hsl]; exact k2_hasslot (q4 k hk)
  have hi' : u.fieldFound? q.1 (q.2.1 k).2.1 (q.2.1 k).2.2.1 = some (cf, kf, fi, f) := by rw [← hdl]; exact hi
  rw [if_neg (by rw [hfl]; decide)] at hlay
  have h6 := u_store hfc hkC hkind hlay hi (q_cl_ty ci _ hc k hk) hn1 hn2
  rcases hlk with hlk | ⟨host, hlk⟩
  · exact W.putK E.2.1 E.2.2.1 (f := f) ⟨E.2.2.2.2.1, q_word E.1 hu hlk rfl, ⟨_, _, _, hi'⟩, hst⟩ (by rw [q2]; exact h6) q1 q3 hlt rfl rfl hd key
  · exact va_WputK E.2.1 E.2.2.1 (f := f) E.2.2.2.2.1 (q_nestF E.1 hu hlk) hi' hst (by rw [q2]; exact h6) q1 q3 hlt rfl rfl hd key
theorem q_putF {idx ci k a : Nat} {fs : List Value} {v : Value} (hd : decode M.2.1 pc = .ok (.putfield idx, 3)) (hf : q_F M.1.cls idx ci k true) (hin : M.1.name = "<init>") (hown : ∀ q : vw_C, q_cl[ci]? = some q → q.1 = M.1.cls) (he : hp[a]? = some (.inr (ci, fs))) (hl : k < fs.length) (hn : narrow (q_tf ci k) v = v) (ht : fits (q_tf ci k) v = true) (kk : q_J g M fr rm P (pc + 3) ls st (hp.set a (.inr (ci, fs.set k v))) c s true) : q_J g M fr rm P pc ls (v :: .ref a :: st) hp c s w := by
  intro p e R u m args below meth co H locs la E hL hH h1 h2
  obtain ⟨q, hc, hk, hdl, hfl, hlk⟩ := hf
  have hu := E.2.2.2.2.2.1
  have hlys := q_lays E.1 hu (args := args) hc
  have hKn := q_K0 E.1 hu
  have hap := va_apart (own := M.1.cls) hlys (fun _ h => h) (q_tf ci) (q_cl_ty ci q hc) (q_cl_nm ci q hc) hKn hc
  obtain ⟨r, h3, cell, q1, q2, q3, q4⟩ := hH.2.2 a _ he
  obtain ⟨hS, hfc, kC, hkC, hkind⟩ := hKn.1 ci _ hc
  have hr : r = q := Option.some.inj (h3.symm.trans hc)
  rw [hr] at q4
  obtain ⟨cf, kf, fi, f, hi, hsl⟩ := hS k hk
  have hlay := hlys _ (u_in_lay hk)
  unfold u_lay at hlay
  have hst := (u_facts hfc hkC (u_lays hlys (fun _ h => h) hk) hi).1
  obtain ⟨hn1, hn2⟩ := q_fit_ok (g := g) hn ht
  have key : ∀ H' : Heap, H'[q_b g + a]? = some (cell.setSlot f.slot (q_ev g v)) → H'.size = H.size → (∀ q, q ≠ q_b g + a → H'[q]? = H[q]?) → W p (q_l g) e R u m args below meth co H' (locs ++ [⟨q_b g + a, f.slot⟩]) c s (q_M below (q_Q g fr P) u rm.cells rm.slots (fun q => fr = true ∧ q_b g ≤ q)) (F0 m (pc + 3) la (st.map (q_ev g))) := by
    intro H' e1 e2 e3
    refine kk p e R u m args below meth co H' _ la E hL (hH.set he e2 e3 ?_) (q_locs h1) (fun h => by cases h)
    rw [hsl] at e1
    refine ⟨q, hc, t_OB.to (V := updV (vp_V (fs.map (q_ev g))) k (q_ev g v)) ⟨_, e1, q2, q3, t_set q4 hap hk _⟩ (fun j _ => ?_)⟩
    rw [vp_updV_set (by rw [List.length_map]; exact hl), List.map_set]
  have hlt : f.slot < cell.slots.size := by rw [hsl]; exact k2_hasslot (q4 k hk)
  have hi' : u.fieldFound? q.1 (q.2.1 k).2.1 (q.2.1 k).2.2.1 = some (cf, kf, fi, f) := by rw [← hdl]; exact hi
  rw [if_pos hfl] at hlay
  have hcf : m.cls = cf := by
    obtain ⟨_, _, c', _, _, _, -, -, hf', -, -, -, hown2, -⟩ := Cond.laysFinal_spec hlay
    have e1 : c' = cf := by have := hi.symm.trans hf'; simp at this; exact this.1.symm
    rw [hdl, hown q hc] at hown2
    rw [← e1]
    exact Option.some.inj (E.2.2.2.2.1.symm.trans hown2)
  have h6 := u_fits hfc hkC hkind (Or.inr hlay) hi (q_cl_ty ci _ hc k hk) hn1 hn2
  rcases hlk with hlk | ⟨host, hlk⟩
  · exact W.putFinK E.2.1 E.2.2.1 E.2.2.2.2.1 (q_word E.1 hu hlk rfl) hi' hst hcf (E.2.2.2.2.2.2.2.2.1.trans hin) (by rw [q2]; exact h6) q1 q3 hlt rfl rfl hd key
  · refine va_Wputf E.2.1 E.2.2.1 E.2.2.2.2.1 (q_nestF E.1 hu hlk) hi' hst (Or.inr ⟨hcf, E.2.2.2.2.2.2.2.2.1.trans hin⟩) q1 (by rw [q3]; exact fun h => by cases h) hlt h6.1 (by rw [q2, q3]; exact h6.2) rfl rfl hd ?_
    have ha : q_b g + a < H.size := (Array.getElem?_eq_some_iff.mp q1).1
    refine key _ ?_ ?_ ?_
    · simp [Array.getElem?_setIfInBounds, ha]
    · simp
    · intro q hq
      simp [Array.getElem?_setIfInBounds, Ne.symm hq]
theorem q_iald {a t n : Nat} {f : Nat → Int32} {i : Int32} (hd : decode M.2.1 pc = .ok (.iaload, 1)) (he : hp[a]? = some (.inl (t, n, .inl f))) (ht : q_ty[t]? = some .int) (hin : vp_in i n) (kk : q_J g M fr rm P (pc + 1) ls (.int (f i.toNatClampNeg) :: st) hp c s w) : q_J g M fr rm P pc ls (.int i :: .ref a :: st) hp c s w :=
  fun p e R u m args below meth co H locs la E hL hH h1 h2 => va_iald (D := q_D g) (cl := q_cl) E.2.1 E.2.2.1 (q_K1 E.1 E.2.2.2.2.2.1 ht) (q_P1 hH he) 0 0 rfl rfl hin hd (kk p e R u m args below meth co H locs la E hL hH h1 h2)
theorem q_bald {a t n : Nat} {f : Nat → Int32} {i : Int32} (hd : decode M.2.1 pc = .ok (.baload, 1)) (he : hp[a]? = some (.inl (t, n, .inl f))) (ht : q_ty[t]? = some .byte) (hin : vp_in i n) (kk : q_J g M fr rm P (pc + 1) ls (.int (f i.toNatClampNeg) :: st) hp c s w) : q_J g M fr rm P pc ls (.int i :: .ref a :: st) hp c s w :=
  fun p e R u m args below meth co H locs la E hL hH h1 h2 => va_bald (D := q_D g) (cl := q_cl) E.2.1 E.2.2.1 (q_K1 E.1 E.2.2.2.2.2.1 ht) (q_P1 hH he) 0 0 rfl rfl hin hd (kk p e R u m args below meth co H locs la E hL hH h1 h2)
theorem q_zald {a t n : Nat} {f : Nat → Int32} {i : Int32} (hd : decode M.2.1 pc = .ok (.baload, 1)) (he : hp[a]? = some (.inl (t, n, .inl f))) (ht : q_ty[t]? = some .boolean) (hin : vp_in i n) (kk : q_J g M fr rm P (pc + 1) ls (.int (f i.toNatClampNeg) :: st) hp c s w) : q_J g M fr rm P pc ls (.int i :: .ref a :: st) hp c s w :=
  fun p e R u m args below meth co H locs la E hL hH h1 h2 => va_zald (D := q_D g) (cl := q_cl) E.2.1 E.2.2.1 (q_K1 E.1 E.2.2.2.2.2.1 ht) (q_P1 hH he) 0 0 rfl rfl hin hd (kk p e R u m args below meth co H locs la E hL hH h1 h2)
theorem q_lald {a t n : Nat} {f : Nat → Int64} {i : Int32} (hd : decode M.2.1 pc = .ok (.laload, 1)) (he : hp[a]? = some (.inl (t, n, .inr (.inl f)))) (ht : q_ty[t]? = some .long) (hin : vp_in i n) (kk : q_J g M fr rm P (pc + 1) ls (.long (f i.toNatClampNeg) :: st) hp c s w) : q_J g M fr rm P pc ls (.int i :: .ref a :: st) hp c s w :=
  fun p e R u m args below meth co H locs la E hL hH h1 h2 => va_lald (D := q_D g) (cl := q_cl) E.2.1 E.2.2.1 (q_K1 E.1 E.2.2.2.2.2.1 ht) (q_P1 hH he) 0 0 rfl rfl hin hd (kk p e R u m args below meth co H locs la E hL hH h1 h2)
theorem q_ev_rf (g : q_G) (r : Option Nat) : va_rf (r.map (fun a => q_b g + a)) = q_ev g (va_rf r) := by cases r <;> rfl
theorem q_aald {a t n : Nat} {f : Nat → Option Nat} {i : Int32} {C : String} {v : Value} (hd : decode M.2.1 pc = .ok (.aaload, 1)) (he : hp[a]? = some (.inl (t, n, .inr (.inr (.inr (.inr f)))))) (ht : q_ty[t]? = some (.object C)) (hin : vp_in i n) (hv : va_rf (f i.toNatClampNeg) = v) (kk : q_J g M fr rm P (pc + 1) ls (v :: st) hp c s w) : q_J g M fr rm P pc ls (.int i :: .ref a :: st) hp c s w := by
  intro p e R u m args below meth co H locs la E hL hH h1 h2
  subst hv
  have h3 := kk p e R u m args below meth co H locs la E hL hH h1 h2
  rw [List.map_cons, ← q_ev_rf] at h3
  exact va_aldq (D := q_D g) (cl := q_cl) E.2.1 E.2.2.1 (q_K1 E.1 E.2.2.2.2.2.1 ht) (q_P1 hH he) 0 0 rfl rfl hin hd h3
theorem q_alen {a t : Nat} {x : vp_A} {ty : FieldType} {v : Int32} (hd : decode M.2.1 pc = .ok (.arraylength, 1)) (he : hp[a]? = some (.inl (t, x))) (ht : q_ty[t]? = some ty) (hv : Int32.ofNat x.1 = v) (kk : q_J g M fr rm P (pc + 1) ls (.int v :: st) hp c s w) : q_J g M fr rm P pc ls (.ref a :: st) hp c s w := by
  intro p e R u m args below meth co H locs la E hL hH h1 h2
  have hK := q_K1 E.1 E.2.2.2.2.2.1 ht
  have hP := q_P1 hH he
  have h3 := kk p e R u m args below meth co H locs la E hL hH h1 h2
  obtain ⟨n, f | f | f | f | f⟩ := x
  · exact va_alen (D := q_D g) (cl := q_cl) E.2.1 E.2.2.1 hK hP 0 0 rfl rfl hv hd h3
  · exact va_alen (D := q_D g) (cl := q_cl) E.2.1 E.2.2.1 hK hP 0 0 rfl rfl hv hd h3
  · exact va_alen (D := q_D g) (cl := q_cl) E.2.1 E.2.2.1 hK hP 0 0 rfl rfl hv hd h3
  · exact va_alen (D := q_D g) (cl := q_cl) E.2.1 E.2.2.1 hK hP 0 0 rfl rfl hv hd h3
  · exact va_alen (D := q_D g) (cl := q_cl) E.2.1 E.2.2.1 hK hP 0 0 rfl rfl hv hd h3
theorem q_sald {i : Int32} {z : Nat} (hd : decode M.2.1 pc = .ok (.iaload, 1)) (hin : vp_in i (q_x g).2.1) (kk : q_J g M fr rm P (pc + 1) ls (.int ((q_x g).2.2 i.toNatClampNeg) :: st) hp c s w) : q_J g M fr rm P pc ls (.int i :: .retAddr z :: st) hp c s w := by
  intro p e R u m args below meth co H locs la E hL hH h1 h2
  obtain ⟨scr, a1, a2, a3, a4, a5⟩ := E.1.2.2.2.1
  have hb : (q_x g).1 < q_b g := (Array.getElem?_eq_some_iff.mp a1).1
  have hlt : i.toNatClampNeg < (q_x g).2.1 := Nat.not_le.mp fun q => hin (Or.inr q)
  exact W.iald (v := .int ((q_x g).2.2 i.toNatClampNeg)) E.2.1 E.2.2.1 (by rw [hH.2.1 _ hb]; exact a1) (State.isArrayOf_alike E.2.2.2.2.2.1.alike a2) a3 (by rw [a4]; exact hin) (a5 _ hlt) rfl rfl hd (kk p e R u m args below meth co H locs la E hL hH h1 h2)
theorem q_slen {z : Nat} (hd : decode M.2.1 pc = .ok (.arraylength, 1)) (kk : q_J g M fr rm P (pc + 1) ls (.int (Int32.ofNat (q_x g).2.1) :: st) hp c s w) : q_J g M fr rm P pc ls (.retAddr z :: st) hp c s w := by
  intro p e R u m args below meth co H locs la E hL hH h1 h2
  obtain ⟨scr, a1, a2, a3, a4, a5⟩ := E.1.2.2.2.1
  have hb : (q_x g).1 < q_b g := (Array.getElem?_eq_some_iff.mp a1).1
  exact W.alen (n := Int32.ofNat (q_x g).2.1) E.2.1 E.2.2.1 (by rw [hH.2.1 _ hb]; exact a1) (State.isArrayOf_alike E.2.2.2.2.2.1.alike a2) (by rw [a4] <;> rfl) rfl rfl hd (kk p e R u m args below meth co H locs la E hL hH h1 h2)
theorem q_iast {a t n : Nat} {f : Nat → Int32} {i : Int32} {x : Int32} (hd : decode M.2.1 pc = .ok (.iastore, 1)) (he : hp[a]? = some (.inl (t, n, .inl f))) (ht : q_ty[t]? = some .int) (hin : vp_in i n) (kk : q_J g M fr rm P (pc + 1) ls st (hp.set a (.inl (t, n, .inl (upd f i.toNatClampNeg x)))) c s true) : q_J g M fr rm P pc ls (.int x :: .int i :: .ref a :: st) hp c s w := by
  intro p e R u m args below meth co H locs la E hL hH h1 h2
  refine W.iast E.2.1 E.2.2.1 (hH.2.2 a _ he) (((q_K1 E.1 E.2.2.2.2.2.1 ht).2 0 _ rfl).1 n (fun j => .int (f j))) (fun q => by cases q) (by show ¬ (i < 0 ∨ (arrV _ _ _).slots.size ≤ _); rw [arrV_size]; exact hin) rfl rfl hd fun H1 e1 z oq => ?_
  refine kk p e R u m args below meth co H1 _ la E hL (hH.set he z oq ?_) (q_locs h1) (fun h => by cases h)
  show H1[_]? = some (vp_cell _ _)
  rw [e1]
  rw [vp_cell_i]
  show some ((arrV _ _ _).setSlot _ _) = _
  rw [arrV_store]
  show some (arrV (q_t g t) n _) = some (arrV (q_t g t) n (fun j => .int (upd f i.toNatClampNeg x j)))
  refine congrArg (fun z => some (arrV (q_t g t) n z)) (funext fun q => ?_)
  by_cases hq : q = i.toNatClampNeg
  · subst hq
    simp [updV, upd]
  · simp [updV, upd, hq]
theorem q_bast {a t n : Nat} {f : Nat → Int32} {i : Int32} {x : Int32} (hd : decode M.2.1 pc = .ok (.bastore, 1)) (he : hp[a]? = some (.inl (t, n, .inl f))) (ht : q_ty[t]? = some .byte) (hin : vp_in i n) (kk : q_J g M fr rm P (pc + 1) ls st (hp.set a (.inl (t, n, .inl (upd f i.toNatClampNeg (vp_nar .byte x))))) c s true) : q_J g M fr rm P pc ls (.int x :: .int i :: .ref a :: st) hp c s w := by
  intro p e R u m args below meth co H locs la E hL hH h1 h2
  refine W.bast E.2.1 E.2.2.1 (hH.2.2 a _ he) (((q_K1 E.1 E.2.2.2.2.2.1 ht).2 0 _ rfl).1 n (fun j => .int (f j))) (fun q => by cases q) (by show ¬ (i < 0 ∨ (arrV _ _ _).slots.size ≤ _); rw [arrV_size]; exact hin) rfl rfl hd fun H1 e1 z oq => ?_
  refine kk p e R u m args below meth co H1 _ la E hL (hH.set he z oq ?_) (q_locs h1) (fun h => by cases h)
  show H1[_]? = some (vp_cell _ _)
  rw [e1]
  rw [vp_cell_i]
  show some ((arrV _ _ _).setSlot _ _) = _
  rw [arrV_store]
  show some (arrV (q_t g t) n _) = some (arrV (q_t g t) n (fun j => .int (upd f i.toNatClampNeg (vp_nar .byte x) j)))
  refine congrArg (fun z => some (arrV (q_t g t) n z)) (funext fun q => ?_)
  by_cases hq : q = i.toNatClampNeg
  · subst hq
    simp [updV, upd, vp_nar, narrow]
  · simp [updV, upd, hq]
theorem q_zast {a t n : Nat} {f : Nat → Int32} {i : Int32} {x : Int32} (hd : decode M.2.1 pc = .ok (.bastore, 1)) (he : hp[a]? = some (.inl (t, n, .inl f))) (ht : q_ty[t]? = some .boolean) (hin : vp_in i n) (kk : q_J g M fr rm P (pc + 1) ls st (hp.set a (.inl (t, n, .inl (upd f i.toNatClampNeg (vp_nar .boolean x))))) c s true) : q_J g M fr rm P pc ls (.int x :: .int i :: .ref a :: st) hp c s w := by
  intro p e R u m args below meth co H locs la E hL hH h1 h2
  refine W.zast E.2.1 E.2.2.1 (hH.2.2 a _ he) (((q_K1 E.1 E.2.2.2.2.2.1 ht).2 0 _ rfl).1 n (fun j => .int (f j))) (fun q => by cases q) (by show ¬ (i < 0 ∨ (arrV _ _ _).slots.size ≤ _); rw [arrV_size]; exact hin) rfl rfl hd fun H1 e1 z oq => ?_
  refine kk p e R u m args below meth co H1 _ la E hL (hH.set he z oq ?_) (q_locs h1) (fun h => by cases h)
  show H1[_]? = some (vp_cell _ _)
  rw [e1]
  rw [vp_cell_i]
  show some ((arrV _ _ _).setSlot _ _) = _
  rw [arrV_store]
  show some (arrV (q_t g t) n _) = some (arrV (q_t g t) n (fun j => .int (upd f i.toNatClampNeg (vp_nar .boolean x) j)))
  refine congrArg (fun z => some (arrV (q_t g t) n z)) (funext fun q => ?_)
  by_cases hq : q = i.toNatClampNeg
  · subst hq
    simp [updV, upd, vp_nar, narrow]
  · simp [updV, upd, hq]
theorem q_last {a t n : Nat} {f : Nat → Int64} {i : Int32} {x : Int64} (hd : decode M.2.1 pc = .ok (.lastore, 1)) (he : hp[a]? = some (.inl (t, n, .inr (.inl f)))) (ht : q_ty[t]? = some .long) (hin : vp_in i n) (kk : q_J g M fr rm P (pc + 1) ls st (hp.set a (.inl (t, n, .inr (.inl (vp_updL f i.toNatClampNeg x))))) c s true) : q_J g M fr rm P pc ls (.long x :: .int i :: .ref a :: st) hp c s w := by
  intro p e R u m args below meth co H locs la E hL hH h1 h2
  refine W.last E.2.1 E.2.2.1 (hH.2.2 a _ he) (((q_K1 E.1 E.2.2.2.2.2.1 ht).2 0 _ rfl).1 n (fun j => .long (f j))) (fun q => by cases q) (by show ¬ (i < 0 ∨ (arrV _ _ _).slots.size ≤ _); rw [arrV_size]; exact hin) rfl rfl hd fun H1 e1 z oq => ?_
  refine kk p e R u m args below meth co H1 _ la E hL (hH.set he z oq ?_) (q_locs h1) (fun h => by cases h)
  show H1[_]? = some (vp_cell _ _)
  rw [e1]
  rw [vp_cell_l]
  show some ((arrV _ _ _).setSlot _ _) = _
  rw [arrV_store]
  show some (arrV (q_t g t) n _) = some (arrV (q_t g t) n (fun j => .long (vp_updL f i.toNatClampNeg x j)))
  refine congrArg (fun z => some (arrV (q_t g t) n z)) (funext fun q => ?_)
  by_cases hq : q = i.toNatClampNeg
  · subst hq
    simp [updV, vp_updL]
  · simp [updV, vp_updL, hq]
theorem q_aast {a b t n ci : Nat} {r : vw_C} {vs : List Value} {f : Nat → Option Nat} {i : Int32} (hd : decode M.2.1 pc = .ok (.aastore, 1)) (he : hp[a]? = some (.inl (t, n, .inr (.inr (.inr (.inr f)))))) (ht : q_ty[t]? = some (.object r.1)) (hb : hp[b]? = some (.inr (ci, vs))) (hc : q_cl[ci]? = some r) (hin : vp_in i n) (kk : q_J g M fr rm P (pc + 1) ls st (hp.set a (.inl (t, n, .inr (.inr (.inr (.inr (va_up f i.toNatClampNeg (some b)))))))) c s true) : q_J g M fr rm P pc ls (.ref b :: .int i :: .ref a :: st) hp c s w := by
  intro p e R u m args below meth co H locs la E hL hH h1 h2
  have hlt : i.toNatClampNeg < n := Nat.not_le.mp fun q => hin (Or.inr q)
  have h0 : ¬ i < 0 := fun q => hin (Or.inl q)
  obtain ⟨r', hr', cellV, g1, g2, g3, -⟩ := hH.2.2 b _ hb
  have hK := q_K1 E.1 E.2.2.2.2.2.1 ht
  have hcls := (hK.1 ci r hc).2
  obtain ⟨kA, comp, k1, k2, k3, -⟩ := (hK.2 0 _ rfl).2
  have hcomp : comp = (q_D g).1 ci := Option.some.inj (k3.symm.trans hcls.1)
  subst hcomp
  obtain ⟨kC, hkC, -⟩ := hcls.2
  refine W.aast E.2.1 E.2.2.1 (hH.2.2 a _ he) (fun q h => by cases h) (fun h => by cases h) k1 k2 rfl hkC ⟨h0, by show _ < (arrV _ _ _).slots.size; rw [arrV_size]; exact hlt⟩ g1 (fun q h => by rw [g3] at h; cases h) (by rw [g2]; exact hkC) (by rw [g2]; exact va_assign hcls) rfl rfl hd fun H1 e1 z oq => ?_
  refine kk p e R u m args below meth co H1 _ la E hL (hH.set he z oq ?_) (q_locs h1) (fun h => by cases h)
  show H1[_]? = some (vp_cell _ _)
  rw [e1]
  rw [vp_cell_q]
  show some ((arrV _ _ _).setSlot _ _) = _
  rw [arrV_store]
  show some (arrV (q_t g t) n _) = some (arrV (q_t g t) n (fun j => va_rf ((va_up f i.toNatClampNeg (some b) j).map (fun a => q_b g + a))))
  refine congrArg (fun z => some (arrV (q_t g t) n z)) (funext fun q => ?_)
  by_cases hq : q = i.toNatClampNeg
  · subst hq
    simp [updV, va_up, va_rf]
  · simp [updV, va_up, hq]
/-- a class that 'new' names -/
def q_N (own : String) (idx ci N : Nat) : Prop := ∃ q : vw_C, q_cl[ci]? = some q ∧ q.2.2 = N ∧ Jvm.Cond.classLink own idx q.1 ∈ q_gw ∧ Jvm.Cond.instantiable q.1 q.2.2 ∈ q_gw ∧ Jvm.Cond.initialized q.1 ∈ q_gw
def q_df (ci N : Nat) : List Value := (List.range N).map (fun k => defaultValue (q_tf ci k))
theorem q_ev_df (g : q_G) (ty : FieldType) : q_ev g (defaultValue ty) = defaultValue ty := by cases ty <;> rfl
theorem q_new {idx ci N : Nat} {fs : List Value} (hd : decode M.2.1 pc = .ok (.new idx, 3)) (hN : q_N M.1.cls idx ci N) (hfs : q_df ci N = fs) (hc : c + 1 ≤ rm.cells) (hs : s + N ≤ rm.slots) (kk : q_J g M fr rm P (pc + 3) ls (.ref hp.length :: st) (hp ++ [.inr (ci, fs)]) (c + 1) (s + N) true) : q_J g M fr rm P pc ls st hp c s w := by
  intro p e R u m args below meth co H locs la E hL hH h1 h2
  obtain ⟨q, hq, rfl, k1, k2, k3⟩ := hN
  have hu := E.2.2.2.2.2.1
  have hKn := (q_K0 E.1 hu).1 ci _ hq
  refine W.newcK E.2.1 E.2.2.1 E.2.2.2.2.1 (q_word E.1 hu k1 rfl) (q_word E.1 hu k2 rfl) (q_word E.1 hu k3 rfl) rfl hd (Nat.le_trans hc E.2.2.2.2.2.2.2.2.2.2.2.1) (Nat.le_trans hs E.2.2.2.2.2.2.2.2.2.2.2.2.1) hKn.2.1 hH.1 fun H1 kC hkC e1 z1 o1 => ?_
  refine kk p e R u m args below meth co H1 locs la E hL (hH.push (by rw [z1, hH.1]) (fun x hx => o1 x (by rw [← hH.1]; exact hx)) ?_) (fun x hx => ⟨rfl, (h1 x hx).2⟩) (fun h => by cases h)
  rw [hH.1]
  refine ⟨q, hq, (u_born (q_tf ci) (q_lays E.1 hu (args := args) hq) (fun _ h => h) hKn hkC e1 (q_cl_ty ci q hq)).to fun k hk => ?_⟩
  subst hfs
  simp [vp_V, q_df, hk, q_ev_df]
theorem q_newa_i {t N : Nat} {n : Int32} (hd : decode M.2.1 pc = .ok (.newarray .int, 2)) (ht : q_ty[t]? = some .int) (hw : Jvm.Cond.arrayClass .int ∈ q_gw) (hn : ¬ n < 0) (hN : n.toNatClampNeg = N) (hb : N * 4 ≤ 536870912) (hc : c + 1 ≤ rm.cells) (hs : s + N ≤ rm.slots) (kk : q_J g M fr rm P (pc + 2) ls (.ref hp.length :: st) (hp ++ [.inl (t, N, .inl (fun _ => 0))]) (c + 1) (s + N) true) : q_J g M fr rm P pc ls (.int n :: st) hp c s w := by
  intro p e R u m args below meth co H locs la E hL hH h1 h2
  have hu := E.2.2.2.2.2.1
  refine va_newaK (atype := .int) E.2.1 E.2.2.1 (q_word E.1 hu hw rfl) rfl hd rfl hn hN hb (Nat.le_trans hc E.2.2.2.2.2.2.2.2.2.2.2.1) (Nat.le_trans hs E.2.2.2.2.2.2.2.2.2.2.2.2.1) hH.1 fun H1 cA e1 z1 o1 _ hNm => ?_
  have hcA : cA = q_t g t := Option.some.inj (hNm.symm.trans ((q_K1 E.1 hu ht).2 0 _ rfl).2)
  subst hcA
  refine kk p e R u m args below meth co H1 locs la E hL (hH.push (by rw [z1, hH.1]) (fun x hx => o1 x (by rw [← hH.1]; exact hx)) ?_) (fun x hx => ⟨rfl, (h1 x hx).2⟩) (fun h => by cases h)
  rw [hH.1]
  exact e1
theorem q_newa_b {t N : Nat} {n : Int32} (hd : decode M.2.1 pc = .ok (.newarray .byte, 2)) (ht : q_ty[t]? = some .byte) (hw : Jvm.Cond.arrayClass .byte ∈ q_gw) (hn : ¬ n < 0) (hN : n.toNatClampNeg = N) (hb : N * 1 ≤ 536870912) (hc : c + 1 ≤ rm.cells) (hs : s + N ≤ rm.slots) (kk : q_J g M fr rm P (pc + 2) ls (.ref hp.length :: st) (hp ++ [.inl (t, N, .inl (fun _ => 0))]) (c + 1) (s + N) true) : q_J g M fr rm P pc ls (.int n :: st) hp c s w := by
  intro p e R u m args below meth co H locs la E hL hH h1 h2
  have hu := E.2.2.2.2.2.1
  refine va_newaK (atype := .byte) E.2.1 E.2.2.1 (q_word E.1 hu hw rfl) rfl hd rfl hn hN hb (Nat.le_trans hc E.2.2.2.2.2.2.2.2.2.2.2.1) (Nat.le_trans hs E.2.2.2.2.2.2.2.2.2.2.2.2.1) hH.1 fun H1 cA e1 z1 o1 _ hNm => ?_
  have hcA : cA = q_t g t := Option.some.inj (hNm.symm.trans ((q_K1 E.1 hu ht).2 0 _ rfl).2)
  subst hcA
  refine kk p e R u m args below meth co H1 locs la E hL (hH.push (by rw [z1, hH.1]) (fun x hx => o1 x (by rw [← hH.1]; exact hx)) ?_) (fun x hx => ⟨rfl, (h1 x hx).2⟩) (fun h => by cases h)
  rw [hH.1]
  exact e1
theorem q_newa_z {t N : Nat} {n : Int32} (hd : decode M.2.1 pc = .ok (.newarray .boolean, 2)) (ht : q_ty[t]? = some .boolean) (hw : Jvm.Cond.arrayClass .boolean ∈ q_gw) (hn : ¬ n < 0) (hN : n.toNatClampNeg = N) (hb : N * 1 ≤ 536870912) (hc : c + 1 ≤ rm.cells) (hs : s + N ≤ rm.slots) (kk : q_J g M fr rm P (pc + 2) ls (.ref hp.length :: st) (hp ++ [.inl (t, N, .inl (fun _ => 0))]) (c + 1) (s + N) true) : q_J g M fr rm P pc ls (.int n :: st) hp c s w := by
  intro p e R u m args below meth co H locs la E hL hH h1 h2
  have hu := E.2.2.2.2.2.1
  refine va_newaK (atype := .boolean) E.2.1 E.2.2.1 (q_word E.1 hu hw rfl) rfl hd rfl hn hN hb (Nat.le_trans hc E.2.2.2.2.2.2.2.2.2.2.2.1) (Nat.le_trans hs E.2.2.2.2.2.2.2.2.2.2.2.2.1) hH.1 fun H1 cA e1 z1 o1 _ hNm => ?_
  have hcA : cA = q_t g t := Option.some.inj (hNm.symm.trans ((q_K1 E.1 hu ht).2 0 _ rfl).2)
  subst hcA
  refine kk p e R u m args below meth co H1 locs la E hL (hH.push (by rw [z1, hH.1]) (fun x hx => o1 x (by rw [← hH.1]; exact hx)) ?_) (fun x hx => ⟨rfl, (h1 x hx).2⟩) (fun h => by cases h)
  rw [hH.1]
  exact e1
theorem q_newa_l {t N : Nat} {n : Int32} (hd : decode M.2.1 pc = .ok (.newarray .long, 2)) (ht : q_ty[t]? = some .long) (hw : Jvm.Cond.arrayClass .long ∈ q_gw) (hn : ¬ n < 0) (hN : n.toNatClampNeg = N) (hb : N * 8 ≤ 536870912) (hc : c + 1 ≤ rm.cells) (hs : s + N ≤ rm.slots) (kk : q_J g M fr rm P (pc + 2) ls (.ref hp.length :: st) (hp ++ [.inl (t, N, .inr (.inl (fun _ => 0)))]) (c + 1) (s + N) true) : q_J g M fr rm P pc ls (.int n :: st) hp c s w := by
  intro p e R u m args below meth co H locs la E hL hH h1 h2
  have hu := E.2.2.2.2.2.1
  refine va_newaK (atype := .long) E.2.1 E.2.2.1 (q_word E.1 hu hw rfl) rfl hd rfl hn hN hb (Nat.le_trans hc E.2.2.2.2.2.2.2.2.2.2.2.1) (Nat.le_trans hs E.2.2.2.2.2.2.2.2.2.2.2.2.1) hH.1 fun H1 cA e1 z1 o1 _ hNm => ?_
  have hcA : cA = q_t g t := Option.some.inj (hNm.symm.trans ((q_K1 E.1 hu ht).2 0 _ rfl).2)
  subst hcA
  refine kk p e R u m args below meth co H1 locs la E hL (hH.push (by rw [z1, hH.1]) (fun x hx => o1 x (by rw [← hH.1]; exact hx)) ?_) (fun x hx => ⟨rfl, (h1 x hx).2⟩) (fun h => by cases h)
  rw [hH.1]
  exact e1
theorem q_newq {idx t N : Nat} {n : Int32} {C : String} (hd : decode M.2.1 pc = .ok (.anewarray idx, 3)) (ht : q_ty[t]? = some (.object C)) (hw : Jvm.Cond.classLink M.1.cls idx C ∈ q_gw) (ho : Jvm.Cond.arrayOver (.object C) ∈ q_gw) (hn : ¬ n < 0) (hN : n.toNatClampNeg = N) (hb : N * 4 ≤ 536870912) (hc : c + 1 ≤ rm.cells) (hs : s + N ≤ rm.slots) (kk : q_J g M fr rm P (pc + 3) ls (.ref hp.length :: st) (hp ++ [.inl (t, N, .inr (.inr (.inr (.inr (fun _ => none)))))]) (c + 1) (s + N) true) : q_J g M fr rm P pc ls (.int n :: st) hp c s w := by
  intro p e R u m args below meth co H locs la E hL hH h1 h2
  have hu := E.2.2.2.2.2.1
  subst hN
  refine W.anew E.2.1 E.2.2.1 E.2.2.2.2.1 (q_word E.1 hu hw rfl) (va_AO.use (va_AO.moved hu.alike (va_AO.of (E.1.1 _ ho)))) rfl hd rfl hn hb (Nat.le_trans hc E.2.2.2.2.2.2.2.2.2.2.2.1) (Nat.le_trans hs E.2.2.2.2.2.2.2.2.2.2.2.2.1) fun cA kA comp f1 f2 f3 f4 => ?_
  obtain ⟨kB, cB, -, -, -, f5⟩ := ((q_K1 E.1 hu ht).2 0 _ rfl).2
  have hcA : cA = q_t g t := Option.some.inj (f1.symm.trans f5)
  subst hcA
  generalize hH1 : H.push ({ cls := q_t g t, slots := Array.replicate n.toNatClampNeg .null, vm := .none } : Cell) = H1
  have z1 : H1.size = H.size + 1 := by rw [← hH1, Array.size_push]
  have e1 : H1[H.size]? = some (arrV (q_t g t) n.toNatClampNeg (fun _ => .null)) := by rw [← hH1, Array.getElem?_push_size, ← arrV_new]
  have o1 : ∀ q : Nat, q < H.size → H1[q]? = H[q]? := fun q hq => by rw [← hH1, Array.getElem?_push, if_neg (Nat.ne_of_lt hq)]
  have h3 := kk p e R u m args below meth co H1 locs la E hL (hH.push z1 o1 e1) (fun x hx => ⟨rfl, (h1 x hx).2⟩) (fun h => by cases h)
  rw [hH.1]
  exact h3
end ENG3
end
section
/-! The engine, 4: contracts and calls -/
section ENG4
theorem q_w_spec {M : q_Me} {args : Array Value} {s : State} {m : MethodId} (hn : s.methodNamed? M.1 = some m) (h : (q_w M).before args s = true) : ∃ meth c, s.vm.method? m = some meth ∧ meth.code = some c ∧ c.code = M.2.1 ∧ c.maxLocals = M.2.2.1 ∧ meth.sig.returnType = M.2.2.2.1 ∧ meth.locks = false ∧ c.exceptionTable.toList.map (fun h => (h.startPc, h.endPc, h.handlerPc, h.catchType)) = M.2.2.2.2 ∧ parseMethodDescriptor M.1.desc = some meth.sig := by
  unfold q_w at h
  split at h
  · next he =>
    obtain ⟨meth, c, h1, h2, h3, h4, h5, h6, h7, h8⟩ := Cond.code_spec hn h
    refine ⟨meth, c, h1, h2, h3, h4, h5, h6, ?_, h8⟩
    rw [he, Array.isEmpty_iff.mp h7]
    rfl
  · next he =>
    obtain ⟨m', meth, c, h0, h1, h2, h3, h4, h5, h6, h7, h8⟩ := Cond.codeWith_spec h
    cases hn.symm.trans h0
    exact ⟨meth, c, h1, h2, h3, h4, h6, h7, h5, h8⟩
theorem q_w_good (M : q_Me) : goodWord (q_w M) = true := by
  unfold q_w
  split <;> rfl
def q_Pc (g : q_G) (as : List Value) (hp : List va_E) : Array Value → State → Prop := fun a U => a = (as.map (q_ev g)).toArray ∧ q_H g hp U.heap ∧ (q_s g).WarmedH U.vm
def q_Qc (g : q_G) (fr : Bool) (P : Outcome → List va_E → Prop) (mc ms : Nat) : Array Value → State → Outcome → State → Prop := fun _ st o t => q_Q g fr P st o t ∧ ∃ L, (st.WarmedH t.vm ∧ st.sameButNew ({ t with vm := st.vm } : State) L mc ms) ∧ ∀ q ∈ L, fr = true ∧ q_b g ≤ q.base
/-- a contract: on these arguments, with these cells, at depth d, M ends as P says; at most mc cells of ms slots are new; fr: it may write -/
def q_C (g : q_G) (M : q_Me) (fr : Bool) (rm : Room) (as : List Value) (hp : List va_E) (P : Outcome → List va_E → Prop) : Prop :=
  MetFree (q_l g) M.1 (headSpec [q_w M] rm) (q_Pc g as hp) (fun _ _ _ _ _ => True) (q_Qc g fr P rm.cells rm.slots)
theorem q_C.of {g : q_G} {M : q_Me} {fr : Bool} {rm : Room} {as : List Value} {hp : List va_E} {P : Outcome → List va_E → Prop} (hG : q_GG g) (hy : plainName M.1.cls = true) (has : (q_sl as).length ≤ M.2.2.1) (k : q_J g M fr rm P 0 (q_en as M.2.2.1) [] hp 0 0 false) : q_C g M fr rm as hp P := by
  refine MetFree.of_bodyS (code := M.2.1) (maxLocals := M.2.2.1) (ret := M.2.2.2.1) hy ?_ ?_
  · intro args s m h hn
    obtain ⟨meth, c, h1, h2, h3, h4, h5, h6, -, -⟩ := q_w_spec hn (atoms_spec (ws := [q_w M]) h _ List.mem_cons_self)
    exact ⟨meth, c, h1, h2, h3, h4, h5, h6⟩
  · intro p e s m args below meth c s₁ B hml hP _
    obtain ⟨rfl, hH, hu⟩ := hP
    have hh0 : s₁.heap = s.heap := by rw [B.state]; rfl
    have X := Stand.of_body B
    obtain ⟨meth', c', h1, h2, -, -, -, -, h7, -⟩ := q_w_spec B.named (atoms_spec (ws := [q_w M]) B.pre _ List.mem_cons_self)
    cases B.method.symm.trans h1
    cases X.code.symm.trans h2
    have hE : q_E g M rm p e (headSpec [q_w M] rm).room s m meth c :=
      ⟨hG, B.exec, B.bytes, hml, findClass_of_methodNamed B.named, hu, B.returns, B.notSynchronized, (name_of_methodNamed B.named B.method).1, Nat.le_refl _, Nat.le_refl _, Nat.le_refl _, Nat.le_refl _, h7⟩
    obtain ⟨t, a1, o, b1, b2, b3, L, b4, b5⟩ := k p e _ s m ((as.map (q_ev g)).toArray) below meth c s.heap [] _ hE (q_L.entry has) hH (fun q hq => by cases hq) (fun _ => rfl) s₁ hh0 X
    exact ⟨t, o, by rw [lg_entry_eq]; exact a1, b1, b2, b3, L, b4, b5⟩
theorem q_C.post {g : q_G} {M : q_Me} {fr : Bool} {rm : Room} {as : List Value} {hp : List va_E} {P P' : Outcome → List va_E → Prop} (h : q_C g M fr rm as hp P) (hP : ∀ r hp', P r hp' → P' r hp') : q_C g M fr rm as hp P' := by
  intro p e h1 h2 h3 s m args below h4 h5 h6 h7
  obtain ⟨n, o, a1, a2, a3, ⟨r, hp', b1, b2, b3, b4⟩, a4⟩ := h p e h1 h2 h3 s m args below h4 h5 h6 h7
  exact ⟨n, o, a1, a2, a3, ⟨r, hp', b1, b2, hP r hp' b3, b4⟩, a4⟩
/-- a call, from the caller's state at the invoking instruction (its arguments popped) to its end: returned or threw -/
theorem q_enter {g : q_G} {M : q_Me} {fr : Bool} {rm : Room} {as : List Value} {hp : List va_E} {P : Outcome → List va_E → Prop} (hM : q_C g M fr rm as hp P)
    {p : Program} {e : Env} {R : Room} {u : State} {m : MethodId} {args : Array Value} {below : List Frame} {meth : Method} {c : Code} {T : State} {locs : List Loc} {cells slots : Nat}
    (X : Stand p (q_l g) e R u m args below meth c T locs cells slots) {f : JFrame} {ig : Instr} {len : Nat} {mk : MethodId} (hg : f.method = m) (hsize : f.locals.size = c.maxLocals) (hdg : decode c.code f.pc = .ok (ig, len))
    (hW : 2 * f.monitorRoom + (f.stack.map fun v => v.category).sum + (M.2.2.1 + 11) + rm.locals ≤ R.locals) (hn : T.methodNamed? M.1 = some mk) (hcode : (q_w M).before (as.map (q_ev g)).toArray T = true) (hini : (Jvm.Cond.initialized M.1.cls).before (as.map (q_ev g)).toArray T = true)
    (hframes : rm.frames + 1 ≤ R.frames) (hcells : cells + rm.cells ≤ R.cells) (hslots : slots + rm.slots ≤ R.slots) (hH : q_H g hp T.heap) (hw : (q_s g).WarmedH T.vm) :
    ∃ (r : Outcome) (hp' : List va_E) (T' : State) (L : List Loc), Stand p (q_l g) e R u m args below meth c T' (locs ++ L) (cells + rm.cells) (slots + rm.slots) ∧ (∀ q ∈ L, fr = true ∧ q_b g ≤ q.base) ∧ q_H g hp' T'.heap ∧ P r hp' ∧ (fr = false → (∃ v, r = .returned v) → T'.heap = T.heap) ∧
      (∀ v, r = .returned v → Steps p.tables e below (doInvoke e (T.setTop f) [] mk (as.map (q_ev g)).toArray).1 (T'.setTop { f with pc := f.pc + len, stack := (v.map (q_ev g)).toList ++ f.stack })) ∧
      (∀ x, r = .threw x → Steps p.tables e below (doInvoke e (T.setTop f) [] mk (as.map (q_ev g)).toArray).1 ((T'.setTop f).pushFrame (.throwing (q_b g + x)))) := by
  obtain ⟨methY, cY, hmY, hcY, -, hlY, -, -, -, -⟩ := q_w_spec hn hcode
  obtain ⟨kY, hkY, -⟩ := className_of_methodNamed hn
  have hinitY : kY.init = .initialized := Cond.initialized_spec (findClass_of_methodNamed hn) hkY hini
  have h : At T f.method c below := by rw [hg]; exact X.here
  have hpre : (headSpec [q_w M] rm).pre.before (as.map (q_ev g)).toArray T = true := atoms_intro fun w hw => by rw [List.mem_singleton.mp hw]; exact hcode
  have happ : (headSpec [q_w M] rm).appliesLoose M.1 e.platform (T.calling f mk (as.map (q_ev g)).toArray) = true :=
    Spec.appliesLoose_calling (g := f) h hdg hn hkY hinitY
      (X.room_calling (g := f) (R' := rm) hsize hmY hcY hframes (by rw [hlY]; omega) hcells hslots) hpre
  obtain ⟨mid, hmid⟩ := h.above
  have hfr : (T.setTop f).frames = (.java f :: mid) ++ below := by rw [State.frames_setTop' f h.top, hmid]; rfl
  obtain ⟨o, s₂, hsteps, -, hend, hq⟩ := Steps.callFree hM p X.admits X.cas X.clock (acts := []) hfr happ ⟨rfl, hH, hw⟩ trivial
  have hq : q_Qc g fr P rm.cells rm.slots (as.map (q_ev g)).toArray (T.calling f mk (as.map (q_ev g)).toArray) o s₂ := hq
  rw [State.frames_setTop' f h.top] at hend
  obtain ⟨⟨r, hp', rfl, hH', hP, hpure⟩, L, ⟨hW₂, e2, q2, q3, q4, q5, q6⟩, hL⟩ := hq
  have hW' : T.WarmedH s₂.vm := hW₂
  have e3 : s₂ = ({ (T.calling f mk (as.map (q_ev g)).toArray).setFrames s₂.frames with heap := s₂.heap, slotsUsed := s₂.slotsUsed } : State).setVm s₂.vm := by
    have : s₂ = ({ s₂ with vm := (T.calling f mk (as.map (q_ev g)).toArray).vm } : State).setVm s₂.vm := rfl
    rw [e2] at this
    exact this
  obtain ⟨g₀, hg0⟩ := Option.isSome_iff_exists.mp h.top
  obtain ⟨rr, hr⟩ := State.topJava?_eq_some.mp hg0
  have hr' : (({ T with heap := s₂.heap, slotsUsed := s₂.slotsUsed } : State).setVm s₂.vm).frames = .java g₀ :: rr := hr
  have hsame : T.sameButNew ({ T with heap := s₂.heap, slotsUsed := s₂.slotsUsed } : State) L rm.cells rm.slots := by
    refine ⟨?_, q2, q3, q4, q5, q6⟩
    obtain ⟨t, ht, -⟩ := State.frames_cons hr
    show ({ T with heap := s₂.heap, slotsUsed := s₂.slotsUsed } : State) = { T.setFrames T.frames with heap := s₂.heap, slotsUsed := s₂.slotsUsed }
    rw [State.setFrames_self ht]
  subst hg
  refine ⟨r, hp', ({ T with heap := s₂.heap, slotsUsed := s₂.slotsUsed } : State).setVm s₂.vm, L,
    ⟨X.admits, X.cas, X.clock, X.frames, X.room, X.hears, X.method, X.code, (X.here.setHeapUsed s₂.heap s₂.slotsUsed).setVm hW'.alike, X.tail, State.WarmedH.trans X.warmed hW', X.limits, X.bytes, X.same.trans (hsame.setVm u.vm)⟩,
    hL, hH', hP, hpure, fun v hv => ?_, fun x hx => ?_⟩
  · subst hv
    obtain ⟨c₂, i₂, len₂, hc₂, hd₂, hf₂⟩ := hend
    have hcc : c₂ = c := by
      have h1 : s₂.code? f.method = T.code? f.method := by
        rw [State.code?_eq, State.code?_eq, hW'.alike.method?]
      exact Option.some.inj (hc₂.symm.trans (h1.trans h.code))
    subst hcc
    have hlen : len₂ = len := by rw [hdg] at hd₂; cases hd₂; rfl
    subst hlen
    have hs₂ : s₂ = (({ T with heap := s₂.heap, slotsUsed := s₂.slotsUsed } : State).setVm s₂.vm).setTop { f with pc := f.pc + len₂, stack := (v.map (q_ev g)).toList ++ f.stack } := by
      refine e3.trans ?_
      rw [hf₂, State.calling_eq h.top, State.setFrames_setFrames, State.setTop_of_frames _ hr', hr]
      rfl
    rw [← hs₂]
    exact hsteps
  · subst hx
    have hf₂ : s₂.frames = .throwing (q_b g + x) :: .java f :: T.frames.tail := hend
    have hs₂ : s₂ = ((({ T with heap := s₂.heap, slotsUsed := s₂.slotsUsed } : State).setVm s₂.vm).setTop f).pushFrame (.throwing (q_b g + x)) := by
      refine e3.trans ?_
      rw [hf₂, State.calling_eq h.top, State.setFrames_setFrames, State.pushFrame, State.frames_setTop _ hr', State.setTop_of_frames _ hr', State.setFrames_setFrames, hr]
      rfl
    rw [← hs₂]
    exact hsteps
/-- an exception lies over the frame -/
def q_T (g : q_G) (M : q_Me) (fr : Bool) (rm : Room) (P : Outcome → List va_E → Prop) (pc : Nat) (ls : List (Option Value)) (hp : List va_E) (c s : Nat) (w : Bool) (x : Nat) : Prop :=
  ∀ (p : Program) (e : Env) (R : Room) (u : State) (m : MethodId) (args : Array Value) (below : List Frame) (meth : Method) (co : Code) (locs : List Loc) (la : Array Slot) (T : State) (st : List Value),
    q_E g M rm p e R u m meth co → q_L g M.2.2.1 la ls → q_H g hp T.heap → (∀ q ∈ locs, w = true ∧ q_b g ≤ q.base) → Stand p (q_l g) e R u m args below meth co T locs c s →
    ∃ t, Steps p.tables e below ((T.setTop (F0 m pc la st)).pushFrame (.throwing (q_b g + x))) t ∧ q_M below (q_Q g fr P) u rm.cells rm.slots (fun q => fr = true ∧ q_b g ≤ q) t
/-- it leaves the method -/
theorem q_T.leave {g : q_G} {M : q_Me} {fr : Bool} {rm : Room} {P : Outcome → List va_E → Prop} {pc : Nat} {ls : List (Option Value)} {hp : List va_E} {c s : Nat} {w : Bool} {x : Nat} (hM : M.2.2.2.2 = []) (hP : P (.threw x) hp) (hc : c ≤ rm.cells) (hs : s ≤ rm.slots) (hw : w = true → fr = true) : q_T g M fr rm P pc ls hp c s w x := by
  intro p e R u m args below meth co locs la T st E hL hH h1 X
  have hlk := E.2.2.2.2.2.2.2.1
  have hno : co.exceptionTable.toList = [] := by
    have := E.2.2.2.2.2.2.2.2.2.2.2.2.2
    rw [hM] at this
    exact List.map_eq_nil_iff.mp this
  obtain ⟨a1, a2, a3, a4, a5⟩ := (stand_widen X hc hs).leaveThrown (q_b g + x) (g := F0 m pc la st) rfl rfl rfl (fun y hy => by rw [hno] at hy; cases hy) hlk
  exact ⟨_, a1, .threw (q_b g + x), a2, a3, ⟨.threw x, hp, rfl, hH, hP, fun _ ⟨v, hv⟩ => by cases hv⟩, locs, ⟨a4, a5⟩, fun q hq => ⟨hw (h1 q hq).1, (h1 q hq).2⟩⟩
variable {g : q_G} {M : q_Me} {fr : Bool} {rm : Room} {P : Outcome → List va_E → Prop} {pc : Nat} {ls : List (Option Value)} {st : List Value} {hp : List va_E} {c s : Nat} {w : Bool}
/-- behind the instruction's own linking: the callee, and both of its ends -/
theorem q_after {N : q_Me} {fr' : Bool} {rm' : Room} {as : List Value} {P' : Outcome → List va_E → Prop} (hC : q_C g N fr' rm' as hp P')
    (hd' : rm'.frames + 1 ≤ rm.frames) (hN : (st.map fun v => v.category).sum + (N.2.2.1 + 11) + rm'.locals ≤ rm.locals) (hmc : c + rm'.cells ≤ rm.cells) (hms : s + rm'.slots ≤ rm.slots)
    (kr : ∀ v hp', P' (.returned v) hp' → q_J g M fr rm P (pc + 3) ls (v.toList ++ st) hp' (c + rm'.cells) (s + rm'.slots) (w || fr'))
    (kt : ∀ x hp', P' (.threw x) hp' → q_T g M fr rm P pc ls hp' (c + rm'.cells) (s + rm'.slots) true x)
    {p : Program} {e : Env} {R : Room} {u : State} {m : MethodId} {args : Array Value} {below : List Frame} {meth : Method} {co : Code} {locs : List Loc} {la : Array Slot} {T : State} (E : q_E g M rm p e R u m meth co) (hL : q_L g M.2.2.1 la ls) (hH : q_H g hp T.heap) (h1 : ∀ q ∈ locs, w = true ∧ q_b g ≤ q.base) (h2 : w = false → T.heap = u.heap)
    (X : Stand p (q_l g) e R u m args below meth co T locs c s) {ig : Instr} {mk : MethodId} (hdg : decode co.code pc = .ok (ig, 3)) (hn : T.methodNamed? N.1 = some mk) (hwN : q_w N ∈ q_gw) (hini : Jvm.Cond.initialized N.1.cls ∈ q_gw) :
    ∃ t, Steps p.tables e below (doInvoke e (T.setTop (F0 m pc la (st.map (q_ev g)))) [] mk (as.map (q_ev g)).toArray).1 t ∧ q_M below (q_Q g fr P) u rm.cells rm.slots (fun q => fr = true ∧ q_b g ≤ q) t := by
  have hu : (q_s g).WarmedH T.vm := State.WarmedH.trans E.2.2.2.2.2.1 X.warmed
  have hR1 := E.2.2.2.2.2.2.2.2.2.1
  have hR2 := E.2.2.2.2.2.2.2.2.2.2.1
  have hR3 := E.2.2.2.2.2.2.2.2.2.2.2.1
  have hR4 := E.2.2.2.2.2.2.2.2.2.2.2.2.1
  have hcat : ((st.map (q_ev g)).map fun v => v.category).sum = (st.map fun v => v.category).sum := by
    have : (st.map (q_ev g)).map (fun v => v.category) = st.map (fun v => v.category) := by
      rw [List.map_map]
      exact List.map_congr_left (fun v _ => q_ev_cat g v)
    rw [this]
  obtain ⟨r, hp', T', L, X', hL', hH', hP', hpure, sr, sx⟩ := q_enter hC X (f := F0 m pc la (st.map (q_ev g))) (ig := ig) (len := 3) (mk := mk) rfl (by rw [E.2.2.2.1]; exact hL.1) hdg (by show 2 * 0 + ((st.map (q_ev g)).map fun v => v.category).sum + _ + _ ≤ _; omega) hn (q_word E.1 hu hwN (q_w_good N)) (q_word E.1 hu hini rfl) (by omega) (by omega) (by omega) hH hu
  have hlocs : ∀ q ∈ locs ++ L, (w || fr') = true ∧ q_b g ≤ q.base := by
    intro q hq
    rcases List.mem_append.mp hq with h | h
    · rw [(h1 q h).1]
      exact ⟨rfl, (h1 q h).2⟩
    · rw [(hL' q h).1, Bool.or_true]
      exact ⟨rfl, (hL' q h).2⟩
  cases r with
  | returned v =>
    have h3 := kr v hp' hP' p e R u m args below meth co T'.heap (locs ++ L) la E hL hH' hlocs (fun h => by
      have hw0 : w = false ∧ fr' = false := by cases w <;> cases fr' <;> simp_all
      rw [hpure hw0.2 ⟨v, rfl⟩]
      exact h2 hw0.1)
    obtain ⟨t, a1, a2⟩ := h3 T' rfl X'
    refine ⟨t, (sr v rfl).trans ?_, a2⟩
    have he : (v.toList ++ st).map (q_ev g) = (v.map (q_ev g)).toList ++ st.map (q_ev g) := by cases v <;> rfl
    rw [he] at a1
    exact a1
  | threw x =>
    obtain ⟨t, a1, a2⟩ := kt x hp' hP' p e R u m args below meth co (locs ++ L) la T' (st.map (q_ev g)) E hL hH' (fun q hq => ⟨rfl, (hlocs q hq).2⟩) X'
    exact ⟨t, (sx x rfl).trans a1, a2⟩
/-- what a call needs of the tables: the entry's link, the method; n arguments -/
def q_ML (own : String) (idx : Nat) (N : q_Me) (n : Nat) : Prop := (Jvm.Cond.methodLink own idx N.1 ∈ q_gw ∨ ∃ host, Jvm.Cond.methodLinkNest own idx N.1 host ∈ q_gw) ∧ q_w N ∈ q_gw ∧ Jvm.Cond.initialized N.1.cls ∈ q_gw ∧ (N.1.cls ≠ "java/lang/invoke/MethodHandle" ∧ N.1.cls ≠ "java/lang/invoke/VarHandle") ∧ (parseMethodDescriptor N.1.desc).map (fun d => d.parameters.length) = some n
theorem q_ML.len {own : String} {idx : Nat} {N : q_Me} {n : Nat} (h : q_ML own idx N n) : ∀ sig, parseMethodDescriptor N.1.desc = some sig → n = sig.parameters.length := by
  intro sig hs
  have h2 := h.2.2.2.2
  rw [hs] at h2
  exact (Option.some.inj h2).symm

theorem q_callS {N : q_Me} {fr' : Bool} {rm' : Room} {idx n : Nat} {as : List Value} {P' : Outcome → List va_E → Prop} (hd : decode M.2.1 pc = .ok (.invokestatic idx, 3)) (hl : q_ML M.1.cls idx N n) (hsta : Jvm.Cond.static N.1 ∈ q_gw) (hn : as.length = n) (hC : q_C g N fr' rm' as hp P') (hd' : rm'.frames + 1 ≤ rm.frames) (hN : (st.map fun v => v.category).sum + (N.2.2.1 + 11) + rm'.locals ≤ rm.locals) (hmc : c + rm'.cells ≤ rm.cells) (hms : s + rm'.slots ≤ rm.slots)
    (kr : ∀ v hp', P' (.returned v) hp' → q_J g M fr rm P (pc + 3) ls (v.toList ++ st) hp' (c + rm'.cells) (s + rm'.slots) (w || fr')) (kt : ∀ x hp', P' (.threw x) hp' → q_T g M fr rm P pc ls hp' (c + rm'.cells) (s + rm'.slots) true x) : q_J g M fr rm P pc ls (as.reverse ++ st) hp c s w := by
  intro p e R u m args below meth co H locs la E hL hH h1 h2
  intro T hT X
  subst hT
  have hu := E.2.2.2.2.2.1
  have hlen := hl.len
  obtain ⟨hlk, hwN, hini, hy, -⟩ := hl
  have hcode : (q_w N).before args u = true := q_word E.1 hu hwN (q_w_good N)
  have hnm : ∃ mk, u.methodNamed? N.1 = some mk := by
    unfold q_w at hcode
    split at hcode
    · exact Cond.code_named hcode
    · obtain ⟨mk, _, _, h0, -⟩ := Cond.codeWith_spec hcode
      exact ⟨mk, h0⟩
  obtain ⟨mk, hnamed⟩ := hnm
  obtain ⟨methM, cM, hmethM, -, -, -, -, -, -, hsigM⟩ := q_w_spec hnamed hcode
  have hstatic : methM.isStatic = true := Cond.static_spec hnamed hmethM (q_word (args := args) E.1 hu hsta rfl)
  obtain ⟨kP, hkP, -⟩ := className_of_methodNamed hnamed
  have hinitP : kP.init = .initialized := Cond.initialized_spec (findClass_of_methodNamed hnamed) hkP (q_word (args := args) E.1 hu hini rfl)
  have hstk : (F0 m pc la ((as.reverse ++ st).map (q_ev g))).stack = (as.map (q_ev g)).reverse ++ st.map (q_ev g) := by
    show (as.reverse ++ st).map (q_ev g) = _
    rw [List.map_append, List.map_reverse]
  have hln : (as.map (q_ev g)).length = methM.sig.parameters.length := by
    rw [List.length_map, hn]
    exact hlen _ hsigM
  have hdc : decode co.code (F0 m pc la ((as.reverse ++ st).map (q_ev g))).pc = .ok (.invokestatic idx, 3) := by rw [E.2.2.1]; exact hd
  have go : ∃ vm₁, u.WarmedH vm₁ ∧ Stand p (q_l g) e R u m args below meth co (T.setVm vm₁) locs c s ∧ ∀ target, (∀ acts, Steps p.tables e below (doInvoke e ((T.setVm vm₁).setTop { F0 m pc la ((as.reverse ++ st).map (q_ev g)) with stack := st.map (q_ev g) }) acts mk (as.map (q_ev g)).toArray).1 target) → Steps p.tables e below (T.setTop (F0 m pc la ((as.reverse ++ st).map (q_ev g)))) target := by
    rcases hlk with hlk | ⟨host, hlk⟩
    · obtain ⟨vm₁, X₁, hstep₁⟩ := X.invokestatic E.2.1 E.2.2.2.2.1 (q_word E.1 hu hlk rfl) hnamed hmethM hstatic hkP hinitP hy (g := F0 m pc la ((as.reverse ++ st).map (q_ev g))) rfl hln hstk hdc
      exact ⟨vm₁, X₁.warmed, X₁, hstep₁⟩
    · obtain ⟨vm₁, X₁, hstep₁⟩ := X.invokestaticNest E.2.1 E.2.2.2.2.1 (q_nestM E.1 hu hlk) hnamed hmethM hstatic hkP hinitP hy (g := F0 m pc la ((as.reverse ++ st).map (q_ev g))) rfl hln hstk hdc
      exact ⟨vm₁, X₁.warmed, X₁, hstep₁⟩
  obtain ⟨vm₁, hW₁, X₁, hstep₁⟩ := go
  obtain ⟨t, a1, a2⟩ := q_after hC hd' hN hmc hms kr kt (T := T.setVm vm₁) E hL hH h1 h2 X₁ (ig := .invokestatic idx) (mk := mk) (by rw [E.2.2.1]; exact hd) (X₁.named hnamed) hwN hini
  exact ⟨t, hstep₁ t (fun acts => by rw [doInvoke_state]; exact a1), a2⟩
theorem q_callI {N : q_Me} {fr' : Bool} {rm' : Room} {idx n : Nat} {as : List Value} {P' : Outcome → List va_E → Prop} {a : Nat} (hd : decode M.2.1 pc = .ok (.invokespecial idx, 3)) (hl : q_ML M.1.cls idx N n) (hnh : N.2.2.2 = (none, [])) (hin : N.1.name = "<init>") (hins : Jvm.Cond.instanceMethod N.1 ∈ q_gw) (hn : as.length = n) (hC : q_C g N fr' rm' (.ref a :: as) hp P') (hd' : rm'.frames + 1 ≤ rm.frames) (hN : (st.map fun v => v.category).sum + (N.2.2.1 + 11) + rm'.locals ≤ rm.locals) (hmc : c + rm'.cells ≤ rm.cells) (hms : s + rm'.slots ≤ rm.slots)
    (kr : ∀ v hp', P' (.returned v) hp' → q_J g M fr rm P (pc + 3) ls (v.toList ++ st) hp' (c + rm'.cells) (s + rm'.slots) (w || fr')) (kt : ∀ x hp', P' (.threw x) hp' → q_T g M fr rm P pc ls hp' (c + rm'.cells) (s + rm'.slots) true x) : q_J g M fr rm P pc ls (as.reverse ++ .ref a :: st) hp c s w := by
  intro p e R u m args below meth co H locs la E hL hH h1 h2
  intro T hT X
  subst hT
  have hu := E.2.2.2.2.2.1
  have hlen := hl.len
  obtain ⟨hlk, hwN, hini, hy, -⟩ := hl
  have hcode : (Jvm.Cond.code N.1 N.2.1 N.2.2.1 none).before args u = true := by
    have h0 : (q_w N).before args u = true := q_word E.1 hu hwN (q_w_good N)
    unfold q_w at h0
    rw [hnh] at h0
    exact h0
  have hstk : (F0 m pc la ((as.reverse ++ .ref a :: st).map (q_ev g))).stack = (as.map (q_ev g)).reverse ++ .ref (q_b g + a) :: st.map (q_ev g) := by
    show (as.reverse ++ .ref a :: st).map (q_ev g) = _
    rw [List.map_append, List.map_reverse]
    rfl
  have hln : ∀ sig, parseMethodDescriptor N.1.desc = some sig → (as.map (q_ev g)).length = sig.parameters.length := by
    intro sig hs
    rw [List.length_map, hn]
    exact hlen _ hs
  have hpl : e.platform.magicAccessors = ({} : Platform).magicAccessors := by rw [X.admits.platform]
  have hdc : decode co.code (F0 m pc la ((as.reverse ++ .ref a :: st).map (q_ev g))).pc = .ok (.invokespecial idx, 3) := by rw [E.2.2.1]; exact hd
  have go : ∃ mk vm₁, u.methodNamed? N.1 = some mk ∧ u.WarmedH vm₁ ∧ ∀ target, (∀ acts, Steps p.tables e below (doInvoke e ((T.setVm vm₁).setTop { F0 m pc la ((as.reverse ++ .ref a :: st).map (q_ev g)) with stack := st.map (q_ev g) }) acts mk (Value.ref (q_b g + a) :: as.map (q_ev g)).toArray).1 target) → Steps p.tables e below (T.setTop (F0 m pc la ((as.reverse ++ .ref a :: st).map (q_ev g)))) target := by
    rcases hlk with hlk | ⟨host, hlk⟩
    · obtain ⟨mk, methM, cM, kP, vm₁, hnamed, hmethM, hcodeM, -, hlocalsM, -, hkP, -, hW₁, hstep₁⟩ := Steps.initColdArgs (e := e) X.here E.2.1 X.warmed hpl E.2.2.2.2.1 hin hy (q_word E.1 hu hlk rfl) (q_word E.1 hu hins rfl) hcode (f := F0 m pc la ((as.reverse ++ .ref a :: st).map (q_ev g))) rfl hln hstk hdc
      exact ⟨mk, vm₁, hnamed, hW₁, hstep₁⟩
    · obtain ⟨mk, methM, cM, kP, vm₁, hnamed, hmethM, hcodeM, -, hlocalsM, -, hkP, -, hW₁, hstep₁⟩ := Steps.initColdArgsNest (e := e) X.here E.2.1 X.warmed hpl E.2.2.2.2.1 hin hy (q_nestM E.1 hu hlk) (q_word E.1 hu hins rfl) hcode (f := F0 m pc la ((as.reverse ++ .ref a :: st).map (q_ev g))) rfl hln hstk hdc
      exact ⟨mk, vm₁, hnamed, hW₁, hstep₁⟩
  obtain ⟨mk, vm₁, hnamed, hW₁, hstep₁⟩ := go
  have X₁ := X.noted hW₁
  obtain ⟨t, a1, a2⟩ := q_after hC hd' hN hmc hms kr kt (T := T.setVm vm₁) E hL hH h1 h2 X₁ (ig := .invokespecial idx) (mk := mk) (by rw [E.2.2.1]; exact hd) (X₁.named hnamed) hwN hini
  exact ⟨t, hstep₁ t (fun acts => by rw [doInvoke_state]; exact a1), a2⟩
theorem q_callV {N : q_Me} {fr' : Bool} {rm' : Room} {idx n : Nat} {as : List Value} {P' : Outcome → List va_E → Prop} {a ci : Nat} {fs : List Value} {q : vw_C} (hd : decode M.2.1 pc = .ok (.invokevirtual idx, 3)) (hl : q_ML M.1.cls idx N n) (hins : Jvm.Cond.instanceMethod N.1 ∈ q_gw) (hsel : Jvm.Cond.selects q.1 N.1 N.1 ∈ q_gw) (hq : q_cl[ci]? = some q) (he : hp[a]? = some (.inr (ci, fs))) (hn : as.length = n) (hC : q_C g N fr' rm' (.ref a :: as) hp P') (hd' : rm'.frames + 1 ≤ rm.frames) (hN : (st.map fun v => v.category).sum + (N.2.2.1 + 11) + rm'.locals ≤ rm.locals) (hmc : c + rm'.cells ≤ rm.cells) (hms : s + rm'.slots ≤ rm.slots)
    (kr : ∀ v hp', P' (.returned v) hp' → q_J g M fr rm P (pc + 3) ls (v.toList ++ st) hp' (c + rm'.cells) (s + rm'.slots) (w || fr')) (kt : ∀ x hp', P' (.threw x) hp' → q_T g M fr rm P pc ls hp' (c + rm'.cells) (s + rm'.slots) true x) : q_J g M fr rm P pc ls (as.reverse ++ .ref a :: st) hp c s w := by
  intro p e R u m args below meth co H locs la E hL hH h1 h2
  intro T hT X
  subst hT
  have hu := E.2.2.2.2.2.1
  have hlen := hl.len
  obtain ⟨hlk, hwN, hini, hy, -⟩ := hl
  obtain ⟨mk, methM, hnamed, hmethM, hstM, habM⟩ := Cond.instanceMethod_spec (q_word (args := args) E.1 hu hins rfl)
  obtain ⟨methM', cM, hmethM', -, -, -, -, -, -, hsigM⟩ := q_w_spec hnamed (q_word (args := args) E.1 hu hwN (q_w_good N))
  cases hmethM.symm.trans hmethM'
  obtain ⟨r', hr', cellB, hcB, hclB, hvmB, -⟩ := hH.2.2 a _ he
  have hKn := (q_K0 E.1 hu).1 ci _ hq
  have hcls : u.vm.findClass q.1 = some cellB.cls := by rw [hclB]; exact hKn.2.1
  obtain ⟨c2, r2, m2, q1, q2, q3, q4, kP, hkP, hkPi⟩ := Cond.selects_spec (q_word (args := args) E.1 hu hsel rfl)
  cases hcls.symm.trans q1
  cases (State.methodFound?_of_named hnamed hy).symm.trans q2
  cases hnamed.symm.trans q3
  have hselP : selectMethod e.platform u.vm cellB.cls mk = .method mk := by rw [Launch.admits_selectMethod X.admits]; exact q4
  have hstk : (F0 m pc la ((as.reverse ++ .ref a :: st).map (q_ev g))).stack = (as.map (q_ev g)).reverse ++ .ref (q_b g + a) :: st.map (q_ev g) := by
    show (as.reverse ++ .ref a :: st).map (q_ev g) = _
    rw [List.map_append, List.map_reverse]
    rfl
  have hln : (as.map (q_ev g)).length = methM.sig.parameters.length := by
    rw [List.length_map, hn]
    exact hlen _ hsigM
  have hdc : decode co.code (F0 m pc la ((as.reverse ++ .ref a :: st).map (q_ev g))).pc = .ok (.invokevirtual idx, 3) := by rw [E.2.2.1]; exact hd
  have hno : ∀ z, cellB.vm ≠ .statics z := fun z h => by rw [hvmB] at h; cases h
  have go : ∃ vm₁, u.WarmedH vm₁ ∧ Stand p (q_l g) e R u m args below meth co (T.setVm vm₁) locs c s ∧ ∀ target, (∀ acts, Steps p.tables e below (doInvoke e ((T.setVm vm₁).setTop { F0 m pc la ((as.reverse ++ .ref a :: st).map (q_ev g)) with stack := st.map (q_ev g) }) acts mk (Value.ref (q_b g + a) :: as.map (q_ev g)).toArray).1 target) → Steps p.tables e below (T.setTop (F0 m pc la ((as.reverse ++ .ref a :: st).map (q_ev g)))) target := by
    rcases hlk with hlk | ⟨host, hlk⟩
    · obtain ⟨vm₁, X₁, hstep₁⟩ := X.invokevirtual E.2.1 E.2.2.2.2.1 (q_word E.1 hu hlk rfl) hnamed hmethM hstM hkP hkPi hy (a := q_b g + a) (cell := cellB) hcB hno hselP hmethM habM hkP hkPi (g := F0 m pc la ((as.reverse ++ .ref a :: st).map (q_ev g))) rfl (argsL := as.map (q_ev g)) (rest := st.map (q_ev g)) hln hstk hdc
      exact ⟨vm₁, X₁.warmed, X₁, hstep₁⟩
    · obtain ⟨vm₁, X₁, hstep₁⟩ := X.invokevirtualNest E.2.1 E.2.2.2.2.1 (q_nestM E.1 hu hlk) hnamed hmethM hstM hkP hkPi hy (a := q_b g + a) (cell := cellB) hcB hno hselP hmethM habM hkP hkPi (g := F0 m pc la ((as.reverse ++ .ref a :: st).map (q_ev g))) rfl (argsL := as.map (q_ev g)) (rest := st.map (q_ev g)) hln hstk hdc
      exact ⟨vm₁, X₁.warmed, X₁, hstep₁⟩
  obtain ⟨vm₁, hW₁, X₁, hstep₁⟩ := go
  obtain ⟨t, a1, a2⟩ := q_after hC hd' hN hmc hms kr kt (T := T.setVm vm₁) E hL hH h1 h2 X₁ (ig := .invokevirtual idx) (mk := mk) (by rw [E.2.2.1]; exact hd) (X₁.named hnamed) hwN hini
  exact ⟨t, hstep₁ t (fun acts => by rw [doInvoke_state]; exact a1), a2⟩
/-- an end that is known: it returns v, the cells are hp2 -/
def q_ret (v : Option Value) (hp2 : List va_E) : Outcome → List va_E → Prop := fun r h => r = .returned v ∧ h = hp2
def q_thr (x : Nat) (hp2 : List va_E) : Outcome → List va_E → Prop := fun r h => r = .threw x ∧ h = hp2
theorem q_kr {v0 : Option Value} {hp2 : List va_E} {D : Option Value → List va_E → Prop} (k : D v0 hp2) : ∀ v hp', q_ret v0 hp2 (.returned v) hp' → D v hp' := by
  intro v hp' ⟨e1, e2⟩
  cases e1
  subst e2
  exact k
theorem q_kt {v0 : Option Value} {hp2 : List va_E} {D : Nat → List va_E → Prop} : ∀ x hp', q_ret v0 hp2 (.threw x) hp' → D x hp' := by
  intro x hp' ⟨e1, e2⟩
  cases e1
/-- Object.<init> -/
theorem q_objInit {idx a : Nat} (hd : decode M.2.1 pc = .ok (.invokespecial idx, 3)) (hw1 : Jvm.Cond.methodLink M.1.cls idx Lib.objectInit ∈ q_gw) (hw2 : Jvm.Cond.instanceMethod Lib.objectInit ∈ q_gw) (hw3 : Jvm.Cond.code Lib.objectInit ⟨#[0xb1]⟩ 1 none ∈ q_gw) (hd1 : 1 ≤ rm.frames) (hst : (st.map fun v => v.category).sum + 12 ≤ rm.locals) (kk : q_J g M fr rm P (pc + 3) ls st hp c s w) : q_J g M fr rm P pc ls (.ref a :: st) hp c s w := by
  intro p e R u m args below meth co H locs la E hL hH h1 h2
  have hu := E.2.2.2.2.2.1
  have hR1 := E.2.2.2.2.2.2.2.2.2.1
  have hR2 := E.2.2.2.2.2.2.2.2.2.2.1
  have hcat : ((st.map (q_ev g)).map fun v => v.category).sum = (st.map fun v => v.category).sum := by
    have : (st.map (q_ev g)).map (fun v => v.category) = st.map (fun v => v.category) := by
      rw [List.map_map]
      exact List.map_congr_left (fun v _ => q_ev_cat g v)
    rw [this]
  exact W.objInit E.2.1 E.2.2.1 E.2.2.2.2.1 (q_word E.1 hu hw1 rfl) (q_word E.1 hu hw2 rfl) (q_word E.1 hu hw3 rfl) rfl (by rw [E.2.2.2.1]; exact hL.1) rfl hd (by omega) (by show 2 * 0 + _ + 12 ≤ _; omega) (kk p e R u m args below meth co H locs la E hL hH h1 h2)
end ENG4
end
