section
/-- a private method of a class that the tables say can be made, by its rows of tables_1 -/
def lw_okq (q : MethodName × Nat) : Prop := (q.1.cls ≠ "java/lang/invoke/MethodHandle" ∧ q.1.cls ≠ "java/lang/invoke/VarHandle") ∧ Cond.instantiable q.1.cls q.2 ∈ tables_1 ∧ Cond.privateMethod q.1 ∈ tables_1 ∧ Cond.instanceMethod q.1 ∈ tables_1
theorem lw_p0 : lw_okq (⟨"StuckSearch$TextReader", "read", "(LStuckSearch$Course;)Z"⟩, 9) := ⟨⟨by decide +kernel, by decide +kernel⟩, List.mem_of_getElem? (i := 115) (by decide +kernel), List.mem_of_getElem? (i := 282) (by decide +kernel), List.mem_of_getElem? (i := 283) (by decide +kernel)⟩
theorem lw_p1 : lw_okq (⟨"StuckSearch$Course", "reset", "()V"⟩, 6) := ⟨⟨by decide +kernel, by decide +kernel⟩, List.mem_of_getElem? (i := 57) (by decide +kernel), List.mem_of_getElem? (i := 286) (by decide +kernel), List.mem_of_getElem? (i := 287) (by decide +kernel)⟩
theorem lw_p2 : lw_okq (⟨"StuckSearch$TextReader", "beginText", "()V"⟩, 9) := ⟨⟨by decide +kernel, by decide +kernel⟩, List.mem_of_getElem? (i := 115) (by decide +kernel), List.mem_of_getElem? (i := 291) (by decide +kernel), List.mem_of_getElem? (i := 292) (by decide +kernel)⟩
theorem lw_p3 : lw_okq (⟨"StuckSearch$Part", "set", "(ZI)V"⟩, 3) := ⟨⟨by decide +kernel, by decide +kernel⟩, List.mem_of_getElem? (i := 122) (by decide +kernel), List.mem_of_getElem? (i := 295) (by decide +kernel), List.mem_of_getElem? (i := 296) (by decide +kernel)⟩
theorem lw_p4 : lw_okq (⟨"StuckSearch$TextReader", "readNext", "(LStuckSearch$Course;)V"⟩, 9) := ⟨⟨by decide +kernel, by decide +kernel⟩, List.mem_of_getElem? (i := 115) (by decide +kernel), List.mem_of_getElem? (i := 299) (by decide +kernel), List.mem_of_getElem? (i := 300) (by decide +kernel)⟩
theorem lw_p5 : lw_okq (⟨"StuckSearch$Tape", "byteAt", "(I)I"⟩, 2) := ⟨⟨by decide +kernel, by decide +kernel⟩, List.mem_of_getElem? (i := 31) (by decide +kernel), List.mem_of_getElem? (i := 303) (by decide +kernel), List.mem_of_getElem? (i := 304) (by decide +kernel)⟩
theorem lw_p6 : lw_okq (⟨"StuckSearch$TextReader", "endChoice", "()V"⟩, 9) := ⟨⟨by decide +kernel, by decide +kernel⟩, List.mem_of_getElem? (i := 115) (by decide +kernel), List.mem_of_getElem? (i := 307) (by decide +kernel), List.mem_of_getElem? (i := 308) (by decide +kernel)⟩
theorem lw_p7 : lw_okq (⟨"StuckSearch$Part", "addChoice", "(LStuckSearch$Part;)V"⟩, 3) := ⟨⟨by decide +kernel, by decide +kernel⟩, List.mem_of_getElem? (i := 122) (by decide +kernel), List.mem_of_getElem? (i := 311) (by decide +kernel), List.mem_of_getElem? (i := 312) (by decide +kernel)⟩
theorem lw_p8 : lw_okq (⟨"StuckSearch$TextReader", "openText", "()V"⟩, 9) := ⟨⟨by decide +kernel, by decide +kernel⟩, List.mem_of_getElem? (i := 115) (by decide +kernel), List.mem_of_getElem? (i := 315) (by decide +kernel), List.mem_of_getElem? (i := 316) (by decide +kernel)⟩
theorem lw_p9 : lw_okq (⟨"StuckSearch$TextReader", "meetFault", "(I)V"⟩, 9) := ⟨⟨by decide +kernel, by decide +kernel⟩, List.mem_of_getElem? (i := 115) (by decide +kernel), List.mem_of_getElem? (i := 319) (by decide +kernel), List.mem_of_getElem? (i := 320) (by decide +kernel)⟩
theorem lw_p10 : lw_okq (⟨"StuckSearch$TextReader", "closeText", "(LStuckSearch$Course;)V"⟩, 9) := ⟨⟨by decide +kernel, by decide +kernel⟩, List.mem_of_getElem? (i := 115) (by decide +kernel), List.mem_of_getElem? (i := 323) (by decide +kernel), List.mem_of_getElem? (i := 324) (by decide +kernel)⟩
theorem lw_p11 : lw_okq (⟨"StuckSearch$TextReader", "addThing", "(LStuckSearch$Course;LStuckSearch$Part;)V"⟩, 9) := ⟨⟨by decide +kernel, by decide +kernel⟩, List.mem_of_getElem? (i := 115) (by decide +kernel), List.mem_of_getElem? (i := 327) (by decide +kernel), List.mem_of_getElem? (i := 328) (by decide +kernel)⟩
theorem lw_p12 : lw_okq (⟨"StuckSearch$Course", "addSteps", "(II)V"⟩, 6) := ⟨⟨by decide +kernel, by decide +kernel⟩, List.mem_of_getElem? (i := 57) (by decide +kernel), List.mem_of_getElem? (i := 331) (by decide +kernel), List.mem_of_getElem? (i := 332) (by decide +kernel)⟩
theorem lw_p13 : lw_okq (⟨"StuckSearch$Part", "addBehind", "(LStuckSearch$Part;)V"⟩, 3) := ⟨⟨by decide +kernel, by decide +kernel⟩, List.mem_of_getElem? (i := 122) (by decide +kernel), List.mem_of_getElem? (i := 335) (by decide +kernel), List.mem_of_getElem? (i := 336) (by decide +kernel)⟩
theorem lw_p14 : lw_okq (⟨"StuckSearch$TextReader", "readAct", "(LStuckSearch$Course;)V"⟩, 9) := ⟨⟨by decide +kernel, by decide +kernel⟩, List.mem_of_getElem? (i := 115) (by decide +kernel), List.mem_of_getElem? (i := 339) (by decide +kernel), List.mem_of_getElem? (i := 340) (by decide +kernel)⟩
theorem lw_p15 : lw_okq (⟨"StuckSearch$Course", "isFull", "()Z"⟩, 6) := ⟨⟨by decide +kernel, by decide +kernel⟩, List.mem_of_getElem? (i := 57) (by decide +kernel), List.mem_of_getElem? (i := 343) (by decide +kernel), List.mem_of_getElem? (i := 344) (by decide +kernel)⟩
def lw_privs_1 : List (MethodName × Nat) := [(⟨"StuckSearch$TextReader", "read", "(LStuckSearch$Course;)Z"⟩, 9), (⟨"StuckSearch$Course", "reset", "()V"⟩, 6), (⟨"StuckSearch$TextReader", "beginText", "()V"⟩, 9), (⟨"StuckSearch$Part", "set", "(ZI)V"⟩, 3), (⟨"StuckSearch$TextReader", "readNext", "(LStuckSearch$Course;)V"⟩, 9), (⟨"StuckSearch$Tape", "byteAt", "(I)I"⟩, 2), (⟨"StuckSearch$TextReader", "endChoice", "()V"⟩, 9), (⟨"StuckSearch$Part", "addChoice", "(LStuckSearch$Part;)V"⟩, 3), (⟨"StuckSearch$TextReader", "openText", "()V"⟩, 9), (⟨"StuckSearch$TextReader", "meetFault", "(I)V"⟩, 9), (⟨"StuckSearch$TextReader", "closeText", "(LStuckSearch$Course;)V"⟩, 9), (⟨"StuckSearch$TextReader", "addThing", "(LStuckSearch$Course;LStuckSearch$Part;)V"⟩, 9), (⟨"StuckSearch$Course", "addSteps", "(II)V"⟩, 6), (⟨"StuckSearch$Part", "addBehind", "(LStuckSearch$Part;)V"⟩, 3), (⟨"StuckSearch$TextReader", "readAct", "(LStuckSearch$Course;)V"⟩, 9), (⟨"StuckSearch$Course", "isFull", "()Z"⟩, 6)]
theorem lw_r1 : ∀ q ∈ lw_privs_1, lw_okq q := List.forall_mem_cons.mpr ⟨lw_p0, List.forall_mem_cons.mpr ⟨lw_p1, List.forall_mem_cons.mpr ⟨lw_p2, List.forall_mem_cons.mpr ⟨lw_p3, List.forall_mem_cons.mpr ⟨lw_p4, List.forall_mem_cons.mpr ⟨lw_p5, List.forall_mem_cons.mpr ⟨lw_p6, List.forall_mem_cons.mpr ⟨lw_p7, List.forall_mem_cons.mpr ⟨lw_p8, List.forall_mem_cons.mpr ⟨lw_p9, List.forall_mem_cons.mpr ⟨lw_p10, List.forall_mem_cons.mpr ⟨lw_p11, List.forall_mem_cons.mpr ⟨lw_p12, List.forall_mem_cons.mpr ⟨lw_p13, List.forall_mem_cons.mpr ⟨lw_p14, List.forall_mem_cons.mpr ⟨lw_p15, fun _ h => absurd h List.not_mem_nil⟩⟩⟩⟩⟩⟩⟩⟩⟩⟩⟩⟩⟩⟩⟩⟩
theorem lw_p16 : lw_okq (⟨"StuckSearch$TextReader", "readKind", "()I"⟩, 9) := ⟨⟨by decide +kernel, by decide +kernel⟩, List.mem_of_getElem? (i := 115) (by decide +kernel), List.mem_of_getElem? (i := 347) (by decide +kernel), List.mem_of_getElem? (i := 348) (by decide +kernel)⟩
theorem lw_p17 : lw_okq (⟨"StuckSearch$TextReader", "readFigure", "(I)I"⟩, 9) := ⟨⟨by decide +kernel, by decide +kernel⟩, List.mem_of_getElem? (i := 115) (by decide +kernel), List.mem_of_getElem? (i := 354) (by decide +kernel), List.mem_of_getElem? (i := 355) (by decide +kernel)⟩
theorem lw_p18 : lw_okq (⟨"StuckSearch$Course", "addAct", "(III)I"⟩, 6) := ⟨⟨by decide +kernel, by decide +kernel⟩, List.mem_of_getElem? (i := 57) (by decide +kernel), List.mem_of_getElem? (i := 358) (by decide +kernel), List.mem_of_getElem? (i := 359) (by decide +kernel)⟩
theorem lw_p19 : lw_okq (⟨"StuckSearch$Course", "finish", "(LStuckSearch$Part;)V"⟩, 6) := ⟨⟨by decide +kernel, by decide +kernel⟩, List.mem_of_getElem? (i := 57) (by decide +kernel), List.mem_of_getElem? (i := 362) (by decide +kernel), List.mem_of_getElem? (i := 363) (by decide +kernel)⟩
theorem lw_p20 : lw_okq (⟨"StuckSearch", "beginAnew", "()V"⟩, 6) := ⟨⟨by decide +kernel, by decide +kernel⟩, List.mem_of_getElem? (i := 23) (by decide +kernel), List.mem_of_getElem? (i := 366) (by decide +kernel), List.mem_of_getElem? (i := 367) (by decide +kernel)⟩
theorem lw_p21 : lw_okq (⟨"StuckSearch$Search", "forget", "()V"⟩, 12) := ⟨⟨by decide +kernel, by decide +kernel⟩, List.mem_of_getElem? (i := 174) (by decide +kernel), List.mem_of_getElem? (i := 370) (by decide +kernel), List.mem_of_getElem? (i := 371) (by decide +kernel)⟩
theorem lw_p22 : lw_okq (⟨"StuckSearch", "returnToFirst", "()V"⟩, 6) := ⟨⟨by decide +kernel, by decide +kernel⟩, List.mem_of_getElem? (i := 23) (by decide +kernel), List.mem_of_getElem? (i := 374) (by decide +kernel), List.mem_of_getElem? (i := 375) (by decide +kernel)⟩
theorem lw_p23 : lw_okq (⟨"StuckSearch$World", "putFirst", "(LStuckSearch$State;)V"⟩, 5) := ⟨⟨by decide +kernel, by decide +kernel⟩, List.mem_of_getElem? (i := 47) (by decide +kernel), List.mem_of_getElem? (i := 378) (by decide +kernel), List.mem_of_getElem? (i := 379) (by decide +kernel)⟩
theorem lw_p24 : lw_okq (⟨"StuckSearch$World", "removeAll", "()V"⟩, 5) := ⟨⟨by decide +kernel, by decide +kernel⟩, List.mem_of_getElem? (i := 47) (by decide +kernel), List.mem_of_getElem? (i := 394) (by decide +kernel), List.mem_of_getElem? (i := 395) (by decide +kernel)⟩
theorem lw_p25 : lw_okq (⟨"StuckSearch$World", "isSearchable", "()Z"⟩, 5) := ⟨⟨by decide +kernel, by decide +kernel⟩, List.mem_of_getElem? (i := 47) (by decide +kernel), List.mem_of_getElem? (i := 402) (by decide +kernel), List.mem_of_getElem? (i := 403) (by decide +kernel)⟩
theorem lw_p26 : lw_okq (⟨"StuckSearch$World", "countStates", "()J"⟩, 5) := ⟨⟨by decide +kernel, by decide +kernel⟩, List.mem_of_getElem? (i := 47) (by decide +kernel), List.mem_of_getElem? (i := 406) (by decide +kernel), List.mem_of_getElem? (i := 407) (by decide +kernel)⟩
theorem lw_p27 : lw_okq (⟨"StuckSearch$Search", "findStanding", "()V"⟩, 12) := ⟨⟨by decide +kernel, by decide +kernel⟩, List.mem_of_getElem? (i := 174) (by decide +kernel), List.mem_of_getElem? (i := 416) (by decide +kernel), List.mem_of_getElem? (i := 417) (by decide +kernel)⟩
theorem lw_p28 : lw_okq (⟨"StuckSearch$Search", "weigh", "()V"⟩, 12) := ⟨⟨by decide +kernel, by decide +kernel⟩, List.mem_of_getElem? (i := 174) (by decide +kernel), List.mem_of_getElem? (i := 420) (by decide +kernel), List.mem_of_getElem? (i := 421) (by decide +kernel)⟩
theorem lw_p29 : lw_okq (⟨"StuckSearch$StateSet", "empty", "()V"⟩, 2) := ⟨⟨by decide +kernel, by decide +kernel⟩, List.mem_of_getElem? (i := 180) (by decide +kernel), List.mem_of_getElem? (i := 424) (by decide +kernel), List.mem_of_getElem? (i := 425) (by decide +kernel)⟩
theorem lw_p30 : lw_okq (⟨"StuckSearch$World", "numberOf", "(LStuckSearch$State;)I"⟩, 5) := ⟨⟨by decide +kernel, by decide +kernel⟩, List.mem_of_getElem? (i := 47) (by decide +kernel), List.mem_of_getElem? (i := 432) (by decide +kernel), List.mem_of_getElem? (i := 433) (by decide +kernel)⟩
theorem lw_p31 : lw_okq (⟨"StuckSearch$Search", "reach", "(I)V"⟩, 12) := ⟨⟨by decide +kernel, by decide +kernel⟩, List.mem_of_getElem? (i := 174) (by decide +kernel), List.mem_of_getElem? (i := 436) (by decide +kernel), List.mem_of_getElem? (i := 437) (by decide +kernel)⟩
def lw_privs_2 : List (MethodName × Nat) := [(⟨"StuckSearch$TextReader", "readKind", "()I"⟩, 9), (⟨"StuckSearch$TextReader", "readFigure", "(I)I"⟩, 9), (⟨"StuckSearch$Course", "addAct", "(III)I"⟩, 6), (⟨"StuckSearch$Course", "finish", "(LStuckSearch$Part;)V"⟩, 6), (⟨"StuckSearch", "beginAnew", "()V"⟩, 6), (⟨"StuckSearch$Search", "forget", "()V"⟩, 12), (⟨"StuckSearch", "returnToFirst", "()V"⟩, 6), (⟨"StuckSearch$World", "putFirst", "(LStuckSearch$State;)V"⟩, 5), (⟨"StuckSearch$World", "removeAll", "()V"⟩, 5), (⟨"StuckSearch$World", "isSearchable", "()Z"⟩, 5), (⟨"StuckSearch$World", "countStates", "()J"⟩, 5), (⟨"StuckSearch$Search", "findStanding", "()V"⟩, 12), (⟨"StuckSearch$Search", "weigh", "()V"⟩, 12), (⟨"StuckSearch$StateSet", "empty", "()V"⟩, 2), (⟨"StuckSearch$World", "numberOf", "(LStuckSearch$State;)I"⟩, 5), (⟨"StuckSearch$Search", "reach", "(I)V"⟩, 12)]
theorem lw_r2 : ∀ q ∈ lw_privs_2, lw_okq q := List.forall_mem_cons.mpr ⟨lw_p16, List.forall_mem_cons.mpr ⟨lw_p17, List.forall_mem_cons.mpr ⟨lw_p18, List.forall_mem_cons.mpr ⟨lw_p19, List.forall_mem_cons.mpr ⟨lw_p20, List.forall_mem_cons.mpr ⟨lw_p21, List.forall_mem_cons.mpr ⟨lw_p22, List.forall_mem_cons.mpr ⟨lw_p23, List.forall_mem_cons.mpr ⟨lw_p24, List.forall_mem_cons.mpr ⟨lw_p25, List.forall_mem_cons.mpr ⟨lw_p26, List.forall_mem_cons.mpr ⟨lw_p27, List.forall_mem_cons.mpr ⟨lw_p28, List.forall_mem_cons.mpr ⟨lw_p29, List.forall_mem_cons.mpr ⟨lw_p30, List.forall_mem_cons.mpr ⟨lw_p31, fun _ h => absurd h List.not_mem_nil⟩⟩⟩⟩⟩⟩⟩⟩⟩⟩⟩⟩⟩⟩⟩⟩
theorem lw_p32 : lw_okq (⟨"StuckSearch$StateSet", "contains", "(I)Z"⟩, 2) := ⟨⟨by decide +kernel, by decide +kernel⟩, List.mem_of_getElem? (i := 180) (by decide +kernel), List.mem_of_getElem? (i := 440) (by decide +kernel), List.mem_of_getElem? (i := 441) (by decide +kernel)⟩
theorem lw_p33 : lw_okq (⟨"StuckSearch$StateSet", "add", "(I)V"⟩, 2) := ⟨⟨by decide +kernel, by decide +kernel⟩, List.mem_of_getElem? (i := 180) (by decide +kernel), List.mem_of_getElem? (i := 444) (by decide +kernel), List.mem_of_getElem? (i := 445) (by decide +kernel)⟩
theorem lw_p34 : lw_okq (⟨"StuckSearch$StateSet", "takeLowest", "()I"⟩, 2) := ⟨⟨by decide +kernel, by decide +kernel⟩, List.mem_of_getElem? (i := 180) (by decide +kernel), List.mem_of_getElem? (i := 448) (by decide +kernel), List.mem_of_getElem? (i := 449) (by decide +kernel)⟩
theorem lw_p35 : lw_okq (⟨"StuckSearch$Search", "lookAhead", "(I)V"⟩, 12) := ⟨⟨by decide +kernel, by decide +kernel⟩, List.mem_of_getElem? (i := 174) (by decide +kernel), List.mem_of_getElem? (i := 461) (by decide +kernel), List.mem_of_getElem? (i := 462) (by decide +kernel)⟩
theorem lw_p36 : lw_okq (⟨"StuckSearch$World", "putNumbered", "(ILStuckSearch$State;)V"⟩, 5) := ⟨⟨by decide +kernel, by decide +kernel⟩, List.mem_of_getElem? (i := 47) (by decide +kernel), List.mem_of_getElem? (i := 465) (by decide +kernel), List.mem_of_getElem? (i := 466) (by decide +kernel)⟩
theorem lw_p37 : lw_okq (⟨"StuckSearch$World", "openPlaces", "(LStuckSearch$State;I)I"⟩, 5) := ⟨⟨by decide +kernel, by decide +kernel⟩, List.mem_of_getElem? (i := 47) (by decide +kernel), List.mem_of_getElem? (i := 472) (by decide +kernel), List.mem_of_getElem? (i := 473) (by decide +kernel)⟩
theorem lw_p38 : lw_okq (⟨"StuckSearch$World", "outcome", "(LStuckSearch$State;LStuckSearch$Course;I)I"⟩, 5) := ⟨⟨by decide +kernel, by decide +kernel⟩, List.mem_of_getElem? (i := 47) (by decide +kernel), List.mem_of_getElem? (i := 476) (by decide +kernel), List.mem_of_getElem? (i := 477) (by decide +kernel)⟩
theorem lw_p39 : lw_okq (⟨"StuckSearch$Course", "outcome", "(III)I"⟩, 6) := ⟨⟨by decide +kernel, by decide +kernel⟩, List.mem_of_getElem? (i := 57) (by decide +kernel), List.mem_of_getElem? (i := 480) (by decide +kernel), List.mem_of_getElem? (i := 481) (by decide +kernel)⟩
theorem lw_p40 : lw_okq (⟨"StuckSearch$Search", "reachAll", "(III)V"⟩, 12) := ⟨⟨by decide +kernel, by decide +kernel⟩, List.mem_of_getElem? (i := 174) (by decide +kernel), List.mem_of_getElem? (i := 484) (by decide +kernel), List.mem_of_getElem? (i := 485) (by decide +kernel)⟩
theorem lw_p41 : lw_okq (⟨"StuckSearch$World", "allAtEnds", "(LStuckSearch$State;)Z"⟩, 5) := ⟨⟨by decide +kernel, by decide +kernel⟩, List.mem_of_getElem? (i := 47) (by decide +kernel), List.mem_of_getElem? (i := 489) (by decide +kernel), List.mem_of_getElem? (i := 490) (by decide +kernel)⟩
theorem lw_p42 : lw_okq (⟨"StuckSearch$Course", "isEnd", "(I)Z"⟩, 6) := ⟨⟨by decide +kernel, by decide +kernel⟩, List.mem_of_getElem? (i := 57) (by decide +kernel), List.mem_of_getElem? (i := 493) (by decide +kernel), List.mem_of_getElem? (i := 494) (by decide +kernel)⟩
theorem lw_p43 : lw_okq (⟨"java/lang/Throwable", "fillInStackTrace", "(I)Ljava/lang/Throwable;"⟩, 6) := ⟨⟨by decide +kernel, by decide +kernel⟩, List.mem_of_getElem? (i := 562) (by decide +kernel), List.mem_of_getElem? (i := 560) (by decide +kernel), List.mem_of_getElem? (i := 561) (by decide +kernel)⟩
theorem lw_p44 : lw_okq (⟨"StuckSearch$Tape", "append", "(IJ)Z"⟩, 2) := ⟨⟨by decide +kernel, by decide +kernel⟩, List.mem_of_getElem? (i := 31) (by decide +kernel), List.mem_of_getElem? (i := 591) (by decide +kernel), List.mem_of_getElem? (i := 592) (by decide +kernel)⟩
theorem lw_p45 : lw_okq (⟨"StuckSearch$World", "addVariable", "(II)V"⟩, 5) := ⟨⟨by decide +kernel, by decide +kernel⟩, List.mem_of_getElem? (i := 47) (by decide +kernel), List.mem_of_getElem? (i := 603) (by decide +kernel), List.mem_of_getElem? (i := 604) (by decide +kernel)⟩
theorem lw_p46 : lw_okq (⟨"StuckSearch$Course", "countSteps", "()I"⟩, 6) := ⟨⟨by decide +kernel, by decide +kernel⟩, List.mem_of_getElem? (i := 57) (by decide +kernel), List.mem_of_getElem? (i := 634) (by decide +kernel), List.mem_of_getElem? (i := 635) (by decide +kernel)⟩
theorem lw_p47 : lw_okq (⟨"StuckSearch", "checkSearchable", "()V"⟩, 6) := ⟨⟨by decide +kernel, by decide +kernel⟩, List.mem_of_getElem? (i := 23) (by decide +kernel), List.mem_of_getElem? (i := 648) (by decide +kernel), List.mem_of_getElem? (i := 649) (by decide +kernel)⟩
def lw_privs_3 : List (MethodName × Nat) := [(⟨"StuckSearch$StateSet", "contains", "(I)Z"⟩, 2), (⟨"StuckSearch$StateSet", "add", "(I)V"⟩, 2), (⟨"StuckSearch$StateSet", "takeLowest", "()I"⟩, 2), (⟨"StuckSearch$Search", "lookAhead", "(I)V"⟩, 12), (⟨"StuckSearch$World", "putNumbered", "(ILStuckSearch$State;)V"⟩, 5), (⟨"StuckSearch$World", "openPlaces", "(LStuckSearch$State;I)I"⟩, 5), (⟨"StuckSearch$World", "outcome", "(LStuckSearch$State;LStuckSearch$Course;I)I"⟩, 5), (⟨"StuckSearch$Course", "outcome", "(III)I"⟩, 6), (⟨"StuckSearch$Search", "reachAll", "(III)V"⟩, 12), (⟨"StuckSearch$World", "allAtEnds", "(LStuckSearch$State;)Z"⟩, 5), (⟨"StuckSearch$Course", "isEnd", "(I)Z"⟩, 6), (⟨"java/lang/Throwable", "fillInStackTrace", "(I)Ljava/lang/Throwable;"⟩, 6), (⟨"StuckSearch$Tape", "append", "(IJ)Z"⟩, 2), (⟨"StuckSearch$World", "addVariable", "(II)V"⟩, 5), (⟨"StuckSearch$Course", "countSteps", "()I"⟩, 6), (⟨"StuckSearch", "checkSearchable", "()V"⟩, 6)]
theorem lw_r3 : ∀ q ∈ lw_privs_3, lw_okq q := List.forall_mem_cons.mpr ⟨lw_p32, List.forall_mem_cons.mpr ⟨lw_p33, List.forall_mem_cons.mpr ⟨lw_p34, List.forall_mem_cons.mpr ⟨lw_p35, List.forall_mem_cons.mpr ⟨lw_p36, List.forall_mem_cons.mpr ⟨lw_p37, List.forall_mem_cons.mpr ⟨lw_p38, List.forall_mem_cons.mpr ⟨lw_p39, List.forall_mem_cons.mpr ⟨lw_p40, List.forall_mem_cons.mpr ⟨lw_p41, List.forall_mem_cons.mpr ⟨lw_p42, List.forall_mem_cons.mpr ⟨lw_p43, List.forall_mem_cons.mpr ⟨lw_p44, List.forall_mem_cons.mpr ⟨lw_p45, List.forall_mem_cons.mpr ⟨lw_p46, List.forall_mem_cons.mpr ⟨lw_p47, fun _ h => absurd h List.not_mem_nil⟩⟩⟩⟩⟩⟩⟩⟩⟩⟩⟩⟩⟩⟩⟩⟩
theorem lw_p48 : lw_okq (⟨"StuckSearch$Search", "standingState", "(I)LStuckSearch$State;"⟩, 12) := ⟨⟨by decide +kernel, by decide +kernel⟩, List.mem_of_getElem? (i := 174) (by decide +kernel), List.mem_of_getElem? (i := 668) (by decide +kernel), List.mem_of_getElem? (i := 669) (by decide +kernel)⟩
theorem lw_p49 : lw_okq (⟨"StuckSearch$StateSet", "nth", "(I)I"⟩, 2) := ⟨⟨by decide +kernel, by decide +kernel⟩, List.mem_of_getElem? (i := 180) (by decide +kernel), List.mem_of_getElem? (i := 672) (by decide +kernel), List.mem_of_getElem? (i := 673) (by decide +kernel)⟩
theorem lw_p50 : lw_okq (⟨"StuckSearch$World", "go", "(LStuckSearch$State;II)V"⟩, 5) := ⟨⟨by decide +kernel, by decide +kernel⟩, List.mem_of_getElem? (i := 47) (by decide +kernel), List.mem_of_getElem? (i := 692) (by decide +kernel), List.mem_of_getElem? (i := 693) (by decide +kernel)⟩
theorem lw_p51 : lw_okq (⟨"StuckSearch$Search", "findFalling", "()V"⟩, 12) := ⟨⟨by decide +kernel, by decide +kernel⟩, List.mem_of_getElem? (i := 174) (by decide +kernel), List.mem_of_getElem? (i := 718) (by decide +kernel), List.mem_of_getElem? (i := 719) (by decide +kernel)⟩
theorem lw_p52 : lw_okq (⟨"StuckSearch$StateSet", "copyFrom", "(LStuckSearch$StateSet;)V"⟩, 2) := ⟨⟨by decide +kernel, by decide +kernel⟩, List.mem_of_getElem? (i := 180) (by decide +kernel), List.mem_of_getElem? (i := 723) (by decide +kernel), List.mem_of_getElem? (i := 724) (by decide +kernel)⟩
theorem lw_p53 : lw_okq (⟨"StuckSearch$Search", "lookBack", "(I)V"⟩, 12) := ⟨⟨by decide +kernel, by decide +kernel⟩, List.mem_of_getElem? (i := 174) (by decide +kernel), List.mem_of_getElem? (i := 730) (by decide +kernel), List.mem_of_getElem? (i := 731) (by decide +kernel)⟩
theorem lw_p54 : lw_okq (⟨"StuckSearch$Search", "undoAct", "(III)V"⟩, 12) := ⟨⟨by decide +kernel, by decide +kernel⟩, List.mem_of_getElem? (i := 174) (by decide +kernel), List.mem_of_getElem? (i := 734) (by decide +kernel), List.mem_of_getElem? (i := 735) (by decide +kernel)⟩
theorem lw_p55 : lw_okq (⟨"StuckSearch$Search", "undoStep", "(III)V"⟩, 12) := ⟨⟨by decide +kernel, by decide +kernel⟩, List.mem_of_getElem? (i := 174) (by decide +kernel), List.mem_of_getElem? (i := 739) (by decide +kernel), List.mem_of_getElem? (i := 740) (by decide +kernel)⟩
theorem lw_p56 : lw_okq (⟨"StuckSearch$Search", "fall", "(I)V"⟩, 12) := ⟨⟨by decide +kernel, by decide +kernel⟩, List.mem_of_getElem? (i := 174) (by decide +kernel), List.mem_of_getElem? (i := 743) (by decide +kernel), List.mem_of_getElem? (i := 744) (by decide +kernel)⟩
theorem lw_p57 : lw_okq (⟨"StuckSearchModel", "begin", "()V"⟩, 41) := ⟨⟨by decide +kernel, by decide +kernel⟩, List.mem_of_getElem? (i := 749) (by decide +kernel), List.mem_of_getElem? (i := 897) (by decide +kernel), List.mem_of_getElem? (i := 898) (by decide +kernel)⟩
theorem lw_p58 : lw_okq (⟨"StuckSearchModel", "beginChoices", "()V"⟩, 41) := ⟨⟨by decide +kernel, by decide +kernel⟩, List.mem_of_getElem? (i := 749) (by decide +kernel), List.mem_of_getElem? (i := 909) (by decide +kernel), List.mem_of_getElem? (i := 910) (by decide +kernel)⟩
theorem lw_p59 : lw_okq (⟨"StuckSearchModel", "beginRow", "()V"⟩, 41) := ⟨⟨by decide +kernel, by decide +kernel⟩, List.mem_of_getElem? (i := 749) (by decide +kernel), List.mem_of_getElem? (i := 913) (by decide +kernel), List.mem_of_getElem? (i := 914) (by decide +kernel)⟩
theorem lw_p60 : lw_okq (⟨"StuckSearchModel", "step", "()V"⟩, 41) := ⟨⟨by decide +kernel, by decide +kernel⟩, List.mem_of_getElem? (i := 749) (by decide +kernel), List.mem_of_getElem? (i := 917) (by decide +kernel), List.mem_of_getElem? (i := 918) (by decide +kernel)⟩
theorem lw_p61 : lw_okq (⟨"StuckSearchModel", "byteAt", "(I)I"⟩, 41) := ⟨⟨by decide +kernel, by decide +kernel⟩, List.mem_of_getElem? (i := 749) (by decide +kernel), List.mem_of_getElem? (i := 921) (by decide +kernel), List.mem_of_getElem? (i := 922) (by decide +kernel)⟩
theorem lw_p62 : lw_okq (⟨"StuckSearchModel", "fail", "(II)V"⟩, 41) := ⟨⟨by decide +kernel, by decide +kernel⟩, List.mem_of_getElem? (i := 749) (by decide +kernel), List.mem_of_getElem? (i := 925) (by decide +kernel), List.mem_of_getElem? (i := 926) (by decide +kernel)⟩
theorem lw_p63 : lw_okq (⟨"StuckSearchModel", "endRow", "()V"⟩, 41) := ⟨⟨by decide +kernel, by decide +kernel⟩, List.mem_of_getElem? (i := 749) (by decide +kernel), List.mem_of_getElem? (i := 929) (by decide +kernel), List.mem_of_getElem? (i := 930) (by decide +kernel)⟩
def lw_privs_4 : List (MethodName × Nat) := [(⟨"StuckSearch$Search", "standingState", "(I)LStuckSearch$State;"⟩, 12), (⟨"StuckSearch$StateSet", "nth", "(I)I"⟩, 2), (⟨"StuckSearch$World", "go", "(LStuckSearch$State;II)V"⟩, 5), (⟨"StuckSearch$Search", "findFalling", "()V"⟩, 12), (⟨"StuckSearch$StateSet", "copyFrom", "(LStuckSearch$StateSet;)V"⟩, 2), (⟨"StuckSearch$Search", "lookBack", "(I)V"⟩, 12), (⟨"StuckSearch$Search", "undoAct", "(III)V"⟩, 12), (⟨"StuckSearch$Search", "undoStep", "(III)V"⟩, 12), (⟨"StuckSearch$Search", "fall", "(I)V"⟩, 12), (⟨"StuckSearchModel", "begin", "()V"⟩, 41), (⟨"StuckSearchModel", "beginChoices", "()V"⟩, 41), (⟨"StuckSearchModel", "beginRow", "()V"⟩, 41), (⟨"StuckSearchModel", "step", "()V"⟩, 41), (⟨"StuckSearchModel", "byteAt", "(I)I"⟩, 41), (⟨"StuckSearchModel", "fail", "(II)V"⟩, 41), (⟨"StuckSearchModel", "endRow", "()V"⟩, 41)]
theorem lw_r4 : ∀ q ∈ lw_privs_4, lw_okq q := List.forall_mem_cons.mpr ⟨lw_p48, List.forall_mem_cons.mpr ⟨lw_p49, List.forall_mem_cons.mpr ⟨lw_p50, List.forall_mem_cons.mpr ⟨lw_p51, List.forall_mem_cons.mpr ⟨lw_p52, List.forall_mem_cons.mpr ⟨lw_p53, List.forall_mem_cons.mpr ⟨lw_p54, List.forall_mem_cons.mpr ⟨lw_p55, List.forall_mem_cons.mpr ⟨lw_p56, List.forall_mem_cons.mpr ⟨lw_p57, List.forall_mem_cons.mpr ⟨lw_p58, List.forall_mem_cons.mpr ⟨lw_p59, List.forall_mem_cons.mpr ⟨lw_p60, List.forall_mem_cons.mpr ⟨lw_p61, List.forall_mem_cons.mpr ⟨lw_p62, List.forall_mem_cons.mpr ⟨lw_p63, fun _ h => absurd h List.not_mem_nil⟩⟩⟩⟩⟩⟩⟩⟩⟩⟩⟩⟩⟩⟩⟩⟩
theorem lw_p64 : lw_okq (⟨"StuckSearchModel", "take", "()V"⟩, 41) := ⟨⟨by decide +kernel, by decide +kernel⟩, List.mem_of_getElem? (i := 749) (by decide +kernel), List.mem_of_getElem? (i := 933) (by decide +kernel), List.mem_of_getElem? (i := 934) (by decide +kernel)⟩
theorem lw_p65 : lw_okq (⟨"StuckSearchModel", "lead", "(II)V"⟩, 41) := ⟨⟨by decide +kernel, by decide +kernel⟩, List.mem_of_getElem? (i := 749) (by decide +kernel), List.mem_of_getElem? (i := 937) (by decide +kernel), List.mem_of_getElem? (i := 938) (by decide +kernel)⟩
theorem lw_p66 : lw_okq (⟨"StuckSearchModel", "readAct", "()V"⟩, 41) := ⟨⟨by decide +kernel, by decide +kernel⟩, List.mem_of_getElem? (i := 749) (by decide +kernel), List.mem_of_getElem? (i := 941) (by decide +kernel), List.mem_of_getElem? (i := 942) (by decide +kernel)⟩
theorem lw_p67 : lw_okq (⟨"StuckSearchModel", "act", "(III)V"⟩, 41) := ⟨⟨by decide +kernel, by decide +kernel⟩, List.mem_of_getElem? (i := 749) (by decide +kernel), List.mem_of_getElem? (i := 945) (by decide +kernel), List.mem_of_getElem? (i := 946) (by decide +kernel)⟩
theorem lw_p68 : lw_okq (⟨"StuckSearchModel", "noProcess", "(I)Z"⟩, 41) := ⟨⟨by decide +kernel, by decide +kernel⟩, List.mem_of_getElem? (i := 749) (by decide +kernel), List.mem_of_getElem? (i := 961) (by decide +kernel), List.mem_of_getElem? (i := 962) (by decide +kernel)⟩
theorem lw_p69 : lw_okq (⟨"StuckSearchModel", "fromNow", "()V"⟩, 41) := ⟨⟨by decide +kernel, by decide +kernel⟩, List.mem_of_getElem? (i := 749) (by decide +kernel), List.mem_of_getElem? (i := 972) (by decide +kernel), List.mem_of_getElem? (i := 973) (by decide +kernel)⟩
theorem lw_p70 : lw_okq (⟨"StuckSearchModel", "possible", "()I"⟩, 41) := ⟨⟨by decide +kernel, by decide +kernel⟩, List.mem_of_getElem? (i := 749) (by decide +kernel), List.mem_of_getElem? (i := 976) (by decide +kernel), List.mem_of_getElem? (i := 977) (by decide +kernel)⟩
theorem lw_p71 : lw_okq (⟨"StuckSearchModel", "goes", "(II)Z"⟩, 41) := ⟨⟨by decide +kernel, by decide +kernel⟩, List.mem_of_getElem? (i := 749) (by decide +kernel), List.mem_of_getElem? (i := 980) (by decide +kernel), List.mem_of_getElem? (i := 981) (by decide +kernel)⟩
theorem lw_p72 : lw_okq (⟨"StuckSearchModel", "know", "()V"⟩, 41) := ⟨⟨by decide +kernel, by decide +kernel⟩, List.mem_of_getElem? (i := 749) (by decide +kernel), List.mem_of_getElem? (i := 1009) (by decide +kernel), List.mem_of_getElem? (i := 1010) (by decide +kernel)⟩
theorem lw_p73 : lw_okq (⟨"StuckSearchModel", "number", "([I)I"⟩, 41) := ⟨⟨by decide +kernel, by decide +kernel⟩, List.mem_of_getElem? (i := 749) (by decide +kernel), List.mem_of_getElem? (i := 1013) (by decide +kernel), List.mem_of_getElem? (i := 1014) (by decide +kernel)⟩
theorem lw_p74 : lw_okq (⟨"StuckSearchModel", "walk", "(I)V"⟩, 41) := ⟨⟨by decide +kernel, by decide +kernel⟩, List.mem_of_getElem? (i := 749) (by decide +kernel), List.mem_of_getElem? (i := 1017) (by decide +kernel), List.mem_of_getElem? (i := 1018) (by decide +kernel)⟩
theorem lw_p75 : lw_okq (⟨"StuckSearchModel", "apart", "(I)V"⟩, 41) := ⟨⟨by decide +kernel, by decide +kernel⟩, List.mem_of_getElem? (i := 749) (by decide +kernel), List.mem_of_getElem? (i := 1021) (by decide +kernel), List.mem_of_getElem? (i := 1022) (by decide +kernel)⟩
def lw_privs_5 : List (MethodName × Nat) := [(⟨"StuckSearchModel", "take", "()V"⟩, 41), (⟨"StuckSearchModel", "lead", "(II)V"⟩, 41), (⟨"StuckSearchModel", "readAct", "()V"⟩, 41), (⟨"StuckSearchModel", "act", "(III)V"⟩, 41), (⟨"StuckSearchModel", "noProcess", "(I)Z"⟩, 41), (⟨"StuckSearchModel", "fromNow", "()V"⟩, 41), (⟨"StuckSearchModel", "possible", "()I"⟩, 41), (⟨"StuckSearchModel", "goes", "(II)Z"⟩, 41), (⟨"StuckSearchModel", "know", "()V"⟩, 41), (⟨"StuckSearchModel", "number", "([I)I"⟩, 41), (⟨"StuckSearchModel", "walk", "(I)V"⟩, 41), (⟨"StuckSearchModel", "apart", "(I)V"⟩, 41)]
theorem lw_r5 : ∀ q ∈ lw_privs_5, lw_okq q := List.forall_mem_cons.mpr ⟨lw_p64, List.forall_mem_cons.mpr ⟨lw_p65, List.forall_mem_cons.mpr ⟨lw_p66, List.forall_mem_cons.mpr ⟨lw_p67, List.forall_mem_cons.mpr ⟨lw_p68, List.forall_mem_cons.mpr ⟨lw_p69, List.forall_mem_cons.mpr ⟨lw_p70, List.forall_mem_cons.mpr ⟨lw_p71, List.forall_mem_cons.mpr ⟨lw_p72, List.forall_mem_cons.mpr ⟨lw_p73, List.forall_mem_cons.mpr ⟨lw_p74, List.forall_mem_cons.mpr ⟨lw_p75, fun _ h => absurd h List.not_mem_nil⟩⟩⟩⟩⟩⟩⟩⟩⟩⟩⟩⟩
def lw_privs : List (MethodName × Nat) := lw_privs_1 ++ (lw_privs_2 ++ (lw_privs_3 ++ (lw_privs_4 ++ (lw_privs_5))))
def lw_tbl : List Cond := k2_sels lw_privs ++ tables_1
theorem lw_privs_ok : ∀ q ∈ lw_privs, lw_okq q := by
  show ∀ q ∈ lw_privs_1 ++ (lw_privs_2 ++ (lw_privs_3 ++ (lw_privs_4 ++ (lw_privs_5)))), lw_okq q
  exact List.forall_mem_append.mpr ⟨lw_r1, List.forall_mem_append.mpr ⟨lw_r2, List.forall_mem_append.mpr ⟨lw_r3, List.forall_mem_append.mpr ⟨lw_r4, lw_r5⟩⟩⟩⟩
end
section
/-! names, printed by gen/names.py out of the Statement: words, classes, methods -/
section NAMES
theorem q_by {big ws : List Jvm.Cond} (ps : List Nat) (hp : ws = ps.filterMap (fun i => big[i]?)) : ∀ w ∈ ws, w ∈ big := by
  intro w hw
  rw [hp] at hw
  obtain ⟨i, -, hi⟩ := List.mem_filterMap.mp hw
  exact List.mem_of_getElem? hi
def q_gz : List Jvm.Cond := [.isRef (.static "java/lang/Throwable" "UNASSIGNED_STACK" "[Ljava/lang/StackTraceElement;"), .isRef (.static "java/lang/Throwable" "SUPPRESSED_SENTINEL" "Ljava/util/List;")]
def q_gw : List Jvm.Cond := tables_1 ++ (k2_sels lw_privs ++ q_gz)
theorem q_i {w : Jvm.Cond} (i : Nat) (h : tables_1[i]? = some w) : w ∈ q_gw := List.mem_append_left _ (List.mem_of_getElem? h)
theorem q_iz {w : Jvm.Cond} (i : Nat) (h : q_gz[i]? = some w) : w ∈ q_gw := List.mem_append_right _ (List.mem_append_right _ (List.mem_of_getElem? h))
theorem q_is {w : Jvm.Cond} (i : Nat) (h : (k2_sels lw_privs)[i]? = some w) : w ∈ q_gw := List.mem_append_right _ (List.mem_append_left _ (List.mem_of_getElem? h))
def q_T0 : u_T := fun k => match k with
  | 0 => ("StuckSearch", "tape", "LStuckSearch$Tape;", true)
  | 1 => ("StuckSearch", "world", "LStuckSearch$World;", true)
  | 2 => ("StuckSearch", "reader", "LStuckSearch$TextReader;", true)
  | 3 => ("StuckSearch", "search", "LStuckSearch$Search;", true)
  | 4 => ("StuckSearch", "current", "LStuckSearch$State;", true)
  | _ => ("StuckSearch", "stepsGone", "I", false)
def q_f0 : Nat → FieldType := fun k => match k with
  | 0 => (.object "StuckSearch$Tape")
  | 1 => (.object "StuckSearch$World")
  | 2 => (.object "StuckSearch$TextReader")
  | 3 => (.object "StuckSearch$Search")
  | 4 => (.object "StuckSearch$State")
  | _ => .int
theorem q_n0 : ∀ a, a < 6 → ∀ b, b < 6 → a ≠ b → (q_T0 a).2.1 ≠ (q_T0 b).2.1 := by decide +kernel
theorem q_y0 : ∀ k, k < 6 → parseFieldDescriptor (q_T0 k).2.2.1 = some (q_f0 k) := by decide +kernel
set_option maxRecDepth 100000 in
theorem q_u0 : ∀ w ∈ u_ws "StuckSearch" q_T0 6, w ∈ q_gw := fun w hw => List.mem_append_left _ (q_by [260, 262, 264, 266, 268, 270] (by rfl) w hw)
def q_T1 : u_T := fun k => match k with
  | 0 => ("StuckSearch$Tape", "bytes", "[B", true)
  | _ => ("StuckSearch$Tape", "length", "I", false)
def q_f1 : Nat → FieldType := fun k => match k with
  | 0 => (.array .byte)
  | _ => .int
theorem q_n1 : ∀ a, a < 2 → ∀ b, b < 2 → a ≠ b → (q_T1 a).2.1 ≠ (q_T1 b).2.1 := by decide +kernel
theorem q_y1 : ∀ k, k < 2 → parseFieldDescriptor (q_T1 k).2.2.1 = some (q_f1 k) := by decide +kernel
set_option maxRecDepth 100000 in
theorem q_u1 : ∀ w ∈ u_ws "StuckSearch$Tape" q_T1 2, w ∈ q_gw := fun w hw => List.mem_append_left _ (q_by [40, 42] (by rfl) w hw)
def q_T2 : u_T := fun k => match k with
  | 0 => ("StuckSearch$World", "sizes", "[I", true)
  | 1 => ("StuckSearch$World", "firsts", "[I", true)
  | 2 => ("StuckSearch$World", "variableCount", "I", false)
  | 3 => ("StuckSearch$World", "courses", "[LStuckSearch$Course;", true)
  | _ => ("StuckSearch$World", "processCount", "I", false)
def q_f2 : Nat → FieldType := fun k => match k with
  | 0 => (.array .int)
  | 1 => (.array .int)
  | 2 => .int
  | 3 => (.array (.object "StuckSearch$Course"))
  | _ => .int
theorem q_n2 : ∀ a, a < 5 → ∀ b, b < 5 → a ≠ b → (q_T2 a).2.1 ≠ (q_T2 b).2.1 := by decide +kernel
theorem q_y2 : ∀ k, k < 5 → parseFieldDescriptor (q_T2 k).2.2.1 = some (q_f2 k) := by decide +kernel
set_option maxRecDepth 100000 in
theorem q_u2 : ∀ w ∈ u_ws "StuckSearch$World" q_T2 5, w ∈ q_gw := fun w hw => List.mem_append_left _ (q_by [103, 105, 107, 109, 111] (by rfl) w hw)
def q_T3 : u_T := fun k => match k with
  | 0 => ("StuckSearch$Course", "placeCount", "I", false)
  | 1 => ("StuckSearch$Course", "ends", "I", false)
  | 2 => ("StuckSearch$Course", "steps", "[I", true)
  | 3 => ("StuckSearch$Course", "kinds", "[I", true)
  | 4 => ("StuckSearch$Course", "variables", "[I", true)
  | _ => ("StuckSearch$Course", "figures", "[I", true)
def q_f3 : Nat → FieldType := fun k => match k with
  | 0 => .int
  | 1 => .int
  | 2 => (.array .int)
  | 3 => (.array .int)
  | 4 => (.array .int)
  | _ => (.array .int)
theorem q_n3 : ∀ a, a < 6 → ∀ b, b < 6 → a ≠ b → (q_T3 a).2.1 ≠ (q_T3 b).2.1 := by decide +kernel
theorem q_y3 : ∀ k, k < 6 → parseFieldDescriptor (q_T3 k).2.2.1 = some (q_f3 k) := by decide +kernel
set_option maxRecDepth 100000 in
theorem q_u3 : ∀ w ∈ u_ws "StuckSearch$Course" q_T3 6, w ∈ q_gw := fun w hw => List.mem_append_left _ (q_by [76, 78, 80, 82, 84, 86] (by rfl) w hw)
def q_T4 : u_T := fun k => match k with
  | 0 => ("StuckSearch$TextReader", "tape", "LStuckSearch$Tape;", true)
  | 1 => ("StuckSearch$TextReader", "world", "LStuckSearch$World;", true)
  | 2 => ("StuckSearch$TextReader", "choices", "[LStuckSearch$Part;", true)
  | 3 => ("StuckSearch$TextReader", "rows", "[LStuckSearch$Part;", true)
  | 4 => ("StuckSearch$TextReader", "act", "LStuckSearch$Part;", true)
  | 5 => ("StuckSearch$TextReader", "depth", "I", false)
  | 6 => ("StuckSearch$TextReader", "at", "I", false)
  | 7 => ("StuckSearch$TextReader", "faultKind", "I", false)
  | _ => ("StuckSearch$TextReader", "faultPlace", "I", false)
def q_f4 : Nat → FieldType := fun k => match k with
  | 0 => (.object "StuckSearch$Tape")
  | 1 => (.object "StuckSearch$World")
  | 2 => (.array (.object "StuckSearch$Part"))
  | 3 => (.array (.object "StuckSearch$Part"))
  | 4 => (.object "StuckSearch$Part")
  | 5 => .int
  | 6 => .int
  | 7 => .int
  | _ => .int
theorem q_n4 : ∀ a, a < 9 → ∀ b, b < 9 → a ≠ b → (q_T4 a).2.1 ≠ (q_T4 b).2.1 := by decide +kernel
theorem q_y4 : ∀ k, k < 9 → parseFieldDescriptor (q_T4 k).2.2.1 = some (q_f4 k) := by decide +kernel
set_option maxRecDepth 100000 in
theorem q_u4 : ∀ w ∈ u_ws "StuckSearch$TextReader" q_T4 9, w ∈ q_gw := fun w hw => List.mem_append_left _ (q_by [154, 156, 158, 160, 162, 164, 166, 168, 170] (by rfl) w hw)
def q_T5 : u_T := fun k => match k with
  | 0 => ("StuckSearch$Part", "canBeNothing", "Z", false)
  | 1 => ("StuckSearch$Part", "first", "I", false)
  | _ => ("StuckSearch$Part", "last", "I", false)
def q_f5 : Nat → FieldType := fun k => match k with
  | 0 => .boolean
  | 1 => .int
  | _ => .int
theorem q_n5 : ∀ a, a < 3 → ∀ b, b < 3 → a ≠ b → (q_T5 a).2.1 ≠ (q_T5 b).2.1 := by decide +kernel
theorem q_y5 : ∀ k, k < 3 → parseFieldDescriptor (q_T5 k).2.2.1 = some (q_f5 k) := by decide +kernel
set_option maxRecDepth 100000 in
theorem q_u5 : ∀ w ∈ u_ws "StuckSearch$Part" q_T5 3, w ∈ q_gw := fun w hw => List.mem_append_left _ (q_by [136, 138, 140] (by rfl) w hw)
def q_T6 : u_T := fun k => match k with
  | 0 => ("StuckSearch$Search", "world", "LStuckSearch$World;", true)
  | 1 => ("StuckSearch$Search", "reached", "LStuckSearch$StateSet;", true)
  | 2 => ("StuckSearch$Search", "standing", "LStuckSearch$StateSet;", true)
  | 3 => ("StuckSearch$Search", "falling", "LStuckSearch$StateSet;", true)
  | 4 => ("StuckSearch$Search", "waiting", "LStuckSearch$StateSet;", true)
  | 5 => ("StuckSearch$Search", "seen", "LStuckSearch$State;", true)
  | 6 => ("StuckSearch$Search", "placeWeights", "[I", true)
  | 7 => ("StuckSearch$Search", "valueWeights", "[I", true)
  | 8 => ("StuckSearch$Search", "standingCount", "I", false)
  | 9 => ("StuckSearch$Search", "endedCount", "I", false)
  | 10 => ("StuckSearch$Search", "standingKnown", "Z", false)
  | _ => ("StuckSearch$Search", "fallingKnown", "Z", false)
def q_f6 : Nat → FieldType := fun k => match k with
  | 0 => (.object "StuckSearch$World")
  | 1 => (.object "StuckSearch$StateSet")
  | 2 => (.object "StuckSearch$StateSet")
  | 3 => (.object "StuckSearch$StateSet")
  | 4 => (.object "StuckSearch$StateSet")
  | 5 => (.object "StuckSearch$State")
  | 6 => (.array .int)
  | 7 => (.array .int)
  | 8 => .int
  | 9 => .int
  | 10 => .boolean
  | _ => .boolean
theorem q_n6 : ∀ a, a < 12 → ∀ b, b < 12 → a ≠ b → (q_T6 a).2.1 ≠ (q_T6 b).2.1 := by decide +kernel
theorem q_y6 : ∀ k, k < 12 → parseFieldDescriptor (q_T6 k).2.2.1 = some (q_f6 k) := by decide +kernel
set_option maxRecDepth 100000 in
theorem q_u6 : ∀ w ∈ u_ws "StuckSearch$Search" q_T6 12, w ∈ q_gw := fun w hw => List.mem_append_left _ (q_by [227, 229, 231, 233, 235, 237, 239, 241, 243, 245, 247, 249] (by rfl) w hw)
def q_T7 : u_T := fun k => match k with
  | 0 => ("StuckSearch$StateSet", "words", "[J", true)
  | _ => ("StuckSearch$StateSet", "lowest", "I", false)
def q_f7 : Nat → FieldType := fun k => match k with
  | 0 => (.array .long)
  | _ => .int
theorem q_n7 : ∀ a, a < 2 → ∀ b, b < 2 → a ≠ b → (q_T7 a).2.1 ≠ (q_T7 b).2.1 := by decide +kernel
theorem q_y7 : ∀ k, k < 2 → parseFieldDescriptor (q_T7 k).2.2.1 = some (q_f7 k) := by decide +kernel
set_option maxRecDepth 100000 in
theorem q_u7 : ∀ w ∈ u_ws "StuckSearch$StateSet" q_T7 2, w ∈ q_gw := fun w hw => List.mem_append_left _ (q_by [187, 189] (by rfl) w hw)
def q_T8 : u_T := fun k => match k with
  | 0 => ("StuckSearch$State", "places", "[I", true)
  | _ => ("StuckSearch$State", "values", "[I", true)
def q_f8 : Nat → FieldType := fun k => match k with
  | 0 => (.array .int)
  | _ => (.array .int)
theorem q_n8 : ∀ a, a < 2 → ∀ b, b < 2 → a ≠ b → (q_T8 a).2.1 ≠ (q_T8 b).2.1 := by decide +kernel
theorem q_y8 : ∀ k, k < 2 → parseFieldDescriptor (q_T8 k).2.2.1 = some (q_f8 k) := by decide +kernel
set_option maxRecDepth 100000 in
theorem q_u8 : ∀ w ∈ u_ws "StuckSearch$State" q_T8 2, w ∈ q_gw := fun w hw => List.mem_append_left _ (q_by [207, 209] (by rfl) w hw)
def q_T9 : u_T := fun k => match k with
  | 0 => ("StuckSearchModel", "thrown", "I", false)
  | 1 => ("StuckSearchModel", "tape", "[I", true)
  | 2 => ("StuckSearchModel", "size", "I", false)
  | 3 => ("StuckSearchModel", "fault", "I", false)
  | 4 => ("StuckSearchModel", "faultPlace", "I", false)
  | 5 => ("StuckSearchModel", "variables", "I", false)
  | 6 => ("StuckSearchModel", "sizes", "[I", true)
  | 7 => ("StuckSearchModel", "firsts", "[I", true)
  | 8 => ("StuckSearchModel", "processes", "I", false)
  | 9 => ("StuckSearchModel", "places", "[I", true)
  | 10 => ("StuckSearchModel", "ends", "[I", true)
  | 11 => ("StuckSearchModel", "follow", "[I", true)
  | 12 => ("StuckSearchModel", "acts", "[I", true)
  | 13 => ("StuckSearchModel", "actVariables", "[I", true)
  | 14 => ("StuckSearchModel", "actFigures", "[I", true)
  | 15 => ("StuckSearchModel", "at", "I", false)
  | 16 => ("StuckSearchModel", "count", "I", false)
  | 17 => ("StuckSearchModel", "newFollow", "[I", true)
  | 18 => ("StuckSearchModel", "newActs", "[I", true)
  | 19 => ("StuckSearchModel", "newVariables", "[I", true)
  | 20 => ("StuckSearchModel", "newFigures", "[I", true)
  | 21 => ("StuckSearchModel", "open", "I", false)
  | 22 => ("StuckSearchModel", "choicesNothing", "[Z", true)
  | 23 => ("StuckSearchModel", "choicesFirst", "[I", true)
  | 24 => ("StuckSearchModel", "choicesLast", "[I", true)
  | 25 => ("StuckSearchModel", "rowNothing", "[Z", true)
  | 26 => ("StuckSearchModel", "rowFirst", "[I", true)
  | 27 => ("StuckSearchModel", "rowLast", "[I", true)
  | 28 => ("StuckSearchModel", "nothing", "Z", false)
  | 29 => ("StuckSearchModel", "first", "I", false)
  | 30 => ("StuckSearchModel", "last", "I", false)
  | 31 => ("StuckSearchModel", "now", "[I", true)
  | 32 => ("StuckSearchModel", "state", "[I", true)
  | 33 => ("StuckSearchModel", "next", "[I", true)
  | 34 => ("StuckSearchModel", "gone", "I", false)
  | 35 => ("StuckSearchModel", "seen", "[Z", true)
  | 36 => ("StuckSearchModel", "queue", "[I", true)
  | 37 => ("StuckSearchModel", "known", "Z", false)
  | 38 => ("StuckSearchModel", "found", "[I", true)
  | 39 => ("StuckSearchModel", "foundCount", "I", false)
  | _ => ("StuckSearchModel", "endedCount", "I", false)
def q_f9 : Nat → FieldType := fun k => match k with
  | 0 => .int
  | 1 => (.array .int)
  | 2 => .int
  | 3 => .int
  | 4 => .int
  | 5 => .int
  | 6 => (.array .int)
  | 7 => (.array .int)
  | 8 => .int
  | 9 => (.array .int)
  | 10 => (.array .int)
  | 11 => (.array .int)
  | 12 => (.array .int)
  | 13 => (.array .int)
  | 14 => (.array .int)
  | 15 => .int
  | 16 => .int
  | 17 => (.array .int)
  | 18 => (.array .int)
  | 19 => (.array .int)
  | 20 => (.array .int)
  | 21 => .int
  | 22 => (.array .boolean)
  | 23 => (.array .int)
  | 24 => (.array .int)
  | 25 => (.array .boolean)
  | 26 => (.array .int)
  | 27 => (.array .int)
  | 28 => .boolean
  | 29 => .int
  | 30 => .int
  | 31 => (.array .int)
  | 32 => (.array .int)
  | 33 => (.array .int)
  | 34 => .int
  | 35 => (.array .boolean)
  | 36 => (.array .int)
  | 37 => .boolean
  | 38 => (.array .int)
  | 39 => .int
  | _ => .int
theorem q_n9 : ∀ a, a < 41 → ∀ b, b < 41 → a ≠ b → (q_T9 a).2.1 ≠ (q_T9 b).2.1 := by decide +kernel
theorem q_y9 : ∀ k, k < 41 → parseFieldDescriptor (q_T9 k).2.2.1 = some (q_f9 k) := by decide +kernel
set_option maxRecDepth 100000 in
theorem q_u9 : ∀ w ∈ u_ws "StuckSearchModel" q_T9 41, w ∈ q_gw := fun w hw => List.mem_append_left _ (q_by [795, 797, 799, 801, 803, 805, 807, 809, 811, 813, 815, 817, 819, 821, 823, 825, 827, 829, 831, 833, 835, 837, 839, 841, 843, 845, 847, 849, 851, 853, 855, 857, 859, 861, 863, 865, 867, 869, 871, 873, 875] (by rfl) w hw)
def q_T10 : u_T := fun k => match k with
  | _ => ("", "", "", false)
def q_f10 : Nat → FieldType := fun k => match k with
  | _ => .int
theorem q_n10 : ∀ a, a < 0 → ∀ b, b < 0 → a ≠ b → (q_T10 a).2.1 ≠ (q_T10 b).2.1 := by decide +kernel
theorem q_y10 : ∀ k, k < 0 → parseFieldDescriptor (q_T10 k).2.2.1 = some (q_f10 k) := by decide +kernel
set_option maxRecDepth 100000 in
theorem q_u10 : ∀ w ∈ u_ws "java/lang/IllegalArgumentException" q_T10 0, w ∈ q_gw := fun w hw => List.mem_append_left _ (q_by [] (by rfl) w hw)
def q_T11 : u_T := fun k => match k with
  | _ => ("", "", "", false)
def q_f11 : Nat → FieldType := fun k => match k with
  | _ => .int
theorem q_n11 : ∀ a, a < 0 → ∀ b, b < 0 → a ≠ b → (q_T11 a).2.1 ≠ (q_T11 b).2.1 := by decide +kernel
theorem q_y11 : ∀ k, k < 0 → parseFieldDescriptor (q_T11 k).2.2.1 = some (q_f11 k) := by decide +kernel
set_option maxRecDepth 100000 in
theorem q_u11 : ∀ w ∈ u_ws "java/lang/IndexOutOfBoundsException" q_T11 0, w ∈ q_gw := fun w hw => List.mem_append_left _ (q_by [] (by rfl) w hw)
def q_T12 : u_T := fun k => match k with
  | _ => ("", "", "", false)
def q_f12 : Nat → FieldType := fun k => match k with
  | _ => .int
theorem q_n12 : ∀ a, a < 0 → ∀ b, b < 0 → a ≠ b → (q_T12 a).2.1 ≠ (q_T12 b).2.1 := by decide +kernel
theorem q_y12 : ∀ k, k < 0 → parseFieldDescriptor (q_T12 k).2.2.1 = some (q_f12 k) := by decide +kernel
set_option maxRecDepth 100000 in
theorem q_u12 : ∀ w ∈ u_ws "java/lang/IllegalStateException" q_T12 0, w ∈ q_gw := fun w hw => List.mem_append_left _ (q_by [] (by rfl) w hw)
def q_cl : List vw_C := [("StuckSearch", q_T0, 6), ("StuckSearch$Tape", q_T1, 2), ("StuckSearch$World", q_T2, 5), ("StuckSearch$Course", q_T3, 6), ("StuckSearch$TextReader", q_T4, 9), ("StuckSearch$Part", q_T5, 3), ("StuckSearch$Search", q_T6, 12), ("StuckSearch$StateSet", q_T7, 2), ("StuckSearch$State", q_T8, 2), ("StuckSearchModel", q_T9, 41), ("java/lang/IllegalArgumentException", q_T10, 0), ("java/lang/IndexOutOfBoundsException", q_T11, 0), ("java/lang/IllegalStateException", q_T12, 0)]
def q_tf (c : Nat) : Nat → FieldType := match c with
  | 0 => q_f0
  | 1 => q_f1
  | 2 => q_f2
  | 3 => q_f3
  | 4 => q_f4
  | 5 => q_f5
  | 6 => q_f6
  | 7 => q_f7
  | 8 => q_f8
  | 9 => q_f9
  | 10 => q_f10
  | 11 => q_f11
  | _ => q_f12
theorem q_cl_in : ∀ (c : Nat) (q : vw_C), q_cl[c]? = some q → ∀ w ∈ u_ws q.1 q.2.1 q.2.2, w ∈ q_gw := by
  intro c q h
  have hl : c < 13 := (List.getElem?_eq_some_iff.mp h).1
  match c, hl, h with
  | 0, _, h => cases h; exact q_u0
  | 1, _, h => cases h; exact q_u1
  | 2, _, h => cases h; exact q_u2
  | 3, _, h => cases h; exact q_u3
  | 4, _, h => cases h; exact q_u4
  | 5, _, h => cases h; exact q_u5
  | 6, _, h => cases h; exact q_u6
  | 7, _, h => cases h; exact q_u7
  | 8, _, h => cases h; exact q_u8
  | 9, _, h => cases h; exact q_u9
  | 10, _, h => cases h; exact q_u10
  | 11, _, h => cases h; exact q_u11
  | 12, _, h => cases h; exact q_u12
  | k + 13, hl, _ => omega
theorem q_cl_ty : ∀ (c : Nat) (q : vw_C), q_cl[c]? = some q → ∀ k, k < q.2.2 → parseFieldDescriptor (q.2.1 k).2.2.1 = some (q_tf c k) := by
  intro c q h
  have hl : c < 13 := (List.getElem?_eq_some_iff.mp h).1
  match c, hl, h with
  | 0, _, h => cases h; exact q_y0
  | 1, _, h => cases h; exact q_y1
  | 2, _, h => cases h; exact q_y2
  | 3, _, h => cases h; exact q_y3
  | 4, _, h => cases h; exact q_y4
  | 5, _, h => cases h; exact q_y5
  | 6, _, h => cases h; exact q_y6
  | 7, _, h => cases h; exact q_y7
  | 8, _, h => cases h; exact q_y8
  | 9, _, h => cases h; exact q_y9
  | 10, _, h => cases h; exact q_y10
  | 11, _, h => cases h; exact q_y11
  | 12, _, h => cases h; exact q_y12
  | k + 13, hl, _ => omega
theorem q_cl_nm : ∀ (c : Nat) (q : vw_C), q_cl[c]? = some q → ∀ a, a < q.2.2 → ∀ b, b < q.2.2 → a ≠ b → (q.2.1 a).2.1 ≠ (q.2.1 b).2.1 := by
  intro c q h
  have hl : c < 13 := (List.getElem?_eq_some_iff.mp h).1
  match c, hl, h with
  | 0, _, h => cases h; exact q_n0
  | 1, _, h => cases h; exact q_n1
  | 2, _, h => cases h; exact q_n2
  | 3, _, h => cases h; exact q_n3
  | 4, _, h => cases h; exact q_n4
  | 5, _, h => cases h; exact q_n5
  | 6, _, h => cases h; exact q_n6
  | 7, _, h => cases h; exact q_n7
  | 8, _, h => cases h; exact q_n8
  | 9, _, h => cases h; exact q_n9
  | 10, _, h => cases h; exact q_n10
  | 11, _, h => cases h; exact q_n11
  | 12, _, h => cases h; exact q_n12
  | k + 13, hl, _ => omega
def q_ty : List FieldType := [.int, .long, .byte, .boolean, .object "StuckSearch$Course", .object "StuckSearch$Part"]
end NAMES
end
section
/-! The engine, 1: a walk of a method over a list of cells. Abstract addresses are places in the list; place k lies at address (heap size at the law's entry) + k. -/
section ENG1
/-- launch, the law's entry state and arguments, the script (address, length, values), class numbers and slots, array classes -/
abbrev q_G : Type := Launch × State × Array Value × (Nat × Nat × (Nat → Int32)) × va_G × (Nat → ClassId)
abbrev q_l (g : q_G) : Launch := g.1
abbrev q_s (g : q_G) : State := g.2.1
abbrev q_a (g : q_G) : Array Value := g.2.2.1
abbrev q_b (g : q_G) : Nat := g.2.1.heap.size
abbrev q_x (g : q_G) : Nat × Nat × (Nat → Int32) := g.2.2.2.1
abbrev q_D (g : q_G) : va_G := g.2.2.2.2.1
abbrev q_t (g : q_G) : Nat → ClassId := g.2.2.2.2.2
/-- a method: name, bytes, locals, result, handlers -/
abbrev q_Me : Type := MethodName × ByteArray × Nat × Option FieldType × List (Nat × Nat × Nat × Nat)
def q_w (M : q_Me) : Jvm.Cond := match M.2.2.2.2 with
  | [] => .code M.1 M.2.1 M.2.2.1 M.2.2.2.1
  | hs => .codeWith M.1 M.2.1 M.2.2.1 M.2.2.2.1 hs
def q_ev (g : q_G) : Value → Value
  | .int x => .int x
  | .long x => .long x
  | .float x => .float x
  | .double x => .double x
  | .null => .null
  | .ref a => .ref (q_b g + a)
  | .retAddr _ => .ref (q_x g).1
theorem q_ev_cat (g : q_G) (v : Value) : (q_ev g v).category = v.category := by cases v <;> rfl
def q_eo (g : q_G) : Outcome → Outcome
  | .returned v => .returned (v.map (q_ev g))
  | .threw a => .threw (q_b g + a)
def q_ex (g : q_G) : va_E → va_E
  | .inl (t, n, .inl f) => .inl (q_t g t, n, .inl f)
  | .inl (t, n, .inr (.inl f)) => .inl (q_t g t, n, .inr (.inl f))
  | .inl (t, n, .inr (.inr (.inl f))) => .inl (q_t g t, n, .inr (.inr (.inl f)))
  | .inl (t, n, .inr (.inr (.inr (.inl f)))) => .inl (q_t g t, n, .inr (.inr (.inr (.inl f))))
  | .inl (t, n, .inr (.inr (.inr (.inr f)))) => .inl (q_t g t, n, .inr (.inr (.inr (.inr (fun j => (f j).map (fun a => q_b g + a))))))
  | .inr (c, fs) => .inr (c, fs.map (q_ev g))
/-- the heap holds the list -/
def q_H (g : q_G) (hp : List va_E) (H : Heap) : Prop := H.size = q_b g + hp.length ∧ (∀ q : Nat, q < q_b g → H[q]? = (q_s g).heap[q]?) ∧ ∀ (k : Nat) (e : va_E), hp[k]? = some e → va_at (q_D g) q_cl (q_b g + k, q_ex g e) H
theorem q_H.set {g : q_G} {hp : List va_E} {H H1 : Heap} {k : Nat} {e0 e : va_E} (h : q_H g hp H) (hk : hp[k]? = some e0) (z : H1.size = H.size) (o : ∀ q : Nat, q ≠ q_b g + k → H1[q]? = H[q]?) (he : va_at (q_D g) q_cl (q_b g + k, q_ex g e) H1) : q_H g (hp.set k e) H1 := by
  have hl := (List.getElem?_eq_some_iff.mp hk).1
  refine ⟨by rw [z, h.1, List.length_set], fun q hq => by rw [o q (by omega)]; exact h.2.1 q hq, fun j x hj => ?_⟩
  by_cases hjk : j = k
  · subst hjk
    rw [List.getElem?_set_self hl] at hj
    cases hj
    exact he
  · rw [List.getElem?_set_ne (Ne.symm hjk)] at hj
    exact (h.2.2 j x hj).kept (o (q_b g + j) (by omega))
theorem q_H.push {g : q_G} {hp : List va_E} {H H1 : Heap} {e : va_E} (h : q_H g hp H) (z : H1.size = H.size + 1) (o : ∀ q : Nat, q < H.size → H1[q]? = H[q]?) (he : va_at (q_D g) q_cl (H.size, q_ex g e) H1) : q_H g (hp ++ [e]) H1 := by
  have hz := h.1
  refine ⟨by rw [z, hz, List.length_append]; rfl, fun q hq => by rw [o q (by omega)]; exact h.2.1 q hq, fun j x hj => ?_⟩
  by_cases hl : j < hp.length
  · rw [List.getElem?_append_left hl] at hj
    exact (h.2.2 j x hj).kept (o (q_b g + j) (by omega))
  · rw [List.getElem?_append_right (by omega)] at hj
    have h1 : j - hp.length < 1 := (List.getElem?_eq_some_iff.mp hj).1
    have h0 : j = hp.length := by omega
    subst h0
    rw [Nat.sub_self] at hj
    cases hj
    rw [← hz]
    exact he
/-- what holds at the law's entry, once for all -/
def q_GG (g : q_G) : Prop := (∀ w ∈ q_gw, w.before (q_a g) (q_s g) = true) ∧ (∀ (c : Nat) (q : vw_C), q_cl[c]? = some q → u_Kn (q_s g) q.1 q.2.1 q.2.2 ((q_D g).1 c) ((q_D g).2 c)) ∧
  (∀ (t : Nat) (ty : FieldType), q_ty[t]? = some ty → ArrOfT (q_s g) (q_t g t) ty ∧ va_RA (q_s g) (q_t g t) ty) ∧ va_X (q_x g).1 (q_x g).2.1 (q_x g).2.2 (q_s g) (q_s g).heap ∧ (q_l g).stackTraces = false
theorem q_word {g : q_G} (hG : q_GG g) {u : State} (hu : (q_s g).WarmedH u.vm) {args : Array Value} {w : Jvm.Cond} (hw : w ∈ q_gw) (hk : goodWord w = true) : w.before args u = true := word_at hu (good_of_word hk) (hG.1 w hw)
theorem q_K0 {g : q_G} (hG : q_GG g) {u : State} (hu : (q_s g).WarmedH u.vm) : va_K (q_D g) q_cl [] u := ⟨fun c q hq => u_Kn_moved hu.alike (hG.2.1 c q hq), fun k q hk => by simp at hk⟩
theorem q_K1 {g : q_G} (hG : q_GG g) {u : State} (hu : (q_s g).WarmedH u.vm) {t : Nat} {ty : FieldType} (ht : q_ty[t]? = some ty) : va_K (q_D g) q_cl [(q_t g t, ty)] u := by
  refine ⟨fun c q hq => u_Kn_moved hu.alike (hG.2.1 c q hq), fun k q hk => ?_⟩
  have hz : k < 1 := (List.getElem?_eq_some_iff.mp hk).1
  rw [show k = 0 by omega] at hk
  cases hk
  exact ⟨arrOfT_moved hu.alike (hG.2.2.1 t ty ht).1, (hG.2.2.1 t ty ht).2.moved hu.alike⟩
theorem q_P1 {g : q_G} {hp : List va_E} {H : Heap} (h : q_H g hp H) {k : Nat} {e : va_E} (hk : hp[k]? = some e) : va_P (q_D g) q_cl [(q_b g + k, q_ex g e)] H := by
  intro j q hj
  have hz : j < 1 := (List.getElem?_eq_some_iff.mp hj).1
  rw [show j = 0 by omega] at hj
  cases hj
  exact h.2.2 k e hk
/-- locals -/
def q_L (g : q_G) (nL : Nat) (la : Array Slot) (ls : List (Option Value)) : Prop := la.size = nL ∧ lv_wf la ∧ ∀ (i : Nat) (v : Value), ls[i]? = some (some v) → la[i]? = some (.val (q_ev g v))
def q_pr (g : q_G) (ls : List (Option Value)) : List (Nat × Value) := (List.range ls.length).filterMap (fun i => match ls[i]? with
  | some (some v) => some (i, q_ev g v)
  | _ => none)
theorem q_pr_in {g : q_G} {ls : List (Option Value)} {i : Nat} {v : Value} (h : ls[i]? = some (some v)) : (i, q_ev g v) ∈ q_pr g ls := by
  refine List.mem_filterMap.mpr ⟨i, List.mem_range.mpr (List.getElem?_eq_some_iff.mp h).1, ?_⟩
  simp [h]
theorem q_pr_of {g : q_G} {ls : List (Option Value)} {q : Nat × Value} (h : q ∈ q_pr g ls) : ∃ v, ls[q.1]? = some (some v) ∧ q.2 = q_ev g v := by
  obtain ⟨i, -, hi⟩ := List.mem_filterMap.mp h
  split at hi
  · next v hv => cases hi; exact ⟨v, hv, rfl⟩
  · cases hi
theorem q_L.has {g : q_G} {nL : Nat} {la : Array Slot} {ls : List (Option Value)} (h : q_L g nL la ls) : lv_has la nL (q_pr g ls) := ⟨h.1, h.2.1, fun q hq => by
  obtain ⟨v, h1, h2⟩ := q_pr_of hq
  rw [h2]
  exact h.2.2 _ _ h1⟩
/-- what a store at i leaves of the slot ahead of it -/
def q_cut (ls : List (Option Value)) : Nat → List (Option Value)
  | 0 => ls
  | j + 1 => match ls[j]? with
    | some (some w) => if w.category = 2 then ls.set j none else ls
    | _ => ls
theorem q_cut_at {ls : List (Option Value)} {i j : Nat} {v : Value} (h : (q_cut ls i)[j]? = some (some v)) : ls[j]? = some (some v) ∧ ¬ (j + 1 = i ∧ v.category = 2) := by
  cases i with
  | zero => exact ⟨h, fun q => by omega⟩
  | succ n =>
    simp only [q_cut] at h
    split at h
    · next w hw =>
      split at h
      · next hc =>
        by_cases hj : j = n
        · subst hj
          rw [List.getElem?_set_self (List.getElem?_eq_some_iff.mp hw).1] at h
          cases h
        · rw [List.getElem?_set_ne (fun q => hj q.symm)] at h
          exact ⟨h, fun q => hj (by omega)⟩
      · next hc =>
        refine ⟨h, fun q => ?_⟩
        have : j = n := by omega
        subst this
        rw [hw] at h
        cases h
        exact hc q.2
    · next hw =>
      refine ⟨h, fun q => ?_⟩
      have : j = n := by omega
      subst this
      exact hw v h
def q_st1 (ls : List (Option Value)) (i : Nat) (v : Value) : List (Option Value) := (q_cut ls i).set i (some v)
def q_st2 (ls : List (Option Value)) (i : Nat) (v : Value) : List (Option Value) := ((q_cut ls i).set (i + 1) none).set i (some v)
theorem q_set_at {ls : List (Option Value)} {i j : Nat} {v w : Value} (h : (ls.set i (some v))[j]? = some (some w)) : (j = i ∧ w = v) ∨ (j ≠ i ∧ ls[j]? = some (some w)) := by
  by_cases hj : j = i
  · subst hj
    by_cases hl : j < ls.length
    · rw [List.getElem?_set_self hl] at h
      cases h
      exact Or.inl ⟨rfl, rfl⟩
    · rw [List.set_eq_of_length_le (by omega)] at h
      exact absurd (List.getElem?_eq_some_iff.mp h).1 hl
  · rw [List.getElem?_set_ne (fun q => hj q.symm)] at h
    exact Or.inr ⟨hj, h⟩
theorem q_L.st1 {g : q_G} {nL i : Nat} {la : Array Slot} {ls : List (Option Value)} {v : Value} (h : lv_has la nL ((i, q_ev g v) :: (q_pr g ls).filter (fun q => !(q.1 == i) && !(q.1 + 1 == i && q.2.category == 2)))) : q_L g nL la (q_st1 ls i v) := by
  refine ⟨h.1, h.2.1, fun j w hj => ?_⟩
  rcases q_set_at hj with ⟨h1, h2⟩ | ⟨h1, h2⟩
  · subst h1; subst h2
    exact h.2.2 _ List.mem_cons_self
  · obtain ⟨h3, h4⟩ := q_cut_at h2
    refine h.2.2 (j, q_ev g w) (List.mem_cons_of_mem _ (List.mem_filter.mpr ⟨q_pr_in h3, ?_⟩))
    simp only [q_ev_cat, Bool.and_eq_true, Bool.not_eq_true', beq_eq_false_iff_ne, ne_eq, Bool.and_eq_false_iff]
    refine ⟨h1, ?_⟩
    by_cases h5 : j + 1 = i
    · exact Or.inr (fun q => h4 ⟨h5, q⟩)
    · exact Or.inl h5
theorem q_L.st2 {g : q_G} {nL i : Nat} {la : Array Slot} {ls : List (Option Value)} {v : Value} (h : lv_has la nL ((i, q_ev g v) :: (q_pr g ls).filter (fun q => !(q.1 == i) && (!(q.1 == i + 1) && !(q.1 + 1 == i && q.2.category == 2))))) : q_L g nL la (q_st2 ls i v) := by
  refine ⟨h.1, h.2.1, fun j w hj => ?_⟩
  rcases q_set_at hj with ⟨h1, h2⟩ | ⟨h1, h2⟩
  · subst h1; subst h2
    exact h.2.2 _ List.mem_cons_self
  · have h6 : j ≠ i + 1 ∧ (q_cut ls i)[j]? = some (some w) := by
      by_cases hj1 : j = i + 1
      · subst hj1
        by_cases hl : i + 1 < (q_cut ls i).length
        · rw [List.getElem?_set_self hl] at h2
          cases h2
        · rw [List.set_eq_of_length_le (by omega)] at h2
          exact absurd (List.getElem?_eq_some_iff.mp h2).1 hl
      · rw [List.getElem?_set_ne (fun q => hj1 q.symm)] at h2
        exact ⟨hj1, h2⟩
    obtain ⟨h3, h4⟩ := q_cut_at h6.2
    refine h.2.2 (j, q_ev g w) (List.mem_cons_of_mem _ (List.mem_filter.mpr ⟨q_pr_in h3, ?_⟩))
    simp only [q_ev_cat, Bool.and_eq_true, Bool.not_eq_true', beq_eq_false_iff_ne, ne_eq, Bool.and_eq_false_iff]
    refine ⟨h1, h6.1, ?_⟩
    by_cases h5 : j + 1 = i
    · exact Or.inr (fun q => h4 ⟨h5, q⟩)
    · exact Or.inl h5
/-- locals at the entry -/
def q_sl : List Value → List (Option Value)
  | [] => []
  | v :: vs => if v.category = 2 then some v :: none :: q_sl vs else some v :: q_sl vs
def q_en (as : List Value) (n : Nat) : List (Option Value) := q_sl as ++ List.replicate (n - (q_sl as).length) none
theorem q_sl_len (g : q_G) (as : List Value) : (lg_sl (as.map (q_ev g))).length = (q_sl as).length := by
  induction as with
  | nil => rfl
  | cons v vs ih =>
    unfold lg_sl at ih ⊢
    rw [List.map_cons, List.flatMap_cons, List.length_append, ih, q_ev_cat]
    simp only [q_sl]
    by_cases h : v.category = 2
    · rw [if_pos h, if_pos h]
      simp only [List.length_cons, List.length_nil]
      omega
    · rw [if_neg h, if_neg h]
      simp only [List.length_cons, List.length_nil]
      omega
theorem q_sl_in (g : q_G) (as : List Value) : ∀ (b i : Nat) (v : Value), (q_sl as)[i]? = some (some v) → (b + i, q_ev g v) ∈ lv_args b (as.map (q_ev g)) := by
  induction as with
  | nil => intro b i v h; simp [q_sl] at h
  | cons x xs ih =>
    intro b i v h
    rw [List.map_cons]
    simp only [lv_args, q_ev_cat]
    simp only [q_sl] at h
    by_cases hc : x.category = 2
    · rw [if_pos hc] at h ⊢
      match i, h with
      | 0, h =>
        cases h
        exact List.mem_cons_self
      | 1, h => cases h
      | n + 2, h =>
        have h1 := ih (b + 2) n v h
        rw [show b + (n + 2) = b + 2 + n by omega]
        exact List.mem_cons_of_mem _ h1
    · rw [if_neg hc] at h ⊢
      match i, h with
      | 0, h =>
        cases h
        exact List.mem_cons_self
      | n + 1, h =>
        have h1 := ih (b + 1) n v h
        rw [show b + (n + 1) = b + 1 + n by omega]
        exact List.mem_cons_of_mem _ h1
theorem q_L.entry {g : q_G} {as : List Value} {n : Nat} (h : (q_sl as).length ≤ n) : q_L g n ((lg_sl (as.map (q_ev g)) ++ List.replicate (n - (lg_sl (as.map (q_ev g))).length) Slot.unset).toArray) (q_en as n) := by
  obtain ⟨h1, h2, h3⟩ := lv_entry (as.map (q_ev g)) (n := n) (by rw [q_sl_len]; exact h)
  refine ⟨h1, h2, fun i v hi => ?_⟩
  unfold q_en at hi
  by_cases hl : i < (q_sl as).length
  · rw [List.getElem?_append_left hl] at hi
    have h4 := q_sl_in g as 0 i v hi
    rw [Nat.zero_add] at h4
    exact h3 _ h4
  · rw [List.getElem?_append_right (by omega)] at hi
    have h5 := List.mem_of_getElem? hi
    rw [List.mem_replicate] at h5
    exact absurd h5.2 (by simp)
end ENG1
end
section
/-! The engine, 2: the judgement and the rows of the instructions that touch no cell -/
section ENG2
/-- what a walk of M knows of its surroundings -/
def q_E (g : q_G) (M : q_Me) (rm : Room) (p : Program) (e : Env) (R : Room) (u : State) (m : MethodId) (meth : Method) (co : Code) : Prop :=
  q_GG g ∧ p.tables.exec = Jvm.exec ∧ co.code = M.2.1 ∧ co.maxLocals = M.2.2.1 ∧ u.vm.findClass M.1.cls = some m.cls ∧ (q_s g).WarmedH u.vm ∧ meth.sig.returnType = M.2.2.2.1 ∧ meth.locks = false ∧ meth.name = M.1.name ∧
  rm.frames ≤ R.frames ∧ rm.locals ≤ R.locals ∧ rm.cells ≤ R.cells ∧ rm.slots ≤ R.slots ∧ co.exceptionTable.toList.map (fun h => (h.startPc, h.endPc, h.handlerPc, h.catchType)) = M.2.2.2.2
/-- an end: outcome and cells -/
def q_Q (g : q_G) (fr : Bool) (P : Outcome → List va_E → Prop) (u : State) (o : Outcome) (t : State) : Prop := ∃ (r : Outcome) (hp : List va_E), o = q_eo g r ∧ q_H g hp t.heap ∧ P r hp ∧ (fr = false → (∃ v, r = .returned v) → t.heap = u.heap)
def q_M (below : List Frame) (Qc : State → Outcome → State → Prop) (u : State) (mc ms : Nat) (free : Addr → Prop) : State → Prop := fun t =>
  ∃ o, t.status = .running ∧ Ended t below o ∧ Qc u o t ∧ ∃ L, (u.WarmedH t.vm ∧ u.sameButNew ({ t with vm := u.vm } : State) L mc ms) ∧ ∀ q ∈ L, free q.base
def q_J (g : q_G) (M : q_Me) (fr : Bool) (rm : Room) (P : Outcome → List va_E → Prop) (pc : Nat) (ls : List (Option Value)) (st : List Value) (hp : List va_E) (c s : Nat) (w : Bool) : Prop :=
  ∀ (p : Program) (e : Env) (R : Room) (u : State) (m : MethodId) (args : Array Value) (below : List Frame) (meth : Method) (co : Code) (H : Heap) (locs : List Loc) (la : Array Slot),
    q_E g M rm p e R u m meth co → q_L g M.2.2.1 la ls → q_H g hp H → (∀ q ∈ locs, w = true ∧ q_b g ≤ q.base) → (w = false → H = u.heap) →
    W p (q_l g) e R u m args below meth co H locs c s (q_M below (q_Q g fr P) u rm.cells rm.slots (fun q => fr = true ∧ q_b g ≤ q)) (F0 m pc la (st.map (q_ev g)))
theorem q_mono {p : Program} {l : Launch} {e : Env} {R : Room} {s : State} {m : MethodId} {args : Array Value} {below : List Frame} {meth : Method} {c : Code} {H : Heap} {locs : List Loc} {cells slots : Nat} {Q Q' : State → Prop} {f : JFrame} (h : ∀ t, Q t → Q' t) (k : W p l e R s m args below meth c H locs cells slots Q f) : W p l e R s m args below meth c H locs cells slots Q' f := by
  intro T hT X
  obtain ⟨t, a, b⟩ := k T hT X
  exact ⟨t, a, h t b⟩
theorem q_ofMQ {below : List Frame} {Qc : State → Outcome → State → Prop} {a : Array Value} {u : State} {mc ms : Nat} {free : Addr → Prop} : ∀ t, MQ below (fun _ => Qc) a u mc ms free t → q_M below Qc u mc ms free t := fun t ⟨o, a1, a2, a3, L, a4, a5⟩ => ⟨o, a1, a2, a3, L, a4.2, a5⟩
variable {g : q_G} {M : q_Me} {fr : Bool} {rm : Room} {P : Outcome → List va_E → Prop} {pc : Nat} {ls : List (Option Value)} {st : List Value} {hp : List va_E} {c s : Nat} {w : Bool}
theorem q_more {c' s' : Nat} (h1 : c ≤ c') (h2 : s ≤ s') (k : q_J g M fr rm P pc ls st hp c' s' w) : q_J g M fr rm P pc ls st hp c s w :=
  fun p e R u m args below meth co H locs la E hL hH h3 h4 => W.widen h1 h2 (k p e R u m args below meth co H locs la E hL hH h3 h4)
theorem q_wrote (k : q_J g M fr rm P pc ls st hp c s true) : q_J g M fr rm P pc ls st hp c s w :=
  fun p e R u m args below meth co H locs la E hL hH h3 _ => k p e R u m args below meth co H locs la E hL hH (fun q hq => ⟨rfl, (h3 q hq).2⟩) (fun h => by cases h)
theorem q_post {P' : Outcome → List va_E → Prop} (h : ∀ r hp', P' r hp' → P r hp') (k : q_J g M fr rm P' pc ls st hp c s w) : q_J g M fr rm P pc ls st hp c s w :=
  fun p e R u m args below meth co H locs la E hL hH h3 h4 => q_mono (fun t ⟨o, a1, a2, ⟨r, hp', b1, b2, b3, b4⟩, a4⟩ => ⟨o, a1, a2, ⟨r, hp', b1, b2, h r hp' b3, b4⟩, a4⟩) (k p e R u m args below meth co H locs la E hL hH h3 h4)

theorem q_iconst {n : Int} {v : Int32} (hd : decode M.2.1 pc = .ok (.iconst n, 1)) (hv : Int32.ofInt n = v) (k : q_J g M fr rm P (pc + 1) ls (.int v :: st) hp c s w) : q_J g M fr rm P pc ls st hp c s w :=
  fun p e R u m args below meth co H locs la E hL hH h1 h2 => lv_iconst E.2.1 E.2.2.1 hd hv (k p e R u m args below meth co H locs la E hL hH h1 h2)
theorem q_bipush {n : Int} {v : Int32} (hd : decode M.2.1 pc = .ok (.bipush n, 2)) (hv : (Int8.ofInt n).toInt32 = v) (k : q_J g M fr rm P (pc + 2) ls (.int v :: st) hp c s w) : q_J g M fr rm P pc ls st hp c s w :=
  fun p e R u m args below meth co H locs la E hL hH h1 h2 => lv_bipush E.2.1 E.2.2.1 hd hv (k p e R u m args below meth co H locs la E hL hH h1 h2)
theorem q_sipush {n : Int} {v : Int32} (hd : decode M.2.1 pc = .ok (.sipush n, 3)) (hv : (Int16.ofInt n).toInt32 = v) (k : q_J g M fr rm P (pc + 3) ls (.int v :: st) hp c s w) : q_J g M fr rm P pc ls st hp c s w :=
  fun p e R u m args below meth co H locs la E hL hH h1 h2 => lv_sipush E.2.1 E.2.2.1 hd hv (k p e R u m args below meth co H locs la E hL hH h1 h2)
theorem q_lconst {n : Fin 2} {v : Int64} (hd : decode M.2.1 pc = .ok (.lconst n, 1)) (hv : Int64.ofNat (n : Nat) = v) (k : q_J g M fr rm P (pc + 1) ls (.long v :: st) hp c s w) : q_J g M fr rm P pc ls st hp c s w :=
  fun p e R u m args below meth co H locs la E hL hH h1 h2 => lv_lconst E.2.1 E.2.2.1 hd hv (k p e R u m args below meth co H locs la E hL hH h1 h2)
theorem q_null (hd : decode M.2.1 pc = .ok (.aconst_null, 1)) (k : q_J g M fr rm P (pc + 1) ls (.null :: st) hp c s w) : q_J g M fr rm P pc ls st hp c s w :=
  fun p e R u m args below meth co H locs la E hL hH h1 h2 => lv_null E.2.1 E.2.2.1 hd (k p e R u m args below meth co H locs la E hL hH h1 h2)
theorem q_iload_n {k : Fin 4} {x : Int32} (hd : decode M.2.1 pc = .ok (.iload_n k, 1)) (hl : ls[(k : Nat)]? = some (some (.int x))) (kk : q_J g M fr rm P (pc + 1) ls (.int x :: st) hp c s w) : q_J g M fr rm P pc ls st hp c s w :=
  fun p e R u m args below meth co H locs la E hL hH h1 h2 => lv_iload_n E.2.1 E.2.2.1 hd rfl (hL.2.2 _ _ hl) (kk p e R u m args below meth co H locs la E hL hH h1 h2)
theorem q_iload {i : Nat} {x : Int32} (hd : decode M.2.1 pc = .ok (.iload i, 2)) (hl : ls[i]? = some (some (.int x))) (kk : q_J g M fr rm P (pc + 2) ls (.int x :: st) hp c s w) : q_J g M fr rm P pc ls st hp c s w :=
  fun p e R u m args below meth co H locs la E hL hH h1 h2 => lv_iload E.2.1 E.2.2.1 hd (hL.2.2 _ _ hl) (kk p e R u m args below meth co H locs la E hL hH h1 h2)
theorem q_istore_n {k : Fin 4} {i : Nat} {x : Int32} {ls' : List (Option Value)} (hd : decode M.2.1 pc = .ok (.istore_n k, 1)) (hi : (k : Nat) = i) (hn : i < M.2.2.1) (hl : q_st1 ls i (.int x) = ls') (kk : q_J g M fr rm P (pc + 1) ls' st hp c s w) : q_J g M fr rm P pc ls (.int x :: st) hp c s w :=
  fun p e R u m args below meth co H locs la E hL hH h1 h2 => lv_istore_n E.2.1 E.2.2.1 hd hi hL.has hn rfl (fun la' h' => kk p e R u m args below meth co H locs la' E (hl ▸ q_L.st1 h') hH h1 h2)
theorem q_istore {i : Nat} {x : Int32} {ls' : List (Option Value)} (hd : decode M.2.1 pc = .ok (.istore i, 2)) (hn : i < M.2.2.1) (hl : q_st1 ls i (.int x) = ls') (kk : q_J g M fr rm P (pc + 2) ls' st hp c s w) : q_J g M fr rm P pc ls (.int x :: st) hp c s w :=
  fun p e R u m args below meth co H locs la E hL hH h1 h2 => lv_istore E.2.1 E.2.2.1 hd hL.has hn rfl (fun la' h' => kk p e R u m args below meth co H locs la' E (hl ▸ q_L.st1 h') hH h1 h2)
theorem q_lload_n {k : Fin 4} {x : Int64} (hd : decode M.2.1 pc = .ok (.lload_n k, 1)) (hl : ls[(k : Nat)]? = some (some (.long x))) (kk : q_J g M fr rm P (pc + 1) ls (.long x :: st) hp c s w) : q_J g M fr rm P pc ls st hp c s w :=
  fun p e R u m args below meth co H locs la E hL hH h1 h2 => lv_lload_n E.2.1 E.2.2.1 hd rfl (hL.2.2 _ _ hl) (kk p e R u m args below meth co H locs la E hL hH h1 h2)
theorem q_lload {i : Nat} {x : Int64} (hd : decode M.2.1 pc = .ok (.lload i, 2)) (hl : ls[i]? = some (some (.long x))) (kk : q_J g M fr rm P (pc + 2) ls (.long x :: st) hp c s w) : q_J g M fr rm P pc ls st hp c s w :=
  fun p e R u m args below meth co H locs la E hL hH h1 h2 => lv_lload E.2.1 E.2.2.1 hd (hL.2.2 _ _ hl) (kk p e R u m args below meth co H locs la E hL hH h1 h2)
theorem q_lstore_n {k : Fin 4} {i : Nat} {x : Int64} {ls' : List (Option Value)} (hd : decode M.2.1 pc = .ok (.lstore_n k, 1)) (hi : (k : Nat) = i) (hn : i + 1 < M.2.2.1) (hl : q_st2 ls i (.long x) = ls') (kk : q_J g M fr rm P (pc + 1) ls' st hp c s w) : q_J g M fr rm P pc ls (.long x :: st) hp c s w :=
  fun p e R u m args below meth co H locs la E hL hH h1 h2 => lv_lstore_n E.2.1 E.2.2.1 hd hi hL.has hn rfl (fun la' h' => kk p e R u m args below meth co H locs la' E (hl ▸ q_L.st2 h') hH h1 h2)
theorem q_lstore {i : Nat} {x : Int64} {ls' : List (Option Value)} (hd : decode M.2.1 pc = .ok (.lstore i, 2)) (hn : i + 1 < M.2.2.1) (hl : q_st2 ls i (.long x) = ls') (kk : q_J g M fr rm P (pc + 2) ls' st hp c s w) : q_J g M fr rm P pc ls (.long x :: st) hp c s w :=
  fun p e R u m args below meth co H locs la E hL hH h1 h2 => lv_lstore E.2.1 E.2.2.1 hd hL.has hn rfl (fun la' h' => kk p e R u m args below meth co H locs la' E (hl ▸ q_L.st2 h') hH h1 h2)
def q_isr : Value → Bool
  | .null | .ref _ | .retAddr _ => true
  | _ => false
theorem q_aload_n {k : Fin 4} {v : Value} (hd : decode M.2.1 pc = .ok (.aload_n k, 1)) (hl : ls[(k : Nat)]? = some (some v)) (hv : q_isr v = true) (kk : q_J g M fr rm P (pc + 1) ls (v :: st) hp c s w) : q_J g M fr rm P pc ls st hp c s w := by
  intro p e R u m args below meth co H locs la E hL hH h1 h2
  have h3 := hL.2.2 _ _ hl
  have h4 := kk p e R u m args below meth co H locs la E hL hH h1 h2
  cases v <;> first | (exact lv_aload_n E.2.1 E.2.2.1 hd rfl h3 h4) | (exact lv_aload_nN E.2.1 E.2.2.1 hd rfl h3 h4) | (exact absurd hv (by simp [q_isr]))
theorem q_aload {i : Nat} {v : Value} (hd : decode M.2.1 pc = .ok (.aload i, 2)) (hl : ls[i]? = some (some v)) (hv : q_isr v = true) (kk : q_J g M fr rm P (pc + 2) ls (v :: st) hp c s w) : q_J g M fr rm P pc ls st hp c s w := by
  intro p e R u m args below meth co H locs la E hL hH h1 h2
  have h3 := hL.2.2 _ _ hl
  have h4 := kk p e R u m args below meth co H locs la E hL hH h1 h2
  cases v <;> first | (exact lv_aload E.2.1 E.2.2.1 hd h3 h4) | (exact lv_aloadN E.2.1 E.2.2.1 hd h3 h4) | (exact absurd hv (by simp [q_isr]))
theorem q_astore_n {k : Fin 4} {i : Nat} {v : Value} {ls' : List (Option Value)} (hd : decode M.2.1 pc = .ok (.astore_n k, 1)) (hi : (k : Nat) = i) (hv : q_isr v = true) (hn : i < M.2.2.1) (hl : q_st1 ls i v = ls') (kk : q_J g M fr rm P (pc + 1) ls' st hp c s w) : q_J g M fr rm P pc ls (v :: st) hp c s w := by
  intro p e R u m args below meth co H locs la E hL hH h1 h2
  have h3 : ∀ la' : Array Slot, lv_has la' M.2.2.1 ((i, q_ev g v) :: (q_pr g ls).filter (fun q => !(q.1 == i) && !(q.1 + 1 == i && q.2.category == 2))) → W p (q_l g) e R u m args below meth co H locs c s (q_M below (q_Q g fr P) u rm.cells rm.slots (fun q => fr = true ∧ q_b g ≤ q)) (F0 m (pc + 1) la' (st.map (q_ev g))) := fun la' h' => kk p e R u m args below meth co H locs la' E (hl ▸ q_L.st1 h') hH h1 h2
  cases v <;> first | (exact lv_astore_n E.2.1 E.2.2.1 hd hi hL.has hn rfl h3) | (exact lv_astore_nN E.2.1 E.2.2.1 hd hi hL.has hn rfl h3) | (exact absurd hv (by simp [q_isr]))
theorem q_astore {i : Nat} {v : Value} {ls' : List (Option Value)} (hd : decode M.2.1 pc = .ok (.astore i, 2)) (hv : q_isr v = true) (hn : i < M.2.2.1) (hl : q_st1 ls i v = ls') (kk : q_J g M fr rm P (pc + 2) ls' st hp c s w) : q_J g M fr rm P pc ls (v :: st) hp c s w := by
  intro p e R u m args below meth co H locs la E hL hH h1 h2
  have h3 : ∀ la' : Array Slot, lv_has la' M.2.2.1 ((i, q_ev g v) :: (q_pr g ls).filter (fun q => !(q.1 == i) && !(q.1 + 1 == i && q.2.category == 2))) → W p (q_l g) e R u m args below meth co H locs c s (q_M below (q_Q g fr P) u rm.cells rm.slots (fun q => fr = true ∧ q_b g ≤ q)) (F0 m (pc + 2) la' (st.map (q_ev g))) := fun la' h' => kk p e R u m args below meth co H locs la' E (hl ▸ q_L.st1 h') hH h1 h2
  cases v <;> first | (exact lv_astore E.2.1 E.2.2.1 hd hL.has hn rfl h3) | (exact lv_astoreN E.2.1 E.2.2.1 hd hL.has hn rfl h3) | (exact absurd hv (by simp [q_isr]))
theorem q_iinc {i : Nat} {n : Int} {x v : Int32} {ls' : List (Option Value)} (hd : decode M.2.1 pc = .ok (.iinc i n, 3)) (hx : ls[i]? = some (some (.int x))) (hv : x + Int32.ofInt n = v) (hn : i < M.2.2.1) (hl : q_st1 ls i (.int v) = ls') (kk : q_J g M fr rm P (pc + 3) ls' st hp c s w) : q_J g M fr rm P pc ls st hp c s w := by
  intro p e R u m args below meth co H locs la E hL hH h1 h2
  obtain ⟨k, hk⟩ := List.getElem?_of_mem (q_pr_in (g := g) hx)
  exact lv_iinc E.2.1 E.2.2.1 hd hL.has hk hv hn rfl (fun la' h' => kk p e R u m args below meth co H locs la' E (hl ▸ q_L.st1 h') hH h1 h2)
theorem q_iadd {x y : Int32} (hd : decode M.2.1 pc = .ok (.iadd, 1)) (k : q_J g M fr rm P (pc + 1) ls (.int (x + y) :: st) hp c s w) : q_J g M fr rm P pc ls (.int y :: .int x :: st) hp c s w :=
  fun p e R u m args below meth co H locs la E hL hH h1 h2 => lv_iadd E.2.1 E.2.2.1 hd (k p e R u m args below meth co H locs la E hL hH h1 h2)
theorem q_isub {x y : Int32} (hd : decode M.2.1 pc = .ok (.isub, 1)) (k : q_J g M fr rm P (pc + 1) ls (.int (x - y) :: st) hp c s w) : q_J g M fr rm P pc ls (.int y :: .int x :: st) hp c s w :=
  fun p e R u m args below meth co H locs la E hL hH h1 h2 => lv_isub E.2.1 E.2.2.1 hd (k p e R u m args below meth co H locs la E hL hH h1 h2)
theorem q_imul {x y : Int32} (hd : decode M.2.1 pc = .ok (.imul, 1)) (k : q_J g M fr rm P (pc + 1) ls (.int (x * y) :: st) hp c s w) : q_J g M fr rm P pc ls (.int y :: .int x :: st) hp c s w :=
  fun p e R u m args below meth co H locs la E hL hH h1 h2 => lv_imul E.2.1 E.2.2.1 hd (k p e R u m args below meth co H locs la E hL hH h1 h2)
theorem q_iand {x y : Int32} (hd : decode M.2.1 pc = .ok (.iand, 1)) (k : q_J g M fr rm P (pc + 1) ls (.int (x &&& y) :: st) hp c s w) : q_J g M fr rm P pc ls (.int y :: .int x :: st) hp c s w :=
  fun p e R u m args below meth co H locs la E hL hH h1 h2 => lv_iand E.2.1 E.2.2.1 hd (k p e R u m args below meth co H locs la E hL hH h1 h2)
theorem q_ior {x y : Int32} (hd : decode M.2.1 pc = .ok (.ior, 1)) (k : q_J g M fr rm P (pc + 1) ls (.int (x ||| y) :: st) hp c s w) : q_J g M fr rm P pc ls (.int y :: .int x :: st) hp c s w :=
  fun p e R u m args below meth co H locs la E hL hH h1 h2 => lv_ior E.2.1 E.2.2.1 hd (k p e R u m args below meth co H locs la E hL hH h1 h2)
theorem q_ixor {x y : Int32} (hd : decode M.2.1 pc = .ok (.ixor, 1)) (k : q_J g M fr rm P (pc + 1) ls (.int (x ^^^ y) :: st) hp c s w) : q_J g M fr rm P pc ls (.int y :: .int x :: st) hp c s w :=
  fun p e R u m args below meth co H locs la E hL hH h1 h2 => lv_ixor E.2.1 E.2.2.1 hd (k p e R u m args below meth co H locs la E hL hH h1 h2)
theorem q_ishl {x y : Int32} (hd : decode M.2.1 pc = .ok (.ishl, 1)) (k : q_J g M fr rm P (pc + 1) ls (.int (x <<< (y &&& 31)) :: st) hp c s w) : q_J g M fr rm P pc ls (.int y :: .int x :: st) hp c s w :=
  fun p e R u m args below meth co H locs la E hL hH h1 h2 => lv_ishl E.2.1 E.2.2.1 hd (k p e R u m args below meth co H locs la E hL hH h1 h2)
theorem q_ishr {x y : Int32} (hd : decode M.2.1 pc = .ok (.ishr, 1)) (k : q_J g M fr rm P (pc + 1) ls (.int (x >>> (y &&& 31)) :: st) hp c s w) : q_J g M fr rm P pc ls (.int y :: .int x :: st) hp c s w :=
  fun p e R u m args below meth co H locs la E hL hH h1 h2 => lv_ishr E.2.1 E.2.2.1 hd (k p e R u m args below meth co H locs la E hL hH h1 h2)
theorem q_iushr {x y : Int32} (hd : decode M.2.1 pc = .ok (.iushr, 1)) (k : q_J g M fr rm P (pc + 1) ls (.int ((x.toUInt32 >>> (y.toUInt32 &&& Int32.toUInt32 31)).toInt32) :: st) hp c s w) : q_J g M fr rm P pc ls (.int y :: .int x :: st) hp c s w :=
  fun p e R u m args below meth co H locs la E hL hH h1 h2 => lv_iushr E.2.1 E.2.2.1 hd rfl (k p e R u m args below meth co H locs la E hL hH h1 h2)
theorem q_idiv {x y : Int32} (hd : decode M.2.1 pc = .ok (.idiv, 1)) (hne : ¬ y = 0) (k : q_J g M fr rm P (pc + 1) ls (.int (x / y) :: st) hp c s w) : q_J g M fr rm P pc ls (.int y :: .int x :: st) hp c s w :=
  fun p e R u m args below meth co H locs la E hL hH h1 h2 => lv_idiv E.2.1 E.2.2.1 hd hne (k p e R u m args below meth co H locs la E hL hH h1 h2)
theorem q_irem {x y : Int32} (hd : decode M.2.1 pc = .ok (.irem, 1)) (hne : ¬ y = 0) (k : q_J g M fr rm P (pc + 1) ls (.int (x - x / y * y) :: st) hp c s w) : q_J g M fr rm P pc ls (.int y :: .int x :: st) hp c s w :=
  fun p e R u m args below meth co H locs la E hL hH h1 h2 => lv_irem E.2.1 E.2.2.1 hd hne (k p e R u m args below meth co H locs la E hL hH h1 h2)
theorem q_ineg {x : Int32} (hd : decode M.2.1 pc = .ok (.ineg, 1)) (k : q_J g M fr rm P (pc + 1) ls (.int (-x) :: st) hp c s w) : q_J g M fr rm P pc ls (.int x :: st) hp c s w :=
  fun p e R u m args below meth co H locs la E hL hH h1 h2 => lv_ineg E.2.1 E.2.2.1 hd (k p e R u m args below meth co H locs la E hL hH h1 h2)
theorem q_ladd {x y : Int64} (hd : decode M.2.1 pc = .ok (.ladd, 1)) (k : q_J g M fr rm P (pc + 1) ls (.long (x + y) :: st) hp c s w) : q_J g M fr rm P pc ls (.long y :: .long x :: st) hp c s w :=
  fun p e R u m args below meth co H locs la E hL hH h1 h2 => lv_ladd E.2.1 E.2.2.1 hd (k p e R u m args below meth co H locs la E hL hH h1 h2)
theorem q_lsub {x y : Int64} (hd : decode M.2.1 pc = .ok (.lsub, 1)) (k : q_J g M fr rm P (pc + 1) ls (.long (x - y) :: st) hp c s w) : q_J g M fr rm P pc ls (.long y :: .long x :: st) hp c s w :=
  fun p e R u m args below meth co H locs la E hL hH h1 h2 => lv_lsub E.2.1 E.2.2.1 hd (k p e R u m args below meth co H locs la E hL hH h1 h2)
theorem q_lmul {x y : Int64} (hd : decode M.2.1 pc = .ok (.lmul, 1)) (k : q_J g M fr rm P (pc + 1) ls (.long (x * y) :: st) hp c s w) : q_J g M fr rm P pc ls (.long y :: .long x :: st) hp c s w :=
  fun p e R u m args below meth co H locs la E hL hH h1 h2 => lv_lmul E.2.1 E.2.2.1 hd (k p e R u m args below meth co H locs la E hL hH h1 h2)
theorem q_land {x y : Int64} (hd : decode M.2.1 pc = .ok (.land, 1)) (k : q_J g M fr rm P (pc + 1) ls (.long (x &&& y) :: st) hp c s w) : q_J g M fr rm P pc ls (.long y :: .long x :: st) hp c s w :=
  fun p e R u m args below meth co H locs la E hL hH h1 h2 => lv_land E.2.1 E.2.2.1 hd (k p e R u m args below meth co H locs la E hL hH h1 h2)
theorem q_lor {x y : Int64} (hd : decode M.2.1 pc = .ok (.lor, 1)) (k : q_J g M fr rm P (pc + 1) ls (.long (x ||| y) :: st) hp c s w) : q_J g M fr rm P pc ls (.long y :: .long x :: st) hp c s w :=
  fun p e R u m args below meth co H locs la E hL hH h1 h2 => lv_lor E.2.1 E.2.2.1 hd (k p e R u m args below meth co H locs la E hL hH h1 h2)
theorem q_lxor {x y : Int64} (hd : decode M.2.1 pc = .ok (.lxor, 1)) (k : q_J g M fr rm P (pc + 1) ls (.long (x ^^^ y) :: st) hp c s w) : q_J g M fr rm P pc ls (.long y :: .long x :: st) hp c s w :=
  fun p e R u m args below meth co H locs la E hL hH h1 h2 => lv_lxor E.2.1 E.2.2.1 hd (k p e R u m args below meth co H locs la E hL hH h1 h2)
theorem q_ldiv {x y : Int64} (hd : decode M.2.1 pc = .ok (.ldiv, 1)) (hne : ¬ y = 0) (k : q_J g M fr rm P (pc + 1) ls (.long (x / y) :: st) hp c s w) : q_J g M fr rm P pc ls (.long y :: .long x :: st) hp c s w :=
  fun p e R u m args below meth co H locs la E hL hH h1 h2 => lv_ldiv E.2.1 E.2.2.1 hd hne (k p e R u m args below meth co H locs la E hL hH h1 h2)
theorem q_lrem {x y : Int64} (hd : decode M.2.1 pc = .ok (.lrem, 1)) (hne : ¬ y = 0) (k : q_J g M fr rm P (pc + 1) ls (.long (x - x / y * y) :: st) hp c s w) : q_J g M fr rm P pc ls (.long y :: .long x :: st) hp c s w :=
  fun p e R u m args below meth co H locs la E hL hH h1 h2 => lv_lrem E.2.1 E.2.2.1 hd hne (k p e R u m args below meth co H locs la E hL hH h1 h2)
theorem q_lneg {x : Int64} (hd : decode M.2.1 pc = .ok (.lneg, 1)) (k : q_J g M fr rm P (pc + 1) ls (.long (-x) :: st) hp c s w) : q_J g M fr rm P pc ls (.long x :: st) hp c s w :=
  fun p e R u m args below meth co H locs la E hL hH h1 h2 => lv_lneg E.2.1 E.2.2.1 hd (k p e R u m args below meth co H locs la E hL hH h1 h2)
theorem q_lushr {x : Int64} {y : Int32} (hd : decode M.2.1 pc = .ok (.lushr, 1)) (k : q_J g M fr rm P (pc + 1) ls (.long ((x.toUInt64 >>> (y.toInt64.toUInt64 &&& Int64.toUInt64 63)).toInt64) :: st) hp c s w) : q_J g M fr rm P pc ls (.int y :: .long x :: st) hp c s w :=
  fun p e R u m args below meth co H locs la E hL hH h1 h2 => lv_lushr E.2.1 E.2.2.1 hd rfl (k p e R u m args below meth co H locs la E hL hH h1 h2)
theorem q_lshl {x : Int64} {y : Int32} (hd : decode M.2.1 pc = .ok (.lshl, 1)) (k : q_J g M fr rm P (pc + 1) ls (.long (x <<< (y.toInt64 &&& 63)) :: st) hp c s w) : q_J g M fr rm P pc ls (.int y :: .long x :: st) hp c s w :=
  fun p e R u m args below meth co H locs la E hL hH h1 h2 => lv_lshl E.2.1 E.2.2.1 hd rfl (k p e R u m args below meth co H locs la E hL hH h1 h2)
theorem q_lshr {x : Int64} {y : Int32} (hd : decode M.2.1 pc = .ok (.lshr, 1)) (k : q_J g M fr rm P (pc + 1) ls (.long (x >>> (y.toInt64 &&& 63)) :: st) hp c s w) : q_J g M fr rm P pc ls (.int y :: .long x :: st) hp c s w :=
  fun p e R u m args below meth co H locs la E hL hH h1 h2 => lv_lshr E.2.1 E.2.2.1 hd rfl (k p e R u m args below meth co H locs la E hL hH h1 h2)
theorem q_i2l {x : Int32} (hd : decode M.2.1 pc = .ok (.i2l, 1)) (k : q_J g M fr rm P (pc + 1) ls (.long x.toInt64 :: st) hp c s w) : q_J g M fr rm P pc ls (.int x :: st) hp c s w :=
  fun p e R u m args below meth co H locs la E hL hH h1 h2 => lv_i2l E.2.1 E.2.2.1 hd rfl (k p e R u m args below meth co H locs la E hL hH h1 h2)
theorem q_l2i {x : Int64} (hd : decode M.2.1 pc = .ok (.l2i, 1)) (k : q_J g M fr rm P (pc + 1) ls (.int x.toInt32 :: st) hp c s w) : q_J g M fr rm P pc ls (.long x :: st) hp c s w :=
  fun p e R u m args below meth co H locs la E hL hH h1 h2 => lv_l2i E.2.1 E.2.2.1 hd rfl (k p e R u m args below meth co H locs la E hL hH h1 h2)
theorem q_i2b {x : Int32} (hd : decode M.2.1 pc = .ok (.i2b, 1)) (k : q_J g M fr rm P (pc + 1) ls (.int x.toInt8.toInt32 :: st) hp c s w) : q_J g M fr rm P pc ls (.int x :: st) hp c s w :=
  fun p e R u m args below meth co H locs la E hL hH h1 h2 => lv_i2b E.2.1 E.2.2.1 hd rfl (k p e R u m args below meth co H locs la E hL hH h1 h2)
theorem q_lcmp {x y : Int64} (hd : decode M.2.1 pc = .ok (.lcmp, 1)) (k : q_J g M fr rm P (pc + 1) ls (.int (lg_cmp x y) :: st) hp c s w) : q_J g M fr rm P pc ls (.long y :: .long x :: st) hp c s w :=
  fun p e R u m args below meth co H locs la E hL hH h1 h2 => W.lcmp E.2.1 E.2.2.1 hd (k p e R u m args below meth co H locs la E hL hH h1 h2)
theorem q_dup {va : Value} (hd : decode M.2.1 pc = .ok (.dup, 1)) (hva : va.category = 1) (k : q_J g M fr rm P (pc + 1) ls (va :: va :: st) hp c s w) : q_J g M fr rm P pc ls (va :: st) hp c s w :=
  fun p e R u m args below meth co H locs la E hL hH h1 h2 => lv_dup E.2.1 E.2.2.1 hd (by rw [q_ev_cat]; exact hva) (k p e R u m args below meth co H locs la E hL hH h1 h2)
theorem q_pop {va : Value} (hd : decode M.2.1 pc = .ok (.pop, 1)) (hva : va.category = 1) (k : q_J g M fr rm P (pc + 1) ls st hp c s w) : q_J g M fr rm P pc ls (va :: st) hp c s w :=
  fun p e R u m args below meth co H locs la E hL hH h1 h2 => lv_pop E.2.1 E.2.2.1 hd (by rw [q_ev_cat]; exact hva) (k p e R u m args below meth co H locs la E hL hH h1 h2)
theorem q_dup_x1 {va vb : Value} (hd : decode M.2.1 pc = .ok (.dup_x1, 1)) (hva : va.category = 1) (hvb : vb.category = 1) (k : q_J g M fr rm P (pc + 1) ls (va :: vb :: va :: st) hp c s w) : q_J g M fr rm P pc ls (va :: vb :: st) hp c s w :=
  fun p e R u m args below meth co H locs la E hL hH h1 h2 => lv_dup_x1 E.2.1 E.2.2.1 hd (by rw [q_ev_cat]; exact hva) (by rw [q_ev_cat]; exact hvb) (k p e R u m args below meth co H locs la E hL hH h1 h2)
theorem q_dup_x2 {va vb vd : Value} (hd : decode M.2.1 pc = .ok (.dup_x2, 1)) (hva : va.category = 1) (hvb : vb.category = 1) (hvd : vd.category = 1) (k : q_J g M fr rm P (pc + 1) ls (va :: vb :: vd :: va :: st) hp c s w) : q_J g M fr rm P pc ls (va :: vb :: vd :: st) hp c s w :=
  fun p e R u m args below meth co H locs la E hL hH h1 h2 => lv_dup_x2 E.2.1 E.2.2.1 hd (by rw [q_ev_cat]; exact hva) (by rw [q_ev_cat]; exact hvb) (by rw [q_ev_cat]; exact hvd) (k p e R u m args below meth co H locs la E hL hH h1 h2)
theorem q_dup2 {va vb : Value} (hd : decode M.2.1 pc = .ok (.dup2, 1)) (hva : va.category = 1) (hvb : vb.category = 1) (k : q_J g M fr rm P (pc + 1) ls (va :: vb :: va :: vb :: st) hp c s w) : q_J g M fr rm P pc ls (va :: vb :: st) hp c s w :=
  fun p e R u m args below meth co H locs la E hL hH h1 h2 => lv_dup2_11 E.2.1 E.2.2.1 hd (by rw [q_ev_cat]; exact hva) (by rw [q_ev_cat]; exact hvb) (k p e R u m args below meth co H locs la E hL hH h1 h2)
theorem q_dup2_2 {va : Value} (hd : decode M.2.1 pc = .ok (.dup2, 1)) (hva : va.category = 2) (k : q_J g M fr rm P (pc + 1) ls (va :: va :: st) hp c s w) : q_J g M fr rm P pc ls (va :: st) hp c s w :=
  fun p e R u m args below meth co H locs la E hL hH h1 h2 => lv_dup2_2 E.2.1 E.2.2.1 hd (by rw [q_ev_cat]; exact hva) (k p e R u m args below meth co H locs la E hL hH h1 h2)
theorem q_pop2_2 {va : Value} (hd : decode M.2.1 pc = .ok (.pop2, 1)) (hva : va.category = 2) (k : q_J g M fr rm P (pc + 1) ls st hp c s w) : q_J g M fr rm P pc ls (va :: st) hp c s w :=
  fun p e R u m args below meth co H locs la E hL hH h1 h2 => lv_pop2_2 E.2.1 E.2.2.1 hd (by rw [q_ev_cat]; exact hva) (k p e R u m args below meth co H locs la E hL hH h1 h2)
theorem q_dup2_x1_2 {va vb : Value} (hd : decode M.2.1 pc = .ok (.dup2_x1, 1)) (hva : va.category = 2) (hvb : vb.category = 1) (k : q_J g M fr rm P (pc + 1) ls (va :: vb :: va :: st) hp c s w) : q_J g M fr rm P pc ls (va :: vb :: st) hp c s w :=
  fun p e R u m args below meth co H locs la E hL hH h1 h2 => lv_dup2_x1_2 E.2.1 E.2.2.1 hd (by rw [q_ev_cat]; exact hva) (by rw [q_ev_cat]; exact hvb) (k p e R u m args below meth co H locs la E hL hH h1 h2)
theorem q_dup2_x2_2 {va vb vd : Value} (hd : decode M.2.1 pc = .ok (.dup2_x2, 1)) (hva : va.category = 2) (hvb : vb.category = 1) (hvd : vd.category = 1) (k : q_J g M fr rm P (pc + 1) ls (va :: vb :: vd :: va :: st) hp c s w) : q_J g M fr rm P pc ls (va :: vb :: vd :: st) hp c s w :=
  fun p e R u m args below meth co H locs la E hL hH h1 h2 => lv_dup2_x2_2 E.2.1 E.2.2.1 hd (by rw [q_ev_cat]; exact hva) (by rw [q_ev_cat]; exact hvb) (by rw [q_ev_cat]; exact hvd) (k p e R u m args below meth co H locs la E hL hH h1 h2)
theorem q_if_eq {x : Int32} {off : Int} {tgt : Nat} (hd : decode M.2.1 pc = .ok (.ifCond .eq off, 3)) (ht : (pc : Int) + off = (tgt : Int)) (kt : x = 0 → q_J g M fr rm P tgt ls st hp c s w) (kf : ¬ x = 0 → q_J g M fr rm P (pc + 3) ls st hp c s w) : q_J g M fr rm P pc ls (.int x :: st) hp c s w :=
  fun p e R u m args below meth co H locs la E hL hH h1 h2 => lv_if_eq E.2.1 E.2.2.1 hd ht (fun h => kt h p e R u m args below meth co H locs la E hL hH h1 h2) (fun h => kf h p e R u m args below meth co H locs la E hL hH h1 h2)
theorem q_icmp_eq {x y : Int32} {off : Int} {tgt : Nat} (hd : decode M.2.1 pc = .ok (.if_icmp .eq off, 3)) (ht : (pc : Int) + off = (tgt : Int)) (kt : x = y → q_J g M fr rm P tgt ls st hp c s w) (kf : ¬ x = y → q_J g M fr rm P (pc + 3) ls st hp c s w) : q_J g M fr rm P pc ls (.int y :: .int x :: st) hp c s w :=
  fun p e R u m args below meth co H locs la E hL hH h1 h2 => lv_icmp_eq E.2.1 E.2.2.1 hd ht (fun h => kt h p e R u m args below meth co H locs la E hL hH h1 h2) (fun h => kf h p e R u m args below meth co H locs la E hL hH h1 h2)
theorem q_if_ne {x : Int32} {off : Int} {tgt : Nat} (hd : decode M.2.1 pc = .ok (.ifCond .ne off, 3)) (ht : (pc : Int) + off = (tgt : Int)) (kt : ¬ x = 0 → q_J g M fr rm P tgt ls st hp c s w) (kf : x = 0 → q_J g M fr rm P (pc + 3) ls st hp c s w) : q_J g M fr rm P pc ls (.int x :: st) hp c s w :=
  fun p e R u m args below meth co H locs la E hL hH h1 h2 => lv_if_ne E.2.1 E.2.2.1 hd ht (fun h => kt h p e R u m args below meth co H locs la E hL hH h1 h2) (fun h => kf h p e R u m args below meth co H locs la E hL hH h1 h2)
theorem q_icmp_ne {x y : Int32} {off : Int} {tgt : Nat} (hd : decode M.2.1 pc = .ok (.if_icmp .ne off, 3)) (ht : (pc : Int) + off = (tgt : Int)) (kt : ¬ x = y → q_J g M fr rm P tgt ls st hp c s w) (kf : x = y → q_J g M fr rm P (pc + 3) ls st hp c s w) : q_J g M fr rm P pc ls (.int y :: .int x :: st) hp c s w :=
  fun p e R u m args below meth co H locs la E hL hH h1 h2 => lv_icmp_ne E.2.1 E.2.2.1 hd ht (fun h => kt h p e R u m args below meth co H locs la E hL hH h1 h2) (fun h => kf h p e R u m args below meth co H locs la E hL hH h1 h2)
theorem q_if_lt {x : Int32} {off : Int} {tgt : Nat} (hd : decode M.2.1 pc = .ok (.ifCond .lt off, 3)) (ht : (pc : Int) + off = (tgt : Int)) (kt : x < 0 → q_J g M fr rm P tgt ls st hp c s w) (kf : ¬ x < 0 → q_J g M fr rm P (pc + 3) ls st hp c s w) : q_J g M fr rm P pc ls (.int x :: st) hp c s w :=
  fun p e R u m args below meth co H locs la E hL hH h1 h2 => lv_if_lt E.2.1 E.2.2.1 hd ht (fun h => kt h p e R u m args below meth co H locs la E hL hH h1 h2) (fun h => kf h p e R u m args below meth co H locs la E hL hH h1 h2)
theorem q_icmp_lt {x y : Int32} {off : Int} {tgt : Nat} (hd : decode M.2.1 pc = .ok (.if_icmp .lt off, 3)) (ht : (pc : Int) + off = (tgt : Int)) (kt : x < y → q_J g M fr rm P tgt ls st hp c s w) (kf : ¬ x < y → q_J g M fr rm P (pc + 3) ls st hp c s w) : q_J g M fr rm P pc ls (.int y :: .int x :: st) hp c s w :=
  fun p e R u m args below meth co H locs la E hL hH h1 h2 => lv_icmp_lt E.2.1 E.2.2.1 hd ht (fun h => kt h p e R u m args below meth co H locs la E hL hH h1 h2) (fun h => kf h p e R u m args below meth co H locs la E hL hH h1 h2)
theorem q_if_ge {x : Int32} {off : Int} {tgt : Nat} (hd : decode M.2.1 pc = .ok (.ifCond .ge off, 3)) (ht : (pc : Int) + off = (tgt : Int)) (kt : 0 ≤ x → q_J g M fr rm P tgt ls st hp c s w) (kf : ¬ 0 ≤ x → q_J g M fr rm P (pc + 3) ls st hp c s w) : q_J g M fr rm P pc ls (.int x :: st) hp c s w :=
  fun p e R u m args below meth co H locs la E hL hH h1 h2 => lv_if_ge E.2.1 E.2.2.1 hd ht (fun h => kt h p e R u m args below meth co H locs la E hL hH h1 h2) (fun h => kf h p e R u m args below meth co H locs la E hL hH h1 h2)
theorem q_icmp_ge {x y : Int32} {off : Int} {tgt : Nat} (hd : decode M.2.1 pc = .ok (.if_icmp .ge off, 3)) (ht : (pc : Int) + off = (tgt : Int)) (kt : y ≤ x → q_J g M fr rm P tgt ls st hp c s w) (kf : ¬ y ≤ x → q_J g M fr rm P (pc + 3) ls st hp c s w) : q_J g M fr rm P pc ls (.int y :: .int x :: st) hp c s w :=
  fun p e R u m args below meth co H locs la E hL hH h1 h2 => lv_icmp_ge E.2.1 E.2.2.1 hd ht (fun h => kt h p e R u m args below meth co H locs la E hL hH h1 h2) (fun h => kf h p e R u m args below meth co H locs la E hL hH h1 h2)
theorem q_if_gt {x : Int32} {off : Int} {tgt : Nat} (hd : decode M.2.1 pc = .ok (.ifCond .gt off, 3)) (ht : (pc : Int) + off = (tgt : Int)) (kt : 0 < x → q_J g M fr rm P tgt ls st hp c s w) (kf : ¬ 0 < x → q_J g M fr rm P (pc + 3) ls st hp c s w) : q_J g M fr rm P pc ls (.int x :: st) hp c s w :=
  fun p e R u m args below meth co H locs la E hL hH h1 h2 => lv_if_gt E.2.1 E.2.2.1 hd ht (fun h => kt h p e R u m args below meth co H locs la E hL hH h1 h2) (fun h => kf h p e R u m args below meth co H locs la E hL hH h1 h2)
theorem q_icmp_gt {x y : Int32} {off : Int} {tgt : Nat} (hd : decode M.2.1 pc = .ok (.if_icmp .gt off, 3)) (ht : (pc : Int) + off = (tgt : Int)) (kt : y < x → q_J g M fr rm P tgt ls st hp c s w) (kf : ¬ y < x → q_J g M fr rm P (pc + 3) ls st hp c s w) : q_J g M fr rm P pc ls (.int y :: .int x :: st) hp c s w :=
  fun p e R u m args below meth co H locs la E hL hH h1 h2 => lv_icmp_gt E.2.1 E.2.2.1 hd ht (fun h => kt h p e R u m args below meth co H locs la E hL hH h1 h2) (fun h => kf h p e R u m args below meth co H locs la E hL hH h1 h2)
theorem q_if_le {x : Int32} {off : Int} {tgt : Nat} (hd : decode M.2.1 pc = .ok (.ifCond .le off, 3)) (ht : (pc : Int) + off = (tgt : Int)) (kt : x ≤ 0 → q_J g M fr rm P tgt ls st hp c s w) (kf : ¬ x ≤ 0 → q_J g M fr rm P (pc + 3) ls st hp c s w) : q_J g M fr rm P pc ls (.int x :: st) hp c s w :=
  fun p e R u m args below meth co H locs la E hL hH h1 h2 => lv_if_le E.2.1 E.2.2.1 hd ht (fun h => kt h p e R u m args below meth co H locs la E hL hH h1 h2) (fun h => kf h p e R u m args below meth co H locs la E hL hH h1 h2)
theorem q_icmp_le {x y : Int32} {off : Int} {tgt : Nat} (hd : decode M.2.1 pc = .ok (.if_icmp .le off, 3)) (ht : (pc : Int) + off = (tgt : Int)) (kt : x ≤ y → q_J g M fr rm P tgt ls st hp c s w) (kf : ¬ x ≤ y → q_J g M fr rm P (pc + 3) ls st hp c s w) : q_J g M fr rm P pc ls (.int y :: .int x :: st) hp c s w :=
  fun p e R u m args below meth co H locs la E hL hH h1 h2 => lv_icmp_le E.2.1 E.2.2.1 hd ht (fun h => kt h p e R u m args below meth co H locs la E hL hH h1 h2) (fun h => kf h p e R u m args below meth co H locs la E hL hH h1 h2)
theorem q_goto {off : Int} {tgt : Nat} (hd : decode M.2.1 pc = .ok (.goto off, 3)) (ht : (pc : Int) + off = (tgt : Int)) (k : q_J g M fr rm P tgt ls st hp c s w) : q_J g M fr rm P pc ls st hp c s w :=
  fun p e R u m args below meth co H locs la E hL hH h1 h2 => lv_goto E.2.1 E.2.2.1 hd ht (k p e R u m args below meth co H locs la E hL hH h1 h2)
theorem q_ifnull_t {off : Int} {tgt : Nat} (hd : decode M.2.1 pc = .ok (.ifnull off, 3)) (ht : (pc : Int) + off = (tgt : Int)) (k : q_J g M fr rm P tgt ls st hp c s w) : q_J g M fr rm P pc ls (.null :: st) hp c s w :=
  fun p e R u m args below meth co H locs la E hL hH h1 h2 => lv_ifnullN E.2.1 E.2.2.1 hd ht (k p e R u m args below meth co H locs la E hL hH h1 h2)
theorem q_ifnull_f {a : Nat} {off : Int} (hd : decode M.2.1 pc = .ok (.ifnull off, 3)) (k : q_J g M fr rm P (pc + 3) ls st hp c s w) : q_J g M fr rm P pc ls (.ref a :: st) hp c s w :=
  fun p e R u m args below meth co H locs la E hL hH h1 h2 => lv_ifnull E.2.1 E.2.2.1 hd (k p e R u m args below meth co H locs la E hL hH h1 h2)
theorem q_ifnonnull_t {a : Nat} {off : Int} {tgt : Nat} (hd : decode M.2.1 pc = .ok (.ifnonnull off, 3)) (ht : (pc : Int) + off = (tgt : Int)) (k : q_J g M fr rm P tgt ls st hp c s w) : q_J g M fr rm P pc ls (.ref a :: st) hp c s w :=
  fun p e R u m args below meth co H locs la E hL hH h1 h2 => lv_ifnonnull E.2.1 E.2.2.1 hd ht (k p e R u m args below meth co H locs la E hL hH h1 h2)
theorem q_ifnonnull_f {off : Int} (hd : decode M.2.1 pc = .ok (.ifnonnull off, 3)) (k : q_J g M fr rm P (pc + 3) ls st hp c s w) : q_J g M fr rm P pc ls (.null :: st) hp c s w :=
  fun p e R u m args below meth co H locs la E hL hH h1 h2 => lv_ifnonnullN E.2.1 E.2.2.1 hd (k p e R u m args below meth co H locs la E hL hH h1 h2)
theorem q_lookup {dflt : Int} {ps : Array (Int × Int)} {len : Nat} {x : Int32} {off : Int} {tgt : Nat} (hd : decode M.2.1 pc = .ok (.lookupswitch dflt ps, len)) (hp' : (ps.toList.zip (ps.toList.drop 1)).all (fun (a, next) => a.1 < next.1) = true) (ho : Op.lookupswitch.offset ps.toList dflt x.toInt = off) (ht : (pc : Int) + off = (tgt : Int)) (k : q_J g M fr rm P tgt ls st hp c s w) : q_J g M fr rm P pc ls (.int x :: st) hp c s w :=
  fun p e R u m args below meth co H locs la E hL hH h1 h2 => lv_lookup E.2.1 E.2.2.1 hd hp' ho ht (k p e R u m args below meth co H locs la E hL hH h1 h2)
theorem q_tableOut {dflt lo hi : Int} {offs : Array Int} {len : Nat} {x : Int32} {tgt : Nat} (hd : decode M.2.1 pc = .ok (.tableswitch dflt lo hi offs, len)) (h : x.toInt < lo ∨ hi < x.toInt) (ht : (pc : Int) + dflt = (tgt : Int)) (k : q_J g M fr rm P tgt ls st hp c s w) : q_J g M fr rm P pc ls (.int x :: st) hp c s w :=
  fun p e R u m args below meth co H locs la E hL hH h1 h2 => lv_tableOut E.2.1 E.2.2.1 hd h ht (k p e R u m args below meth co H locs la E hL hH h1 h2)
theorem q_tableIn {dflt lo hi : Int} {offs : Array Int} {len : Nat} {x : Int32} {off : Int} {tgt : Nat} (hd : decode M.2.1 pc = .ok (.tableswitch dflt lo hi offs, len)) (h3 : ¬ x.toInt < lo) (h4 : ¬ hi < x.toInt) (ho : offs[(x.toInt - lo).toNat]? = some off) (ht : (pc : Int) + off = (tgt : Int)) (k : q_J g M fr rm P tgt ls st hp c s w) : q_J g M fr rm P pc ls (.int x :: st) hp c s w :=
  fun p e R u m args below meth co H locs la E hL hH h1 h2 => lv_tableIn E.2.1 E.2.2.1 hd h3 h4 ho ht (k p e R u m args below meth co H locs la E hL hH h1 h2)
theorem q_ldc {index : Nat} {v : Int32} (hd : decode M.2.1 pc = .ok (.ldc index, 2)) (hw : Jvm.Cond.constant M.1.cls index v ∈ q_gw) (k : q_J g M fr rm P (pc + 2) ls (.int v :: st) hp c s w) : q_J g M fr rm P pc ls st hp c s w :=
  fun p e R u m args below meth co H locs la E hL hH h1 h2 => lv_ldc E.2.1 E.2.2.1 E.2.2.2.2.1 (q_word E.1 E.2.2.2.2.2.1 hw rfl) hd (k p e R u m args below meth co H locs la E hL hH h1 h2)
theorem q_ldc2 {index : Nat} {v : Int64} (hd : decode M.2.1 pc = .ok (.ldc2_w index, 3)) (hw : Jvm.Cond.constantLong M.1.cls index v ∈ q_gw) (k : q_J g M fr rm P (pc + 3) ls (.long v :: st) hp c s w) : q_J g M fr rm P pc ls st hp c s w :=
  fun p e R u m args below meth co H locs la E hL hH h1 h2 => lv_ldc2 E.2.1 E.2.2.1 E.2.2.2.2.1 (q_word E.1 E.2.2.2.2.2.1 hw rfl) hd (k p e R u m args below meth co H locs la E hL hH h1 h2)
theorem q_iret {v : Int32} (hd : decode M.2.1 pc = .ok (.ireturn, 1)) (hr : M.2.2.2.1 = some .int) (hP : P (.returned (some (.int v))) hp) (hc : c ≤ rm.cells) (hs : s ≤ rm.slots) (hw : w = true → fr = true) : q_J g M fr rm P pc ls [.int v] hp c s w := by
  intro p e R u m args below meth co H locs la E hL hH h1 h2
  have hlk := E.2.2.2.2.2.2.2.1
  have hrt := E.2.2.2.2.2.2.1
  refine W.widen hc hs (q_mono q_ofMQ (W.iret (Qc := fun _ => q_Q g fr P) E.2.1 E.2.2.1 (hrt.trans hr) (fun t ht _ => ?_) (fun q hq => ⟨hw (h1 q hq).1, (h1 q hq).2⟩) hd hlk))
  refine ⟨.returned (some (.int v)), hp, rfl, by rw [ht]; exact hH, hP, fun hf _ => ?_⟩
  rw [ht]
  refine h2 ?_
  cases w with
  | true => rw [hw rfl] at hf; cases hf
  | false => rfl
theorem q_zret {v : Int32} (hd : decode M.2.1 pc = .ok (.ireturn, 1)) (hr : M.2.2.2.1 = some .boolean) (hn : narrow .boolean (.int v) = .int v) (hP : P (.returned (some (.int v))) hp) (hc : c ≤ rm.cells) (hs : s ≤ rm.slots) (hw : w = true → fr = true) : q_J g M fr rm P pc ls [.int v] hp c s w := by
  intro p e R u m args below meth co H locs la E hL hH h1 h2
  have hlk := E.2.2.2.2.2.2.2.1
  have hrt := E.2.2.2.2.2.2.1
  refine W.widen hc hs (q_mono q_ofMQ (W.zret (Qc := fun _ => q_Q g fr P) E.2.1 E.2.2.1 (hrt.trans hr) hn (fun t ht _ => ?_) (fun q hq => ⟨hw (h1 q hq).1, (h1 q hq).2⟩) hd hlk))
  refine ⟨.returned (some (.int v)), hp, rfl, by rw [ht]; exact hH, hP, fun hf _ => ?_⟩
  rw [ht]
  refine h2 ?_
  cases w with
  | true => rw [hw rfl] at hf; cases hf
  | false => rfl
theorem q_lret {v : Int64} (hd : decode M.2.1 pc = .ok (.lreturn, 1)) (hr : M.2.2.2.1 = some .long) (hP : P (.returned (some (.long v))) hp) (hc : c ≤ rm.cells) (hs : s ≤ rm.slots) (hw : w = true → fr = true) : q_J g M fr rm P pc ls [.long v] hp c s w := by
  intro p e R u m args below meth co H locs la E hL hH h1 h2
  have hlk := E.2.2.2.2.2.2.2.1
  have hrt := E.2.2.2.2.2.2.1
  refine W.widen hc hs (q_mono q_ofMQ (W.lret (Qc := fun _ => q_Q g fr P) E.2.1 E.2.2.1 (hrt.trans hr) (fun t ht _ => ?_) (fun q hq => ⟨hw (h1 q hq).1, (h1 q hq).2⟩) hd hlk))
  refine ⟨.returned (some (.long v)), hp, rfl, by rw [ht]; exact hH, hP, fun hf _ => ?_⟩
  rw [ht]
  refine h2 ?_
  cases w with
  | true => rw [hw rfl] at hf; cases hf
  | false => rfl
theorem q_vret (hd : decode M.2.1 pc = .ok (.return_, 1)) (hr : M.2.2.2.1 = none) (hP : P (.returned none) hp) (hc : c ≤ rm.cells) (hs : s ≤ rm.slots) (hw : w = true → fr = true) : q_J g M fr rm P pc ls [] hp c s w := by
  intro p e R u m args below meth co H locs la E hL hH h1 h2
  have hlk := E.2.2.2.2.2.2.2.1
  have hrt := E.2.2.2.2.2.2.1
  refine W.widen hc hs (q_mono q_ofMQ (W.vret (Qc := fun _ => q_Q g fr P) E.2.1 E.2.2.1 (hrt.trans hr) (fun t ht _ => ?_) (fun q hq => ⟨hw (h1 q hq).1, (h1 q hq).2⟩) hd hlk))
  refine ⟨.returned none, hp, rfl, by rw [ht]; exact hH, hP, fun hf _ => ?_⟩
  rw [ht]
  refine h2 ?_
  cases w with
  | true => rw [hw rfl] at hf; cases hf
  | false => rfl
theorem q_aret {v : Value} {n : String} (hd : decode M.2.1 pc = .ok (.areturn, 1)) (hr : M.2.2.2.1 = some (.object n)) (hv : q_isr v = true) (hP : P (.returned (some v)) hp) (hc : c ≤ rm.cells) (hs : s ≤ rm.slots) (hw : w = true → fr = true) : q_J g M fr rm P pc ls [v] hp c s w := by
  intro p e R u m args below meth co H locs la E hL hH h1 h2
  have hlk := E.2.2.2.2.2.2.2.1
  have hrt := E.2.2.2.2.2.2.1
  refine W.widen hc hs (q_mono q_ofMQ (W.aret (Qc := fun _ => q_Q g fr P) E.2.1 E.2.2.1 (hrt.trans hr) (Or.inl ⟨n, rfl⟩) ?_ (fun t ht _ => ?_) (fun q hq => ⟨hw (h1 q hq).1, (h1 q hq).2⟩) hd hlk))
  · cases v <;> first | (exact Or.inl rfl) | (exact Or.inr ⟨_, rfl⟩) | (exact absurd hv (by simp [q_isr]))
  · refine ⟨.returned (some v), hp, rfl, by rw [ht]; exact hH, hP, fun hf _ => ?_⟩
    rw [ht]
    refine h2 ?_
    cases w with
    | true => rw [hw rfl] at hf; cases hf
    | false => rfl
end ENG2
end
section
/-! The engine, 3: rows of the instructions that read, write and make cells -/
section ENG3
theorem q_fit_ok {g : q_G} {ty : FieldType} {v : Value} (h1 : narrow ty v = v) (h2 : fits ty v = true) : narrow ty (q_ev g v) = q_ev g v ∧ fits ty (q_ev g v) = true := by
  cases v with
  | ref a => cases ty <;> first | (exact ⟨rfl, rfl⟩) | (simp [fits] at h2)
  | retAddr a => cases ty <;> simp [fits] at h2
  | _ => exact ⟨h1, h2⟩
theorem q_lay_good {C : String} {T : u_T} {N : Nat} {w : Jvm.Cond} (h : w ∈ u_ws C T N) : goodWord w = true := by
  obtain ⟨k, -, rfl⟩ := List.mem_map.mp h
  unfold u_lay
  split <;> rfl
/-- a field's entry in a class's pool: the class's place, the field's place, final -/
def q_F (own : String) (idx ci k : Nat) (fl : Bool) : Prop := ∃ q : vw_C, q_cl[ci]? = some q ∧ k < q.2.2 ∧ (q.2.1 k).1 = q.1 ∧ (q.2.1 k).2.2.2 = fl ∧
  (Jvm.Cond.fieldLink own idx q.1 (q.2.1 k).2.1 (q.2.1 k).2.2.1 ∈ q_gw ∨ ∃ host, Jvm.Cond.fieldLinkNest own idx q.1 (q.2.1 k).2.1 (q.2.1 k).2.2.1 host ∈ q_gw)
theorem q_nestF {g : q_G} (hG : q_GG g) {u : State} (hu : (q_s g).WarmedH u.vm) {args : Array Value} {a : String} {i : Nat} {b n d h : String} (hw : Jvm.Cond.fieldLinkNest a i b n d h ∈ q_gw) : (Jvm.Cond.fieldLinkNest a i b n d h).before args u = true :=
  va_Nw.use rfl (va_Nw.warmF hu (va_Nw.of rfl (hG.1 _ hw)))
theorem q_nestM {g : q_G} (hG : q_GG g) {u : State} (hu : (q_s g).WarmedH u.vm) {args : Array Value} {a : String} {i : Nat} {x : MethodName} {h : String} (hw : Jvm.Cond.methodLinkNest a i x h ∈ q_gw) : (Jvm.Cond.methodLinkNest a i x h).before args u = true :=
  va_Nw.use rfl (va_Nw.warmM hu (va_Nw.of rfl (hG.1 _ hw)))
theorem q_lays {g : q_G} (hG : q_GG g) {u : State} (hu : (q_s g).WarmedH u.vm) {args : Array Value} {ci : Nat} {q : vw_C} (hc : q_cl[ci]? = some q) : ∀ w ∈ u_ws q.1 q.2.1 q.2.2, w.before args u = true := fun w hw => q_word hG hu (q_cl_in ci q hc w hw) (q_lay_good hw)
variable {g : q_G} {M : q_Me} {fr : Bool} {rm : Room} {P : Outcome → List va_E → Prop} {pc : Nat} {ls : List (Option Value)} {st : List Value} {hp : List va_E} {c s : Nat} {w : Bool}
theorem q_locs {g : q_G} {locs : List Loc} {w : Bool} {a i : Nat} (h1 : ∀ q ∈ locs, w = true ∧ q_b g ≤ q.base) : ∀ q ∈ locs ++ [⟨q_b g + a, i⟩], true = true ∧ q_b g ≤ q.base := by
  intro q hq
  rcases List.mem_append.mp hq with h | h
  · exact ⟨rfl, (h1 q h).2⟩
  · rw [List.mem_singleton.mp h]
    exact ⟨rfl, Nat.le_add_right _ _⟩
theorem q_get {idx ci k a : Nat} {fl : Bool} {fs : List Value} {v : Value} (hd : decode M.2.1 pc = .ok (.getfield idx, 3)) (hf : q_F M.1.cls idx ci k fl) (he : hp[a]? = some (.inr (ci, fs))) (hv : fs[k]? = some v) (kk : q_J g M fr rm P (pc + 3) ls (v :: st) hp c s w) : q_J g M fr rm P pc ls (.ref a :: st) hp c s w := by
  intro p e R u m args below meth co H locs la E hL hH h1 h2
  obtain ⟨q, hc, hk, hdl, -, hlk⟩ := hf
  have hu := E.2.2.2.2.2.1
  have hv' : (fs.map (q_ev g))[k]? = some (q_ev g v) := by rw [List.getElem?_map, hv]; rfl
  rcases hlk with hlk | ⟨host, hlk⟩
  · exact va_get (D := q_D g) (ci := ci) (v := q_ev g v) (C := q.1) (T := q.2.1) (N := q.2.2) (tys := []) E.2.1 E.2.2.1 (q_lays E.1 hu hc) (fun _ h => h) E.2.2.2.2.1 (q_K0 E.1 hu) (q_P1 hH he) 0 rfl hc k hk (q_word E.1 hu hlk rfl) (fun x hx => by rw [← hdl]; exact hx) hv' hd (kk p e R u m args below meth co H locs la E hL hH h1 h2)
  · exact va_getN (D := q_D g) (ci := ci) (v := q_ev g v) (C := q.1) (T := q.2.1) (N := q.2.2) (tys := []) E.2.1 E.2.2.1 (q_lays E.1 hu hc) (fun _ h => h) E.2.2.2.2.1 (q_K0 E.1 hu) (q_P1 hH he) 0 rfl hc k hk (q_nestF E.1 hu hlk) (fun x hx => by rw [← hdl]; exact hx) hv' hd (kk p e R u m args below meth co H locs la E hL hH h1 h2)
theorem q_put {idx ci k a : Nat} {fs : List Value} {v : Value} (hd : decode M.2.1 pc = .ok (.putfield idx, 3)) (hf : q_F M.1.cls idx ci k false) (he : hp[a]? = some (.inr (ci, fs))) (hl : k < fs.length) (hn : narrow (q_tf ci k) v = v) (ht : fits (q_tf ci k) v = true) (kk : q_J g M fr rm P (pc + 3) ls st (hp.set a (.inr (ci, fs.set k v))) c s true) : q_J g M fr rm P pc ls (v :: .ref a :: st) hp c s w := by
  intro p e R u m args below meth co H locs la E hL hH h1 h2
  obtain ⟨q, hc, hk, hdl, hfl, hlk⟩ := hf
  have hu := E.2.2.2.2.2.1
  have hlys := q_lays E.1 hu (args := args) hc
  have hKn := q_K0 E.1 hu
  have hap := va_apart (own := M.1.cls) hlys (fun _ h => h) (q_tf ci) (q_cl_ty ci q hc) (q_cl_nm ci q hc) hKn hc
  obtain ⟨r, h3, cell, q1, q2, q3, q4⟩ := hH.2.2 a _ he
  obtain ⟨hS, hfc, kC, hkC, hkind⟩ := hKn.1 ci _ hc
  have hr : r = q := Option.some.inj (h3.symm.trans hc)
  rw [hr] at q4
  obtain ⟨cf, kf, fi, f, hi, hsl⟩ := hS k hk
  have hlay := hlys _ (u_in_lay hk)
  unfold u_lay at hlay
  have hst := (u_facts hfc hkC (u_lays hlys (fun _ h => h) hk) hi).1
  obtain ⟨hn1, hn2⟩ := q_fit_ok (g := g) hn ht
  have key : ∀ H' : Heap, H'[q_b g + a]? = some (cell.setSlot f.slot (q_ev g v)) → H'.size = H.size → (∀ q, q ≠ q_b g + a → H'[q]? = H[q]?) → W p (q_l g) e R u m args below meth co H' (locs ++ [⟨q_b g + a, f.slot⟩]) c s (q_M below (q_Q g fr P) u rm.cells rm.slots (fun q => fr = true ∧ q_b g ≤ q)) (F0 m (pc + 3) la (st.map (q_ev g))) := by
    intro H' e1 e2 e3
    refine kk p e R u m args below meth co H' _ la E hL (hH.set he e2 e3 ?_) (q_locs h1) (fun h => by cases h)
    rw [hsl] at e1
    refine ⟨q, hc, t_OB.to (V := updV (vp_V (fs.map (q_ev g))) k (q_ev g v)) ⟨_, e1, q2, q3, t_set q4 hap hk _⟩ (fun j _ => ?_)⟩
    rw [vp_updV_set (by rw [List.length_map]; exact hl), List.map_set]
  have hlt : f.slot < cell.slots.size := by rw [hsl]; exact k2_hasslot (q4 k hk)
  have hi' : u.fieldFound? q.1 (q.2.1 k).2.1 (q.2.1 k).2.2.1 = some (cf, kf, fi, f) := by rw [← hdl]; exact hi
  rw [if_neg (by rw [hfl]; decide)] at hlay
  have h6 := u_store hfc hkC hkind hlay hi (q_cl_ty ci _ hc k hk) hn1 hn2
  rcases hlk with hlk | ⟨host, hlk⟩
  · exact W.putK E.2.1 E.2.2.1 (f := f) ⟨E.2.2.2.2.1, q_word E.1 hu hlk rfl, ⟨_, _, _, hi'⟩, hst⟩ (by rw [q2]; exact h6) q1 q3 hlt rfl rfl hd key
  · exact va_WputK E.2.1 E.2.2.1 (f := f) E.2.2.2.2.1 (q_nestF E.1 hu hlk) hi' hst (by rw [q2]; exact h6) q1 q3 hlt rfl rfl hd key
theorem q_putF {idx ci k a : Nat} {fs : List Value} {v : Value} (hd : decode M.2.1 pc = .ok (.putfield idx, 3)) (hf : q_F M.1.cls idx ci k true) (hin : M.1.name = "<init>") (hown : ∀ q : vw_C, q_cl[ci]? = some q → q.1 = M.1.cls) (he : hp[a]? = some (.inr (ci, fs))) (hl : k < fs.length) (hn : narrow (q_tf ci k) v = v) (ht : fits (q_tf ci k) v = true) (kk : q_J g M fr rm P (pc + 3) ls st (hp.set a (.inr (ci, fs.set k v))) c s true) : q_J g M fr rm P pc ls (v :: .ref a :: st) hp c s w := by
  intro p e R u m args below meth co H locs la E hL hH h1 h2
  obtain ⟨q, hc, hk, hdl, hfl, hlk⟩ := hf
  have hu := E.2.2.2.2.2.1
  have hlys := q_lays E.1 hu (args := args) hc
  have hKn := q_K0 E.1 hu
  have hap := va_apart (own := M.1.cls) hlys (fun _ h => h) (q_tf ci) (q_cl_ty ci q hc) (q_cl_nm ci q hc) hKn hc
  obtain ⟨r, h3, cell, q1, q2, q3, q4⟩ := hH.2.2 a _ he
  obtain ⟨hS, hfc, kC, hkC, hkind⟩ := hKn.1 ci _ hc
  have hr : r = q := Option.some.inj (h3.symm.trans hc)
  rw [hr] at q4
  obtain ⟨cf, kf, fi, f, hi, hsl⟩ := hS k hk
  have hlay := hlys _ (u_in_lay hk)
  unfold u_lay at hlay
  have hst := (u_facts hfc hkC (u_lays hlys (fun _ h => h) hk) hi).1
  obtain ⟨hn1, hn2⟩ := q_fit_ok (g := g) hn ht
  have key : ∀ H' : Heap, H'[q_b g + a]? = some (cell.setSlot f.slot (q_ev g v)) → H'.size = H.size → (∀ q, q ≠ q_b g + a → H'[q]? = H[q]?) → W p (q_l g) e R u m args below meth co H' (locs ++ [⟨q_b g + a, f.slot⟩]) c s (q_M below (q_Q g fr P) u rm.cells rm.slots (fun q => fr = true ∧ q_b g ≤ q)) (F0 m (pc + 3) la (st.map (q_ev g))) := by
    intro H' e1 e2 e3
    refine kk p e R u m args below meth co H' _ la E hL (hH.set he e2 e3 ?_) (q_locs h1) (fun h => by cases h)
    rw [hsl] at e1
    refine ⟨q, hc, t_OB.to (V := updV (vp_V (fs.map (q_ev g))) k (q_ev g v)) ⟨_, e1, q2, q3, t_set q4 hap hk _⟩ (fun j _ => ?_)⟩
    rw [vp_updV_set (by rw [List.length_map]; exact hl), List.map_set]
  have hlt : f.slot < cell.slots.size := by rw [hsl]; exact k2_hasslot (q4 k hk)
  have hi' : u.fieldFound? q.1 (q.2.1 k).2.1 (q.2.1 k).2.2.1 = some (cf, kf, fi, f) := by rw [← hdl]; exact hi
  rw [if_pos hfl] at hlay
  have hcf : m.cls = cf := by
    obtain ⟨_, _, c', _, _, _, -, -, hf', -, -, -, hown2, -⟩ := Cond.laysFinal_spec hlay
    have e1 : c' = cf := by have := hi.symm.trans hf'; simp at this; exact this.1.symm
    rw [hdl, hown q hc] at hown2
    rw [← e1]
    exact Option.some.inj (E.2.2.2.2.1.symm.trans hown2)
  have h6 := u_fits hfc hkC hkind (Or.inr hlay) hi (q_cl_ty ci _ hc k hk) hn1 hn2
  rcases hlk with hlk | ⟨host, hlk⟩
  · exact W.putFinK E.2.1 E.2.2.1 E.2.2.2.2.1 (q_word E.1 hu hlk rfl) hi' hst hcf (E.2.2.2.2.2.2.2.2.1.trans hin) (by rw [q2]; exact h6) q1 q3 hlt rfl rfl hd key
  · refine va_Wputf E.2.1 E.2.2.1 E.2.2.2.2.1 (q_nestF E.1 hu hlk) hi' hst (Or.inr ⟨hcf, E.2.2.2.2.2.2.2.2.1.trans hin⟩) q1 (by rw [q3]; exact fun h => by cases h) hlt h6.1 (by rw [q2, q3]; exact h6.2) rfl rfl hd ?_
    have ha : q_b g + a < H.size := (Array.getElem?_eq_some_iff.mp q1).1
    refine key _ ?_ ?_ ?_
    · simp [Array.getElem?_setIfInBounds, ha]
    · simp
    · intro q hq
      simp [Array.getElem?_setIfInBounds, Ne.symm hq]
theorem q_iald {a t n : Nat} {f : Nat → Int32} {i : Int32} (hd : decode M.2.1 pc = .ok (.iaload, 1)) (he : hp[a]? = some (.inl (t, n, .inl f))) (ht : q_ty[t]? = some .int) (hin : vp_in i n) (kk : q_J g M fr rm P (pc + 1) ls (.int (f i.toNatClampNeg) :: st) hp c s w) : q_J g M fr rm P pc ls (.int i :: .ref a :: st) hp c s w :=
  fun p e R u m args below meth co H locs la E hL hH h1 h2 => va_iald (D := q_D g) (cl := q_cl) E.2.1 E.2.2.1 (q_K1 E.1 E.2.2.2.2.2.1 ht) (q_P1 hH he) 0 0 rfl rfl hin hd (kk p e R u m args below meth co H locs la E hL hH h1 h2)
theorem q_bald {a t n : Nat} {f : Nat → Int32} {i : Int32} (hd : decode M.2.1 pc = .ok (.baload, 1)) (he : hp[a]? = some (.inl (t, n, .inl f))) (ht : q_ty[t]? = some .byte) (hin : vp_in i n) (kk : q_J g M fr rm P (pc + 1) ls (.int (f i.toNatClampNeg) :: st) hp c s w) : q_J g M fr rm P pc ls (.int i :: .ref a :: st) hp c s w :=
  fun p e R u m args below meth co H locs la E hL hH h1 h2 => va_bald (D := q_D g) (cl := q_cl) E.2.1 E.2.2.1 (q_K1 E.1 E.2.2.2.2.2.1 ht) (q_P1 hH he) 0 0 rfl rfl hin hd (kk p e R u m args below meth co H locs la E hL hH h1 h2)
theorem q_zald {a t n : Nat} {f : Nat → Int32} {i : Int32} (hd : decode M.2.1 pc = .ok (.baload, 1)) (he : hp[a]? = some (.inl (t, n, .inl f))) (ht : q_ty[t]? = some .boolean) (hin : vp_in i n) (kk : q_J g M fr rm P (pc + 1) ls (.int (f i.toNatClampNeg) :: st) hp c s w) : q_J g M fr rm P pc ls (.int i :: .ref a :: st) hp c s w :=
  fun p e R u m args below meth co H locs la E hL hH h1 h2 => va_zald (D := q_D g) (cl := q_cl) E.2.1 E.2.2.1 (q_K1 E.1 E.2.2.2.2.2.1 ht) (q_P1 hH he) 0 0 rfl rfl hin hd (kk p e R u m args below meth co H locs la E hL hH h1 h2)
theorem q_lald {a t n : Nat} {f : Nat → Int64} {i : Int32} (hd : decode M.2.1 pc = .ok (.laload, 1)) (he : hp[a]? = some (.inl (t, n, .inr (.inl f)))) (ht : q_ty[t]? = some .long) (hin : vp_in i n) (kk : q_J g M fr rm P (pc + 1) ls (.long (f i.toNatClampNeg) :: st) hp c s w) : q_J g M fr rm P pc ls (.int i :: .ref a :: st) hp c s w :=
  fun p e R u m args below meth co H locs la E hL hH h1 h2 => va_lald (D := q_D g) (cl := q_cl) E.2.1 E.2.2.1 (q_K1 E.1 E.2.2.2.2.2.1 ht) (q_P1 hH he) 0 0 rfl rfl hin hd (kk p e R u m args below meth co H locs la E hL hH h1 h2)
theorem q_ev_rf (g : q_G) (r : Option Nat) : va_rf (r.map (fun a => q_b g + a)) = q_ev g (va_rf r) := by cases r <;> rfl
theorem q_aald {a t n : Nat} {f : Nat → Option Nat} {i : Int32} {C : String} {v : Value} (hd : decode M.2.1 pc = .ok (.aaload, 1)) (he : hp[a]? = some (.inl (t, n, .inr (.inr (.inr (.inr f)))))) (ht : q_ty[t]? = some (.object C)) (hin : vp_in i n) (hv : va_rf (f i.toNatClampNeg) = v) (kk : q_J g M fr rm P (pc + 1) ls (v :: st) hp c s w) : q_J g M fr rm P pc ls (.int i :: .ref a :: st) hp c s w := by
  intro p e R u m args below meth co H locs la E hL hH h1 h2
  subst hv
  have h3 := kk p e R u m args below meth co H locs la E hL hH h1 h2
  rw [List.map_cons, ← q_ev_rf] at h3
  exact va_aldq (D := q_D g) (cl := q_cl) E.2.1 E.2.2.1 (q_K1 E.1 E.2.2.2.2.2.1 ht) (q_P1 hH he) 0 0 rfl rfl hin hd h3
theorem q_alen {a t : Nat} {x : vp_A} {ty : FieldType} {v : Int32} (hd : decode M.2.1 pc = .ok (.arraylength, 1)) (he : hp[a]? = some (.inl (t, x))) (ht : q_ty[t]? = some ty) (hv : Int32.ofNat x.1 = v) (kk : q_J g M fr rm P (pc + 1) ls (.int v :: st) hp c s w) : q_J g M fr rm P pc ls (.ref a :: st) hp c s w := by
  intro p e R u m args below meth co H locs la E hL hH h1 h2
  have hK := q_K1 E.1 E.2.2.2.2.2.1 ht
  have hP := q_P1 hH he
  have h3 := kk p e R u m args below meth co H locs la E hL hH h1 h2
  obtain ⟨n, f | f | f | f | f⟩ := x
  · exact va_alen (D := q_D g) (cl := q_cl) E.2.1 E.2.2.1 hK hP 0 0 rfl rfl hv hd h3
  · exact va_alen (D := q_D g) (cl := q_cl) E.2.1 E.2.2.1 hK hP 0 0 rfl rfl hv hd h3
  · exact va_alen (D := q_D g) (cl := q_cl) E.2.1 E.2.2.1 hK hP 0 0 rfl rfl hv hd h3
  · exact va_alen (D := q_D g) (cl := q_cl) E.2.1 E.2.2.1 hK hP 0 0 rfl rfl hv hd h3
  · exact va_alen (D := q_D g) (cl := q_cl) E.2.1 E.2.2.1 hK hP 0 0 rfl rfl hv hd h3
theorem q_sald {i : Int32} {z : Nat} (hd : decode M.2.1 pc = .ok (.iaload, 1)) (hin : vp_in i (q_x g).2.1) (kk : q_J g M fr rm P (pc + 1) ls (.int ((q_x g).2.2 i.toNatClampNeg) :: st) hp c s w) : q_J g M fr rm P pc ls (.int i :: .retAddr z :: st) hp c s w := by
  intro p e R u m args below meth co H locs la E hL hH h1 h2
  obtain ⟨scr, a1, a2, a3, a4, a5⟩ := E.1.2.2.2.1
  have hb : (q_x g).1 < q_b g := (Array.getElem?_eq_some_iff.mp a1).1
  have hlt : i.toNatClampNeg < (q_x g).2.1 := Nat.not_le.mp fun q => hin (Or.inr q)
  exact W.iald (v := .int ((q_x g).2.2 i.toNatClampNeg)) E.2.1 E.2.2.1 (by rw [hH.2.1 _ hb]; exact a1) (State.isArrayOf_alike E.2.2.2.2.2.1.alike a2) a3 (by rw [a4]; exact hin) (a5 _ hlt) rfl rfl hd (kk p e R u m args below meth co H locs la E hL hH h1 h2)
theorem q_slen {z : Nat} (hd : decode M.2.1 pc = .ok (.arraylength, 1)) (kk : q_J g M fr rm P (pc + 1) ls (.int (Int32.ofNat (q_x g).2.1) :: st) hp c s w) : q_J g M fr rm P pc ls (.retAddr z :: st) hp c s w := by
  intro p e R u m args below meth co H locs la E hL hH h1 h2
  obtain ⟨scr, a1, a2, a3, a4, a5⟩ := E.1.2.2.2.1
  have hb : (q_x g).1 < q_b g := (Array.getElem?_eq_some_iff.mp a1).1
  exact W.alen (n := Int32.ofNat (q_x g).2.1) E.2.1 E.2.2.1 (by rw [hH.2.1 _ hb]; exact a1) (State.isArrayOf_alike E.2.2.2.2.2.1.alike a2) (by rw [a4] <;> rfl) rfl rfl hd (kk p e R u m args below meth co H locs la E hL hH h1 h2)
theorem q_iast {a t n : Nat} {f : Nat → Int32} {i : Int32} {x : Int32} (hd : decode M.2.1 pc = .ok (.iastore, 1)) (he : hp[a]? = some (.inl (t, n, .inl f))) (ht : q_ty[t]? = some .int) (hin : vp_in i n) (kk : q_J g M fr rm P (pc + 1) ls st (hp.set a (.inl (t, n, .inl (upd f i.toNatClampNeg x)))) c s true) : q_J g M fr rm P pc ls (.int x :: .int i :: .ref a :: st) hp c s w := by
  intro p e R u m args below meth co H locs la E hL hH h1 h2
  refine W.iast E.2.1 E.2.2.1 (hH.2.2 a _ he) (((q_K1 E.1 E.2.2.2.2.2.1 ht).2 0 _ rfl).1 n (fun j => .int (f j))) (fun q => by cases q) (by show ¬ (i < 0 ∨ (arrV _ _ _).slots.size ≤ _); rw [arrV_size]; exact hin) rfl rfl hd fun H1 e1 z oq => ?_
  refine kk p e R u m args below meth co H1 _ la E hL (hH.set he z oq ?_) (q_locs h1) (fun h => by cases h)
  show H1[_]? = some (vp_cell _ _)
  rw [e1]
  rw [vp_cell_i]
  show some ((arrV _ _ _).setSlot _ _) = _
  rw [arrV_store]
  show some (arrV (q_t g t) n _) = some (arrV (q_t g t) n (fun j => .int (upd f i.toNatClampNeg x j)))
  refine congrArg (fun z => some (arrV (q_t g t) n z)) (funext fun q => ?_)
  by_cases hq : q = i.toNatClampNeg
  · subst hq
    simp [updV, upd]
  · simp [updV, upd, hq]
theorem q_bast {a t n : Nat} {f : Nat → Int32} {i : Int32} {x : Int32} (hd : decode M.2.1 pc = .ok (.bastore, 1)) (he : hp[a]? = some (.inl (t, n, .inl f))) (ht : q_ty[t]? = some .byte) (hin : vp_in i n) (kk : q_J g M fr rm P (pc + 1) ls st (hp.set a (.inl (t, n, .inl (upd f i.toNatClampNeg (vp_nar .byte x))))) c s true) : q_J g M fr rm P pc ls (.int x :: .int i :: .ref a :: st) hp c s w := by
  intro p e R u m args below meth co H locs la E hL hH h1 h2
  refine W.bast E.2.1 E.2.2.1 (hH.2.2 a _ he) (((q_K1 E.1 E.2.2.2.2.2.1 ht).2 0 _ rfl).1 n (fun j => .int (f j))) (fun q => by cases q) (by show ¬ (i < 0 ∨ (arrV _ _ _).slots.size ≤ _); rw [arrV_size]; exact hin) rfl rfl hd fun H1 e1 z oq => ?_
  refine kk p e R u m args below meth co H1 _ la E hL (hH.set he z oq ?_) (q_locs h1) (fun h => by cases h)
  show H1[_]? = some (vp_cell _ _)
  rw [e1]
  rw [vp_cell_i]
  show some ((arrV _ _ _).setSlot _ _) = _
  rw [arrV_store]
  show some (arrV (q_t g t) n _) = some (arrV (q_t g t) n (fun j => .int (upd f i.toNatClampNeg (vp_nar .byte x) j)))
  refine congrArg (fun z => some (arrV (q_t g t) n z)) (funext fun q => ?_)
  by_cases hq : q = i.toNatClampNeg
  · subst hq
    simp [updV, upd, vp_nar, narrow]
  · simp [updV, upd, hq]
theorem q_zast {a t n : Nat} {f : Nat → Int32} {i : Int32} {x : Int32} (hd : decode M.2.1 pc = .ok (.bastore, 1)) (he : hp[a]? = some (.inl (t, n, .inl f))) (ht : q_ty[t]? = some .boolean) (hin : vp_in i n) (kk : q_J g M fr rm P (pc + 1) ls st (hp.set a (.inl (t, n, .inl (upd f i.toNatClampNeg (vp_nar .boolean x))))) c s true) : q_J g M fr rm P pc ls (.int x :: .int i :: .ref a :: st) hp c s w := by
  intro p e R u m args below meth co H locs la E hL hH h1 h2
  refine W.zast E.2.1 E.2.2.1 (hH.2.2 a _ he) (((q_K1 E.1 E.2.2.2.2.2.1 ht).2 0 _ rfl).1 n (fun j => .int (f j))) (fun q => by cases q) (by show ¬ (i < 0 ∨ (arrV _ _ _).slots.size ≤ _); rw [arrV_size]; exact hin) rfl rfl hd fun H1 e1 z oq => ?_
  refine kk p e R u m args below meth co H1 _ la E hL (hH.set he z oq ?_) (q_locs h1) (fun h => by cases h)
  show H1[_]? = some (vp_cell _ _)
  rw [e1]
  rw [vp_cell_i]
  show some ((arrV _ _ _).setSlot _ _) = _
  rw [arrV_store]
  show some (arrV (q_t g t) n _) = some (arrV (q_t g t) n (fun j => .int (upd f i.toNatClampNeg (vp_nar .boolean x) j)))
  refine congrArg (fun z => some (arrV (q_t g t) n z)) (funext fun q => ?_)
  by_cases hq : q = i.toNatClampNeg
  · subst hq
    simp [updV, upd, vp_nar, narrow]
  · simp [updV, upd, hq]
theorem q_last {a t n : Nat} {f : Nat → Int64} {i : Int32} {x : Int64} (hd : decode M.2.1 pc = .ok (.lastore, 1)) (he : hp[a]? = some (.inl (t, n, .inr (.inl f)))) (ht : q_ty[t]? = some .long) (hin : vp_in i n) (kk : q_J g M fr rm P (pc + 1) ls st (hp.set a (.inl (t, n, .inr (.inl (vp_updL f i.toNatClampNeg x))))) c s true) : q_J g M fr rm P pc ls (.long x :: .int i :: .ref a :: st) hp c s w := by
  intro p e R u m args below meth co H locs la E hL hH h1 h2
  refine W.last E.2.1 E.2.2.1 (hH.2.2 a _ he) (((q_K1 E.1 E.2.2.2.2.2.1 ht).2 0 _ rfl).1 n (fun j => .long (f j))) (fun q => by cases q) (by show ¬ (i < 0 ∨ (arrV _ _ _).slots.size ≤ _); rw [arrV_size]; exact hin) rfl rfl hd fun H1 e1 z oq => ?_
  refine kk p e R u m args below meth co H1 _ la E hL (hH.set he z oq ?_) (q_locs h1) (fun h => by cases h)
  show H1[_]? = some (vp_cell _ _)
  rw [e1]
  rw [vp_cell_l]
  show some ((arrV _ _ _).setSlot _ _) = _
  rw [arrV_store]
  show some (arrV (q_t g t) n _) = some (arrV (q_t g t) n (fun j => .long (vp_updL f i.toNatClampNeg x j)))
  refine congrArg (fun z => some (arrV (q_t g t) n z)) (funext fun q => ?_)
  by_cases hq : q = i.toNatClampNeg
  · subst hq
    simp [updV, vp_updL]
  · simp [updV, vp_updL, hq]
theorem q_aast {a b t n ci : Nat} {r : vw_C} {vs : List Value} {f : Nat → Option Nat} {i : Int32} (hd : decode M.2.1 pc = .ok (.aastore, 1)) (he : hp[a]? = some (.inl (t, n, .inr (.inr (.inr (.inr f)))))) (ht : q_ty[t]? = some (.object r.1)) (hb : hp[b]? = some (.inr (ci, vs))) (hc : q_cl[ci]? = some r) (hin : vp_in i n) (kk : q_J g M fr rm P (pc + 1) ls st (hp.set a (.inl (t, n, .inr (.inr (.inr (.inr (va_up f i.toNatClampNeg (some b)))))))) c s true) : q_J g M fr rm P pc ls (.ref b :: .int i :: .ref a :: st) hp c s w := by
  intro p e R u m args below meth co H locs la E hL hH h1 h2
  have hlt : i.toNatClampNeg < n := Nat.not_le.mp fun q => hin (Or.inr q)
  have h0 : ¬ i < 0 := fun q => hin (Or.inl q)
  obtain ⟨r', hr', cellV, g1, g2, g3, -⟩ := hH.2.2 b _ hb
  have hK := q_K1 E.1 E.2.2.2.2.2.1 ht
  have hcls := (hK.1 ci r hc).2
  obtain ⟨kA, comp, k1, k2, k3, -⟩ := (hK.2 0 _ rfl).2
  have hcomp : comp = (q_D g).1 ci := Option.some.inj (k3.symm.trans hcls.1)
  subst hcomp
  obtain ⟨kC, hkC, -⟩ := hcls.2
  refine W.aast E.2.1 E.2.2.1 (hH.2.2 a _ he) (fun q h => by cases h) (fun h => by cases h) k1 k2 rfl hkC ⟨h0, by show _ < (arrV _ _ _).slots.size; rw [arrV_size]; exact hlt⟩ g1 (fun q h => by rw [g3] at h; cases h) (by rw [g2]; exact hkC) (by rw [g2]; exact va_assign hcls) rfl rfl hd fun H1 e1 z oq => ?_
  refine kk p e R u m args below meth co H1 _ la E hL (hH.set he z oq ?_) (q_locs h1) (fun h => by cases h)
  show H1[_]? = some (vp_cell _ _)
  rw [e1]
  rw [vp_cell_q]
  show some ((arrV _ _ _).setSlot _ _) = _
  rw [arrV_store]
  show some (arrV (q_t g t) n _) = some (arrV (q_t g t) n (fun j => va_rf ((va_up f i.toNatClampNeg (some b) j).map (fun a => q_b g + a))))
  refine congrArg (fun z => some (arrV (q_t g t) n z)) (funext fun q => ?_)
  by_cases hq : q = i.toNatClampNeg
  · subst hq
    simp [updV, va_up, va_rf]
  · simp [updV, va_up, hq]
/-- a class that 'new' names -/
def q_N (own : String) (idx ci N : Nat) : Prop := ∃ q : vw_C, q_cl[ci]? = some q ∧ q.2.2 = N ∧ Jvm.Cond.classLink own idx q.1 ∈ q_gw ∧ Jvm.Cond.instantiable q.1 q.2.2 ∈ q_gw ∧ Jvm.Cond.initialized q.1 ∈ q_gw
def q_df (ci N : Nat) : List Value := (List.range N).map (fun k => defaultValue (q_tf ci k))
theorem q_ev_df (g : q_G) (ty : FieldType) : q_ev g (defaultValue ty) = defaultValue ty := by cases ty <;> rfl
theorem q_new {idx ci N : Nat} {fs : List Value} (hd : decode M.2.1 pc = .ok (.new idx, 3)) (hN : q_N M.1.cls idx ci N) (hfs : q_df ci N = fs) (hc : c + 1 ≤ rm.cells) (hs : s + N ≤ rm.slots) (kk : q_J g M fr rm P (pc + 3) ls (.ref hp.length :: st) (hp ++ [.inr (ci, fs)]) (c + 1) (s + N) true) : q_J g M fr rm P pc ls st hp c s w := by
  intro p e R u m args below meth co H locs la E hL hH h1 h2
  obtain ⟨q, hq, rfl, k1, k2, k3⟩ := hN
  have hu := E.2.2.2.2.2.1
  have hKn := (q_K0 E.1 hu).1 ci _ hq
  refine W.newcK E.2.1 E.2.2.1 E.2.2.2.2.1 (q_word E.1 hu k1 rfl) (q_word E.1 hu k2 rfl) (q_word E.1 hu k3 rfl) rfl hd (Nat.le_trans hc E.2.2.2.2.2.2.2.2.2.2.2.1) (Nat.le_trans hs E.2.2.2.2.2.2.2.2.2.2.2.2.1) hKn.2.1 hH.1 fun H1 kC hkC e1 z1 o1 => ?_
  refine kk p e R u m args below meth co H1 locs la E hL (hH.push (by rw [z1, hH.1]) (fun x hx => o1 x (by rw [← hH.1]; exact hx)) ?_) (fun x hx => ⟨rfl, (h1 x hx).2⟩) (fun h => by cases h)
  rw [hH.1]
  refine ⟨q, hq, (u_born (q_tf ci) (q_lays E.1 hu (args := args) hq) (fun _ h => h) hKn hkC e1 (q_cl_ty ci q hq)).to fun k hk => ?_⟩
  subst hfs
  simp [vp_V, q_df, hk, q_ev_df]
theorem q_newa_i {t N : Nat} {n : Int32} (hd : decode M.2.1 pc = .ok (.newarray .int, 2)) (ht : q_ty[t]? = some .int) (hw : Jvm.Cond.arrayClass .int ∈ q_gw) (hn : ¬ n < 0) (hN : n.toNatClampNeg = N) (hb : N * 4 ≤ 536870912) (hc : c + 1 ≤ rm.cells) (hs : s + N ≤ rm.slots) (kk : q_J g M fr rm P (pc + 2) ls (.ref hp.length :: st) (hp ++ [.inl (t, N, .inl (fun _ => 0))]) (c + 1) (s + N) true) : q_J g M fr rm P pc ls (.int n :: st) hp c s w := by
  intro p e R u m args below meth co H locs la E hL hH h1 h2
  have hu := E.2.2.2.2.2.1
  refine va_newaK (atype := .int) E.2.1 E.2.2.1 (q_word E.1 hu hw rfl) rfl hd rfl hn hN hb (Nat.le_trans hc E.2.2.2.2.2.2.2.2.2.2.2.1) (Nat.le_trans hs E.2.2.2.2.2.2.2.2.2.2.2.2.1) hH.1 fun H1 cA e1 z1 o1 _ hNm => ?_
  have hcA : cA = q_t g t := Option.some.inj (hNm.symm.trans ((q_K1 E.1 hu ht).2 0 _ rfl).2)
  subst hcA
  refine kk p e R u m args below meth co H1 locs la E hL (hH.push (by rw [z1, hH.1]) (fun x hx => o1 x (by rw [← hH.1]; exact hx)) ?_) (fun x hx => ⟨rfl, (h1 x hx).2⟩) (fun h => by cases h)
  rw [hH.1]
  exact e1
theorem q_newa_b {t N : Nat} {n : Int32} (hd : decode M.2.1 pc = .ok (.newarray .byte, 2)) (ht : q_ty[t]? = some .byte) (hw : Jvm.Cond.arrayClass .byte ∈ q_gw) (hn : ¬ n < 0) (hN : n.toNatClampNeg = N) (hb : N * 1 ≤ 536870912) (hc : c + 1 ≤ rm.cells) (hs : s + N ≤ rm.slots) (kk : q_J g M fr rm P (pc + 2) ls (.ref hp.length :: st) (hp ++ [.inl (t, N, .inl (fun _ => 0))]) (c + 1) (s + N) true) : q_J g M fr rm P pc ls (.int n :: st) hp c s w := by
  intro p e R u m args below meth co H locs la E hL hH h1 h2
  have hu := E.2.2.2.2.2.1
  refine va_newaK (atype := .byte) E.2.1 E.2.2.1 (q_word E.1 hu hw rfl) rfl hd rfl hn hN hb (Nat.le_trans hc E.2.2.2.2.2.2.2.2.2.2.2.1) (Nat.le_trans hs E.2.2.2.2.2.2.2.2.2.2.2.2.1) hH.1 fun H1 cA e1 z1 o1 _ hNm => ?_
  have hcA : cA = q_t g t := Option.some.inj (hNm.symm.trans ((q_K1 E.1 hu ht).2 0 _ rfl).2)
  subst hcA
  refine kk p e R u m args below meth co H1 locs la E hL (hH.push (by rw [z1, hH.1]) (fun x hx => o1 x (by rw [← hH.1]; exact hx)) ?_) (fun x hx => ⟨rfl, (h1 x hx).2⟩) (fun h => by cases h)
  rw [hH.1]
  exact e1
theorem q_newa_z {t N : Nat} {n : Int32} (hd : decode M.2.1 pc = .ok (.newarray .boolean, 2)) (ht : q_ty[t]? = some .boolean) (hw : Jvm.Cond.arrayClass .boolean ∈ q_gw) (hn : ¬ n < 0) (hN : n.toNatClampNeg = N) (hb : N * 1 ≤ 536870912) (hc : c + 1 ≤ rm.cells) (hs : s + N ≤ rm.slots) (kk : q_J g M fr rm P (pc + 2) ls (.ref hp.length :: st) (hp ++ [.inl (t, N, .inl (fun _ => 0))]) (c + 1) (s + N) true) : q_J g M fr rm P pc ls (.int n :: st) hp c s w := by
  intro p e R u m args below meth co H locs la E hL hH h1 h2
  have hu := E.2.2.2.2.2.1
  refine va_newaK (atype := .boolean) E.2.1 E.2.2.1 (q_word E.1 hu hw rfl) rfl hd rfl hn hN hb (Nat.le_trans hc E.2.2.2.2.2.2.2.2.2.2.2.1) (Nat.le_trans hs E.2.2.2.2.2.2.2.2.2.2.2.2.1) hH.1 fun H1 cA e1 z1 o1 _ hNm => ?_
  have hcA : cA = q_t g t := Option.some.inj (hNm.symm.trans ((q_K1 E.1 hu ht).2 0 _ rfl).2)
  subst hcA
  refine kk p e R u m args below meth co H1 locs la E hL (hH.push (by rw [z1, hH.1]) (fun x hx => o1 x (by rw [← hH.1]; exact hx)) ?_) (fun x hx => ⟨rfl, (h1 x hx).2⟩) (fun h => by cases h)
  rw [hH.1]
  exact e1
theorem q_newa_l {t N : Nat} {n : Int32} (hd : decode M.2.1 pc = .ok (.newarray .long, 2)) (ht : q_ty[t]? = some .long) (hw : Jvm.Cond.arrayClass .long ∈ q_gw) (hn : ¬ n < 0) (hN : n.toNatClampNeg = N) (hb : N * 8 ≤ 536870912) (hc : c + 1 ≤ rm.cells) (hs : s + N ≤ rm.slots) (kk : q_J g M fr rm P (pc + 2) ls (.ref hp.length :: st) (hp ++ [.inl (t, N, .inr (.inl (fun _ => 0)))]) (c + 1) (s + N) true) : q_J g M fr rm P pc ls (.int n :: st) hp c s w := by
  intro p e R u m args below meth co H locs la E hL hH h1 h2
  have hu := E.2.2.2.2.2.1
  refine va_newaK (atype := .long) E.2.1 E.2.2.1 (q_word E.1 hu hw rfl) rfl hd rfl hn hN hb (Nat.le_trans hc E.2.2.2.2.2.2.2.2.2.2.2.1) (Nat.le_trans hs E.2.2.2.2.2.2.2.2.2.2.2.2.1) hH.1 fun H1 cA e1 z1 o1 _ hNm => ?_
  have hcA : cA = q_t g t := Option.some.inj (hNm.symm.trans ((q_K1 E.1 hu ht).2 0 _ rfl).2)
  subst hcA
  refine kk p e R u m args below meth co H1 locs la E hL (hH.push (by rw [z1, hH.1]) (fun x hx => o1 x (by rw [← hH.1]; exact hx)) ?_) (fun x hx => ⟨rfl, (h1 x hx).2⟩) (fun h => by cases h)
  rw [hH.1]
  exact e1
theorem q_newq {idx t N : Nat} {n : Int32} {C : String} (hd : decode M.2.1 pc = .ok (.anewarray idx, 3)) (ht : q_ty[t]? = some (.object C)) (hw : Jvm.Cond.classLink M.1.cls idx C ∈ q_gw) (ho : Jvm.Cond.arrayOver (.object C) ∈ q_gw) (hn : ¬ n < 0) (hN : n.toNatClampNeg = N) (hb : N * 4 ≤ 536870912) (hc : c + 1 ≤ rm.cells) (hs : s + N ≤ rm.slots) (kk : q_J g M fr rm P (pc + 3) ls (.ref hp.length :: st) (hp ++ [.inl (t, N, .inr (.inr (.inr (.inr (fun _ => none)))))]) (c + 1) (s + N) true) : q_J g M fr rm P pc ls (.int n :: st) hp c s w := by
  intro p e R u m args below meth co H locs la E hL hH h1 h2
  have hu := E.2.2.2.2.2.1
  subst hN
  refine W.anew E.2.1 E.2.2.1 E.2.2.2.2.1 (q_word E.1 hu hw rfl) (va_AO.use (va_AO.moved hu.alike (va_AO.of (E.1.1 _ ho)))) rfl hd rfl hn hb (Nat.le_trans hc E.2.2.2.2.2.2.2.2.2.2.2.1) (Nat.le_trans hs E.2.2.2.2.2.2.2.2.2.2.2.2.1) fun cA kA comp f1 f2 f3 f4 => ?_
  obtain ⟨kB, cB, -, -, -, f5⟩ := ((q_K1 E.1 hu ht).2 0 _ rfl).2
  have hcA : cA = q_t g t := Option.some.inj (f1.symm.trans f5)
  subst hcA
  generalize hH1 : H.push ({ cls := q_t g t, slots := Array.replicate n.toNatClampNeg .null, vm := .none } : Cell) = H1
  have z1 : H1.size = H.size + 1 := by rw [← hH1, Array.size_push]
  have e1 : H1[H.size]? = some (arrV (q_t g t) n.toNatClampNeg (fun _ => .null)) := by rw [← hH1, Array.getElem?_push_size, ← arrV_new]
  have o1 : ∀ q : Nat, q < H.size → H1[q]? = H[q]? := fun q hq => by rw [← hH1, Array.getElem?_push, if_neg (Nat.ne_of_lt hq)]
  have h3 := kk p e R u m args below meth co H1 locs la E hL (hH.push z1 o1 e1) (fun x hx => ⟨rfl, (h1 x hx).2⟩) (fun h => by cases h)
  rw [hH.1]
  exact h3
end ENG3
end
section
/-! The engine, 4: contracts and calls -/
section ENG4
theorem q_w_spec {M : q_Me} {args : Array Value} {s : State} {m : MethodId} (hn : s.methodNamed? M.1 = some m) (h : (q_w M).before args s = true) : ∃ meth c, s.vm.method? m = some meth ∧ meth.code = some c ∧ c.code = M.2.1 ∧ c.maxLocals = M.2.2.1 ∧ meth.sig.returnType = M.2.2.2.1 ∧ meth.locks = false ∧ c.exceptionTable.toList.map (fun h => (h.startPc, h.endPc, h.handlerPc, h.catchType)) = M.2.2.2.2 ∧ parseMethodDescriptor M.1.desc = some meth.sig := by
  unfold q_w at h
  split at h
  · next he =>
    obtain ⟨meth, c, h1, h2, h3, h4, h5, h6, h7, h8⟩ := Cond.code_spec hn h
    refine ⟨meth, c, h1, h2, h3, h4, h5, h6, ?_, h8⟩
    rw [he, Array.isEmpty_iff.mp h7]
    rfl
  · next he =>
    obtain ⟨m', meth, c, h0, h1, h2, h3, h4, h5, h6, h7, h8⟩ := Cond.codeWith_spec h
    cases hn.symm.trans h0
    exact ⟨meth, c, h1, h2, h3, h4, h6, h7, h5, h8⟩
theorem q_w_good (M : q_Me) : goodWord (q_w M) = true := by
  unfold q_w
  split <;> rfl
def q_Pc (g : q_G) (as : List Value) (hp : List va_E) : Array Value → State → Prop := fun a U => a = (as.map (q_ev g)).toArray ∧ q_H g hp U.heap ∧ (q_s g).WarmedH U.vm
def q_Qc (g : q_G) (fr : Bool) (P : Outcome → List va_E → Prop) (mc ms : Nat) : Array Value → State → Outcome → State → Prop := fun _ st o t => q_Q g fr P st o t ∧ ∃ L, (st.WarmedH t.vm ∧ st.sameButNew ({ t with vm := st.vm } : State) L mc ms) ∧ ∀ q ∈ L, fr = true ∧ q_b g ≤ q.base
/-- a contract: on these arguments, with these cells, at depth d, M ends as P says; at most mc cells of ms slots are new; fr: it may write -/
def q_C (g : q_G) (M : q_Me) (fr : Bool) (rm : Room) (as : List Value) (hp : List va_E) (P : Outcome → List va_E → Prop) : Prop :=
  MetFree (q_l g) M.1 (headSpec [q_w M] rm) (q_Pc g as hp) (fun _ _ _ _ _ => True) (q_Qc g fr P rm.cells rm.slots)
theorem q_C.of {g : q_G} {M : q_Me} {fr : Bool} {rm : Room} {as : List Value} {hp : List va_E} {P : Outcome → List va_E → Prop} (hG : q_GG g) (hy : plainName M.1.cls = true) (has : (q_sl as).length ≤ M.2.2.1) (k : q_J g M fr rm P 0 (q_en as M.2.2.1) [] hp 0 0 false) : q_C g M fr rm as hp P := by
  refine MetFree.of_bodyS (code := M.2.1) (maxLocals := M.2.2.1) (ret := M.2.2.2.1) hy ?_ ?_
  · intro args s m h hn
    obtain ⟨meth, c, h1, h2, h3, h4, h5, h6, -, -⟩ := q_w_spec hn (atoms_spec (ws := [q_w M]) h _ List.mem_cons_self)
    exact ⟨meth, c, h1, h2, h3, h4, h5, h6⟩
  · intro p e s m args below meth c s₁ B hml hP _
    obtain ⟨rfl, hH, hu⟩ := hP
    have hh0 : s₁.heap = s.heap := by rw [B.state]; rfl
    have X := Stand.of_body B
    obtain ⟨meth', c', h1, h2, -, -, -, -, h7, -⟩ := q_w_spec B.named (atoms_spec (ws := [q_w M]) B.pre _ List.mem_cons_self)
    cases B.method.symm.trans h1
    cases X.code.symm.trans h2
    have hE : q_E g M rm p e (headSpec [q_w M] rm).room s m meth c :=
      ⟨hG, B.exec, B.bytes, hml, findClass_of_methodNamed B.named, hu, B.returns, B.notSynchronized, (name_of_methodNamed B.named B.method).1, Nat.le_refl _, Nat.le_refl _, Nat.le_refl _, Nat.le_refl _, h7⟩
    obtain ⟨t, a1, o, b1, b2, b3, L, b4, b5⟩ := k p e _ s m ((as.map (q_ev g)).toArray) below meth c s.heap [] _ hE (q_L.entry has) hH (fun q hq => by cases hq) (fun _ => rfl) s₁ hh0 X
    exact ⟨t, o, by rw [lg_entry_eq]; exact a1, b1, b2, b3, L, b4, b5⟩
theorem q_C.post {g : q_G} {M : q_Me} {fr : Bool} {rm : Room} {as : List Value} {hp : List va_E} {P P' : Outcome → List va_E → Prop} (h : q_C g M fr rm as hp P) (hP : ∀ r hp', P r hp' → P' r hp') : q_C g M fr rm as hp P' := by
  intro p e h1 h2 h3 s m args below h4 h5 h6 h7
  obtain ⟨n, o, a1, a2, a3, ⟨r, hp', b1, b2, b3, b4⟩, a4⟩ := h p e h1 h2 h3 s m args below h4 h5 h6 h7
  exact ⟨n, o, a1, a2, a3, ⟨r, hp', b1, b2, hP r hp' b3, b4⟩, a4⟩
/-- a call, from the caller's state at the invoking instruction (its arguments popped) to its end: returned or threw -/
theorem q_enter {g : q_G} {M : q_Me} {fr : Bool} {rm : Room} {as : List Value} {hp : List va_E} {P : Outcome → List va_E → Prop} (hM : q_C g M fr rm as hp P)
    {p : Program} {e : Env} {R : Room} {u : State} {m : MethodId} {args : Array Value} {below : List Frame} {meth : Method} {c : Code} {T : State} {locs : List Loc} {cells slots : Nat}
    (X : Stand p (q_l g) e R u m args below meth c T locs cells slots) {f : JFrame} {ig : Instr} {len : Nat} {mk : MethodId} (hg : f.method = m) (hsize : f.locals.size = c.maxLocals) (hdg : decode c.code f.pc = .ok (ig, len))
    (hW : 2 * f.monitorRoom + (f.stack.map fun v => v.category).sum + (M.2.2.1 + 11) + rm.locals ≤ R.locals) (hn : T.methodNamed? M.1 = some mk) (hcode : (q_w M).before (as.map (q_ev g)).toArray T = true) (hini : (Jvm.Cond.initialized M.1.cls).before (as.map (q_ev g)).toArray T = true)
    (hframes : rm.frames + 1 ≤ R.frames) (hcells : cells + rm.cells ≤ R.cells) (hslots : slots + rm.slots ≤ R.slots) (hH : q_H g hp T.heap) (hw : (q_s g).WarmedH T.vm) :
    ∃ (r : Outcome) (hp' : List va_E) (T' : State) (L : List Loc), Stand p (q_l g) e R u m args below meth c T' (locs ++ L) (cells + rm.cells) (slots + rm.slots) ∧ (∀ q ∈ L, fr = true ∧ q_b g ≤ q.base) ∧ q_H g hp' T'.heap ∧ P r hp' ∧ (fr = false → (∃ v, r = .returned v) → T'.heap = T.heap) ∧
      (∀ v, r = .returned v → Steps p.tables e below (doInvoke e (T.setTop f) [] mk (as.map (q_ev g)).toArray).1 (T'.setTop { f with pc := f.pc + len, stack := (v.map (q_ev g)).toList ++ f.stack })) ∧
      (∀ x, r = .threw x → Steps p.tables e below (doInvoke e (T.setTop f) [] mk (as.map (q_ev g)).toArray).1 ((T'.setTop f).pushFrame (.throwing (q_b g + x)))) := by
  obtain ⟨methY, cY, hmY, hcY, -, hlY, -, -, -, -⟩ := q_w_spec hn hcode
  obtain ⟨kY, hkY, -⟩ := className_of_methodNamed hn
  have hinitY : kY.init = .initialized := Cond.initialized_spec (findClass_of_methodNamed hn) hkY hini
  have h : At T f.method c below := by rw [hg]; exact X.here
  have hpre : (headSpec [q_w M] rm).pre.before (as.map (q_ev g)).toArray T = true := atoms_intro fun w hw => by rw [List.mem_singleton.mp hw]; exact hcode
  have happ : (headSpec [q_w M] rm).appliesLoose M.1 e.platform (T.calling f mk (as.map (q_ev g)).toArray) = true :=
    Spec.appliesLoose_calling (g := f) h hdg hn hkY hinitY
      (X.room_calling (g := f) (R' := rm) hsize hmY hcY hframes (by rw [hlY]; omega) hcells hslots) hpre
  obtain ⟨mid, hmid⟩ := h.above
  have hfr : (T.setTop f).frames = (.java f :: mid) ++ below := by rw [State.frames_setTop' f h.top, hmid]; rfl
  obtain ⟨o, s₂, hsteps, -, hend, hq⟩ := Steps.callFree hM p X.admits X.cas X.clock (acts := []) hfr happ ⟨rfl, hH, hw⟩ trivial
  have hq : q_Qc g fr P rm.cells rm.slots (as.map (q_ev g)).toArray (T.calling f mk (as.map (q_ev g)).toArray) o s₂ := hq
  rw [State.frames_setTop' f h.top] at hend
  obtain ⟨⟨r, hp', rfl, hH', hP, hpure⟩, L, ⟨hW₂, e2, q2, q3, q4, q5, q6⟩, hL⟩ := hq
  have hW' : T.WarmedH s₂.vm := hW₂
  have e3 : s₂ = ({ (T.calling f mk (as.map (q_ev g)).toArray).setFrames s₂.frames with heap := s₂.heap, slotsUsed := s₂.slotsUsed } : State).setVm s₂.vm := by
    have : s₂ = ({ s₂ with vm := (T.calling f mk (as.map (q_ev g)).toArray).vm } : State).setVm s₂.vm := rfl
    rw [e2] at this
    exact this
  obtain ⟨g₀, hg0⟩ := Option.isSome_iff_exists.mp h.top
  obtain ⟨rr, hr⟩ := State.topJava?_eq_some.mp hg0
  have hr' : (({ T with heap := s₂.heap, slotsUsed := s₂.slotsUsed } : State).setVm s₂.vm).frames = .java g₀ :: rr := hr
  have hsame : T.sameButNew ({ T with heap := s₂.heap, slotsUsed := s₂.slotsUsed } : State) L rm.cells rm.slots := by
    refine ⟨?_, q2, q3, q4, q5, q6⟩
    obtain ⟨t, ht, -⟩ := State.frames_cons hr
    show ({ T with heap := s₂.heap, slotsUsed := s₂.slotsUsed } : State) = { T.setFrames T.frames with heap := s₂.heap, slotsUsed := s₂.slotsUsed }
    rw [State.setFrames_self ht]
  subst hg
  refine ⟨r, hp', ({ T with heap := s₂.heap, slotsUsed := s₂.slotsUsed } : State).setVm s₂.vm, L,
    ⟨X.admits, X.cas, X.clock, X.frames, X.room, X.hears, X.method, X.code, (X.here.setHeapUsed s₂.heap s₂.slotsUsed).setVm hW'.alike, X.tail, State.WarmedH.trans X.warmed hW', X.limits, X.bytes, X.same.trans (hsame.setVm u.vm)⟩,
    hL, hH', hP, hpure, fun v hv => ?_, fun x hx => ?_⟩
  · subst hv
    obtain ⟨c₂, i₂, len₂, hc₂, hd₂, hf₂⟩ := hend
    have hcc : c₂ = c := by
      have h1 : s₂.code? f.method = T.code? f.method := by
        rw [State.code?_eq, State.code?_eq, hW'.alike.method?]
      exact Option.some.inj (hc₂.symm.trans (h1.trans h.code))
    subst hcc
    have hlen : len₂ = len := by rw [hdg] at hd₂; cases hd₂; rfl
    subst hlen
    have hs₂ : s₂ = (({ T with heap := s₂.heap, slotsUsed := s₂.slotsUsed } : State).setVm s₂.vm).setTop { f with pc := f.pc + len₂, stack := (v.map (q_ev g)).toList ++ f.stack } := by
      refine e3.trans ?_
      rw [hf₂, State.calling_eq h.top, State.setFrames_setFrames, State.setTop_of_frames _ hr', hr]
      rfl
    rw [← hs₂]
    exact hsteps
  · subst hx
    have hf₂ : s₂.frames = .throwing (q_b g + x) :: .java f :: T.frames.tail := hend
    have hs₂ : s₂ = ((({ T with heap := s₂.heap, slotsUsed := s₂.slotsUsed } : State).setVm s₂.vm).setTop f).pushFrame (.throwing (q_b g + x)) := by
      refine e3.trans ?_
      rw [hf₂, State.calling_eq h.top, State.setFrames_setFrames, State.pushFrame, State.frames_setTop _ hr', State.setTop_of_frames _ hr', State.setFrames_setFrames, hr]
      rfl
    rw [← hs₂]
    exact hsteps
/-- an exception lies over the frame -/
def q_T (g : q_G) (M : q_Me) (fr : Bool) (rm : Room) (P : Outcome → List va_E → Prop) (pc : Nat) (ls : List (Option Value)) (hp : List va_E) (c s : Nat) (w : Bool) (x : Nat) : Prop :=
  ∀ (p : Program) (e : Env) (R : Room) (u : State) (m : MethodId) (args : Array Value) (below : List Frame) (meth : Method) (co : Code) (locs : List Loc) (la : Array Slot) (T : State) (st : List Value),
    q_E g M rm p e R u m meth co → q_L g M.2.2.1 la ls → q_H g hp T.heap → (∀ q ∈ locs, w = true ∧ q_b g ≤ q.base) → Stand p (q_l g) e R u m args below meth co T locs c s →
    ∃ t, Steps p.tables e below ((T.setTop (F0 m pc la st)).pushFrame (.throwing (q_b g + x))) t ∧ q_M below (q_Q g fr P) u rm.cells rm.slots (fun q => fr = true ∧ q_b g ≤ q) t
/-- it leaves the method -/
theorem q_T.leave {g : q_G} {M : q_Me} {fr : Bool} {rm : Room} {P : Outcome → List va_E → Prop} {pc : Nat} {ls : List (Option Value)} {hp : List va_E} {c s : Nat} {w : Bool} {x : Nat} (hM : M.2.2.2.2 = []) (hP : P (.threw x) hp) (hc : c ≤ rm.cells) (hs : s ≤ rm.slots) (hw : w = true → fr = true) : q_T g M fr rm P pc ls hp c s w x := by
  intro p e R u m args below meth co locs la T st E hL hH h1 X
  have hlk := E.2.2.2.2.2.2.2.1
  have hno : co.exceptionTable.toList = [] := by
    have := E.2.2.2.2.2.2.2.2.2.2.2.2.2
    rw [hM] at this
    exact List.map_eq_nil_iff.mp this
  obtain ⟨a1, a2, a3, a4, a5⟩ := (stand_widen X hc hs).leaveThrown (q_b g + x) (g := F0 m pc la st) rfl rfl rfl (fun y hy => by rw [hno] at hy; cases hy) hlk
  exact ⟨_, a1, .threw (q_b g + x), a2, a3, ⟨.threw x, hp, rfl, hH, hP, fun _ ⟨v, hv⟩ => by cases hv⟩, locs, ⟨a4, a5⟩, fun q hq => ⟨hw (h1 q hq).1, (h1 q hq).2⟩⟩
variable {g : q_G} {M : q_Me} {fr : Bool} {rm : Room} {P : Outcome → List va_E → Prop} {pc : Nat} {ls : List (Option Value)} {st : List Value} {hp : List va_E} {c s : Nat} {w : Bool}
/-- behind the instruction's own linking: the callee, and both of its ends -/
theorem q_after {N : q_Me} {fr' : Bool} {rm' : Room} {as : List Value} {P' : Outcome → List va_E → Prop} (hC : q_C g N fr' rm' as hp P')
    (hd' : rm'.frames + 1 ≤ rm.frames) (hN : (st.map fun v => v.category).sum + (N.2.2.1 + 11) + rm'.locals ≤ rm.locals) (hmc : c + rm'.cells ≤ rm.cells) (hms : s + rm'.slots ≤ rm.slots)
    (kr : ∀ v hp', P' (.returned v) hp' → q_J g M fr rm P (pc + 3) ls (v.toList ++ st) hp' (c + rm'.cells) (s + rm'.slots) (w || fr'))
    (kt : ∀ x hp', P' (.threw x) hp' → q_T g M fr rm P pc ls hp' (c + rm'.cells) (s + rm'.slots) true x)
    {p : Program} {e : Env} {R : Room} {u : State} {m : MethodId} {args : Array Value} {below : List Frame} {meth : Method} {co : Code} {locs : List Loc} {la : Array Slot} {T : State} (E : q_E g M rm p e R u m meth co) (hL : q_L g M.2.2.1 la ls) (hH : q_H g hp T.heap) (h1 : ∀ q ∈ locs, w = true ∧ q_b g ≤ q.base) (h2 : w = false → T.heap = u.heap)
    (X : Stand p (q_l g) e R u m args below meth co T locs c s) {ig : Instr} {mk : MethodId} (hdg : decode co.code pc = .ok (ig, 3)) (hn : T.methodNamed? N.1 = some mk) (hwN : q_w N ∈ q_gw) (hini : Jvm.Cond.initialized N.1.cls ∈ q_gw) :
    ∃ t, Steps p.tables e below (doInvoke e (T.setTop (F0 m pc la (st.map (q_ev g)))) [] mk (as.map (q_ev g)).toArray).1 t ∧ q_M below (q_Q g fr P) u rm.cells rm.slots (fun q => fr = true ∧ q_b g ≤ q) t := by
  have hu : (q_s g).WarmedH T.vm := State.WarmedH.trans E.2.2.2.2.2.1 X.warmed
  have hR1 := E.2.2.2.2.2.2.2.2.2.1
  have hR2 := E.2.2.2.2.2.2.2.2.2.2.1
  have hR3 := E.2.2.2.2.2.2.2.2.2.2.2.1
  have hR4 := E.2.2.2.2.2.2.2.2.2.2.2.2.1
  have hcat : ((st.map (q_ev g)).map fun v => v.category).sum = (st.map fun v => v.category).sum := by
    have : (st.map (q_ev g)).map (fun v => v.category) = st.map (fun v => v.category) := by
      rw [List.map_map]
      exact List.map_congr_left (fun v _ => q_ev_cat g v)
    rw [this]
  obtain ⟨r, hp', T', L, X', hL', hH', hP', hpure, sr, sx⟩ := q_enter hC X (f := F0 m pc la (st.map (q_ev g))) (ig := ig) (len := 3) (mk := mk) rfl (by rw [E.2.2.2.1]; exact hL.1) hdg (by show 2 * 0 + ((st.map (q_ev g)).map fun v => v.category).sum + _ + _ ≤ _; omega) hn (q_word E.1 hu hwN (q_w_good N)) (q_word E.1 hu hini rfl) (by omega) (by omega) (by omega) hH hu
  have hlocs : ∀ q ∈ locs ++ L, (w || fr') = true ∧ q_b g ≤ q.base := by
    intro q hq
    rcases List.mem_append.mp hq with h | h
    · rw [(h1 q h).1]
      exact ⟨rfl, (h1 q h).2⟩
    · rw [(hL' q h).1, Bool.or_true]
      exact ⟨rfl, (hL' q h).2⟩
  cases r with
  | returned v =>
    have h3 := kr v hp' hP' p e R u m args below meth co T'.heap (locs ++ L) la E hL hH' hlocs (fun h => by
      have hw0 : w = false ∧ fr' = false := by cases w <;> cases fr' <;> simp_all
      rw [hpure hw0.2 ⟨v, rfl⟩]
      exact h2 hw0.1)
    obtain ⟨t, a1, a2⟩ := h3 T' rfl X'
    refine ⟨t, (sr v rfl).trans ?_, a2⟩
    have he : (v.toList ++ st).map (q_ev g) = (v.map (q_ev g)).toList ++ st.map (q_ev g) := by cases v <;> rfl
    rw [he] at a1
    exact a1
  | threw x =>
    obtain ⟨t, a1, a2⟩ := kt x hp' hP' p e R u m args below meth co (locs ++ L) la T' (st.map (q_ev g)) E hL hH' (fun q hq => ⟨rfl, (hlocs q hq).2⟩) X'
    exact ⟨t, (sx x rfl).trans a1, a2⟩
/-- what a call needs of the tables: the entry's link, the method; n arguments -/
def q_ML (own : String) (idx : Nat) (N : q_Me) (n : Nat) : Prop := (Jvm.Cond.methodLink own idx N.1 ∈ q_gw ∨ ∃ host, Jvm.Cond.methodLinkNest own idx N.1 host ∈ q_gw) ∧ q_w N ∈ q_gw ∧ Jvm.Cond.initialized N.1.cls ∈ q_gw ∧ (N.1.cls ≠ "java/lang/invoke/MethodHandle" ∧ N.1.cls ≠ "java/lang/invoke/VarHandle") ∧ (parseMethodDescriptor N.1.desc).map (fun d => d.parameters.length) = some n
theorem q_ML.len {own : String} {idx : Nat} {N : q_Me} {n : Nat} (h : q_ML own idx N n) : ∀ sig, parseMethodDescriptor N.1.desc = some sig → n = sig.parameters.length := by
  intro sig hs
  have h2 := h.2.2.2.2
  rw [hs] at h2
  exact (Option.some.inj h2).symm

theorem q_callS {N : q_Me} {fr' : Bool} {rm' : Room} {idx n : Nat} {as : List Value} {P' : Outcome → List va_E → Prop} (hd : decode M.2.1 pc = .ok (.invokestatic idx, 3)) (hl : q_ML M.1.cls idx N n) (hsta : Jvm.Cond.static N.1 ∈ q_gw) (hn : as.length = n) (hC : q_C g N fr' rm' as hp P') (hd' : rm'.frames + 1 ≤ rm.frames) (hN : (st.map fun v => v.category).sum + (N.2.2.1 + 11) + rm'.locals ≤ rm.locals) (hmc : c + rm'.cells ≤ rm.cells) (hms : s + rm'.slots ≤ rm.slots)
    (kr : ∀ v hp', P' (.returned v) hp' → q_J g M fr rm P (pc + 3) ls (v.toList ++ st) hp' (c + rm'.cells) (s + rm'.slots) (w || fr')) (kt : ∀ x hp', P' (.threw x) hp' → q_T g M fr rm P pc ls hp' (c + rm'.cells) (s + rm'.slots) true x) : q_J g M fr rm P pc ls (as.reverse ++ st) hp c s w := by
  intro p e R u m args below meth co H locs la E hL hH h1 h2
  intro T hT X
  subst hT
  have hu := E.2.2.2.2.2.1
  have hlen := hl.len
  obtain ⟨hlk, hwN, hini, hy, -⟩ := hl
  have hcode : (q_w N).before args u = true := q_word E.1 hu hwN (q_w_good N)
  have hnm : ∃ mk, u.methodNamed? N.1 = some mk := by
    unfold q_w at hcode
    split at hcode
    · exact Cond.code_named hcode
    · obtain ⟨mk, _, _, h0, -⟩ := Cond.codeWith_spec hcode
      exact ⟨mk, h0⟩
  obtain ⟨mk, hnamed⟩ := hnm
  obtain ⟨methM, cM, hmethM, -, -, -, -, -, -, hsigM⟩ := q_w_spec hnamed hcode
  have hstatic : methM.isStatic = true := Cond.static_spec hnamed hmethM (q_word (args := args) E.1 hu hsta rfl)
  obtain ⟨kP, hkP, -⟩ := className_of_methodNamed hnamed
  have hinitP : kP.init = .initialized := Cond.initialized_spec (findClass_of_methodNamed hnamed) hkP (q_word (args := args) E.1 hu hini rfl)
  have hstk : (F0 m pc la ((as.reverse ++ st).map (q_ev g))).stack = (as.map (q_ev g)).reverse ++ st.map (q_ev g) := by
    show (as.reverse ++ st).map (q_ev g) = _
    rw [List.map_append, List.map_reverse]
  have hln : (as.map (q_ev g)).length = methM.sig.parameters.length := by
    rw [List.length_map, hn]
    exact hlen _ hsigM
  have hdc : decode co.code (F0 m pc la ((as.reverse ++ st).map (q_ev g))).pc = .ok (.invokestatic idx, 3) := by rw [E.2.2.1]; exact hd
  have go : ∃ vm₁, u.WarmedH vm₁ ∧ Stand p (q_l g) e R u m args below meth co (T.setVm vm₁) locs c s ∧ ∀ target, (∀ acts, Steps p.tables e below (doInvoke e ((T.setVm vm₁).setTop { F0 m pc la ((as.reverse ++ st).map (q_ev g)) with stack := st.map (q_ev g) }) acts mk (as.map (q_ev g)).toArray).1 target) → Steps p.tables e below (T.setTop (F0 m pc la ((as.reverse ++ st).map (q_ev g)))) target := by
    rcases hlk with hlk | ⟨host, hlk⟩
    · obtain ⟨vm₁, X₁, hstep₁⟩ := X.invokestatic E.2.1 E.2.2.2.2.1 (q_word E.1 hu hlk rfl) hnamed hmethM hstatic hkP hinitP hy (g := F0 m pc la ((as.reverse ++ st).map (q_ev g))) rfl hln hstk hdc
      exact ⟨vm₁, X₁.warmed, X₁, hstep₁⟩
    · obtain ⟨vm₁, X₁, hstep₁⟩ := X.invokestaticNest E.2.1 E.2.2.2.2.1 (q_nestM E.1 hu hlk) hnamed hmethM hstatic hkP hinitP hy (g := F0 m pc la ((as.reverse ++ st).map (q_ev g))) rfl hln hstk hdc
      exact ⟨vm₁, X₁.warmed, X₁, hstep₁⟩
  obtain ⟨vm₁, hW₁, X₁, hstep₁⟩ := go
  obtain ⟨t, a1, a2⟩ := q_after hC hd' hN hmc hms kr kt (T := T.setVm vm₁) E hL hH h1 h2 X₁ (ig := .invokestatic idx) (mk := mk) (by rw [E.2.2.1]; exact hd) (X₁.named hnamed) hwN hini
  exact ⟨t, hstep₁ t (fun acts => by rw [doInvoke_state]; exact a1), a2⟩
theorem q_callI {N : q_Me} {fr' : Bool} {rm' : Room} {idx n : Nat} {as : List Value} {P' : Outcome → List va_E → Prop} {a : Nat} (hd : decode M.2.1 pc = .ok (.invokespecial idx, 3)) (hl : q_ML M.1.cls idx N n) (hnh : N.2.2.2 = (none, [])) (hin : N.1.name = "<init>") (hins : Jvm.Cond.instanceMethod N.1 ∈ q_gw) (hn : as.length = n) (hC : q_C g N fr' rm' (.ref a :: as) hp P') (hd' : rm'.frames + 1 ≤ rm.frames) (hN : (st.map fun v => v.category).sum + (N.2.2.1 + 11) + rm'.locals ≤ rm.locals) (hmc : c + rm'.cells ≤ rm.cells) (hms : s + rm'.slots ≤ rm.slots)
    (kr : ∀ v hp', P' (.returned v) hp' → q_J g M fr rm P (pc + 3) ls (v.toList ++ st) hp' (c + rm'.cells) (s + rm'.slots) (w || fr')) (kt : ∀ x hp', P' (.threw x) hp' → q_T g M fr rm P pc ls hp' (c + rm'.cells) (s + rm'.slots) true x) : q_J g M fr rm P pc ls (as.reverse ++ .ref a :: st) hp c s w := by
  intro p e R u m args below meth co H locs la E hL hH h1 h2
  intro T hT X
  subst hT
  have hu := E.2.2.2.2.2.1
  have hlen := hl.len
  obtain ⟨hlk, hwN, hini, hy, -⟩ := hl
  have hcode : (Jvm.Cond.code N.1 N.2.1 N.2.2.1 none).before args u = true := by
    have h0 : (q_w N).before args u = true := q_word E.1 hu hwN (q_w_good N)
    unfold q_w at h0
    rw [hnh] at h0
    exact h0
  have hstk : (F0 m pc la ((as.reverse ++ .ref a :: st).map (q_ev g))).stack = (as.map (q_ev g)).reverse ++ .ref (q_b g + a) :: st.map (q_ev g) := by
    show (as.reverse ++ .ref a :: st).map (q_ev g) = _
    rw [List.map_append, List.map_reverse]
    rfl
  have hln : ∀ sig, parseMethodDescriptor N.1.desc = some sig → (as.map (q_ev g)).length = sig.parameters.length := by
    intro sig hs
    rw [List.length_map, hn]
    exact hlen _ hs
  have hpl : e.platform.magicAccessors = ({} : Platform).magicAccessors := by rw [X.admits.platform]
  have hdc : decode co.code (F0 m pc la ((as.reverse ++ .ref a :: st).map (q_ev g))).pc = .ok (.invokespecial idx, 3) := by rw [E.2.2.1]; exact hd
  have go : ∃ mk vm₁, u.methodNamed? N.1 = some mk ∧ u.WarmedH vm₁ ∧ ∀ target, (∀ acts, Steps p.tables e below (doInvoke e ((T.setVm vm₁).setTop { F0 m pc la ((as.reverse ++ .ref a :: st).map (q_ev g)) with stack := st.map (q_ev g) }) acts mk (Value.ref (q_b g + a) :: as.map (q_ev g)).toArray).1 target) → Steps p.tables e below (T.setTop (F0 m pc la ((as.reverse ++ .ref a :: st).map (q_ev g)))) target := by
    rcases hlk with hlk | ⟨host, hlk⟩
    · obtain ⟨mk, methM, cM, kP, vm₁, hnamed, hmethM, hcodeM, -, hlocalsM, -, hkP, -, hW₁, hstep₁⟩ := Steps.initColdArgs (e := e) X.here E.2.1 X.warmed hpl E.2.2.2.2.1 hin hy (q_word E.1 hu hlk rfl) (q_word E.1 hu hins rfl) hcode (f := F0 m pc la ((as.reverse ++ .ref a :: st).map (q_ev g))) rfl hln hstk hdc
      exact ⟨mk, vm₁, hnamed, hW₁, hstep₁⟩
    · obtain ⟨mk, methM, cM, kP, vm₁, hnamed, hmethM, hcodeM, -, hlocalsM, -, hkP, -, hW₁, hstep₁⟩ := Steps.initColdArgsNest (e := e) X.here E.2.1 X.warmed hpl E.2.2.2.2.1 hin hy (q_nestM E.1 hu hlk) (q_word E.1 hu hins rfl) hcode (f := F0 m pc la ((as.reverse ++ .ref a :: st).map (q_ev g))) rfl hln hstk hdc
      exact ⟨mk, vm₁, hnamed, hW₁, hstep₁⟩
  obtain ⟨mk, vm₁, hnamed, hW₁, hstep₁⟩ := go
  have X₁ := X.noted hW₁
  obtain ⟨t, a1, a2⟩ := q_after hC hd' hN hmc hms kr kt (T := T.setVm vm₁) E hL hH h1 h2 X₁ (ig := .invokespecial idx) (mk := mk) (by rw [E.2.2.1]; exact hd) (X₁.named hnamed) hwN hini
  exact ⟨t, hstep₁ t (fun acts => by rw [doInvoke_state]; exact a1), a2⟩
theorem q_callV {N : q_Me} {fr' : Bool} {rm' : Room} {idx n : Nat} {as : List Value} {P' : Outcome → List va_E → Prop} {a ci : Nat} {fs : List Value} {q : vw_C} (hd : decode M.2.1 pc = .ok (.invokevirtual idx, 3)) (hl : q_ML M.1.cls idx N n) (hins : Jvm.Cond.instanceMethod N.1 ∈ q_gw) (hsel : Jvm.Cond.selects q.1 N.1 N.1 ∈ q_gw) (hq : q_cl[ci]? = some q) (he : hp[a]? = some (.inr (ci, fs))) (hn : as.length = n) (hC : q_C g N fr' rm' (.ref a :: as) hp P') (hd' : rm'.frames + 1 ≤ rm.frames) (hN : (st.map fun v => v.category).sum + (N.2.2.1 + 11) + rm'.locals ≤ rm.locals) (hmc : c + rm'.cells ≤ rm.cells) (hms : s + rm'.slots ≤ rm.slots)
    (kr : ∀ v hp', P' (.returned v) hp' → q_J g M fr rm P (pc + 3) ls (v.toList ++ st) hp' (c + rm'.cells) (s + rm'.slots) (w || fr')) (kt : ∀ x hp', P' (.threw x) hp' → q_T g M fr rm P pc ls hp' (c + rm'.cells) (s + rm'.slots) true x) : q_J g M fr rm P pc ls (as.reverse ++ .ref a :: st) hp c s w := by
  intro p e R u m args below meth co H locs la E hL hH h1 h2
  intro T hT X
  subst hT
  have hu := E.2.2.2.2.2.1
  have hlen := hl.len
  obtain ⟨hlk, hwN, hini, hy, -⟩ := hl
  obtain ⟨mk, methM, hnamed, hmethM, hstM, habM⟩ := Cond.instanceMethod_spec (q_word (args := args) E.1 hu hins rfl)
  obtain ⟨methM', cM, hmethM', -, -, -, -, -, -, hsigM⟩ := q_w_spec hnamed (q_word (args := args) E.1 hu hwN (q_w_good N))
  cases hmethM.symm.trans hmethM'
  obtain ⟨r', hr', cellB, hcB, hclB, hvmB, -⟩ := hH.2.2 a _ he
  have hKn := (q_K0 E.1 hu).1 ci _ hq
  have hcls : u.vm.findClass q.1 = some cellB.cls := by rw [hclB]; exact hKn.2.1
  obtain ⟨c2, r2, m2, q1, q2, q3, q4, kP, hkP, hkPi⟩ := Cond.selects_spec (q_word (args := args) E.1 hu hsel rfl)
  cases hcls.symm.trans q1
  cases (State.methodFound?_of_named hnamed hy).symm.trans q2
  cases hnamed.symm.trans q3
  have hselP : selectMethod e.platform u.vm cellB.cls mk = .method mk := by rw [Launch.admits_selectMethod X.admits]; exact q4
  have hstk : (F0 m pc la ((as.reverse ++ .ref a :: st).map (q_ev g))).stack = (as.map (q_ev g)).reverse ++ .ref (q_b g + a) :: st.map (q_ev g) := by
    show (as.reverse ++ .ref a :: st).map (q_ev g) = _
    rw [List.map_append, List.map_reverse]
    rfl
  have hln : (as.map (q_ev g)).length = methM.sig.parameters.length := by
    rw [List.length_map, hn]
    exact hlen _ hsigM
  have hdc : decode co.code (F0 m pc la ((as.reverse ++ .ref a :: st).map (q_ev g))).pc = .ok (.invokevirtual idx, 3) := by rw [E.2.2.1]; exact hd
  have hno : ∀ z, cellB.vm ≠ .statics z := fun z h => by rw [hvmB] at h; cases h
  have go : ∃ vm₁, u.WarmedH vm₁ ∧ Stand p (q_l g) e R u m args below meth co (T.setVm vm₁) locs c s ∧ ∀ target, (∀ acts, Steps p.tables e below (doInvoke e ((T.setVm vm₁).setTop { F0 m pc la ((as.reverse ++ .ref a :: st).map (q_ev g)) with stack := st.map (q_ev g) }) acts mk (Value.ref (q_b g + a) :: as.map (q_ev g)).toArray).1 target) → Steps p.tables e below (T.setTop (F0 m pc la ((as.reverse ++ .ref a :: st).map (q_ev g)))) target := by
    rcases hlk with hlk | ⟨host, hlk⟩
    · obtain ⟨vm₁, X₁, hstep₁⟩ := X.invokevirtual E.2.1 E.2.2.2.2.1 (q_word E.1 hu hlk rfl) hnamed hmethM hstM hkP hkPi hy (a := q_b g + a) (cell := cellB) hcB hno hselP hmethM habM hkP hkPi (g := F0 m pc la ((as.reverse ++ .ref a :: st).map (q_ev g))) rfl (argsL := as.map (q_ev g)) (rest := st.map (q_ev g)) hln hstk hdc
      exact ⟨vm₁, X₁.warmed, X₁, hstep₁⟩
    · obtain ⟨vm₁, X₁, hstep₁⟩ := X.invokevirtualNest E.2.1 E.2.2.2.2.1 (q_nestM E.1 hu hlk) hnamed hmethM hstM hkP hkPi hy (a := q_b g + a) (cell := cellB) hcB hno hselP hmethM habM hkP hkPi (g := F0 m pc la ((as.reverse ++ .ref a :: st).map (q_ev g))) rfl (argsL := as.map (q_ev g)) (rest := st.map (q_ev g)) hln hstk hdc
      exact ⟨vm₁, X₁.warmed, X₁, hstep₁⟩
  obtain ⟨vm₁, hW₁, X₁, hstep₁⟩ := go
  obtain ⟨t, a1, a2⟩ := q_after hC hd' hN hmc hms kr kt (T := T.setVm vm₁) E hL hH h1 h2 X₁ (ig := .invokevirtual idx) (mk := mk) (by rw [E.2.2.1]; exact hd) (X₁.named hnamed) hwN hini
  exact ⟨t, hstep₁ t (fun acts => by rw [doInvoke_state]; exact a1), a2⟩
/-- an end that is known: it returns v, the cells are hp2 -/
def q_ret (v : Option Value) (hp2 : List va_E) : Outcome → List va_E → Prop := fun r h => r = .returned v ∧ h = hp2
def q_thr (x : Nat) (hp2 : List va_E) : Outcome → List va_E → Prop := fun r h => r = .threw x ∧ h = hp2
theorem q_kr {v0 : Option Value} {hp2 : List va_E} {D : Option Value → List va_E → Prop} (k : D v0 hp2) : ∀ v hp', q_ret v0 hp2 (.returned v) hp' → D v hp' := by
  intro v hp' ⟨e1, e2⟩
  cases e1
  subst e2
  exact k
theorem q_kt {v0 : Option Value} {hp2 : List va_E} {D : Nat → List va_E → Prop} : ∀ x hp', q_ret v0 hp2 (.threw x) hp' → D x hp' := by
  intro x hp' ⟨e1, e2⟩
  cases e1
/-- Object.<init> -/
theorem q_objInit {idx a : Nat} (hd : decode M.2.1 pc = .ok (.invokespecial idx, 3)) (hw1 : Jvm.Cond.methodLink M.1.cls idx Lib.objectInit ∈ q_gw) (hw2 : Jvm.Cond.instanceMethod Lib.objectInit ∈ q_gw) (hw3 : Jvm.Cond.code Lib.objectInit ⟨#[0xb1]⟩ 1 none ∈ q_gw) (hd1 : 1 ≤ rm.frames) (hst : (st.map fun v => v.category).sum + 12 ≤ rm.locals) (kk : q_J g M fr rm P (pc + 3) ls st hp c s w) : q_J g M fr rm P pc ls (.ref a :: st) hp c s w := by
  intro p e R u m args below meth co H locs la E hL hH h1 h2
  have hu := E.2.2.2.2.2.1
  have hR1 := E.2.2.2.2.2.2.2.2.2.1
  have hR2 := E.2.2.2.2.2.2.2.2.2.2.1
  have hcat : ((st.map (q_ev g)).map fun v => v.category).sum = (st.map fun v => v.category).sum := by
    have : (st.map (q_ev g)).map (fun v => v.category) = st.map (fun v => v.category) := by
      rw [List.map_map]
      exact List.map_congr_left (fun v _ => q_ev_cat g v)
    rw [this]
  exact W.objInit E.2.1 E.2.2.1 E.2.2.2.2.1 (q_word E.1 hu hw1 rfl) (q_word E.1 hu hw2 rfl) (q_word E.1 hu hw3 rfl) rfl (by rw [E.2.2.2.1]; exact hL.1) rfl hd (by omega) (by show 2 * 0 + _ + 12 ≤ _; omega) (kk p e R u m args below meth co H locs la E hL hH h1 h2)
end ENG4
end
section
/-! names, 2: methods and links, printed by gen/names2.py -/
section NAMES2
abbrev m_S_init : q_Me := (⟨"StuckSearch", "<init>", "()V"⟩, prog_1_method_1_code, 1, none, [])
abbrev m_Ta_init : q_Me := (⟨"StuckSearch$Tape", "<init>", "()V"⟩, prog_7_method_1_code, 1, none, [])
abbrev m_Wo_init : q_Me := (⟨"StuckSearch$World", "<init>", "()V"⟩, prog_9_method_1_code, 2, none, [])
abbrev m_Ar_fillI : q_Me := (⟨"java/util/Arrays", "fill", "([II)V"⟩, prog_23_method_103_code, 4, none, [])
abbrev m_Co_init : q_Me := (⟨"StuckSearch$Course", "<init>", "()V"⟩, prog_2_method_1_code, 1, none, [])
abbrev m_Re_init : q_Me := (⟨"StuckSearch$TextReader", "<init>", "(LStuckSearch$Tape;LStuckSearch$World;)V"⟩, prog_8_method_1_code, 4, none, [])
abbrev m_Pa_init : q_Me := (⟨"StuckSearch$Part", "<init>", "()V"⟩, prog_3_method_1_code, 1, none, [])
abbrev m_Se_init : q_Me := (⟨"StuckSearch$Search", "<init>", "(LStuckSearch$World;)V"⟩, prog_4_method_1_code, 2, none, [])
abbrev m_Ss_init : q_Me := (⟨"StuckSearch$StateSet", "<init>", "()V"⟩, prog_6_method_1_code, 1, none, [])
abbrev m_St_init : q_Me := (⟨"StuckSearch$State", "<init>", "()V"⟩, prog_5_method_1_code, 1, none, [])
abbrev m_S_wipe : q_Me := (⟨"StuckSearch", "wipe", "()I"⟩, prog_1_method_3_code, 2, some (FieldType.int), [])
abbrev m_S_process : q_Me := (⟨"StuckSearch", "process", "()I"⟩, prog_1_method_5_code, 1, some (FieldType.int), [])
abbrev m_Re_read : q_Me := (⟨"StuckSearch$TextReader", "read", "(LStuckSearch$Course;)Z"⟩, prog_8_method_2_code, 3, some (FieldType.boolean), [])
abbrev m_Co_reset : q_Me := (⟨"StuckSearch$Course", "reset", "()V"⟩, prog_2_method_2_code, 1, none, [])
abbrev m_Re_beginText : q_Me := (⟨"StuckSearch$TextReader", "beginText", "()V"⟩, prog_8_method_11_code, 1, none, [])
abbrev m_Pa_set : q_Me := (⟨"StuckSearch$Part", "set", "(ZI)V"⟩, prog_3_method_2_code, 3, none, [])
abbrev m_Re_readNext : q_Me := (⟨"StuckSearch$TextReader", "readNext", "(LStuckSearch$Course;)V"⟩, prog_8_method_3_code, 2, none, [])
abbrev m_Ta_byteAt : q_Me := (⟨"StuckSearch$Tape", "byteAt", "(I)I"⟩, prog_7_method_3_code, 2, some (FieldType.int), [])
abbrev m_Re_endChoice : q_Me := (⟨"StuckSearch$TextReader", "endChoice", "()V"⟩, prog_8_method_12_code, 1, none, [])
abbrev m_Pa_addChoice : q_Me := (⟨"StuckSearch$Part", "addChoice", "(LStuckSearch$Part;)V"⟩, prog_3_method_3_code, 2, none, [])
abbrev m_Re_openText : q_Me := (⟨"StuckSearch$TextReader", "openText", "()V"⟩, prog_8_method_4_code, 1, none, [])
abbrev m_Re_meetFault : q_Me := (⟨"StuckSearch$TextReader", "meetFault", "(I)V"⟩, prog_8_method_13_code, 2, none, [])
abbrev m_Re_closeText : q_Me := (⟨"StuckSearch$TextReader", "closeText", "(LStuckSearch$Course;)V"⟩, prog_8_method_5_code, 3, none, [])
abbrev m_Re_addThing : q_Me := (⟨"StuckSearch$TextReader", "addThing", "(LStuckSearch$Course;LStuckSearch$Part;)V"⟩, prog_8_method_10_code, 3, none, [])
abbrev m_Co_addSteps : q_Me := (⟨"StuckSearch$Course", "addSteps", "(II)V"⟩, prog_2_method_5_code, 4, none, [])
abbrev m_Pa_addBehind : q_Me := (⟨"StuckSearch$Part", "addBehind", "(LStuckSearch$Part;)V"⟩, prog_3_method_4_code, 2, none, [])
abbrev m_Re_readAct : q_Me := (⟨"StuckSearch$TextReader", "readAct", "(LStuckSearch$Course;)V"⟩, prog_8_method_6_code, 8, none, [])
abbrev m_Co_isFull : q_Me := (⟨"StuckSearch$Course", "isFull", "()Z"⟩, prog_2_method_3_code, 1, some (FieldType.boolean), [])
abbrev m_Re_readKind : q_Me := (⟨"StuckSearch$TextReader", "readKind", "()I"⟩, prog_8_method_7_code, 2, some (FieldType.int), [])
abbrev m_Re_takesFigure : q_Me := (⟨"StuckSearch$TextReader", "takesFigure", "(I)Z"⟩, prog_8_method_8_code, 1, some (FieldType.boolean), [])
abbrev m_Re_readFigure : q_Me := (⟨"StuckSearch$TextReader", "readFigure", "(I)I"⟩, prog_8_method_9_code, 3, some (FieldType.int), [])
abbrev m_Co_addAct : q_Me := (⟨"StuckSearch$Course", "addAct", "(III)I"⟩, prog_2_method_4_code, 5, some (FieldType.int), [])
abbrev m_Co_finish : q_Me := (⟨"StuckSearch$Course", "finish", "(LStuckSearch$Part;)V"⟩, prog_2_method_6_code, 2, none, [])
abbrev m_S_beginAnew : q_Me := (⟨"StuckSearch", "beginAnew", "()V"⟩, prog_1_method_21_code, 1, none, [])
abbrev m_Se_forget : q_Me := (⟨"StuckSearch$Search", "forget", "()V"⟩, prog_4_method_2_code, 1, none, [])
abbrev m_S_returnToFirst : q_Me := (⟨"StuckSearch", "returnToFirst", "()V"⟩, prog_1_method_22_code, 1, none, [])
abbrev m_Wo_putFirst : q_Me := (⟨"StuckSearch$World", "putFirst", "(LStuckSearch$State;)V"⟩, prog_9_method_6_code, 3, none, [])
abbrev m_S_fault : q_Me := (⟨"StuckSearch", "fault", "()I"⟩, prog_1_method_6_code, 1, some (FieldType.int), [])
abbrev m_S_faultAt : q_Me := (⟨"StuckSearch", "faultAt", "()I"⟩, prog_1_method_7_code, 1, some (FieldType.int), [])
abbrev m_S_clear : q_Me := (⟨"StuckSearch", "clear", "()I"⟩, prog_1_method_8_code, 2, some (FieldType.int), [])
abbrev m_Wo_removeAll : q_Me := (⟨"StuckSearch$World", "removeAll", "()V"⟩, prog_9_method_3_code, 1, none, [])
abbrev m_S_product : q_Me := (⟨"StuckSearch", "product", "()I"⟩, prog_1_method_10_code, 1, some (FieldType.int), [])
abbrev m_Wo_isSearchable : q_Me := (⟨"StuckSearch$World", "isSearchable", "()Z"⟩, prog_9_method_5_code, 1, some (FieldType.boolean), [])
abbrev m_Wo_countStates : q_Me := (⟨"StuckSearch$World", "countStates", "()J"⟩, prog_9_method_4_code, 4, some (FieldType.long), [])
abbrev m_S_stuck : q_Me := (⟨"StuckSearch", "stuck", "()I"⟩, prog_1_method_11_code, 1, some (FieldType.int), [])
abbrev m_Se_findStanding : q_Me := (⟨"StuckSearch$Search", "findStanding", "()V"⟩, prog_4_method_3_code, 3, none, [])
abbrev m_Se_weigh : q_Me := (⟨"StuckSearch$Search", "weigh", "()V"⟩, prog_4_method_6_code, 3, none, [])
abbrev m_Ss_empty : q_Me := (⟨"StuckSearch$StateSet", "empty", "()V"⟩, prog_6_method_2_code, 1, none, [])
abbrev m_Ar_fillJ : q_Me := (⟨"java/util/Arrays", "fill", "([JJ)V"⟩, prog_23_method_101_code, 5, none, [])
abbrev m_Wo_numberOf : q_Me := (⟨"StuckSearch$World", "numberOf", "(LStuckSearch$State;)I"⟩, prog_9_method_11_code, 4, some (FieldType.int), [])
abbrev m_Se_reach : q_Me := (⟨"StuckSearch$Search", "reach", "(I)V"⟩, prog_4_method_7_code, 2, none, [])
abbrev m_Ss_contains : q_Me := (⟨"StuckSearch$StateSet", "contains", "(I)Z"⟩, prog_6_method_4_code, 2, some (FieldType.boolean), [])
abbrev m_Ss_add : q_Me := (⟨"StuckSearch$StateSet", "add", "(I)V"⟩, prog_6_method_5_code, 2, none, [])
abbrev m_Ss_takeLowest : q_Me := (⟨"StuckSearch$StateSet", "takeLowest", "()I"⟩, prog_6_method_6_code, 2, some (FieldType.int), [])
abbrev m_S_nthBit : q_Me := (⟨"StuckSearch", "nthBit", "(JI)I"⟩, prog_1_method_25_code, 6, some (FieldType.int), [])
abbrev m_Lo_bitCount : q_Me := (⟨"java/lang/Long", "bitCount", "(J)I"⟩, prog_17_method_50_code, 2, some (FieldType.int), [])
abbrev m_Se_lookAhead : q_Me := (⟨"StuckSearch$Search", "lookAhead", "(I)V"⟩, prog_4_method_8_code, 5, none, [])
abbrev m_Wo_putNumbered : q_Me := (⟨"StuckSearch$World", "putNumbered", "(ILStuckSearch$State;)V"⟩, prog_9_method_12_code, 6, none, [])
abbrev m_Ma_max : q_Me := (⟨"java/lang/Math", "max", "(II)I"⟩, prog_18_method_65_code, 2, some (FieldType.int), [])
abbrev m_Wo_openPlaces : q_Me := (⟨"StuckSearch$World", "openPlaces", "(LStuckSearch$State;I)I"⟩, prog_9_method_7_code, 7, some (FieldType.int), [])
abbrev m_Wo_outcome : q_Me := (⟨"StuckSearch$World", "outcome", "(LStuckSearch$State;LStuckSearch$Course;I)I"⟩, prog_9_method_8_code, 5, some (FieldType.int), [])
abbrev m_Co_outcome : q_Me := (⟨"StuckSearch$Course", "outcome", "(III)I"⟩, prog_2_method_9_code, 4, some (FieldType.int), [])
abbrev m_Se_reachAll : q_Me := (⟨"StuckSearch$Search", "reachAll", "(III)V"⟩, prog_4_method_9_code, 8, none, [])
abbrev m_Wo_allAtEnds : q_Me := (⟨"StuckSearch$World", "allAtEnds", "(LStuckSearch$State;)Z"⟩, prog_9_method_10_code, 3, some (FieldType.boolean), [])
abbrev m_Co_isEnd : q_Me := (⟨"StuckSearch$Course", "isEnd", "(I)Z"⟩, prog_2_method_8_code, 2, some (FieldType.boolean), [])
abbrev m_S_ended : q_Me := (⟨"StuckSearch", "ended", "()I"⟩, prog_1_method_12_code, 1, some (FieldType.int), [])
abbrev m_S_moves : q_Me := (⟨"StuckSearch", "moves", "()I"⟩, prog_1_method_15_code, 3, some (FieldType.int), [])
abbrev m_In_bitCount : q_Me := (⟨"java/lang/Integer", "bitCount", "(I)I"⟩, prog_16_method_49_code, 1, some (FieldType.int), [])
abbrev m_S_restart : q_Me := (⟨"StuckSearch", "restart", "()I"⟩, prog_1_method_17_code, 2, some (FieldType.int), [])
abbrev m_La_feed : q_Me := (⟨"StuckSearchLaw", "feed", "(LStuckSearch;IJ[J)I"⟩, method_3_code, 6, some (FieldType.int), [(0, 11, 14, 13)])
abbrev m_S_feed : q_Me := (⟨"StuckSearch", "feed", "(IJ)I"⟩, prog_1_method_2_code, 4, some (FieldType.int), [])
abbrev m_Ta_append : q_Me := (⟨"StuckSearch$Tape", "append", "(IJ)Z"⟩, prog_7_method_2_code, 5, some (FieldType.boolean), [])
abbrev m_La_variable : q_Me := (⟨"StuckSearchLaw", "variable", "(LStuckSearch;II[J)I"⟩, method_4_code, 5, some (FieldType.int), [(0, 10, 13, 13)])
abbrev m_S_variable : q_Me := (⟨"StuckSearch", "variable", "(II)I"⟩, prog_1_method_4_code, 3, some (FieldType.int), [])
abbrev m_Wo_addVariable : q_Me := (⟨"StuckSearch$World", "addVariable", "(II)V"⟩, prog_9_method_2_code, 3, none, [])
abbrev m_La_told : q_Me := (⟨"StuckSearchLaw", "told", "(LStuckSearch;II[J)I"⟩, method_5_code, 5, some (FieldType.int), [(0, 10, 13, 22), (0, 10, 17, 13)])
abbrev m_S_told : q_Me := (⟨"StuckSearch", "told", "(II)I"⟩, prog_1_method_9_code, 4, some (FieldType.int), [])
abbrev m_S_checkIndex : q_Me := (⟨"StuckSearch", "checkIndex", "(II)V"⟩, prog_1_method_24_code, 2, none, [])
abbrev m_Co_countSteps : q_Me := (⟨"StuckSearch$Course", "countSteps", "()I"⟩, prog_2_method_7_code, 3, some (FieldType.int), [])
abbrev m_La_place : q_Me := (⟨"StuckSearchLaw", "place", "(LStuckSearch;II[J)I"⟩, method_6_code, 5, some (FieldType.int), [(0, 10, 13, 27), (0, 10, 17, 22)])
abbrev m_S_place : q_Me := (⟨"StuckSearch", "place", "(II)I"⟩, prog_1_method_13_code, 3, some (FieldType.int), [])
abbrev m_S_checkSearchable : q_Me := (⟨"StuckSearch", "checkSearchable", "()V"⟩, prog_1_method_23_code, 1, none, [])
abbrev m_Se_standingState : q_Me := (⟨"StuckSearch$Search", "standingState", "(I)LStuckSearch$State;"⟩, prog_4_method_5_code, 2, some ((FieldType.object "StuckSearch$State")), [])
abbrev m_Ss_nth : q_Me := (⟨"StuckSearch$StateSet", "nth", "(I)I"⟩, prog_6_method_7_code, 5, some (FieldType.int), [])
abbrev m_La_value : q_Me := (⟨"StuckSearchLaw", "value", "(LStuckSearch;II[J)I"⟩, method_7_code, 5, some (FieldType.int), [(0, 10, 13, 27), (0, 10, 17, 22)])
abbrev m_S_value : q_Me := (⟨"StuckSearch", "value", "(II)I"⟩, prog_1_method_14_code, 3, some (FieldType.int), [])
abbrev m_La_move : q_Me := (⟨"StuckSearchLaw", "move", "(LStuckSearch;I[J)I"⟩, method_8_code, 4, some (FieldType.int), [(0, 9, 12, 22)])
abbrev m_S_move : q_Me := (⟨"StuckSearch", "move", "(I)I"⟩, prog_1_method_16_code, 7, some (FieldType.int), [])
abbrev m_Wo_go : q_Me := (⟨"StuckSearch$World", "go", "(LStuckSearch$State;II)V"⟩, prog_9_method_9_code, 5, none, [])
abbrev m_La_now : q_Me := (⟨"StuckSearchLaw", "now", "(LStuckSearch;I[J)I"⟩, method_9_code, 4, some (FieldType.int), [(0, 9, 12, 22)])
abbrev m_S_now : q_Me := (⟨"StuckSearch", "now", "(I)I"⟩, prog_1_method_18_code, 2, some (FieldType.int), [])
abbrev m_La_has : q_Me := (⟨"StuckSearchLaw", "has", "(LStuckSearch;I[J)I"⟩, method_10_code, 4, some (FieldType.int), [(0, 9, 12, 22)])
abbrev m_S_has : q_Me := (⟨"StuckSearch", "has", "(I)I"⟩, prog_1_method_19_code, 2, some (FieldType.int), [])
abbrev m_La_falls : q_Me := (⟨"StuckSearchLaw", "falls", "(LStuckSearch;[J)I"⟩, method_11_code, 3, some (FieldType.int), [(0, 15, 18, 27)])
abbrev m_S_falls : q_Me := (⟨"StuckSearch", "falls", "()Z"⟩, prog_1_method_20_code, 1, some (FieldType.boolean), [])
abbrev m_Se_findFalling : q_Me := (⟨"StuckSearch$Search", "findFalling", "()V"⟩, prog_4_method_4_code, 3, none, [])
abbrev m_Ss_copyFrom : q_Me := (⟨"StuckSearch$StateSet", "copyFrom", "(LStuckSearch$StateSet;)V"⟩, prog_6_method_3_code, 2, none, [])
abbrev m_Se_lookBack : q_Me := (⟨"StuckSearch$Search", "lookBack", "(I)V"⟩, prog_4_method_10_code, 4, none, [])
abbrev m_Se_undoAct : q_Me := (⟨"StuckSearch$Search", "undoAct", "(III)V"⟩, prog_4_method_11_code, 9, none, [])
abbrev m_Se_undoStep : q_Me := (⟨"StuckSearch$Search", "undoStep", "(III)V"⟩, prog_4_method_12_code, 6, none, [])
abbrev m_Se_fall : q_Me := (⟨"StuckSearch$Search", "fall", "(I)V"⟩, prog_4_method_13_code, 2, none, [])
abbrev m_Mo_init : q_Me := (⟨"StuckSearchModel", "<init>", "()V"⟩, prog_11_method_1_code, 1, none, [])
abbrev m_Mo_thrown : q_Me := (⟨"StuckSearchModel", "thrown", "()I"⟩, prog_11_method_2_code, 1, some (FieldType.int), [])
abbrev m_Mo_feed : q_Me := (⟨"StuckSearchModel", "feed", "(IJ)I"⟩, prog_11_method_3_code, 5, some (FieldType.int), [])
abbrev m_Mo_wipe : q_Me := (⟨"StuckSearchModel", "wipe", "()I"⟩, prog_11_method_4_code, 2, some (FieldType.int), [])
abbrev m_Mo_variable : q_Me := (⟨"StuckSearchModel", "variable", "(II)I"⟩, prog_11_method_6_code, 3, some (FieldType.int), [])
abbrev m_Mo_begin : q_Me := (⟨"StuckSearchModel", "begin", "()V"⟩, prog_11_method_5_code, 2, none, [])
abbrev m_Mo_clear : q_Me := (⟨"StuckSearchModel", "clear", "()I"⟩, prog_11_method_7_code, 2, some (FieldType.int), [])
abbrev m_Mo_process : q_Me := (⟨"StuckSearchModel", "process", "()I"⟩, prog_11_method_18_code, 3, some (FieldType.int), [])
abbrev m_Mo_beginChoices : q_Me := (⟨"StuckSearchModel", "beginChoices", "()V"⟩, prog_11_method_11_code, 1, none, [])
abbrev m_Mo_beginRow : q_Me := (⟨"StuckSearchModel", "beginRow", "()V"⟩, prog_11_method_10_code, 1, none, [])
abbrev m_Mo_step : q_Me := (⟨"StuckSearchModel", "step", "()V"⟩, prog_11_method_17_code, 2, none, [])
abbrev m_Mo_byteAt : q_Me := (⟨"StuckSearchModel", "byteAt", "(I)I"⟩, prog_11_method_9_code, 2, some (FieldType.int), [])
abbrev m_Mo_fail : q_Me := (⟨"StuckSearchModel", "fail", "(II)V"⟩, prog_11_method_8_code, 3, none, [])
abbrev m_Mo_endRow : q_Me := (⟨"StuckSearchModel", "endRow", "()V"⟩, prog_11_method_12_code, 1, none, [])
abbrev m_Mo_take : q_Me := (⟨"StuckSearchModel", "take", "()V"⟩, prog_11_method_14_code, 1, none, [])
abbrev m_Mo_lead : q_Me := (⟨"StuckSearchModel", "lead", "(II)V"⟩, prog_11_method_13_code, 4, none, [])
abbrev m_Mo_readAct : q_Me := (⟨"StuckSearchModel", "readAct", "()V"⟩, prog_11_method_16_code, 5, none, [])
abbrev m_Mo_act : q_Me := (⟨"StuckSearchModel", "act", "(III)V"⟩, prog_11_method_15_code, 4, none, [])
abbrev m_Mo_fault : q_Me := (⟨"StuckSearchModel", "fault", "()I"⟩, prog_11_method_19_code, 1, some (FieldType.int), [])
abbrev m_Mo_faultAt : q_Me := (⟨"StuckSearchModel", "faultAt", "()I"⟩, prog_11_method_20_code, 1, some (FieldType.int), [])
abbrev m_Mo_told : q_Me := (⟨"StuckSearchModel", "told", "(II)I"⟩, prog_11_method_23_code, 5, some (FieldType.int), [])
abbrev m_Mo_noProcess : q_Me := (⟨"StuckSearchModel", "noProcess", "(I)Z"⟩, prog_11_method_21_code, 2, some (FieldType.boolean), [])
abbrev m_Mo_ones : q_Me := (⟨"StuckSearchModel", "ones", "(I)I"⟩, prog_11_method_22_code, 3, some (FieldType.int), [])
abbrev m_Mo_moves : q_Me := (⟨"StuckSearchModel", "moves", "()I"⟩, prog_11_method_27_code, 1, some (FieldType.int), [])
abbrev m_Mo_fromNow : q_Me := (⟨"StuckSearchModel", "fromNow", "()V"⟩, prog_11_method_26_code, 2, none, [])
abbrev m_Mo_possible : q_Me := (⟨"StuckSearchModel", "possible", "()I"⟩, prog_11_method_25_code, 4, some (FieldType.int), [])
abbrev m_Mo_goes : q_Me := (⟨"StuckSearchModel", "goes", "(II)Z"⟩, prog_11_method_24_code, 6, some (FieldType.boolean), [])
abbrev m_Mo_move : q_Me := (⟨"StuckSearchModel", "move", "(I)I"⟩, prog_11_method_28_code, 6, some (FieldType.int), [])
abbrev m_Mo_restart : q_Me := (⟨"StuckSearchModel", "restart", "()I"⟩, prog_11_method_29_code, 3, some (FieldType.int), [])
abbrev m_Mo_now : q_Me := (⟨"StuckSearchModel", "now", "(I)I"⟩, prog_11_method_30_code, 2, some (FieldType.int), [])
abbrev m_Mo_has : q_Me := (⟨"StuckSearchModel", "has", "(I)I"⟩, prog_11_method_31_code, 2, some (FieldType.int), [])
abbrev m_Mo_product : q_Me := (⟨"StuckSearchModel", "product", "()I"⟩, prog_11_method_32_code, 3, some (FieldType.int), [])
abbrev m_Mo_stuck : q_Me := (⟨"StuckSearchModel", "stuck", "()I"⟩, prog_11_method_37_code, 1, some (FieldType.int), [])
abbrev m_Mo_know : q_Me := (⟨"StuckSearchModel", "know", "()V"⟩, prog_11_method_36_code, 5, none, [])
abbrev m_Mo_number : q_Me := (⟨"StuckSearchModel", "number", "([I)I"⟩, prog_11_method_33_code, 4, some (FieldType.int), [])
abbrev m_Mo_walk : q_Me := (⟨"StuckSearchModel", "walk", "(I)V"⟩, prog_11_method_35_code, 6, none, [])
abbrev m_Mo_apart : q_Me := (⟨"StuckSearchModel", "apart", "(I)V"⟩, prog_11_method_34_code, 4, none, [])
abbrev m_Mo_ended : q_Me := (⟨"StuckSearchModel", "ended", "()I"⟩, prog_11_method_38_code, 1, some (FieldType.int), [])
abbrev m_Mo_place : q_Me := (⟨"StuckSearchModel", "place", "(II)I"⟩, prog_11_method_39_code, 3, some (FieldType.int), [])
abbrev m_Mo_value : q_Me := (⟨"StuckSearchModel", "value", "(II)I"⟩, prog_11_method_40_code, 3, some (FieldType.int), [])
abbrev m_Mo_falls : q_Me := (⟨"StuckSearchModel", "falls", "()Z"⟩, prog_11_method_41_code, 3, some (FieldType.boolean), [])
abbrev m_La_law : q_Me := (⟨"StuckSearchLaw", "law", "([I)Z"⟩, code, 7, some (FieldType.boolean), [])
set_option maxRecDepth 100000 in
theorem i_S_init : Jvm.Cond.instanceMethod m_S_init.1 ∈ q_gw := q_i 25 (by rfl)
set_option maxRecDepth 100000 in
theorem i_Ta_init : Jvm.Cond.instanceMethod m_Ta_init.1 ∈ q_gw := q_i 33 (by rfl)
set_option maxRecDepth 100000 in
theorem i_Wo_init : Jvm.Cond.instanceMethod m_Wo_init.1 ∈ q_gw := q_i 49 (by rfl)
set_option maxRecDepth 100000 in
theorem s_Ar_fillI : Jvm.Cond.static m_Ar_fillI.1 ∈ q_gw := q_i 55 (by rfl)
set_option maxRecDepth 100000 in
theorem i_Co_init : Jvm.Cond.instanceMethod m_Co_init.1 ∈ q_gw := q_i 59 (by rfl)
set_option maxRecDepth 100000 in
theorem i_Re_init : Jvm.Cond.instanceMethod m_Re_init.1 ∈ q_gw := q_i 117 (by rfl)
set_option maxRecDepth 100000 in
theorem i_Pa_init : Jvm.Cond.instanceMethod m_Pa_init.1 ∈ q_gw := q_i 124 (by rfl)
set_option maxRecDepth 100000 in
theorem i_Se_init : Jvm.Cond.instanceMethod m_Se_init.1 ∈ q_gw := q_i 176 (by rfl)
set_option maxRecDepth 100000 in
theorem i_Ss_init : Jvm.Cond.instanceMethod m_Ss_init.1 ∈ q_gw := q_i 182 (by rfl)
set_option maxRecDepth 100000 in
theorem i_St_init : Jvm.Cond.instanceMethod m_St_init.1 ∈ q_gw := q_i 196 (by rfl)
set_option maxRecDepth 100000 in
theorem i_S_wipe : Jvm.Cond.instanceMethod m_S_wipe.1 ∈ q_gw := q_i 274 (by rfl)
set_option maxRecDepth 100000 in
theorem v_S_wipe : Jvm.Cond.selects "StuckSearch" m_S_wipe.1 m_S_wipe.1 ∈ q_gw := q_i 275 (by rfl)
set_option maxRecDepth 100000 in
theorem i_S_process : Jvm.Cond.instanceMethod m_S_process.1 ∈ q_gw := q_i 278 (by rfl)
set_option maxRecDepth 100000 in
theorem v_S_process : Jvm.Cond.selects "StuckSearch" m_S_process.1 m_S_process.1 ∈ q_gw := q_i 279 (by rfl)
set_option maxRecDepth 100000 in
theorem i_Re_read : Jvm.Cond.instanceMethod m_Re_read.1 ∈ q_gw := q_i 283 (by rfl)
set_option maxRecDepth 100000 in
theorem v_Re_read : Jvm.Cond.selects "StuckSearch$TextReader" m_Re_read.1 m_Re_read.1 ∈ q_gw := q_is 0 (by rfl)
set_option maxRecDepth 100000 in
theorem i_Co_reset : Jvm.Cond.instanceMethod m_Co_reset.1 ∈ q_gw := q_i 287 (by rfl)
set_option maxRecDepth 100000 in
theorem v_Co_reset : Jvm.Cond.selects "StuckSearch$Course" m_Co_reset.1 m_Co_reset.1 ∈ q_gw := q_is 1 (by rfl)
set_option maxRecDepth 100000 in
theorem i_Re_beginText : Jvm.Cond.instanceMethod m_Re_beginText.1 ∈ q_gw := q_i 292 (by rfl)
set_option maxRecDepth 100000 in
theorem v_Re_beginText : Jvm.Cond.selects "StuckSearch$TextReader" m_Re_beginText.1 m_Re_beginText.1 ∈ q_gw := q_is 2 (by rfl)
set_option maxRecDepth 100000 in
theorem i_Pa_set : Jvm.Cond.instanceMethod m_Pa_set.1 ∈ q_gw := q_i 296 (by rfl)
set_option maxRecDepth 100000 in
theorem v_Pa_set : Jvm.Cond.selects "StuckSearch$Part" m_Pa_set.1 m_Pa_set.1 ∈ q_gw := q_is 3 (by rfl)
set_option maxRecDepth 100000 in
theorem i_Re_readNext : Jvm.Cond.instanceMethod m_Re_readNext.1 ∈ q_gw := q_i 300 (by rfl)
set_option maxRecDepth 100000 in
theorem v_Re_readNext : Jvm.Cond.selects "StuckSearch$TextReader" m_Re_readNext.1 m_Re_readNext.1 ∈ q_gw := q_is 4 (by rfl)
set_option maxRecDepth 100000 in
theorem i_Ta_byteAt : Jvm.Cond.instanceMethod m_Ta_byteAt.1 ∈ q_gw := q_i 304 (by rfl)
set_option maxRecDepth 100000 in
theorem v_Ta_byteAt : Jvm.Cond.selects "StuckSearch$Tape" m_Ta_byteAt.1 m_Ta_byteAt.1 ∈ q_gw := q_is 5 (by rfl)
set_option maxRecDepth 100000 in
theorem i_Re_endChoice : Jvm.Cond.instanceMethod m_Re_endChoice.1 ∈ q_gw := q_i 308 (by rfl)
set_option maxRecDepth 100000 in
theorem v_Re_endChoice : Jvm.Cond.selects "StuckSearch$TextReader" m_Re_endChoice.1 m_Re_endChoice.1 ∈ q_gw := q_is 6 (by rfl)
set_option maxRecDepth 100000 in
theorem i_Pa_addChoice : Jvm.Cond.instanceMethod m_Pa_addChoice.1 ∈ q_gw := q_i 312 (by rfl)
set_option maxRecDepth 100000 in
theorem v_Pa_addChoice : Jvm.Cond.selects "StuckSearch$Part" m_Pa_addChoice.1 m_Pa_addChoice.1 ∈ q_gw := q_is 7 (by rfl)
set_option maxRecDepth 100000 in
theorem i_Re_openText : Jvm.Cond.instanceMethod m_Re_openText.1 ∈ q_gw := q_i 316 (by rfl)
set_option maxRecDepth 100000 in
theorem v_Re_openText : Jvm.Cond.selects "StuckSearch$TextReader" m_Re_openText.1 m_Re_openText.1 ∈ q_gw := q_is 8 (by rfl)
set_option maxRecDepth 100000 in
theorem i_Re_meetFault : Jvm.Cond.instanceMethod m_Re_meetFault.1 ∈ q_gw := q_i 320 (by rfl)
set_option maxRecDepth 100000 in
theorem v_Re_meetFault : Jvm.Cond.selects "StuckSearch$TextReader" m_Re_meetFault.1 m_Re_meetFault.1 ∈ q_gw := q_is 9 (by rfl)
set_option maxRecDepth 100000 in
theorem i_Re_closeText : Jvm.Cond.instanceMethod m_Re_closeText.1 ∈ q_gw := q_i 324 (by rfl)
set_option maxRecDepth 100000 in
theorem v_Re_closeText : Jvm.Cond.selects "StuckSearch$TextReader" m_Re_closeText.1 m_Re_closeText.1 ∈ q_gw := q_is 10 (by rfl)
set_option maxRecDepth 100000 in
theorem i_Re_addThing : Jvm.Cond.instanceMethod m_Re_addThing.1 ∈ q_gw := q_i 328 (by rfl)
set_option maxRecDepth 100000 in
theorem v_Re_addThing : Jvm.Cond.selects "StuckSearch$TextReader" m_Re_addThing.1 m_Re_addThing.1 ∈ q_gw := q_is 11 (by rfl)
set_option maxRecDepth 100000 in
theorem i_Co_addSteps : Jvm.Cond.instanceMethod m_Co_addSteps.1 ∈ q_gw := q_i 332 (by rfl)
set_option maxRecDepth 100000 in
theorem v_Co_addSteps : Jvm.Cond.selects "StuckSearch$Course" m_Co_addSteps.1 m_Co_addSteps.1 ∈ q_gw := q_is 12 (by rfl)
set_option maxRecDepth 100000 in
theorem i_Pa_addBehind : Jvm.Cond.instanceMethod m_Pa_addBehind.1 ∈ q_gw := q_i 336 (by rfl)
set_option maxRecDepth 100000 in
theorem v_Pa_addBehind : Jvm.Cond.selects "StuckSearch$Part" m_Pa_addBehind.1 m_Pa_addBehind.1 ∈ q_gw := q_is 13 (by rfl)
set_option maxRecDepth 100000 in
theorem i_Re_readAct : Jvm.Cond.instanceMethod m_Re_readAct.1 ∈ q_gw := q_i 340 (by rfl)
set_option maxRecDepth 100000 in
theorem v_Re_readAct : Jvm.Cond.selects "StuckSearch$TextReader" m_Re_readAct.1 m_Re_readAct.1 ∈ q_gw := q_is 14 (by rfl)
set_option maxRecDepth 100000 in
theorem i_Co_isFull : Jvm.Cond.instanceMethod m_Co_isFull.1 ∈ q_gw := q_i 344 (by rfl)
set_option maxRecDepth 100000 in
theorem v_Co_isFull : Jvm.Cond.selects "StuckSearch$Course" m_Co_isFull.1 m_Co_isFull.1 ∈ q_gw := q_is 15 (by rfl)
set_option maxRecDepth 100000 in
theorem i_Re_readKind : Jvm.Cond.instanceMethod m_Re_readKind.1 ∈ q_gw := q_i 348 (by rfl)
set_option maxRecDepth 100000 in
theorem v_Re_readKind : Jvm.Cond.selects "StuckSearch$TextReader" m_Re_readKind.1 m_Re_readKind.1 ∈ q_gw := q_is 16 (by rfl)
set_option maxRecDepth 100000 in
theorem s_Re_takesFigure : Jvm.Cond.static m_Re_takesFigure.1 ∈ q_gw := q_i 351 (by rfl)
set_option maxRecDepth 100000 in
theorem i_Re_readFigure : Jvm.Cond.instanceMethod m_Re_readFigure.1 ∈ q_gw := q_i 355 (by rfl)
set_option maxRecDepth 100000 in
theorem v_Re_readFigure : Jvm.Cond.selects "StuckSearch$TextReader" m_Re_readFigure.1 m_Re_readFigure.1 ∈ q_gw := q_is 17 (by rfl)
set_option maxRecDepth 100000 in
theorem i_Co_addAct : Jvm.Cond.instanceMethod m_Co_addAct.1 ∈ q_gw := q_i 359 (by rfl)
set_option maxRecDepth 100000 in
theorem v_Co_addAct : Jvm.Cond.selects "StuckSearch$Course" m_Co_addAct.1 m_Co_addAct.1 ∈ q_gw := q_is 18 (by rfl)
set_option maxRecDepth 100000 in
theorem i_Co_finish : Jvm.Cond.instanceMethod m_Co_finish.1 ∈ q_gw := q_i 363 (by rfl)
set_option maxRecDepth 100000 in
theorem v_Co_finish : Jvm.Cond.selects "StuckSearch$Course" m_Co_finish.1 m_Co_finish.1 ∈ q_gw := q_is 19 (by rfl)
set_option maxRecDepth 100000 in
theorem i_S_beginAnew : Jvm.Cond.instanceMethod m_S_beginAnew.1 ∈ q_gw := q_i 367 (by rfl)
set_option maxRecDepth 100000 in
theorem v_S_beginAnew : Jvm.Cond.selects "StuckSearch" m_S_beginAnew.1 m_S_beginAnew.1 ∈ q_gw := q_is 20 (by rfl)
set_option maxRecDepth 100000 in
theorem i_Se_forget : Jvm.Cond.instanceMethod m_Se_forget.1 ∈ q_gw := q_i 371 (by rfl)
set_option maxRecDepth 100000 in
theorem v_Se_forget : Jvm.Cond.selects "StuckSearch$Search" m_Se_forget.1 m_Se_forget.1 ∈ q_gw := q_is 21 (by rfl)
set_option maxRecDepth 100000 in
theorem i_S_returnToFirst : Jvm.Cond.instanceMethod m_S_returnToFirst.1 ∈ q_gw := q_i 375 (by rfl)
set_option maxRecDepth 100000 in
theorem v_S_returnToFirst : Jvm.Cond.selects "StuckSearch" m_S_returnToFirst.1 m_S_returnToFirst.1 ∈ q_gw := q_is 22 (by rfl)
set_option maxRecDepth 100000 in
theorem i_Wo_putFirst : Jvm.Cond.instanceMethod m_Wo_putFirst.1 ∈ q_gw := q_i 379 (by rfl)
set_option maxRecDepth 100000 in
theorem v_Wo_putFirst : Jvm.Cond.selects "StuckSearch$World" m_Wo_putFirst.1 m_Wo_putFirst.1 ∈ q_gw := q_is 23 (by rfl)
set_option maxRecDepth 100000 in
theorem i_S_fault : Jvm.Cond.instanceMethod m_S_fault.1 ∈ q_gw := q_i 382 (by rfl)
set_option maxRecDepth 100000 in
theorem v_S_fault : Jvm.Cond.selects "StuckSearch" m_S_fault.1 m_S_fault.1 ∈ q_gw := q_i 383 (by rfl)
set_option maxRecDepth 100000 in
theorem i_S_faultAt : Jvm.Cond.instanceMethod m_S_faultAt.1 ∈ q_gw := q_i 386 (by rfl)
set_option maxRecDepth 100000 in
theorem v_S_faultAt : Jvm.Cond.selects "StuckSearch" m_S_faultAt.1 m_S_faultAt.1 ∈ q_gw := q_i 387 (by rfl)
set_option maxRecDepth 100000 in
theorem i_S_clear : Jvm.Cond.instanceMethod m_S_clear.1 ∈ q_gw := q_i 390 (by rfl)
set_option maxRecDepth 100000 in
theorem v_S_clear : Jvm.Cond.selects "StuckSearch" m_S_clear.1 m_S_clear.1 ∈ q_gw := q_i 391 (by rfl)
set_option maxRecDepth 100000 in
theorem i_Wo_removeAll : Jvm.Cond.instanceMethod m_Wo_removeAll.1 ∈ q_gw := q_i 395 (by rfl)
set_option maxRecDepth 100000 in
theorem v_Wo_removeAll : Jvm.Cond.selects "StuckSearch$World" m_Wo_removeAll.1 m_Wo_removeAll.1 ∈ q_gw := q_is 24 (by rfl)
set_option maxRecDepth 100000 in
theorem i_S_product : Jvm.Cond.instanceMethod m_S_product.1 ∈ q_gw := q_i 398 (by rfl)
set_option maxRecDepth 100000 in
theorem v_S_product : Jvm.Cond.selects "StuckSearch" m_S_product.1 m_S_product.1 ∈ q_gw := q_i 399 (by rfl)
set_option maxRecDepth 100000 in
theorem i_Wo_isSearchable : Jvm.Cond.instanceMethod m_Wo_isSearchable.1 ∈ q_gw := q_i 403 (by rfl)
set_option maxRecDepth 100000 in
theorem v_Wo_isSearchable : Jvm.Cond.selects "StuckSearch$World" m_Wo_isSearchable.1 m_Wo_isSearchable.1 ∈ q_gw := q_is 25 (by rfl)
set_option maxRecDepth 100000 in
theorem i_Wo_countStates : Jvm.Cond.instanceMethod m_Wo_countStates.1 ∈ q_gw := q_i 407 (by rfl)
set_option maxRecDepth 100000 in
theorem v_Wo_countStates : Jvm.Cond.selects "StuckSearch$World" m_Wo_countStates.1 m_Wo_countStates.1 ∈ q_gw := q_is 26 (by rfl)
set_option maxRecDepth 100000 in
theorem i_S_stuck : Jvm.Cond.instanceMethod m_S_stuck.1 ∈ q_gw := q_i 412 (by rfl)
set_option maxRecDepth 100000 in
theorem v_S_stuck : Jvm.Cond.selects "StuckSearch" m_S_stuck.1 m_S_stuck.1 ∈ q_gw := q_i 413 (by rfl)
set_option maxRecDepth 100000 in
theorem i_Se_findStanding : Jvm.Cond.instanceMethod m_Se_findStanding.1 ∈ q_gw := q_i 417 (by rfl)
set_option maxRecDepth 100000 in
theorem v_Se_findStanding : Jvm.Cond.selects "StuckSearch$Search" m_Se_findStanding.1 m_Se_findStanding.1 ∈ q_gw := q_is 27 (by rfl)
set_option maxRecDepth 100000 in
theorem i_Se_weigh : Jvm.Cond.instanceMethod m_Se_weigh.1 ∈ q_gw := q_i 421 (by rfl)
set_option maxRecDepth 100000 in
theorem v_Se_weigh : Jvm.Cond.selects "StuckSearch$Search" m_Se_weigh.1 m_Se_weigh.1 ∈ q_gw := q_is 28 (by rfl)
set_option maxRecDepth 100000 in
theorem i_Ss_empty : Jvm.Cond.instanceMethod m_Ss_empty.1 ∈ q_gw := q_i 425 (by rfl)
set_option maxRecDepth 100000 in
theorem v_Ss_empty : Jvm.Cond.selects "StuckSearch$StateSet" m_Ss_empty.1 m_Ss_empty.1 ∈ q_gw := q_is 29 (by rfl)
set_option maxRecDepth 100000 in
theorem s_Ar_fillJ : Jvm.Cond.static m_Ar_fillJ.1 ∈ q_gw := q_i 428 (by rfl)
set_option maxRecDepth 100000 in
theorem i_Wo_numberOf : Jvm.Cond.instanceMethod m_Wo_numberOf.1 ∈ q_gw := q_i 433 (by rfl)
set_option maxRecDepth 100000 in
theorem v_Wo_numberOf : Jvm.Cond.selects "StuckSearch$World" m_Wo_numberOf.1 m_Wo_numberOf.1 ∈ q_gw := q_is 30 (by rfl)
set_option maxRecDepth 100000 in
theorem i_Se_reach : Jvm.Cond.instanceMethod m_Se_reach.1 ∈ q_gw := q_i 437 (by rfl)
set_option maxRecDepth 100000 in
theorem v_Se_reach : Jvm.Cond.selects "StuckSearch$Search" m_Se_reach.1 m_Se_reach.1 ∈ q_gw := q_is 31 (by rfl)
set_option maxRecDepth 100000 in
theorem i_Ss_contains : Jvm.Cond.instanceMethod m_Ss_contains.1 ∈ q_gw := q_i 441 (by rfl)
set_option maxRecDepth 100000 in
theorem v_Ss_contains : Jvm.Cond.selects "StuckSearch$StateSet" m_Ss_contains.1 m_Ss_contains.1 ∈ q_gw := q_is 32 (by rfl)
set_option maxRecDepth 100000 in
theorem i_Ss_add : Jvm.Cond.instanceMethod m_Ss_add.1 ∈ q_gw := q_i 445 (by rfl)
set_option maxRecDepth 100000 in
theorem v_Ss_add : Jvm.Cond.selects "StuckSearch$StateSet" m_Ss_add.1 m_Ss_add.1 ∈ q_gw := q_is 33 (by rfl)
set_option maxRecDepth 100000 in
theorem i_Ss_takeLowest : Jvm.Cond.instanceMethod m_Ss_takeLowest.1 ∈ q_gw := q_i 449 (by rfl)
set_option maxRecDepth 100000 in
theorem v_Ss_takeLowest : Jvm.Cond.selects "StuckSearch$StateSet" m_Ss_takeLowest.1 m_Ss_takeLowest.1 ∈ q_gw := q_is 34 (by rfl)
set_option maxRecDepth 100000 in
theorem s_S_nthBit : Jvm.Cond.static m_S_nthBit.1 ∈ q_gw := q_i 452 (by rfl)
set_option maxRecDepth 100000 in
theorem s_Lo_bitCount : Jvm.Cond.static m_Lo_bitCount.1 ∈ q_gw := q_i 455 (by rfl)
set_option maxRecDepth 100000 in
theorem i_Se_lookAhead : Jvm.Cond.instanceMethod m_Se_lookAhead.1 ∈ q_gw := q_i 462 (by rfl)
set_option maxRecDepth 100000 in
theorem v_Se_lookAhead : Jvm.Cond.selects "StuckSearch$Search" m_Se_lookAhead.1 m_Se_lookAhead.1 ∈ q_gw := q_is 35 (by rfl)
set_option maxRecDepth 100000 in
theorem i_Wo_putNumbered : Jvm.Cond.instanceMethod m_Wo_putNumbered.1 ∈ q_gw := q_i 466 (by rfl)
set_option maxRecDepth 100000 in
theorem v_Wo_putNumbered : Jvm.Cond.selects "StuckSearch$World" m_Wo_putNumbered.1 m_Wo_putNumbered.1 ∈ q_gw := q_is 36 (by rfl)
set_option maxRecDepth 100000 in
theorem s_Ma_max : Jvm.Cond.static m_Ma_max.1 ∈ q_gw := q_i 469 (by rfl)
set_option maxRecDepth 100000 in
theorem i_Wo_openPlaces : Jvm.Cond.instanceMethod m_Wo_openPlaces.1 ∈ q_gw := q_i 473 (by rfl)
set_option maxRecDepth 100000 in
theorem v_Wo_openPlaces : Jvm.Cond.selects "StuckSearch$World" m_Wo_openPlaces.1 m_Wo_openPlaces.1 ∈ q_gw := q_is 37 (by rfl)
set_option maxRecDepth 100000 in
theorem i_Wo_outcome : Jvm.Cond.instanceMethod m_Wo_outcome.1 ∈ q_gw := q_i 477 (by rfl)
set_option maxRecDepth 100000 in
theorem v_Wo_outcome : Jvm.Cond.selects "StuckSearch$World" m_Wo_outcome.1 m_Wo_outcome.1 ∈ q_gw := q_is 38 (by rfl)
set_option maxRecDepth 100000 in
theorem i_Co_outcome : Jvm.Cond.instanceMethod m_Co_outcome.1 ∈ q_gw := q_i 481 (by rfl)
set_option maxRecDepth 100000 in
theorem v_Co_outcome : Jvm.Cond.selects "StuckSearch$Course" m_Co_outcome.1 m_Co_outcome.1 ∈ q_gw := q_is 39 (by rfl)
set_option maxRecDepth 100000 in
theorem i_Se_reachAll : Jvm.Cond.instanceMethod m_Se_reachAll.1 ∈ q_gw := q_i 485 (by rfl)
set_option maxRecDepth 100000 in
theorem v_Se_reachAll : Jvm.Cond.selects "StuckSearch$Search" m_Se_reachAll.1 m_Se_reachAll.1 ∈ q_gw := q_is 40 (by rfl)
set_option maxRecDepth 100000 in
theorem i_Wo_allAtEnds : Jvm.Cond.instanceMethod m_Wo_allAtEnds.1 ∈ q_gw := q_i 490 (by rfl)
set_option maxRecDepth 100000 in
theorem v_Wo_allAtEnds : Jvm.Cond.selects "StuckSearch$World" m_Wo_allAtEnds.1 m_Wo_allAtEnds.1 ∈ q_gw := q_is 41 (by rfl)
set_option maxRecDepth 100000 in
theorem i_Co_isEnd : Jvm.Cond.instanceMethod m_Co_isEnd.1 ∈ q_gw := q_i 494 (by rfl)
set_option maxRecDepth 100000 in
theorem v_Co_isEnd : Jvm.Cond.selects "StuckSearch$Course" m_Co_isEnd.1 m_Co_isEnd.1 ∈ q_gw := q_is 42 (by rfl)
set_option maxRecDepth 100000 in
theorem i_S_ended : Jvm.Cond.instanceMethod m_S_ended.1 ∈ q_gw := q_i 497 (by rfl)
set_option maxRecDepth 100000 in
theorem v_S_ended : Jvm.Cond.selects "StuckSearch" m_S_ended.1 m_S_ended.1 ∈ q_gw := q_i 498 (by rfl)
set_option maxRecDepth 100000 in
theorem i_S_moves : Jvm.Cond.instanceMethod m_S_moves.1 ∈ q_gw := q_i 501 (by rfl)
set_option maxRecDepth 100000 in
theorem v_S_moves : Jvm.Cond.selects "StuckSearch" m_S_moves.1 m_S_moves.1 ∈ q_gw := q_i 502 (by rfl)
set_option maxRecDepth 100000 in
theorem s_In_bitCount : Jvm.Cond.static m_In_bitCount.1 ∈ q_gw := q_i 506 (by rfl)
set_option maxRecDepth 100000 in
theorem i_S_restart : Jvm.Cond.instanceMethod m_S_restart.1 ∈ q_gw := q_i 512 (by rfl)
set_option maxRecDepth 100000 in
theorem v_S_restart : Jvm.Cond.selects "StuckSearch" m_S_restart.1 m_S_restart.1 ∈ q_gw := q_i 513 (by rfl)
set_option maxRecDepth 100000 in
theorem s_La_feed : Jvm.Cond.static m_La_feed.1 ∈ q_gw := q_i 516 (by rfl)
set_option maxRecDepth 100000 in
theorem i_S_feed : Jvm.Cond.instanceMethod m_S_feed.1 ∈ q_gw := q_i 520 (by rfl)
set_option maxRecDepth 100000 in
theorem v_S_feed : Jvm.Cond.selects "StuckSearch" m_S_feed.1 m_S_feed.1 ∈ q_gw := q_i 521 (by rfl)
set_option maxRecDepth 100000 in
theorem i_Ta_append : Jvm.Cond.instanceMethod m_Ta_append.1 ∈ q_gw := q_i 592 (by rfl)
set_option maxRecDepth 100000 in
theorem v_Ta_append : Jvm.Cond.selects "StuckSearch$Tape" m_Ta_append.1 m_Ta_append.1 ∈ q_gw := q_is 44 (by rfl)
set_option maxRecDepth 100000 in
theorem s_La_variable : Jvm.Cond.static m_La_variable.1 ∈ q_gw := q_i 595 (by rfl)
set_option maxRecDepth 100000 in
theorem i_S_variable : Jvm.Cond.instanceMethod m_S_variable.1 ∈ q_gw := q_i 598 (by rfl)
set_option maxRecDepth 100000 in
theorem v_S_variable : Jvm.Cond.selects "StuckSearch" m_S_variable.1 m_S_variable.1 ∈ q_gw := q_i 599 (by rfl)
set_option maxRecDepth 100000 in
theorem i_Wo_addVariable : Jvm.Cond.instanceMethod m_Wo_addVariable.1 ∈ q_gw := q_i 604 (by rfl)
set_option maxRecDepth 100000 in
theorem v_Wo_addVariable : Jvm.Cond.selects "StuckSearch$World" m_Wo_addVariable.1 m_Wo_addVariable.1 ∈ q_gw := q_is 45 (by rfl)
set_option maxRecDepth 100000 in
theorem s_La_told : Jvm.Cond.static m_La_told.1 ∈ q_gw := q_i 607 (by rfl)
set_option maxRecDepth 100000 in
theorem i_S_told : Jvm.Cond.instanceMethod m_S_told.1 ∈ q_gw := q_i 611 (by rfl)
set_option maxRecDepth 100000 in
theorem v_S_told : Jvm.Cond.selects "StuckSearch" m_S_told.1 m_S_told.1 ∈ q_gw := q_i 612 (by rfl)
set_option maxRecDepth 100000 in
theorem s_S_checkIndex : Jvm.Cond.static m_S_checkIndex.1 ∈ q_gw := q_i 615 (by rfl)
set_option maxRecDepth 100000 in
theorem i_Co_countSteps : Jvm.Cond.instanceMethod m_Co_countSteps.1 ∈ q_gw := q_i 635 (by rfl)
set_option maxRecDepth 100000 in
theorem v_Co_countSteps : Jvm.Cond.selects "StuckSearch$Course" m_Co_countSteps.1 m_Co_countSteps.1 ∈ q_gw := q_is 46 (by rfl)
set_option maxRecDepth 100000 in
theorem s_La_place : Jvm.Cond.static m_La_place.1 ∈ q_gw := q_i 640 (by rfl)
set_option maxRecDepth 100000 in
theorem i_S_place : Jvm.Cond.instanceMethod m_S_place.1 ∈ q_gw := q_i 644 (by rfl)
set_option maxRecDepth 100000 in
theorem v_S_place : Jvm.Cond.selects "StuckSearch" m_S_place.1 m_S_place.1 ∈ q_gw := q_i 645 (by rfl)
set_option maxRecDepth 100000 in
theorem i_S_checkSearchable : Jvm.Cond.instanceMethod m_S_checkSearchable.1 ∈ q_gw := q_i 649 (by rfl)
set_option maxRecDepth 100000 in
theorem v_S_checkSearchable : Jvm.Cond.selects "StuckSearch" m_S_checkSearchable.1 m_S_checkSearchable.1 ∈ q_gw := q_is 47 (by rfl)
set_option maxRecDepth 100000 in
theorem i_Se_standingState : Jvm.Cond.instanceMethod m_Se_standingState.1 ∈ q_gw := q_i 669 (by rfl)
set_option maxRecDepth 100000 in
theorem v_Se_standingState : Jvm.Cond.selects "StuckSearch$Search" m_Se_standingState.1 m_Se_standingState.1 ∈ q_gw := q_is 48 (by rfl)
set_option maxRecDepth 100000 in
theorem i_Ss_nth : Jvm.Cond.instanceMethod m_Ss_nth.1 ∈ q_gw := q_i 673 (by rfl)
set_option maxRecDepth 100000 in
theorem v_Ss_nth : Jvm.Cond.selects "StuckSearch$StateSet" m_Ss_nth.1 m_Ss_nth.1 ∈ q_gw := q_is 49 (by rfl)
set_option maxRecDepth 100000 in
theorem s_La_value : Jvm.Cond.static m_La_value.1 ∈ q_gw := q_i 677 (by rfl)
set_option maxRecDepth 100000 in
theorem i_S_value : Jvm.Cond.instanceMethod m_S_value.1 ∈ q_gw := q_i 680 (by rfl)
set_option maxRecDepth 100000 in
theorem v_S_value : Jvm.Cond.selects "StuckSearch" m_S_value.1 m_S_value.1 ∈ q_gw := q_i 681 (by rfl)
set_option maxRecDepth 100000 in
theorem s_La_move : Jvm.Cond.static m_La_move.1 ∈ q_gw := q_i 684 (by rfl)
set_option maxRecDepth 100000 in
theorem i_S_move : Jvm.Cond.instanceMethod m_S_move.1 ∈ q_gw := q_i 687 (by rfl)
set_option maxRecDepth 100000 in
theorem v_S_move : Jvm.Cond.selects "StuckSearch" m_S_move.1 m_S_move.1 ∈ q_gw := q_i 688 (by rfl)
set_option maxRecDepth 100000 in
theorem i_Wo_go : Jvm.Cond.instanceMethod m_Wo_go.1 ∈ q_gw := q_i 693 (by rfl)
set_option maxRecDepth 100000 in
theorem v_Wo_go : Jvm.Cond.selects "StuckSearch$World" m_Wo_go.1 m_Wo_go.1 ∈ q_gw := q_is 50 (by rfl)
set_option maxRecDepth 100000 in
theorem s_La_now : Jvm.Cond.static m_La_now.1 ∈ q_gw := q_i 697 (by rfl)
set_option maxRecDepth 100000 in
theorem i_S_now : Jvm.Cond.instanceMethod m_S_now.1 ∈ q_gw := q_i 700 (by rfl)
set_option maxRecDepth 100000 in
theorem v_S_now : Jvm.Cond.selects "StuckSearch" m_S_now.1 m_S_now.1 ∈ q_gw := q_i 701 (by rfl)
set_option maxRecDepth 100000 in
theorem s_La_has : Jvm.Cond.static m_La_has.1 ∈ q_gw := q_i 704 (by rfl)
set_option maxRecDepth 100000 in
theorem i_S_has : Jvm.Cond.instanceMethod m_S_has.1 ∈ q_gw := q_i 707 (by rfl)
set_option maxRecDepth 100000 in
theorem v_S_has : Jvm.Cond.selects "StuckSearch" m_S_has.1 m_S_has.1 ∈ q_gw := q_i 708 (by rfl)
set_option maxRecDepth 100000 in
theorem s_La_falls : Jvm.Cond.static m_La_falls.1 ∈ q_gw := q_i 711 (by rfl)
set_option maxRecDepth 100000 in
theorem i_S_falls : Jvm.Cond.instanceMethod m_S_falls.1 ∈ q_gw := q_i 714 (by rfl)
set_option maxRecDepth 100000 in
theorem v_S_falls : Jvm.Cond.selects "StuckSearch" m_S_falls.1 m_S_falls.1 ∈ q_gw := q_i 715 (by rfl)
set_option maxRecDepth 100000 in
theorem i_Se_findFalling : Jvm.Cond.instanceMethod m_Se_findFalling.1 ∈ q_gw := q_i 719 (by rfl)
set_option maxRecDepth 100000 in
theorem v_Se_findFalling : Jvm.Cond.selects "StuckSearch$Search" m_Se_findFalling.1 m_Se_findFalling.1 ∈ q_gw := q_is 51 (by rfl)
set_option maxRecDepth 100000 in
theorem i_Ss_copyFrom : Jvm.Cond.instanceMethod m_Ss_copyFrom.1 ∈ q_gw := q_i 724 (by rfl)
set_option maxRecDepth 100000 in
theorem v_Ss_copyFrom : Jvm.Cond.selects "StuckSearch$StateSet" m_Ss_copyFrom.1 m_Ss_copyFrom.1 ∈ q_gw := q_is 52 (by rfl)
set_option maxRecDepth 100000 in
theorem i_Se_lookBack : Jvm.Cond.instanceMethod m_Se_lookBack.1 ∈ q_gw := q_i 731 (by rfl)
set_option maxRecDepth 100000 in
theorem v_Se_lookBack : Jvm.Cond.selects "StuckSearch$Search" m_Se_lookBack.1 m_Se_lookBack.1 ∈ q_gw := q_is 53 (by rfl)
set_option maxRecDepth 100000 in
theorem i_Se_undoAct : Jvm.Cond.instanceMethod m_Se_undoAct.1 ∈ q_gw := q_i 735 (by rfl)
set_option maxRecDepth 100000 in
theorem v_Se_undoAct : Jvm.Cond.selects "StuckSearch$Search" m_Se_undoAct.1 m_Se_undoAct.1 ∈ q_gw := q_is 54 (by rfl)
set_option maxRecDepth 100000 in
theorem i_Se_undoStep : Jvm.Cond.instanceMethod m_Se_undoStep.1 ∈ q_gw := q_i 740 (by rfl)
set_option maxRecDepth 100000 in
theorem v_Se_undoStep : Jvm.Cond.selects "StuckSearch$Search" m_Se_undoStep.1 m_Se_undoStep.1 ∈ q_gw := q_is 55 (by rfl)
set_option maxRecDepth 100000 in
theorem i_Se_fall : Jvm.Cond.instanceMethod m_Se_fall.1 ∈ q_gw := q_i 744 (by rfl)
set_option maxRecDepth 100000 in
theorem v_Se_fall : Jvm.Cond.selects "StuckSearch$Search" m_Se_fall.1 m_Se_fall.1 ∈ q_gw := q_is 56 (by rfl)
set_option maxRecDepth 100000 in
theorem i_Mo_init : Jvm.Cond.instanceMethod m_Mo_init.1 ∈ q_gw := q_i 751 (by rfl)
set_option maxRecDepth 100000 in
theorem i_Mo_thrown : Jvm.Cond.instanceMethod m_Mo_thrown.1 ∈ q_gw := q_i 880 (by rfl)
set_option maxRecDepth 100000 in
theorem v_Mo_thrown : Jvm.Cond.selects "StuckSearchModel" m_Mo_thrown.1 m_Mo_thrown.1 ∈ q_gw := q_i 881 (by rfl)
set_option maxRecDepth 100000 in
theorem i_Mo_feed : Jvm.Cond.instanceMethod m_Mo_feed.1 ∈ q_gw := q_i 884 (by rfl)
set_option maxRecDepth 100000 in
theorem v_Mo_feed : Jvm.Cond.selects "StuckSearchModel" m_Mo_feed.1 m_Mo_feed.1 ∈ q_gw := q_i 885 (by rfl)
set_option maxRecDepth 100000 in
theorem i_Mo_wipe : Jvm.Cond.instanceMethod m_Mo_wipe.1 ∈ q_gw := q_i 889 (by rfl)
set_option maxRecDepth 100000 in
theorem v_Mo_wipe : Jvm.Cond.selects "StuckSearchModel" m_Mo_wipe.1 m_Mo_wipe.1 ∈ q_gw := q_i 890 (by rfl)
set_option maxRecDepth 100000 in
theorem i_Mo_variable : Jvm.Cond.instanceMethod m_Mo_variable.1 ∈ q_gw := q_i 893 (by rfl)
set_option maxRecDepth 100000 in
theorem v_Mo_variable : Jvm.Cond.selects "StuckSearchModel" m_Mo_variable.1 m_Mo_variable.1 ∈ q_gw := q_i 894 (by rfl)
set_option maxRecDepth 100000 in
theorem i_Mo_begin : Jvm.Cond.instanceMethod m_Mo_begin.1 ∈ q_gw := q_i 898 (by rfl)
set_option maxRecDepth 100000 in
theorem v_Mo_begin : Jvm.Cond.selects "StuckSearchModel" m_Mo_begin.1 m_Mo_begin.1 ∈ q_gw := q_is 57 (by rfl)
set_option maxRecDepth 100000 in
theorem i_Mo_clear : Jvm.Cond.instanceMethod m_Mo_clear.1 ∈ q_gw := q_i 901 (by rfl)
set_option maxRecDepth 100000 in
theorem v_Mo_clear : Jvm.Cond.selects "StuckSearchModel" m_Mo_clear.1 m_Mo_clear.1 ∈ q_gw := q_i 902 (by rfl)
set_option maxRecDepth 100000 in
theorem i_Mo_process : Jvm.Cond.instanceMethod m_Mo_process.1 ∈ q_gw := q_i 905 (by rfl)
set_option maxRecDepth 100000 in
theorem v_Mo_process : Jvm.Cond.selects "StuckSearchModel" m_Mo_process.1 m_Mo_process.1 ∈ q_gw := q_i 906 (by rfl)
set_option maxRecDepth 100000 in
theorem i_Mo_beginChoices : Jvm.Cond.instanceMethod m_Mo_beginChoices.1 ∈ q_gw := q_i 910 (by rfl)
set_option maxRecDepth 100000 in
theorem v_Mo_beginChoices : Jvm.Cond.selects "StuckSearchModel" m_Mo_beginChoices.1 m_Mo_beginChoices.1 ∈ q_gw := q_is 58 (by rfl)
set_option maxRecDepth 100000 in
theorem i_Mo_beginRow : Jvm.Cond.instanceMethod m_Mo_beginRow.1 ∈ q_gw := q_i 914 (by rfl)
set_option maxRecDepth 100000 in
theorem v_Mo_beginRow : Jvm.Cond.selects "StuckSearchModel" m_Mo_beginRow.1 m_Mo_beginRow.1 ∈ q_gw := q_is 59 (by rfl)
set_option maxRecDepth 100000 in
theorem i_Mo_step : Jvm.Cond.instanceMethod m_Mo_step.1 ∈ q_gw := q_i 918 (by rfl)
set_option maxRecDepth 100000 in
theorem v_Mo_step : Jvm.Cond.selects "StuckSearchModel" m_Mo_step.1 m_Mo_step.1 ∈ q_gw := q_is 60 (by rfl)
set_option maxRecDepth 100000 in
theorem i_Mo_byteAt : Jvm.Cond.instanceMethod m_Mo_byteAt.1 ∈ q_gw := q_i 922 (by rfl)
set_option maxRecDepth 100000 in
theorem v_Mo_byteAt : Jvm.Cond.selects "StuckSearchModel" m_Mo_byteAt.1 m_Mo_byteAt.1 ∈ q_gw := q_is 61 (by rfl)
set_option maxRecDepth 100000 in
theorem i_Mo_fail : Jvm.Cond.instanceMethod m_Mo_fail.1 ∈ q_gw := q_i 926 (by rfl)
set_option maxRecDepth 100000 in
theorem v_Mo_fail : Jvm.Cond.selects "StuckSearchModel" m_Mo_fail.1 m_Mo_fail.1 ∈ q_gw := q_is 62 (by rfl)
set_option maxRecDepth 100000 in
theorem i_Mo_endRow : Jvm.Cond.instanceMethod m_Mo_endRow.1 ∈ q_gw := q_i 930 (by rfl)
set_option maxRecDepth 100000 in
theorem v_Mo_endRow : Jvm.Cond.selects "StuckSearchModel" m_Mo_endRow.1 m_Mo_endRow.1 ∈ q_gw := q_is 63 (by rfl)
set_option maxRecDepth 100000 in
theorem i_Mo_take : Jvm.Cond.instanceMethod m_Mo_take.1 ∈ q_gw := q_i 934 (by rfl)
set_option maxRecDepth 100000 in
theorem v_Mo_take : Jvm.Cond.selects "StuckSearchModel" m_Mo_take.1 m_Mo_take.1 ∈ q_gw := q_is 64 (by rfl)
set_option maxRecDepth 100000 in
theorem i_Mo_lead : Jvm.Cond.instanceMethod m_Mo_lead.1 ∈ q_gw := q_i 938 (by rfl)
set_option maxRecDepth 100000 in
theorem v_Mo_lead : Jvm.Cond.selects "StuckSearchModel" m_Mo_lead.1 m_Mo_lead.1 ∈ q_gw := q_is 65 (by rfl)
set_option maxRecDepth 100000 in
theorem i_Mo_readAct : Jvm.Cond.instanceMethod m_Mo_readAct.1 ∈ q_gw := q_i 942 (by rfl)
set_option maxRecDepth 100000 in
theorem v_Mo_readAct : Jvm.Cond.selects "StuckSearchModel" m_Mo_readAct.1 m_Mo_readAct.1 ∈ q_gw := q_is 66 (by rfl)
set_option maxRecDepth 100000 in
theorem i_Mo_act : Jvm.Cond.instanceMethod m_Mo_act.1 ∈ q_gw := q_i 946 (by rfl)
set_option maxRecDepth 100000 in
theorem v_Mo_act : Jvm.Cond.selects "StuckSearchModel" m_Mo_act.1 m_Mo_act.1 ∈ q_gw := q_is 67 (by rfl)
set_option maxRecDepth 100000 in
theorem i_Mo_fault : Jvm.Cond.instanceMethod m_Mo_fault.1 ∈ q_gw := q_i 949 (by rfl)
set_option maxRecDepth 100000 in
theorem v_Mo_fault : Jvm.Cond.selects "StuckSearchModel" m_Mo_fault.1 m_Mo_fault.1 ∈ q_gw := q_i 950 (by rfl)
set_option maxRecDepth 100000 in
theorem i_Mo_faultAt : Jvm.Cond.instanceMethod m_Mo_faultAt.1 ∈ q_gw := q_i 953 (by rfl)
set_option maxRecDepth 100000 in
theorem v_Mo_faultAt : Jvm.Cond.selects "StuckSearchModel" m_Mo_faultAt.1 m_Mo_faultAt.1 ∈ q_gw := q_i 954 (by rfl)
set_option maxRecDepth 100000 in
theorem i_Mo_told : Jvm.Cond.instanceMethod m_Mo_told.1 ∈ q_gw := q_i 957 (by rfl)
set_option maxRecDepth 100000 in
theorem v_Mo_told : Jvm.Cond.selects "StuckSearchModel" m_Mo_told.1 m_Mo_told.1 ∈ q_gw := q_i 958 (by rfl)
set_option maxRecDepth 100000 in
theorem i_Mo_noProcess : Jvm.Cond.instanceMethod m_Mo_noProcess.1 ∈ q_gw := q_i 962 (by rfl)
set_option maxRecDepth 100000 in
theorem v_Mo_noProcess : Jvm.Cond.selects "StuckSearchModel" m_Mo_noProcess.1 m_Mo_noProcess.1 ∈ q_gw := q_is 68 (by rfl)
set_option maxRecDepth 100000 in
theorem s_Mo_ones : Jvm.Cond.static m_Mo_ones.1 ∈ q_gw := q_i 965 (by rfl)
set_option maxRecDepth 100000 in
theorem i_Mo_moves : Jvm.Cond.instanceMethod m_Mo_moves.1 ∈ q_gw := q_i 968 (by rfl)
set_option maxRecDepth 100000 in
theorem v_Mo_moves : Jvm.Cond.selects "StuckSearchModel" m_Mo_moves.1 m_Mo_moves.1 ∈ q_gw := q_i 969 (by rfl)
set_option maxRecDepth 100000 in
theorem i_Mo_fromNow : Jvm.Cond.instanceMethod m_Mo_fromNow.1 ∈ q_gw := q_i 973 (by rfl)
set_option maxRecDepth 100000 in
theorem v_Mo_fromNow : Jvm.Cond.selects "StuckSearchModel" m_Mo_fromNow.1 m_Mo_fromNow.1 ∈ q_gw := q_is 69 (by rfl)
set_option maxRecDepth 100000 in
theorem i_Mo_possible : Jvm.Cond.instanceMethod m_Mo_possible.1 ∈ q_gw := q_i 977 (by rfl)
set_option maxRecDepth 100000 in
theorem v_Mo_possible : Jvm.Cond.selects "StuckSearchModel" m_Mo_possible.1 m_Mo_possible.1 ∈ q_gw := q_is 70 (by rfl)
set_option maxRecDepth 100000 in
theorem i_Mo_goes : Jvm.Cond.instanceMethod m_Mo_goes.1 ∈ q_gw := q_i 981 (by rfl)
set_option maxRecDepth 100000 in
theorem v_Mo_goes : Jvm.Cond.selects "StuckSearchModel" m_Mo_goes.1 m_Mo_goes.1 ∈ q_gw := q_is 71 (by rfl)
set_option maxRecDepth 100000 in
theorem i_Mo_move : Jvm.Cond.instanceMethod m_Mo_move.1 ∈ q_gw := q_i 984 (by rfl)
set_option maxRecDepth 100000 in
theorem v_Mo_move : Jvm.Cond.selects "StuckSearchModel" m_Mo_move.1 m_Mo_move.1 ∈ q_gw := q_i 985 (by rfl)
set_option maxRecDepth 100000 in
theorem i_Mo_restart : Jvm.Cond.instanceMethod m_Mo_restart.1 ∈ q_gw := q_i 988 (by rfl)
set_option maxRecDepth 100000 in
theorem v_Mo_restart : Jvm.Cond.selects "StuckSearchModel" m_Mo_restart.1 m_Mo_restart.1 ∈ q_gw := q_i 989 (by rfl)
set_option maxRecDepth 100000 in
theorem i_Mo_now : Jvm.Cond.instanceMethod m_Mo_now.1 ∈ q_gw := q_i 992 (by rfl)
set_option maxRecDepth 100000 in
theorem v_Mo_now : Jvm.Cond.selects "StuckSearchModel" m_Mo_now.1 m_Mo_now.1 ∈ q_gw := q_i 993 (by rfl)
set_option maxRecDepth 100000 in
theorem i_Mo_has : Jvm.Cond.instanceMethod m_Mo_has.1 ∈ q_gw := q_i 996 (by rfl)
set_option maxRecDepth 100000 in
theorem v_Mo_has : Jvm.Cond.selects "StuckSearchModel" m_Mo_has.1 m_Mo_has.1 ∈ q_gw := q_i 997 (by rfl)
set_option maxRecDepth 100000 in
theorem i_Mo_product : Jvm.Cond.instanceMethod m_Mo_product.1 ∈ q_gw := q_i 1000 (by rfl)
set_option maxRecDepth 100000 in
theorem v_Mo_product : Jvm.Cond.selects "StuckSearchModel" m_Mo_product.1 m_Mo_product.1 ∈ q_gw := q_i 1001 (by rfl)
set_option maxRecDepth 100000 in
theorem i_Mo_stuck : Jvm.Cond.instanceMethod m_Mo_stuck.1 ∈ q_gw := q_i 1004 (by rfl)
set_option maxRecDepth 100000 in
theorem v_Mo_stuck : Jvm.Cond.selects "StuckSearchModel" m_Mo_stuck.1 m_Mo_stuck.1 ∈ q_gw := q_i 1005 (by rfl)
set_option maxRecDepth 100000 in
theorem i_Mo_know : Jvm.Cond.instanceMethod m_Mo_know.1 ∈ q_gw := q_i 1010 (by rfl)
set_option maxRecDepth 100000 in
theorem v_Mo_know : Jvm.Cond.selects "StuckSearchModel" m_Mo_know.1 m_Mo_know.1 ∈ q_gw := q_is 72 (by rfl)
set_option maxRecDepth 100000 in
theorem i_Mo_number : Jvm.Cond.instanceMethod m_Mo_number.1 ∈ q_gw := q_i 1014 (by rfl)
set_option maxRecDepth 100000 in
theorem v_Mo_number : Jvm.Cond.selects "StuckSearchModel" m_Mo_number.1 m_Mo_number.1 ∈ q_gw := q_is 73 (by rfl)
set_option maxRecDepth 100000 in
theorem i_Mo_walk : Jvm.Cond.instanceMethod m_Mo_walk.1 ∈ q_gw := q_i 1018 (by rfl)
set_option maxRecDepth 100000 in
theorem v_Mo_walk : Jvm.Cond.selects "StuckSearchModel" m_Mo_walk.1 m_Mo_walk.1 ∈ q_gw := q_is 74 (by rfl)
set_option maxRecDepth 100000 in
theorem i_Mo_apart : Jvm.Cond.instanceMethod m_Mo_apart.1 ∈ q_gw := q_i 1022 (by rfl)
set_option maxRecDepth 100000 in
theorem v_Mo_apart : Jvm.Cond.selects "StuckSearchModel" m_Mo_apart.1 m_Mo_apart.1 ∈ q_gw := q_is 75 (by rfl)
set_option maxRecDepth 100000 in
theorem i_Mo_ended : Jvm.Cond.instanceMethod m_Mo_ended.1 ∈ q_gw := q_i 1025 (by rfl)
set_option maxRecDepth 100000 in
theorem v_Mo_ended : Jvm.Cond.selects "StuckSearchModel" m_Mo_ended.1 m_Mo_ended.1 ∈ q_gw := q_i 1026 (by rfl)
set_option maxRecDepth 100000 in
theorem i_Mo_place : Jvm.Cond.instanceMethod m_Mo_place.1 ∈ q_gw := q_i 1029 (by rfl)
set_option maxRecDepth 100000 in
theorem v_Mo_place : Jvm.Cond.selects "StuckSearchModel" m_Mo_place.1 m_Mo_place.1 ∈ q_gw := q_i 1030 (by rfl)
set_option maxRecDepth 100000 in
theorem i_Mo_value : Jvm.Cond.instanceMethod m_Mo_value.1 ∈ q_gw := q_i 1033 (by rfl)
set_option maxRecDepth 100000 in
theorem v_Mo_value : Jvm.Cond.selects "StuckSearchModel" m_Mo_value.1 m_Mo_value.1 ∈ q_gw := q_i 1034 (by rfl)
set_option maxRecDepth 100000 in
theorem i_Mo_falls : Jvm.Cond.instanceMethod m_Mo_falls.1 ∈ q_gw := q_i 1037 (by rfl)
set_option maxRecDepth 100000 in
theorem v_Mo_falls : Jvm.Cond.selects "StuckSearchModel" m_Mo_falls.1 m_Mo_falls.1 ∈ q_gw := q_i 1038 (by rfl)
set_option maxRecDepth 100000 in
theorem f_S_10 : q_F "StuckSearch" 10 0 0 true := ⟨("StuckSearch", q_T0, 6), rfl, (by decide), rfl, rfl, Or.inl (q_i 254 (by rfl))⟩
set_option maxRecDepth 100000 in
theorem f_S_19 : q_F "StuckSearch" 19 0 1 true := ⟨("StuckSearch", q_T0, 6), rfl, (by decide), rfl, rfl, Or.inl (q_i 255 (by rfl))⟩
set_option maxRecDepth 100000 in
theorem f_S_28 : q_F "StuckSearch" 28 0 2 true := ⟨("StuckSearch", q_T0, 6), rfl, (by decide), rfl, rfl, Or.inl (q_i 256 (by rfl))⟩
set_option maxRecDepth 100000 in
theorem f_S_37 : q_F "StuckSearch" 37 0 3 true := ⟨("StuckSearch", q_T0, 6), rfl, (by decide), rfl, rfl, Or.inl (q_i 257 (by rfl))⟩
set_option maxRecDepth 100000 in
theorem f_S_44 : q_F "StuckSearch" 44 0 4 true := ⟨("StuckSearch", q_T0, 6), rfl, (by decide), rfl, rfl, Or.inl (q_i 258 (by rfl))⟩
set_option maxRecDepth 100000 in
theorem f_S_59 : q_F "StuckSearch" 59 1 1 false := ⟨("StuckSearch$Tape", q_T1, 2), rfl, (by decide), rfl, rfl, Or.inr ⟨"StuckSearch", q_i 38 (by rfl)⟩⟩
set_option maxRecDepth 100000 in
theorem f_S_65 : q_F "StuckSearch" 65 2 2 false := ⟨("StuckSearch$World", q_T2, 5), rfl, (by decide), rfl, rfl, Or.inr ⟨"StuckSearch", q_i 95 (by rfl)⟩⟩
set_option maxRecDepth 100000 in
theorem f_S_75 : q_F "StuckSearch" 75 2 4 false := ⟨("StuckSearch$World", q_T2, 5), rfl, (by decide), rfl, rfl, Or.inr ⟨"StuckSearch", q_i 101 (by rfl)⟩⟩
set_option maxRecDepth 100000 in
theorem f_S_78 : q_F "StuckSearch" 78 2 3 true := ⟨("StuckSearch$World", q_T2, 5), rfl, (by decide), rfl, rfl, Or.inr ⟨"StuckSearch", q_i 98 (by rfl)⟩⟩
set_option maxRecDepth 100000 in
theorem f_S_86 : q_F "StuckSearch" 86 4 7 false := ⟨("StuckSearch$TextReader", q_T4, 9), rfl, (by decide), rfl, rfl, Or.inr ⟨"StuckSearch", q_i 151 (by rfl)⟩⟩
set_option maxRecDepth 100000 in
theorem f_S_89 : q_F "StuckSearch" 89 4 8 false := ⟨("StuckSearch$TextReader", q_T4, 9), rfl, (by decide), rfl, rfl, Or.inr ⟨"StuckSearch", q_i 153 (by rfl)⟩⟩
set_option maxRecDepth 100000 in
theorem f_S_98 : q_F "StuckSearch" 98 3 0 false := ⟨("StuckSearch$Course", q_T3, 6), rfl, (by decide), rfl, rfl, Or.inr ⟨"StuckSearch", q_i 65 (by rfl)⟩⟩
set_option maxRecDepth 100000 in
theorem f_S_107 : q_F "StuckSearch" 107 3 1 false := ⟨("StuckSearch$Course", q_T3, 6), rfl, (by decide), rfl, rfl, Or.inr ⟨"StuckSearch", q_i 67 (by rfl)⟩⟩
set_option maxRecDepth 100000 in
theorem f_S_129 : q_F "StuckSearch" 129 6 8 false := ⟨("StuckSearch$Search", q_T6, 12), rfl, (by decide), rfl, rfl, Or.inr ⟨"StuckSearch", q_i 222 (by rfl)⟩⟩
set_option maxRecDepth 100000 in
theorem f_S_132 : q_F "StuckSearch" 132 6 9 false := ⟨("StuckSearch$Search", q_T6, 12), rfl, (by decide), rfl, rfl, Or.inr ⟨"StuckSearch", q_i 224 (by rfl)⟩⟩
set_option maxRecDepth 100000 in
theorem f_S_142 : q_F "StuckSearch" 142 8 0 true := ⟨("StuckSearch$State", q_T8, 2), rfl, (by decide), rfl, rfl, Or.inr ⟨"StuckSearch", q_i 202 (by rfl)⟩⟩
set_option maxRecDepth 100000 in
theorem f_S_146 : q_F "StuckSearch" 146 8 1 true := ⟨("StuckSearch$State", q_T8, 2), rfl, (by decide), rfl, rfl, Or.inr ⟨"StuckSearch", q_i 206 (by rfl)⟩⟩
set_option maxRecDepth 100000 in
theorem f_S_161 : q_F "StuckSearch" 161 0 5 false := ⟨("StuckSearch", q_T0, 6), rfl, (by decide), rfl, rfl, Or.inl (q_i 259 (by rfl))⟩
set_option maxRecDepth 100000 in
theorem f_S_175 : q_F "StuckSearch" 175 6 3 true := ⟨("StuckSearch$Search", q_T6, 12), rfl, (by decide), rfl, rfl, Or.inr ⟨"StuckSearch", q_i 216 (by rfl)⟩⟩
set_option maxRecDepth 100000 in
theorem f_Co_9 : q_F "StuckSearch$Course" 9 3 0 false := ⟨("StuckSearch$Course", q_T3, 6), rfl, (by decide), rfl, rfl, Or.inl (q_i 62 (by rfl))⟩
set_option maxRecDepth 100000 in
theorem f_Co_15 : q_F "StuckSearch$Course" 15 3 2 true := ⟨("StuckSearch$Course", q_T3, 6), rfl, (by decide), rfl, rfl, Or.inl (q_i 68 (by rfl))⟩
set_option maxRecDepth 100000 in
theorem f_Co_19 : q_F "StuckSearch$Course" 19 3 3 true := ⟨("StuckSearch$Course", q_T3, 6), rfl, (by decide), rfl, rfl, Or.inl (q_i 71 (by rfl))⟩
set_option maxRecDepth 100000 in
theorem f_Co_22 : q_F "StuckSearch$Course" 22 3 4 true := ⟨("StuckSearch$Course", q_T3, 6), rfl, (by decide), rfl, rfl, Or.inl (q_i 72 (by rfl))⟩
set_option maxRecDepth 100000 in
theorem f_Co_25 : q_F "StuckSearch$Course" 25 3 5 true := ⟨("StuckSearch$Course", q_T3, 6), rfl, (by decide), rfl, rfl, Or.inl (q_i 75 (by rfl))⟩
set_option maxRecDepth 100000 in
theorem f_Co_28 : q_F "StuckSearch$Course" 28 3 1 false := ⟨("StuckSearch$Course", q_T3, 6), rfl, (by decide), rfl, rfl, Or.inl (q_i 66 (by rfl))⟩
set_option maxRecDepth 100000 in
theorem f_Co_37 : q_F "StuckSearch$Course" 37 5 1 false := ⟨("StuckSearch$Part", q_T5, 3), rfl, (by decide), rfl, rfl, Or.inr ⟨"StuckSearch", q_i 131 (by rfl)⟩⟩
set_option maxRecDepth 100000 in
theorem f_Co_42 : q_F "StuckSearch$Course" 42 5 2 false := ⟨("StuckSearch$Part", q_T5, 3), rfl, (by decide), rfl, rfl, Or.inr ⟨"StuckSearch", q_i 134 (by rfl)⟩⟩
set_option maxRecDepth 100000 in
theorem f_Co_45 : q_F "StuckSearch$Course" 45 5 0 false := ⟨("StuckSearch$Part", q_T5, 3), rfl, (by decide), rfl, rfl, Or.inr ⟨"StuckSearch", q_i 128 (by rfl)⟩⟩
set_option maxRecDepth 100000 in
theorem f_Pa_7 : q_F "StuckSearch$Part" 7 5 0 false := ⟨("StuckSearch$Part", q_T5, 3), rfl, (by decide), rfl, rfl, Or.inl (q_i 127 (by rfl))⟩
set_option maxRecDepth 100000 in
theorem f_Pa_13 : q_F "StuckSearch$Part" 13 5 1 false := ⟨("StuckSearch$Part", q_T5, 3), rfl, (by decide), rfl, rfl, Or.inl (q_i 130 (by rfl))⟩
set_option maxRecDepth 100000 in
theorem f_Pa_17 : q_F "StuckSearch$Part" 17 5 2 false := ⟨("StuckSearch$Part", q_T5, 3), rfl, (by decide), rfl, rfl, Or.inl (q_i 133 (by rfl))⟩
set_option maxRecDepth 100000 in
theorem f_Se_12 : q_F "StuckSearch$Search" 12 6 1 true := ⟨("StuckSearch$Search", q_T6, 12), rfl, (by decide), rfl, rfl, Or.inl (q_i 213 (by rfl))⟩
set_option maxRecDepth 100000 in
theorem f_Se_18 : q_F "StuckSearch$Search" 18 6 2 true := ⟨("StuckSearch$Search", q_T6, 12), rfl, (by decide), rfl, rfl, Or.inl (q_i 214 (by rfl))⟩
set_option maxRecDepth 100000 in
theorem f_Se_21 : q_F "StuckSearch$Search" 21 6 3 true := ⟨("StuckSearch$Search", q_T6, 12), rfl, (by decide), rfl, rfl, Or.inl (q_i 215 (by rfl))⟩
set_option maxRecDepth 100000 in
theorem f_Se_24 : q_F "StuckSearch$Search" 24 6 4 true := ⟨("StuckSearch$Search", q_T6, 12), rfl, (by decide), rfl, rfl, Or.inl (q_i 217 (by rfl))⟩
set_option maxRecDepth 100000 in
theorem f_Se_30 : q_F "StuckSearch$Search" 30 6 5 true := ⟨("StuckSearch$Search", q_T6, 12), rfl, (by decide), rfl, rfl, Or.inl (q_i 218 (by rfl))⟩
set_option maxRecDepth 100000 in
theorem f_Se_34 : q_F "StuckSearch$Search" 34 6 6 true := ⟨("StuckSearch$Search", q_T6, 12), rfl, (by decide), rfl, rfl, Or.inl (q_i 219 (by rfl))⟩
set_option maxRecDepth 100000 in
theorem f_Se_38 : q_F "StuckSearch$Search" 38 6 7 true := ⟨("StuckSearch$Search", q_T6, 12), rfl, (by decide), rfl, rfl, Or.inl (q_i 220 (by rfl))⟩
set_option maxRecDepth 100000 in
theorem f_Se_41 : q_F "StuckSearch$Search" 41 6 0 true := ⟨("StuckSearch$Search", q_T6, 12), rfl, (by decide), rfl, rfl, Or.inl (q_i 212 (by rfl))⟩
set_option maxRecDepth 100000 in
theorem f_Se_45 : q_F "StuckSearch$Search" 45 6 10 false := ⟨("StuckSearch$Search", q_T6, 12), rfl, (by decide), rfl, rfl, Or.inl (q_i 225 (by rfl))⟩
set_option maxRecDepth 100000 in
theorem f_Se_49 : q_F "StuckSearch$Search" 49 6 11 false := ⟨("StuckSearch$Search", q_T6, 12), rfl, (by decide), rfl, rfl, Or.inl (q_i 226 (by rfl))⟩
set_option maxRecDepth 100000 in
theorem f_Se_58 : q_F "StuckSearch$Search" 58 6 8 false := ⟨("StuckSearch$Search", q_T6, 12), rfl, (by decide), rfl, rfl, Or.inl (q_i 221 (by rfl))⟩
set_option maxRecDepth 100000 in
theorem f_Se_62 : q_F "StuckSearch$Search" 62 6 9 false := ⟨("StuckSearch$Search", q_T6, 12), rfl, (by decide), rfl, rfl, Or.inl (q_i 223 (by rfl))⟩
set_option maxRecDepth 100000 in
theorem f_Se_104 : q_F "StuckSearch$Search" 104 2 0 true := ⟨("StuckSearch$World", q_T2, 5), rfl, (by decide), rfl, rfl, Or.inr ⟨"StuckSearch", q_i 91 (by rfl)⟩⟩
set_option maxRecDepth 100000 in
theorem f_Se_107 : q_F "StuckSearch$Search" 107 2 4 false := ⟨("StuckSearch$World", q_T2, 5), rfl, (by decide), rfl, rfl, Or.inr ⟨"StuckSearch", q_i 102 (by rfl)⟩⟩
set_option maxRecDepth 100000 in
theorem f_Se_110 : q_F "StuckSearch$Search" 110 2 3 true := ⟨("StuckSearch$World", q_T2, 5), rfl, (by decide), rfl, rfl, Or.inr ⟨"StuckSearch", q_i 99 (by rfl)⟩⟩
set_option maxRecDepth 100000 in
theorem f_Se_114 : q_F "StuckSearch$Search" 114 3 0 false := ⟨("StuckSearch$Course", q_T3, 6), rfl, (by decide), rfl, rfl, Or.inr ⟨"StuckSearch", q_i 64 (by rfl)⟩⟩
set_option maxRecDepth 100000 in
theorem f_Se_138 : q_F "StuckSearch$Search" 138 3 4 true := ⟨("StuckSearch$Course", q_T3, 6), rfl, (by decide), rfl, rfl, Or.inr ⟨"StuckSearch", q_i 74 (by rfl)⟩⟩
set_option maxRecDepth 100000 in
theorem f_Se_145 : q_F "StuckSearch$Search" 145 8 1 true := ⟨("StuckSearch$State", q_T8, 2), rfl, (by decide), rfl, rfl, Or.inr ⟨"StuckSearch", q_i 205 (by rfl)⟩⟩
set_option maxRecDepth 100000 in
theorem f_Se_148 : q_F "StuckSearch$Search" 148 8 0 true := ⟨("StuckSearch$State", q_T8, 2), rfl, (by decide), rfl, rfl, Or.inr ⟨"StuckSearch", q_i 201 (by rfl)⟩⟩
set_option maxRecDepth 100000 in
theorem f_Se_160 : q_F "StuckSearch$Search" 160 3 2 true := ⟨("StuckSearch$Course", q_T3, 6), rfl, (by decide), rfl, rfl, Or.inr ⟨"StuckSearch", q_i 70 (by rfl)⟩⟩
set_option maxRecDepth 100000 in
theorem f_St_9 : q_F "StuckSearch$State" 9 8 0 true := ⟨("StuckSearch$State", q_T8, 2), rfl, (by decide), rfl, rfl, Or.inl (q_i 199 (by rfl))⟩
set_option maxRecDepth 100000 in
theorem f_St_15 : q_F "StuckSearch$State" 15 8 1 true := ⟨("StuckSearch$State", q_T8, 2), rfl, (by decide), rfl, rfl, Or.inl (q_i 203 (by rfl))⟩
set_option maxRecDepth 100000 in
theorem f_Ss_11 : q_F "StuckSearch$StateSet" 11 7 0 true := ⟨("StuckSearch$StateSet", q_T7, 2), rfl, (by decide), rfl, rfl, Or.inl (q_i 185 (by rfl))⟩
set_option maxRecDepth 100000 in
theorem f_Ss_15 : q_F "StuckSearch$StateSet" 15 7 1 false := ⟨("StuckSearch$StateSet", q_T7, 2), rfl, (by decide), rfl, rfl, Or.inl (q_i 186 (by rfl))⟩
set_option maxRecDepth 100000 in
theorem f_Ta_9 : q_F "StuckSearch$Tape" 9 1 0 true := ⟨("StuckSearch$Tape", q_T1, 2), rfl, (by decide), rfl, rfl, Or.inl (q_i 36 (by rfl))⟩
set_option maxRecDepth 100000 in
theorem f_Ta_15 : q_F "StuckSearch$Tape" 15 1 1 false := ⟨("StuckSearch$Tape", q_T1, 2), rfl, (by decide), rfl, rfl, Or.inl (q_i 37 (by rfl))⟩
set_option maxRecDepth 100000 in
theorem f_Re_11 : q_F "StuckSearch$TextReader" 11 4 2 true := ⟨("StuckSearch$TextReader", q_T4, 9), rfl, (by decide), rfl, rfl, Or.inl (q_i 145 (by rfl))⟩
set_option maxRecDepth 100000 in
theorem f_Re_17 : q_F "StuckSearch$TextReader" 17 4 3 true := ⟨("StuckSearch$TextReader", q_T4, 9), rfl, (by decide), rfl, rfl, Or.inl (q_i 146 (by rfl))⟩
set_option maxRecDepth 100000 in
theorem f_Re_21 : q_F "StuckSearch$TextReader" 21 4 4 true := ⟨("StuckSearch$TextReader", q_T4, 9), rfl, (by decide), rfl, rfl, Or.inl (q_i 147 (by rfl))⟩
set_option maxRecDepth 100000 in
theorem f_Re_25 : q_F "StuckSearch$TextReader" 25 4 8 false := ⟨("StuckSearch$TextReader", q_T4, 9), rfl, (by decide), rfl, rfl, Or.inl (q_i 152 (by rfl))⟩
set_option maxRecDepth 100000 in
theorem f_Re_29 : q_F "StuckSearch$TextReader" 29 4 0 true := ⟨("StuckSearch$TextReader", q_T4, 9), rfl, (by decide), rfl, rfl, Or.inl (q_i 143 (by rfl))⟩
set_option maxRecDepth 100000 in
theorem f_Re_33 : q_F "StuckSearch$TextReader" 33 4 1 true := ⟨("StuckSearch$TextReader", q_T4, 9), rfl, (by decide), rfl, rfl, Or.inl (q_i 144 (by rfl))⟩
set_option maxRecDepth 100000 in
theorem f_Re_37 : q_F "StuckSearch$TextReader" 37 4 7 false := ⟨("StuckSearch$TextReader", q_T4, 9), rfl, (by decide), rfl, rfl, Or.inl (q_i 150 (by rfl))⟩
set_option maxRecDepth 100000 in
theorem f_Re_40 : q_F "StuckSearch$TextReader" 40 4 6 false := ⟨("StuckSearch$TextReader", q_T4, 9), rfl, (by decide), rfl, rfl, Or.inl (q_i 149 (by rfl))⟩
set_option maxRecDepth 100000 in
theorem f_Re_43 : q_F "StuckSearch$TextReader" 43 4 5 false := ⟨("StuckSearch$TextReader", q_T4, 9), rfl, (by decide), rfl, rfl, Or.inl (q_i 148 (by rfl))⟩
set_option maxRecDepth 100000 in
theorem f_Re_54 : q_F "StuckSearch$TextReader" 54 1 1 false := ⟨("StuckSearch$Tape", q_T1, 2), rfl, (by decide), rfl, rfl, Or.inr ⟨"StuckSearch", q_i 39 (by rfl)⟩⟩
set_option maxRecDepth 100000 in
theorem f_Re_91 : q_F "StuckSearch$TextReader" 91 2 2 false := ⟨("StuckSearch$World", q_T2, 5), rfl, (by decide), rfl, rfl, Or.inr ⟨"StuckSearch", q_i 96 (by rfl)⟩⟩
set_option maxRecDepth 100000 in
theorem f_Re_108 : q_F "StuckSearch$TextReader" 108 2 0 true := ⟨("StuckSearch$World", q_T2, 5), rfl, (by decide), rfl, rfl, Or.inr ⟨"StuckSearch", q_i 92 (by rfl)⟩⟩
set_option maxRecDepth 100000 in
theorem f_Re_123 : q_F "StuckSearch$TextReader" 123 5 2 false := ⟨("StuckSearch$Part", q_T5, 3), rfl, (by decide), rfl, rfl, Or.inr ⟨"StuckSearch", q_i 135 (by rfl)⟩⟩
set_option maxRecDepth 100000 in
theorem f_Re_126 : q_F "StuckSearch$TextReader" 126 5 1 false := ⟨("StuckSearch$Part", q_T5, 3), rfl, (by decide), rfl, rfl, Or.inr ⟨"StuckSearch", q_i 132 (by rfl)⟩⟩
set_option maxRecDepth 100000 in
theorem f_Re_133 : q_F "StuckSearch$TextReader" 133 5 0 false := ⟨("StuckSearch$Part", q_T5, 3), rfl, (by decide), rfl, rfl, Or.inr ⟨"StuckSearch", q_i 129 (by rfl)⟩⟩
set_option maxRecDepth 100000 in
theorem f_Wo_9 : q_F "StuckSearch$World" 9 2 0 true := ⟨("StuckSearch$World", q_T2, 5), rfl, (by decide), rfl, rfl, Or.inl (q_i 90 (by rfl))⟩
set_option maxRecDepth 100000 in
theorem f_Wo_15 : q_F "StuckSearch$World" 15 2 1 true := ⟨("StuckSearch$World", q_T2, 5), rfl, (by decide), rfl, rfl, Or.inl (q_i 93 (by rfl))⟩
set_option maxRecDepth 100000 in
theorem f_Wo_20 : q_F "StuckSearch$World" 20 2 3 true := ⟨("StuckSearch$World", q_T2, 5), rfl, (by decide), rfl, rfl, Or.inl (q_i 97 (by rfl))⟩
set_option maxRecDepth 100000 in
theorem f_Wo_31 : q_F "StuckSearch$World" 31 2 2 false := ⟨("StuckSearch$World", q_T2, 5), rfl, (by decide), rfl, rfl, Or.inl (q_i 94 (by rfl))⟩
set_option maxRecDepth 100000 in
theorem f_Wo_35 : q_F "StuckSearch$World" 35 2 4 false := ⟨("StuckSearch$World", q_T2, 5), rfl, (by decide), rfl, rfl, Or.inl (q_i 100 (by rfl))⟩
set_option maxRecDepth 100000 in
theorem f_Wo_38 : q_F "StuckSearch$World" 38 3 0 false := ⟨("StuckSearch$Course", q_T3, 6), rfl, (by decide), rfl, rfl, Or.inr ⟨"StuckSearch", q_i 63 (by rfl)⟩⟩
set_option maxRecDepth 100000 in
theorem f_Wo_47 : q_F "StuckSearch$World" 47 8 0 true := ⟨("StuckSearch$State", q_T8, 2), rfl, (by decide), rfl, rfl, Or.inr ⟨"StuckSearch", q_i 200 (by rfl)⟩⟩
set_option maxRecDepth 100000 in
theorem f_Wo_52 : q_F "StuckSearch$World" 52 8 1 true := ⟨("StuckSearch$State", q_T8, 2), rfl, (by decide), rfl, rfl, Or.inr ⟨"StuckSearch", q_i 204 (by rfl)⟩⟩
set_option maxRecDepth 100000 in
theorem f_Wo_55 : q_F "StuckSearch$World" 55 3 2 true := ⟨("StuckSearch$Course", q_T3, 6), rfl, (by decide), rfl, rfl, Or.inr ⟨"StuckSearch", q_i 69 (by rfl)⟩⟩
set_option maxRecDepth 100000 in
theorem f_Wo_62 : q_F "StuckSearch$World" 62 3 4 true := ⟨("StuckSearch$Course", q_T3, 6), rfl, (by decide), rfl, rfl, Or.inr ⟨"StuckSearch", q_i 73 (by rfl)⟩⟩
set_option maxRecDepth 100000 in
theorem f_Mo_7 : q_F "StuckSearchModel" 7 9 1 true := ⟨("StuckSearchModel", q_T9, 41), rfl, (by decide), rfl, rfl, Or.inl (q_i 755 (by rfl))⟩
set_option maxRecDepth 100000 in
theorem f_Mo_13 : q_F "StuckSearchModel" 13 9 4 false := ⟨("StuckSearchModel", q_T9, 41), rfl, (by decide), rfl, rfl, Or.inl (q_i 758 (by rfl))⟩
set_option maxRecDepth 100000 in
theorem f_Mo_17 : q_F "StuckSearchModel" 17 9 6 true := ⟨("StuckSearchModel", q_T9, 41), rfl, (by decide), rfl, rfl, Or.inl (q_i 760 (by rfl))⟩
set_option maxRecDepth 100000 in
theorem f_Mo_20 : q_F "StuckSearchModel" 20 9 7 true := ⟨("StuckSearchModel", q_T9, 41), rfl, (by decide), rfl, rfl, Or.inl (q_i 761 (by rfl))⟩
set_option maxRecDepth 100000 in
theorem f_Mo_23 : q_F "StuckSearchModel" 23 9 9 true := ⟨("StuckSearchModel", q_T9, 41), rfl, (by decide), rfl, rfl, Or.inl (q_i 763 (by rfl))⟩
set_option maxRecDepth 100000 in
theorem f_Mo_26 : q_F "StuckSearchModel" 26 9 10 true := ⟨("StuckSearchModel", q_T9, 41), rfl, (by decide), rfl, rfl, Or.inl (q_i 764 (by rfl))⟩
set_option maxRecDepth 100000 in
theorem f_Mo_29 : q_F "StuckSearchModel" 29 9 11 true := ⟨("StuckSearchModel", q_T9, 41), rfl, (by decide), rfl, rfl, Or.inl (q_i 765 (by rfl))⟩
set_option maxRecDepth 100000 in
theorem f_Mo_32 : q_F "StuckSearchModel" 32 9 12 true := ⟨("StuckSearchModel", q_T9, 41), rfl, (by decide), rfl, rfl, Or.inl (q_i 766 (by rfl))⟩
set_option maxRecDepth 100000 in
theorem f_Mo_35 : q_F "StuckSearchModel" 35 9 13 true := ⟨("StuckSearchModel", q_T9, 41), rfl, (by decide), rfl, rfl, Or.inl (q_i 767 (by rfl))⟩
set_option maxRecDepth 100000 in
theorem f_Mo_38 : q_F "StuckSearchModel" 38 9 14 true := ⟨("StuckSearchModel", q_T9, 41), rfl, (by decide), rfl, rfl, Or.inl (q_i 768 (by rfl))⟩
set_option maxRecDepth 100000 in
theorem f_Mo_41 : q_F "StuckSearchModel" 41 9 17 true := ⟨("StuckSearchModel", q_T9, 41), rfl, (by decide), rfl, rfl, Or.inl (q_i 771 (by rfl))⟩
set_option maxRecDepth 100000 in
theorem f_Mo_44 : q_F "StuckSearchModel" 44 9 18 true := ⟨("StuckSearchModel", q_T9, 41), rfl, (by decide), rfl, rfl, Or.inl (q_i 772 (by rfl))⟩
set_option maxRecDepth 100000 in
theorem f_Mo_47 : q_F "StuckSearchModel" 47 9 19 true := ⟨("StuckSearchModel", q_T9, 41), rfl, (by decide), rfl, rfl, Or.inl (q_i 773 (by rfl))⟩
set_option maxRecDepth 100000 in
theorem f_Mo_50 : q_F "StuckSearchModel" 50 9 20 true := ⟨("StuckSearchModel", q_T9, 41), rfl, (by decide), rfl, rfl, Or.inl (q_i 774 (by rfl))⟩
set_option maxRecDepth 100000 in
theorem f_Mo_53 : q_F "StuckSearchModel" 53 9 22 true := ⟨("StuckSearchModel", q_T9, 41), rfl, (by decide), rfl, rfl, Or.inl (q_i 776 (by rfl))⟩
set_option maxRecDepth 100000 in
theorem f_Mo_57 : q_F "StuckSearchModel" 57 9 23 true := ⟨("StuckSearchModel", q_T9, 41), rfl, (by decide), rfl, rfl, Or.inl (q_i 777 (by rfl))⟩
set_option maxRecDepth 100000 in
theorem f_Mo_60 : q_F "StuckSearchModel" 60 9 24 true := ⟨("StuckSearchModel", q_T9, 41), rfl, (by decide), rfl, rfl, Or.inl (q_i 778 (by rfl))⟩
set_option maxRecDepth 100000 in
theorem f_Mo_63 : q_F "StuckSearchModel" 63 9 25 true := ⟨("StuckSearchModel", q_T9, 41), rfl, (by decide), rfl, rfl, Or.inl (q_i 779 (by rfl))⟩
set_option maxRecDepth 100000 in
theorem f_Mo_66 : q_F "StuckSearchModel" 66 9 26 true := ⟨("StuckSearchModel", q_T9, 41), rfl, (by decide), rfl, rfl, Or.inl (q_i 780 (by rfl))⟩
set_option maxRecDepth 100000 in
theorem f_Mo_69 : q_F "StuckSearchModel" 69 9 27 true := ⟨("StuckSearchModel", q_T9, 41), rfl, (by decide), rfl, rfl, Or.inl (q_i 781 (by rfl))⟩
set_option maxRecDepth 100000 in
theorem f_Mo_72 : q_F "StuckSearchModel" 72 9 31 true := ⟨("StuckSearchModel", q_T9, 41), rfl, (by decide), rfl, rfl, Or.inl (q_i 785 (by rfl))⟩
set_option maxRecDepth 100000 in
theorem f_Mo_75 : q_F "StuckSearchModel" 75 9 32 true := ⟨("StuckSearchModel", q_T9, 41), rfl, (by decide), rfl, rfl, Or.inl (q_i 786 (by rfl))⟩
set_option maxRecDepth 100000 in
theorem f_Mo_78 : q_F "StuckSearchModel" 78 9 33 true := ⟨("StuckSearchModel", q_T9, 41), rfl, (by decide), rfl, rfl, Or.inl (q_i 787 (by rfl))⟩
set_option maxRecDepth 100000 in
theorem f_Mo_81 : q_F "StuckSearchModel" 81 9 35 true := ⟨("StuckSearchModel", q_T9, 41), rfl, (by decide), rfl, rfl, Or.inl (q_i 789 (by rfl))⟩
set_option maxRecDepth 100000 in
theorem f_Mo_84 : q_F "StuckSearchModel" 84 9 36 true := ⟨("StuckSearchModel", q_T9, 41), rfl, (by decide), rfl, rfl, Or.inl (q_i 790 (by rfl))⟩
set_option maxRecDepth 100000 in
theorem f_Mo_87 : q_F "StuckSearchModel" 87 9 38 true := ⟨("StuckSearchModel", q_T9, 41), rfl, (by decide), rfl, rfl, Or.inl (q_i 792 (by rfl))⟩
set_option maxRecDepth 100000 in
theorem f_Mo_90 : q_F "StuckSearchModel" 90 9 0 false := ⟨("StuckSearchModel", q_T9, 41), rfl, (by decide), rfl, rfl, Or.inl (q_i 754 (by rfl))⟩
set_option maxRecDepth 100000 in
theorem f_Mo_93 : q_F "StuckSearchModel" 93 9 2 false := ⟨("StuckSearchModel", q_T9, 41), rfl, (by decide), rfl, rfl, Or.inl (q_i 756 (by rfl))⟩
set_option maxRecDepth 100000 in
theorem f_Mo_98 : q_F "StuckSearchModel" 98 9 37 false := ⟨("StuckSearchModel", q_T9, 41), rfl, (by decide), rfl, rfl, Or.inl (q_i 791 (by rfl))⟩
set_option maxRecDepth 100000 in
theorem f_Mo_102 : q_F "StuckSearchModel" 102 9 34 false := ⟨("StuckSearchModel", q_T9, 41), rfl, (by decide), rfl, rfl, Or.inl (q_i 788 (by rfl))⟩
set_option maxRecDepth 100000 in
theorem f_Mo_105 : q_F "StuckSearchModel" 105 9 5 false := ⟨("StuckSearchModel", q_T9, 41), rfl, (by decide), rfl, rfl, Or.inl (q_i 759 (by rfl))⟩
set_option maxRecDepth 100000 in
theorem f_Mo_111 : q_F "StuckSearchModel" 111 9 8 false := ⟨("StuckSearchModel", q_T9, 41), rfl, (by decide), rfl, rfl, Or.inl (q_i 762 (by rfl))⟩
set_option maxRecDepth 100000 in
theorem f_Mo_114 : q_F "StuckSearchModel" 114 9 3 false := ⟨("StuckSearchModel", q_T9, 41), rfl, (by decide), rfl, rfl, Or.inl (q_i 757 (by rfl))⟩
set_option maxRecDepth 100000 in
theorem f_Mo_117 : q_F "StuckSearchModel" 117 9 21 false := ⟨("StuckSearchModel", q_T9, 41), rfl, (by decide), rfl, rfl, Or.inl (q_i 775 (by rfl))⟩
set_option maxRecDepth 100000 in
theorem f_Mo_123 : q_F "StuckSearchModel" 123 9 15 false := ⟨("StuckSearchModel", q_T9, 41), rfl, (by decide), rfl, rfl, Or.inl (q_i 769 (by rfl))⟩
set_option maxRecDepth 100000 in
theorem f_Mo_130 : q_F "StuckSearchModel" 130 9 28 false := ⟨("StuckSearchModel", q_T9, 41), rfl, (by decide), rfl, rfl, Or.inl (q_i 782 (by rfl))⟩
set_option maxRecDepth 100000 in
theorem f_Mo_133 : q_F "StuckSearchModel" 133 9 30 false := ⟨("StuckSearchModel", q_T9, 41), rfl, (by decide), rfl, rfl, Or.inl (q_i 784 (by rfl))⟩
set_option maxRecDepth 100000 in
theorem f_Mo_136 : q_F "StuckSearchModel" 136 9 29 false := ⟨("StuckSearchModel", q_T9, 41), rfl, (by decide), rfl, rfl, Or.inl (q_i 783 (by rfl))⟩
set_option maxRecDepth 100000 in
theorem f_Mo_143 : q_F "StuckSearchModel" 143 9 16 false := ⟨("StuckSearchModel", q_T9, 41), rfl, (by decide), rfl, rfl, Or.inl (q_i 770 (by rfl))⟩
set_option maxRecDepth 100000 in
theorem f_Mo_200 : q_F "StuckSearchModel" 200 9 39 false := ⟨("StuckSearchModel", q_T9, 41), rfl, (by decide), rfl, rfl, Or.inl (q_i 793 (by rfl))⟩
set_option maxRecDepth 100000 in
theorem f_Mo_203 : q_F "StuckSearchModel" 203 9 40 false := ⟨("StuckSearchModel", q_T9, 41), rfl, (by decide), rfl, rfl, Or.inl (q_i 794 (by rfl))⟩
set_option maxRecDepth 100000 in
theorem lo_S_1 : Jvm.Cond.methodLink "StuckSearch" 1 Lib.objectInit ∈ q_gw := q_i 27 (by rfl)
set_option maxRecDepth 100000 in
theorem l_S_9 : q_ML "StuckSearch" 9 m_Ta_init 0 := ⟨Or.inr ⟨"StuckSearch", q_i 32 (by rfl)⟩, q_i 34 (by rfl), q_i 2 (by rfl), ⟨by decide, by decide⟩, by decide +kernel⟩
set_option maxRecDepth 100000 in
theorem l_S_18 : q_ML "StuckSearch" 18 m_Wo_init 0 := ⟨Or.inr ⟨"StuckSearch", q_i 48 (by rfl)⟩, q_i 50 (by rfl), q_i 3 (by rfl), ⟨by decide, by decide⟩, by decide +kernel⟩
set_option maxRecDepth 100000 in
theorem l_S_25 : q_ML "StuckSearch" 25 m_Re_init 2 := ⟨Or.inr ⟨"StuckSearch", q_i 116 (by rfl)⟩, q_i 118 (by rfl), q_i 6 (by rfl), ⟨by decide, by decide⟩, by decide +kernel⟩
set_option maxRecDepth 100000 in
theorem l_S_34 : q_ML "StuckSearch" 34 m_Se_init 1 := ⟨Or.inr ⟨"StuckSearch", q_i 175 (by rfl)⟩, q_i 177 (by rfl), q_i 8 (by rfl), ⟨by decide, by decide⟩, by decide +kernel⟩
set_option maxRecDepth 100000 in
theorem l_S_43 : q_ML "StuckSearch" 43 m_St_init 0 := ⟨Or.inr ⟨"StuckSearch", q_i 253 (by rfl)⟩, q_i 197 (by rfl), q_i 10 (by rfl), ⟨by decide, by decide⟩, by decide +kernel⟩
set_option maxRecDepth 100000 in
theorem l_S_55 : q_ML "StuckSearch" 55 m_Ta_append 2 := ⟨Or.inr ⟨"StuckSearch", q_i 590 (by rfl)⟩, q_i 593 (by rfl), q_i 2 (by rfl), ⟨by decide, by decide⟩, by decide +kernel⟩
set_option maxRecDepth 100000 in
theorem l_S_68 : q_ML "StuckSearch" 68 m_Wo_addVariable 2 := ⟨Or.inr ⟨"StuckSearch", q_i 602 (by rfl)⟩, q_i 605 (by rfl), q_i 3 (by rfl), ⟨by decide, by decide⟩, by decide +kernel⟩
set_option maxRecDepth 100000 in
theorem l_S_72 : q_ML "StuckSearch" 72 m_S_beginAnew 0 := ⟨Or.inl (q_i 365 (by rfl)), q_i 368 (by rfl), q_i 1 (by rfl), ⟨by decide, by decide⟩, by decide +kernel⟩
set_option maxRecDepth 100000 in
theorem l_S_82 : q_ML "StuckSearch" 82 m_Re_read 1 := ⟨Or.inr ⟨"StuckSearch", q_i 281 (by rfl)⟩, q_i 284 (by rfl), q_i 6 (by rfl), ⟨by decide, by decide⟩, by decide +kernel⟩
set_option maxRecDepth 100000 in
theorem l_S_92 : q_ML "StuckSearch" 92 m_Wo_removeAll 0 := ⟨Or.inr ⟨"StuckSearch", q_i 393 (by rfl)⟩, q_i 396 (by rfl), q_i 3 (by rfl), ⟨by decide, by decide⟩, by decide +kernel⟩
set_option maxRecDepth 100000 in
theorem l_S_95 : q_ML "StuckSearch" 95 m_S_checkIndex 2 := ⟨Or.inl (q_i 614 (by rfl)), q_i 616 (by rfl), q_i 1 (by rfl), ⟨by decide, by decide⟩, by decide +kernel⟩
set_option maxRecDepth 100000 in
theorem l_S_103 : q_ML "StuckSearch" 103 m_Co_countSteps 0 := ⟨Or.inr ⟨"StuckSearch", q_i 633 (by rfl)⟩, q_i 636 (by rfl), q_i 5 (by rfl), ⟨by decide, by decide⟩, by decide +kernel⟩
set_option maxRecDepth 100000 in
theorem l_S_110 : q_ML "StuckSearch" 110 m_In_bitCount 1 := ⟨Or.inl (q_i 505 (by rfl)), q_i 507 (by rfl), q_i 17 (by rfl), ⟨by decide, by decide⟩, by decide +kernel⟩
set_option maxRecDepth 100000 in
theorem l_S_118 : q_ML "StuckSearch" 118 m_Wo_isSearchable 0 := ⟨Or.inr ⟨"StuckSearch", q_i 401 (by rfl)⟩, q_i 404 (by rfl), q_i 3 (by rfl), ⟨by decide, by decide⟩, by decide +kernel⟩
set_option maxRecDepth 100000 in
theorem l_S_122 : q_ML "StuckSearch" 122 m_Wo_countStates 0 := ⟨Or.inr ⟨"StuckSearch", q_i 410 (by rfl)⟩, q_i 408 (by rfl), q_i 3 (by rfl), ⟨by decide, by decide⟩, by decide +kernel⟩
set_option maxRecDepth 100000 in
theorem l_S_126 : q_ML "StuckSearch" 126 m_Se_findStanding 0 := ⟨Or.inr ⟨"StuckSearch", q_i 415 (by rfl)⟩, q_i 418 (by rfl), q_i 8 (by rfl), ⟨by decide, by decide⟩, by decide +kernel⟩
set_option maxRecDepth 100000 in
theorem l_S_135 : q_ML "StuckSearch" 135 m_S_checkSearchable 0 := ⟨Or.inl (q_i 647 (by rfl)), q_i 650 (by rfl), q_i 1 (by rfl), ⟨by decide, by decide⟩, by decide +kernel⟩
set_option maxRecDepth 100000 in
theorem l_S_138 : q_ML "StuckSearch" 138 m_Se_standingState 1 := ⟨Or.inr ⟨"StuckSearch", q_i 667 (by rfl)⟩, q_i 670 (by rfl), q_i 8 (by rfl), ⟨by decide, by decide⟩, by decide +kernel⟩
set_option maxRecDepth 100000 in
theorem l_S_149 : q_ML "StuckSearch" 149 m_Wo_openPlaces 2 := ⟨Or.inr ⟨"StuckSearch", q_i 504 (by rfl)⟩, q_i 474 (by rfl), q_i 3 (by rfl), ⟨by decide, by decide⟩, by decide +kernel⟩
set_option maxRecDepth 100000 in
theorem l_S_153 : q_ML "StuckSearch" 153 m_S_nthBit 2 := ⟨Or.inl (q_i 690 (by rfl)), q_i 453 (by rfl), q_i 1 (by rfl), ⟨by decide, by decide⟩, by decide +kernel⟩
set_option maxRecDepth 100000 in
theorem l_S_157 : q_ML "StuckSearch" 157 m_Wo_go 3 := ⟨Or.inr ⟨"StuckSearch", q_i 691 (by rfl)⟩, q_i 694 (by rfl), q_i 3 (by rfl), ⟨by decide, by decide⟩, by decide +kernel⟩
set_option maxRecDepth 100000 in
theorem l_S_169 : q_ML "StuckSearch" 169 m_S_returnToFirst 0 := ⟨Or.inl (q_i 373 (by rfl)), q_i 376 (by rfl), q_i 1 (by rfl), ⟨by decide, by decide⟩, by decide +kernel⟩
set_option maxRecDepth 100000 in
theorem l_S_172 : q_ML "StuckSearch" 172 m_Se_findFalling 0 := ⟨Or.inr ⟨"StuckSearch", q_i 717 (by rfl)⟩, q_i 720 (by rfl), q_i 8 (by rfl), ⟨by decide, by decide⟩, by decide +kernel⟩
set_option maxRecDepth 100000 in
theorem l_S_179 : q_ML "StuckSearch" 179 m_Wo_numberOf 1 := ⟨Or.inr ⟨"StuckSearch", q_i 746 (by rfl)⟩, q_i 434 (by rfl), q_i 3 (by rfl), ⟨by decide, by decide⟩, by decide +kernel⟩
set_option maxRecDepth 100000 in
theorem l_S_183 : q_ML "StuckSearch" 183 m_Ss_contains 1 := ⟨Or.inr ⟨"StuckSearch", q_i 747 (by rfl)⟩, q_i 442 (by rfl), q_i 9 (by rfl), ⟨by decide, by decide⟩, by decide +kernel⟩
set_option maxRecDepth 100000 in
theorem l_S_189 : q_ML "StuckSearch" 189 m_Se_forget 0 := ⟨Or.inr ⟨"StuckSearch", q_i 369 (by rfl)⟩, q_i 372 (by rfl), q_i 8 (by rfl), ⟨by decide, by decide⟩, by decide +kernel⟩
set_option maxRecDepth 100000 in
theorem l_S_192 : q_ML "StuckSearch" 192 m_Wo_putFirst 1 := ⟨Or.inr ⟨"StuckSearch", q_i 377 (by rfl)⟩, q_i 380 (by rfl), q_i 3 (by rfl), ⟨by decide, by decide⟩, by decide +kernel⟩
set_option maxRecDepth 100000 in
theorem l_S_203 : q_ML "StuckSearch" 203 m_Lo_bitCount 1 := ⟨Or.inl (q_i 454 (by rfl)), q_i 456 (by rfl), q_i 18 (by rfl), ⟨by decide, by decide⟩, by decide +kernel⟩
set_option maxRecDepth 100000 in
theorem lo_Co_3 : Jvm.Cond.methodLink "StuckSearch$Course" 3 Lib.objectInit ∈ q_gw := q_i 61 (by rfl)
set_option maxRecDepth 100000 in
theorem l_Co_31 : q_ML "StuckSearch$Course" 31 m_Ar_fillI 2 := ⟨Or.inl (q_i 289 (by rfl)), q_i 56 (by rfl), q_i 4 (by rfl), ⟨by decide, by decide⟩, by decide +kernel⟩
set_option maxRecDepth 100000 in
theorem l_Co_49 : q_ML "StuckSearch$Course" 49 m_In_bitCount 1 := ⟨Or.inl (q_i 637 (by rfl)), q_i 507 (by rfl), q_i 17 (by rfl), ⟨by decide, by decide⟩, by decide +kernel⟩
set_option maxRecDepth 100000 in
theorem lo_Pa_1 : Jvm.Cond.methodLink "StuckSearch$Part" 1 Lib.objectInit ∈ q_gw := q_i 126 (by rfl)
set_option maxRecDepth 100000 in
theorem lo_Se_3 : Jvm.Cond.methodLink "StuckSearch$Search" 3 Lib.objectInit ∈ q_gw := q_i 178 (by rfl)
set_option maxRecDepth 100000 in
theorem l_Se_11 : q_ML "StuckSearch$Search" 11 m_Ss_init 0 := ⟨Or.inr ⟨"StuckSearch", q_i 181 (by rfl)⟩, q_i 183 (by rfl), q_i 9 (by rfl), ⟨by decide, by decide⟩, by decide +kernel⟩
set_option maxRecDepth 100000 in
theorem l_Se_29 : q_ML "StuckSearch$Search" 29 m_St_init 0 := ⟨Or.inr ⟨"StuckSearch", q_i 195 (by rfl)⟩, q_i 197 (by rfl), q_i 10 (by rfl), ⟨by decide, by decide⟩, by decide +kernel⟩
set_option maxRecDepth 100000 in
theorem l_Se_52 : q_ML "StuckSearch$Search" 52 m_Se_weigh 0 := ⟨Or.inl (q_i 419 (by rfl)), q_i 422 (by rfl), q_i 8 (by rfl), ⟨by decide, by decide⟩, by decide +kernel⟩
set_option maxRecDepth 100000 in
theorem l_Se_55 : q_ML "StuckSearch$Search" 55 m_Ss_empty 0 := ⟨Or.inr ⟨"StuckSearch", q_i 423 (by rfl)⟩, q_i 426 (by rfl), q_i 9 (by rfl), ⟨by decide, by decide⟩, by decide +kernel⟩
set_option maxRecDepth 100000 in
theorem l_Se_65 : q_ML "StuckSearch$Search" 65 m_Wo_putFirst 1 := ⟨Or.inr ⟨"StuckSearch", q_i 430 (by rfl)⟩, q_i 380 (by rfl), q_i 3 (by rfl), ⟨by decide, by decide⟩, by decide +kernel⟩
set_option maxRecDepth 100000 in
theorem l_Se_71 : q_ML "StuckSearch$Search" 71 m_Wo_numberOf 1 := ⟨Or.inr ⟨"StuckSearch", q_i 431 (by rfl)⟩, q_i 434 (by rfl), q_i 3 (by rfl), ⟨by decide, by decide⟩, by decide +kernel⟩
set_option maxRecDepth 100000 in
theorem l_Se_75 : q_ML "StuckSearch$Search" 75 m_Se_reach 1 := ⟨Or.inl (q_i 435 (by rfl)), q_i 438 (by rfl), q_i 8 (by rfl), ⟨by decide, by decide⟩, by decide +kernel⟩
set_option maxRecDepth 100000 in
theorem l_Se_79 : q_ML "StuckSearch$Search" 79 m_Ss_takeLowest 0 := ⟨Or.inr ⟨"StuckSearch", q_i 447 (by rfl)⟩, q_i 450 (by rfl), q_i 9 (by rfl), ⟨by decide, by decide⟩, by decide +kernel⟩
set_option maxRecDepth 100000 in
theorem l_Se_83 : q_ML "StuckSearch$Search" 83 m_Se_lookAhead 1 := ⟨Or.inl (q_i 460 (by rfl)), q_i 463 (by rfl), q_i 8 (by rfl), ⟨by decide, by decide⟩, by decide +kernel⟩
set_option maxRecDepth 100000 in
theorem l_Se_86 : q_ML "StuckSearch$Search" 86 m_Se_findStanding 0 := ⟨Or.inl (q_i 721 (by rfl)), q_i 418 (by rfl), q_i 8 (by rfl), ⟨by decide, by decide⟩, by decide +kernel⟩
set_option maxRecDepth 100000 in
theorem l_Se_89 : q_ML "StuckSearch$Search" 89 m_Ss_copyFrom 1 := ⟨Or.inr ⟨"StuckSearch", q_i 722 (by rfl)⟩, q_i 725 (by rfl), q_i 9 (by rfl), ⟨by decide, by decide⟩, by decide +kernel⟩
set_option maxRecDepth 100000 in
theorem l_Se_93 : q_ML "StuckSearch$Search" 93 m_Se_lookBack 1 := ⟨Or.inl (q_i 729 (by rfl)), q_i 732 (by rfl), q_i 8 (by rfl), ⟨by decide, by decide⟩, by decide +kernel⟩
set_option maxRecDepth 100000 in
theorem l_Se_96 : q_ML "StuckSearch$Search" 96 m_Ss_nth 1 := ⟨Or.inr ⟨"StuckSearch", q_i 671 (by rfl)⟩, q_i 674 (by rfl), q_i 9 (by rfl), ⟨by decide, by decide⟩, by decide +kernel⟩
set_option maxRecDepth 100000 in
theorem l_Se_100 : q_ML "StuckSearch$Search" 100 m_Wo_putNumbered 2 := ⟨Or.inr ⟨"StuckSearch", q_i 464 (by rfl)⟩, q_i 467 (by rfl), q_i 3 (by rfl), ⟨by decide, by decide⟩, by decide +kernel⟩
set_option maxRecDepth 100000 in
theorem l_Se_119 : q_ML "StuckSearch$Search" 119 m_Ss_contains 1 := ⟨Or.inr ⟨"StuckSearch", q_i 439 (by rfl)⟩, q_i 442 (by rfl), q_i 9 (by rfl), ⟨by decide, by decide⟩, by decide +kernel⟩
set_option maxRecDepth 100000 in
theorem l_Se_123 : q_ML "StuckSearch$Search" 123 m_Ss_add 1 := ⟨Or.inr ⟨"StuckSearch", q_i 443 (by rfl)⟩, q_i 446 (by rfl), q_i 9 (by rfl), ⟨by decide, by decide⟩, by decide +kernel⟩
set_option maxRecDepth 100000 in
theorem l_Se_126 : q_ML "StuckSearch$Search" 126 m_Wo_openPlaces 2 := ⟨Or.inr ⟨"StuckSearch", q_i 471 (by rfl)⟩, q_i 474 (by rfl), q_i 3 (by rfl), ⟨by decide, by decide⟩, by decide +kernel⟩
set_option maxRecDepth 100000 in
theorem l_Se_130 : q_ML "StuckSearch$Search" 130 m_Se_reachAll 3 := ⟨Or.inl (q_i 483 (by rfl)), q_i 486 (by rfl), q_i 8 (by rfl), ⟨by decide, by decide⟩, by decide +kernel⟩
set_option maxRecDepth 100000 in
theorem l_Se_134 : q_ML "StuckSearch$Search" 134 m_Wo_allAtEnds 1 := ⟨Or.inr ⟨"StuckSearch", q_i 488 (by rfl)⟩, q_i 491 (by rfl), q_i 3 (by rfl), ⟨by decide, by decide⟩, by decide +kernel⟩
set_option maxRecDepth 100000 in
theorem l_Se_141 : q_ML "StuckSearch$Search" 141 m_Wo_outcome 3 := ⟨Or.inr ⟨"StuckSearch", q_i 487 (by rfl)⟩, q_i 478 (by rfl), q_i 3 (by rfl), ⟨by decide, by decide⟩, by decide +kernel⟩
set_option maxRecDepth 100000 in
theorem l_Se_151 : q_ML "StuckSearch$Search" 151 m_Se_undoAct 3 := ⟨Or.inl (q_i 733 (by rfl)), q_i 736 (by rfl), q_i 8 (by rfl), ⟨by decide, by decide⟩, by decide +kernel⟩
set_option maxRecDepth 100000 in
theorem l_Se_154 : q_ML "StuckSearch$Search" 154 m_Co_outcome 3 := ⟨Or.inr ⟨"StuckSearch", q_i 737 (by rfl)⟩, q_i 482 (by rfl), q_i 5 (by rfl), ⟨by decide, by decide⟩, by decide +kernel⟩
set_option maxRecDepth 100000 in
theorem l_Se_157 : q_ML "StuckSearch$Search" 157 m_Se_undoStep 3 := ⟨Or.inl (q_i 738 (by rfl)), q_i 741 (by rfl), q_i 8 (by rfl), ⟨by decide, by decide⟩, by decide +kernel⟩
set_option maxRecDepth 100000 in
theorem l_Se_163 : q_ML "StuckSearch$Search" 163 m_Se_fall 1 := ⟨Or.inl (q_i 742 (by rfl)), q_i 745 (by rfl), q_i 8 (by rfl), ⟨by decide, by decide⟩, by decide +kernel⟩
set_option maxRecDepth 100000 in
theorem lo_St_3 : Jvm.Cond.methodLink "StuckSearch$State" 3 Lib.objectInit ∈ q_gw := q_i 198 (by rfl)
set_option maxRecDepth 100000 in
theorem lo_Ss_3 : Jvm.Cond.methodLink "StuckSearch$StateSet" 3 Lib.objectInit ∈ q_gw := q_i 184 (by rfl)
set_option maxRecDepth 100000 in
theorem l_Ss_19 : q_ML "StuckSearch$StateSet" 19 m_Ar_fillJ 2 := ⟨Or.inl (q_i 427 (by rfl)), q_i 429 (by rfl), q_i 4 (by rfl), ⟨by decide, by decide⟩, by decide +kernel⟩
set_option maxRecDepth 100000 in
theorem l_Ss_31 : q_ML "StuckSearch$StateSet" 31 m_S_nthBit 2 := ⟨Or.inr ⟨"StuckSearch", q_i 451 (by rfl)⟩, q_i 453 (by rfl), q_i 1 (by rfl), ⟨by decide, by decide⟩, by decide +kernel⟩
set_option maxRecDepth 100000 in
theorem l_Ss_35 : q_ML "StuckSearch$StateSet" 35 m_Lo_bitCount 1 := ⟨Or.inl (q_i 675 (by rfl)), q_i 456 (by rfl), q_i 18 (by rfl), ⟨by decide, by decide⟩, by decide +kernel⟩
set_option maxRecDepth 100000 in
theorem lo_Ta_3 : Jvm.Cond.methodLink "StuckSearch$Tape" 3 Lib.objectInit ∈ q_gw := q_i 35 (by rfl)
set_option maxRecDepth 100000 in
theorem lo_Re_3 : Jvm.Cond.methodLink "StuckSearch$TextReader" 3 Lib.objectInit ∈ q_gw := q_i 119 (by rfl)
set_option maxRecDepth 100000 in
theorem l_Re_20 : q_ML "StuckSearch$TextReader" 20 m_Pa_init 0 := ⟨Or.inr ⟨"StuckSearch", q_i 123 (by rfl)⟩, q_i 125 (by rfl), q_i 7 (by rfl), ⟨by decide, by decide⟩, by decide +kernel⟩
set_option maxRecDepth 100000 in
theorem l_Re_46 : q_ML "StuckSearch$TextReader" 46 m_Co_reset 0 := ⟨Or.inr ⟨"StuckSearch", q_i 285 (by rfl)⟩, q_i 288 (by rfl), q_i 5 (by rfl), ⟨by decide, by decide⟩, by decide +kernel⟩
set_option maxRecDepth 100000 in
theorem l_Re_51 : q_ML "StuckSearch$TextReader" 51 m_Re_beginText 0 := ⟨Or.inl (q_i 290 (by rfl)), q_i 293 (by rfl), q_i 6 (by rfl), ⟨by decide, by decide⟩, by decide +kernel⟩
set_option maxRecDepth 100000 in
theorem l_Re_59 : q_ML "StuckSearch$TextReader" 59 m_Re_readNext 1 := ⟨Or.inl (q_i 298 (by rfl)), q_i 301 (by rfl), q_i 6 (by rfl), ⟨by decide, by decide⟩, by decide +kernel⟩
set_option maxRecDepth 100000 in
theorem l_Re_63 : q_ML "StuckSearch$TextReader" 63 m_Re_meetFault 1 := ⟨Or.inl (q_i 318 (by rfl)), q_i 321 (by rfl), q_i 6 (by rfl), ⟨by decide, by decide⟩, by decide +kernel⟩
set_option maxRecDepth 100000 in
theorem l_Re_67 : q_ML "StuckSearch$TextReader" 67 m_Re_endChoice 0 := ⟨Or.inl (q_i 306 (by rfl)), q_i 309 (by rfl), q_i 6 (by rfl), ⟨by decide, by decide⟩, by decide +kernel⟩
set_option maxRecDepth 100000 in
theorem l_Re_70 : q_ML "StuckSearch$TextReader" 70 m_Co_finish 1 := ⟨Or.inr ⟨"StuckSearch", q_i 361 (by rfl)⟩, q_i 364 (by rfl), q_i 5 (by rfl), ⟨by decide, by decide⟩, by decide +kernel⟩
set_option maxRecDepth 100000 in
theorem l_Re_74 : q_ML "StuckSearch$TextReader" 74 m_Ta_byteAt 1 := ⟨Or.inr ⟨"StuckSearch", q_i 302 (by rfl)⟩, q_i 305 (by rfl), q_i 2 (by rfl), ⟨by decide, by decide⟩, by decide +kernel⟩
set_option maxRecDepth 100000 in
theorem l_Re_78 : q_ML "StuckSearch$TextReader" 78 m_Re_openText 0 := ⟨Or.inl (q_i 314 (by rfl)), q_i 317 (by rfl), q_i 6 (by rfl), ⟨by decide, by decide⟩, by decide +kernel⟩
set_option maxRecDepth 100000 in
theorem l_Re_81 : q_ML "StuckSearch$TextReader" 81 m_Re_closeText 1 := ⟨Or.inl (q_i 322 (by rfl)), q_i 325 (by rfl), q_i 6 (by rfl), ⟨by decide, by decide⟩, by decide +kernel⟩
set_option maxRecDepth 100000 in
theorem l_Re_84 : q_ML "StuckSearch$TextReader" 84 m_Re_readAct 1 := ⟨Or.inl (q_i 338 (by rfl)), q_i 341 (by rfl), q_i 6 (by rfl), ⟨by decide, by decide⟩, by decide +kernel⟩
set_option maxRecDepth 100000 in
theorem l_Re_87 : q_ML "StuckSearch$TextReader" 87 m_Re_addThing 2 := ⟨Or.inl (q_i 326 (by rfl)), q_i 329 (by rfl), q_i 6 (by rfl), ⟨by decide, by decide⟩, by decide +kernel⟩
set_option maxRecDepth 100000 in
theorem l_Re_96 : q_ML "StuckSearch$TextReader" 96 m_Co_isFull 0 := ⟨Or.inr ⟨"StuckSearch", q_i 342 (by rfl)⟩, q_i 345 (by rfl), q_i 5 (by rfl), ⟨by decide, by decide⟩, by decide +kernel⟩
set_option maxRecDepth 100000 in
theorem l_Re_100 : q_ML "StuckSearch$TextReader" 100 m_Re_readKind 0 := ⟨Or.inl (q_i 346 (by rfl)), q_i 349 (by rfl), q_i 6 (by rfl), ⟨by decide, by decide⟩, by decide +kernel⟩
set_option maxRecDepth 100000 in
theorem l_Re_104 : q_ML "StuckSearch$TextReader" 104 m_Re_takesFigure 1 := ⟨Or.inl (q_i 350 (by rfl)), q_i 352 (by rfl), q_i 6 (by rfl), ⟨by decide, by decide⟩, by decide +kernel⟩
set_option maxRecDepth 100000 in
theorem l_Re_112 : q_ML "StuckSearch$TextReader" 112 m_Re_readFigure 1 := ⟨Or.inl (q_i 353 (by rfl)), q_i 356 (by rfl), q_i 6 (by rfl), ⟨by decide, by decide⟩, by decide +kernel⟩
set_option maxRecDepth 100000 in
theorem l_Re_115 : q_ML "StuckSearch$TextReader" 115 m_Co_addAct 3 := ⟨Or.inr ⟨"StuckSearch", q_i 357 (by rfl)⟩, q_i 360 (by rfl), q_i 5 (by rfl), ⟨by decide, by decide⟩, by decide +kernel⟩
set_option maxRecDepth 100000 in
theorem l_Re_119 : q_ML "StuckSearch$TextReader" 119 m_Pa_set 2 := ⟨Or.inr ⟨"StuckSearch", q_i 294 (by rfl)⟩, q_i 297 (by rfl), q_i 7 (by rfl), ⟨by decide, by decide⟩, by decide +kernel⟩
set_option maxRecDepth 100000 in
theorem l_Re_129 : q_ML "StuckSearch$TextReader" 129 m_Co_addSteps 2 := ⟨Or.inr ⟨"StuckSearch", q_i 330 (by rfl)⟩, q_i 333 (by rfl), q_i 5 (by rfl), ⟨by decide, by decide⟩, by decide +kernel⟩
set_option maxRecDepth 100000 in
theorem l_Re_137 : q_ML "StuckSearch$TextReader" 137 m_Pa_addBehind 1 := ⟨Or.inr ⟨"StuckSearch", q_i 334 (by rfl)⟩, q_i 337 (by rfl), q_i 7 (by rfl), ⟨by decide, by decide⟩, by decide +kernel⟩
set_option maxRecDepth 100000 in
theorem l_Re_140 : q_ML "StuckSearch$TextReader" 140 m_Pa_addChoice 1 := ⟨Or.inr ⟨"StuckSearch", q_i 310 (by rfl)⟩, q_i 313 (by rfl), q_i 7 (by rfl), ⟨by decide, by decide⟩, by decide +kernel⟩
set_option maxRecDepth 100000 in
theorem lo_Wo_3 : Jvm.Cond.methodLink "StuckSearch$World" 3 Lib.objectInit ∈ q_gw := q_i 51 (by rfl)
set_option maxRecDepth 100000 in
theorem l_Wo_24 : q_ML "StuckSearch$World" 24 m_Ar_fillI 2 := ⟨Or.inl (q_i 54 (by rfl)), q_i 56 (by rfl), q_i 4 (by rfl), ⟨by decide, by decide⟩, by decide +kernel⟩
set_option maxRecDepth 100000 in
theorem l_Wo_30 : q_ML "StuckSearch$World" 30 m_Co_init 0 := ⟨Or.inr ⟨"StuckSearch", q_i 58 (by rfl)⟩, q_i 60 (by rfl), q_i 5 (by rfl), ⟨by decide, by decide⟩, by decide +kernel⟩
set_option maxRecDepth 100000 in
theorem l_Wo_41 : q_ML "StuckSearch$World" 41 m_Wo_countStates 0 := ⟨Or.inl (q_i 405 (by rfl)), q_i 408 (by rfl), q_i 3 (by rfl), ⟨by decide, by decide⟩, by decide +kernel⟩
set_option maxRecDepth 100000 in
theorem l_Wo_58 : q_ML "StuckSearch$World" 58 m_Wo_outcome 3 := ⟨Or.inl (q_i 475 (by rfl)), q_i 478 (by rfl), q_i 3 (by rfl), ⟨by decide, by decide⟩, by decide +kernel⟩
set_option maxRecDepth 100000 in
theorem l_Wo_65 : q_ML "StuckSearch$World" 65 m_Co_outcome 3 := ⟨Or.inr ⟨"StuckSearch", q_i 479 (by rfl)⟩, q_i 482 (by rfl), q_i 5 (by rfl), ⟨by decide, by decide⟩, by decide +kernel⟩
set_option maxRecDepth 100000 in
theorem l_Wo_68 : q_ML "StuckSearch$World" 68 m_Co_isEnd 1 := ⟨Or.inr ⟨"StuckSearch", q_i 492 (by rfl)⟩, q_i 495 (by rfl), q_i 5 (by rfl), ⟨by decide, by decide⟩, by decide +kernel⟩
set_option maxRecDepth 100000 in
theorem l_Wo_72 : q_ML "StuckSearch$World" 72 m_Ma_max 2 := ⟨Or.inl (q_i 468 (by rfl)), q_i 470 (by rfl), q_i 19 (by rfl), ⟨by decide, by decide⟩, by decide +kernel⟩
set_option maxRecDepth 100000 in
theorem l_La_7 : q_ML "StuckSearchLaw" 7 m_S_feed 2 := ⟨Or.inl (q_i 519 (by rfl)), q_i 522 (by rfl), q_i 1 (by rfl), ⟨by decide, by decide⟩, by decide +kernel⟩
set_option maxRecDepth 100000 in
theorem l_La_15 : q_ML "StuckSearchLaw" 15 m_S_variable 2 := ⟨Or.inl (q_i 597 (by rfl)), q_i 600 (by rfl), q_i 1 (by rfl), ⟨by decide, by decide⟩, by decide +kernel⟩
set_option maxRecDepth 100000 in
theorem l_La_19 : q_ML "StuckSearchLaw" 19 m_S_told 2 := ⟨Or.inl (q_i 610 (by rfl)), q_i 613 (by rfl), q_i 1 (by rfl), ⟨by decide, by decide⟩, by decide +kernel⟩
set_option maxRecDepth 100000 in
theorem l_La_24 : q_ML "StuckSearchLaw" 24 m_S_place 2 := ⟨Or.inl (q_i 643 (by rfl)), q_i 646 (by rfl), q_i 1 (by rfl), ⟨by decide, by decide⟩, by decide +kernel⟩
set_option maxRecDepth 100000 in
theorem l_La_29 : q_ML "StuckSearchLaw" 29 m_S_value 2 := ⟨Or.inl (q_i 679 (by rfl)), q_i 682 (by rfl), q_i 1 (by rfl), ⟨by decide, by decide⟩, by decide +kernel⟩
set_option maxRecDepth 100000 in
theorem l_La_32 : q_ML "StuckSearchLaw" 32 m_S_move 1 := ⟨Or.inl (q_i 686 (by rfl)), q_i 689 (by rfl), q_i 1 (by rfl), ⟨by decide, by decide⟩, by decide +kernel⟩
set_option maxRecDepth 100000 in
theorem l_La_36 : q_ML "StuckSearchLaw" 36 m_S_now 1 := ⟨Or.inl (q_i 699 (by rfl)), q_i 702 (by rfl), q_i 1 (by rfl), ⟨by decide, by decide⟩, by decide +kernel⟩
set_option maxRecDepth 100000 in
theorem l_La_39 : q_ML "StuckSearchLaw" 39 m_S_has 1 := ⟨Or.inl (q_i 706 (by rfl)), q_i 709 (by rfl), q_i 1 (by rfl), ⟨by decide, by decide⟩, by decide +kernel⟩
set_option maxRecDepth 100000 in
theorem l_La_42 : q_ML "StuckSearchLaw" 42 m_S_falls 0 := ⟨Or.inl (q_i 713 (by rfl)), q_i 716 (by rfl), q_i 1 (by rfl), ⟨by decide, by decide⟩, by decide +kernel⟩
set_option maxRecDepth 100000 in
theorem l_La_46 : q_ML "StuckSearchLaw" 46 m_S_init 0 := ⟨Or.inl (q_i 24 (by rfl)), q_i 26 (by rfl), q_i 1 (by rfl), ⟨by decide, by decide⟩, by decide +kernel⟩
set_option maxRecDepth 100000 in
theorem l_La_49 : q_ML "StuckSearchLaw" 49 m_Mo_init 0 := ⟨Or.inl (q_i 750 (by rfl)), q_i 752 (by rfl), q_i 11 (by rfl), ⟨by decide, by decide⟩, by decide +kernel⟩
set_option maxRecDepth 100000 in
theorem l_La_52 : q_ML "StuckSearchLaw" 52 m_La_feed 4 := ⟨Or.inl (q_i 515 (by rfl)), q_i 517 (by rfl), q_i 0 (by rfl), ⟨by decide, by decide⟩, by decide +kernel⟩
set_option maxRecDepth 100000 in
theorem l_La_57 : q_ML "StuckSearchLaw" 57 m_Mo_feed 2 := ⟨Or.inl (q_i 883 (by rfl)), q_i 886 (by rfl), q_i 11 (by rfl), ⟨by decide, by decide⟩, by decide +kernel⟩
set_option maxRecDepth 100000 in
theorem l_La_58 : q_ML "StuckSearchLaw" 58 m_Mo_thrown 0 := ⟨Or.inl (q_i 879 (by rfl)), q_i 882 (by rfl), q_i 11 (by rfl), ⟨by decide, by decide⟩, by decide +kernel⟩
set_option maxRecDepth 100000 in
theorem l_La_62 : q_ML "StuckSearchLaw" 62 m_S_wipe 0 := ⟨Or.inl (q_i 273 (by rfl)), q_i 276 (by rfl), q_i 1 (by rfl), ⟨by decide, by decide⟩, by decide +kernel⟩
set_option maxRecDepth 100000 in
theorem l_La_65 : q_ML "StuckSearchLaw" 65 m_Mo_wipe 0 := ⟨Or.inl (q_i 888 (by rfl)), q_i 891 (by rfl), q_i 11 (by rfl), ⟨by decide, by decide⟩, by decide +kernel⟩
set_option maxRecDepth 100000 in
theorem l_La_66 : q_ML "StuckSearchLaw" 66 m_La_variable 4 := ⟨Or.inl (q_i 594 (by rfl)), q_i 596 (by rfl), q_i 0 (by rfl), ⟨by decide, by decide⟩, by decide +kernel⟩
set_option maxRecDepth 100000 in
theorem l_La_69 : q_ML "StuckSearchLaw" 69 m_Mo_variable 2 := ⟨Or.inl (q_i 892 (by rfl)), q_i 895 (by rfl), q_i 11 (by rfl), ⟨by decide, by decide⟩, by decide +kernel⟩
set_option maxRecDepth 100000 in
theorem l_La_70 : q_ML "StuckSearchLaw" 70 m_S_process 0 := ⟨Or.inl (q_i 277 (by rfl)), q_i 280 (by rfl), q_i 1 (by rfl), ⟨by decide, by decide⟩, by decide +kernel⟩
set_option maxRecDepth 100000 in
theorem l_La_73 : q_ML "StuckSearchLaw" 73 m_Mo_process 0 := ⟨Or.inl (q_i 904 (by rfl)), q_i 907 (by rfl), q_i 11 (by rfl), ⟨by decide, by decide⟩, by decide +kernel⟩
set_option maxRecDepth 100000 in
theorem l_La_74 : q_ML "StuckSearchLaw" 74 m_S_fault 0 := ⟨Or.inl (q_i 381 (by rfl)), q_i 384 (by rfl), q_i 1 (by rfl), ⟨by decide, by decide⟩, by decide +kernel⟩
set_option maxRecDepth 100000 in
theorem l_La_77 : q_ML "StuckSearchLaw" 77 m_Mo_fault 0 := ⟨Or.inl (q_i 948 (by rfl)), q_i 951 (by rfl), q_i 11 (by rfl), ⟨by decide, by decide⟩, by decide +kernel⟩
set_option maxRecDepth 100000 in
theorem l_La_78 : q_ML "StuckSearchLaw" 78 m_S_faultAt 0 := ⟨Or.inl (q_i 385 (by rfl)), q_i 388 (by rfl), q_i 1 (by rfl), ⟨by decide, by decide⟩, by decide +kernel⟩
set_option maxRecDepth 100000 in
theorem l_La_81 : q_ML "StuckSearchLaw" 81 m_Mo_faultAt 0 := ⟨Or.inl (q_i 952 (by rfl)), q_i 955 (by rfl), q_i 11 (by rfl), ⟨by decide, by decide⟩, by decide +kernel⟩
set_option maxRecDepth 100000 in
theorem l_La_82 : q_ML "StuckSearchLaw" 82 m_S_clear 0 := ⟨Or.inl (q_i 389 (by rfl)), q_i 392 (by rfl), q_i 1 (by rfl), ⟨by decide, by decide⟩, by decide +kernel⟩
set_option maxRecDepth 100000 in
theorem l_La_85 : q_ML "StuckSearchLaw" 85 m_Mo_clear 0 := ⟨Or.inl (q_i 900 (by rfl)), q_i 903 (by rfl), q_i 11 (by rfl), ⟨by decide, by decide⟩, by decide +kernel⟩
set_option maxRecDepth 100000 in
theorem l_La_86 : q_ML "StuckSearchLaw" 86 m_La_told 4 := ⟨Or.inl (q_i 606 (by rfl)), q_i 608 (by rfl), q_i 0 (by rfl), ⟨by decide, by decide⟩, by decide +kernel⟩
set_option maxRecDepth 100000 in
theorem l_La_88 : q_ML "StuckSearchLaw" 88 m_Mo_told 2 := ⟨Or.inl (q_i 956 (by rfl)), q_i 959 (by rfl), q_i 11 (by rfl), ⟨by decide, by decide⟩, by decide +kernel⟩
set_option maxRecDepth 100000 in
theorem l_La_89 : q_ML "StuckSearchLaw" 89 m_S_product 0 := ⟨Or.inl (q_i 397 (by rfl)), q_i 400 (by rfl), q_i 1 (by rfl), ⟨by decide, by decide⟩, by decide +kernel⟩
set_option maxRecDepth 100000 in
theorem l_La_92 : q_ML "StuckSearchLaw" 92 m_Mo_product 0 := ⟨Or.inl (q_i 999 (by rfl)), q_i 1002 (by rfl), q_i 11 (by rfl), ⟨by decide, by decide⟩, by decide +kernel⟩
set_option maxRecDepth 100000 in
theorem l_La_93 : q_ML "StuckSearchLaw" 93 m_S_stuck 0 := ⟨Or.inl (q_i 411 (by rfl)), q_i 414 (by rfl), q_i 1 (by rfl), ⟨by decide, by decide⟩, by decide +kernel⟩
set_option maxRecDepth 100000 in
theorem l_La_96 : q_ML "StuckSearchLaw" 96 m_Mo_stuck 0 := ⟨Or.inl (q_i 1003 (by rfl)), q_i 1006 (by rfl), q_i 11 (by rfl), ⟨by decide, by decide⟩, by decide +kernel⟩
set_option maxRecDepth 100000 in
theorem l_La_97 : q_ML "StuckSearchLaw" 97 m_S_ended 0 := ⟨Or.inl (q_i 496 (by rfl)), q_i 499 (by rfl), q_i 1 (by rfl), ⟨by decide, by decide⟩, by decide +kernel⟩
set_option maxRecDepth 100000 in
theorem l_La_100 : q_ML "StuckSearchLaw" 100 m_Mo_ended 0 := ⟨Or.inl (q_i 1024 (by rfl)), q_i 1027 (by rfl), q_i 11 (by rfl), ⟨by decide, by decide⟩, by decide +kernel⟩
set_option maxRecDepth 100000 in
theorem l_La_101 : q_ML "StuckSearchLaw" 101 m_La_place 4 := ⟨Or.inl (q_i 639 (by rfl)), q_i 641 (by rfl), q_i 0 (by rfl), ⟨by decide, by decide⟩, by decide +kernel⟩
set_option maxRecDepth 100000 in
theorem l_La_103 : q_ML "StuckSearchLaw" 103 m_Mo_place 2 := ⟨Or.inl (q_i 1028 (by rfl)), q_i 1031 (by rfl), q_i 11 (by rfl), ⟨by decide, by decide⟩, by decide +kernel⟩
set_option maxRecDepth 100000 in
theorem l_La_104 : q_ML "StuckSearchLaw" 104 m_La_value 4 := ⟨Or.inl (q_i 676 (by rfl)), q_i 678 (by rfl), q_i 0 (by rfl), ⟨by decide, by decide⟩, by decide +kernel⟩
set_option maxRecDepth 100000 in
theorem l_La_106 : q_ML "StuckSearchLaw" 106 m_Mo_value 2 := ⟨Or.inl (q_i 1032 (by rfl)), q_i 1035 (by rfl), q_i 11 (by rfl), ⟨by decide, by decide⟩, by decide +kernel⟩
set_option maxRecDepth 100000 in
theorem l_La_107 : q_ML "StuckSearchLaw" 107 m_S_moves 0 := ⟨Or.inl (q_i 500 (by rfl)), q_i 503 (by rfl), q_i 1 (by rfl), ⟨by decide, by decide⟩, by decide +kernel⟩
set_option maxRecDepth 100000 in
theorem l_La_110 : q_ML "StuckSearchLaw" 110 m_Mo_moves 0 := ⟨Or.inl (q_i 967 (by rfl)), q_i 970 (by rfl), q_i 11 (by rfl), ⟨by decide, by decide⟩, by decide +kernel⟩
set_option maxRecDepth 100000 in
theorem l_La_111 : q_ML "StuckSearchLaw" 111 m_La_move 3 := ⟨Or.inl (q_i 683 (by rfl)), q_i 685 (by rfl), q_i 0 (by rfl), ⟨by decide, by decide⟩, by decide +kernel⟩
set_option maxRecDepth 100000 in
theorem l_La_114 : q_ML "StuckSearchLaw" 114 m_Mo_move 1 := ⟨Or.inl (q_i 983 (by rfl)), q_i 986 (by rfl), q_i 11 (by rfl), ⟨by decide, by decide⟩, by decide +kernel⟩
set_option maxRecDepth 100000 in
theorem l_La_115 : q_ML "StuckSearchLaw" 115 m_S_restart 0 := ⟨Or.inl (q_i 511 (by rfl)), q_i 514 (by rfl), q_i 1 (by rfl), ⟨by decide, by decide⟩, by decide +kernel⟩
set_option maxRecDepth 100000 in
theorem l_La_118 : q_ML "StuckSearchLaw" 118 m_Mo_restart 0 := ⟨Or.inl (q_i 987 (by rfl)), q_i 990 (by rfl), q_i 11 (by rfl), ⟨by decide, by decide⟩, by decide +kernel⟩
set_option maxRecDepth 100000 in
theorem l_La_119 : q_ML "StuckSearchLaw" 119 m_La_now 3 := ⟨Or.inl (q_i 696 (by rfl)), q_i 698 (by rfl), q_i 0 (by rfl), ⟨by decide, by decide⟩, by decide +kernel⟩
set_option maxRecDepth 100000 in
theorem l_La_121 : q_ML "StuckSearchLaw" 121 m_Mo_now 1 := ⟨Or.inl (q_i 991 (by rfl)), q_i 994 (by rfl), q_i 11 (by rfl), ⟨by decide, by decide⟩, by decide +kernel⟩
set_option maxRecDepth 100000 in
theorem l_La_122 : q_ML "StuckSearchLaw" 122 m_La_has 3 := ⟨Or.inl (q_i 703 (by rfl)), q_i 705 (by rfl), q_i 0 (by rfl), ⟨by decide, by decide⟩, by decide +kernel⟩
set_option maxRecDepth 100000 in
theorem l_La_124 : q_ML "StuckSearchLaw" 124 m_Mo_has 1 := ⟨Or.inl (q_i 995 (by rfl)), q_i 998 (by rfl), q_i 11 (by rfl), ⟨by decide, by decide⟩, by decide +kernel⟩
set_option maxRecDepth 100000 in
theorem l_La_125 : q_ML "StuckSearchLaw" 125 m_La_falls 2 := ⟨Or.inl (q_i 710 (by rfl)), q_i 712 (by rfl), q_i 0 (by rfl), ⟨by decide, by decide⟩, by decide +kernel⟩
set_option maxRecDepth 100000 in
theorem l_La_128 : q_ML "StuckSearchLaw" 128 m_Mo_falls 0 := ⟨Or.inl (q_i 1036 (by rfl)), q_i 1039 (by rfl), q_i 11 (by rfl), ⟨by decide, by decide⟩, by decide +kernel⟩
set_option maxRecDepth 100000 in
theorem lo_Mo_1 : Jvm.Cond.methodLink "StuckSearchModel" 1 Lib.objectInit ∈ q_gw := q_i 753 (by rfl)
set_option maxRecDepth 100000 in
theorem l_Mo_108 : q_ML "StuckSearchModel" 108 m_Mo_begin 0 := ⟨Or.inl (q_i 896 (by rfl)), q_i 899 (by rfl), q_i 11 (by rfl), ⟨by decide, by decide⟩, by decide +kernel⟩
set_option maxRecDepth 100000 in
theorem l_Mo_120 : q_ML "StuckSearchModel" 120 m_Mo_beginRow 0 := ⟨Or.inl (q_i 912 (by rfl)), q_i 915 (by rfl), q_i 11 (by rfl), ⟨by decide, by decide⟩, by decide +kernel⟩
set_option maxRecDepth 100000 in
theorem l_Mo_126 : q_ML "StuckSearchModel" 126 m_Mo_byteAt 1 := ⟨Or.inl (q_i 920 (by rfl)), q_i 923 (by rfl), q_i 11 (by rfl), ⟨by decide, by decide⟩, by decide +kernel⟩
set_option maxRecDepth 100000 in
theorem l_Mo_139 : q_ML "StuckSearchModel" 139 m_Mo_lead 2 := ⟨Or.inl (q_i 936 (by rfl)), q_i 939 (by rfl), q_i 11 (by rfl), ⟨by decide, by decide⟩, by decide +kernel⟩
set_option maxRecDepth 100000 in
theorem l_Mo_146 : q_ML "StuckSearchModel" 146 m_Mo_take 0 := ⟨Or.inl (q_i 932 (by rfl)), q_i 935 (by rfl), q_i 11 (by rfl), ⟨by decide, by decide⟩, by decide +kernel⟩
set_option maxRecDepth 100000 in
theorem l_Mo_149 : q_ML "StuckSearchModel" 149 m_Mo_fail 2 := ⟨Or.inl (q_i 924 (by rfl)), q_i 927 (by rfl), q_i 11 (by rfl), ⟨by decide, by decide⟩, by decide +kernel⟩
set_option maxRecDepth 100000 in
theorem l_Mo_152 : q_ML "StuckSearchModel" 152 m_Mo_act 3 := ⟨Or.inl (q_i 944 (by rfl)), q_i 947 (by rfl), q_i 11 (by rfl), ⟨by decide, by decide⟩, by decide +kernel⟩
set_option maxRecDepth 100000 in
theorem l_Mo_156 : q_ML "StuckSearchModel" 156 m_Mo_beginChoices 0 := ⟨Or.inl (q_i 908 (by rfl)), q_i 911 (by rfl), q_i 11 (by rfl), ⟨by decide, by decide⟩, by decide +kernel⟩
set_option maxRecDepth 100000 in
theorem l_Mo_159 : q_ML "StuckSearchModel" 159 m_Mo_endRow 0 := ⟨Or.inl (q_i 928 (by rfl)), q_i 931 (by rfl), q_i 11 (by rfl), ⟨by decide, by decide⟩, by decide +kernel⟩
set_option maxRecDepth 100000 in
theorem l_Mo_162 : q_ML "StuckSearchModel" 162 m_Mo_readAct 0 := ⟨Or.inl (q_i 940 (by rfl)), q_i 943 (by rfl), q_i 11 (by rfl), ⟨by decide, by decide⟩, by decide +kernel⟩
set_option maxRecDepth 100000 in
theorem l_Mo_165 : q_ML "StuckSearchModel" 165 m_Mo_step 0 := ⟨Or.inl (q_i 916 (by rfl)), q_i 919 (by rfl), q_i 11 (by rfl), ⟨by decide, by decide⟩, by decide +kernel⟩
set_option maxRecDepth 100000 in
theorem l_Mo_168 : q_ML "StuckSearchModel" 168 m_Mo_noProcess 1 := ⟨Or.inl (q_i 960 (by rfl)), q_i 963 (by rfl), q_i 11 (by rfl), ⟨by decide, by decide⟩, by decide +kernel⟩
set_option maxRecDepth 100000 in
theorem l_Mo_172 : q_ML "StuckSearchModel" 172 m_Mo_ones 1 := ⟨Or.inl (q_i 964 (by rfl)), q_i 966 (by rfl), q_i 11 (by rfl), ⟨by decide, by decide⟩, by decide +kernel⟩
set_option maxRecDepth 100000 in
theorem l_Mo_175 : q_ML "StuckSearchModel" 175 m_Mo_goes 2 := ⟨Or.inl (q_i 979 (by rfl)), q_i 982 (by rfl), q_i 11 (by rfl), ⟨by decide, by decide⟩, by decide +kernel⟩
set_option maxRecDepth 100000 in
theorem l_Mo_179 : q_ML "StuckSearchModel" 179 m_Mo_fromNow 0 := ⟨Or.inl (q_i 971 (by rfl)), q_i 974 (by rfl), q_i 11 (by rfl), ⟨by decide, by decide⟩, by decide +kernel⟩
set_option maxRecDepth 100000 in
theorem l_Mo_182 : q_ML "StuckSearchModel" 182 m_Mo_possible 0 := ⟨Or.inl (q_i 975 (by rfl)), q_i 978 (by rfl), q_i 11 (by rfl), ⟨by decide, by decide⟩, by decide +kernel⟩
set_option maxRecDepth 100000 in
theorem l_Mo_186 : q_ML "StuckSearchModel" 186 m_Mo_apart 1 := ⟨Or.inl (q_i 1020 (by rfl)), q_i 1023 (by rfl), q_i 11 (by rfl), ⟨by decide, by decide⟩, by decide +kernel⟩
set_option maxRecDepth 100000 in
theorem l_Mo_190 : q_ML "StuckSearchModel" 190 m_Mo_number 1 := ⟨Or.inl (q_i 1012 (by rfl)), q_i 1015 (by rfl), q_i 11 (by rfl), ⟨by decide, by decide⟩, by decide +kernel⟩
set_option maxRecDepth 100000 in
theorem l_Mo_194 : q_ML "StuckSearchModel" 194 m_Mo_product 0 := ⟨Or.inl (q_i 1007 (by rfl)), q_i 1002 (by rfl), q_i 11 (by rfl), ⟨by decide, by decide⟩, by decide +kernel⟩
set_option maxRecDepth 100000 in
theorem l_Mo_197 : q_ML "StuckSearchModel" 197 m_Mo_walk 1 := ⟨Or.inl (q_i 1016 (by rfl)), q_i 1019 (by rfl), q_i 11 (by rfl), ⟨by decide, by decide⟩, by decide +kernel⟩
set_option maxRecDepth 100000 in
theorem l_Mo_206 : q_ML "StuckSearchModel" 206 m_Mo_know 0 := ⟨Or.inl (q_i 1008 (by rfl)), q_i 1011 (by rfl), q_i 11 (by rfl), ⟨by decide, by decide⟩, by decide +kernel⟩
set_option maxRecDepth 100000 in
theorem oi_1 : Jvm.Cond.instanceMethod Lib.objectInit ∈ q_gw := q_i 28 (by rfl)
set_option maxRecDepth 100000 in
theorem oi_2 : Jvm.Cond.code Lib.objectInit ⟨#[0xb1]⟩ 1 none ∈ q_gw := q_i 29 (by rfl)
set_option maxRecDepth 100000 in
theorem n_S_7 : q_N "StuckSearch" 7 1 2 := ⟨("StuckSearch$Tape", q_T1, 2), rfl, rfl, q_i 30 (by rfl), q_i 31 (by rfl), q_i 2 (by rfl)⟩
set_option maxRecDepth 100000 in
theorem n_S_16 : q_N "StuckSearch" 16 2 5 := ⟨("StuckSearch$World", q_T2, 5), rfl, rfl, q_i 46 (by rfl), q_i 47 (by rfl), q_i 3 (by rfl)⟩
set_option maxRecDepth 100000 in
theorem n_S_23 : q_N "StuckSearch" 23 4 9 := ⟨("StuckSearch$TextReader", q_T4, 9), rfl, rfl, q_i 114 (by rfl), q_i 115 (by rfl), q_i 6 (by rfl)⟩
set_option maxRecDepth 100000 in
theorem n_S_32 : q_N "StuckSearch" 32 6 12 := ⟨("StuckSearch$Search", q_T6, 12), rfl, rfl, q_i 173 (by rfl), q_i 174 (by rfl), q_i 8 (by rfl)⟩
set_option maxRecDepth 100000 in
theorem n_S_41 : q_N "StuckSearch" 41 8 2 := ⟨("StuckSearch$State", q_T8, 2), rfl, rfl, q_i 252 (by rfl), q_i 194 (by rfl), q_i 10 (by rfl)⟩
set_option maxRecDepth 100000 in
theorem n_Se_9 : q_N "StuckSearch$Search" 9 7 2 := ⟨("StuckSearch$StateSet", q_T7, 2), rfl, rfl, q_i 179 (by rfl), q_i 180 (by rfl), q_i 9 (by rfl)⟩
set_option maxRecDepth 100000 in
theorem n_Se_27 : q_N "StuckSearch$Search" 27 8 2 := ⟨("StuckSearch$State", q_T8, 2), rfl, rfl, q_i 193 (by rfl), q_i 194 (by rfl), q_i 10 (by rfl)⟩
set_option maxRecDepth 100000 in
theorem k_Re_9 : Jvm.Cond.classLink "StuckSearch$TextReader" 9 "StuckSearch$Part" ∈ q_gw := q_i 120 (by rfl)
set_option maxRecDepth 100000 in
theorem n_Re_9 : q_N "StuckSearch$TextReader" 9 5 3 := ⟨("StuckSearch$Part", q_T5, 3), rfl, rfl, q_i 120 (by rfl), q_i 122 (by rfl), q_i 7 (by rfl)⟩
set_option maxRecDepth 100000 in
theorem k_Wo_18 : Jvm.Cond.classLink "StuckSearch$World" 18 "StuckSearch$Course" ∈ q_gw := q_i 52 (by rfl)
set_option maxRecDepth 100000 in
theorem n_Wo_18 : q_N "StuckSearch$World" 18 3 6 := ⟨("StuckSearch$Course", q_T3, 6), rfl, rfl, q_i 52 (by rfl), q_i 57 (by rfl), q_i 5 (by rfl)⟩
set_option maxRecDepth 100000 in
theorem n_La_8 : q_N "StuckSearchLaw" 8 0 6 := ⟨("StuckSearch", q_T0, 6), rfl, rfl, q_i 22 (by rfl), q_i 23 (by rfl), q_i 1 (by rfl)⟩
set_option maxRecDepth 100000 in
theorem n_La_47 : q_N "StuckSearchLaw" 47 9 41 := ⟨("StuckSearchModel", q_T9, 41), rfl, rfl, q_i 748 (by rfl), q_i 749 (by rfl), q_i 11 (by rfl)⟩
set_option maxRecDepth 100000 in
theorem c_In_265 : Jvm.Cond.constant "java/lang/Integer" 265 1431655765 ∈ q_gw := q_i 508 (by rfl)
set_option maxRecDepth 100000 in
theorem c_In_266 : Jvm.Cond.constant "java/lang/Integer" 266 858993459 ∈ q_gw := q_i 509 (by rfl)
set_option maxRecDepth 100000 in
theorem c_In_267 : Jvm.Cond.constant "java/lang/Integer" 267 252645135 ∈ q_gw := q_i 510 (by rfl)
set_option maxRecDepth 100000 in
theorem c_Wo_45 : Jvm.Cond.constantLong "StuckSearch$World" 45 30000 ∈ q_gw := q_i 409 (by rfl)
set_option maxRecDepth 100000 in
theorem c_La_50 : Jvm.Cond.constantLong "StuckSearchLaw" 50 4294967295 ∈ q_gw := q_i 1040 (by rfl)
set_option maxRecDepth 100000 in
theorem c_Mo_96 : Jvm.Cond.constantLong "StuckSearchModel" 96 255 ∈ q_gw := q_i 887 (by rfl)
set_option maxRecDepth 100000 in
theorem c_Lo_314 : Jvm.Cond.constantLong "java/lang/Long" 314 6148914691236517205 ∈ q_gw := q_i 457 (by rfl)
set_option maxRecDepth 100000 in
theorem c_Lo_316 : Jvm.Cond.constantLong "java/lang/Long" 316 3689348814741910323 ∈ q_gw := q_i 458 (by rfl)
set_option maxRecDepth 100000 in
theorem c_Lo_318 : Jvm.Cond.constantLong "java/lang/Long" 318 1085102592571150095 ∈ q_gw := q_i 459 (by rfl)
set_option maxRecDepth 100000 in
theorem a_i : Jvm.Cond.arrayClass .int ∈ q_gw := q_i 89 (by rfl)
set_option maxRecDepth 100000 in
theorem a_l : Jvm.Cond.arrayClass .long ∈ q_gw := q_i 192 (by rfl)
set_option maxRecDepth 100000 in
theorem a_b : Jvm.Cond.arrayClass .byte ∈ q_gw := q_i 45 (by rfl)
set_option maxRecDepth 100000 in
theorem a_z : Jvm.Cond.arrayClass .boolean ∈ q_gw := q_i 878 (by rfl)
set_option maxRecDepth 100000 in
theorem a_Co : Jvm.Cond.arrayOver (.object "StuckSearch$Course") ∈ q_gw := q_i 53 (by rfl)
set_option maxRecDepth 100000 in
theorem a_Pa : Jvm.Cond.arrayOver (.object "StuckSearch$Part") ∈ q_gw := q_i 121 (by rfl)
end NAMES2
end
section
/-! names, 3a: decode tables, printed by gen/names2.py -/
section NAMES3
theorem q_tb {b : ByteArray} {T : List (Nat × Instr × Nat)} (h : ∀ q ∈ T, decode b q.1 = .ok q.2) (i : Nat) {pc : Nat} {ins : Instr} {ln : Nat} (hi : T[i]? = some (pc, ins, ln)) : decode b pc = .ok (ins, ln) := h (pc, ins, ln) (List.mem_of_getElem? hi)
def T_Ta_init : List (Nat × Instr × Nat) := [(0, .aload_n 0, 1), (1, .invokespecial 3, 3), (4, .aload_n 0, 1), (5, .bipush 100, 2), (7, .newarray .byte, 2), (9, .putfield 9, 3), (12, .return_, 1)]
set_option maxRecDepth 100000 in
theorem t_Ta_init : ∀ q ∈ T_Ta_init, decode prog_7_method_1_code q.1 = .ok q.2 := by decide +kernel
theorem d_Ta_init_0 : decode prog_7_method_1_code 0 = .ok (.aload_n 0, 1) := q_tb t_Ta_init 0 rfl
theorem d_Ta_init_1 : decode prog_7_method_1_code 1 = .ok (.invokespecial 3, 3) := q_tb t_Ta_init 1 rfl
theorem d_Ta_init_4 : decode prog_7_method_1_code 4 = .ok (.aload_n 0, 1) := q_tb t_Ta_init 2 rfl
theorem d_Ta_init_5 : decode prog_7_method_1_code 5 = .ok (.bipush 100, 2) := q_tb t_Ta_init 3 rfl
theorem d_Ta_init_7 : decode prog_7_method_1_code 7 = .ok (.newarray .byte, 2) := q_tb t_Ta_init 4 rfl
theorem d_Ta_init_9 : decode prog_7_method_1_code 9 = .ok (.putfield 9, 3) := q_tb t_Ta_init 5 rfl
theorem d_Ta_init_12 : decode prog_7_method_1_code 12 = .ok (.return_, 1) := q_tb t_Ta_init 6 rfl
def T_Co_init : List (Nat × Instr × Nat) := [(0, .aload_n 0, 1), (1, .invokespecial 3, 3), (4, .aload_n 0, 1), (5, .iconst 1, 1), (6, .putfield 9, 3), (9, .aload_n 0, 1), (10, .bipush 13, 2), (12, .newarray .int, 2), (14, .putfield 15, 3), (17, .aload_n 0, 1), (18, .bipush 13, 2), (20, .newarray .int, 2), (22, .putfield 19, 3), (25, .aload_n 0, 1), (26, .bipush 13, 2), (28, .newarray .int, 2), (30, .putfield 22, 3), (33, .aload_n 0, 1), (34, .bipush 13, 2), (36, .newarray .int, 2), (38, .putfield 25, 3), (41, .return_, 1)]
set_option maxRecDepth 100000 in
theorem t_Co_init : ∀ q ∈ T_Co_init, decode prog_2_method_1_code q.1 = .ok q.2 := by decide +kernel
theorem d_Co_init_0 : decode prog_2_method_1_code 0 = .ok (.aload_n 0, 1) := q_tb t_Co_init 0 rfl
theorem d_Co_init_1 : decode prog_2_method_1_code 1 = .ok (.invokespecial 3, 3) := q_tb t_Co_init 1 rfl
theorem d_Co_init_4 : decode prog_2_method_1_code 4 = .ok (.aload_n 0, 1) := q_tb t_Co_init 2 rfl
theorem d_Co_init_5 : decode prog_2_method_1_code 5 = .ok (.iconst 1, 1) := q_tb t_Co_init 3 rfl
theorem d_Co_init_6 : decode prog_2_method_1_code 6 = .ok (.putfield 9, 3) := q_tb t_Co_init 4 rfl
theorem d_Co_init_9 : decode prog_2_method_1_code 9 = .ok (.aload_n 0, 1) := q_tb t_Co_init 5 rfl
theorem d_Co_init_10 : decode prog_2_method_1_code 10 = .ok (.bipush 13, 2) := q_tb t_Co_init 6 rfl
theorem d_Co_init_12 : decode prog_2_method_1_code 12 = .ok (.newarray .int, 2) := q_tb t_Co_init 7 rfl
theorem d_Co_init_14 : decode prog_2_method_1_code 14 = .ok (.putfield 15, 3) := q_tb t_Co_init 8 rfl
theorem d_Co_init_17 : decode prog_2_method_1_code 17 = .ok (.aload_n 0, 1) := q_tb t_Co_init 9 rfl
theorem d_Co_init_18 : decode prog_2_method_1_code 18 = .ok (.bipush 13, 2) := q_tb t_Co_init 10 rfl
theorem d_Co_init_20 : decode prog_2_method_1_code 20 = .ok (.newarray .int, 2) := q_tb t_Co_init 11 rfl
theorem d_Co_init_22 : decode prog_2_method_1_code 22 = .ok (.putfield 19, 3) := q_tb t_Co_init 12 rfl
theorem d_Co_init_25 : decode prog_2_method_1_code 25 = .ok (.aload_n 0, 1) := q_tb t_Co_init 13 rfl
theorem d_Co_init_26 : decode prog_2_method_1_code 26 = .ok (.bipush 13, 2) := q_tb t_Co_init 14 rfl
theorem d_Co_init_28 : decode prog_2_method_1_code 28 = .ok (.newarray .int, 2) := q_tb t_Co_init 15 rfl
theorem d_Co_init_30 : decode prog_2_method_1_code 30 = .ok (.putfield 22, 3) := q_tb t_Co_init 16 rfl
theorem d_Co_init_33 : decode prog_2_method_1_code 33 = .ok (.aload_n 0, 1) := q_tb t_Co_init 17 rfl
theorem d_Co_init_34 : decode prog_2_method_1_code 34 = .ok (.bipush 13, 2) := q_tb t_Co_init 18 rfl
theorem d_Co_init_36 : decode prog_2_method_1_code 36 = .ok (.newarray .int, 2) := q_tb t_Co_init 19 rfl
theorem d_Co_init_38 : decode prog_2_method_1_code 38 = .ok (.putfield 25, 3) := q_tb t_Co_init 20 rfl
theorem d_Co_init_41 : decode prog_2_method_1_code 41 = .ok (.return_, 1) := q_tb t_Co_init 21 rfl
def T_Re_init0 : List (Nat × Instr × Nat) := [(0, .aload_n 0, 1), (1, .invokespecial 3, 3), (4, .aload_n 0, 1), (5, .bipush 13, 2), (7, .anewarray 9, 3), (10, .putfield 11, 3), (13, .aload_n 0, 1), (14, .bipush 13, 2), (16, .anewarray 9, 3), (19, .putfield 17, 3), (22, .aload_n 0, 1), (23, .new 9, 3), (26, .dup, 1), (27, .invokespecial 20, 3), (30, .putfield 21, 3), (33, .aload_n 0, 1), (34, .iconst (-1), 1), (35, .putfield 25, 3), (38, .aload_n 0, 1), (39, .aload_n 1, 1), (40, .putfield 29, 3), (43, .aload_n 0, 1), (44, .aload_n 2, 1), (45, .putfield 33, 3), (48, .iconst 0, 1), (49, .istore_n 3, 1), (50, .iload_n 3, 1), (51, .bipush 12, 2), (53, .if_icmp .gt 35, 3), (56, .aload_n 0, 1), (57, .getfield 11, 3), (60, .iload_n 3, 1), (61, .new 9, 3), (64, .dup, 1), (65, .invokespecial 20, 3), (68, .aastore, 1), (69, .aload_n 0, 1), (70, .getfield 17, 3), (73, .iload_n 3, 1), (74, .new 9, 3)]
set_option maxRecDepth 100000 in
theorem t_Re_init0 : ∀ q ∈ T_Re_init0, decode prog_8_method_1_code q.1 = .ok q.2 := by decide +kernel
theorem d_Re_init_0 : decode prog_8_method_1_code 0 = .ok (.aload_n 0, 1) := q_tb t_Re_init0 0 rfl
theorem d_Re_init_1 : decode prog_8_method_1_code 1 = .ok (.invokespecial 3, 3) := q_tb t_Re_init0 1 rfl
theorem d_Re_init_4 : decode prog_8_method_1_code 4 = .ok (.aload_n 0, 1) := q_tb t_Re_init0 2 rfl
theorem d_Re_init_5 : decode prog_8_method_1_code 5 = .ok (.bipush 13, 2) := q_tb t_Re_init0 3 rfl
theorem d_Re_init_7 : decode prog_8_method_1_code 7 = .ok (.anewarray 9, 3) := q_tb t_Re_init0 4 rfl
theorem d_Re_init_10 : decode prog_8_method_1_code 10 = .ok (.putfield 11, 3) := q_tb t_Re_init0 5 rfl
theorem d_Re_init_13 : decode prog_8_method_1_code 13 = .ok (.aload_n 0, 1) := q_tb t_Re_init0 6 rfl
theorem d_Re_init_14 : decode prog_8_method_1_code 14 = .ok (.bipush 13, 2) := q_tb t_Re_init0 7 rfl
theorem d_Re_init_16 : decode prog_8_method_1_code 16 = .ok (.anewarray 9, 3) := q_tb t_Re_init0 8 rfl
theorem d_Re_init_19 : decode prog_8_method_1_code 19 = .ok (.putfield 17, 3) := q_tb t_Re_init0 9 rfl
theorem d_Re_init_22 : decode prog_8_method_1_code 22 = .ok (.aload_n 0, 1) := q_tb t_Re_init0 10 rfl
theorem d_Re_init_23 : decode prog_8_method_1_code 23 = .ok (.new 9, 3) := q_tb t_Re_init0 11 rfl
theorem d_Re_init_26 : decode prog_8_method_1_code 26 = .ok (.dup, 1) := q_tb t_Re_init0 12 rfl
theorem d_Re_init_27 : decode prog_8_method_1_code 27 = .ok (.invokespecial 20, 3) := q_tb t_Re_init0 13 rfl
theorem d_Re_init_30 : decode prog_8_method_1_code 30 = .ok (.putfield 21, 3) := q_tb t_Re_init0 14 rfl
theorem d_Re_init_33 : decode prog_8_method_1_code 33 = .ok (.aload_n 0, 1) := q_tb t_Re_init0 15 rfl
theorem d_Re_init_34 : decode prog_8_method_1_code 34 = .ok (.iconst (-1), 1) := q_tb t_Re_init0 16 rfl
theorem d_Re_init_35 : decode prog_8_method_1_code 35 = .ok (.putfield 25, 3) := q_tb t_Re_init0 17 rfl
theorem d_Re_init_38 : decode prog_8_method_1_code 38 = .ok (.aload_n 0, 1) := q_tb t_Re_init0 18 rfl
theorem d_Re_init_39 : decode prog_8_method_1_code 39 = .ok (.aload_n 1, 1) := q_tb t_Re_init0 19 rfl
theorem d_Re_init_40 : decode prog_8_method_1_code 40 = .ok (.putfield 29, 3) := q_tb t_Re_init0 20 rfl
theorem d_Re_init_43 : decode prog_8_method_1_code 43 = .ok (.aload_n 0, 1) := q_tb t_Re_init0 21 rfl
theorem d_Re_init_44 : decode prog_8_method_1_code 44 = .ok (.aload_n 2, 1) := q_tb t_Re_init0 22 rfl
theorem d_Re_init_45 : decode prog_8_method_1_code 45 = .ok (.putfield 33, 3) := q_tb t_Re_init0 23 rfl
theorem d_Re_init_48 : decode prog_8_method_1_code 48 = .ok (.iconst 0, 1) := q_tb t_Re_init0 24 rfl
theorem d_Re_init_49 : decode prog_8_method_1_code 49 = .ok (.istore_n 3, 1) := q_tb t_Re_init0 25 rfl
theorem d_Re_init_50 : decode prog_8_method_1_code 50 = .ok (.iload_n 3, 1) := q_tb t_Re_init0 26 rfl
theorem d_Re_init_51 : decode prog_8_method_1_code 51 = .ok (.bipush 12, 2) := q_tb t_Re_init0 27 rfl
theorem d_Re_init_53 : decode prog_8_method_1_code 53 = .ok (.if_icmp .gt 35, 3) := q_tb t_Re_init0 28 rfl
theorem d_Re_init_56 : decode prog_8_method_1_code 56 = .ok (.aload_n 0, 1) := q_tb t_Re_init0 29 rfl
theorem d_Re_init_57 : decode prog_8_method_1_code 57 = .ok (.getfield 11, 3) := q_tb t_Re_init0 30 rfl
theorem d_Re_init_60 : decode prog_8_method_1_code 60 = .ok (.iload_n 3, 1) := q_tb t_Re_init0 31 rfl
theorem d_Re_init_61 : decode prog_8_method_1_code 61 = .ok (.new 9, 3) := q_tb t_Re_init0 32 rfl
theorem d_Re_init_64 : decode prog_8_method_1_code 64 = .ok (.dup, 1) := q_tb t_Re_init0 33 rfl
theorem d_Re_init_65 : decode prog_8_method_1_code 65 = .ok (.invokespecial 20, 3) := q_tb t_Re_init0 34 rfl
theorem d_Re_init_68 : decode prog_8_method_1_code 68 = .ok (.aastore, 1) := q_tb t_Re_init0 35 rfl
theorem d_Re_init_69 : decode prog_8_method_1_code 69 = .ok (.aload_n 0, 1) := q_tb t_Re_init0 36 rfl
theorem d_Re_init_70 : decode prog_8_method_1_code 70 = .ok (.getfield 17, 3) := q_tb t_Re_init0 37 rfl
theorem d_Re_init_73 : decode prog_8_method_1_code 73 = .ok (.iload_n 3, 1) := q_tb t_Re_init0 38 rfl
theorem d_Re_init_74 : decode prog_8_method_1_code 74 = .ok (.new 9, 3) := q_tb t_Re_init0 39 rfl
def T_Re_init1 : List (Nat × Instr × Nat) := [(77, .dup, 1), (78, .invokespecial 20, 3), (81, .aastore, 1), (82, .iinc 3 1, 3), (85, .goto (-35), 3), (88, .return_, 1)]
set_option maxRecDepth 100000 in
theorem t_Re_init1 : ∀ q ∈ T_Re_init1, decode prog_8_method_1_code q.1 = .ok q.2 := by decide +kernel
theorem d_Re_init_77 : decode prog_8_method_1_code 77 = .ok (.dup, 1) := q_tb t_Re_init1 0 rfl
theorem d_Re_init_78 : decode prog_8_method_1_code 78 = .ok (.invokespecial 20, 3) := q_tb t_Re_init1 1 rfl
theorem d_Re_init_81 : decode prog_8_method_1_code 81 = .ok (.aastore, 1) := q_tb t_Re_init1 2 rfl
theorem d_Re_init_82 : decode prog_8_method_1_code 82 = .ok (.iinc 3 1, 3) := q_tb t_Re_init1 3 rfl
theorem d_Re_init_85 : decode prog_8_method_1_code 85 = .ok (.goto (-35), 3) := q_tb t_Re_init1 4 rfl
theorem d_Re_init_88 : decode prog_8_method_1_code 88 = .ok (.return_, 1) := q_tb t_Re_init1 5 rfl
def T_Pa_init : List (Nat × Instr × Nat) := [(0, .aload_n 0, 1), (1, .invokespecial 1, 3), (4, .return_, 1)]
set_option maxRecDepth 100000 in
theorem t_Pa_init : ∀ q ∈ T_Pa_init, decode prog_3_method_1_code q.1 = .ok q.2 := by decide +kernel
theorem d_Pa_init_0 : decode prog_3_method_1_code 0 = .ok (.aload_n 0, 1) := q_tb t_Pa_init 0 rfl
theorem d_Pa_init_1 : decode prog_3_method_1_code 1 = .ok (.invokespecial 1, 3) := q_tb t_Pa_init 1 rfl
theorem d_Pa_init_4 : decode prog_3_method_1_code 4 = .ok (.return_, 1) := q_tb t_Pa_init 2 rfl
def T_St_init : List (Nat × Instr × Nat) := [(0, .aload_n 0, 1), (1, .invokespecial 3, 3), (4, .aload_n 0, 1), (5, .bipush 6, 2), (7, .newarray .int, 2), (9, .putfield 9, 3), (12, .aload_n 0, 1), (13, .iconst 5, 1), (14, .newarray .int, 2), (16, .putfield 15, 3), (19, .return_, 1)]
set_option maxRecDepth 100000 in
theorem t_St_init : ∀ q ∈ T_St_init, decode prog_5_method_1_code q.1 = .ok q.2 := by decide +kernel
theorem d_St_init_0 : decode prog_5_method_1_code 0 = .ok (.aload_n 0, 1) := q_tb t_St_init 0 rfl
theorem d_St_init_1 : decode prog_5_method_1_code 1 = .ok (.invokespecial 3, 3) := q_tb t_St_init 1 rfl
theorem d_St_init_4 : decode prog_5_method_1_code 4 = .ok (.aload_n 0, 1) := q_tb t_St_init 2 rfl
theorem d_St_init_5 : decode prog_5_method_1_code 5 = .ok (.bipush 6, 2) := q_tb t_St_init 3 rfl
theorem d_St_init_7 : decode prog_5_method_1_code 7 = .ok (.newarray .int, 2) := q_tb t_St_init 4 rfl
theorem d_St_init_9 : decode prog_5_method_1_code 9 = .ok (.putfield 9, 3) := q_tb t_St_init 5 rfl
theorem d_St_init_12 : decode prog_5_method_1_code 12 = .ok (.aload_n 0, 1) := q_tb t_St_init 6 rfl
theorem d_St_init_13 : decode prog_5_method_1_code 13 = .ok (.iconst 5, 1) := q_tb t_St_init 7 rfl
theorem d_St_init_14 : decode prog_5_method_1_code 14 = .ok (.newarray .int, 2) := q_tb t_St_init 8 rfl
theorem d_St_init_16 : decode prog_5_method_1_code 16 = .ok (.putfield 15, 3) := q_tb t_St_init 9 rfl
theorem d_St_init_19 : decode prog_5_method_1_code 19 = .ok (.return_, 1) := q_tb t_St_init 10 rfl
def T_Re_read0 : List (Nat × Instr × Nat) := [(0, .aload_n 0, 1), (1, .iconst 0, 1), (2, .putfield 37, 3), (5, .aload_n 0, 1), (6, .iconst (-1), 1), (7, .putfield 25, 3), (10, .aload_n 0, 1), (11, .iconst 0, 1), (12, .putfield 40, 3), (15, .aload_n 0, 1), (16, .iconst 0, 1), (17, .putfield 43, 3), (20, .aload_n 1, 1), (21, .invokevirtual 46, 3), (24, .aload_n 0, 1), (25, .invokevirtual 51, 3), (28, .iconst 0, 1), (29, .istore_n 2, 1), (30, .iload_n 2, 1), (31, .bipush 100, 2), (33, .if_icmp .ge 35, 3), (36, .aload_n 0, 1), (37, .getfield 40, 3), (40, .aload_n 0, 1), (41, .getfield 29, 3), (44, .getfield 54, 3), (47, .if_icmp .ge 21, 3), (50, .aload_n 0, 1), (51, .getfield 37, 3), (54, .ifCond .ne 14, 3), (57, .aload_n 0, 1), (58, .aload_n 1, 1), (59, .invokevirtual 59, 3), (62, .iinc 2 1, 3), (65, .goto (-35), 3), (68, .aload_n 0, 1), (69, .getfield 37, 3), (72, .ifCond .ne 15, 3), (75, .aload_n 0, 1), (76, .getfield 43, 3)]
set_option maxRecDepth 100000 in
theorem t_Re_read0 : ∀ q ∈ T_Re_read0, decode prog_8_method_2_code q.1 = .ok q.2 := by decide +kernel
theorem d_Re_read_0 : decode prog_8_method_2_code 0 = .ok (.aload_n 0, 1) := q_tb t_Re_read0 0 rfl
theorem d_Re_read_1 : decode prog_8_method_2_code 1 = .ok (.iconst 0, 1) := q_tb t_Re_read0 1 rfl
theorem d_Re_read_2 : decode prog_8_method_2_code 2 = .ok (.putfield 37, 3) := q_tb t_Re_read0 2 rfl
theorem d_Re_read_5 : decode prog_8_method_2_code 5 = .ok (.aload_n 0, 1) := q_tb t_Re_read0 3 rfl
theorem d_Re_read_6 : decode prog_8_method_2_code 6 = .ok (.iconst (-1), 1) := q_tb t_Re_read0 4 rfl
theorem d_Re_read_7 : decode prog_8_method_2_code 7 = .ok (.putfield 25, 3) := q_tb t_Re_read0 5 rfl
theorem d_Re_read_10 : decode prog_8_method_2_code 10 = .ok (.aload_n 0, 1) := q_tb t_Re_read0 6 rfl
theorem d_Re_read_11 : decode prog_8_method_2_code 11 = .ok (.iconst 0, 1) := q_tb t_Re_read0 7 rfl
theorem d_Re_read_12 : decode prog_8_method_2_code 12 = .ok (.putfield 40, 3) := q_tb t_Re_read0 8 rfl
theorem d_Re_read_15 : decode prog_8_method_2_code 15 = .ok (.aload_n 0, 1) := q_tb t_Re_read0 9 rfl
theorem d_Re_read_16 : decode prog_8_method_2_code 16 = .ok (.iconst 0, 1) := q_tb t_Re_read0 10 rfl
theorem d_Re_read_17 : decode prog_8_method_2_code 17 = .ok (.putfield 43, 3) := q_tb t_Re_read0 11 rfl
theorem d_Re_read_20 : decode prog_8_method_2_code 20 = .ok (.aload_n 1, 1) := q_tb t_Re_read0 12 rfl
theorem d_Re_read_21 : decode prog_8_method_2_code 21 = .ok (.invokevirtual 46, 3) := q_tb t_Re_read0 13 rfl
theorem d_Re_read_24 : decode prog_8_method_2_code 24 = .ok (.aload_n 0, 1) := q_tb t_Re_read0 14 rfl
theorem d_Re_read_25 : decode prog_8_method_2_code 25 = .ok (.invokevirtual 51, 3) := q_tb t_Re_read0 15 rfl
theorem d_Re_read_28 : decode prog_8_method_2_code 28 = .ok (.iconst 0, 1) := q_tb t_Re_read0 16 rfl
theorem d_Re_read_29 : decode prog_8_method_2_code 29 = .ok (.istore_n 2, 1) := q_tb t_Re_read0 17 rfl
theorem d_Re_read_30 : decode prog_8_method_2_code 30 = .ok (.iload_n 2, 1) := q_tb t_Re_read0 18 rfl
theorem d_Re_read_31 : decode prog_8_method_2_code 31 = .ok (.bipush 100, 2) := q_tb t_Re_read0 19 rfl
theorem d_Re_read_33 : decode prog_8_method_2_code 33 = .ok (.if_icmp .ge 35, 3) := q_tb t_Re_read0 20 rfl
theorem d_Re_read_36 : decode prog_8_method_2_code 36 = .ok (.aload_n 0, 1) := q_tb t_Re_read0 21 rfl
theorem d_Re_read_37 : decode prog_8_method_2_code 37 = .ok (.getfield 40, 3) := q_tb t_Re_read0 22 rfl
theorem d_Re_read_40 : decode prog_8_method_2_code 40 = .ok (.aload_n 0, 1) := q_tb t_Re_read0 23 rfl
theorem d_Re_read_41 : decode prog_8_method_2_code 41 = .ok (.getfield 29, 3) := q_tb t_Re_read0 24 rfl
theorem d_Re_read_44 : decode prog_8_method_2_code 44 = .ok (.getfield 54, 3) := q_tb t_Re_read0 25 rfl
theorem d_Re_read_47 : decode prog_8_method_2_code 47 = .ok (.if_icmp .ge 21, 3) := q_tb t_Re_read0 26 rfl
theorem d_Re_read_50 : decode prog_8_method_2_code 50 = .ok (.aload_n 0, 1) := q_tb t_Re_read0 27 rfl
theorem d_Re_read_51 : decode prog_8_method_2_code 51 = .ok (.getfield 37, 3) := q_tb t_Re_read0 28 rfl
theorem d_Re_read_54 : decode prog_8_method_2_code 54 = .ok (.ifCond .ne 14, 3) := q_tb t_Re_read0 29 rfl
theorem d_Re_read_57 : decode prog_8_method_2_code 57 = .ok (.aload_n 0, 1) := q_tb t_Re_read0 30 rfl
theorem d_Re_read_58 : decode prog_8_method_2_code 58 = .ok (.aload_n 1, 1) := q_tb t_Re_read0 31 rfl
theorem d_Re_read_59 : decode prog_8_method_2_code 59 = .ok (.invokevirtual 59, 3) := q_tb t_Re_read0 32 rfl
theorem d_Re_read_62 : decode prog_8_method_2_code 62 = .ok (.iinc 2 1, 3) := q_tb t_Re_read0 33 rfl
theorem d_Re_read_65 : decode prog_8_method_2_code 65 = .ok (.goto (-35), 3) := q_tb t_Re_read0 34 rfl
theorem d_Re_read_68 : decode prog_8_method_2_code 68 = .ok (.aload_n 0, 1) := q_tb t_Re_read0 35 rfl
theorem d_Re_read_69 : decode prog_8_method_2_code 69 = .ok (.getfield 37, 3) := q_tb t_Re_read0 36 rfl
theorem d_Re_read_72 : decode prog_8_method_2_code 72 = .ok (.ifCond .ne 15, 3) := q_tb t_Re_read0 37 rfl
theorem d_Re_read_75 : decode prog_8_method_2_code 75 = .ok (.aload_n 0, 1) := q_tb t_Re_read0 38 rfl
theorem d_Re_read_76 : decode prog_8_method_2_code 76 = .ok (.getfield 43, 3) := q_tb t_Re_read0 39 rfl
def T_Re_read1 : List (Nat × Instr × Nat) := [(79, .ifCond .le 8, 3), (82, .aload_n 0, 1), (83, .iconst 1, 1), (84, .invokevirtual 63, 3), (87, .aload_n 0, 1), (88, .getfield 37, 3), (91, .ifCond .eq 5, 3), (94, .iconst 0, 1), (95, .ireturn, 1), (96, .aload_n 0, 1), (97, .invokevirtual 67, 3), (100, .aload_n 1, 1), (101, .aload_n 0, 1), (102, .getfield 11, 3), (105, .aload_n 0, 1), (106, .getfield 43, 3), (109, .aaload, 1), (110, .invokevirtual 70, 3), (113, .iconst 1, 1), (114, .ireturn, 1)]
set_option maxRecDepth 100000 in
theorem t_Re_read1 : ∀ q ∈ T_Re_read1, decode prog_8_method_2_code q.1 = .ok q.2 := by decide +kernel
theorem d_Re_read_79 : decode prog_8_method_2_code 79 = .ok (.ifCond .le 8, 3) := q_tb t_Re_read1 0 rfl
theorem d_Re_read_82 : decode prog_8_method_2_code 82 = .ok (.aload_n 0, 1) := q_tb t_Re_read1 1 rfl
theorem d_Re_read_83 : decode prog_8_method_2_code 83 = .ok (.iconst 1, 1) := q_tb t_Re_read1 2 rfl
theorem d_Re_read_84 : decode prog_8_method_2_code 84 = .ok (.invokevirtual 63, 3) := q_tb t_Re_read1 3 rfl
theorem d_Re_read_87 : decode prog_8_method_2_code 87 = .ok (.aload_n 0, 1) := q_tb t_Re_read1 4 rfl
theorem d_Re_read_88 : decode prog_8_method_2_code 88 = .ok (.getfield 37, 3) := q_tb t_Re_read1 5 rfl
theorem d_Re_read_91 : decode prog_8_method_2_code 91 = .ok (.ifCond .eq 5, 3) := q_tb t_Re_read1 6 rfl
theorem d_Re_read_94 : decode prog_8_method_2_code 94 = .ok (.iconst 0, 1) := q_tb t_Re_read1 7 rfl
theorem d_Re_read_95 : decode prog_8_method_2_code 95 = .ok (.ireturn, 1) := q_tb t_Re_read1 8 rfl
theorem d_Re_read_96 : decode prog_8_method_2_code 96 = .ok (.aload_n 0, 1) := q_tb t_Re_read1 9 rfl
theorem d_Re_read_97 : decode prog_8_method_2_code 97 = .ok (.invokevirtual 67, 3) := q_tb t_Re_read1 10 rfl
theorem d_Re_read_100 : decode prog_8_method_2_code 100 = .ok (.aload_n 1, 1) := q_tb t_Re_read1 11 rfl
theorem d_Re_read_101 : decode prog_8_method_2_code 101 = .ok (.aload_n 0, 1) := q_tb t_Re_read1 12 rfl
theorem d_Re_read_102 : decode prog_8_method_2_code 102 = .ok (.getfield 11, 3) := q_tb t_Re_read1 13 rfl
theorem d_Re_read_105 : decode prog_8_method_2_code 105 = .ok (.aload_n 0, 1) := q_tb t_Re_read1 14 rfl
theorem d_Re_read_106 : decode prog_8_method_2_code 106 = .ok (.getfield 43, 3) := q_tb t_Re_read1 15 rfl
theorem d_Re_read_109 : decode prog_8_method_2_code 109 = .ok (.aaload, 1) := q_tb t_Re_read1 16 rfl
theorem d_Re_read_110 : decode prog_8_method_2_code 110 = .ok (.invokevirtual 70, 3) := q_tb t_Re_read1 17 rfl
theorem d_Re_read_113 : decode prog_8_method_2_code 113 = .ok (.iconst 1, 1) := q_tb t_Re_read1 18 rfl
theorem d_Re_read_114 : decode prog_8_method_2_code 114 = .ok (.ireturn, 1) := q_tb t_Re_read1 19 rfl
def T_Co_reset : List (Nat × Instr × Nat) := [(0, .aload_n 0, 1), (1, .iconst 1, 1), (2, .putfield 9, 3), (5, .aload_n 0, 1), (6, .iconst 0, 1), (7, .putfield 28, 3), (10, .aload_n 0, 1), (11, .getfield 15, 3), (14, .iconst 0, 1), (15, .invokestatic 31, 3), (18, .return_, 1)]
set_option maxRecDepth 100000 in
theorem t_Co_reset : ∀ q ∈ T_Co_reset, decode prog_2_method_2_code q.1 = .ok q.2 := by decide +kernel
theorem d_Co_reset_0 : decode prog_2_method_2_code 0 = .ok (.aload_n 0, 1) := q_tb t_Co_reset 0 rfl
theorem d_Co_reset_1 : decode prog_2_method_2_code 1 = .ok (.iconst 1, 1) := q_tb t_Co_reset 1 rfl
theorem d_Co_reset_2 : decode prog_2_method_2_code 2 = .ok (.putfield 9, 3) := q_tb t_Co_reset 2 rfl
theorem d_Co_reset_5 : decode prog_2_method_2_code 5 = .ok (.aload_n 0, 1) := q_tb t_Co_reset 3 rfl
theorem d_Co_reset_6 : decode prog_2_method_2_code 6 = .ok (.iconst 0, 1) := q_tb t_Co_reset 4 rfl
theorem d_Co_reset_7 : decode prog_2_method_2_code 7 = .ok (.putfield 28, 3) := q_tb t_Co_reset 5 rfl
theorem d_Co_reset_10 : decode prog_2_method_2_code 10 = .ok (.aload_n 0, 1) := q_tb t_Co_reset 6 rfl
theorem d_Co_reset_11 : decode prog_2_method_2_code 11 = .ok (.getfield 15, 3) := q_tb t_Co_reset 7 rfl
theorem d_Co_reset_14 : decode prog_2_method_2_code 14 = .ok (.iconst 0, 1) := q_tb t_Co_reset 8 rfl
theorem d_Co_reset_15 : decode prog_2_method_2_code 15 = .ok (.invokestatic 31, 3) := q_tb t_Co_reset 9 rfl
theorem d_Co_reset_18 : decode prog_2_method_2_code 18 = .ok (.return_, 1) := q_tb t_Co_reset 10 rfl
def T_Re_beginText : List (Nat × Instr × Nat) := [(0, .aload_n 0, 1), (1, .getfield 11, 3), (4, .aload_n 0, 1), (5, .getfield 43, 3), (8, .aaload, 1), (9, .iconst 0, 1), (10, .iconst 0, 1), (11, .invokevirtual 119, 3), (14, .aload_n 0, 1), (15, .getfield 17, 3), (18, .aload_n 0, 1), (19, .getfield 43, 3), (22, .aaload, 1), (23, .iconst 1, 1), (24, .iconst 0, 1), (25, .invokevirtual 119, 3), (28, .return_, 1)]
set_option maxRecDepth 100000 in
theorem t_Re_beginText : ∀ q ∈ T_Re_beginText, decode prog_8_method_11_code q.1 = .ok q.2 := by decide +kernel
theorem d_Re_beginText_0 : decode prog_8_method_11_code 0 = .ok (.aload_n 0, 1) := q_tb t_Re_beginText 0 rfl
theorem d_Re_beginText_1 : decode prog_8_method_11_code 1 = .ok (.getfield 11, 3) := q_tb t_Re_beginText 1 rfl
theorem d_Re_beginText_4 : decode prog_8_method_11_code 4 = .ok (.aload_n 0, 1) := q_tb t_Re_beginText 2 rfl
theorem d_Re_beginText_5 : decode prog_8_method_11_code 5 = .ok (.getfield 43, 3) := q_tb t_Re_beginText 3 rfl
theorem d_Re_beginText_8 : decode prog_8_method_11_code 8 = .ok (.aaload, 1) := q_tb t_Re_beginText 4 rfl
theorem d_Re_beginText_9 : decode prog_8_method_11_code 9 = .ok (.iconst 0, 1) := q_tb t_Re_beginText 5 rfl
theorem d_Re_beginText_10 : decode prog_8_method_11_code 10 = .ok (.iconst 0, 1) := q_tb t_Re_beginText 6 rfl
theorem d_Re_beginText_11 : decode prog_8_method_11_code 11 = .ok (.invokevirtual 119, 3) := q_tb t_Re_beginText 7 rfl
theorem d_Re_beginText_14 : decode prog_8_method_11_code 14 = .ok (.aload_n 0, 1) := q_tb t_Re_beginText 8 rfl
theorem d_Re_beginText_15 : decode prog_8_method_11_code 15 = .ok (.getfield 17, 3) := q_tb t_Re_beginText 9 rfl
theorem d_Re_beginText_18 : decode prog_8_method_11_code 18 = .ok (.aload_n 0, 1) := q_tb t_Re_beginText 10 rfl
theorem d_Re_beginText_19 : decode prog_8_method_11_code 19 = .ok (.getfield 43, 3) := q_tb t_Re_beginText 11 rfl
theorem d_Re_beginText_22 : decode prog_8_method_11_code 22 = .ok (.aaload, 1) := q_tb t_Re_beginText 12 rfl
theorem d_Re_beginText_23 : decode prog_8_method_11_code 23 = .ok (.iconst 1, 1) := q_tb t_Re_beginText 13 rfl
theorem d_Re_beginText_24 : decode prog_8_method_11_code 24 = .ok (.iconst 0, 1) := q_tb t_Re_beginText 14 rfl
theorem d_Re_beginText_25 : decode prog_8_method_11_code 25 = .ok (.invokevirtual 119, 3) := q_tb t_Re_beginText 15 rfl
theorem d_Re_beginText_28 : decode prog_8_method_11_code 28 = .ok (.return_, 1) := q_tb t_Re_beginText 16 rfl
def T_Pa_set : List (Nat × Instr × Nat) := [(0, .aload_n 0, 1), (1, .iload_n 1, 1), (2, .putfield 7, 3), (5, .aload_n 0, 1), (6, .iload_n 2, 1), (7, .putfield 13, 3), (10, .aload_n 0, 1), (11, .iload_n 2, 1), (12, .putfield 17, 3), (15, .return_, 1)]
set_option maxRecDepth 100000 in
theorem t_Pa_set : ∀ q ∈ T_Pa_set, decode prog_3_method_2_code q.1 = .ok q.2 := by decide +kernel
theorem d_Pa_set_0 : decode prog_3_method_2_code 0 = .ok (.aload_n 0, 1) := q_tb t_Pa_set 0 rfl
theorem d_Pa_set_1 : decode prog_3_method_2_code 1 = .ok (.iload_n 1, 1) := q_tb t_Pa_set 1 rfl
theorem d_Pa_set_2 : decode prog_3_method_2_code 2 = .ok (.putfield 7, 3) := q_tb t_Pa_set 2 rfl
theorem d_Pa_set_5 : decode prog_3_method_2_code 5 = .ok (.aload_n 0, 1) := q_tb t_Pa_set 3 rfl
theorem d_Pa_set_6 : decode prog_3_method_2_code 6 = .ok (.iload_n 2, 1) := q_tb t_Pa_set 4 rfl
theorem d_Pa_set_7 : decode prog_3_method_2_code 7 = .ok (.putfield 13, 3) := q_tb t_Pa_set 5 rfl
theorem d_Pa_set_10 : decode prog_3_method_2_code 10 = .ok (.aload_n 0, 1) := q_tb t_Pa_set 6 rfl
theorem d_Pa_set_11 : decode prog_3_method_2_code 11 = .ok (.iload_n 2, 1) := q_tb t_Pa_set 7 rfl
theorem d_Pa_set_12 : decode prog_3_method_2_code 12 = .ok (.putfield 17, 3) := q_tb t_Pa_set 8 rfl
theorem d_Pa_set_15 : decode prog_3_method_2_code 15 = .ok (.return_, 1) := q_tb t_Pa_set 9 rfl
def T_Re_readNext : List (Nat × Instr × Nat) := [(0, .aload_n 0, 1), (1, .getfield 29, 3), (4, .aload_n 0, 1), (5, .getfield 40, 3), (8, .invokevirtual 74, 3), (11, .lookupswitch 65 #[(40, 50), (41, 57), (124, 33)], 33), (44, .aload_n 0, 1), (45, .dup, 1), (46, .getfield 40, 3), (49, .iconst 1, 1), (50, .iadd, 1), (51, .putfield 40, 3), (54, .aload_n 0, 1), (55, .invokevirtual 67, 3), (58, .goto 23, 3), (61, .aload_n 0, 1), (62, .invokevirtual 78, 3), (65, .goto 16, 3), (68, .aload_n 0, 1), (69, .aload_n 1, 1), (70, .invokevirtual 81, 3), (73, .goto 8, 3), (76, .aload_n 0, 1), (77, .aload_n 1, 1), (78, .invokevirtual 84, 3), (81, .return_, 1)]
set_option maxRecDepth 100000 in
theorem t_Re_readNext : ∀ q ∈ T_Re_readNext, decode prog_8_method_3_code q.1 = .ok q.2 := by decide +kernel
theorem d_Re_readNext_0 : decode prog_8_method_3_code 0 = .ok (.aload_n 0, 1) := q_tb t_Re_readNext 0 rfl
theorem d_Re_readNext_1 : decode prog_8_method_3_code 1 = .ok (.getfield 29, 3) := q_tb t_Re_readNext 1 rfl
theorem d_Re_readNext_4 : decode prog_8_method_3_code 4 = .ok (.aload_n 0, 1) := q_tb t_Re_readNext 2 rfl
theorem d_Re_readNext_5 : decode prog_8_method_3_code 5 = .ok (.getfield 40, 3) := q_tb t_Re_readNext 3 rfl
theorem d_Re_readNext_8 : decode prog_8_method_3_code 8 = .ok (.invokevirtual 74, 3) := q_tb t_Re_readNext 4 rfl
theorem d_Re_readNext_11 : decode prog_8_method_3_code 11 = .ok (.lookupswitch 65 #[(40, 50), (41, 57), (124, 33)], 33) := q_tb t_Re_readNext 5 rfl
theorem d_Re_readNext_44 : decode prog_8_method_3_code 44 = .ok (.aload_n 0, 1) := q_tb t_Re_readNext 6 rfl
theorem d_Re_readNext_45 : decode prog_8_method_3_code 45 = .ok (.dup, 1) := q_tb t_Re_readNext 7 rfl
theorem d_Re_readNext_46 : decode prog_8_method_3_code 46 = .ok (.getfield 40, 3) := q_tb t_Re_readNext 8 rfl
theorem d_Re_readNext_49 : decode prog_8_method_3_code 49 = .ok (.iconst 1, 1) := q_tb t_Re_readNext 9 rfl
theorem d_Re_readNext_50 : decode prog_8_method_3_code 50 = .ok (.iadd, 1) := q_tb t_Re_readNext 10 rfl
theorem d_Re_readNext_51 : decode prog_8_method_3_code 51 = .ok (.putfield 40, 3) := q_tb t_Re_readNext 11 rfl
theorem d_Re_readNext_54 : decode prog_8_method_3_code 54 = .ok (.aload_n 0, 1) := q_tb t_Re_readNext 12 rfl
theorem d_Re_readNext_55 : decode prog_8_method_3_code 55 = .ok (.invokevirtual 67, 3) := q_tb t_Re_readNext 13 rfl
theorem d_Re_readNext_58 : decode prog_8_method_3_code 58 = .ok (.goto 23, 3) := q_tb t_Re_readNext 14 rfl
theorem d_Re_readNext_61 : decode prog_8_method_3_code 61 = .ok (.aload_n 0, 1) := q_tb t_Re_readNext 15 rfl
theorem d_Re_readNext_62 : decode prog_8_method_3_code 62 = .ok (.invokevirtual 78, 3) := q_tb t_Re_readNext 16 rfl
theorem d_Re_readNext_65 : decode prog_8_method_3_code 65 = .ok (.goto 16, 3) := q_tb t_Re_readNext 17 rfl
theorem d_Re_readNext_68 : decode prog_8_method_3_code 68 = .ok (.aload_n 0, 1) := q_tb t_Re_readNext 18 rfl
theorem d_Re_readNext_69 : decode prog_8_method_3_code 69 = .ok (.aload_n 1, 1) := q_tb t_Re_readNext 19 rfl
theorem d_Re_readNext_70 : decode prog_8_method_3_code 70 = .ok (.invokevirtual 81, 3) := q_tb t_Re_readNext 20 rfl
theorem d_Re_readNext_73 : decode prog_8_method_3_code 73 = .ok (.goto 8, 3) := q_tb t_Re_readNext 21 rfl
theorem d_Re_readNext_76 : decode prog_8_method_3_code 76 = .ok (.aload_n 0, 1) := q_tb t_Re_readNext 22 rfl
theorem d_Re_readNext_77 : decode prog_8_method_3_code 77 = .ok (.aload_n 1, 1) := q_tb t_Re_readNext 23 rfl
theorem d_Re_readNext_78 : decode prog_8_method_3_code 78 = .ok (.invokevirtual 84, 3) := q_tb t_Re_readNext 24 rfl
theorem d_Re_readNext_81 : decode prog_8_method_3_code 81 = .ok (.return_, 1) := q_tb t_Re_readNext 25 rfl
def T_Ta_byteAt : List (Nat × Instr × Nat) := [(0, .iload_n 1, 1), (1, .ifCond .lt 24, 3), (4, .iload_n 1, 1), (5, .aload_n 0, 1), (6, .getfield 15, 3), (9, .if_icmp .ge 16, 3), (12, .aload_n 0, 1), (13, .getfield 9, 3), (16, .iload_n 1, 1), (17, .baload, 1), (18, .sipush 255, 3), (21, .iand, 1), (22, .goto 4, 3), (25, .iconst (-1), 1), (26, .ireturn, 1)]
set_option maxRecDepth 100000 in
theorem t_Ta_byteAt : ∀ q ∈ T_Ta_byteAt, decode prog_7_method_3_code q.1 = .ok q.2 := by decide +kernel
theorem d_Ta_byteAt_0 : decode prog_7_method_3_code 0 = .ok (.iload_n 1, 1) := q_tb t_Ta_byteAt 0 rfl
theorem d_Ta_byteAt_1 : decode prog_7_method_3_code 1 = .ok (.ifCond .lt 24, 3) := q_tb t_Ta_byteAt 1 rfl
theorem d_Ta_byteAt_4 : decode prog_7_method_3_code 4 = .ok (.iload_n 1, 1) := q_tb t_Ta_byteAt 2 rfl
theorem d_Ta_byteAt_5 : decode prog_7_method_3_code 5 = .ok (.aload_n 0, 1) := q_tb t_Ta_byteAt 3 rfl
theorem d_Ta_byteAt_6 : decode prog_7_method_3_code 6 = .ok (.getfield 15, 3) := q_tb t_Ta_byteAt 4 rfl
theorem d_Ta_byteAt_9 : decode prog_7_method_3_code 9 = .ok (.if_icmp .ge 16, 3) := q_tb t_Ta_byteAt 5 rfl
theorem d_Ta_byteAt_12 : decode prog_7_method_3_code 12 = .ok (.aload_n 0, 1) := q_tb t_Ta_byteAt 6 rfl
theorem d_Ta_byteAt_13 : decode prog_7_method_3_code 13 = .ok (.getfield 9, 3) := q_tb t_Ta_byteAt 7 rfl
theorem d_Ta_byteAt_16 : decode prog_7_method_3_code 16 = .ok (.iload_n 1, 1) := q_tb t_Ta_byteAt 8 rfl
theorem d_Ta_byteAt_17 : decode prog_7_method_3_code 17 = .ok (.baload, 1) := q_tb t_Ta_byteAt 9 rfl
theorem d_Ta_byteAt_18 : decode prog_7_method_3_code 18 = .ok (.sipush 255, 3) := q_tb t_Ta_byteAt 10 rfl
theorem d_Ta_byteAt_21 : decode prog_7_method_3_code 21 = .ok (.iand, 1) := q_tb t_Ta_byteAt 11 rfl
theorem d_Ta_byteAt_22 : decode prog_7_method_3_code 22 = .ok (.goto 4, 3) := q_tb t_Ta_byteAt 12 rfl
theorem d_Ta_byteAt_25 : decode prog_7_method_3_code 25 = .ok (.iconst (-1), 1) := q_tb t_Ta_byteAt 13 rfl
theorem d_Ta_byteAt_26 : decode prog_7_method_3_code 26 = .ok (.ireturn, 1) := q_tb t_Ta_byteAt 14 rfl
def T_Re_endChoice : List (Nat × Instr × Nat) := [(0, .aload_n 0, 1), (1, .getfield 11, 3), (4, .aload_n 0, 1), (5, .getfield 43, 3), (8, .aaload, 1), (9, .aload_n 0, 1), (10, .getfield 17, 3), (13, .aload_n 0, 1), (14, .getfield 43, 3), (17, .aaload, 1), (18, .invokevirtual 140, 3), (21, .aload_n 0, 1), (22, .getfield 17, 3), (25, .aload_n 0, 1), (26, .getfield 43, 3), (29, .aaload, 1), (30, .iconst 1, 1), (31, .iconst 0, 1), (32, .invokevirtual 119, 3), (35, .return_, 1)]
set_option maxRecDepth 100000 in
theorem t_Re_endChoice : ∀ q ∈ T_Re_endChoice, decode prog_8_method_12_code q.1 = .ok q.2 := by decide +kernel
theorem d_Re_endChoice_0 : decode prog_8_method_12_code 0 = .ok (.aload_n 0, 1) := q_tb t_Re_endChoice 0 rfl
theorem d_Re_endChoice_1 : decode prog_8_method_12_code 1 = .ok (.getfield 11, 3) := q_tb t_Re_endChoice 1 rfl
theorem d_Re_endChoice_4 : decode prog_8_method_12_code 4 = .ok (.aload_n 0, 1) := q_tb t_Re_endChoice 2 rfl
theorem d_Re_endChoice_5 : decode prog_8_method_12_code 5 = .ok (.getfield 43, 3) := q_tb t_Re_endChoice 3 rfl
theorem d_Re_endChoice_8 : decode prog_8_method_12_code 8 = .ok (.aaload, 1) := q_tb t_Re_endChoice 4 rfl
theorem d_Re_endChoice_9 : decode prog_8_method_12_code 9 = .ok (.aload_n 0, 1) := q_tb t_Re_endChoice 5 rfl
theorem d_Re_endChoice_10 : decode prog_8_method_12_code 10 = .ok (.getfield 17, 3) := q_tb t_Re_endChoice 6 rfl
theorem d_Re_endChoice_13 : decode prog_8_method_12_code 13 = .ok (.aload_n 0, 1) := q_tb t_Re_endChoice 7 rfl
theorem d_Re_endChoice_14 : decode prog_8_method_12_code 14 = .ok (.getfield 43, 3) := q_tb t_Re_endChoice 8 rfl
theorem d_Re_endChoice_17 : decode prog_8_method_12_code 17 = .ok (.aaload, 1) := q_tb t_Re_endChoice 9 rfl
theorem d_Re_endChoice_18 : decode prog_8_method_12_code 18 = .ok (.invokevirtual 140, 3) := q_tb t_Re_endChoice 10 rfl
theorem d_Re_endChoice_21 : decode prog_8_method_12_code 21 = .ok (.aload_n 0, 1) := q_tb t_Re_endChoice 11 rfl
theorem d_Re_endChoice_22 : decode prog_8_method_12_code 22 = .ok (.getfield 17, 3) := q_tb t_Re_endChoice 12 rfl
theorem d_Re_endChoice_25 : decode prog_8_method_12_code 25 = .ok (.aload_n 0, 1) := q_tb t_Re_endChoice 13 rfl
theorem d_Re_endChoice_26 : decode prog_8_method_12_code 26 = .ok (.getfield 43, 3) := q_tb t_Re_endChoice 14 rfl
theorem d_Re_endChoice_29 : decode prog_8_method_12_code 29 = .ok (.aaload, 1) := q_tb t_Re_endChoice 15 rfl
theorem d_Re_endChoice_30 : decode prog_8_method_12_code 30 = .ok (.iconst 1, 1) := q_tb t_Re_endChoice 16 rfl
theorem d_Re_endChoice_31 : decode prog_8_method_12_code 31 = .ok (.iconst 0, 1) := q_tb t_Re_endChoice 17 rfl
theorem d_Re_endChoice_32 : decode prog_8_method_12_code 32 = .ok (.invokevirtual 119, 3) := q_tb t_Re_endChoice 18 rfl
theorem d_Re_endChoice_35 : decode prog_8_method_12_code 35 = .ok (.return_, 1) := q_tb t_Re_endChoice 19 rfl
def T_Pa_addChoice : List (Nat × Instr × Nat) := [(0, .aload_n 0, 1), (1, .dup, 1), (2, .getfield 7, 3), (5, .aload_n 1, 1), (6, .getfield 7, 3), (9, .ior, 1), (10, .putfield 7, 3), (13, .aload_n 0, 1), (14, .dup, 1), (15, .getfield 13, 3), (18, .aload_n 1, 1), (19, .getfield 13, 3), (22, .ior, 1), (23, .putfield 13, 3), (26, .aload_n 0, 1), (27, .dup, 1), (28, .getfield 17, 3), (31, .aload_n 1, 1), (32, .getfield 17, 3), (35, .ior, 1), (36, .putfield 17, 3), (39, .return_, 1)]
set_option maxRecDepth 100000 in
theorem t_Pa_addChoice : ∀ q ∈ T_Pa_addChoice, decode prog_3_method_3_code q.1 = .ok q.2 := by decide +kernel
theorem d_Pa_addChoice_0 : decode prog_3_method_3_code 0 = .ok (.aload_n 0, 1) := q_tb t_Pa_addChoice 0 rfl
theorem d_Pa_addChoice_1 : decode prog_3_method_3_code 1 = .ok (.dup, 1) := q_tb t_Pa_addChoice 1 rfl
theorem d_Pa_addChoice_2 : decode prog_3_method_3_code 2 = .ok (.getfield 7, 3) := q_tb t_Pa_addChoice 2 rfl
theorem d_Pa_addChoice_5 : decode prog_3_method_3_code 5 = .ok (.aload_n 1, 1) := q_tb t_Pa_addChoice 3 rfl
theorem d_Pa_addChoice_6 : decode prog_3_method_3_code 6 = .ok (.getfield 7, 3) := q_tb t_Pa_addChoice 4 rfl
theorem d_Pa_addChoice_9 : decode prog_3_method_3_code 9 = .ok (.ior, 1) := q_tb t_Pa_addChoice 5 rfl
theorem d_Pa_addChoice_10 : decode prog_3_method_3_code 10 = .ok (.putfield 7, 3) := q_tb t_Pa_addChoice 6 rfl
theorem d_Pa_addChoice_13 : decode prog_3_method_3_code 13 = .ok (.aload_n 0, 1) := q_tb t_Pa_addChoice 7 rfl
theorem d_Pa_addChoice_14 : decode prog_3_method_3_code 14 = .ok (.dup, 1) := q_tb t_Pa_addChoice 8 rfl
theorem d_Pa_addChoice_15 : decode prog_3_method_3_code 15 = .ok (.getfield 13, 3) := q_tb t_Pa_addChoice 9 rfl
theorem d_Pa_addChoice_18 : decode prog_3_method_3_code 18 = .ok (.aload_n 1, 1) := q_tb t_Pa_addChoice 10 rfl
theorem d_Pa_addChoice_19 : decode prog_3_method_3_code 19 = .ok (.getfield 13, 3) := q_tb t_Pa_addChoice 11 rfl
theorem d_Pa_addChoice_22 : decode prog_3_method_3_code 22 = .ok (.ior, 1) := q_tb t_Pa_addChoice 12 rfl
theorem d_Pa_addChoice_23 : decode prog_3_method_3_code 23 = .ok (.putfield 13, 3) := q_tb t_Pa_addChoice 13 rfl
theorem d_Pa_addChoice_26 : decode prog_3_method_3_code 26 = .ok (.aload_n 0, 1) := q_tb t_Pa_addChoice 14 rfl
theorem d_Pa_addChoice_27 : decode prog_3_method_3_code 27 = .ok (.dup, 1) := q_tb t_Pa_addChoice 15 rfl
theorem d_Pa_addChoice_28 : decode prog_3_method_3_code 28 = .ok (.getfield 17, 3) := q_tb t_Pa_addChoice 16 rfl
theorem d_Pa_addChoice_31 : decode prog_3_method_3_code 31 = .ok (.aload_n 1, 1) := q_tb t_Pa_addChoice 17 rfl
theorem d_Pa_addChoice_32 : decode prog_3_method_3_code 32 = .ok (.getfield 17, 3) := q_tb t_Pa_addChoice 18 rfl
theorem d_Pa_addChoice_35 : decode prog_3_method_3_code 35 = .ok (.ior, 1) := q_tb t_Pa_addChoice 19 rfl
theorem d_Pa_addChoice_36 : decode prog_3_method_3_code 36 = .ok (.putfield 17, 3) := q_tb t_Pa_addChoice 20 rfl
theorem d_Pa_addChoice_39 : decode prog_3_method_3_code 39 = .ok (.return_, 1) := q_tb t_Pa_addChoice 21 rfl
def T_Re_openText : List (Nat × Instr × Nat) := [(0, .aload_n 0, 1), (1, .getfield 43, 3), (4, .bipush 12, 2), (6, .if_icmp .lt 9, 3), (9, .aload_n 0, 1), (10, .iconst 3, 1), (11, .invokevirtual 63, 3), (14, .return_, 1), (15, .aload_n 0, 1), (16, .dup, 1), (17, .getfield 40, 3), (20, .iconst 1, 1), (21, .iadd, 1), (22, .putfield 40, 3), (25, .aload_n 0, 1), (26, .dup, 1), (27, .getfield 43, 3), (30, .iconst 1, 1), (31, .iadd, 1), (32, .putfield 43, 3), (35, .aload_n 0, 1), (36, .invokevirtual 51, 3), (39, .return_, 1)]
set_option maxRecDepth 100000 in
theorem t_Re_openText : ∀ q ∈ T_Re_openText, decode prog_8_method_4_code q.1 = .ok q.2 := by decide +kernel
theorem d_Re_openText_0 : decode prog_8_method_4_code 0 = .ok (.aload_n 0, 1) := q_tb t_Re_openText 0 rfl
theorem d_Re_openText_1 : decode prog_8_method_4_code 1 = .ok (.getfield 43, 3) := q_tb t_Re_openText 1 rfl
theorem d_Re_openText_4 : decode prog_8_method_4_code 4 = .ok (.bipush 12, 2) := q_tb t_Re_openText 2 rfl
theorem d_Re_openText_6 : decode prog_8_method_4_code 6 = .ok (.if_icmp .lt 9, 3) := q_tb t_Re_openText 3 rfl
theorem d_Re_openText_9 : decode prog_8_method_4_code 9 = .ok (.aload_n 0, 1) := q_tb t_Re_openText 4 rfl
theorem d_Re_openText_10 : decode prog_8_method_4_code 10 = .ok (.iconst 3, 1) := q_tb t_Re_openText 5 rfl
theorem d_Re_openText_11 : decode prog_8_method_4_code 11 = .ok (.invokevirtual 63, 3) := q_tb t_Re_openText 6 rfl
theorem d_Re_openText_14 : decode prog_8_method_4_code 14 = .ok (.return_, 1) := q_tb t_Re_openText 7 rfl
theorem d_Re_openText_15 : decode prog_8_method_4_code 15 = .ok (.aload_n 0, 1) := q_tb t_Re_openText 8 rfl
theorem d_Re_openText_16 : decode prog_8_method_4_code 16 = .ok (.dup, 1) := q_tb t_Re_openText 9 rfl
theorem d_Re_openText_17 : decode prog_8_method_4_code 17 = .ok (.getfield 40, 3) := q_tb t_Re_openText 10 rfl
theorem d_Re_openText_20 : decode prog_8_method_4_code 20 = .ok (.iconst 1, 1) := q_tb t_Re_openText 11 rfl
theorem d_Re_openText_21 : decode prog_8_method_4_code 21 = .ok (.iadd, 1) := q_tb t_Re_openText 12 rfl
theorem d_Re_openText_22 : decode prog_8_method_4_code 22 = .ok (.putfield 40, 3) := q_tb t_Re_openText 13 rfl
theorem d_Re_openText_25 : decode prog_8_method_4_code 25 = .ok (.aload_n 0, 1) := q_tb t_Re_openText 14 rfl
theorem d_Re_openText_26 : decode prog_8_method_4_code 26 = .ok (.dup, 1) := q_tb t_Re_openText 15 rfl
theorem d_Re_openText_27 : decode prog_8_method_4_code 27 = .ok (.getfield 43, 3) := q_tb t_Re_openText 16 rfl
theorem d_Re_openText_30 : decode prog_8_method_4_code 30 = .ok (.iconst 1, 1) := q_tb t_Re_openText 17 rfl
theorem d_Re_openText_31 : decode prog_8_method_4_code 31 = .ok (.iadd, 1) := q_tb t_Re_openText 18 rfl
theorem d_Re_openText_32 : decode prog_8_method_4_code 32 = .ok (.putfield 43, 3) := q_tb t_Re_openText 19 rfl
theorem d_Re_openText_35 : decode prog_8_method_4_code 35 = .ok (.aload_n 0, 1) := q_tb t_Re_openText 20 rfl
theorem d_Re_openText_36 : decode prog_8_method_4_code 36 = .ok (.invokevirtual 51, 3) := q_tb t_Re_openText 21 rfl
theorem d_Re_openText_39 : decode prog_8_method_4_code 39 = .ok (.return_, 1) := q_tb t_Re_openText 22 rfl
def T_Re_meetFault : List (Nat × Instr × Nat) := [(0, .aload_n 0, 1), (1, .iload_n 1, 1), (2, .putfield 37, 3), (5, .aload_n 0, 1), (6, .aload_n 0, 1), (7, .getfield 40, 3), (10, .putfield 25, 3), (13, .return_, 1)]
set_option maxRecDepth 100000 in
theorem t_Re_meetFault : ∀ q ∈ T_Re_meetFault, decode prog_8_method_13_code q.1 = .ok q.2 := by decide +kernel
theorem d_Re_meetFault_0 : decode prog_8_method_13_code 0 = .ok (.aload_n 0, 1) := q_tb t_Re_meetFault 0 rfl
theorem d_Re_meetFault_1 : decode prog_8_method_13_code 1 = .ok (.iload_n 1, 1) := q_tb t_Re_meetFault 1 rfl
theorem d_Re_meetFault_2 : decode prog_8_method_13_code 2 = .ok (.putfield 37, 3) := q_tb t_Re_meetFault 2 rfl
theorem d_Re_meetFault_5 : decode prog_8_method_13_code 5 = .ok (.aload_n 0, 1) := q_tb t_Re_meetFault 3 rfl
theorem d_Re_meetFault_6 : decode prog_8_method_13_code 6 = .ok (.aload_n 0, 1) := q_tb t_Re_meetFault 4 rfl
theorem d_Re_meetFault_7 : decode prog_8_method_13_code 7 = .ok (.getfield 40, 3) := q_tb t_Re_meetFault 5 rfl
theorem d_Re_meetFault_10 : decode prog_8_method_13_code 10 = .ok (.putfield 25, 3) := q_tb t_Re_meetFault 6 rfl
theorem d_Re_meetFault_13 : decode prog_8_method_13_code 13 = .ok (.return_, 1) := q_tb t_Re_meetFault 7 rfl
def T_Re_closeText : List (Nat × Instr × Nat) := [(0, .aload_n 0, 1), (1, .getfield 43, 3), (4, .ifCond .ne 9, 3), (7, .aload_n 0, 1), (8, .iconst 1, 1), (9, .invokevirtual 63, 3), (12, .return_, 1), (13, .aload_n 0, 1), (14, .dup, 1), (15, .getfield 40, 3), (18, .iconst 1, 1), (19, .iadd, 1), (20, .putfield 40, 3), (23, .aload_n 0, 1), (24, .invokevirtual 67, 3), (27, .aload_n 0, 1), (28, .getfield 11, 3), (31, .aload_n 0, 1), (32, .getfield 43, 3), (35, .aaload, 1), (36, .astore_n 2, 1), (37, .aload_n 0, 1), (38, .dup, 1), (39, .getfield 43, 3), (42, .iconst 1, 1), (43, .isub, 1), (44, .putfield 43, 3), (47, .aload_n 0, 1), (48, .aload_n 1, 1), (49, .aload_n 2, 1), (50, .invokevirtual 87, 3), (53, .return_, 1)]
set_option maxRecDepth 100000 in
theorem t_Re_closeText : ∀ q ∈ T_Re_closeText, decode prog_8_method_5_code q.1 = .ok q.2 := by decide +kernel
theorem d_Re_closeText_0 : decode prog_8_method_5_code 0 = .ok (.aload_n 0, 1) := q_tb t_Re_closeText 0 rfl
theorem d_Re_closeText_1 : decode prog_8_method_5_code 1 = .ok (.getfield 43, 3) := q_tb t_Re_closeText 1 rfl
theorem d_Re_closeText_4 : decode prog_8_method_5_code 4 = .ok (.ifCond .ne 9, 3) := q_tb t_Re_closeText 2 rfl
theorem d_Re_closeText_7 : decode prog_8_method_5_code 7 = .ok (.aload_n 0, 1) := q_tb t_Re_closeText 3 rfl
theorem d_Re_closeText_8 : decode prog_8_method_5_code 8 = .ok (.iconst 1, 1) := q_tb t_Re_closeText 4 rfl
theorem d_Re_closeText_9 : decode prog_8_method_5_code 9 = .ok (.invokevirtual 63, 3) := q_tb t_Re_closeText 5 rfl
theorem d_Re_closeText_12 : decode prog_8_method_5_code 12 = .ok (.return_, 1) := q_tb t_Re_closeText 6 rfl
theorem d_Re_closeText_13 : decode prog_8_method_5_code 13 = .ok (.aload_n 0, 1) := q_tb t_Re_closeText 7 rfl
theorem d_Re_closeText_14 : decode prog_8_method_5_code 14 = .ok (.dup, 1) := q_tb t_Re_closeText 8 rfl
theorem d_Re_closeText_15 : decode prog_8_method_5_code 15 = .ok (.getfield 40, 3) := q_tb t_Re_closeText 9 rfl
theorem d_Re_closeText_18 : decode prog_8_method_5_code 18 = .ok (.iconst 1, 1) := q_tb t_Re_closeText 10 rfl
theorem d_Re_closeText_19 : decode prog_8_method_5_code 19 = .ok (.iadd, 1) := q_tb t_Re_closeText 11 rfl
theorem d_Re_closeText_20 : decode prog_8_method_5_code 20 = .ok (.putfield 40, 3) := q_tb t_Re_closeText 12 rfl
theorem d_Re_closeText_23 : decode prog_8_method_5_code 23 = .ok (.aload_n 0, 1) := q_tb t_Re_closeText 13 rfl
theorem d_Re_closeText_24 : decode prog_8_method_5_code 24 = .ok (.invokevirtual 67, 3) := q_tb t_Re_closeText 14 rfl
theorem d_Re_closeText_27 : decode prog_8_method_5_code 27 = .ok (.aload_n 0, 1) := q_tb t_Re_closeText 15 rfl
theorem d_Re_closeText_28 : decode prog_8_method_5_code 28 = .ok (.getfield 11, 3) := q_tb t_Re_closeText 16 rfl
theorem d_Re_closeText_31 : decode prog_8_method_5_code 31 = .ok (.aload_n 0, 1) := q_tb t_Re_closeText 17 rfl
theorem d_Re_closeText_32 : decode prog_8_method_5_code 32 = .ok (.getfield 43, 3) := q_tb t_Re_closeText 18 rfl
theorem d_Re_closeText_35 : decode prog_8_method_5_code 35 = .ok (.aaload, 1) := q_tb t_Re_closeText 19 rfl
theorem d_Re_closeText_36 : decode prog_8_method_5_code 36 = .ok (.astore_n 2, 1) := q_tb t_Re_closeText 20 rfl
theorem d_Re_closeText_37 : decode prog_8_method_5_code 37 = .ok (.aload_n 0, 1) := q_tb t_Re_closeText 21 rfl
theorem d_Re_closeText_38 : decode prog_8_method_5_code 38 = .ok (.dup, 1) := q_tb t_Re_closeText 22 rfl
theorem d_Re_closeText_39 : decode prog_8_method_5_code 39 = .ok (.getfield 43, 3) := q_tb t_Re_closeText 23 rfl
theorem d_Re_closeText_42 : decode prog_8_method_5_code 42 = .ok (.iconst 1, 1) := q_tb t_Re_closeText 24 rfl
theorem d_Re_closeText_43 : decode prog_8_method_5_code 43 = .ok (.isub, 1) := q_tb t_Re_closeText 25 rfl
theorem d_Re_closeText_44 : decode prog_8_method_5_code 44 = .ok (.putfield 43, 3) := q_tb t_Re_closeText 26 rfl
theorem d_Re_closeText_47 : decode prog_8_method_5_code 47 = .ok (.aload_n 0, 1) := q_tb t_Re_closeText 27 rfl
theorem d_Re_closeText_48 : decode prog_8_method_5_code 48 = .ok (.aload_n 1, 1) := q_tb t_Re_closeText 28 rfl
theorem d_Re_closeText_49 : decode prog_8_method_5_code 49 = .ok (.aload_n 2, 1) := q_tb t_Re_closeText 29 rfl
theorem d_Re_closeText_50 : decode prog_8_method_5_code 50 = .ok (.invokevirtual 87, 3) := q_tb t_Re_closeText 30 rfl
theorem d_Re_closeText_53 : decode prog_8_method_5_code 53 = .ok (.return_, 1) := q_tb t_Re_closeText 31 rfl
def T_Re_addThing0 : List (Nat × Instr × Nat) := [(0, .aload_n 0, 1), (1, .getfield 40, 3), (4, .aload_n 0, 1), (5, .getfield 29, 3), (8, .getfield 54, 3), (11, .if_icmp .ge 49, 3), (14, .aload_n 0, 1), (15, .getfield 29, 3), (18, .aload_n 0, 1), (19, .getfield 40, 3), (22, .invokevirtual 74, 3), (25, .bipush 42, 2), (27, .if_icmp .ne 33, 3), (30, .aload_n 0, 1), (31, .dup, 1), (32, .getfield 40, 3), (35, .iconst 1, 1), (36, .iadd, 1), (37, .putfield 40, 3), (40, .aload_n 1, 1), (41, .aload_n 2, 1), (42, .getfield 123, 3), (45, .aload_n 2, 1), (46, .getfield 126, 3), (49, .invokevirtual 129, 3), (52, .aload_n 2, 1), (53, .iconst 1, 1), (54, .putfield 133, 3), (57, .goto (-57), 3), (60, .aload_n 1, 1), (61, .aload_n 0, 1), (62, .getfield 17, 3), (65, .aload_n 0, 1), (66, .getfield 43, 3), (69, .aaload, 1), (70, .getfield 123, 3), (73, .aload_n 2, 1), (74, .getfield 126, 3), (77, .invokevirtual 129, 3), (80, .aload_n 0, 1)]
set_option maxRecDepth 100000 in
theorem t_Re_addThing0 : ∀ q ∈ T_Re_addThing0, decode prog_8_method_10_code q.1 = .ok q.2 := by decide +kernel
theorem d_Re_addThing_0 : decode prog_8_method_10_code 0 = .ok (.aload_n 0, 1) := q_tb t_Re_addThing0 0 rfl
theorem d_Re_addThing_1 : decode prog_8_method_10_code 1 = .ok (.getfield 40, 3) := q_tb t_Re_addThing0 1 rfl
theorem d_Re_addThing_4 : decode prog_8_method_10_code 4 = .ok (.aload_n 0, 1) := q_tb t_Re_addThing0 2 rfl
theorem d_Re_addThing_5 : decode prog_8_method_10_code 5 = .ok (.getfield 29, 3) := q_tb t_Re_addThing0 3 rfl
theorem d_Re_addThing_8 : decode prog_8_method_10_code 8 = .ok (.getfield 54, 3) := q_tb t_Re_addThing0 4 rfl
theorem d_Re_addThing_11 : decode prog_8_method_10_code 11 = .ok (.if_icmp .ge 49, 3) := q_tb t_Re_addThing0 5 rfl
theorem d_Re_addThing_14 : decode prog_8_method_10_code 14 = .ok (.aload_n 0, 1) := q_tb t_Re_addThing0 6 rfl
theorem d_Re_addThing_15 : decode prog_8_method_10_code 15 = .ok (.getfield 29, 3) := q_tb t_Re_addThing0 7 rfl
theorem d_Re_addThing_18 : decode prog_8_method_10_code 18 = .ok (.aload_n 0, 1) := q_tb t_Re_addThing0 8 rfl
theorem d_Re_addThing_19 : decode prog_8_method_10_code 19 = .ok (.getfield 40, 3) := q_tb t_Re_addThing0 9 rfl
theorem d_Re_addThing_22 : decode prog_8_method_10_code 22 = .ok (.invokevirtual 74, 3) := q_tb t_Re_addThing0 10 rfl
theorem d_Re_addThing_25 : decode prog_8_method_10_code 25 = .ok (.bipush 42, 2) := q_tb t_Re_addThing0 11 rfl
theorem d_Re_addThing_27 : decode prog_8_method_10_code 27 = .ok (.if_icmp .ne 33, 3) := q_tb t_Re_addThing0 12 rfl
theorem d_Re_addThing_30 : decode prog_8_method_10_code 30 = .ok (.aload_n 0, 1) := q_tb t_Re_addThing0 13 rfl
theorem d_Re_addThing_31 : decode prog_8_method_10_code 31 = .ok (.dup, 1) := q_tb t_Re_addThing0 14 rfl
theorem d_Re_addThing_32 : decode prog_8_method_10_code 32 = .ok (.getfield 40, 3) := q_tb t_Re_addThing0 15 rfl
theorem d_Re_addThing_35 : decode prog_8_method_10_code 35 = .ok (.iconst 1, 1) := q_tb t_Re_addThing0 16 rfl
theorem d_Re_addThing_36 : decode prog_8_method_10_code 36 = .ok (.iadd, 1) := q_tb t_Re_addThing0 17 rfl
theorem d_Re_addThing_37 : decode prog_8_method_10_code 37 = .ok (.putfield 40, 3) := q_tb t_Re_addThing0 18 rfl
theorem d_Re_addThing_40 : decode prog_8_method_10_code 40 = .ok (.aload_n 1, 1) := q_tb t_Re_addThing0 19 rfl
theorem d_Re_addThing_41 : decode prog_8_method_10_code 41 = .ok (.aload_n 2, 1) := q_tb t_Re_addThing0 20 rfl
theorem d_Re_addThing_42 : decode prog_8_method_10_code 42 = .ok (.getfield 123, 3) := q_tb t_Re_addThing0 21 rfl
theorem d_Re_addThing_45 : decode prog_8_method_10_code 45 = .ok (.aload_n 2, 1) := q_tb t_Re_addThing0 22 rfl
theorem d_Re_addThing_46 : decode prog_8_method_10_code 46 = .ok (.getfield 126, 3) := q_tb t_Re_addThing0 23 rfl
theorem d_Re_addThing_49 : decode prog_8_method_10_code 49 = .ok (.invokevirtual 129, 3) := q_tb t_Re_addThing0 24 rfl
theorem d_Re_addThing_52 : decode prog_8_method_10_code 52 = .ok (.aload_n 2, 1) := q_tb t_Re_addThing0 25 rfl
theorem d_Re_addThing_53 : decode prog_8_method_10_code 53 = .ok (.iconst 1, 1) := q_tb t_Re_addThing0 26 rfl
theorem d_Re_addThing_54 : decode prog_8_method_10_code 54 = .ok (.putfield 133, 3) := q_tb t_Re_addThing0 27 rfl
theorem d_Re_addThing_57 : decode prog_8_method_10_code 57 = .ok (.goto (-57), 3) := q_tb t_Re_addThing0 28 rfl
theorem d_Re_addThing_60 : decode prog_8_method_10_code 60 = .ok (.aload_n 1, 1) := q_tb t_Re_addThing0 29 rfl
theorem d_Re_addThing_61 : decode prog_8_method_10_code 61 = .ok (.aload_n 0, 1) := q_tb t_Re_addThing0 30 rfl
theorem d_Re_addThing_62 : decode prog_8_method_10_code 62 = .ok (.getfield 17, 3) := q_tb t_Re_addThing0 31 rfl
theorem d_Re_addThing_65 : decode prog_8_method_10_code 65 = .ok (.aload_n 0, 1) := q_tb t_Re_addThing0 32 rfl
theorem d_Re_addThing_66 : decode prog_8_method_10_code 66 = .ok (.getfield 43, 3) := q_tb t_Re_addThing0 33 rfl
theorem d_Re_addThing_69 : decode prog_8_method_10_code 69 = .ok (.aaload, 1) := q_tb t_Re_addThing0 34 rfl
theorem d_Re_addThing_70 : decode prog_8_method_10_code 70 = .ok (.getfield 123, 3) := q_tb t_Re_addThing0 35 rfl
theorem d_Re_addThing_73 : decode prog_8_method_10_code 73 = .ok (.aload_n 2, 1) := q_tb t_Re_addThing0 36 rfl
theorem d_Re_addThing_74 : decode prog_8_method_10_code 74 = .ok (.getfield 126, 3) := q_tb t_Re_addThing0 37 rfl
theorem d_Re_addThing_77 : decode prog_8_method_10_code 77 = .ok (.invokevirtual 129, 3) := q_tb t_Re_addThing0 38 rfl
theorem d_Re_addThing_80 : decode prog_8_method_10_code 80 = .ok (.aload_n 0, 1) := q_tb t_Re_addThing0 39 rfl
def T_Re_addThing1 : List (Nat × Instr × Nat) := [(81, .getfield 17, 3), (84, .aload_n 0, 1), (85, .getfield 43, 3), (88, .aaload, 1), (89, .aload_n 2, 1), (90, .invokevirtual 137, 3), (93, .return_, 1)]
set_option maxRecDepth 100000 in
theorem t_Re_addThing1 : ∀ q ∈ T_Re_addThing1, decode prog_8_method_10_code q.1 = .ok q.2 := by decide +kernel
theorem d_Re_addThing_81 : decode prog_8_method_10_code 81 = .ok (.getfield 17, 3) := q_tb t_Re_addThing1 0 rfl
theorem d_Re_addThing_84 : decode prog_8_method_10_code 84 = .ok (.aload_n 0, 1) := q_tb t_Re_addThing1 1 rfl
theorem d_Re_addThing_85 : decode prog_8_method_10_code 85 = .ok (.getfield 43, 3) := q_tb t_Re_addThing1 2 rfl
theorem d_Re_addThing_88 : decode prog_8_method_10_code 88 = .ok (.aaload, 1) := q_tb t_Re_addThing1 3 rfl
theorem d_Re_addThing_89 : decode prog_8_method_10_code 89 = .ok (.aload_n 2, 1) := q_tb t_Re_addThing1 4 rfl
theorem d_Re_addThing_90 : decode prog_8_method_10_code 90 = .ok (.invokevirtual 137, 3) := q_tb t_Re_addThing1 5 rfl
theorem d_Re_addThing_93 : decode prog_8_method_10_code 93 = .ok (.return_, 1) := q_tb t_Re_addThing1 6 rfl
def T_Co_addSteps : List (Nat × Instr × Nat) := [(0, .iconst 0, 1), (1, .istore_n 3, 1), (2, .iload_n 3, 1), (3, .aload_n 0, 1), (4, .getfield 9, 3), (7, .if_icmp .ge 27, 3), (10, .iload_n 1, 1), (11, .iload_n 3, 1), (12, .ishr, 1), (13, .iconst 1, 1), (14, .iand, 1), (15, .ifCond .eq 13, 3), (18, .aload_n 0, 1), (19, .getfield 15, 3), (22, .iload_n 3, 1), (23, .dup2, 1), (24, .iaload, 1), (25, .iload_n 2, 1), (26, .ior, 1), (27, .iastore, 1), (28, .iinc 3 1, 3), (31, .goto (-29), 3), (34, .return_, 1)]
set_option maxRecDepth 100000 in
theorem t_Co_addSteps : ∀ q ∈ T_Co_addSteps, decode prog_2_method_5_code q.1 = .ok q.2 := by decide +kernel
theorem d_Co_addSteps_0 : decode prog_2_method_5_code 0 = .ok (.iconst 0, 1) := q_tb t_Co_addSteps 0 rfl
theorem d_Co_addSteps_1 : decode prog_2_method_5_code 1 = .ok (.istore_n 3, 1) := q_tb t_Co_addSteps 1 rfl
theorem d_Co_addSteps_2 : decode prog_2_method_5_code 2 = .ok (.iload_n 3, 1) := q_tb t_Co_addSteps 2 rfl
theorem d_Co_addSteps_3 : decode prog_2_method_5_code 3 = .ok (.aload_n 0, 1) := q_tb t_Co_addSteps 3 rfl
theorem d_Co_addSteps_4 : decode prog_2_method_5_code 4 = .ok (.getfield 9, 3) := q_tb t_Co_addSteps 4 rfl
theorem d_Co_addSteps_7 : decode prog_2_method_5_code 7 = .ok (.if_icmp .ge 27, 3) := q_tb t_Co_addSteps 5 rfl
theorem d_Co_addSteps_10 : decode prog_2_method_5_code 10 = .ok (.iload_n 1, 1) := q_tb t_Co_addSteps 6 rfl
theorem d_Co_addSteps_11 : decode prog_2_method_5_code 11 = .ok (.iload_n 3, 1) := q_tb t_Co_addSteps 7 rfl
theorem d_Co_addSteps_12 : decode prog_2_method_5_code 12 = .ok (.ishr, 1) := q_tb t_Co_addSteps 8 rfl
theorem d_Co_addSteps_13 : decode prog_2_method_5_code 13 = .ok (.iconst 1, 1) := q_tb t_Co_addSteps 9 rfl
theorem d_Co_addSteps_14 : decode prog_2_method_5_code 14 = .ok (.iand, 1) := q_tb t_Co_addSteps 10 rfl
theorem d_Co_addSteps_15 : decode prog_2_method_5_code 15 = .ok (.ifCond .eq 13, 3) := q_tb t_Co_addSteps 11 rfl
theorem d_Co_addSteps_18 : decode prog_2_method_5_code 18 = .ok (.aload_n 0, 1) := q_tb t_Co_addSteps 12 rfl
theorem d_Co_addSteps_19 : decode prog_2_method_5_code 19 = .ok (.getfield 15, 3) := q_tb t_Co_addSteps 13 rfl
theorem d_Co_addSteps_22 : decode prog_2_method_5_code 22 = .ok (.iload_n 3, 1) := q_tb t_Co_addSteps 14 rfl
theorem d_Co_addSteps_23 : decode prog_2_method_5_code 23 = .ok (.dup2, 1) := q_tb t_Co_addSteps 15 rfl
theorem d_Co_addSteps_24 : decode prog_2_method_5_code 24 = .ok (.iaload, 1) := q_tb t_Co_addSteps 16 rfl
theorem d_Co_addSteps_25 : decode prog_2_method_5_code 25 = .ok (.iload_n 2, 1) := q_tb t_Co_addSteps 17 rfl
theorem d_Co_addSteps_26 : decode prog_2_method_5_code 26 = .ok (.ior, 1) := q_tb t_Co_addSteps 18 rfl
theorem d_Co_addSteps_27 : decode prog_2_method_5_code 27 = .ok (.iastore, 1) := q_tb t_Co_addSteps 19 rfl
theorem d_Co_addSteps_28 : decode prog_2_method_5_code 28 = .ok (.iinc 3 1, 3) := q_tb t_Co_addSteps 20 rfl
theorem d_Co_addSteps_31 : decode prog_2_method_5_code 31 = .ok (.goto (-29), 3) := q_tb t_Co_addSteps 21 rfl
theorem d_Co_addSteps_34 : decode prog_2_method_5_code 34 = .ok (.return_, 1) := q_tb t_Co_addSteps 22 rfl
def T_Pa_addBehind : List (Nat × Instr × Nat) := [(0, .aload_n 0, 1), (1, .dup, 1), (2, .getfield 13, 3), (5, .aload_n 0, 1), (6, .getfield 7, 3), (9, .ifCond .eq 10, 3), (12, .aload_n 1, 1), (13, .getfield 13, 3), (16, .goto 4, 3), (19, .iconst 0, 1), (20, .ior, 1), (21, .putfield 13, 3), (24, .aload_n 0, 1), (25, .aload_n 1, 1), (26, .getfield 17, 3), (29, .aload_n 1, 1), (30, .getfield 7, 3), (33, .ifCond .eq 10, 3), (36, .aload_n 0, 1), (37, .getfield 17, 3), (40, .goto 4, 3), (43, .iconst 0, 1), (44, .ior, 1), (45, .putfield 17, 3), (48, .aload_n 0, 1), (49, .dup, 1), (50, .getfield 7, 3), (53, .aload_n 1, 1), (54, .getfield 7, 3), (57, .iand, 1), (58, .putfield 7, 3), (61, .return_, 1)]
set_option maxRecDepth 100000 in
theorem t_Pa_addBehind : ∀ q ∈ T_Pa_addBehind, decode prog_3_method_4_code q.1 = .ok q.2 := by decide +kernel
theorem d_Pa_addBehind_0 : decode prog_3_method_4_code 0 = .ok (.aload_n 0, 1) := q_tb t_Pa_addBehind 0 rfl
theorem d_Pa_addBehind_1 : decode prog_3_method_4_code 1 = .ok (.dup, 1) := q_tb t_Pa_addBehind 1 rfl
theorem d_Pa_addBehind_2 : decode prog_3_method_4_code 2 = .ok (.getfield 13, 3) := q_tb t_Pa_addBehind 2 rfl
theorem d_Pa_addBehind_5 : decode prog_3_method_4_code 5 = .ok (.aload_n 0, 1) := q_tb t_Pa_addBehind 3 rfl
theorem d_Pa_addBehind_6 : decode prog_3_method_4_code 6 = .ok (.getfield 7, 3) := q_tb t_Pa_addBehind 4 rfl
theorem d_Pa_addBehind_9 : decode prog_3_method_4_code 9 = .ok (.ifCond .eq 10, 3) := q_tb t_Pa_addBehind 5 rfl
theorem d_Pa_addBehind_12 : decode prog_3_method_4_code 12 = .ok (.aload_n 1, 1) := q_tb t_Pa_addBehind 6 rfl
theorem d_Pa_addBehind_13 : decode prog_3_method_4_code 13 = .ok (.getfield 13, 3) := q_tb t_Pa_addBehind 7 rfl
theorem d_Pa_addBehind_16 : decode prog_3_method_4_code 16 = .ok (.goto 4, 3) := q_tb t_Pa_addBehind 8 rfl
theorem d_Pa_addBehind_19 : decode prog_3_method_4_code 19 = .ok (.iconst 0, 1) := q_tb t_Pa_addBehind 9 rfl
theorem d_Pa_addBehind_20 : decode prog_3_method_4_code 20 = .ok (.ior, 1) := q_tb t_Pa_addBehind 10 rfl
theorem d_Pa_addBehind_21 : decode prog_3_method_4_code 21 = .ok (.putfield 13, 3) := q_tb t_Pa_addBehind 11 rfl
theorem d_Pa_addBehind_24 : decode prog_3_method_4_code 24 = .ok (.aload_n 0, 1) := q_tb t_Pa_addBehind 12 rfl
theorem d_Pa_addBehind_25 : decode prog_3_method_4_code 25 = .ok (.aload_n 1, 1) := q_tb t_Pa_addBehind 13 rfl
theorem d_Pa_addBehind_26 : decode prog_3_method_4_code 26 = .ok (.getfield 17, 3) := q_tb t_Pa_addBehind 14 rfl
theorem d_Pa_addBehind_29 : decode prog_3_method_4_code 29 = .ok (.aload_n 1, 1) := q_tb t_Pa_addBehind 15 rfl
theorem d_Pa_addBehind_30 : decode prog_3_method_4_code 30 = .ok (.getfield 7, 3) := q_tb t_Pa_addBehind 16 rfl
theorem d_Pa_addBehind_33 : decode prog_3_method_4_code 33 = .ok (.ifCond .eq 10, 3) := q_tb t_Pa_addBehind 17 rfl
theorem d_Pa_addBehind_36 : decode prog_3_method_4_code 36 = .ok (.aload_n 0, 1) := q_tb t_Pa_addBehind 18 rfl
theorem d_Pa_addBehind_37 : decode prog_3_method_4_code 37 = .ok (.getfield 17, 3) := q_tb t_Pa_addBehind 19 rfl
theorem d_Pa_addBehind_40 : decode prog_3_method_4_code 40 = .ok (.goto 4, 3) := q_tb t_Pa_addBehind 20 rfl
theorem d_Pa_addBehind_43 : decode prog_3_method_4_code 43 = .ok (.iconst 0, 1) := q_tb t_Pa_addBehind 21 rfl
theorem d_Pa_addBehind_44 : decode prog_3_method_4_code 44 = .ok (.ior, 1) := q_tb t_Pa_addBehind 22 rfl
theorem d_Pa_addBehind_45 : decode prog_3_method_4_code 45 = .ok (.putfield 17, 3) := q_tb t_Pa_addBehind 23 rfl
theorem d_Pa_addBehind_48 : decode prog_3_method_4_code 48 = .ok (.aload_n 0, 1) := q_tb t_Pa_addBehind 24 rfl
theorem d_Pa_addBehind_49 : decode prog_3_method_4_code 49 = .ok (.dup, 1) := q_tb t_Pa_addBehind 25 rfl
theorem d_Pa_addBehind_50 : decode prog_3_method_4_code 50 = .ok (.getfield 7, 3) := q_tb t_Pa_addBehind 26 rfl
theorem d_Pa_addBehind_53 : decode prog_3_method_4_code 53 = .ok (.aload_n 1, 1) := q_tb t_Pa_addBehind 27 rfl
theorem d_Pa_addBehind_54 : decode prog_3_method_4_code 54 = .ok (.getfield 7, 3) := q_tb t_Pa_addBehind 28 rfl
theorem d_Pa_addBehind_57 : decode prog_3_method_4_code 57 = .ok (.iand, 1) := q_tb t_Pa_addBehind 29 rfl
theorem d_Pa_addBehind_58 : decode prog_3_method_4_code 58 = .ok (.putfield 7, 3) := q_tb t_Pa_addBehind 30 rfl
theorem d_Pa_addBehind_61 : decode prog_3_method_4_code 61 = .ok (.return_, 1) := q_tb t_Pa_addBehind 31 rfl
def T_Re_readAct0 : List (Nat × Instr × Nat) := [(0, .aload_n 0, 1), (1, .getfield 29, 3), (4, .aload_n 0, 1), (5, .getfield 40, 3), (8, .invokevirtual 74, 3), (11, .istore_n 2, 1), (12, .iload_n 2, 1), (13, .bipush 97, 2), (15, .isub, 1), (16, .istore_n 3, 1), (17, .iload_n 3, 1), (18, .ifCond .lt 18, 3), (21, .iload_n 3, 1), (22, .aload_n 0, 1), (23, .getfield 33, 3), (26, .getfield 91, 3), (29, .if_icmp .ge 7, 3), (32, .iconst 1, 1), (33, .goto 4, 3), (36, .iconst 0, 1), (37, .istore 4, 2), (39, .iload_n 2, 1), (40, .bipush 46, 2), (42, .if_icmp .eq 14, 3), (45, .iload 4, 2), (47, .ifCond .ne 9, 3), (50, .aload_n 0, 1), (51, .iconst 1, 1), (52, .invokevirtual 63, 3), (55, .return_, 1), (56, .aload_n 1, 1), (57, .invokevirtual 96, 3), (60, .ifCond .eq 9, 3), (63, .aload_n 0, 1), (64, .iconst 2, 1), (65, .invokevirtual 63, 3), (68, .return_, 1), (69, .aload_n 0, 1), (70, .dup, 1), (71, .getfield 40, 3)]
set_option maxRecDepth 100000 in
theorem t_Re_readAct0 : ∀ q ∈ T_Re_readAct0, decode prog_8_method_6_code q.1 = .ok q.2 := by decide +kernel
theorem d_Re_readAct_0 : decode prog_8_method_6_code 0 = .ok (.aload_n 0, 1) := q_tb t_Re_readAct0 0 rfl
theorem d_Re_readAct_1 : decode prog_8_method_6_code 1 = .ok (.getfield 29, 3) := q_tb t_Re_readAct0 1 rfl
theorem d_Re_readAct_4 : decode prog_8_method_6_code 4 = .ok (.aload_n 0, 1) := q_tb t_Re_readAct0 2 rfl
theorem d_Re_readAct_5 : decode prog_8_method_6_code 5 = .ok (.getfield 40, 3) := q_tb t_Re_readAct0 3 rfl
theorem d_Re_readAct_8 : decode prog_8_method_6_code 8 = .ok (.invokevirtual 74, 3) := q_tb t_Re_readAct0 4 rfl
theorem d_Re_readAct_11 : decode prog_8_method_6_code 11 = .ok (.istore_n 2, 1) := q_tb t_Re_readAct0 5 rfl
theorem d_Re_readAct_12 : decode prog_8_method_6_code 12 = .ok (.iload_n 2, 1) := q_tb t_Re_readAct0 6 rfl
theorem d_Re_readAct_13 : decode prog_8_method_6_code 13 = .ok (.bipush 97, 2) := q_tb t_Re_readAct0 7 rfl
theorem d_Re_readAct_15 : decode prog_8_method_6_code 15 = .ok (.isub, 1) := q_tb t_Re_readAct0 8 rfl
theorem d_Re_readAct_16 : decode prog_8_method_6_code 16 = .ok (.istore_n 3, 1) := q_tb t_Re_readAct0 9 rfl
theorem d_Re_readAct_17 : decode prog_8_method_6_code 17 = .ok (.iload_n 3, 1) := q_tb t_Re_readAct0 10 rfl
theorem d_Re_readAct_18 : decode prog_8_method_6_code 18 = .ok (.ifCond .lt 18, 3) := q_tb t_Re_readAct0 11 rfl
theorem d_Re_readAct_21 : decode prog_8_method_6_code 21 = .ok (.iload_n 3, 1) := q_tb t_Re_readAct0 12 rfl
theorem d_Re_readAct_22 : decode prog_8_method_6_code 22 = .ok (.aload_n 0, 1) := q_tb t_Re_readAct0 13 rfl
theorem d_Re_readAct_23 : decode prog_8_method_6_code 23 = .ok (.getfield 33, 3) := q_tb t_Re_readAct0 14 rfl
theorem d_Re_readAct_26 : decode prog_8_method_6_code 26 = .ok (.getfield 91, 3) := q_tb t_Re_readAct0 15 rfl
theorem d_Re_readAct_29 : decode prog_8_method_6_code 29 = .ok (.if_icmp .ge 7, 3) := q_tb t_Re_readAct0 16 rfl
theorem d_Re_readAct_32 : decode prog_8_method_6_code 32 = .ok (.iconst 1, 1) := q_tb t_Re_readAct0 17 rfl
theorem d_Re_readAct_33 : decode prog_8_method_6_code 33 = .ok (.goto 4, 3) := q_tb t_Re_readAct0 18 rfl
theorem d_Re_readAct_36 : decode prog_8_method_6_code 36 = .ok (.iconst 0, 1) := q_tb t_Re_readAct0 19 rfl
theorem d_Re_readAct_37 : decode prog_8_method_6_code 37 = .ok (.istore 4, 2) := q_tb t_Re_readAct0 20 rfl
theorem d_Re_readAct_39 : decode prog_8_method_6_code 39 = .ok (.iload_n 2, 1) := q_tb t_Re_readAct0 21 rfl
theorem d_Re_readAct_40 : decode prog_8_method_6_code 40 = .ok (.bipush 46, 2) := q_tb t_Re_readAct0 22 rfl
theorem d_Re_readAct_42 : decode prog_8_method_6_code 42 = .ok (.if_icmp .eq 14, 3) := q_tb t_Re_readAct0 23 rfl
theorem d_Re_readAct_45 : decode prog_8_method_6_code 45 = .ok (.iload 4, 2) := q_tb t_Re_readAct0 24 rfl
theorem d_Re_readAct_47 : decode prog_8_method_6_code 47 = .ok (.ifCond .ne 9, 3) := q_tb t_Re_readAct0 25 rfl
theorem d_Re_readAct_50 : decode prog_8_method_6_code 50 = .ok (.aload_n 0, 1) := q_tb t_Re_readAct0 26 rfl
theorem d_Re_readAct_51 : decode prog_8_method_6_code 51 = .ok (.iconst 1, 1) := q_tb t_Re_readAct0 27 rfl
theorem d_Re_readAct_52 : decode prog_8_method_6_code 52 = .ok (.invokevirtual 63, 3) := q_tb t_Re_readAct0 28 rfl
theorem d_Re_readAct_55 : decode prog_8_method_6_code 55 = .ok (.return_, 1) := q_tb t_Re_readAct0 29 rfl
theorem d_Re_readAct_56 : decode prog_8_method_6_code 56 = .ok (.aload_n 1, 1) := q_tb t_Re_readAct0 30 rfl
theorem d_Re_readAct_57 : decode prog_8_method_6_code 57 = .ok (.invokevirtual 96, 3) := q_tb t_Re_readAct0 31 rfl
theorem d_Re_readAct_60 : decode prog_8_method_6_code 60 = .ok (.ifCond .eq 9, 3) := q_tb t_Re_readAct0 32 rfl
theorem d_Re_readAct_63 : decode prog_8_method_6_code 63 = .ok (.aload_n 0, 1) := q_tb t_Re_readAct0 33 rfl
theorem d_Re_readAct_64 : decode prog_8_method_6_code 64 = .ok (.iconst 2, 1) := q_tb t_Re_readAct0 34 rfl
theorem d_Re_readAct_65 : decode prog_8_method_6_code 65 = .ok (.invokevirtual 63, 3) := q_tb t_Re_readAct0 35 rfl
theorem d_Re_readAct_68 : decode prog_8_method_6_code 68 = .ok (.return_, 1) := q_tb t_Re_readAct0 36 rfl
theorem d_Re_readAct_69 : decode prog_8_method_6_code 69 = .ok (.aload_n 0, 1) := q_tb t_Re_readAct0 37 rfl
theorem d_Re_readAct_70 : decode prog_8_method_6_code 70 = .ok (.dup, 1) := q_tb t_Re_readAct0 38 rfl
theorem d_Re_readAct_71 : decode prog_8_method_6_code 71 = .ok (.getfield 40, 3) := q_tb t_Re_readAct0 39 rfl
def T_Re_readAct1 : List (Nat × Instr × Nat) := [(74, .iconst 1, 1), (75, .iadd, 1), (76, .putfield 40, 3), (79, .iload 4, 2), (81, .ifCond .eq 7, 3), (84, .iload_n 3, 1), (85, .goto 4, 3), (88, .iconst 0, 1), (89, .istore 5, 2), (91, .iload 4, 2), (93, .ifCond .eq 10, 3), (96, .aload_n 0, 1), (97, .invokevirtual 100, 3), (100, .goto 5, 3), (103, .bipush 46, 2), (105, .istore 6, 2), (107, .iload 6, 2), (109, .invokestatic 104, 3), (112, .ifCond .eq 20, 3), (115, .aload_n 0, 1), (116, .aload_n 0, 1), (117, .getfield 33, 3), (120, .getfield 108, 3), (123, .iload 5, 2), (125, .iaload, 1), (126, .invokevirtual 112, 3), (129, .goto 4, 3), (132, .iconst 0, 1), (133, .istore 7, 2), (135, .aload_n 0, 1), (136, .getfield 37, 3), (139, .ifCond .ne 32, 3), (142, .aload_n 0, 1), (143, .getfield 21, 3), (146, .iconst 0, 1), (147, .iconst 1, 1), (148, .aload_n 1, 1), (149, .iload 6, 2), (151, .iload 5, 2), (153, .iload 7, 2)]
set_option maxRecDepth 100000 in
theorem t_Re_readAct1 : ∀ q ∈ T_Re_readAct1, decode prog_8_method_6_code q.1 = .ok q.2 := by decide +kernel
theorem d_Re_readAct_74 : decode prog_8_method_6_code 74 = .ok (.iconst 1, 1) := q_tb t_Re_readAct1 0 rfl
theorem d_Re_readAct_75 : decode prog_8_method_6_code 75 = .ok (.iadd, 1) := q_tb t_Re_readAct1 1 rfl
theorem d_Re_readAct_76 : decode prog_8_method_6_code 76 = .ok (.putfield 40, 3) := q_tb t_Re_readAct1 2 rfl
theorem d_Re_readAct_79 : decode prog_8_method_6_code 79 = .ok (.iload 4, 2) := q_tb t_Re_readAct1 3 rfl
theorem d_Re_readAct_81 : decode prog_8_method_6_code 81 = .ok (.ifCond .eq 7, 3) := q_tb t_Re_readAct1 4 rfl
theorem d_Re_readAct_84 : decode prog_8_method_6_code 84 = .ok (.iload_n 3, 1) := q_tb t_Re_readAct1 5 rfl
theorem d_Re_readAct_85 : decode prog_8_method_6_code 85 = .ok (.goto 4, 3) := q_tb t_Re_readAct1 6 rfl
theorem d_Re_readAct_88 : decode prog_8_method_6_code 88 = .ok (.iconst 0, 1) := q_tb t_Re_readAct1 7 rfl
theorem d_Re_readAct_89 : decode prog_8_method_6_code 89 = .ok (.istore 5, 2) := q_tb t_Re_readAct1 8 rfl
theorem d_Re_readAct_91 : decode prog_8_method_6_code 91 = .ok (.iload 4, 2) := q_tb t_Re_readAct1 9 rfl
theorem d_Re_readAct_93 : decode prog_8_method_6_code 93 = .ok (.ifCond .eq 10, 3) := q_tb t_Re_readAct1 10 rfl
theorem d_Re_readAct_96 : decode prog_8_method_6_code 96 = .ok (.aload_n 0, 1) := q_tb t_Re_readAct1 11 rfl
theorem d_Re_readAct_97 : decode prog_8_method_6_code 97 = .ok (.invokevirtual 100, 3) := q_tb t_Re_readAct1 12 rfl
theorem d_Re_readAct_100 : decode prog_8_method_6_code 100 = .ok (.goto 5, 3) := q_tb t_Re_readAct1 13 rfl
theorem d_Re_readAct_103 : decode prog_8_method_6_code 103 = .ok (.bipush 46, 2) := q_tb t_Re_readAct1 14 rfl
theorem d_Re_readAct_105 : decode prog_8_method_6_code 105 = .ok (.istore 6, 2) := q_tb t_Re_readAct1 15 rfl
theorem d_Re_readAct_107 : decode prog_8_method_6_code 107 = .ok (.iload 6, 2) := q_tb t_Re_readAct1 16 rfl
theorem d_Re_readAct_109 : decode prog_8_method_6_code 109 = .ok (.invokestatic 104, 3) := q_tb t_Re_readAct1 17 rfl
theorem d_Re_readAct_112 : decode prog_8_method_6_code 112 = .ok (.ifCond .eq 20, 3) := q_tb t_Re_readAct1 18 rfl
theorem d_Re_readAct_115 : decode prog_8_method_6_code 115 = .ok (.aload_n 0, 1) := q_tb t_Re_readAct1 19 rfl
theorem d_Re_readAct_116 : decode prog_8_method_6_code 116 = .ok (.aload_n 0, 1) := q_tb t_Re_readAct1 20 rfl
theorem d_Re_readAct_117 : decode prog_8_method_6_code 117 = .ok (.getfield 33, 3) := q_tb t_Re_readAct1 21 rfl
theorem d_Re_readAct_120 : decode prog_8_method_6_code 120 = .ok (.getfield 108, 3) := q_tb t_Re_readAct1 22 rfl
theorem d_Re_readAct_123 : decode prog_8_method_6_code 123 = .ok (.iload 5, 2) := q_tb t_Re_readAct1 23 rfl
theorem d_Re_readAct_125 : decode prog_8_method_6_code 125 = .ok (.iaload, 1) := q_tb t_Re_readAct1 24 rfl
theorem d_Re_readAct_126 : decode prog_8_method_6_code 126 = .ok (.invokevirtual 112, 3) := q_tb t_Re_readAct1 25 rfl
theorem d_Re_readAct_129 : decode prog_8_method_6_code 129 = .ok (.goto 4, 3) := q_tb t_Re_readAct1 26 rfl
theorem d_Re_readAct_132 : decode prog_8_method_6_code 132 = .ok (.iconst 0, 1) := q_tb t_Re_readAct1 27 rfl
theorem d_Re_readAct_133 : decode prog_8_method_6_code 133 = .ok (.istore 7, 2) := q_tb t_Re_readAct1 28 rfl
theorem d_Re_readAct_135 : decode prog_8_method_6_code 135 = .ok (.aload_n 0, 1) := q_tb t_Re_readAct1 29 rfl
theorem d_Re_readAct_136 : decode prog_8_method_6_code 136 = .ok (.getfield 37, 3) := q_tb t_Re_readAct1 30 rfl
theorem d_Re_readAct_139 : decode prog_8_method_6_code 139 = .ok (.ifCond .ne 32, 3) := q_tb t_Re_readAct1 31 rfl
theorem d_Re_readAct_142 : decode prog_8_method_6_code 142 = .ok (.aload_n 0, 1) := q_tb t_Re_readAct1 32 rfl
theorem d_Re_readAct_143 : decode prog_8_method_6_code 143 = .ok (.getfield 21, 3) := q_tb t_Re_readAct1 33 rfl
theorem d_Re_readAct_146 : decode prog_8_method_6_code 146 = .ok (.iconst 0, 1) := q_tb t_Re_readAct1 34 rfl
theorem d_Re_readAct_147 : decode prog_8_method_6_code 147 = .ok (.iconst 1, 1) := q_tb t_Re_readAct1 35 rfl
theorem d_Re_readAct_148 : decode prog_8_method_6_code 148 = .ok (.aload_n 1, 1) := q_tb t_Re_readAct1 36 rfl
theorem d_Re_readAct_149 : decode prog_8_method_6_code 149 = .ok (.iload 6, 2) := q_tb t_Re_readAct1 37 rfl
theorem d_Re_readAct_151 : decode prog_8_method_6_code 151 = .ok (.iload 5, 2) := q_tb t_Re_readAct1 38 rfl
theorem d_Re_readAct_153 : decode prog_8_method_6_code 153 = .ok (.iload 7, 2) := q_tb t_Re_readAct1 39 rfl
def T_Re_readAct2 : List (Nat × Instr × Nat) := [(155, .invokevirtual 115, 3), (158, .ishl, 1), (159, .invokevirtual 119, 3), (162, .aload_n 0, 1), (163, .aload_n 1, 1), (164, .aload_n 0, 1), (165, .getfield 21, 3), (168, .invokevirtual 87, 3), (171, .return_, 1)]
set_option maxRecDepth 100000 in
theorem t_Re_readAct2 : ∀ q ∈ T_Re_readAct2, decode prog_8_method_6_code q.1 = .ok q.2 := by decide +kernel
theorem d_Re_readAct_155 : decode prog_8_method_6_code 155 = .ok (.invokevirtual 115, 3) := q_tb t_Re_readAct2 0 rfl
theorem d_Re_readAct_158 : decode prog_8_method_6_code 158 = .ok (.ishl, 1) := q_tb t_Re_readAct2 1 rfl
theorem d_Re_readAct_159 : decode prog_8_method_6_code 159 = .ok (.invokevirtual 119, 3) := q_tb t_Re_readAct2 2 rfl
theorem d_Re_readAct_162 : decode prog_8_method_6_code 162 = .ok (.aload_n 0, 1) := q_tb t_Re_readAct2 3 rfl
theorem d_Re_readAct_163 : decode prog_8_method_6_code 163 = .ok (.aload_n 1, 1) := q_tb t_Re_readAct2 4 rfl
theorem d_Re_readAct_164 : decode prog_8_method_6_code 164 = .ok (.aload_n 0, 1) := q_tb t_Re_readAct2 5 rfl
theorem d_Re_readAct_165 : decode prog_8_method_6_code 165 = .ok (.getfield 21, 3) := q_tb t_Re_readAct2 6 rfl
theorem d_Re_readAct_168 : decode prog_8_method_6_code 168 = .ok (.invokevirtual 87, 3) := q_tb t_Re_readAct2 7 rfl
theorem d_Re_readAct_171 : decode prog_8_method_6_code 171 = .ok (.return_, 1) := q_tb t_Re_readAct2 8 rfl
def T_Co_isFull : List (Nat × Instr × Nat) := [(0, .aload_n 0, 1), (1, .getfield 9, 3), (4, .bipush 12, 2), (6, .if_icmp .le 7, 3), (9, .iconst 1, 1), (10, .goto 4, 3), (13, .iconst 0, 1), (14, .ireturn, 1)]
set_option maxRecDepth 100000 in
theorem t_Co_isFull : ∀ q ∈ T_Co_isFull, decode prog_2_method_3_code q.1 = .ok q.2 := by decide +kernel
theorem d_Co_isFull_0 : decode prog_2_method_3_code 0 = .ok (.aload_n 0, 1) := q_tb t_Co_isFull 0 rfl
theorem d_Co_isFull_1 : decode prog_2_method_3_code 1 = .ok (.getfield 9, 3) := q_tb t_Co_isFull 1 rfl
theorem d_Co_isFull_4 : decode prog_2_method_3_code 4 = .ok (.bipush 12, 2) := q_tb t_Co_isFull 2 rfl
theorem d_Co_isFull_6 : decode prog_2_method_3_code 6 = .ok (.if_icmp .le 7, 3) := q_tb t_Co_isFull 3 rfl
theorem d_Co_isFull_9 : decode prog_2_method_3_code 9 = .ok (.iconst 1, 1) := q_tb t_Co_isFull 4 rfl
theorem d_Co_isFull_10 : decode prog_2_method_3_code 10 = .ok (.goto 4, 3) := q_tb t_Co_isFull 5 rfl
theorem d_Co_isFull_13 : decode prog_2_method_3_code 13 = .ok (.iconst 0, 1) := q_tb t_Co_isFull 6 rfl
theorem d_Co_isFull_14 : decode prog_2_method_3_code 14 = .ok (.ireturn, 1) := q_tb t_Co_isFull 7 rfl
def T_Re_readKind : List (Nat × Instr × Nat) := [(0, .aload_n 0, 1), (1, .getfield 29, 3), (4, .aload_n 0, 1), (5, .getfield 40, 3), (8, .invokevirtual 74, 3), (11, .istore_n 1, 1), (12, .iload_n 1, 1), (13, .bipush 43, 2), (15, .if_icmp .eq 23, 3), (18, .iload_n 1, 1), (19, .bipush 45, 2), (21, .if_icmp .eq 17, 3), (24, .iload_n 1, 1), (25, .invokestatic 104, 3), (28, .ifCond .ne 10, 3), (31, .aload_n 0, 1), (32, .iconst 1, 1), (33, .invokevirtual 63, 3), (36, .iconst (-1), 1), (37, .ireturn, 1), (38, .aload_n 0, 1), (39, .dup, 1), (40, .getfield 40, 3), (43, .iconst 1, 1), (44, .iadd, 1), (45, .putfield 40, 3), (48, .iload_n 1, 1), (49, .ireturn, 1)]
set_option maxRecDepth 100000 in
theorem t_Re_readKind : ∀ q ∈ T_Re_readKind, decode prog_8_method_7_code q.1 = .ok q.2 := by decide +kernel
theorem d_Re_readKind_0 : decode prog_8_method_7_code 0 = .ok (.aload_n 0, 1) := q_tb t_Re_readKind 0 rfl
theorem d_Re_readKind_1 : decode prog_8_method_7_code 1 = .ok (.getfield 29, 3) := q_tb t_Re_readKind 1 rfl
theorem d_Re_readKind_4 : decode prog_8_method_7_code 4 = .ok (.aload_n 0, 1) := q_tb t_Re_readKind 2 rfl
theorem d_Re_readKind_5 : decode prog_8_method_7_code 5 = .ok (.getfield 40, 3) := q_tb t_Re_readKind 3 rfl
theorem d_Re_readKind_8 : decode prog_8_method_7_code 8 = .ok (.invokevirtual 74, 3) := q_tb t_Re_readKind 4 rfl
theorem d_Re_readKind_11 : decode prog_8_method_7_code 11 = .ok (.istore_n 1, 1) := q_tb t_Re_readKind 5 rfl
theorem d_Re_readKind_12 : decode prog_8_method_7_code 12 = .ok (.iload_n 1, 1) := q_tb t_Re_readKind 6 rfl
theorem d_Re_readKind_13 : decode prog_8_method_7_code 13 = .ok (.bipush 43, 2) := q_tb t_Re_readKind 7 rfl
theorem d_Re_readKind_15 : decode prog_8_method_7_code 15 = .ok (.if_icmp .eq 23, 3) := q_tb t_Re_readKind 8 rfl
theorem d_Re_readKind_18 : decode prog_8_method_7_code 18 = .ok (.iload_n 1, 1) := q_tb t_Re_readKind 9 rfl
theorem d_Re_readKind_19 : decode prog_8_method_7_code 19 = .ok (.bipush 45, 2) := q_tb t_Re_readKind 10 rfl
theorem d_Re_readKind_21 : decode prog_8_method_7_code 21 = .ok (.if_icmp .eq 17, 3) := q_tb t_Re_readKind 11 rfl
theorem d_Re_readKind_24 : decode prog_8_method_7_code 24 = .ok (.iload_n 1, 1) := q_tb t_Re_readKind 12 rfl
theorem d_Re_readKind_25 : decode prog_8_method_7_code 25 = .ok (.invokestatic 104, 3) := q_tb t_Re_readKind 13 rfl
theorem d_Re_readKind_28 : decode prog_8_method_7_code 28 = .ok (.ifCond .ne 10, 3) := q_tb t_Re_readKind 14 rfl
theorem d_Re_readKind_31 : decode prog_8_method_7_code 31 = .ok (.aload_n 0, 1) := q_tb t_Re_readKind 15 rfl
theorem d_Re_readKind_32 : decode prog_8_method_7_code 32 = .ok (.iconst 1, 1) := q_tb t_Re_readKind 16 rfl
theorem d_Re_readKind_33 : decode prog_8_method_7_code 33 = .ok (.invokevirtual 63, 3) := q_tb t_Re_readKind 17 rfl
theorem d_Re_readKind_36 : decode prog_8_method_7_code 36 = .ok (.iconst (-1), 1) := q_tb t_Re_readKind 18 rfl
theorem d_Re_readKind_37 : decode prog_8_method_7_code 37 = .ok (.ireturn, 1) := q_tb t_Re_readKind 19 rfl
theorem d_Re_readKind_38 : decode prog_8_method_7_code 38 = .ok (.aload_n 0, 1) := q_tb t_Re_readKind 20 rfl
theorem d_Re_readKind_39 : decode prog_8_method_7_code 39 = .ok (.dup, 1) := q_tb t_Re_readKind 21 rfl
theorem d_Re_readKind_40 : decode prog_8_method_7_code 40 = .ok (.getfield 40, 3) := q_tb t_Re_readKind 22 rfl
theorem d_Re_readKind_43 : decode prog_8_method_7_code 43 = .ok (.iconst 1, 1) := q_tb t_Re_readKind 23 rfl
theorem d_Re_readKind_44 : decode prog_8_method_7_code 44 = .ok (.iadd, 1) := q_tb t_Re_readKind 24 rfl
theorem d_Re_readKind_45 : decode prog_8_method_7_code 45 = .ok (.putfield 40, 3) := q_tb t_Re_readKind 25 rfl
theorem d_Re_readKind_48 : decode prog_8_method_7_code 48 = .ok (.iload_n 1, 1) := q_tb t_Re_readKind 26 rfl
theorem d_Re_readKind_49 : decode prog_8_method_7_code 49 = .ok (.ireturn, 1) := q_tb t_Re_readKind 27 rfl
def T_Re_takesFigure : List (Nat × Instr × Nat) := [(0, .iload_n 0, 1), (1, .bipush 61, 2), (3, .if_icmp .eq 15, 3), (6, .iload_n 0, 1), (7, .bipush 63, 2), (9, .if_icmp .eq 9, 3), (12, .iload_n 0, 1), (13, .bipush 33, 2), (15, .if_icmp .ne 7, 3), (18, .iconst 1, 1), (19, .goto 4, 3), (22, .iconst 0, 1), (23, .ireturn, 1)]
set_option maxRecDepth 100000 in
theorem t_Re_takesFigure : ∀ q ∈ T_Re_takesFigure, decode prog_8_method_8_code q.1 = .ok q.2 := by decide +kernel
theorem d_Re_takesFigure_0 : decode prog_8_method_8_code 0 = .ok (.iload_n 0, 1) := q_tb t_Re_takesFigure 0 rfl
theorem d_Re_takesFigure_1 : decode prog_8_method_8_code 1 = .ok (.bipush 61, 2) := q_tb t_Re_takesFigure 1 rfl
theorem d_Re_takesFigure_3 : decode prog_8_method_8_code 3 = .ok (.if_icmp .eq 15, 3) := q_tb t_Re_takesFigure 2 rfl
theorem d_Re_takesFigure_6 : decode prog_8_method_8_code 6 = .ok (.iload_n 0, 1) := q_tb t_Re_takesFigure 3 rfl
theorem d_Re_takesFigure_7 : decode prog_8_method_8_code 7 = .ok (.bipush 63, 2) := q_tb t_Re_takesFigure 4 rfl
theorem d_Re_takesFigure_9 : decode prog_8_method_8_code 9 = .ok (.if_icmp .eq 9, 3) := q_tb t_Re_takesFigure 5 rfl
theorem d_Re_takesFigure_12 : decode prog_8_method_8_code 12 = .ok (.iload_n 0, 1) := q_tb t_Re_takesFigure 6 rfl
theorem d_Re_takesFigure_13 : decode prog_8_method_8_code 13 = .ok (.bipush 33, 2) := q_tb t_Re_takesFigure 7 rfl
theorem d_Re_takesFigure_15 : decode prog_8_method_8_code 15 = .ok (.if_icmp .ne 7, 3) := q_tb t_Re_takesFigure 8 rfl
theorem d_Re_takesFigure_18 : decode prog_8_method_8_code 18 = .ok (.iconst 1, 1) := q_tb t_Re_takesFigure 9 rfl
theorem d_Re_takesFigure_19 : decode prog_8_method_8_code 19 = .ok (.goto 4, 3) := q_tb t_Re_takesFigure 10 rfl
theorem d_Re_takesFigure_22 : decode prog_8_method_8_code 22 = .ok (.iconst 0, 1) := q_tb t_Re_takesFigure 11 rfl
theorem d_Re_takesFigure_23 : decode prog_8_method_8_code 23 = .ok (.ireturn, 1) := q_tb t_Re_takesFigure 12 rfl
def T_Re_readFigure : List (Nat × Instr × Nat) := [(0, .aload_n 0, 1), (1, .getfield 29, 3), (4, .aload_n 0, 1), (5, .getfield 40, 3), (8, .invokevirtual 74, 3), (11, .bipush 48, 2), (13, .isub, 1), (14, .istore_n 2, 1), (15, .iload_n 2, 1), (16, .ifCond .lt 8, 3), (19, .iload_n 2, 1), (20, .iload_n 1, 1), (21, .if_icmp .lt 10, 3), (24, .aload_n 0, 1), (25, .iconst 1, 1), (26, .invokevirtual 63, 3), (29, .iconst (-1), 1), (30, .ireturn, 1), (31, .aload_n 0, 1), (32, .dup, 1), (33, .getfield 40, 3), (36, .iconst 1, 1), (37, .iadd, 1), (38, .putfield 40, 3), (41, .iload_n 2, 1), (42, .ireturn, 1)]
set_option maxRecDepth 100000 in
theorem t_Re_readFigure : ∀ q ∈ T_Re_readFigure, decode prog_8_method_9_code q.1 = .ok q.2 := by decide +kernel
theorem d_Re_readFigure_0 : decode prog_8_method_9_code 0 = .ok (.aload_n 0, 1) := q_tb t_Re_readFigure 0 rfl
theorem d_Re_readFigure_1 : decode prog_8_method_9_code 1 = .ok (.getfield 29, 3) := q_tb t_Re_readFigure 1 rfl
theorem d_Re_readFigure_4 : decode prog_8_method_9_code 4 = .ok (.aload_n 0, 1) := q_tb t_Re_readFigure 2 rfl
theorem d_Re_readFigure_5 : decode prog_8_method_9_code 5 = .ok (.getfield 40, 3) := q_tb t_Re_readFigure 3 rfl
theorem d_Re_readFigure_8 : decode prog_8_method_9_code 8 = .ok (.invokevirtual 74, 3) := q_tb t_Re_readFigure 4 rfl
theorem d_Re_readFigure_11 : decode prog_8_method_9_code 11 = .ok (.bipush 48, 2) := q_tb t_Re_readFigure 5 rfl
theorem d_Re_readFigure_13 : decode prog_8_method_9_code 13 = .ok (.isub, 1) := q_tb t_Re_readFigure 6 rfl
theorem d_Re_readFigure_14 : decode prog_8_method_9_code 14 = .ok (.istore_n 2, 1) := q_tb t_Re_readFigure 7 rfl
theorem d_Re_readFigure_15 : decode prog_8_method_9_code 15 = .ok (.iload_n 2, 1) := q_tb t_Re_readFigure 8 rfl
theorem d_Re_readFigure_16 : decode prog_8_method_9_code 16 = .ok (.ifCond .lt 8, 3) := q_tb t_Re_readFigure 9 rfl
theorem d_Re_readFigure_19 : decode prog_8_method_9_code 19 = .ok (.iload_n 2, 1) := q_tb t_Re_readFigure 10 rfl
theorem d_Re_readFigure_20 : decode prog_8_method_9_code 20 = .ok (.iload_n 1, 1) := q_tb t_Re_readFigure 11 rfl
theorem d_Re_readFigure_21 : decode prog_8_method_9_code 21 = .ok (.if_icmp .lt 10, 3) := q_tb t_Re_readFigure 12 rfl
theorem d_Re_readFigure_24 : decode prog_8_method_9_code 24 = .ok (.aload_n 0, 1) := q_tb t_Re_readFigure 13 rfl
theorem d_Re_readFigure_25 : decode prog_8_method_9_code 25 = .ok (.iconst 1, 1) := q_tb t_Re_readFigure 14 rfl
theorem d_Re_readFigure_26 : decode prog_8_method_9_code 26 = .ok (.invokevirtual 63, 3) := q_tb t_Re_readFigure 15 rfl
theorem d_Re_readFigure_29 : decode prog_8_method_9_code 29 = .ok (.iconst (-1), 1) := q_tb t_Re_readFigure 16 rfl
theorem d_Re_readFigure_30 : decode prog_8_method_9_code 30 = .ok (.ireturn, 1) := q_tb t_Re_readFigure 17 rfl
theorem d_Re_readFigure_31 : decode prog_8_method_9_code 31 = .ok (.aload_n 0, 1) := q_tb t_Re_readFigure 18 rfl
theorem d_Re_readFigure_32 : decode prog_8_method_9_code 32 = .ok (.dup, 1) := q_tb t_Re_readFigure 19 rfl
theorem d_Re_readFigure_33 : decode prog_8_method_9_code 33 = .ok (.getfield 40, 3) := q_tb t_Re_readFigure 20 rfl
theorem d_Re_readFigure_36 : decode prog_8_method_9_code 36 = .ok (.iconst 1, 1) := q_tb t_Re_readFigure 21 rfl
theorem d_Re_readFigure_37 : decode prog_8_method_9_code 37 = .ok (.iadd, 1) := q_tb t_Re_readFigure 22 rfl
theorem d_Re_readFigure_38 : decode prog_8_method_9_code 38 = .ok (.putfield 40, 3) := q_tb t_Re_readFigure 23 rfl
theorem d_Re_readFigure_41 : decode prog_8_method_9_code 41 = .ok (.iload_n 2, 1) := q_tb t_Re_readFigure 24 rfl
theorem d_Re_readFigure_42 : decode prog_8_method_9_code 42 = .ok (.ireturn, 1) := q_tb t_Re_readFigure 25 rfl
def T_Co_addAct : List (Nat × Instr × Nat) := [(0, .aload_n 0, 1), (1, .getfield 9, 3), (4, .istore 4, 2), (6, .aload_n 0, 1), (7, .getfield 19, 3), (10, .iload 4, 2), (12, .iload_n 1, 1), (13, .iastore, 1), (14, .aload_n 0, 1), (15, .getfield 22, 3), (18, .iload 4, 2), (20, .iload_n 2, 1), (21, .iastore, 1), (22, .aload_n 0, 1), (23, .getfield 25, 3), (26, .iload 4, 2), (28, .iload_n 3, 1), (29, .iastore, 1), (30, .aload_n 0, 1), (31, .dup, 1), (32, .getfield 9, 3), (35, .iconst 1, 1), (36, .iadd, 1), (37, .putfield 9, 3), (40, .iload 4, 2), (42, .ireturn, 1)]
set_option maxRecDepth 100000 in
theorem t_Co_addAct : ∀ q ∈ T_Co_addAct, decode prog_2_method_4_code q.1 = .ok q.2 := by decide +kernel
theorem d_Co_addAct_0 : decode prog_2_method_4_code 0 = .ok (.aload_n 0, 1) := q_tb t_Co_addAct 0 rfl
theorem d_Co_addAct_1 : decode prog_2_method_4_code 1 = .ok (.getfield 9, 3) := q_tb t_Co_addAct 1 rfl
theorem d_Co_addAct_4 : decode prog_2_method_4_code 4 = .ok (.istore 4, 2) := q_tb t_Co_addAct 2 rfl
theorem d_Co_addAct_6 : decode prog_2_method_4_code 6 = .ok (.aload_n 0, 1) := q_tb t_Co_addAct 3 rfl
theorem d_Co_addAct_7 : decode prog_2_method_4_code 7 = .ok (.getfield 19, 3) := q_tb t_Co_addAct 4 rfl
theorem d_Co_addAct_10 : decode prog_2_method_4_code 10 = .ok (.iload 4, 2) := q_tb t_Co_addAct 5 rfl
theorem d_Co_addAct_12 : decode prog_2_method_4_code 12 = .ok (.iload_n 1, 1) := q_tb t_Co_addAct 6 rfl
theorem d_Co_addAct_13 : decode prog_2_method_4_code 13 = .ok (.iastore, 1) := q_tb t_Co_addAct 7 rfl
theorem d_Co_addAct_14 : decode prog_2_method_4_code 14 = .ok (.aload_n 0, 1) := q_tb t_Co_addAct 8 rfl
theorem d_Co_addAct_15 : decode prog_2_method_4_code 15 = .ok (.getfield 22, 3) := q_tb t_Co_addAct 9 rfl
theorem d_Co_addAct_18 : decode prog_2_method_4_code 18 = .ok (.iload 4, 2) := q_tb t_Co_addAct 10 rfl
theorem d_Co_addAct_20 : decode prog_2_method_4_code 20 = .ok (.iload_n 2, 1) := q_tb t_Co_addAct 11 rfl
theorem d_Co_addAct_21 : decode prog_2_method_4_code 21 = .ok (.iastore, 1) := q_tb t_Co_addAct 12 rfl
theorem d_Co_addAct_22 : decode prog_2_method_4_code 22 = .ok (.aload_n 0, 1) := q_tb t_Co_addAct 13 rfl
theorem d_Co_addAct_23 : decode prog_2_method_4_code 23 = .ok (.getfield 25, 3) := q_tb t_Co_addAct 14 rfl
theorem d_Co_addAct_26 : decode prog_2_method_4_code 26 = .ok (.iload 4, 2) := q_tb t_Co_addAct 15 rfl
theorem d_Co_addAct_28 : decode prog_2_method_4_code 28 = .ok (.iload_n 3, 1) := q_tb t_Co_addAct 16 rfl
theorem d_Co_addAct_29 : decode prog_2_method_4_code 29 = .ok (.iastore, 1) := q_tb t_Co_addAct 17 rfl
theorem d_Co_addAct_30 : decode prog_2_method_4_code 30 = .ok (.aload_n 0, 1) := q_tb t_Co_addAct 18 rfl
theorem d_Co_addAct_31 : decode prog_2_method_4_code 31 = .ok (.dup, 1) := q_tb t_Co_addAct 19 rfl
theorem d_Co_addAct_32 : decode prog_2_method_4_code 32 = .ok (.getfield 9, 3) := q_tb t_Co_addAct 20 rfl
theorem d_Co_addAct_35 : decode prog_2_method_4_code 35 = .ok (.iconst 1, 1) := q_tb t_Co_addAct 21 rfl
theorem d_Co_addAct_36 : decode prog_2_method_4_code 36 = .ok (.iadd, 1) := q_tb t_Co_addAct 22 rfl
theorem d_Co_addAct_37 : decode prog_2_method_4_code 37 = .ok (.putfield 9, 3) := q_tb t_Co_addAct 23 rfl
theorem d_Co_addAct_40 : decode prog_2_method_4_code 40 = .ok (.iload 4, 2) := q_tb t_Co_addAct 24 rfl
theorem d_Co_addAct_42 : decode prog_2_method_4_code 42 = .ok (.ireturn, 1) := q_tb t_Co_addAct 25 rfl
def T_Co_finish : List (Nat × Instr × Nat) := [(0, .aload_n 0, 1), (1, .getfield 15, 3), (4, .iconst 0, 1), (5, .aload_n 1, 1), (6, .getfield 37, 3), (9, .iastore, 1), (10, .aload_n 0, 1), (11, .aload_n 1, 1), (12, .getfield 42, 3), (15, .aload_n 1, 1), (16, .getfield 45, 3), (19, .ifCond .eq 7, 3), (22, .iconst 1, 1), (23, .goto 4, 3), (26, .iconst 0, 1), (27, .ior, 1), (28, .putfield 28, 3), (31, .return_, 1)]
set_option maxRecDepth 100000 in
theorem t_Co_finish : ∀ q ∈ T_Co_finish, decode prog_2_method_6_code q.1 = .ok q.2 := by decide +kernel
theorem d_Co_finish_0 : decode prog_2_method_6_code 0 = .ok (.aload_n 0, 1) := q_tb t_Co_finish 0 rfl
theorem d_Co_finish_1 : decode prog_2_method_6_code 1 = .ok (.getfield 15, 3) := q_tb t_Co_finish 1 rfl
theorem d_Co_finish_4 : decode prog_2_method_6_code 4 = .ok (.iconst 0, 1) := q_tb t_Co_finish 2 rfl
theorem d_Co_finish_5 : decode prog_2_method_6_code 5 = .ok (.aload_n 1, 1) := q_tb t_Co_finish 3 rfl
theorem d_Co_finish_6 : decode prog_2_method_6_code 6 = .ok (.getfield 37, 3) := q_tb t_Co_finish 4 rfl
theorem d_Co_finish_9 : decode prog_2_method_6_code 9 = .ok (.iastore, 1) := q_tb t_Co_finish 5 rfl
theorem d_Co_finish_10 : decode prog_2_method_6_code 10 = .ok (.aload_n 0, 1) := q_tb t_Co_finish 6 rfl
theorem d_Co_finish_11 : decode prog_2_method_6_code 11 = .ok (.aload_n 1, 1) := q_tb t_Co_finish 7 rfl
theorem d_Co_finish_12 : decode prog_2_method_6_code 12 = .ok (.getfield 42, 3) := q_tb t_Co_finish 8 rfl
theorem d_Co_finish_15 : decode prog_2_method_6_code 15 = .ok (.aload_n 1, 1) := q_tb t_Co_finish 9 rfl
theorem d_Co_finish_16 : decode prog_2_method_6_code 16 = .ok (.getfield 45, 3) := q_tb t_Co_finish 10 rfl
theorem d_Co_finish_19 : decode prog_2_method_6_code 19 = .ok (.ifCond .eq 7, 3) := q_tb t_Co_finish 11 rfl
theorem d_Co_finish_22 : decode prog_2_method_6_code 22 = .ok (.iconst 1, 1) := q_tb t_Co_finish 12 rfl
theorem d_Co_finish_23 : decode prog_2_method_6_code 23 = .ok (.goto 4, 3) := q_tb t_Co_finish 13 rfl
theorem d_Co_finish_26 : decode prog_2_method_6_code 26 = .ok (.iconst 0, 1) := q_tb t_Co_finish 14 rfl
theorem d_Co_finish_27 : decode prog_2_method_6_code 27 = .ok (.ior, 1) := q_tb t_Co_finish 15 rfl
theorem d_Co_finish_28 : decode prog_2_method_6_code 28 = .ok (.putfield 28, 3) := q_tb t_Co_finish 16 rfl
theorem d_Co_finish_31 : decode prog_2_method_6_code 31 = .ok (.return_, 1) := q_tb t_Co_finish 17 rfl
def T_Co_outcome0 : List (Nat × Instr × Nat) := [(0, .aload_n 0, 1), (1, .getfield 19, 3), (4, .iload_n 1, 1), (5, .iaload, 1), (6, .lookupswitch 116 #[(33, 100), (43, 50), (45, 65), (61, 77), (63, 84)], 50), (56, .iload_n 2, 1), (57, .iload_n 3, 1), (58, .iconst 1, 1), (59, .isub, 1), (60, .if_icmp .ge 9, 3), (63, .iload_n 2, 1), (64, .iconst 1, 1), (65, .iadd, 1), (66, .goto 4, 3), (69, .iconst (-1), 1), (70, .ireturn, 1), (71, .iload_n 2, 1), (72, .ifCond .le 9, 3), (75, .iload_n 2, 1), (76, .iconst 1, 1), (77, .isub, 1), (78, .goto 4, 3), (81, .iconst (-1), 1), (82, .ireturn, 1), (83, .aload_n 0, 1), (84, .getfield 25, 3), (87, .iload_n 1, 1), (88, .iaload, 1), (89, .ireturn, 1), (90, .iload_n 2, 1), (91, .aload_n 0, 1), (92, .getfield 25, 3), (95, .iload_n 1, 1), (96, .iaload, 1), (97, .if_icmp .ne 7, 3), (100, .iload_n 2, 1), (101, .goto 4, 3), (104, .iconst (-1), 1), (105, .ireturn, 1), (106, .iload_n 2, 1)]
set_option maxRecDepth 100000 in
theorem t_Co_outcome0 : ∀ q ∈ T_Co_outcome0, decode prog_2_method_9_code q.1 = .ok q.2 := by decide +kernel
theorem d_Co_outcome_0 : decode prog_2_method_9_code 0 = .ok (.aload_n 0, 1) := q_tb t_Co_outcome0 0 rfl
theorem d_Co_outcome_1 : decode prog_2_method_9_code 1 = .ok (.getfield 19, 3) := q_tb t_Co_outcome0 1 rfl
theorem d_Co_outcome_4 : decode prog_2_method_9_code 4 = .ok (.iload_n 1, 1) := q_tb t_Co_outcome0 2 rfl
theorem d_Co_outcome_5 : decode prog_2_method_9_code 5 = .ok (.iaload, 1) := q_tb t_Co_outcome0 3 rfl
theorem d_Co_outcome_6 : decode prog_2_method_9_code 6 = .ok (.lookupswitch 116 #[(33, 100), (43, 50), (45, 65), (61, 77), (63, 84)], 50) := q_tb t_Co_outcome0 4 rfl
theorem d_Co_outcome_56 : decode prog_2_method_9_code 56 = .ok (.iload_n 2, 1) := q_tb t_Co_outcome0 5 rfl
theorem d_Co_outcome_57 : decode prog_2_method_9_code 57 = .ok (.iload_n 3, 1) := q_tb t_Co_outcome0 6 rfl
theorem d_Co_outcome_58 : decode prog_2_method_9_code 58 = .ok (.iconst 1, 1) := q_tb t_Co_outcome0 7 rfl
theorem d_Co_outcome_59 : decode prog_2_method_9_code 59 = .ok (.isub, 1) := q_tb t_Co_outcome0 8 rfl
theorem d_Co_outcome_60 : decode prog_2_method_9_code 60 = .ok (.if_icmp .ge 9, 3) := q_tb t_Co_outcome0 9 rfl
theorem d_Co_outcome_63 : decode prog_2_method_9_code 63 = .ok (.iload_n 2, 1) := q_tb t_Co_outcome0 10 rfl
theorem d_Co_outcome_64 : decode prog_2_method_9_code 64 = .ok (.iconst 1, 1) := q_tb t_Co_outcome0 11 rfl
theorem d_Co_outcome_65 : decode prog_2_method_9_code 65 = .ok (.iadd, 1) := q_tb t_Co_outcome0 12 rfl
theorem d_Co_outcome_66 : decode prog_2_method_9_code 66 = .ok (.goto 4, 3) := q_tb t_Co_outcome0 13 rfl
theorem d_Co_outcome_69 : decode prog_2_method_9_code 69 = .ok (.iconst (-1), 1) := q_tb t_Co_outcome0 14 rfl
theorem d_Co_outcome_70 : decode prog_2_method_9_code 70 = .ok (.ireturn, 1) := q_tb t_Co_outcome0 15 rfl
theorem d_Co_outcome_71 : decode prog_2_method_9_code 71 = .ok (.iload_n 2, 1) := q_tb t_Co_outcome0 16 rfl
theorem d_Co_outcome_72 : decode prog_2_method_9_code 72 = .ok (.ifCond .le 9, 3) := q_tb t_Co_outcome0 17 rfl
theorem d_Co_outcome_75 : decode prog_2_method_9_code 75 = .ok (.iload_n 2, 1) := q_tb t_Co_outcome0 18 rfl
theorem d_Co_outcome_76 : decode prog_2_method_9_code 76 = .ok (.iconst 1, 1) := q_tb t_Co_outcome0 19 rfl
theorem d_Co_outcome_77 : decode prog_2_method_9_code 77 = .ok (.isub, 1) := q_tb t_Co_outcome0 20 rfl
theorem d_Co_outcome_78 : decode prog_2_method_9_code 78 = .ok (.goto 4, 3) := q_tb t_Co_outcome0 21 rfl
theorem d_Co_outcome_81 : decode prog_2_method_9_code 81 = .ok (.iconst (-1), 1) := q_tb t_Co_outcome0 22 rfl
theorem d_Co_outcome_82 : decode prog_2_method_9_code 82 = .ok (.ireturn, 1) := q_tb t_Co_outcome0 23 rfl
theorem d_Co_outcome_83 : decode prog_2_method_9_code 83 = .ok (.aload_n 0, 1) := q_tb t_Co_outcome0 24 rfl
theorem d_Co_outcome_84 : decode prog_2_method_9_code 84 = .ok (.getfield 25, 3) := q_tb t_Co_outcome0 25 rfl
theorem d_Co_outcome_87 : decode prog_2_method_9_code 87 = .ok (.iload_n 1, 1) := q_tb t_Co_outcome0 26 rfl
theorem d_Co_outcome_88 : decode prog_2_method_9_code 88 = .ok (.iaload, 1) := q_tb t_Co_outcome0 27 rfl
theorem d_Co_outcome_89 : decode prog_2_method_9_code 89 = .ok (.ireturn, 1) := q_tb t_Co_outcome0 28 rfl
theorem d_Co_outcome_90 : decode prog_2_method_9_code 90 = .ok (.iload_n 2, 1) := q_tb t_Co_outcome0 29 rfl
theorem d_Co_outcome_91 : decode prog_2_method_9_code 91 = .ok (.aload_n 0, 1) := q_tb t_Co_outcome0 30 rfl
theorem d_Co_outcome_92 : decode prog_2_method_9_code 92 = .ok (.getfield 25, 3) := q_tb t_Co_outcome0 31 rfl
theorem d_Co_outcome_95 : decode prog_2_method_9_code 95 = .ok (.iload_n 1, 1) := q_tb t_Co_outcome0 32 rfl
theorem d_Co_outcome_96 : decode prog_2_method_9_code 96 = .ok (.iaload, 1) := q_tb t_Co_outcome0 33 rfl
theorem d_Co_outcome_97 : decode prog_2_method_9_code 97 = .ok (.if_icmp .ne 7, 3) := q_tb t_Co_outcome0 34 rfl
theorem d_Co_outcome_100 : decode prog_2_method_9_code 100 = .ok (.iload_n 2, 1) := q_tb t_Co_outcome0 35 rfl
theorem d_Co_outcome_101 : decode prog_2_method_9_code 101 = .ok (.goto 4, 3) := q_tb t_Co_outcome0 36 rfl
theorem d_Co_outcome_104 : decode prog_2_method_9_code 104 = .ok (.iconst (-1), 1) := q_tb t_Co_outcome0 37 rfl
theorem d_Co_outcome_105 : decode prog_2_method_9_code 105 = .ok (.ireturn, 1) := q_tb t_Co_outcome0 38 rfl
theorem d_Co_outcome_106 : decode prog_2_method_9_code 106 = .ok (.iload_n 2, 1) := q_tb t_Co_outcome0 39 rfl
def T_Co_outcome1 : List (Nat × Instr × Nat) := [(107, .aload_n 0, 1), (108, .getfield 25, 3), (111, .iload_n 1, 1), (112, .iaload, 1), (113, .if_icmp .eq 7, 3), (116, .iload_n 2, 1), (117, .goto 4, 3), (120, .iconst (-1), 1), (121, .ireturn, 1), (122, .iload_n 2, 1), (123, .ireturn, 1)]
set_option maxRecDepth 100000 in
theorem t_Co_outcome1 : ∀ q ∈ T_Co_outcome1, decode prog_2_method_9_code q.1 = .ok q.2 := by decide +kernel
theorem d_Co_outcome_107 : decode prog_2_method_9_code 107 = .ok (.aload_n 0, 1) := q_tb t_Co_outcome1 0 rfl
theorem d_Co_outcome_108 : decode prog_2_method_9_code 108 = .ok (.getfield 25, 3) := q_tb t_Co_outcome1 1 rfl
theorem d_Co_outcome_111 : decode prog_2_method_9_code 111 = .ok (.iload_n 1, 1) := q_tb t_Co_outcome1 2 rfl
theorem d_Co_outcome_112 : decode prog_2_method_9_code 112 = .ok (.iaload, 1) := q_tb t_Co_outcome1 3 rfl
theorem d_Co_outcome_113 : decode prog_2_method_9_code 113 = .ok (.if_icmp .eq 7, 3) := q_tb t_Co_outcome1 4 rfl
theorem d_Co_outcome_116 : decode prog_2_method_9_code 116 = .ok (.iload_n 2, 1) := q_tb t_Co_outcome1 5 rfl
theorem d_Co_outcome_117 : decode prog_2_method_9_code 117 = .ok (.goto 4, 3) := q_tb t_Co_outcome1 6 rfl
theorem d_Co_outcome_120 : decode prog_2_method_9_code 120 = .ok (.iconst (-1), 1) := q_tb t_Co_outcome1 7 rfl
theorem d_Co_outcome_121 : decode prog_2_method_9_code 121 = .ok (.ireturn, 1) := q_tb t_Co_outcome1 8 rfl
theorem d_Co_outcome_122 : decode prog_2_method_9_code 122 = .ok (.iload_n 2, 1) := q_tb t_Co_outcome1 9 rfl
theorem d_Co_outcome_123 : decode prog_2_method_9_code 123 = .ok (.ireturn, 1) := q_tb t_Co_outcome1 10 rfl
def T_Co_isEnd : List (Nat × Instr × Nat) := [(0, .aload_n 0, 1), (1, .getfield 28, 3), (4, .iload_n 1, 1), (5, .ishr, 1), (6, .iconst 1, 1), (7, .iand, 1), (8, .ifCond .eq 7, 3), (11, .iconst 1, 1), (12, .goto 4, 3), (15, .iconst 0, 1), (16, .ireturn, 1)]
set_option maxRecDepth 100000 in
theorem t_Co_isEnd : ∀ q ∈ T_Co_isEnd, decode prog_2_method_8_code q.1 = .ok q.2 := by decide +kernel
theorem d_Co_isEnd_0 : decode prog_2_method_8_code 0 = .ok (.aload_n 0, 1) := q_tb t_Co_isEnd 0 rfl
theorem d_Co_isEnd_1 : decode prog_2_method_8_code 1 = .ok (.getfield 28, 3) := q_tb t_Co_isEnd 1 rfl
theorem d_Co_isEnd_4 : decode prog_2_method_8_code 4 = .ok (.iload_n 1, 1) := q_tb t_Co_isEnd 2 rfl
theorem d_Co_isEnd_5 : decode prog_2_method_8_code 5 = .ok (.ishr, 1) := q_tb t_Co_isEnd 3 rfl
theorem d_Co_isEnd_6 : decode prog_2_method_8_code 6 = .ok (.iconst 1, 1) := q_tb t_Co_isEnd 4 rfl
theorem d_Co_isEnd_7 : decode prog_2_method_8_code 7 = .ok (.iand, 1) := q_tb t_Co_isEnd 5 rfl
theorem d_Co_isEnd_8 : decode prog_2_method_8_code 8 = .ok (.ifCond .eq 7, 3) := q_tb t_Co_isEnd 6 rfl
theorem d_Co_isEnd_11 : decode prog_2_method_8_code 11 = .ok (.iconst 1, 1) := q_tb t_Co_isEnd 7 rfl
theorem d_Co_isEnd_12 : decode prog_2_method_8_code 12 = .ok (.goto 4, 3) := q_tb t_Co_isEnd 8 rfl
theorem d_Co_isEnd_15 : decode prog_2_method_8_code 15 = .ok (.iconst 0, 1) := q_tb t_Co_isEnd 9 rfl
theorem d_Co_isEnd_16 : decode prog_2_method_8_code 16 = .ok (.ireturn, 1) := q_tb t_Co_isEnd 10 rfl
def T_Ta_append : List (Nat × Instr × Nat) := [(0, .iload_n 1, 1), (1, .bipush 100, 2), (3, .aload_n 0, 1), (4, .getfield 15, 3), (7, .isub, 1), (8, .if_icmp .le 5, 3), (11, .iconst 0, 1), (12, .ireturn, 1), (13, .iconst 0, 1), (14, .istore 4, 2), (16, .iload 4, 2), (18, .iload_n 1, 1), (19, .if_icmp .ge 30, 3), (22, .aload_n 0, 1), (23, .getfield 9, 3), (26, .aload_n 0, 1), (27, .getfield 15, 3), (30, .iload 4, 2), (32, .iadd, 1), (33, .lload_n 2, 1), (34, .bipush 8, 2), (36, .iload 4, 2), (38, .imul, 1), (39, .lushr, 1), (40, .l2i, 1), (41, .i2b, 1), (42, .bastore, 1), (43, .iinc 4 1, 3), (46, .goto (-30), 3), (49, .aload_n 0, 1), (50, .dup, 1), (51, .getfield 15, 3), (54, .iload_n 1, 1), (55, .iadd, 1), (56, .putfield 15, 3), (59, .iconst 1, 1), (60, .ireturn, 1)]
set_option maxRecDepth 100000 in
theorem t_Ta_append : ∀ q ∈ T_Ta_append, decode prog_7_method_2_code q.1 = .ok q.2 := by decide +kernel
theorem d_Ta_append_0 : decode prog_7_method_2_code 0 = .ok (.iload_n 1, 1) := q_tb t_Ta_append 0 rfl
theorem d_Ta_append_1 : decode prog_7_method_2_code 1 = .ok (.bipush 100, 2) := q_tb t_Ta_append 1 rfl
theorem d_Ta_append_3 : decode prog_7_method_2_code 3 = .ok (.aload_n 0, 1) := q_tb t_Ta_append 2 rfl
theorem d_Ta_append_4 : decode prog_7_method_2_code 4 = .ok (.getfield 15, 3) := q_tb t_Ta_append 3 rfl
theorem d_Ta_append_7 : decode prog_7_method_2_code 7 = .ok (.isub, 1) := q_tb t_Ta_append 4 rfl
theorem d_Ta_append_8 : decode prog_7_method_2_code 8 = .ok (.if_icmp .le 5, 3) := q_tb t_Ta_append 5 rfl
theorem d_Ta_append_11 : decode prog_7_method_2_code 11 = .ok (.iconst 0, 1) := q_tb t_Ta_append 6 rfl
theorem d_Ta_append_12 : decode prog_7_method_2_code 12 = .ok (.ireturn, 1) := q_tb t_Ta_append 7 rfl
theorem d_Ta_append_13 : decode prog_7_method_2_code 13 = .ok (.iconst 0, 1) := q_tb t_Ta_append 8 rfl
theorem d_Ta_append_14 : decode prog_7_method_2_code 14 = .ok (.istore 4, 2) := q_tb t_Ta_append 9 rfl
theorem d_Ta_append_16 : decode prog_7_method_2_code 16 = .ok (.iload 4, 2) := q_tb t_Ta_append 10 rfl
theorem d_Ta_append_18 : decode prog_7_method_2_code 18 = .ok (.iload_n 1, 1) := q_tb t_Ta_append 11 rfl
theorem d_Ta_append_19 : decode prog_7_method_2_code 19 = .ok (.if_icmp .ge 30, 3) := q_tb t_Ta_append 12 rfl
theorem d_Ta_append_22 : decode prog_7_method_2_code 22 = .ok (.aload_n 0, 1) := q_tb t_Ta_append 13 rfl
theorem d_Ta_append_23 : decode prog_7_method_2_code 23 = .ok (.getfield 9, 3) := q_tb t_Ta_append 14 rfl
theorem d_Ta_append_26 : decode prog_7_method_2_code 26 = .ok (.aload_n 0, 1) := q_tb t_Ta_append 15 rfl
theorem d_Ta_append_27 : decode prog_7_method_2_code 27 = .ok (.getfield 15, 3) := q_tb t_Ta_append 16 rfl
theorem d_Ta_append_30 : decode prog_7_method_2_code 30 = .ok (.iload 4, 2) := q_tb t_Ta_append 17 rfl
theorem d_Ta_append_32 : decode prog_7_method_2_code 32 = .ok (.iadd, 1) := q_tb t_Ta_append 18 rfl
theorem d_Ta_append_33 : decode prog_7_method_2_code 33 = .ok (.lload_n 2, 1) := q_tb t_Ta_append 19 rfl
theorem d_Ta_append_34 : decode prog_7_method_2_code 34 = .ok (.bipush 8, 2) := q_tb t_Ta_append 20 rfl
theorem d_Ta_append_36 : decode prog_7_method_2_code 36 = .ok (.iload 4, 2) := q_tb t_Ta_append 21 rfl
theorem d_Ta_append_38 : decode prog_7_method_2_code 38 = .ok (.imul, 1) := q_tb t_Ta_append 22 rfl
theorem d_Ta_append_39 : decode prog_7_method_2_code 39 = .ok (.lushr, 1) := q_tb t_Ta_append 23 rfl
theorem d_Ta_append_40 : decode prog_7_method_2_code 40 = .ok (.l2i, 1) := q_tb t_Ta_append 24 rfl
theorem d_Ta_append_41 : decode prog_7_method_2_code 41 = .ok (.i2b, 1) := q_tb t_Ta_append 25 rfl
theorem d_Ta_append_42 : decode prog_7_method_2_code 42 = .ok (.bastore, 1) := q_tb t_Ta_append 26 rfl
theorem d_Ta_append_43 : decode prog_7_method_2_code 43 = .ok (.iinc 4 1, 3) := q_tb t_Ta_append 27 rfl
theorem d_Ta_append_46 : decode prog_7_method_2_code 46 = .ok (.goto (-30), 3) := q_tb t_Ta_append 28 rfl
theorem d_Ta_append_49 : decode prog_7_method_2_code 49 = .ok (.aload_n 0, 1) := q_tb t_Ta_append 29 rfl
theorem d_Ta_append_50 : decode prog_7_method_2_code 50 = .ok (.dup, 1) := q_tb t_Ta_append 30 rfl
theorem d_Ta_append_51 : decode prog_7_method_2_code 51 = .ok (.getfield 15, 3) := q_tb t_Ta_append 31 rfl
theorem d_Ta_append_54 : decode prog_7_method_2_code 54 = .ok (.iload_n 1, 1) := q_tb t_Ta_append 32 rfl
theorem d_Ta_append_55 : decode prog_7_method_2_code 55 = .ok (.iadd, 1) := q_tb t_Ta_append 33 rfl
theorem d_Ta_append_56 : decode prog_7_method_2_code 56 = .ok (.putfield 15, 3) := q_tb t_Ta_append 34 rfl
theorem d_Ta_append_59 : decode prog_7_method_2_code 59 = .ok (.iconst 1, 1) := q_tb t_Ta_append 35 rfl
theorem d_Ta_append_60 : decode prog_7_method_2_code 60 = .ok (.ireturn, 1) := q_tb t_Ta_append 36 rfl
def T_Co_countSteps : List (Nat × Instr × Nat) := [(0, .iconst 0, 1), (1, .istore_n 1, 1), (2, .iconst 0, 1), (3, .istore_n 2, 1), (4, .iload_n 2, 1), (5, .aload_n 0, 1), (6, .getfield 9, 3), (9, .if_icmp .ge 21, 3), (12, .iload_n 1, 1), (13, .aload_n 0, 1), (14, .getfield 15, 3), (17, .iload_n 2, 1), (18, .iaload, 1), (19, .invokestatic 49, 3), (22, .iadd, 1), (23, .istore_n 1, 1), (24, .iinc 2 1, 3), (27, .goto (-23), 3), (30, .iload_n 1, 1), (31, .ireturn, 1)]
set_option maxRecDepth 100000 in
theorem t_Co_countSteps : ∀ q ∈ T_Co_countSteps, decode prog_2_method_7_code q.1 = .ok q.2 := by decide +kernel
theorem d_Co_countSteps_0 : decode prog_2_method_7_code 0 = .ok (.iconst 0, 1) := q_tb t_Co_countSteps 0 rfl
theorem d_Co_countSteps_1 : decode prog_2_method_7_code 1 = .ok (.istore_n 1, 1) := q_tb t_Co_countSteps 1 rfl
theorem d_Co_countSteps_2 : decode prog_2_method_7_code 2 = .ok (.iconst 0, 1) := q_tb t_Co_countSteps 2 rfl
theorem d_Co_countSteps_3 : decode prog_2_method_7_code 3 = .ok (.istore_n 2, 1) := q_tb t_Co_countSteps 3 rfl
theorem d_Co_countSteps_4 : decode prog_2_method_7_code 4 = .ok (.iload_n 2, 1) := q_tb t_Co_countSteps 4 rfl
theorem d_Co_countSteps_5 : decode prog_2_method_7_code 5 = .ok (.aload_n 0, 1) := q_tb t_Co_countSteps 5 rfl
theorem d_Co_countSteps_6 : decode prog_2_method_7_code 6 = .ok (.getfield 9, 3) := q_tb t_Co_countSteps 6 rfl
theorem d_Co_countSteps_9 : decode prog_2_method_7_code 9 = .ok (.if_icmp .ge 21, 3) := q_tb t_Co_countSteps 7 rfl
theorem d_Co_countSteps_12 : decode prog_2_method_7_code 12 = .ok (.iload_n 1, 1) := q_tb t_Co_countSteps 8 rfl
theorem d_Co_countSteps_13 : decode prog_2_method_7_code 13 = .ok (.aload_n 0, 1) := q_tb t_Co_countSteps 9 rfl
theorem d_Co_countSteps_14 : decode prog_2_method_7_code 14 = .ok (.getfield 15, 3) := q_tb t_Co_countSteps 10 rfl
theorem d_Co_countSteps_17 : decode prog_2_method_7_code 17 = .ok (.iload_n 2, 1) := q_tb t_Co_countSteps 11 rfl
theorem d_Co_countSteps_18 : decode prog_2_method_7_code 18 = .ok (.iaload, 1) := q_tb t_Co_countSteps 12 rfl
theorem d_Co_countSteps_19 : decode prog_2_method_7_code 19 = .ok (.invokestatic 49, 3) := q_tb t_Co_countSteps 13 rfl
theorem d_Co_countSteps_22 : decode prog_2_method_7_code 22 = .ok (.iadd, 1) := q_tb t_Co_countSteps 14 rfl
theorem d_Co_countSteps_23 : decode prog_2_method_7_code 23 = .ok (.istore_n 1, 1) := q_tb t_Co_countSteps 15 rfl
theorem d_Co_countSteps_24 : decode prog_2_method_7_code 24 = .ok (.iinc 2 1, 3) := q_tb t_Co_countSteps 16 rfl
theorem d_Co_countSteps_27 : decode prog_2_method_7_code 27 = .ok (.goto (-23), 3) := q_tb t_Co_countSteps 17 rfl
theorem d_Co_countSteps_30 : decode prog_2_method_7_code 30 = .ok (.iload_n 1, 1) := q_tb t_Co_countSteps 18 rfl
theorem d_Co_countSteps_31 : decode prog_2_method_7_code 31 = .ok (.ireturn, 1) := q_tb t_Co_countSteps 19 rfl
end NAMES3
end
section
/-! names, 3b: decode tables, printed by gen/names2.py -/
section NAMES3
def T_Wo_init : List (Nat × Instr × Nat) := [(0, .aload_n 0, 1), (1, .invokespecial 3, 3), (4, .aload_n 0, 1), (5, .iconst 5, 1), (6, .newarray .int, 2), (8, .putfield 9, 3), (11, .aload_n 0, 1), (12, .iconst 5, 1), (13, .newarray .int, 2), (15, .putfield 15, 3), (18, .aload_n 0, 1), (19, .bipush 6, 2), (21, .anewarray 18, 3), (24, .putfield 20, 3), (27, .aload_n 0, 1), (28, .getfield 9, 3), (31, .iconst 1, 1), (32, .invokestatic 24, 3), (35, .iconst 0, 1), (36, .istore_n 1, 1), (37, .iload_n 1, 1), (38, .bipush 6, 2), (40, .if_icmp .ge 22, 3), (43, .aload_n 0, 1), (44, .getfield 20, 3), (47, .iload_n 1, 1), (48, .new 18, 3), (51, .dup, 1), (52, .invokespecial 30, 3), (55, .aastore, 1), (56, .iinc 1 1, 3), (59, .goto (-22), 3), (62, .return_, 1)]
set_option maxRecDepth 100000 in
theorem t_Wo_init : ∀ q ∈ T_Wo_init, decode prog_9_method_1_code q.1 = .ok q.2 := by decide +kernel
theorem d_Wo_init_0 : decode prog_9_method_1_code 0 = .ok (.aload_n 0, 1) := q_tb t_Wo_init 0 rfl
theorem d_Wo_init_1 : decode prog_9_method_1_code 1 = .ok (.invokespecial 3, 3) := q_tb t_Wo_init 1 rfl
theorem d_Wo_init_4 : decode prog_9_method_1_code 4 = .ok (.aload_n 0, 1) := q_tb t_Wo_init 2 rfl
theorem d_Wo_init_5 : decode prog_9_method_1_code 5 = .ok (.iconst 5, 1) := q_tb t_Wo_init 3 rfl
theorem d_Wo_init_6 : decode prog_9_method_1_code 6 = .ok (.newarray .int, 2) := q_tb t_Wo_init 4 rfl
theorem d_Wo_init_8 : decode prog_9_method_1_code 8 = .ok (.putfield 9, 3) := q_tb t_Wo_init 5 rfl
theorem d_Wo_init_11 : decode prog_9_method_1_code 11 = .ok (.aload_n 0, 1) := q_tb t_Wo_init 6 rfl
theorem d_Wo_init_12 : decode prog_9_method_1_code 12 = .ok (.iconst 5, 1) := q_tb t_Wo_init 7 rfl
theorem d_Wo_init_13 : decode prog_9_method_1_code 13 = .ok (.newarray .int, 2) := q_tb t_Wo_init 8 rfl
theorem d_Wo_init_15 : decode prog_9_method_1_code 15 = .ok (.putfield 15, 3) := q_tb t_Wo_init 9 rfl
theorem d_Wo_init_18 : decode prog_9_method_1_code 18 = .ok (.aload_n 0, 1) := q_tb t_Wo_init 10 rfl
theorem d_Wo_init_19 : decode prog_9_method_1_code 19 = .ok (.bipush 6, 2) := q_tb t_Wo_init 11 rfl
theorem d_Wo_init_21 : decode prog_9_method_1_code 21 = .ok (.anewarray 18, 3) := q_tb t_Wo_init 12 rfl
theorem d_Wo_init_24 : decode prog_9_method_1_code 24 = .ok (.putfield 20, 3) := q_tb t_Wo_init 13 rfl
theorem d_Wo_init_27 : decode prog_9_method_1_code 27 = .ok (.aload_n 0, 1) := q_tb t_Wo_init 14 rfl
theorem d_Wo_init_28 : decode prog_9_method_1_code 28 = .ok (.getfield 9, 3) := q_tb t_Wo_init 15 rfl
theorem d_Wo_init_31 : decode prog_9_method_1_code 31 = .ok (.iconst 1, 1) := q_tb t_Wo_init 16 rfl
theorem d_Wo_init_32 : decode prog_9_method_1_code 32 = .ok (.invokestatic 24, 3) := q_tb t_Wo_init 17 rfl
theorem d_Wo_init_35 : decode prog_9_method_1_code 35 = .ok (.iconst 0, 1) := q_tb t_Wo_init 18 rfl
theorem d_Wo_init_36 : decode prog_9_method_1_code 36 = .ok (.istore_n 1, 1) := q_tb t_Wo_init 19 rfl
theorem d_Wo_init_37 : decode prog_9_method_1_code 37 = .ok (.iload_n 1, 1) := q_tb t_Wo_init 20 rfl
theorem d_Wo_init_38 : decode prog_9_method_1_code 38 = .ok (.bipush 6, 2) := q_tb t_Wo_init 21 rfl
theorem d_Wo_init_40 : decode prog_9_method_1_code 40 = .ok (.if_icmp .ge 22, 3) := q_tb t_Wo_init 22 rfl
theorem d_Wo_init_43 : decode prog_9_method_1_code 43 = .ok (.aload_n 0, 1) := q_tb t_Wo_init 23 rfl
theorem d_Wo_init_44 : decode prog_9_method_1_code 44 = .ok (.getfield 20, 3) := q_tb t_Wo_init 24 rfl
theorem d_Wo_init_47 : decode prog_9_method_1_code 47 = .ok (.iload_n 1, 1) := q_tb t_Wo_init 25 rfl
theorem d_Wo_init_48 : decode prog_9_method_1_code 48 = .ok (.new 18, 3) := q_tb t_Wo_init 26 rfl
theorem d_Wo_init_51 : decode prog_9_method_1_code 51 = .ok (.dup, 1) := q_tb t_Wo_init 27 rfl
theorem d_Wo_init_52 : decode prog_9_method_1_code 52 = .ok (.invokespecial 30, 3) := q_tb t_Wo_init 28 rfl
theorem d_Wo_init_55 : decode prog_9_method_1_code 55 = .ok (.aastore, 1) := q_tb t_Wo_init 29 rfl
theorem d_Wo_init_56 : decode prog_9_method_1_code 56 = .ok (.iinc 1 1, 3) := q_tb t_Wo_init 30 rfl
theorem d_Wo_init_59 : decode prog_9_method_1_code 59 = .ok (.goto (-22), 3) := q_tb t_Wo_init 31 rfl
theorem d_Wo_init_62 : decode prog_9_method_1_code 62 = .ok (.return_, 1) := q_tb t_Wo_init 32 rfl
def T_Se_init : List (Nat × Instr × Nat) := [(0, .aload_n 0, 1), (1, .invokespecial 3, 3), (4, .aload_n 0, 1), (5, .new 9, 3), (8, .dup, 1), (9, .invokespecial 11, 3), (12, .putfield 12, 3), (15, .aload_n 0, 1), (16, .new 9, 3), (19, .dup, 1), (20, .invokespecial 11, 3), (23, .putfield 18, 3), (26, .aload_n 0, 1), (27, .new 9, 3), (30, .dup, 1), (31, .invokespecial 11, 3), (34, .putfield 21, 3), (37, .aload_n 0, 1), (38, .new 9, 3), (41, .dup, 1), (42, .invokespecial 11, 3), (45, .putfield 24, 3), (48, .aload_n 0, 1), (49, .new 27, 3), (52, .dup, 1), (53, .invokespecial 29, 3), (56, .putfield 30, 3), (59, .aload_n 0, 1), (60, .bipush 6, 2), (62, .newarray .int, 2), (64, .putfield 34, 3), (67, .aload_n 0, 1), (68, .iconst 5, 1), (69, .newarray .int, 2), (71, .putfield 38, 3), (74, .aload_n 0, 1), (75, .aload_n 1, 1), (76, .putfield 41, 3), (79, .return_, 1)]
set_option maxRecDepth 100000 in
theorem t_Se_init : ∀ q ∈ T_Se_init, decode prog_4_method_1_code q.1 = .ok q.2 := by decide +kernel
theorem d_Se_init_0 : decode prog_4_method_1_code 0 = .ok (.aload_n 0, 1) := q_tb t_Se_init 0 rfl
theorem d_Se_init_1 : decode prog_4_method_1_code 1 = .ok (.invokespecial 3, 3) := q_tb t_Se_init 1 rfl
theorem d_Se_init_4 : decode prog_4_method_1_code 4 = .ok (.aload_n 0, 1) := q_tb t_Se_init 2 rfl
theorem d_Se_init_5 : decode prog_4_method_1_code 5 = .ok (.new 9, 3) := q_tb t_Se_init 3 rfl
theorem d_Se_init_8 : decode prog_4_method_1_code 8 = .ok (.dup, 1) := q_tb t_Se_init 4 rfl
theorem d_Se_init_9 : decode prog_4_method_1_code 9 = .ok (.invokespecial 11, 3) := q_tb t_Se_init 5 rfl
theorem d_Se_init_12 : decode prog_4_method_1_code 12 = .ok (.putfield 12, 3) := q_tb t_Se_init 6 rfl
theorem d_Se_init_15 : decode prog_4_method_1_code 15 = .ok (.aload_n 0, 1) := q_tb t_Se_init 7 rfl
theorem d_Se_init_16 : decode prog_4_method_1_code 16 = .ok (.new 9, 3) := q_tb t_Se_init 8 rfl
theorem d_Se_init_19 : decode prog_4_method_1_code 19 = .ok (.dup, 1) := q_tb t_Se_init 9 rfl
theorem d_Se_init_20 : decode prog_4_method_1_code 20 = .ok (.invokespecial 11, 3) := q_tb t_Se_init 10 rfl
theorem d_Se_init_23 : decode prog_4_method_1_code 23 = .ok (.putfield 18, 3) := q_tb t_Se_init 11 rfl
theorem d_Se_init_26 : decode prog_4_method_1_code 26 = .ok (.aload_n 0, 1) := q_tb t_Se_init 12 rfl
theorem d_Se_init_27 : decode prog_4_method_1_code 27 = .ok (.new 9, 3) := q_tb t_Se_init 13 rfl
theorem d_Se_init_30 : decode prog_4_method_1_code 30 = .ok (.dup, 1) := q_tb t_Se_init 14 rfl
theorem d_Se_init_31 : decode prog_4_method_1_code 31 = .ok (.invokespecial 11, 3) := q_tb t_Se_init 15 rfl
theorem d_Se_init_34 : decode prog_4_method_1_code 34 = .ok (.putfield 21, 3) := q_tb t_Se_init 16 rfl
theorem d_Se_init_37 : decode prog_4_method_1_code 37 = .ok (.aload_n 0, 1) := q_tb t_Se_init 17 rfl
theorem d_Se_init_38 : decode prog_4_method_1_code 38 = .ok (.new 9, 3) := q_tb t_Se_init 18 rfl
theorem d_Se_init_41 : decode prog_4_method_1_code 41 = .ok (.dup, 1) := q_tb t_Se_init 19 rfl
theorem d_Se_init_42 : decode prog_4_method_1_code 42 = .ok (.invokespecial 11, 3) := q_tb t_Se_init 20 rfl
theorem d_Se_init_45 : decode prog_4_method_1_code 45 = .ok (.putfield 24, 3) := q_tb t_Se_init 21 rfl
theorem d_Se_init_48 : decode prog_4_method_1_code 48 = .ok (.aload_n 0, 1) := q_tb t_Se_init 22 rfl
theorem d_Se_init_49 : decode prog_4_method_1_code 49 = .ok (.new 27, 3) := q_tb t_Se_init 23 rfl
theorem d_Se_init_52 : decode prog_4_method_1_code 52 = .ok (.dup, 1) := q_tb t_Se_init 24 rfl
theorem d_Se_init_53 : decode prog_4_method_1_code 53 = .ok (.invokespecial 29, 3) := q_tb t_Se_init 25 rfl
theorem d_Se_init_56 : decode prog_4_method_1_code 56 = .ok (.putfield 30, 3) := q_tb t_Se_init 26 rfl
theorem d_Se_init_59 : decode prog_4_method_1_code 59 = .ok (.aload_n 0, 1) := q_tb t_Se_init 27 rfl
theorem d_Se_init_60 : decode prog_4_method_1_code 60 = .ok (.bipush 6, 2) := q_tb t_Se_init 28 rfl
theorem d_Se_init_62 : decode prog_4_method_1_code 62 = .ok (.newarray .int, 2) := q_tb t_Se_init 29 rfl
theorem d_Se_init_64 : decode prog_4_method_1_code 64 = .ok (.putfield 34, 3) := q_tb t_Se_init 30 rfl
theorem d_Se_init_67 : decode prog_4_method_1_code 67 = .ok (.aload_n 0, 1) := q_tb t_Se_init 31 rfl
theorem d_Se_init_68 : decode prog_4_method_1_code 68 = .ok (.iconst 5, 1) := q_tb t_Se_init 32 rfl
theorem d_Se_init_69 : decode prog_4_method_1_code 69 = .ok (.newarray .int, 2) := q_tb t_Se_init 33 rfl
theorem d_Se_init_71 : decode prog_4_method_1_code 71 = .ok (.putfield 38, 3) := q_tb t_Se_init 34 rfl
theorem d_Se_init_74 : decode prog_4_method_1_code 74 = .ok (.aload_n 0, 1) := q_tb t_Se_init 35 rfl
theorem d_Se_init_75 : decode prog_4_method_1_code 75 = .ok (.aload_n 1, 1) := q_tb t_Se_init 36 rfl
theorem d_Se_init_76 : decode prog_4_method_1_code 76 = .ok (.putfield 41, 3) := q_tb t_Se_init 37 rfl
theorem d_Se_init_79 : decode prog_4_method_1_code 79 = .ok (.return_, 1) := q_tb t_Se_init 38 rfl
def T_Ss_init : List (Nat × Instr × Nat) := [(0, .aload_n 0, 1), (1, .invokespecial 3, 3), (4, .aload_n 0, 1), (5, .sipush 469, 3), (8, .newarray .long, 2), (10, .putfield 11, 3), (13, .aload_n 0, 1), (14, .sipush 469, 3), (17, .putfield 15, 3), (20, .return_, 1)]
set_option maxRecDepth 100000 in
theorem t_Ss_init : ∀ q ∈ T_Ss_init, decode prog_6_method_1_code q.1 = .ok q.2 := by decide +kernel
theorem d_Ss_init_0 : decode prog_6_method_1_code 0 = .ok (.aload_n 0, 1) := q_tb t_Ss_init 0 rfl
theorem d_Ss_init_1 : decode prog_6_method_1_code 1 = .ok (.invokespecial 3, 3) := q_tb t_Ss_init 1 rfl
theorem d_Ss_init_4 : decode prog_6_method_1_code 4 = .ok (.aload_n 0, 1) := q_tb t_Ss_init 2 rfl
theorem d_Ss_init_5 : decode prog_6_method_1_code 5 = .ok (.sipush 469, 3) := q_tb t_Ss_init 3 rfl
theorem d_Ss_init_8 : decode prog_6_method_1_code 8 = .ok (.newarray .long, 2) := q_tb t_Ss_init 4 rfl
theorem d_Ss_init_10 : decode prog_6_method_1_code 10 = .ok (.putfield 11, 3) := q_tb t_Ss_init 5 rfl
theorem d_Ss_init_13 : decode prog_6_method_1_code 13 = .ok (.aload_n 0, 1) := q_tb t_Ss_init 6 rfl
theorem d_Ss_init_14 : decode prog_6_method_1_code 14 = .ok (.sipush 469, 3) := q_tb t_Ss_init 7 rfl
theorem d_Ss_init_17 : decode prog_6_method_1_code 17 = .ok (.putfield 15, 3) := q_tb t_Ss_init 8 rfl
theorem d_Ss_init_20 : decode prog_6_method_1_code 20 = .ok (.return_, 1) := q_tb t_Ss_init 9 rfl
def T_Se_forget : List (Nat × Instr × Nat) := [(0, .aload_n 0, 1), (1, .iconst 0, 1), (2, .putfield 45, 3), (5, .aload_n 0, 1), (6, .iconst 0, 1), (7, .putfield 49, 3), (10, .return_, 1)]
set_option maxRecDepth 100000 in
theorem t_Se_forget : ∀ q ∈ T_Se_forget, decode prog_4_method_2_code q.1 = .ok q.2 := by decide +kernel
theorem d_Se_forget_0 : decode prog_4_method_2_code 0 = .ok (.aload_n 0, 1) := q_tb t_Se_forget 0 rfl
theorem d_Se_forget_1 : decode prog_4_method_2_code 1 = .ok (.iconst 0, 1) := q_tb t_Se_forget 1 rfl
theorem d_Se_forget_2 : decode prog_4_method_2_code 2 = .ok (.putfield 45, 3) := q_tb t_Se_forget 2 rfl
theorem d_Se_forget_5 : decode prog_4_method_2_code 5 = .ok (.aload_n 0, 1) := q_tb t_Se_forget 3 rfl
theorem d_Se_forget_6 : decode prog_4_method_2_code 6 = .ok (.iconst 0, 1) := q_tb t_Se_forget 4 rfl
theorem d_Se_forget_7 : decode prog_4_method_2_code 7 = .ok (.putfield 49, 3) := q_tb t_Se_forget 5 rfl
theorem d_Se_forget_10 : decode prog_4_method_2_code 10 = .ok (.return_, 1) := q_tb t_Se_forget 6 rfl
def T_Wo_putFirst : List (Nat × Instr × Nat) := [(0, .aload_n 1, 1), (1, .getfield 47, 3), (4, .iconst 0, 1), (5, .invokestatic 24, 3), (8, .iconst 0, 1), (9, .istore_n 2, 1), (10, .iload_n 2, 1), (11, .iconst 5, 1), (12, .if_icmp .ge 21, 3), (15, .aload_n 1, 1), (16, .getfield 52, 3), (19, .iload_n 2, 1), (20, .aload_n 0, 1), (21, .getfield 15, 3), (24, .iload_n 2, 1), (25, .iaload, 1), (26, .iastore, 1), (27, .iinc 2 1, 3), (30, .goto (-20), 3), (33, .return_, 1)]
set_option maxRecDepth 100000 in
theorem t_Wo_putFirst : ∀ q ∈ T_Wo_putFirst, decode prog_9_method_6_code q.1 = .ok q.2 := by decide +kernel
theorem d_Wo_putFirst_0 : decode prog_9_method_6_code 0 = .ok (.aload_n 1, 1) := q_tb t_Wo_putFirst 0 rfl
theorem d_Wo_putFirst_1 : decode prog_9_method_6_code 1 = .ok (.getfield 47, 3) := q_tb t_Wo_putFirst 1 rfl
theorem d_Wo_putFirst_4 : decode prog_9_method_6_code 4 = .ok (.iconst 0, 1) := q_tb t_Wo_putFirst 2 rfl
theorem d_Wo_putFirst_5 : decode prog_9_method_6_code 5 = .ok (.invokestatic 24, 3) := q_tb t_Wo_putFirst 3 rfl
theorem d_Wo_putFirst_8 : decode prog_9_method_6_code 8 = .ok (.iconst 0, 1) := q_tb t_Wo_putFirst 4 rfl
theorem d_Wo_putFirst_9 : decode prog_9_method_6_code 9 = .ok (.istore_n 2, 1) := q_tb t_Wo_putFirst 5 rfl
theorem d_Wo_putFirst_10 : decode prog_9_method_6_code 10 = .ok (.iload_n 2, 1) := q_tb t_Wo_putFirst 6 rfl
theorem d_Wo_putFirst_11 : decode prog_9_method_6_code 11 = .ok (.iconst 5, 1) := q_tb t_Wo_putFirst 7 rfl
theorem d_Wo_putFirst_12 : decode prog_9_method_6_code 12 = .ok (.if_icmp .ge 21, 3) := q_tb t_Wo_putFirst 8 rfl
theorem d_Wo_putFirst_15 : decode prog_9_method_6_code 15 = .ok (.aload_n 1, 1) := q_tb t_Wo_putFirst 9 rfl
theorem d_Wo_putFirst_16 : decode prog_9_method_6_code 16 = .ok (.getfield 52, 3) := q_tb t_Wo_putFirst 10 rfl
theorem d_Wo_putFirst_19 : decode prog_9_method_6_code 19 = .ok (.iload_n 2, 1) := q_tb t_Wo_putFirst 11 rfl
theorem d_Wo_putFirst_20 : decode prog_9_method_6_code 20 = .ok (.aload_n 0, 1) := q_tb t_Wo_putFirst 12 rfl
theorem d_Wo_putFirst_21 : decode prog_9_method_6_code 21 = .ok (.getfield 15, 3) := q_tb t_Wo_putFirst 13 rfl
theorem d_Wo_putFirst_24 : decode prog_9_method_6_code 24 = .ok (.iload_n 2, 1) := q_tb t_Wo_putFirst 14 rfl
theorem d_Wo_putFirst_25 : decode prog_9_method_6_code 25 = .ok (.iaload, 1) := q_tb t_Wo_putFirst 15 rfl
theorem d_Wo_putFirst_26 : decode prog_9_method_6_code 26 = .ok (.iastore, 1) := q_tb t_Wo_putFirst 16 rfl
theorem d_Wo_putFirst_27 : decode prog_9_method_6_code 27 = .ok (.iinc 2 1, 3) := q_tb t_Wo_putFirst 17 rfl
theorem d_Wo_putFirst_30 : decode prog_9_method_6_code 30 = .ok (.goto (-20), 3) := q_tb t_Wo_putFirst 18 rfl
theorem d_Wo_putFirst_33 : decode prog_9_method_6_code 33 = .ok (.return_, 1) := q_tb t_Wo_putFirst 19 rfl
def T_Wo_removeAll : List (Nat × Instr × Nat) := [(0, .aload_n 0, 1), (1, .getfield 9, 3), (4, .iconst 1, 1), (5, .invokestatic 24, 3), (8, .aload_n 0, 1), (9, .getfield 15, 3), (12, .iconst 0, 1), (13, .invokestatic 24, 3), (16, .aload_n 0, 1), (17, .iconst 0, 1), (18, .putfield 31, 3), (21, .aload_n 0, 1), (22, .iconst 0, 1), (23, .putfield 35, 3), (26, .return_, 1)]
set_option maxRecDepth 100000 in
theorem t_Wo_removeAll : ∀ q ∈ T_Wo_removeAll, decode prog_9_method_3_code q.1 = .ok q.2 := by decide +kernel
theorem d_Wo_removeAll_0 : decode prog_9_method_3_code 0 = .ok (.aload_n 0, 1) := q_tb t_Wo_removeAll 0 rfl
theorem d_Wo_removeAll_1 : decode prog_9_method_3_code 1 = .ok (.getfield 9, 3) := q_tb t_Wo_removeAll 1 rfl
theorem d_Wo_removeAll_4 : decode prog_9_method_3_code 4 = .ok (.iconst 1, 1) := q_tb t_Wo_removeAll 2 rfl
theorem d_Wo_removeAll_5 : decode prog_9_method_3_code 5 = .ok (.invokestatic 24, 3) := q_tb t_Wo_removeAll 3 rfl
theorem d_Wo_removeAll_8 : decode prog_9_method_3_code 8 = .ok (.aload_n 0, 1) := q_tb t_Wo_removeAll 4 rfl
theorem d_Wo_removeAll_9 : decode prog_9_method_3_code 9 = .ok (.getfield 15, 3) := q_tb t_Wo_removeAll 5 rfl
theorem d_Wo_removeAll_12 : decode prog_9_method_3_code 12 = .ok (.iconst 0, 1) := q_tb t_Wo_removeAll 6 rfl
theorem d_Wo_removeAll_13 : decode prog_9_method_3_code 13 = .ok (.invokestatic 24, 3) := q_tb t_Wo_removeAll 7 rfl
theorem d_Wo_removeAll_16 : decode prog_9_method_3_code 16 = .ok (.aload_n 0, 1) := q_tb t_Wo_removeAll 8 rfl
theorem d_Wo_removeAll_17 : decode prog_9_method_3_code 17 = .ok (.iconst 0, 1) := q_tb t_Wo_removeAll 9 rfl
theorem d_Wo_removeAll_18 : decode prog_9_method_3_code 18 = .ok (.putfield 31, 3) := q_tb t_Wo_removeAll 10 rfl
theorem d_Wo_removeAll_21 : decode prog_9_method_3_code 21 = .ok (.aload_n 0, 1) := q_tb t_Wo_removeAll 11 rfl
theorem d_Wo_removeAll_22 : decode prog_9_method_3_code 22 = .ok (.iconst 0, 1) := q_tb t_Wo_removeAll 12 rfl
theorem d_Wo_removeAll_23 : decode prog_9_method_3_code 23 = .ok (.putfield 35, 3) := q_tb t_Wo_removeAll 13 rfl
theorem d_Wo_removeAll_26 : decode prog_9_method_3_code 26 = .ok (.return_, 1) := q_tb t_Wo_removeAll 14 rfl
def T_Wo_isSearchable : List (Nat × Instr × Nat) := [(0, .aload_n 0, 1), (1, .invokevirtual 41, 3), (4, .ldc2_w 45, 3), (7, .lcmp, 1), (8, .ifCond .gt 7, 3), (11, .iconst 1, 1), (12, .goto 4, 3), (15, .iconst 0, 1), (16, .ireturn, 1)]
set_option maxRecDepth 100000 in
theorem t_Wo_isSearchable : ∀ q ∈ T_Wo_isSearchable, decode prog_9_method_5_code q.1 = .ok q.2 := by decide +kernel
theorem d_Wo_isSearchable_0 : decode prog_9_method_5_code 0 = .ok (.aload_n 0, 1) := q_tb t_Wo_isSearchable 0 rfl
theorem d_Wo_isSearchable_1 : decode prog_9_method_5_code 1 = .ok (.invokevirtual 41, 3) := q_tb t_Wo_isSearchable 1 rfl
theorem d_Wo_isSearchable_4 : decode prog_9_method_5_code 4 = .ok (.ldc2_w 45, 3) := q_tb t_Wo_isSearchable 2 rfl
theorem d_Wo_isSearchable_7 : decode prog_9_method_5_code 7 = .ok (.lcmp, 1) := q_tb t_Wo_isSearchable 3 rfl
theorem d_Wo_isSearchable_8 : decode prog_9_method_5_code 8 = .ok (.ifCond .gt 7, 3) := q_tb t_Wo_isSearchable 4 rfl
theorem d_Wo_isSearchable_11 : decode prog_9_method_5_code 11 = .ok (.iconst 1, 1) := q_tb t_Wo_isSearchable 5 rfl
theorem d_Wo_isSearchable_12 : decode prog_9_method_5_code 12 = .ok (.goto 4, 3) := q_tb t_Wo_isSearchable 6 rfl
theorem d_Wo_isSearchable_15 : decode prog_9_method_5_code 15 = .ok (.iconst 0, 1) := q_tb t_Wo_isSearchable 7 rfl
theorem d_Wo_isSearchable_16 : decode prog_9_method_5_code 16 = .ok (.ireturn, 1) := q_tb t_Wo_isSearchable 8 rfl
def T_Wo_countStates : List (Nat × Instr × Nat) := [(0, .lconst 1, 1), (1, .lstore_n 1, 1), (2, .iconst 0, 1), (3, .istore_n 3, 1), (4, .iload_n 3, 1), (5, .aload_n 0, 1), (6, .getfield 35, 3), (9, .if_icmp .ge 22, 3), (12, .lload_n 1, 1), (13, .aload_n 0, 1), (14, .getfield 20, 3), (17, .iload_n 3, 1), (18, .aaload, 1), (19, .getfield 38, 3), (22, .i2l, 1), (23, .lmul, 1), (24, .lstore_n 1, 1), (25, .iinc 3 1, 3), (28, .goto (-24), 3), (31, .iconst 0, 1), (32, .istore_n 3, 1), (33, .iload_n 3, 1), (34, .iconst 5, 1), (35, .if_icmp .ge 19, 3), (38, .lload_n 1, 1), (39, .aload_n 0, 1), (40, .getfield 9, 3), (43, .iload_n 3, 1), (44, .iaload, 1), (45, .i2l, 1), (46, .lmul, 1), (47, .lstore_n 1, 1), (48, .iinc 3 1, 3), (51, .goto (-18), 3), (54, .lload_n 1, 1), (55, .lreturn, 1)]
set_option maxRecDepth 100000 in
theorem t_Wo_countStates : ∀ q ∈ T_Wo_countStates, decode prog_9_method_4_code q.1 = .ok q.2 := by decide +kernel
theorem d_Wo_countStates_0 : decode prog_9_method_4_code 0 = .ok (.lconst 1, 1) := q_tb t_Wo_countStates 0 rfl
theorem d_Wo_countStates_1 : decode prog_9_method_4_code 1 = .ok (.lstore_n 1, 1) := q_tb t_Wo_countStates 1 rfl
theorem d_Wo_countStates_2 : decode prog_9_method_4_code 2 = .ok (.iconst 0, 1) := q_tb t_Wo_countStates 2 rfl
theorem d_Wo_countStates_3 : decode prog_9_method_4_code 3 = .ok (.istore_n 3, 1) := q_tb t_Wo_countStates 3 rfl
theorem d_Wo_countStates_4 : decode prog_9_method_4_code 4 = .ok (.iload_n 3, 1) := q_tb t_Wo_countStates 4 rfl
theorem d_Wo_countStates_5 : decode prog_9_method_4_code 5 = .ok (.aload_n 0, 1) := q_tb t_Wo_countStates 5 rfl
theorem d_Wo_countStates_6 : decode prog_9_method_4_code 6 = .ok (.getfield 35, 3) := q_tb t_Wo_countStates 6 rfl
theorem d_Wo_countStates_9 : decode prog_9_method_4_code 9 = .ok (.if_icmp .ge 22, 3) := q_tb t_Wo_countStates 7 rfl
theorem d_Wo_countStates_12 : decode prog_9_method_4_code 12 = .ok (.lload_n 1, 1) := q_tb t_Wo_countStates 8 rfl
theorem d_Wo_countStates_13 : decode prog_9_method_4_code 13 = .ok (.aload_n 0, 1) := q_tb t_Wo_countStates 9 rfl
theorem d_Wo_countStates_14 : decode prog_9_method_4_code 14 = .ok (.getfield 20, 3) := q_tb t_Wo_countStates 10 rfl
theorem d_Wo_countStates_17 : decode prog_9_method_4_code 17 = .ok (.iload_n 3, 1) := q_tb t_Wo_countStates 11 rfl
theorem d_Wo_countStates_18 : decode prog_9_method_4_code 18 = .ok (.aaload, 1) := q_tb t_Wo_countStates 12 rfl
theorem d_Wo_countStates_19 : decode prog_9_method_4_code 19 = .ok (.getfield 38, 3) := q_tb t_Wo_countStates 13 rfl
theorem d_Wo_countStates_22 : decode prog_9_method_4_code 22 = .ok (.i2l, 1) := q_tb t_Wo_countStates 14 rfl
theorem d_Wo_countStates_23 : decode prog_9_method_4_code 23 = .ok (.lmul, 1) := q_tb t_Wo_countStates 15 rfl
theorem d_Wo_countStates_24 : decode prog_9_method_4_code 24 = .ok (.lstore_n 1, 1) := q_tb t_Wo_countStates 16 rfl
theorem d_Wo_countStates_25 : decode prog_9_method_4_code 25 = .ok (.iinc 3 1, 3) := q_tb t_Wo_countStates 17 rfl
theorem d_Wo_countStates_28 : decode prog_9_method_4_code 28 = .ok (.goto (-24), 3) := q_tb t_Wo_countStates 18 rfl
theorem d_Wo_countStates_31 : decode prog_9_method_4_code 31 = .ok (.iconst 0, 1) := q_tb t_Wo_countStates 19 rfl
theorem d_Wo_countStates_32 : decode prog_9_method_4_code 32 = .ok (.istore_n 3, 1) := q_tb t_Wo_countStates 20 rfl
theorem d_Wo_countStates_33 : decode prog_9_method_4_code 33 = .ok (.iload_n 3, 1) := q_tb t_Wo_countStates 21 rfl
theorem d_Wo_countStates_34 : decode prog_9_method_4_code 34 = .ok (.iconst 5, 1) := q_tb t_Wo_countStates 22 rfl
theorem d_Wo_countStates_35 : decode prog_9_method_4_code 35 = .ok (.if_icmp .ge 19, 3) := q_tb t_Wo_countStates 23 rfl
theorem d_Wo_countStates_38 : decode prog_9_method_4_code 38 = .ok (.lload_n 1, 1) := q_tb t_Wo_countStates 24 rfl
theorem d_Wo_countStates_39 : decode prog_9_method_4_code 39 = .ok (.aload_n 0, 1) := q_tb t_Wo_countStates 25 rfl
theorem d_Wo_countStates_40 : decode prog_9_method_4_code 40 = .ok (.getfield 9, 3) := q_tb t_Wo_countStates 26 rfl
theorem d_Wo_countStates_43 : decode prog_9_method_4_code 43 = .ok (.iload_n 3, 1) := q_tb t_Wo_countStates 27 rfl
theorem d_Wo_countStates_44 : decode prog_9_method_4_code 44 = .ok (.iaload, 1) := q_tb t_Wo_countStates 28 rfl
theorem d_Wo_countStates_45 : decode prog_9_method_4_code 45 = .ok (.i2l, 1) := q_tb t_Wo_countStates 29 rfl
theorem d_Wo_countStates_46 : decode prog_9_method_4_code 46 = .ok (.lmul, 1) := q_tb t_Wo_countStates 30 rfl
theorem d_Wo_countStates_47 : decode prog_9_method_4_code 47 = .ok (.lstore_n 1, 1) := q_tb t_Wo_countStates 31 rfl
theorem d_Wo_countStates_48 : decode prog_9_method_4_code 48 = .ok (.iinc 3 1, 3) := q_tb t_Wo_countStates 32 rfl
theorem d_Wo_countStates_51 : decode prog_9_method_4_code 51 = .ok (.goto (-18), 3) := q_tb t_Wo_countStates 33 rfl
theorem d_Wo_countStates_54 : decode prog_9_method_4_code 54 = .ok (.lload_n 1, 1) := q_tb t_Wo_countStates 34 rfl
theorem d_Wo_countStates_55 : decode prog_9_method_4_code 55 = .ok (.lreturn, 1) := q_tb t_Wo_countStates 35 rfl
def T_Se_findStanding0 : List (Nat × Instr × Nat) := [(0, .aload_n 0, 1), (1, .getfield 45, 3), (4, .ifCond .eq 4, 3), (7, .return_, 1), (8, .aload_n 0, 1), (9, .invokevirtual 52, 3), (12, .aload_n 0, 1), (13, .getfield 12, 3), (16, .invokevirtual 55, 3), (19, .aload_n 0, 1), (20, .getfield 18, 3), (23, .invokevirtual 55, 3), (26, .aload_n 0, 1), (27, .getfield 24, 3), (30, .invokevirtual 55, 3), (33, .aload_n 0, 1), (34, .iconst 0, 1), (35, .putfield 58, 3), (38, .aload_n 0, 1), (39, .iconst 0, 1), (40, .putfield 62, 3), (43, .aload_n 0, 1), (44, .getfield 41, 3), (47, .aload_n 0, 1), (48, .getfield 30, 3), (51, .invokevirtual 65, 3), (54, .aload_n 0, 1), (55, .aload_n 0, 1), (56, .getfield 41, 3), (59, .aload_n 0, 1), (60, .getfield 30, 3), (63, .invokevirtual 71, 3), (66, .invokevirtual 75, 3), (69, .iconst 0, 1), (70, .istore_n 1, 1), (71, .iload_n 1, 1), (72, .sipush 30000, 3), (75, .if_icmp .ge 30, 3), (78, .aload_n 0, 1), (79, .getfield 24, 3)]
set_option maxRecDepth 100000 in
theorem t_Se_findStanding0 : ∀ q ∈ T_Se_findStanding0, decode prog_4_method_3_code q.1 = .ok q.2 := by decide +kernel
theorem d_Se_findStanding_0 : decode prog_4_method_3_code 0 = .ok (.aload_n 0, 1) := q_tb t_Se_findStanding0 0 rfl
theorem d_Se_findStanding_1 : decode prog_4_method_3_code 1 = .ok (.getfield 45, 3) := q_tb t_Se_findStanding0 1 rfl
theorem d_Se_findStanding_4 : decode prog_4_method_3_code 4 = .ok (.ifCond .eq 4, 3) := q_tb t_Se_findStanding0 2 rfl
theorem d_Se_findStanding_7 : decode prog_4_method_3_code 7 = .ok (.return_, 1) := q_tb t_Se_findStanding0 3 rfl
theorem d_Se_findStanding_8 : decode prog_4_method_3_code 8 = .ok (.aload_n 0, 1) := q_tb t_Se_findStanding0 4 rfl
theorem d_Se_findStanding_9 : decode prog_4_method_3_code 9 = .ok (.invokevirtual 52, 3) := q_tb t_Se_findStanding0 5 rfl
theorem d_Se_findStanding_12 : decode prog_4_method_3_code 12 = .ok (.aload_n 0, 1) := q_tb t_Se_findStanding0 6 rfl
theorem d_Se_findStanding_13 : decode prog_4_method_3_code 13 = .ok (.getfield 12, 3) := q_tb t_Se_findStanding0 7 rfl
theorem d_Se_findStanding_16 : decode prog_4_method_3_code 16 = .ok (.invokevirtual 55, 3) := q_tb t_Se_findStanding0 8 rfl
theorem d_Se_findStanding_19 : decode prog_4_method_3_code 19 = .ok (.aload_n 0, 1) := q_tb t_Se_findStanding0 9 rfl
theorem d_Se_findStanding_20 : decode prog_4_method_3_code 20 = .ok (.getfield 18, 3) := q_tb t_Se_findStanding0 10 rfl
theorem d_Se_findStanding_23 : decode prog_4_method_3_code 23 = .ok (.invokevirtual 55, 3) := q_tb t_Se_findStanding0 11 rfl
theorem d_Se_findStanding_26 : decode prog_4_method_3_code 26 = .ok (.aload_n 0, 1) := q_tb t_Se_findStanding0 12 rfl
theorem d_Se_findStanding_27 : decode prog_4_method_3_code 27 = .ok (.getfield 24, 3) := q_tb t_Se_findStanding0 13 rfl
theorem d_Se_findStanding_30 : decode prog_4_method_3_code 30 = .ok (.invokevirtual 55, 3) := q_tb t_Se_findStanding0 14 rfl
theorem d_Se_findStanding_33 : decode prog_4_method_3_code 33 = .ok (.aload_n 0, 1) := q_tb t_Se_findStanding0 15 rfl
theorem d_Se_findStanding_34 : decode prog_4_method_3_code 34 = .ok (.iconst 0, 1) := q_tb t_Se_findStanding0 16 rfl
theorem d_Se_findStanding_35 : decode prog_4_method_3_code 35 = .ok (.putfield 58, 3) := q_tb t_Se_findStanding0 17 rfl
theorem d_Se_findStanding_38 : decode prog_4_method_3_code 38 = .ok (.aload_n 0, 1) := q_tb t_Se_findStanding0 18 rfl
theorem d_Se_findStanding_39 : decode prog_4_method_3_code 39 = .ok (.iconst 0, 1) := q_tb t_Se_findStanding0 19 rfl
theorem d_Se_findStanding_40 : decode prog_4_method_3_code 40 = .ok (.putfield 62, 3) := q_tb t_Se_findStanding0 20 rfl
theorem d_Se_findStanding_43 : decode prog_4_method_3_code 43 = .ok (.aload_n 0, 1) := q_tb t_Se_findStanding0 21 rfl
theorem d_Se_findStanding_44 : decode prog_4_method_3_code 44 = .ok (.getfield 41, 3) := q_tb t_Se_findStanding0 22 rfl
theorem d_Se_findStanding_47 : decode prog_4_method_3_code 47 = .ok (.aload_n 0, 1) := q_tb t_Se_findStanding0 23 rfl
theorem d_Se_findStanding_48 : decode prog_4_method_3_code 48 = .ok (.getfield 30, 3) := q_tb t_Se_findStanding0 24 rfl
theorem d_Se_findStanding_51 : decode prog_4_method_3_code 51 = .ok (.invokevirtual 65, 3) := q_tb t_Se_findStanding0 25 rfl
theorem d_Se_findStanding_54 : decode prog_4_method_3_code 54 = .ok (.aload_n 0, 1) := q_tb t_Se_findStanding0 26 rfl
theorem d_Se_findStanding_55 : decode prog_4_method_3_code 55 = .ok (.aload_n 0, 1) := q_tb t_Se_findStanding0 27 rfl
theorem d_Se_findStanding_56 : decode prog_4_method_3_code 56 = .ok (.getfield 41, 3) := q_tb t_Se_findStanding0 28 rfl
theorem d_Se_findStanding_59 : decode prog_4_method_3_code 59 = .ok (.aload_n 0, 1) := q_tb t_Se_findStanding0 29 rfl
theorem d_Se_findStanding_60 : decode prog_4_method_3_code 60 = .ok (.getfield 30, 3) := q_tb t_Se_findStanding0 30 rfl
theorem d_Se_findStanding_63 : decode prog_4_method_3_code 63 = .ok (.invokevirtual 71, 3) := q_tb t_Se_findStanding0 31 rfl
theorem d_Se_findStanding_66 : decode prog_4_method_3_code 66 = .ok (.invokevirtual 75, 3) := q_tb t_Se_findStanding0 32 rfl
theorem d_Se_findStanding_69 : decode prog_4_method_3_code 69 = .ok (.iconst 0, 1) := q_tb t_Se_findStanding0 33 rfl
theorem d_Se_findStanding_70 : decode prog_4_method_3_code 70 = .ok (.istore_n 1, 1) := q_tb t_Se_findStanding0 34 rfl
theorem d_Se_findStanding_71 : decode prog_4_method_3_code 71 = .ok (.iload_n 1, 1) := q_tb t_Se_findStanding0 35 rfl
theorem d_Se_findStanding_72 : decode prog_4_method_3_code 72 = .ok (.sipush 30000, 3) := q_tb t_Se_findStanding0 36 rfl
theorem d_Se_findStanding_75 : decode prog_4_method_3_code 75 = .ok (.if_icmp .ge 30, 3) := q_tb t_Se_findStanding0 37 rfl
theorem d_Se_findStanding_78 : decode prog_4_method_3_code 78 = .ok (.aload_n 0, 1) := q_tb t_Se_findStanding0 38 rfl
theorem d_Se_findStanding_79 : decode prog_4_method_3_code 79 = .ok (.getfield 24, 3) := q_tb t_Se_findStanding0 39 rfl
def T_Se_findStanding1 : List (Nat × Instr × Nat) := [(82, .invokevirtual 79, 3), (85, .istore_n 2, 1), (86, .iload_n 2, 1), (87, .iconst (-1), 1), (88, .if_icmp .ne 6, 3), (91, .goto 14, 3), (94, .aload_n 0, 1), (95, .iload_n 2, 1), (96, .invokevirtual 83, 3), (99, .iinc 1 1, 3), (102, .goto (-31), 3), (105, .aload_n 0, 1), (106, .iconst 1, 1), (107, .putfield 45, 3), (110, .return_, 1)]
set_option maxRecDepth 100000 in
theorem t_Se_findStanding1 : ∀ q ∈ T_Se_findStanding1, decode prog_4_method_3_code q.1 = .ok q.2 := by decide +kernel
theorem d_Se_findStanding_82 : decode prog_4_method_3_code 82 = .ok (.invokevirtual 79, 3) := q_tb t_Se_findStanding1 0 rfl
theorem d_Se_findStanding_85 : decode prog_4_method_3_code 85 = .ok (.istore_n 2, 1) := q_tb t_Se_findStanding1 1 rfl
theorem d_Se_findStanding_86 : decode prog_4_method_3_code 86 = .ok (.iload_n 2, 1) := q_tb t_Se_findStanding1 2 rfl
theorem d_Se_findStanding_87 : decode prog_4_method_3_code 87 = .ok (.iconst (-1), 1) := q_tb t_Se_findStanding1 3 rfl
theorem d_Se_findStanding_88 : decode prog_4_method_3_code 88 = .ok (.if_icmp .ne 6, 3) := q_tb t_Se_findStanding1 4 rfl
theorem d_Se_findStanding_91 : decode prog_4_method_3_code 91 = .ok (.goto 14, 3) := q_tb t_Se_findStanding1 5 rfl
theorem d_Se_findStanding_94 : decode prog_4_method_3_code 94 = .ok (.aload_n 0, 1) := q_tb t_Se_findStanding1 6 rfl
theorem d_Se_findStanding_95 : decode prog_4_method_3_code 95 = .ok (.iload_n 2, 1) := q_tb t_Se_findStanding1 7 rfl
theorem d_Se_findStanding_96 : decode prog_4_method_3_code 96 = .ok (.invokevirtual 83, 3) := q_tb t_Se_findStanding1 8 rfl
theorem d_Se_findStanding_99 : decode prog_4_method_3_code 99 = .ok (.iinc 1 1, 3) := q_tb t_Se_findStanding1 9 rfl
theorem d_Se_findStanding_102 : decode prog_4_method_3_code 102 = .ok (.goto (-31), 3) := q_tb t_Se_findStanding1 10 rfl
theorem d_Se_findStanding_105 : decode prog_4_method_3_code 105 = .ok (.aload_n 0, 1) := q_tb t_Se_findStanding1 11 rfl
theorem d_Se_findStanding_106 : decode prog_4_method_3_code 106 = .ok (.iconst 1, 1) := q_tb t_Se_findStanding1 12 rfl
theorem d_Se_findStanding_107 : decode prog_4_method_3_code 107 = .ok (.putfield 45, 3) := q_tb t_Se_findStanding1 13 rfl
theorem d_Se_findStanding_110 : decode prog_4_method_3_code 110 = .ok (.return_, 1) := q_tb t_Se_findStanding1 14 rfl
def T_Se_weigh0 : List (Nat × Instr × Nat) := [(0, .iconst 1, 1), (1, .istore_n 1, 1), (2, .iconst 4, 1), (3, .istore_n 2, 1), (4, .iload_n 2, 1), (5, .ifCond .lt 28, 3), (8, .aload_n 0, 1), (9, .getfield 38, 3), (12, .iload_n 2, 1), (13, .iload_n 1, 1), (14, .iastore, 1), (15, .iload_n 1, 1), (16, .aload_n 0, 1), (17, .getfield 41, 3), (20, .getfield 104, 3), (23, .iload_n 2, 1), (24, .iaload, 1), (25, .imul, 1), (26, .istore_n 1, 1), (27, .iinc 2 (-1), 3), (30, .goto (-26), 3), (33, .aload_n 0, 1), (34, .getfield 41, 3), (37, .getfield 107, 3), (40, .iconst 1, 1), (41, .isub, 1), (42, .istore_n 2, 1), (43, .iload_n 2, 1), (44, .ifCond .lt 31, 3), (47, .aload_n 0, 1), (48, .getfield 34, 3), (51, .iload_n 2, 1), (52, .iload_n 1, 1), (53, .iastore, 1), (54, .iload_n 1, 1), (55, .aload_n 0, 1), (56, .getfield 41, 3), (59, .getfield 110, 3), (62, .iload_n 2, 1), (63, .aaload, 1)]
set_option maxRecDepth 100000 in
theorem t_Se_weigh0 : ∀ q ∈ T_Se_weigh0, decode prog_4_method_6_code q.1 = .ok q.2 := by decide +kernel
theorem d_Se_weigh_0 : decode prog_4_method_6_code 0 = .ok (.iconst 1, 1) := q_tb t_Se_weigh0 0 rfl
theorem d_Se_weigh_1 : decode prog_4_method_6_code 1 = .ok (.istore_n 1, 1) := q_tb t_Se_weigh0 1 rfl
theorem d_Se_weigh_2 : decode prog_4_method_6_code 2 = .ok (.iconst 4, 1) := q_tb t_Se_weigh0 2 rfl
theorem d_Se_weigh_3 : decode prog_4_method_6_code 3 = .ok (.istore_n 2, 1) := q_tb t_Se_weigh0 3 rfl
theorem d_Se_weigh_4 : decode prog_4_method_6_code 4 = .ok (.iload_n 2, 1) := q_tb t_Se_weigh0 4 rfl
theorem d_Se_weigh_5 : decode prog_4_method_6_code 5 = .ok (.ifCond .lt 28, 3) := q_tb t_Se_weigh0 5 rfl
theorem d_Se_weigh_8 : decode prog_4_method_6_code 8 = .ok (.aload_n 0, 1) := q_tb t_Se_weigh0 6 rfl
theorem d_Se_weigh_9 : decode prog_4_method_6_code 9 = .ok (.getfield 38, 3) := q_tb t_Se_weigh0 7 rfl
theorem d_Se_weigh_12 : decode prog_4_method_6_code 12 = .ok (.iload_n 2, 1) := q_tb t_Se_weigh0 8 rfl
theorem d_Se_weigh_13 : decode prog_4_method_6_code 13 = .ok (.iload_n 1, 1) := q_tb t_Se_weigh0 9 rfl
theorem d_Se_weigh_14 : decode prog_4_method_6_code 14 = .ok (.iastore, 1) := q_tb t_Se_weigh0 10 rfl
theorem d_Se_weigh_15 : decode prog_4_method_6_code 15 = .ok (.iload_n 1, 1) := q_tb t_Se_weigh0 11 rfl
theorem d_Se_weigh_16 : decode prog_4_method_6_code 16 = .ok (.aload_n 0, 1) := q_tb t_Se_weigh0 12 rfl
theorem d_Se_weigh_17 : decode prog_4_method_6_code 17 = .ok (.getfield 41, 3) := q_tb t_Se_weigh0 13 rfl
theorem d_Se_weigh_20 : decode prog_4_method_6_code 20 = .ok (.getfield 104, 3) := q_tb t_Se_weigh0 14 rfl
theorem d_Se_weigh_23 : decode prog_4_method_6_code 23 = .ok (.iload_n 2, 1) := q_tb t_Se_weigh0 15 rfl
theorem d_Se_weigh_24 : decode prog_4_method_6_code 24 = .ok (.iaload, 1) := q_tb t_Se_weigh0 16 rfl
theorem d_Se_weigh_25 : decode prog_4_method_6_code 25 = .ok (.imul, 1) := q_tb t_Se_weigh0 17 rfl
theorem d_Se_weigh_26 : decode prog_4_method_6_code 26 = .ok (.istore_n 1, 1) := q_tb t_Se_weigh0 18 rfl
theorem d_Se_weigh_27 : decode prog_4_method_6_code 27 = .ok (.iinc 2 (-1), 3) := q_tb t_Se_weigh0 19 rfl
theorem d_Se_weigh_30 : decode prog_4_method_6_code 30 = .ok (.goto (-26), 3) := q_tb t_Se_weigh0 20 rfl
theorem d_Se_weigh_33 : decode prog_4_method_6_code 33 = .ok (.aload_n 0, 1) := q_tb t_Se_weigh0 21 rfl
theorem d_Se_weigh_34 : decode prog_4_method_6_code 34 = .ok (.getfield 41, 3) := q_tb t_Se_weigh0 22 rfl
theorem d_Se_weigh_37 : decode prog_4_method_6_code 37 = .ok (.getfield 107, 3) := q_tb t_Se_weigh0 23 rfl
theorem d_Se_weigh_40 : decode prog_4_method_6_code 40 = .ok (.iconst 1, 1) := q_tb t_Se_weigh0 24 rfl
theorem d_Se_weigh_41 : decode prog_4_method_6_code 41 = .ok (.isub, 1) := q_tb t_Se_weigh0 25 rfl
theorem d_Se_weigh_42 : decode prog_4_method_6_code 42 = .ok (.istore_n 2, 1) := q_tb t_Se_weigh0 26 rfl
theorem d_Se_weigh_43 : decode prog_4_method_6_code 43 = .ok (.iload_n 2, 1) := q_tb t_Se_weigh0 27 rfl
theorem d_Se_weigh_44 : decode prog_4_method_6_code 44 = .ok (.ifCond .lt 31, 3) := q_tb t_Se_weigh0 28 rfl
theorem d_Se_weigh_47 : decode prog_4_method_6_code 47 = .ok (.aload_n 0, 1) := q_tb t_Se_weigh0 29 rfl
theorem d_Se_weigh_48 : decode prog_4_method_6_code 48 = .ok (.getfield 34, 3) := q_tb t_Se_weigh0 30 rfl
theorem d_Se_weigh_51 : decode prog_4_method_6_code 51 = .ok (.iload_n 2, 1) := q_tb t_Se_weigh0 31 rfl
theorem d_Se_weigh_52 : decode prog_4_method_6_code 52 = .ok (.iload_n 1, 1) := q_tb t_Se_weigh0 32 rfl
theorem d_Se_weigh_53 : decode prog_4_method_6_code 53 = .ok (.iastore, 1) := q_tb t_Se_weigh0 33 rfl
theorem d_Se_weigh_54 : decode prog_4_method_6_code 54 = .ok (.iload_n 1, 1) := q_tb t_Se_weigh0 34 rfl
theorem d_Se_weigh_55 : decode prog_4_method_6_code 55 = .ok (.aload_n 0, 1) := q_tb t_Se_weigh0 35 rfl
theorem d_Se_weigh_56 : decode prog_4_method_6_code 56 = .ok (.getfield 41, 3) := q_tb t_Se_weigh0 36 rfl
theorem d_Se_weigh_59 : decode prog_4_method_6_code 59 = .ok (.getfield 110, 3) := q_tb t_Se_weigh0 37 rfl
theorem d_Se_weigh_62 : decode prog_4_method_6_code 62 = .ok (.iload_n 2, 1) := q_tb t_Se_weigh0 38 rfl
theorem d_Se_weigh_63 : decode prog_4_method_6_code 63 = .ok (.aaload, 1) := q_tb t_Se_weigh0 39 rfl
def T_Se_weigh1 : List (Nat × Instr × Nat) := [(64, .getfield 114, 3), (67, .imul, 1), (68, .istore_n 1, 1), (69, .iinc 2 (-1), 3), (72, .goto (-29), 3), (75, .return_, 1)]
set_option maxRecDepth 100000 in
theorem t_Se_weigh1 : ∀ q ∈ T_Se_weigh1, decode prog_4_method_6_code q.1 = .ok q.2 := by decide +kernel
theorem d_Se_weigh_64 : decode prog_4_method_6_code 64 = .ok (.getfield 114, 3) := q_tb t_Se_weigh1 0 rfl
theorem d_Se_weigh_67 : decode prog_4_method_6_code 67 = .ok (.imul, 1) := q_tb t_Se_weigh1 1 rfl
theorem d_Se_weigh_68 : decode prog_4_method_6_code 68 = .ok (.istore_n 1, 1) := q_tb t_Se_weigh1 2 rfl
theorem d_Se_weigh_69 : decode prog_4_method_6_code 69 = .ok (.iinc 2 (-1), 3) := q_tb t_Se_weigh1 3 rfl
theorem d_Se_weigh_72 : decode prog_4_method_6_code 72 = .ok (.goto (-29), 3) := q_tb t_Se_weigh1 4 rfl
theorem d_Se_weigh_75 : decode prog_4_method_6_code 75 = .ok (.return_, 1) := q_tb t_Se_weigh1 5 rfl
def T_Ss_empty : List (Nat × Instr × Nat) := [(0, .aload_n 0, 1), (1, .getfield 11, 3), (4, .lconst 0, 1), (5, .invokestatic 19, 3), (8, .aload_n 0, 1), (9, .sipush 469, 3), (12, .putfield 15, 3), (15, .return_, 1)]
set_option maxRecDepth 100000 in
theorem t_Ss_empty : ∀ q ∈ T_Ss_empty, decode prog_6_method_2_code q.1 = .ok q.2 := by decide +kernel
theorem d_Ss_empty_0 : decode prog_6_method_2_code 0 = .ok (.aload_n 0, 1) := q_tb t_Ss_empty 0 rfl
theorem d_Ss_empty_1 : decode prog_6_method_2_code 1 = .ok (.getfield 11, 3) := q_tb t_Ss_empty 1 rfl
theorem d_Ss_empty_4 : decode prog_6_method_2_code 4 = .ok (.lconst 0, 1) := q_tb t_Ss_empty 2 rfl
theorem d_Ss_empty_5 : decode prog_6_method_2_code 5 = .ok (.invokestatic 19, 3) := q_tb t_Ss_empty 3 rfl
theorem d_Ss_empty_8 : decode prog_6_method_2_code 8 = .ok (.aload_n 0, 1) := q_tb t_Ss_empty 4 rfl
theorem d_Ss_empty_9 : decode prog_6_method_2_code 9 = .ok (.sipush 469, 3) := q_tb t_Ss_empty 5 rfl
theorem d_Ss_empty_12 : decode prog_6_method_2_code 12 = .ok (.putfield 15, 3) := q_tb t_Ss_empty 6 rfl
theorem d_Ss_empty_15 : decode prog_6_method_2_code 15 = .ok (.return_, 1) := q_tb t_Ss_empty 7 rfl
def T_Wo_numberOf0 : List (Nat × Instr × Nat) := [(0, .iconst 0, 1), (1, .istore_n 2, 1), (2, .iconst 0, 1), (3, .istore_n 3, 1), (4, .iload_n 3, 1), (5, .aload_n 0, 1), (6, .getfield 35, 3), (9, .if_icmp .ge 28, 3), (12, .iload_n 2, 1), (13, .aload_n 0, 1), (14, .getfield 20, 3), (17, .iload_n 3, 1), (18, .aaload, 1), (19, .getfield 38, 3), (22, .imul, 1), (23, .aload_n 1, 1), (24, .getfield 47, 3), (27, .iload_n 3, 1), (28, .iaload, 1), (29, .iadd, 1), (30, .istore_n 2, 1), (31, .iinc 3 1, 3), (34, .goto (-30), 3), (37, .iconst 0, 1), (38, .istore_n 3, 1), (39, .iload_n 3, 1), (40, .iconst 5, 1), (41, .if_icmp .ge 25, 3), (44, .iload_n 2, 1), (45, .aload_n 0, 1), (46, .getfield 9, 3), (49, .iload_n 3, 1), (50, .iaload, 1), (51, .imul, 1), (52, .aload_n 1, 1), (53, .getfield 52, 3), (56, .iload_n 3, 1), (57, .iaload, 1), (58, .iadd, 1), (59, .istore_n 2, 1)]
set_option maxRecDepth 100000 in
theorem t_Wo_numberOf0 : ∀ q ∈ T_Wo_numberOf0, decode prog_9_method_11_code q.1 = .ok q.2 := by decide +kernel
theorem d_Wo_numberOf_0 : decode prog_9_method_11_code 0 = .ok (.iconst 0, 1) := q_tb t_Wo_numberOf0 0 rfl
theorem d_Wo_numberOf_1 : decode prog_9_method_11_code 1 = .ok (.istore_n 2, 1) := q_tb t_Wo_numberOf0 1 rfl
theorem d_Wo_numberOf_2 : decode prog_9_method_11_code 2 = .ok (.iconst 0, 1) := q_tb t_Wo_numberOf0 2 rfl
theorem d_Wo_numberOf_3 : decode prog_9_method_11_code 3 = .ok (.istore_n 3, 1) := q_tb t_Wo_numberOf0 3 rfl
theorem d_Wo_numberOf_4 : decode prog_9_method_11_code 4 = .ok (.iload_n 3, 1) := q_tb t_Wo_numberOf0 4 rfl
theorem d_Wo_numberOf_5 : decode prog_9_method_11_code 5 = .ok (.aload_n 0, 1) := q_tb t_Wo_numberOf0 5 rfl
theorem d_Wo_numberOf_6 : decode prog_9_method_11_code 6 = .ok (.getfield 35, 3) := q_tb t_Wo_numberOf0 6 rfl
theorem d_Wo_numberOf_9 : decode prog_9_method_11_code 9 = .ok (.if_icmp .ge 28, 3) := q_tb t_Wo_numberOf0 7 rfl
theorem d_Wo_numberOf_12 : decode prog_9_method_11_code 12 = .ok (.iload_n 2, 1) := q_tb t_Wo_numberOf0 8 rfl
theorem d_Wo_numberOf_13 : decode prog_9_method_11_code 13 = .ok (.aload_n 0, 1) := q_tb t_Wo_numberOf0 9 rfl
theorem d_Wo_numberOf_14 : decode prog_9_method_11_code 14 = .ok (.getfield 20, 3) := q_tb t_Wo_numberOf0 10 rfl
theorem d_Wo_numberOf_17 : decode prog_9_method_11_code 17 = .ok (.iload_n 3, 1) := q_tb t_Wo_numberOf0 11 rfl
theorem d_Wo_numberOf_18 : decode prog_9_method_11_code 18 = .ok (.aaload, 1) := q_tb t_Wo_numberOf0 12 rfl
theorem d_Wo_numberOf_19 : decode prog_9_method_11_code 19 = .ok (.getfield 38, 3) := q_tb t_Wo_numberOf0 13 rfl
theorem d_Wo_numberOf_22 : decode prog_9_method_11_code 22 = .ok (.imul, 1) := q_tb t_Wo_numberOf0 14 rfl
theorem d_Wo_numberOf_23 : decode prog_9_method_11_code 23 = .ok (.aload_n 1, 1) := q_tb t_Wo_numberOf0 15 rfl
theorem d_Wo_numberOf_24 : decode prog_9_method_11_code 24 = .ok (.getfield 47, 3) := q_tb t_Wo_numberOf0 16 rfl
theorem d_Wo_numberOf_27 : decode prog_9_method_11_code 27 = .ok (.iload_n 3, 1) := q_tb t_Wo_numberOf0 17 rfl
theorem d_Wo_numberOf_28 : decode prog_9_method_11_code 28 = .ok (.iaload, 1) := q_tb t_Wo_numberOf0 18 rfl
theorem d_Wo_numberOf_29 : decode prog_9_method_11_code 29 = .ok (.iadd, 1) := q_tb t_Wo_numberOf0 19 rfl
theorem d_Wo_numberOf_30 : decode prog_9_method_11_code 30 = .ok (.istore_n 2, 1) := q_tb t_Wo_numberOf0 20 rfl
theorem d_Wo_numberOf_31 : decode prog_9_method_11_code 31 = .ok (.iinc 3 1, 3) := q_tb t_Wo_numberOf0 21 rfl
theorem d_Wo_numberOf_34 : decode prog_9_method_11_code 34 = .ok (.goto (-30), 3) := q_tb t_Wo_numberOf0 22 rfl
theorem d_Wo_numberOf_37 : decode prog_9_method_11_code 37 = .ok (.iconst 0, 1) := q_tb t_Wo_numberOf0 23 rfl
theorem d_Wo_numberOf_38 : decode prog_9_method_11_code 38 = .ok (.istore_n 3, 1) := q_tb t_Wo_numberOf0 24 rfl
theorem d_Wo_numberOf_39 : decode prog_9_method_11_code 39 = .ok (.iload_n 3, 1) := q_tb t_Wo_numberOf0 25 rfl
theorem d_Wo_numberOf_40 : decode prog_9_method_11_code 40 = .ok (.iconst 5, 1) := q_tb t_Wo_numberOf0 26 rfl
theorem d_Wo_numberOf_41 : decode prog_9_method_11_code 41 = .ok (.if_icmp .ge 25, 3) := q_tb t_Wo_numberOf0 27 rfl
theorem d_Wo_numberOf_44 : decode prog_9_method_11_code 44 = .ok (.iload_n 2, 1) := q_tb t_Wo_numberOf0 28 rfl
theorem d_Wo_numberOf_45 : decode prog_9_method_11_code 45 = .ok (.aload_n 0, 1) := q_tb t_Wo_numberOf0 29 rfl
theorem d_Wo_numberOf_46 : decode prog_9_method_11_code 46 = .ok (.getfield 9, 3) := q_tb t_Wo_numberOf0 30 rfl
theorem d_Wo_numberOf_49 : decode prog_9_method_11_code 49 = .ok (.iload_n 3, 1) := q_tb t_Wo_numberOf0 31 rfl
theorem d_Wo_numberOf_50 : decode prog_9_method_11_code 50 = .ok (.iaload, 1) := q_tb t_Wo_numberOf0 32 rfl
theorem d_Wo_numberOf_51 : decode prog_9_method_11_code 51 = .ok (.imul, 1) := q_tb t_Wo_numberOf0 33 rfl
theorem d_Wo_numberOf_52 : decode prog_9_method_11_code 52 = .ok (.aload_n 1, 1) := q_tb t_Wo_numberOf0 34 rfl
theorem d_Wo_numberOf_53 : decode prog_9_method_11_code 53 = .ok (.getfield 52, 3) := q_tb t_Wo_numberOf0 35 rfl
theorem d_Wo_numberOf_56 : decode prog_9_method_11_code 56 = .ok (.iload_n 3, 1) := q_tb t_Wo_numberOf0 36 rfl
theorem d_Wo_numberOf_57 : decode prog_9_method_11_code 57 = .ok (.iaload, 1) := q_tb t_Wo_numberOf0 37 rfl
theorem d_Wo_numberOf_58 : decode prog_9_method_11_code 58 = .ok (.iadd, 1) := q_tb t_Wo_numberOf0 38 rfl
theorem d_Wo_numberOf_59 : decode prog_9_method_11_code 59 = .ok (.istore_n 2, 1) := q_tb t_Wo_numberOf0 39 rfl
def T_Wo_numberOf1 : List (Nat × Instr × Nat) := [(60, .iinc 3 1, 3), (63, .goto (-24), 3), (66, .iload_n 2, 1), (67, .ireturn, 1)]
set_option maxRecDepth 100000 in
theorem t_Wo_numberOf1 : ∀ q ∈ T_Wo_numberOf1, decode prog_9_method_11_code q.1 = .ok q.2 := by decide +kernel
theorem d_Wo_numberOf_60 : decode prog_9_method_11_code 60 = .ok (.iinc 3 1, 3) := q_tb t_Wo_numberOf1 0 rfl
theorem d_Wo_numberOf_63 : decode prog_9_method_11_code 63 = .ok (.goto (-24), 3) := q_tb t_Wo_numberOf1 1 rfl
theorem d_Wo_numberOf_66 : decode prog_9_method_11_code 66 = .ok (.iload_n 2, 1) := q_tb t_Wo_numberOf1 2 rfl
theorem d_Wo_numberOf_67 : decode prog_9_method_11_code 67 = .ok (.ireturn, 1) := q_tb t_Wo_numberOf1 3 rfl
def T_Se_reach : List (Nat × Instr × Nat) := [(0, .aload_n 0, 1), (1, .getfield 12, 3), (4, .iload_n 1, 1), (5, .invokevirtual 119, 3), (8, .ifCond .ne 19, 3), (11, .aload_n 0, 1), (12, .getfield 12, 3), (15, .iload_n 1, 1), (16, .invokevirtual 123, 3), (19, .aload_n 0, 1), (20, .getfield 24, 3), (23, .iload_n 1, 1), (24, .invokevirtual 123, 3), (27, .return_, 1)]
set_option maxRecDepth 100000 in
theorem t_Se_reach : ∀ q ∈ T_Se_reach, decode prog_4_method_7_code q.1 = .ok q.2 := by decide +kernel
theorem d_Se_reach_0 : decode prog_4_method_7_code 0 = .ok (.aload_n 0, 1) := q_tb t_Se_reach 0 rfl
theorem d_Se_reach_1 : decode prog_4_method_7_code 1 = .ok (.getfield 12, 3) := q_tb t_Se_reach 1 rfl
theorem d_Se_reach_4 : decode prog_4_method_7_code 4 = .ok (.iload_n 1, 1) := q_tb t_Se_reach 2 rfl
theorem d_Se_reach_5 : decode prog_4_method_7_code 5 = .ok (.invokevirtual 119, 3) := q_tb t_Se_reach 3 rfl
theorem d_Se_reach_8 : decode prog_4_method_7_code 8 = .ok (.ifCond .ne 19, 3) := q_tb t_Se_reach 4 rfl
theorem d_Se_reach_11 : decode prog_4_method_7_code 11 = .ok (.aload_n 0, 1) := q_tb t_Se_reach 5 rfl
theorem d_Se_reach_12 : decode prog_4_method_7_code 12 = .ok (.getfield 12, 3) := q_tb t_Se_reach 6 rfl
theorem d_Se_reach_15 : decode prog_4_method_7_code 15 = .ok (.iload_n 1, 1) := q_tb t_Se_reach 7 rfl
theorem d_Se_reach_16 : decode prog_4_method_7_code 16 = .ok (.invokevirtual 123, 3) := q_tb t_Se_reach 8 rfl
theorem d_Se_reach_19 : decode prog_4_method_7_code 19 = .ok (.aload_n 0, 1) := q_tb t_Se_reach 9 rfl
theorem d_Se_reach_20 : decode prog_4_method_7_code 20 = .ok (.getfield 24, 3) := q_tb t_Se_reach 10 rfl
theorem d_Se_reach_23 : decode prog_4_method_7_code 23 = .ok (.iload_n 1, 1) := q_tb t_Se_reach 11 rfl
theorem d_Se_reach_24 : decode prog_4_method_7_code 24 = .ok (.invokevirtual 123, 3) := q_tb t_Se_reach 12 rfl
theorem d_Se_reach_27 : decode prog_4_method_7_code 27 = .ok (.return_, 1) := q_tb t_Se_reach 13 rfl
def T_Ss_contains : List (Nat × Instr × Nat) := [(0, .iload_n 1, 1), (1, .ifCond .lt 35, 3), (4, .iload_n 1, 1), (5, .sipush 30000, 3), (8, .if_icmp .ge 28, 3), (11, .aload_n 0, 1), (12, .getfield 11, 3), (15, .iload_n 1, 1), (16, .bipush 64, 2), (18, .idiv, 1), (19, .laload, 1), (20, .iload_n 1, 1), (21, .bipush 64, 2), (23, .irem, 1), (24, .lushr, 1), (25, .lconst 1, 1), (26, .land, 1), (27, .lconst 0, 1), (28, .lcmp, 1), (29, .ifCond .eq 7, 3), (32, .iconst 1, 1), (33, .goto 4, 3), (36, .iconst 0, 1), (37, .ireturn, 1)]
set_option maxRecDepth 100000 in
theorem t_Ss_contains : ∀ q ∈ T_Ss_contains, decode prog_6_method_4_code q.1 = .ok q.2 := by decide +kernel
theorem d_Ss_contains_0 : decode prog_6_method_4_code 0 = .ok (.iload_n 1, 1) := q_tb t_Ss_contains 0 rfl
theorem d_Ss_contains_1 : decode prog_6_method_4_code 1 = .ok (.ifCond .lt 35, 3) := q_tb t_Ss_contains 1 rfl
theorem d_Ss_contains_4 : decode prog_6_method_4_code 4 = .ok (.iload_n 1, 1) := q_tb t_Ss_contains 2 rfl
theorem d_Ss_contains_5 : decode prog_6_method_4_code 5 = .ok (.sipush 30000, 3) := q_tb t_Ss_contains 3 rfl
theorem d_Ss_contains_8 : decode prog_6_method_4_code 8 = .ok (.if_icmp .ge 28, 3) := q_tb t_Ss_contains 4 rfl
theorem d_Ss_contains_11 : decode prog_6_method_4_code 11 = .ok (.aload_n 0, 1) := q_tb t_Ss_contains 5 rfl
theorem d_Ss_contains_12 : decode prog_6_method_4_code 12 = .ok (.getfield 11, 3) := q_tb t_Ss_contains 6 rfl
theorem d_Ss_contains_15 : decode prog_6_method_4_code 15 = .ok (.iload_n 1, 1) := q_tb t_Ss_contains 7 rfl
theorem d_Ss_contains_16 : decode prog_6_method_4_code 16 = .ok (.bipush 64, 2) := q_tb t_Ss_contains 8 rfl
theorem d_Ss_contains_18 : decode prog_6_method_4_code 18 = .ok (.idiv, 1) := q_tb t_Ss_contains 9 rfl
theorem d_Ss_contains_19 : decode prog_6_method_4_code 19 = .ok (.laload, 1) := q_tb t_Ss_contains 10 rfl
theorem d_Ss_contains_20 : decode prog_6_method_4_code 20 = .ok (.iload_n 1, 1) := q_tb t_Ss_contains 11 rfl
theorem d_Ss_contains_21 : decode prog_6_method_4_code 21 = .ok (.bipush 64, 2) := q_tb t_Ss_contains 12 rfl
theorem d_Ss_contains_23 : decode prog_6_method_4_code 23 = .ok (.irem, 1) := q_tb t_Ss_contains 13 rfl
theorem d_Ss_contains_24 : decode prog_6_method_4_code 24 = .ok (.lushr, 1) := q_tb t_Ss_contains 14 rfl
theorem d_Ss_contains_25 : decode prog_6_method_4_code 25 = .ok (.lconst 1, 1) := q_tb t_Ss_contains 15 rfl
theorem d_Ss_contains_26 : decode prog_6_method_4_code 26 = .ok (.land, 1) := q_tb t_Ss_contains 16 rfl
theorem d_Ss_contains_27 : decode prog_6_method_4_code 27 = .ok (.lconst 0, 1) := q_tb t_Ss_contains 17 rfl
theorem d_Ss_contains_28 : decode prog_6_method_4_code 28 = .ok (.lcmp, 1) := q_tb t_Ss_contains 18 rfl
theorem d_Ss_contains_29 : decode prog_6_method_4_code 29 = .ok (.ifCond .eq 7, 3) := q_tb t_Ss_contains 19 rfl
theorem d_Ss_contains_32 : decode prog_6_method_4_code 32 = .ok (.iconst 1, 1) := q_tb t_Ss_contains 20 rfl
theorem d_Ss_contains_33 : decode prog_6_method_4_code 33 = .ok (.goto 4, 3) := q_tb t_Ss_contains 21 rfl
theorem d_Ss_contains_36 : decode prog_6_method_4_code 36 = .ok (.iconst 0, 1) := q_tb t_Ss_contains 22 rfl
theorem d_Ss_contains_37 : decode prog_6_method_4_code 37 = .ok (.ireturn, 1) := q_tb t_Ss_contains 23 rfl
def T_Ss_add : List (Nat × Instr × Nat) := [(0, .iload_n 1, 1), (1, .ifCond .lt 10, 3), (4, .iload_n 1, 1), (5, .sipush 30000, 3), (8, .if_icmp .lt 4, 3), (11, .return_, 1), (12, .aload_n 0, 1), (13, .getfield 11, 3), (16, .iload_n 1, 1), (17, .bipush 64, 2), (19, .idiv, 1), (20, .dup2, 1), (21, .laload, 1), (22, .lconst 1, 1), (23, .iload_n 1, 1), (24, .bipush 64, 2), (26, .irem, 1), (27, .lshl, 1), (28, .lor, 1), (29, .lastore, 1), (30, .iload_n 1, 1), (31, .bipush 64, 2), (33, .idiv, 1), (34, .aload_n 0, 1), (35, .getfield 15, 3), (38, .if_icmp .ge 11, 3), (41, .aload_n 0, 1), (42, .iload_n 1, 1), (43, .bipush 64, 2), (45, .idiv, 1), (46, .putfield 15, 3), (49, .return_, 1)]
set_option maxRecDepth 100000 in
theorem t_Ss_add : ∀ q ∈ T_Ss_add, decode prog_6_method_5_code q.1 = .ok q.2 := by decide +kernel
theorem d_Ss_add_0 : decode prog_6_method_5_code 0 = .ok (.iload_n 1, 1) := q_tb t_Ss_add 0 rfl
theorem d_Ss_add_1 : decode prog_6_method_5_code 1 = .ok (.ifCond .lt 10, 3) := q_tb t_Ss_add 1 rfl
theorem d_Ss_add_4 : decode prog_6_method_5_code 4 = .ok (.iload_n 1, 1) := q_tb t_Ss_add 2 rfl
theorem d_Ss_add_5 : decode prog_6_method_5_code 5 = .ok (.sipush 30000, 3) := q_tb t_Ss_add 3 rfl
theorem d_Ss_add_8 : decode prog_6_method_5_code 8 = .ok (.if_icmp .lt 4, 3) := q_tb t_Ss_add 4 rfl
theorem d_Ss_add_11 : decode prog_6_method_5_code 11 = .ok (.return_, 1) := q_tb t_Ss_add 5 rfl
theorem d_Ss_add_12 : decode prog_6_method_5_code 12 = .ok (.aload_n 0, 1) := q_tb t_Ss_add 6 rfl
theorem d_Ss_add_13 : decode prog_6_method_5_code 13 = .ok (.getfield 11, 3) := q_tb t_Ss_add 7 rfl
theorem d_Ss_add_16 : decode prog_6_method_5_code 16 = .ok (.iload_n 1, 1) := q_tb t_Ss_add 8 rfl
theorem d_Ss_add_17 : decode prog_6_method_5_code 17 = .ok (.bipush 64, 2) := q_tb t_Ss_add 9 rfl
theorem d_Ss_add_19 : decode prog_6_method_5_code 19 = .ok (.idiv, 1) := q_tb t_Ss_add 10 rfl
theorem d_Ss_add_20 : decode prog_6_method_5_code 20 = .ok (.dup2, 1) := q_tb t_Ss_add 11 rfl
theorem d_Ss_add_21 : decode prog_6_method_5_code 21 = .ok (.laload, 1) := q_tb t_Ss_add 12 rfl
theorem d_Ss_add_22 : decode prog_6_method_5_code 22 = .ok (.lconst 1, 1) := q_tb t_Ss_add 13 rfl
theorem d_Ss_add_23 : decode prog_6_method_5_code 23 = .ok (.iload_n 1, 1) := q_tb t_Ss_add 14 rfl
theorem d_Ss_add_24 : decode prog_6_method_5_code 24 = .ok (.bipush 64, 2) := q_tb t_Ss_add 15 rfl
theorem d_Ss_add_26 : decode prog_6_method_5_code 26 = .ok (.irem, 1) := q_tb t_Ss_add 16 rfl
theorem d_Ss_add_27 : decode prog_6_method_5_code 27 = .ok (.lshl, 1) := q_tb t_Ss_add 17 rfl
theorem d_Ss_add_28 : decode prog_6_method_5_code 28 = .ok (.lor, 1) := q_tb t_Ss_add 18 rfl
theorem d_Ss_add_29 : decode prog_6_method_5_code 29 = .ok (.lastore, 1) := q_tb t_Ss_add 19 rfl
theorem d_Ss_add_30 : decode prog_6_method_5_code 30 = .ok (.iload_n 1, 1) := q_tb t_Ss_add 20 rfl
theorem d_Ss_add_31 : decode prog_6_method_5_code 31 = .ok (.bipush 64, 2) := q_tb t_Ss_add 21 rfl
theorem d_Ss_add_33 : decode prog_6_method_5_code 33 = .ok (.idiv, 1) := q_tb t_Ss_add 22 rfl
theorem d_Ss_add_34 : decode prog_6_method_5_code 34 = .ok (.aload_n 0, 1) := q_tb t_Ss_add 23 rfl
theorem d_Ss_add_35 : decode prog_6_method_5_code 35 = .ok (.getfield 15, 3) := q_tb t_Ss_add 24 rfl
theorem d_Ss_add_38 : decode prog_6_method_5_code 38 = .ok (.if_icmp .ge 11, 3) := q_tb t_Ss_add 25 rfl
theorem d_Ss_add_41 : decode prog_6_method_5_code 41 = .ok (.aload_n 0, 1) := q_tb t_Ss_add 26 rfl
theorem d_Ss_add_42 : decode prog_6_method_5_code 42 = .ok (.iload_n 1, 1) := q_tb t_Ss_add 27 rfl
theorem d_Ss_add_43 : decode prog_6_method_5_code 43 = .ok (.bipush 64, 2) := q_tb t_Ss_add 28 rfl
theorem d_Ss_add_45 : decode prog_6_method_5_code 45 = .ok (.idiv, 1) := q_tb t_Ss_add 29 rfl
theorem d_Ss_add_46 : decode prog_6_method_5_code 46 = .ok (.putfield 15, 3) := q_tb t_Ss_add 30 rfl
theorem d_Ss_add_49 : decode prog_6_method_5_code 49 = .ok (.return_, 1) := q_tb t_Ss_add 31 rfl
def T_Ss_takeLowest0 : List (Nat × Instr × Nat) := [(0, .aload_n 0, 1), (1, .getfield 15, 3), (4, .sipush 469, 3), (7, .if_icmp .ge 30, 3), (10, .aload_n 0, 1), (11, .getfield 11, 3), (14, .aload_n 0, 1), (15, .getfield 15, 3), (18, .laload, 1), (19, .lconst 0, 1), (20, .lcmp, 1), (21, .ifCond .ne 16, 3), (24, .aload_n 0, 1), (25, .dup, 1), (26, .getfield 15, 3), (29, .iconst 1, 1), (30, .iadd, 1), (31, .putfield 15, 3), (34, .goto (-34), 3), (37, .aload_n 0, 1), (38, .getfield 15, 3), (41, .sipush 469, 3), (44, .if_icmp .lt 5, 3), (47, .iconst (-1), 1), (48, .ireturn, 1), (49, .aload_n 0, 1), (50, .getfield 11, 3), (53, .aload_n 0, 1), (54, .getfield 15, 3), (57, .laload, 1), (58, .iconst 0, 1), (59, .invokestatic 31, 3), (62, .istore_n 1, 1), (63, .aload_n 0, 1), (64, .getfield 11, 3), (67, .aload_n 0, 1), (68, .getfield 15, 3), (71, .dup2, 1), (72, .laload, 1), (73, .aload_n 0, 1)]
set_option maxRecDepth 100000 in
theorem t_Ss_takeLowest0 : ∀ q ∈ T_Ss_takeLowest0, decode prog_6_method_6_code q.1 = .ok q.2 := by decide +kernel
theorem d_Ss_takeLowest_0 : decode prog_6_method_6_code 0 = .ok (.aload_n 0, 1) := q_tb t_Ss_takeLowest0 0 rfl
theorem d_Ss_takeLowest_1 : decode prog_6_method_6_code 1 = .ok (.getfield 15, 3) := q_tb t_Ss_takeLowest0 1 rfl
theorem d_Ss_takeLowest_4 : decode prog_6_method_6_code 4 = .ok (.sipush 469, 3) := q_tb t_Ss_takeLowest0 2 rfl
theorem d_Ss_takeLowest_7 : decode prog_6_method_6_code 7 = .ok (.if_icmp .ge 30, 3) := q_tb t_Ss_takeLowest0 3 rfl
theorem d_Ss_takeLowest_10 : decode prog_6_method_6_code 10 = .ok (.aload_n 0, 1) := q_tb t_Ss_takeLowest0 4 rfl
theorem d_Ss_takeLowest_11 : decode prog_6_method_6_code 11 = .ok (.getfield 11, 3) := q_tb t_Ss_takeLowest0 5 rfl
theorem d_Ss_takeLowest_14 : decode prog_6_method_6_code 14 = .ok (.aload_n 0, 1) := q_tb t_Ss_takeLowest0 6 rfl
theorem d_Ss_takeLowest_15 : decode prog_6_method_6_code 15 = .ok (.getfield 15, 3) := q_tb t_Ss_takeLowest0 7 rfl
theorem d_Ss_takeLowest_18 : decode prog_6_method_6_code 18 = .ok (.laload, 1) := q_tb t_Ss_takeLowest0 8 rfl
theorem d_Ss_takeLowest_19 : decode prog_6_method_6_code 19 = .ok (.lconst 0, 1) := q_tb t_Ss_takeLowest0 9 rfl
theorem d_Ss_takeLowest_20 : decode prog_6_method_6_code 20 = .ok (.lcmp, 1) := q_tb t_Ss_takeLowest0 10 rfl
theorem d_Ss_takeLowest_21 : decode prog_6_method_6_code 21 = .ok (.ifCond .ne 16, 3) := q_tb t_Ss_takeLowest0 11 rfl
theorem d_Ss_takeLowest_24 : decode prog_6_method_6_code 24 = .ok (.aload_n 0, 1) := q_tb t_Ss_takeLowest0 12 rfl
theorem d_Ss_takeLowest_25 : decode prog_6_method_6_code 25 = .ok (.dup, 1) := q_tb t_Ss_takeLowest0 13 rfl
theorem d_Ss_takeLowest_26 : decode prog_6_method_6_code 26 = .ok (.getfield 15, 3) := q_tb t_Ss_takeLowest0 14 rfl
theorem d_Ss_takeLowest_29 : decode prog_6_method_6_code 29 = .ok (.iconst 1, 1) := q_tb t_Ss_takeLowest0 15 rfl
theorem d_Ss_takeLowest_30 : decode prog_6_method_6_code 30 = .ok (.iadd, 1) := q_tb t_Ss_takeLowest0 16 rfl
theorem d_Ss_takeLowest_31 : decode prog_6_method_6_code 31 = .ok (.putfield 15, 3) := q_tb t_Ss_takeLowest0 17 rfl
theorem d_Ss_takeLowest_34 : decode prog_6_method_6_code 34 = .ok (.goto (-34), 3) := q_tb t_Ss_takeLowest0 18 rfl
theorem d_Ss_takeLowest_37 : decode prog_6_method_6_code 37 = .ok (.aload_n 0, 1) := q_tb t_Ss_takeLowest0 19 rfl
theorem d_Ss_takeLowest_38 : decode prog_6_method_6_code 38 = .ok (.getfield 15, 3) := q_tb t_Ss_takeLowest0 20 rfl
theorem d_Ss_takeLowest_41 : decode prog_6_method_6_code 41 = .ok (.sipush 469, 3) := q_tb t_Ss_takeLowest0 21 rfl
theorem d_Ss_takeLowest_44 : decode prog_6_method_6_code 44 = .ok (.if_icmp .lt 5, 3) := q_tb t_Ss_takeLowest0 22 rfl
theorem d_Ss_takeLowest_47 : decode prog_6_method_6_code 47 = .ok (.iconst (-1), 1) := q_tb t_Ss_takeLowest0 23 rfl
theorem d_Ss_takeLowest_48 : decode prog_6_method_6_code 48 = .ok (.ireturn, 1) := q_tb t_Ss_takeLowest0 24 rfl
theorem d_Ss_takeLowest_49 : decode prog_6_method_6_code 49 = .ok (.aload_n 0, 1) := q_tb t_Ss_takeLowest0 25 rfl
theorem d_Ss_takeLowest_50 : decode prog_6_method_6_code 50 = .ok (.getfield 11, 3) := q_tb t_Ss_takeLowest0 26 rfl
theorem d_Ss_takeLowest_53 : decode prog_6_method_6_code 53 = .ok (.aload_n 0, 1) := q_tb t_Ss_takeLowest0 27 rfl
theorem d_Ss_takeLowest_54 : decode prog_6_method_6_code 54 = .ok (.getfield 15, 3) := q_tb t_Ss_takeLowest0 28 rfl
theorem d_Ss_takeLowest_57 : decode prog_6_method_6_code 57 = .ok (.laload, 1) := q_tb t_Ss_takeLowest0 29 rfl
theorem d_Ss_takeLowest_58 : decode prog_6_method_6_code 58 = .ok (.iconst 0, 1) := q_tb t_Ss_takeLowest0 30 rfl
theorem d_Ss_takeLowest_59 : decode prog_6_method_6_code 59 = .ok (.invokestatic 31, 3) := q_tb t_Ss_takeLowest0 31 rfl
theorem d_Ss_takeLowest_62 : decode prog_6_method_6_code 62 = .ok (.istore_n 1, 1) := q_tb t_Ss_takeLowest0 32 rfl
theorem d_Ss_takeLowest_63 : decode prog_6_method_6_code 63 = .ok (.aload_n 0, 1) := q_tb t_Ss_takeLowest0 33 rfl
theorem d_Ss_takeLowest_64 : decode prog_6_method_6_code 64 = .ok (.getfield 11, 3) := q_tb t_Ss_takeLowest0 34 rfl
theorem d_Ss_takeLowest_67 : decode prog_6_method_6_code 67 = .ok (.aload_n 0, 1) := q_tb t_Ss_takeLowest0 35 rfl
theorem d_Ss_takeLowest_68 : decode prog_6_method_6_code 68 = .ok (.getfield 15, 3) := q_tb t_Ss_takeLowest0 36 rfl
theorem d_Ss_takeLowest_71 : decode prog_6_method_6_code 71 = .ok (.dup2, 1) := q_tb t_Ss_takeLowest0 37 rfl
theorem d_Ss_takeLowest_72 : decode prog_6_method_6_code 72 = .ok (.laload, 1) := q_tb t_Ss_takeLowest0 38 rfl
theorem d_Ss_takeLowest_73 : decode prog_6_method_6_code 73 = .ok (.aload_n 0, 1) := q_tb t_Ss_takeLowest0 39 rfl
def T_Ss_takeLowest1 : List (Nat × Instr × Nat) := [(74, .getfield 11, 3), (77, .aload_n 0, 1), (78, .getfield 15, 3), (81, .laload, 1), (82, .lconst 1, 1), (83, .lsub, 1), (84, .land, 1), (85, .lastore, 1), (86, .aload_n 0, 1), (87, .getfield 15, 3), (90, .bipush 64, 2), (92, .imul, 1), (93, .iload_n 1, 1), (94, .iadd, 1), (95, .ireturn, 1)]
set_option maxRecDepth 100000 in
theorem t_Ss_takeLowest1 : ∀ q ∈ T_Ss_takeLowest1, decode prog_6_method_6_code q.1 = .ok q.2 := by decide +kernel
theorem d_Ss_takeLowest_74 : decode prog_6_method_6_code 74 = .ok (.getfield 11, 3) := q_tb t_Ss_takeLowest1 0 rfl
theorem d_Ss_takeLowest_77 : decode prog_6_method_6_code 77 = .ok (.aload_n 0, 1) := q_tb t_Ss_takeLowest1 1 rfl
theorem d_Ss_takeLowest_78 : decode prog_6_method_6_code 78 = .ok (.getfield 15, 3) := q_tb t_Ss_takeLowest1 2 rfl
theorem d_Ss_takeLowest_81 : decode prog_6_method_6_code 81 = .ok (.laload, 1) := q_tb t_Ss_takeLowest1 3 rfl
theorem d_Ss_takeLowest_82 : decode prog_6_method_6_code 82 = .ok (.lconst 1, 1) := q_tb t_Ss_takeLowest1 4 rfl
theorem d_Ss_takeLowest_83 : decode prog_6_method_6_code 83 = .ok (.lsub, 1) := q_tb t_Ss_takeLowest1 5 rfl
theorem d_Ss_takeLowest_84 : decode prog_6_method_6_code 84 = .ok (.land, 1) := q_tb t_Ss_takeLowest1 6 rfl
theorem d_Ss_takeLowest_85 : decode prog_6_method_6_code 85 = .ok (.lastore, 1) := q_tb t_Ss_takeLowest1 7 rfl
theorem d_Ss_takeLowest_86 : decode prog_6_method_6_code 86 = .ok (.aload_n 0, 1) := q_tb t_Ss_takeLowest1 8 rfl
theorem d_Ss_takeLowest_87 : decode prog_6_method_6_code 87 = .ok (.getfield 15, 3) := q_tb t_Ss_takeLowest1 9 rfl
theorem d_Ss_takeLowest_90 : decode prog_6_method_6_code 90 = .ok (.bipush 64, 2) := q_tb t_Ss_takeLowest1 10 rfl
theorem d_Ss_takeLowest_92 : decode prog_6_method_6_code 92 = .ok (.imul, 1) := q_tb t_Ss_takeLowest1 11 rfl
theorem d_Ss_takeLowest_93 : decode prog_6_method_6_code 93 = .ok (.iload_n 1, 1) := q_tb t_Ss_takeLowest1 12 rfl
theorem d_Ss_takeLowest_94 : decode prog_6_method_6_code 94 = .ok (.iadd, 1) := q_tb t_Ss_takeLowest1 13 rfl
theorem d_Ss_takeLowest_95 : decode prog_6_method_6_code 95 = .ok (.ireturn, 1) := q_tb t_Ss_takeLowest1 14 rfl
def T_Se_lookAhead0 : List (Nat × Instr × Nat) := [(0, .aload_n 0, 1), (1, .getfield 41, 3), (4, .iload_n 1, 1), (5, .aload_n 0, 1), (6, .getfield 30, 3), (9, .invokevirtual 100, 3), (12, .iconst 1, 1), (13, .istore_n 2, 1), (14, .iconst 0, 1), (15, .istore_n 3, 1), (16, .iload_n 3, 1), (17, .aload_n 0, 1), (18, .getfield 41, 3), (21, .getfield 107, 3), (24, .if_icmp .ge 38, 3), (27, .aload_n 0, 1), (28, .getfield 41, 3), (31, .aload_n 0, 1), (32, .getfield 30, 3), (35, .iload_n 3, 1), (36, .invokevirtual 126, 3), (39, .istore 4, 2), (41, .iload 4, 2), (43, .ifCond .eq 13, 3), (46, .iconst 0, 1), (47, .istore_n 2, 1), (48, .aload_n 0, 1), (49, .iload_n 1, 1), (50, .iload_n 3, 1), (51, .iload 4, 2), (53, .invokevirtual 130, 3), (56, .iinc 3 1, 3), (59, .goto (-43), 3), (62, .iload_n 2, 1), (63, .ifCond .eq 49, 3), (66, .aload_n 0, 1), (67, .getfield 18, 3), (70, .iload_n 1, 1), (71, .invokevirtual 123, 3), (74, .aload_n 0, 1)]
set_option maxRecDepth 100000 in
theorem t_Se_lookAhead0 : ∀ q ∈ T_Se_lookAhead0, decode prog_4_method_8_code q.1 = .ok q.2 := by decide +kernel
theorem d_Se_lookAhead_0 : decode prog_4_method_8_code 0 = .ok (.aload_n 0, 1) := q_tb t_Se_lookAhead0 0 rfl
theorem d_Se_lookAhead_1 : decode prog_4_method_8_code 1 = .ok (.getfield 41, 3) := q_tb t_Se_lookAhead0 1 rfl
theorem d_Se_lookAhead_4 : decode prog_4_method_8_code 4 = .ok (.iload_n 1, 1) := q_tb t_Se_lookAhead0 2 rfl
theorem d_Se_lookAhead_5 : decode prog_4_method_8_code 5 = .ok (.aload_n 0, 1) := q_tb t_Se_lookAhead0 3 rfl
theorem d_Se_lookAhead_6 : decode prog_4_method_8_code 6 = .ok (.getfield 30, 3) := q_tb t_Se_lookAhead0 4 rfl
theorem d_Se_lookAhead_9 : decode prog_4_method_8_code 9 = .ok (.invokevirtual 100, 3) := q_tb t_Se_lookAhead0 5 rfl
theorem d_Se_lookAhead_12 : decode prog_4_method_8_code 12 = .ok (.iconst 1, 1) := q_tb t_Se_lookAhead0 6 rfl
theorem d_Se_lookAhead_13 : decode prog_4_method_8_code 13 = .ok (.istore_n 2, 1) := q_tb t_Se_lookAhead0 7 rfl
theorem d_Se_lookAhead_14 : decode prog_4_method_8_code 14 = .ok (.iconst 0, 1) := q_tb t_Se_lookAhead0 8 rfl
theorem d_Se_lookAhead_15 : decode prog_4_method_8_code 15 = .ok (.istore_n 3, 1) := q_tb t_Se_lookAhead0 9 rfl
theorem d_Se_lookAhead_16 : decode prog_4_method_8_code 16 = .ok (.iload_n 3, 1) := q_tb t_Se_lookAhead0 10 rfl
theorem d_Se_lookAhead_17 : decode prog_4_method_8_code 17 = .ok (.aload_n 0, 1) := q_tb t_Se_lookAhead0 11 rfl
theorem d_Se_lookAhead_18 : decode prog_4_method_8_code 18 = .ok (.getfield 41, 3) := q_tb t_Se_lookAhead0 12 rfl
theorem d_Se_lookAhead_21 : decode prog_4_method_8_code 21 = .ok (.getfield 107, 3) := q_tb t_Se_lookAhead0 13 rfl
theorem d_Se_lookAhead_24 : decode prog_4_method_8_code 24 = .ok (.if_icmp .ge 38, 3) := q_tb t_Se_lookAhead0 14 rfl
theorem d_Se_lookAhead_27 : decode prog_4_method_8_code 27 = .ok (.aload_n 0, 1) := q_tb t_Se_lookAhead0 15 rfl
theorem d_Se_lookAhead_28 : decode prog_4_method_8_code 28 = .ok (.getfield 41, 3) := q_tb t_Se_lookAhead0 16 rfl
theorem d_Se_lookAhead_31 : decode prog_4_method_8_code 31 = .ok (.aload_n 0, 1) := q_tb t_Se_lookAhead0 17 rfl
theorem d_Se_lookAhead_32 : decode prog_4_method_8_code 32 = .ok (.getfield 30, 3) := q_tb t_Se_lookAhead0 18 rfl
theorem d_Se_lookAhead_35 : decode prog_4_method_8_code 35 = .ok (.iload_n 3, 1) := q_tb t_Se_lookAhead0 19 rfl
theorem d_Se_lookAhead_36 : decode prog_4_method_8_code 36 = .ok (.invokevirtual 126, 3) := q_tb t_Se_lookAhead0 20 rfl
theorem d_Se_lookAhead_39 : decode prog_4_method_8_code 39 = .ok (.istore 4, 2) := q_tb t_Se_lookAhead0 21 rfl
theorem d_Se_lookAhead_41 : decode prog_4_method_8_code 41 = .ok (.iload 4, 2) := q_tb t_Se_lookAhead0 22 rfl
theorem d_Se_lookAhead_43 : decode prog_4_method_8_code 43 = .ok (.ifCond .eq 13, 3) := q_tb t_Se_lookAhead0 23 rfl
theorem d_Se_lookAhead_46 : decode prog_4_method_8_code 46 = .ok (.iconst 0, 1) := q_tb t_Se_lookAhead0 24 rfl
theorem d_Se_lookAhead_47 : decode prog_4_method_8_code 47 = .ok (.istore_n 2, 1) := q_tb t_Se_lookAhead0 25 rfl
theorem d_Se_lookAhead_48 : decode prog_4_method_8_code 48 = .ok (.aload_n 0, 1) := q_tb t_Se_lookAhead0 26 rfl
theorem d_Se_lookAhead_49 : decode prog_4_method_8_code 49 = .ok (.iload_n 1, 1) := q_tb t_Se_lookAhead0 27 rfl
theorem d_Se_lookAhead_50 : decode prog_4_method_8_code 50 = .ok (.iload_n 3, 1) := q_tb t_Se_lookAhead0 28 rfl
theorem d_Se_lookAhead_51 : decode prog_4_method_8_code 51 = .ok (.iload 4, 2) := q_tb t_Se_lookAhead0 29 rfl
theorem d_Se_lookAhead_53 : decode prog_4_method_8_code 53 = .ok (.invokevirtual 130, 3) := q_tb t_Se_lookAhead0 30 rfl
theorem d_Se_lookAhead_56 : decode prog_4_method_8_code 56 = .ok (.iinc 3 1, 3) := q_tb t_Se_lookAhead0 31 rfl
theorem d_Se_lookAhead_59 : decode prog_4_method_8_code 59 = .ok (.goto (-43), 3) := q_tb t_Se_lookAhead0 32 rfl
theorem d_Se_lookAhead_62 : decode prog_4_method_8_code 62 = .ok (.iload_n 2, 1) := q_tb t_Se_lookAhead0 33 rfl
theorem d_Se_lookAhead_63 : decode prog_4_method_8_code 63 = .ok (.ifCond .eq 49, 3) := q_tb t_Se_lookAhead0 34 rfl
theorem d_Se_lookAhead_66 : decode prog_4_method_8_code 66 = .ok (.aload_n 0, 1) := q_tb t_Se_lookAhead0 35 rfl
theorem d_Se_lookAhead_67 : decode prog_4_method_8_code 67 = .ok (.getfield 18, 3) := q_tb t_Se_lookAhead0 36 rfl
theorem d_Se_lookAhead_70 : decode prog_4_method_8_code 70 = .ok (.iload_n 1, 1) := q_tb t_Se_lookAhead0 37 rfl
theorem d_Se_lookAhead_71 : decode prog_4_method_8_code 71 = .ok (.invokevirtual 123, 3) := q_tb t_Se_lookAhead0 38 rfl
theorem d_Se_lookAhead_74 : decode prog_4_method_8_code 74 = .ok (.aload_n 0, 1) := q_tb t_Se_lookAhead0 39 rfl
def T_Se_lookAhead1 : List (Nat × Instr × Nat) := [(75, .dup, 1), (76, .getfield 58, 3), (79, .iconst 1, 1), (80, .iadd, 1), (81, .putfield 58, 3), (84, .aload_n 0, 1), (85, .dup, 1), (86, .getfield 62, 3), (89, .aload_n 0, 1), (90, .getfield 41, 3), (93, .aload_n 0, 1), (94, .getfield 30, 3), (97, .invokevirtual 134, 3), (100, .ifCond .eq 7, 3), (103, .iconst 1, 1), (104, .goto 4, 3), (107, .iconst 0, 1), (108, .iadd, 1), (109, .putfield 62, 3), (112, .return_, 1)]
set_option maxRecDepth 100000 in
theorem t_Se_lookAhead1 : ∀ q ∈ T_Se_lookAhead1, decode prog_4_method_8_code q.1 = .ok q.2 := by decide +kernel
theorem d_Se_lookAhead_75 : decode prog_4_method_8_code 75 = .ok (.dup, 1) := q_tb t_Se_lookAhead1 0 rfl
theorem d_Se_lookAhead_76 : decode prog_4_method_8_code 76 = .ok (.getfield 58, 3) := q_tb t_Se_lookAhead1 1 rfl
theorem d_Se_lookAhead_79 : decode prog_4_method_8_code 79 = .ok (.iconst 1, 1) := q_tb t_Se_lookAhead1 2 rfl
theorem d_Se_lookAhead_80 : decode prog_4_method_8_code 80 = .ok (.iadd, 1) := q_tb t_Se_lookAhead1 3 rfl
theorem d_Se_lookAhead_81 : decode prog_4_method_8_code 81 = .ok (.putfield 58, 3) := q_tb t_Se_lookAhead1 4 rfl
theorem d_Se_lookAhead_84 : decode prog_4_method_8_code 84 = .ok (.aload_n 0, 1) := q_tb t_Se_lookAhead1 5 rfl
theorem d_Se_lookAhead_85 : decode prog_4_method_8_code 85 = .ok (.dup, 1) := q_tb t_Se_lookAhead1 6 rfl
theorem d_Se_lookAhead_86 : decode prog_4_method_8_code 86 = .ok (.getfield 62, 3) := q_tb t_Se_lookAhead1 7 rfl
theorem d_Se_lookAhead_89 : decode prog_4_method_8_code 89 = .ok (.aload_n 0, 1) := q_tb t_Se_lookAhead1 8 rfl
theorem d_Se_lookAhead_90 : decode prog_4_method_8_code 90 = .ok (.getfield 41, 3) := q_tb t_Se_lookAhead1 9 rfl
theorem d_Se_lookAhead_93 : decode prog_4_method_8_code 93 = .ok (.aload_n 0, 1) := q_tb t_Se_lookAhead1 10 rfl
theorem d_Se_lookAhead_94 : decode prog_4_method_8_code 94 = .ok (.getfield 30, 3) := q_tb t_Se_lookAhead1 11 rfl
theorem d_Se_lookAhead_97 : decode prog_4_method_8_code 97 = .ok (.invokevirtual 134, 3) := q_tb t_Se_lookAhead1 12 rfl
theorem d_Se_lookAhead_100 : decode prog_4_method_8_code 100 = .ok (.ifCond .eq 7, 3) := q_tb t_Se_lookAhead1 13 rfl
theorem d_Se_lookAhead_103 : decode prog_4_method_8_code 103 = .ok (.iconst 1, 1) := q_tb t_Se_lookAhead1 14 rfl
theorem d_Se_lookAhead_104 : decode prog_4_method_8_code 104 = .ok (.goto 4, 3) := q_tb t_Se_lookAhead1 15 rfl
theorem d_Se_lookAhead_107 : decode prog_4_method_8_code 107 = .ok (.iconst 0, 1) := q_tb t_Se_lookAhead1 16 rfl
theorem d_Se_lookAhead_108 : decode prog_4_method_8_code 108 = .ok (.iadd, 1) := q_tb t_Se_lookAhead1 17 rfl
theorem d_Se_lookAhead_109 : decode prog_4_method_8_code 109 = .ok (.putfield 62, 3) := q_tb t_Se_lookAhead1 18 rfl
theorem d_Se_lookAhead_112 : decode prog_4_method_8_code 112 = .ok (.return_, 1) := q_tb t_Se_lookAhead1 19 rfl
def T_Wo_putNumbered0 : List (Nat × Instr × Nat) := [(0, .iload_n 1, 1), (1, .istore_n 3, 1), (2, .iconst 4, 1), (3, .istore 4, 2), (5, .iload 4, 2), (7, .ifCond .lt 38, 3), (10, .iconst 1, 1), (11, .aload_n 0, 1), (12, .getfield 9, 3), (15, .iload 4, 2), (17, .iaload, 1), (18, .invokestatic 72, 3), (21, .istore 5, 2), (23, .aload_n 2, 1), (24, .getfield 52, 3), (27, .iload 4, 2), (29, .iload_n 3, 1), (30, .iload 5, 2), (32, .irem, 1), (33, .iastore, 1), (34, .iload_n 3, 1), (35, .iload 5, 2), (37, .idiv, 1), (38, .istore_n 3, 1), (39, .iinc 4 (-1), 3), (42, .goto (-37), 3), (45, .aload_n 0, 1), (46, .getfield 35, 3), (49, .iconst 1, 1), (50, .isub, 1), (51, .istore 4, 2), (53, .iload 4, 2), (55, .ifCond .lt 41, 3), (58, .iconst 1, 1), (59, .aload_n 0, 1), (60, .getfield 20, 3), (63, .iload 4, 2), (65, .aaload, 1), (66, .getfield 38, 3), (69, .invokestatic 72, 3)]
set_option maxRecDepth 100000 in
theorem t_Wo_putNumbered0 : ∀ q ∈ T_Wo_putNumbered0, decode prog_9_method_12_code q.1 = .ok q.2 := by decide +kernel
theorem d_Wo_putNumbered_0 : decode prog_9_method_12_code 0 = .ok (.iload_n 1, 1) := q_tb t_Wo_putNumbered0 0 rfl
theorem d_Wo_putNumbered_1 : decode prog_9_method_12_code 1 = .ok (.istore_n 3, 1) := q_tb t_Wo_putNumbered0 1 rfl
theorem d_Wo_putNumbered_2 : decode prog_9_method_12_code 2 = .ok (.iconst 4, 1) := q_tb t_Wo_putNumbered0 2 rfl
theorem d_Wo_putNumbered_3 : decode prog_9_method_12_code 3 = .ok (.istore 4, 2) := q_tb t_Wo_putNumbered0 3 rfl
theorem d_Wo_putNumbered_5 : decode prog_9_method_12_code 5 = .ok (.iload 4, 2) := q_tb t_Wo_putNumbered0 4 rfl
theorem d_Wo_putNumbered_7 : decode prog_9_method_12_code 7 = .ok (.ifCond .lt 38, 3) := q_tb t_Wo_putNumbered0 5 rfl
theorem d_Wo_putNumbered_10 : decode prog_9_method_12_code 10 = .ok (.iconst 1, 1) := q_tb t_Wo_putNumbered0 6 rfl
theorem d_Wo_putNumbered_11 : decode prog_9_method_12_code 11 = .ok (.aload_n 0, 1) := q_tb t_Wo_putNumbered0 7 rfl
theorem d_Wo_putNumbered_12 : decode prog_9_method_12_code 12 = .ok (.getfield 9, 3) := q_tb t_Wo_putNumbered0 8 rfl
theorem d_Wo_putNumbered_15 : decode prog_9_method_12_code 15 = .ok (.iload 4, 2) := q_tb t_Wo_putNumbered0 9 rfl
theorem d_Wo_putNumbered_17 : decode prog_9_method_12_code 17 = .ok (.iaload, 1) := q_tb t_Wo_putNumbered0 10 rfl
theorem d_Wo_putNumbered_18 : decode prog_9_method_12_code 18 = .ok (.invokestatic 72, 3) := q_tb t_Wo_putNumbered0 11 rfl
theorem d_Wo_putNumbered_21 : decode prog_9_method_12_code 21 = .ok (.istore 5, 2) := q_tb t_Wo_putNumbered0 12 rfl
theorem d_Wo_putNumbered_23 : decode prog_9_method_12_code 23 = .ok (.aload_n 2, 1) := q_tb t_Wo_putNumbered0 13 rfl
theorem d_Wo_putNumbered_24 : decode prog_9_method_12_code 24 = .ok (.getfield 52, 3) := q_tb t_Wo_putNumbered0 14 rfl
theorem d_Wo_putNumbered_27 : decode prog_9_method_12_code 27 = .ok (.iload 4, 2) := q_tb t_Wo_putNumbered0 15 rfl
theorem d_Wo_putNumbered_29 : decode prog_9_method_12_code 29 = .ok (.iload_n 3, 1) := q_tb t_Wo_putNumbered0 16 rfl
theorem d_Wo_putNumbered_30 : decode prog_9_method_12_code 30 = .ok (.iload 5, 2) := q_tb t_Wo_putNumbered0 17 rfl
theorem d_Wo_putNumbered_32 : decode prog_9_method_12_code 32 = .ok (.irem, 1) := q_tb t_Wo_putNumbered0 18 rfl
theorem d_Wo_putNumbered_33 : decode prog_9_method_12_code 33 = .ok (.iastore, 1) := q_tb t_Wo_putNumbered0 19 rfl
theorem d_Wo_putNumbered_34 : decode prog_9_method_12_code 34 = .ok (.iload_n 3, 1) := q_tb t_Wo_putNumbered0 20 rfl
theorem d_Wo_putNumbered_35 : decode prog_9_method_12_code 35 = .ok (.iload 5, 2) := q_tb t_Wo_putNumbered0 21 rfl
theorem d_Wo_putNumbered_37 : decode prog_9_method_12_code 37 = .ok (.idiv, 1) := q_tb t_Wo_putNumbered0 22 rfl
theorem d_Wo_putNumbered_38 : decode prog_9_method_12_code 38 = .ok (.istore_n 3, 1) := q_tb t_Wo_putNumbered0 23 rfl
theorem d_Wo_putNumbered_39 : decode prog_9_method_12_code 39 = .ok (.iinc 4 (-1), 3) := q_tb t_Wo_putNumbered0 24 rfl
theorem d_Wo_putNumbered_42 : decode prog_9_method_12_code 42 = .ok (.goto (-37), 3) := q_tb t_Wo_putNumbered0 25 rfl
theorem d_Wo_putNumbered_45 : decode prog_9_method_12_code 45 = .ok (.aload_n 0, 1) := q_tb t_Wo_putNumbered0 26 rfl
theorem d_Wo_putNumbered_46 : decode prog_9_method_12_code 46 = .ok (.getfield 35, 3) := q_tb t_Wo_putNumbered0 27 rfl
theorem d_Wo_putNumbered_49 : decode prog_9_method_12_code 49 = .ok (.iconst 1, 1) := q_tb t_Wo_putNumbered0 28 rfl
theorem d_Wo_putNumbered_50 : decode prog_9_method_12_code 50 = .ok (.isub, 1) := q_tb t_Wo_putNumbered0 29 rfl
theorem d_Wo_putNumbered_51 : decode prog_9_method_12_code 51 = .ok (.istore 4, 2) := q_tb t_Wo_putNumbered0 30 rfl
theorem d_Wo_putNumbered_53 : decode prog_9_method_12_code 53 = .ok (.iload 4, 2) := q_tb t_Wo_putNumbered0 31 rfl
theorem d_Wo_putNumbered_55 : decode prog_9_method_12_code 55 = .ok (.ifCond .lt 41, 3) := q_tb t_Wo_putNumbered0 32 rfl
theorem d_Wo_putNumbered_58 : decode prog_9_method_12_code 58 = .ok (.iconst 1, 1) := q_tb t_Wo_putNumbered0 33 rfl
theorem d_Wo_putNumbered_59 : decode prog_9_method_12_code 59 = .ok (.aload_n 0, 1) := q_tb t_Wo_putNumbered0 34 rfl
theorem d_Wo_putNumbered_60 : decode prog_9_method_12_code 60 = .ok (.getfield 20, 3) := q_tb t_Wo_putNumbered0 35 rfl
theorem d_Wo_putNumbered_63 : decode prog_9_method_12_code 63 = .ok (.iload 4, 2) := q_tb t_Wo_putNumbered0 36 rfl
theorem d_Wo_putNumbered_65 : decode prog_9_method_12_code 65 = .ok (.aaload, 1) := q_tb t_Wo_putNumbered0 37 rfl
theorem d_Wo_putNumbered_66 : decode prog_9_method_12_code 66 = .ok (.getfield 38, 3) := q_tb t_Wo_putNumbered0 38 rfl
theorem d_Wo_putNumbered_69 : decode prog_9_method_12_code 69 = .ok (.invokestatic 72, 3) := q_tb t_Wo_putNumbered0 39 rfl
def T_Wo_putNumbered1 : List (Nat × Instr × Nat) := [(72, .istore 5, 2), (74, .aload_n 2, 1), (75, .getfield 47, 3), (78, .iload 4, 2), (80, .iload_n 3, 1), (81, .iload 5, 2), (83, .irem, 1), (84, .iastore, 1), (85, .iload_n 3, 1), (86, .iload 5, 2), (88, .idiv, 1), (89, .istore_n 3, 1), (90, .iinc 4 (-1), 3), (93, .goto (-40), 3), (96, .return_, 1)]
set_option maxRecDepth 100000 in
theorem t_Wo_putNumbered1 : ∀ q ∈ T_Wo_putNumbered1, decode prog_9_method_12_code q.1 = .ok q.2 := by decide +kernel
theorem d_Wo_putNumbered_72 : decode prog_9_method_12_code 72 = .ok (.istore 5, 2) := q_tb t_Wo_putNumbered1 0 rfl
theorem d_Wo_putNumbered_74 : decode prog_9_method_12_code 74 = .ok (.aload_n 2, 1) := q_tb t_Wo_putNumbered1 1 rfl
theorem d_Wo_putNumbered_75 : decode prog_9_method_12_code 75 = .ok (.getfield 47, 3) := q_tb t_Wo_putNumbered1 2 rfl
theorem d_Wo_putNumbered_78 : decode prog_9_method_12_code 78 = .ok (.iload 4, 2) := q_tb t_Wo_putNumbered1 3 rfl
theorem d_Wo_putNumbered_80 : decode prog_9_method_12_code 80 = .ok (.iload_n 3, 1) := q_tb t_Wo_putNumbered1 4 rfl
theorem d_Wo_putNumbered_81 : decode prog_9_method_12_code 81 = .ok (.iload 5, 2) := q_tb t_Wo_putNumbered1 5 rfl
theorem d_Wo_putNumbered_83 : decode prog_9_method_12_code 83 = .ok (.irem, 1) := q_tb t_Wo_putNumbered1 6 rfl
theorem d_Wo_putNumbered_84 : decode prog_9_method_12_code 84 = .ok (.iastore, 1) := q_tb t_Wo_putNumbered1 7 rfl
theorem d_Wo_putNumbered_85 : decode prog_9_method_12_code 85 = .ok (.iload_n 3, 1) := q_tb t_Wo_putNumbered1 8 rfl
theorem d_Wo_putNumbered_86 : decode prog_9_method_12_code 86 = .ok (.iload 5, 2) := q_tb t_Wo_putNumbered1 9 rfl
theorem d_Wo_putNumbered_88 : decode prog_9_method_12_code 88 = .ok (.idiv, 1) := q_tb t_Wo_putNumbered1 10 rfl
theorem d_Wo_putNumbered_89 : decode prog_9_method_12_code 89 = .ok (.istore_n 3, 1) := q_tb t_Wo_putNumbered1 11 rfl
theorem d_Wo_putNumbered_90 : decode prog_9_method_12_code 90 = .ok (.iinc 4 (-1), 3) := q_tb t_Wo_putNumbered1 12 rfl
theorem d_Wo_putNumbered_93 : decode prog_9_method_12_code 93 = .ok (.goto (-40), 3) := q_tb t_Wo_putNumbered1 13 rfl
theorem d_Wo_putNumbered_96 : decode prog_9_method_12_code 96 = .ok (.return_, 1) := q_tb t_Wo_putNumbered1 14 rfl
def T_Wo_openPlaces0 : List (Nat × Instr × Nat) := [(0, .aload_n 0, 1), (1, .getfield 20, 3), (4, .iload_n 2, 1), (5, .aaload, 1), (6, .astore_n 3, 1), (7, .aload_n 3, 1), (8, .getfield 55, 3), (11, .aload_n 1, 1), (12, .getfield 47, 3), (15, .iload_n 2, 1), (16, .iaload, 1), (17, .iaload, 1), (18, .istore 4, 2), (20, .iconst 0, 1), (21, .istore 5, 2), (23, .iconst 1, 1), (24, .istore 6, 2), (26, .iload 6, 2), (28, .aload_n 3, 1), (29, .getfield 38, 3), (32, .if_icmp .ge 40, 3), (35, .iload 4, 2), (37, .iload 6, 2), (39, .ishr, 1), (40, .iconst 1, 1), (41, .iand, 1), (42, .ifCond .eq 24, 3), (45, .aload_n 0, 1), (46, .aload_n 1, 1), (47, .aload_n 3, 1), (48, .iload 6, 2), (50, .invokevirtual 58, 3), (53, .iconst (-1), 1), (54, .if_icmp .eq 12, 3), (57, .iload 5, 2), (59, .iconst 1, 1), (60, .iload 6, 2), (62, .ishl, 1), (63, .ior, 1), (64, .istore 5, 2)]
set_option maxRecDepth 100000 in
theorem t_Wo_openPlaces0 : ∀ q ∈ T_Wo_openPlaces0, decode prog_9_method_7_code q.1 = .ok q.2 := by decide +kernel
theorem d_Wo_openPlaces_0 : decode prog_9_method_7_code 0 = .ok (.aload_n 0, 1) := q_tb t_Wo_openPlaces0 0 rfl
theorem d_Wo_openPlaces_1 : decode prog_9_method_7_code 1 = .ok (.getfield 20, 3) := q_tb t_Wo_openPlaces0 1 rfl
theorem d_Wo_openPlaces_4 : decode prog_9_method_7_code 4 = .ok (.iload_n 2, 1) := q_tb t_Wo_openPlaces0 2 rfl
theorem d_Wo_openPlaces_5 : decode prog_9_method_7_code 5 = .ok (.aaload, 1) := q_tb t_Wo_openPlaces0 3 rfl
theorem d_Wo_openPlaces_6 : decode prog_9_method_7_code 6 = .ok (.astore_n 3, 1) := q_tb t_Wo_openPlaces0 4 rfl
theorem d_Wo_openPlaces_7 : decode prog_9_method_7_code 7 = .ok (.aload_n 3, 1) := q_tb t_Wo_openPlaces0 5 rfl
theorem d_Wo_openPlaces_8 : decode prog_9_method_7_code 8 = .ok (.getfield 55, 3) := q_tb t_Wo_openPlaces0 6 rfl
theorem d_Wo_openPlaces_11 : decode prog_9_method_7_code 11 = .ok (.aload_n 1, 1) := q_tb t_Wo_openPlaces0 7 rfl
theorem d_Wo_openPlaces_12 : decode prog_9_method_7_code 12 = .ok (.getfield 47, 3) := q_tb t_Wo_openPlaces0 8 rfl
theorem d_Wo_openPlaces_15 : decode prog_9_method_7_code 15 = .ok (.iload_n 2, 1) := q_tb t_Wo_openPlaces0 9 rfl
theorem d_Wo_openPlaces_16 : decode prog_9_method_7_code 16 = .ok (.iaload, 1) := q_tb t_Wo_openPlaces0 10 rfl
theorem d_Wo_openPlaces_17 : decode prog_9_method_7_code 17 = .ok (.iaload, 1) := q_tb t_Wo_openPlaces0 11 rfl
theorem d_Wo_openPlaces_18 : decode prog_9_method_7_code 18 = .ok (.istore 4, 2) := q_tb t_Wo_openPlaces0 12 rfl
theorem d_Wo_openPlaces_20 : decode prog_9_method_7_code 20 = .ok (.iconst 0, 1) := q_tb t_Wo_openPlaces0 13 rfl
theorem d_Wo_openPlaces_21 : decode prog_9_method_7_code 21 = .ok (.istore 5, 2) := q_tb t_Wo_openPlaces0 14 rfl
theorem d_Wo_openPlaces_23 : decode prog_9_method_7_code 23 = .ok (.iconst 1, 1) := q_tb t_Wo_openPlaces0 15 rfl
theorem d_Wo_openPlaces_24 : decode prog_9_method_7_code 24 = .ok (.istore 6, 2) := q_tb t_Wo_openPlaces0 16 rfl
theorem d_Wo_openPlaces_26 : decode prog_9_method_7_code 26 = .ok (.iload 6, 2) := q_tb t_Wo_openPlaces0 17 rfl
theorem d_Wo_openPlaces_28 : decode prog_9_method_7_code 28 = .ok (.aload_n 3, 1) := q_tb t_Wo_openPlaces0 18 rfl
theorem d_Wo_openPlaces_29 : decode prog_9_method_7_code 29 = .ok (.getfield 38, 3) := q_tb t_Wo_openPlaces0 19 rfl
theorem d_Wo_openPlaces_32 : decode prog_9_method_7_code 32 = .ok (.if_icmp .ge 40, 3) := q_tb t_Wo_openPlaces0 20 rfl
theorem d_Wo_openPlaces_35 : decode prog_9_method_7_code 35 = .ok (.iload 4, 2) := q_tb t_Wo_openPlaces0 21 rfl
theorem d_Wo_openPlaces_37 : decode prog_9_method_7_code 37 = .ok (.iload 6, 2) := q_tb t_Wo_openPlaces0 22 rfl
theorem d_Wo_openPlaces_39 : decode prog_9_method_7_code 39 = .ok (.ishr, 1) := q_tb t_Wo_openPlaces0 23 rfl
theorem d_Wo_openPlaces_40 : decode prog_9_method_7_code 40 = .ok (.iconst 1, 1) := q_tb t_Wo_openPlaces0 24 rfl
theorem d_Wo_openPlaces_41 : decode prog_9_method_7_code 41 = .ok (.iand, 1) := q_tb t_Wo_openPlaces0 25 rfl
theorem d_Wo_openPlaces_42 : decode prog_9_method_7_code 42 = .ok (.ifCond .eq 24, 3) := q_tb t_Wo_openPlaces0 26 rfl
theorem d_Wo_openPlaces_45 : decode prog_9_method_7_code 45 = .ok (.aload_n 0, 1) := q_tb t_Wo_openPlaces0 27 rfl
theorem d_Wo_openPlaces_46 : decode prog_9_method_7_code 46 = .ok (.aload_n 1, 1) := q_tb t_Wo_openPlaces0 28 rfl
theorem d_Wo_openPlaces_47 : decode prog_9_method_7_code 47 = .ok (.aload_n 3, 1) := q_tb t_Wo_openPlaces0 29 rfl
theorem d_Wo_openPlaces_48 : decode prog_9_method_7_code 48 = .ok (.iload 6, 2) := q_tb t_Wo_openPlaces0 30 rfl
theorem d_Wo_openPlaces_50 : decode prog_9_method_7_code 50 = .ok (.invokevirtual 58, 3) := q_tb t_Wo_openPlaces0 31 rfl
theorem d_Wo_openPlaces_53 : decode prog_9_method_7_code 53 = .ok (.iconst (-1), 1) := q_tb t_Wo_openPlaces0 32 rfl
theorem d_Wo_openPlaces_54 : decode prog_9_method_7_code 54 = .ok (.if_icmp .eq 12, 3) := q_tb t_Wo_openPlaces0 33 rfl
theorem d_Wo_openPlaces_57 : decode prog_9_method_7_code 57 = .ok (.iload 5, 2) := q_tb t_Wo_openPlaces0 34 rfl
theorem d_Wo_openPlaces_59 : decode prog_9_method_7_code 59 = .ok (.iconst 1, 1) := q_tb t_Wo_openPlaces0 35 rfl
theorem d_Wo_openPlaces_60 : decode prog_9_method_7_code 60 = .ok (.iload 6, 2) := q_tb t_Wo_openPlaces0 36 rfl
theorem d_Wo_openPlaces_62 : decode prog_9_method_7_code 62 = .ok (.ishl, 1) := q_tb t_Wo_openPlaces0 37 rfl
theorem d_Wo_openPlaces_63 : decode prog_9_method_7_code 63 = .ok (.ior, 1) := q_tb t_Wo_openPlaces0 38 rfl
theorem d_Wo_openPlaces_64 : decode prog_9_method_7_code 64 = .ok (.istore 5, 2) := q_tb t_Wo_openPlaces0 39 rfl
def T_Wo_openPlaces1 : List (Nat × Instr × Nat) := [(66, .iinc 6 1, 3), (69, .goto (-43), 3), (72, .iload 5, 2), (74, .ireturn, 1)]
set_option maxRecDepth 100000 in
theorem t_Wo_openPlaces1 : ∀ q ∈ T_Wo_openPlaces1, decode prog_9_method_7_code q.1 = .ok q.2 := by decide +kernel
theorem d_Wo_openPlaces_66 : decode prog_9_method_7_code 66 = .ok (.iinc 6 1, 3) := q_tb t_Wo_openPlaces1 0 rfl
theorem d_Wo_openPlaces_69 : decode prog_9_method_7_code 69 = .ok (.goto (-43), 3) := q_tb t_Wo_openPlaces1 1 rfl
theorem d_Wo_openPlaces_72 : decode prog_9_method_7_code 72 = .ok (.iload 5, 2) := q_tb t_Wo_openPlaces1 2 rfl
theorem d_Wo_openPlaces_74 : decode prog_9_method_7_code 74 = .ok (.ireturn, 1) := q_tb t_Wo_openPlaces1 3 rfl
def T_Wo_outcome : List (Nat × Instr × Nat) := [(0, .aload_n 2, 1), (1, .getfield 62, 3), (4, .iload_n 3, 1), (5, .iaload, 1), (6, .istore 4, 2), (8, .aload_n 2, 1), (9, .iload_n 3, 1), (10, .aload_n 1, 1), (11, .getfield 52, 3), (14, .iload 4, 2), (16, .iaload, 1), (17, .aload_n 0, 1), (18, .getfield 9, 3), (21, .iload 4, 2), (23, .iaload, 1), (24, .invokevirtual 65, 3), (27, .ireturn, 1)]
set_option maxRecDepth 100000 in
theorem t_Wo_outcome : ∀ q ∈ T_Wo_outcome, decode prog_9_method_8_code q.1 = .ok q.2 := by decide +kernel
theorem d_Wo_outcome_0 : decode prog_9_method_8_code 0 = .ok (.aload_n 2, 1) := q_tb t_Wo_outcome 0 rfl
theorem d_Wo_outcome_1 : decode prog_9_method_8_code 1 = .ok (.getfield 62, 3) := q_tb t_Wo_outcome 1 rfl
theorem d_Wo_outcome_4 : decode prog_9_method_8_code 4 = .ok (.iload_n 3, 1) := q_tb t_Wo_outcome 2 rfl
theorem d_Wo_outcome_5 : decode prog_9_method_8_code 5 = .ok (.iaload, 1) := q_tb t_Wo_outcome 3 rfl
theorem d_Wo_outcome_6 : decode prog_9_method_8_code 6 = .ok (.istore 4, 2) := q_tb t_Wo_outcome 4 rfl
theorem d_Wo_outcome_8 : decode prog_9_method_8_code 8 = .ok (.aload_n 2, 1) := q_tb t_Wo_outcome 5 rfl
theorem d_Wo_outcome_9 : decode prog_9_method_8_code 9 = .ok (.iload_n 3, 1) := q_tb t_Wo_outcome 6 rfl
theorem d_Wo_outcome_10 : decode prog_9_method_8_code 10 = .ok (.aload_n 1, 1) := q_tb t_Wo_outcome 7 rfl
theorem d_Wo_outcome_11 : decode prog_9_method_8_code 11 = .ok (.getfield 52, 3) := q_tb t_Wo_outcome 8 rfl
theorem d_Wo_outcome_14 : decode prog_9_method_8_code 14 = .ok (.iload 4, 2) := q_tb t_Wo_outcome 9 rfl
theorem d_Wo_outcome_16 : decode prog_9_method_8_code 16 = .ok (.iaload, 1) := q_tb t_Wo_outcome 10 rfl
theorem d_Wo_outcome_17 : decode prog_9_method_8_code 17 = .ok (.aload_n 0, 1) := q_tb t_Wo_outcome 11 rfl
theorem d_Wo_outcome_18 : decode prog_9_method_8_code 18 = .ok (.getfield 9, 3) := q_tb t_Wo_outcome 12 rfl
theorem d_Wo_outcome_21 : decode prog_9_method_8_code 21 = .ok (.iload 4, 2) := q_tb t_Wo_outcome 13 rfl
theorem d_Wo_outcome_23 : decode prog_9_method_8_code 23 = .ok (.iaload, 1) := q_tb t_Wo_outcome 14 rfl
theorem d_Wo_outcome_24 : decode prog_9_method_8_code 24 = .ok (.invokevirtual 65, 3) := q_tb t_Wo_outcome 15 rfl
theorem d_Wo_outcome_27 : decode prog_9_method_8_code 27 = .ok (.ireturn, 1) := q_tb t_Wo_outcome 16 rfl
def T_Se_reachAll0 : List (Nat × Instr × Nat) := [(0, .aload_n 0, 1), (1, .getfield 41, 3), (4, .getfield 110, 3), (7, .iload_n 2, 1), (8, .aaload, 1), (9, .astore 4, 2), (11, .iconst 1, 1), (12, .istore 5, 2), (14, .iload 5, 2), (16, .aload 4, 2), (18, .getfield 114, 3), (21, .if_icmp .ge 92, 3), (24, .iload_n 3, 1), (25, .iload 5, 2), (27, .ishr, 1), (28, .iconst 1, 1), (29, .iand, 1), (30, .ifCond .eq 77, 3), (33, .aload 4, 2), (35, .getfield 138, 3), (38, .iload 5, 2), (40, .iaload, 1), (41, .istore 6, 2), (43, .aload_n 0, 1), (44, .getfield 41, 3), (47, .aload_n 0, 1), (48, .getfield 30, 3), (51, .aload 4, 2), (53, .iload 5, 2), (55, .invokevirtual 141, 3), (58, .aload_n 0, 1), (59, .getfield 30, 3), (62, .getfield 145, 3), (65, .iload 6, 2), (67, .iaload, 1), (68, .isub, 1), (69, .istore 7, 2), (71, .aload_n 0, 1), (72, .iload_n 1, 1), (73, .iload 7, 2)]
set_option maxRecDepth 100000 in
theorem t_Se_reachAll0 : ∀ q ∈ T_Se_reachAll0, decode prog_4_method_9_code q.1 = .ok q.2 := by decide +kernel
theorem d_Se_reachAll_0 : decode prog_4_method_9_code 0 = .ok (.aload_n 0, 1) := q_tb t_Se_reachAll0 0 rfl
theorem d_Se_reachAll_1 : decode prog_4_method_9_code 1 = .ok (.getfield 41, 3) := q_tb t_Se_reachAll0 1 rfl
theorem d_Se_reachAll_4 : decode prog_4_method_9_code 4 = .ok (.getfield 110, 3) := q_tb t_Se_reachAll0 2 rfl
theorem d_Se_reachAll_7 : decode prog_4_method_9_code 7 = .ok (.iload_n 2, 1) := q_tb t_Se_reachAll0 3 rfl
theorem d_Se_reachAll_8 : decode prog_4_method_9_code 8 = .ok (.aaload, 1) := q_tb t_Se_reachAll0 4 rfl
theorem d_Se_reachAll_9 : decode prog_4_method_9_code 9 = .ok (.astore 4, 2) := q_tb t_Se_reachAll0 5 rfl
theorem d_Se_reachAll_11 : decode prog_4_method_9_code 11 = .ok (.iconst 1, 1) := q_tb t_Se_reachAll0 6 rfl
theorem d_Se_reachAll_12 : decode prog_4_method_9_code 12 = .ok (.istore 5, 2) := q_tb t_Se_reachAll0 7 rfl
theorem d_Se_reachAll_14 : decode prog_4_method_9_code 14 = .ok (.iload 5, 2) := q_tb t_Se_reachAll0 8 rfl
theorem d_Se_reachAll_16 : decode prog_4_method_9_code 16 = .ok (.aload 4, 2) := q_tb t_Se_reachAll0 9 rfl
theorem d_Se_reachAll_18 : decode prog_4_method_9_code 18 = .ok (.getfield 114, 3) := q_tb t_Se_reachAll0 10 rfl
theorem d_Se_reachAll_21 : decode prog_4_method_9_code 21 = .ok (.if_icmp .ge 92, 3) := q_tb t_Se_reachAll0 11 rfl
theorem d_Se_reachAll_24 : decode prog_4_method_9_code 24 = .ok (.iload_n 3, 1) := q_tb t_Se_reachAll0 12 rfl
theorem d_Se_reachAll_25 : decode prog_4_method_9_code 25 = .ok (.iload 5, 2) := q_tb t_Se_reachAll0 13 rfl
theorem d_Se_reachAll_27 : decode prog_4_method_9_code 27 = .ok (.ishr, 1) := q_tb t_Se_reachAll0 14 rfl
theorem d_Se_reachAll_28 : decode prog_4_method_9_code 28 = .ok (.iconst 1, 1) := q_tb t_Se_reachAll0 15 rfl
theorem d_Se_reachAll_29 : decode prog_4_method_9_code 29 = .ok (.iand, 1) := q_tb t_Se_reachAll0 16 rfl
theorem d_Se_reachAll_30 : decode prog_4_method_9_code 30 = .ok (.ifCond .eq 77, 3) := q_tb t_Se_reachAll0 17 rfl
theorem d_Se_reachAll_33 : decode prog_4_method_9_code 33 = .ok (.aload 4, 2) := q_tb t_Se_reachAll0 18 rfl
theorem d_Se_reachAll_35 : decode prog_4_method_9_code 35 = .ok (.getfield 138, 3) := q_tb t_Se_reachAll0 19 rfl
theorem d_Se_reachAll_38 : decode prog_4_method_9_code 38 = .ok (.iload 5, 2) := q_tb t_Se_reachAll0 20 rfl
theorem d_Se_reachAll_40 : decode prog_4_method_9_code 40 = .ok (.iaload, 1) := q_tb t_Se_reachAll0 21 rfl
theorem d_Se_reachAll_41 : decode prog_4_method_9_code 41 = .ok (.istore 6, 2) := q_tb t_Se_reachAll0 22 rfl
theorem d_Se_reachAll_43 : decode prog_4_method_9_code 43 = .ok (.aload_n 0, 1) := q_tb t_Se_reachAll0 23 rfl
theorem d_Se_reachAll_44 : decode prog_4_method_9_code 44 = .ok (.getfield 41, 3) := q_tb t_Se_reachAll0 24 rfl
theorem d_Se_reachAll_47 : decode prog_4_method_9_code 47 = .ok (.aload_n 0, 1) := q_tb t_Se_reachAll0 25 rfl
theorem d_Se_reachAll_48 : decode prog_4_method_9_code 48 = .ok (.getfield 30, 3) := q_tb t_Se_reachAll0 26 rfl
theorem d_Se_reachAll_51 : decode prog_4_method_9_code 51 = .ok (.aload 4, 2) := q_tb t_Se_reachAll0 27 rfl
theorem d_Se_reachAll_53 : decode prog_4_method_9_code 53 = .ok (.iload 5, 2) := q_tb t_Se_reachAll0 28 rfl
theorem d_Se_reachAll_55 : decode prog_4_method_9_code 55 = .ok (.invokevirtual 141, 3) := q_tb t_Se_reachAll0 29 rfl
theorem d_Se_reachAll_58 : decode prog_4_method_9_code 58 = .ok (.aload_n 0, 1) := q_tb t_Se_reachAll0 30 rfl
theorem d_Se_reachAll_59 : decode prog_4_method_9_code 59 = .ok (.getfield 30, 3) := q_tb t_Se_reachAll0 31 rfl
theorem d_Se_reachAll_62 : decode prog_4_method_9_code 62 = .ok (.getfield 145, 3) := q_tb t_Se_reachAll0 32 rfl
theorem d_Se_reachAll_65 : decode prog_4_method_9_code 65 = .ok (.iload 6, 2) := q_tb t_Se_reachAll0 33 rfl
theorem d_Se_reachAll_67 : decode prog_4_method_9_code 67 = .ok (.iaload, 1) := q_tb t_Se_reachAll0 34 rfl
theorem d_Se_reachAll_68 : decode prog_4_method_9_code 68 = .ok (.isub, 1) := q_tb t_Se_reachAll0 35 rfl
theorem d_Se_reachAll_69 : decode prog_4_method_9_code 69 = .ok (.istore 7, 2) := q_tb t_Se_reachAll0 36 rfl
theorem d_Se_reachAll_71 : decode prog_4_method_9_code 71 = .ok (.aload_n 0, 1) := q_tb t_Se_reachAll0 37 rfl
theorem d_Se_reachAll_72 : decode prog_4_method_9_code 72 = .ok (.iload_n 1, 1) := q_tb t_Se_reachAll0 38 rfl
theorem d_Se_reachAll_73 : decode prog_4_method_9_code 73 = .ok (.iload 7, 2) := q_tb t_Se_reachAll0 39 rfl
def T_Se_reachAll1 : List (Nat × Instr × Nat) := [(75, .aload_n 0, 1), (76, .getfield 38, 3), (79, .iload 6, 2), (81, .iaload, 1), (82, .imul, 1), (83, .iadd, 1), (84, .iload 5, 2), (86, .aload_n 0, 1), (87, .getfield 30, 3), (90, .getfield 148, 3), (93, .iload_n 2, 1), (94, .iaload, 1), (95, .isub, 1), (96, .aload_n 0, 1), (97, .getfield 34, 3), (100, .iload_n 2, 1), (101, .iaload, 1), (102, .imul, 1), (103, .iadd, 1), (104, .invokevirtual 75, 3), (107, .iinc 5 1, 3), (110, .goto (-96), 3), (113, .return_, 1)]
set_option maxRecDepth 100000 in
theorem t_Se_reachAll1 : ∀ q ∈ T_Se_reachAll1, decode prog_4_method_9_code q.1 = .ok q.2 := by decide +kernel
theorem d_Se_reachAll_75 : decode prog_4_method_9_code 75 = .ok (.aload_n 0, 1) := q_tb t_Se_reachAll1 0 rfl
theorem d_Se_reachAll_76 : decode prog_4_method_9_code 76 = .ok (.getfield 38, 3) := q_tb t_Se_reachAll1 1 rfl
theorem d_Se_reachAll_79 : decode prog_4_method_9_code 79 = .ok (.iload 6, 2) := q_tb t_Se_reachAll1 2 rfl
theorem d_Se_reachAll_81 : decode prog_4_method_9_code 81 = .ok (.iaload, 1) := q_tb t_Se_reachAll1 3 rfl
theorem d_Se_reachAll_82 : decode prog_4_method_9_code 82 = .ok (.imul, 1) := q_tb t_Se_reachAll1 4 rfl
theorem d_Se_reachAll_83 : decode prog_4_method_9_code 83 = .ok (.iadd, 1) := q_tb t_Se_reachAll1 5 rfl
theorem d_Se_reachAll_84 : decode prog_4_method_9_code 84 = .ok (.iload 5, 2) := q_tb t_Se_reachAll1 6 rfl
theorem d_Se_reachAll_86 : decode prog_4_method_9_code 86 = .ok (.aload_n 0, 1) := q_tb t_Se_reachAll1 7 rfl
theorem d_Se_reachAll_87 : decode prog_4_method_9_code 87 = .ok (.getfield 30, 3) := q_tb t_Se_reachAll1 8 rfl
theorem d_Se_reachAll_90 : decode prog_4_method_9_code 90 = .ok (.getfield 148, 3) := q_tb t_Se_reachAll1 9 rfl
theorem d_Se_reachAll_93 : decode prog_4_method_9_code 93 = .ok (.iload_n 2, 1) := q_tb t_Se_reachAll1 10 rfl
theorem d_Se_reachAll_94 : decode prog_4_method_9_code 94 = .ok (.iaload, 1) := q_tb t_Se_reachAll1 11 rfl
theorem d_Se_reachAll_95 : decode prog_4_method_9_code 95 = .ok (.isub, 1) := q_tb t_Se_reachAll1 12 rfl
theorem d_Se_reachAll_96 : decode prog_4_method_9_code 96 = .ok (.aload_n 0, 1) := q_tb t_Se_reachAll1 13 rfl
theorem d_Se_reachAll_97 : decode prog_4_method_9_code 97 = .ok (.getfield 34, 3) := q_tb t_Se_reachAll1 14 rfl
theorem d_Se_reachAll_100 : decode prog_4_method_9_code 100 = .ok (.iload_n 2, 1) := q_tb t_Se_reachAll1 15 rfl
theorem d_Se_reachAll_101 : decode prog_4_method_9_code 101 = .ok (.iaload, 1) := q_tb t_Se_reachAll1 16 rfl
theorem d_Se_reachAll_102 : decode prog_4_method_9_code 102 = .ok (.imul, 1) := q_tb t_Se_reachAll1 17 rfl
theorem d_Se_reachAll_103 : decode prog_4_method_9_code 103 = .ok (.iadd, 1) := q_tb t_Se_reachAll1 18 rfl
theorem d_Se_reachAll_104 : decode prog_4_method_9_code 104 = .ok (.invokevirtual 75, 3) := q_tb t_Se_reachAll1 19 rfl
theorem d_Se_reachAll_107 : decode prog_4_method_9_code 107 = .ok (.iinc 5 1, 3) := q_tb t_Se_reachAll1 20 rfl
theorem d_Se_reachAll_110 : decode prog_4_method_9_code 110 = .ok (.goto (-96), 3) := q_tb t_Se_reachAll1 21 rfl
theorem d_Se_reachAll_113 : decode prog_4_method_9_code 113 = .ok (.return_, 1) := q_tb t_Se_reachAll1 22 rfl
def T_Wo_allAtEnds : List (Nat × Instr × Nat) := [(0, .iconst 0, 1), (1, .istore_n 2, 1), (2, .iload_n 2, 1), (3, .aload_n 0, 1), (4, .getfield 35, 3), (7, .if_icmp .ge 29, 3), (10, .aload_n 0, 1), (11, .getfield 20, 3), (14, .iload_n 2, 1), (15, .aaload, 1), (16, .aload_n 1, 1), (17, .getfield 47, 3), (20, .iload_n 2, 1), (21, .iaload, 1), (22, .invokevirtual 68, 3), (25, .ifCond .ne 5, 3), (28, .iconst 0, 1), (29, .ireturn, 1), (30, .iinc 2 1, 3), (33, .goto (-31), 3), (36, .iconst 1, 1), (37, .ireturn, 1)]
set_option maxRecDepth 100000 in
theorem t_Wo_allAtEnds : ∀ q ∈ T_Wo_allAtEnds, decode prog_9_method_10_code q.1 = .ok q.2 := by decide +kernel
theorem d_Wo_allAtEnds_0 : decode prog_9_method_10_code 0 = .ok (.iconst 0, 1) := q_tb t_Wo_allAtEnds 0 rfl
theorem d_Wo_allAtEnds_1 : decode prog_9_method_10_code 1 = .ok (.istore_n 2, 1) := q_tb t_Wo_allAtEnds 1 rfl
theorem d_Wo_allAtEnds_2 : decode prog_9_method_10_code 2 = .ok (.iload_n 2, 1) := q_tb t_Wo_allAtEnds 2 rfl
theorem d_Wo_allAtEnds_3 : decode prog_9_method_10_code 3 = .ok (.aload_n 0, 1) := q_tb t_Wo_allAtEnds 3 rfl
theorem d_Wo_allAtEnds_4 : decode prog_9_method_10_code 4 = .ok (.getfield 35, 3) := q_tb t_Wo_allAtEnds 4 rfl
theorem d_Wo_allAtEnds_7 : decode prog_9_method_10_code 7 = .ok (.if_icmp .ge 29, 3) := q_tb t_Wo_allAtEnds 5 rfl
theorem d_Wo_allAtEnds_10 : decode prog_9_method_10_code 10 = .ok (.aload_n 0, 1) := q_tb t_Wo_allAtEnds 6 rfl
theorem d_Wo_allAtEnds_11 : decode prog_9_method_10_code 11 = .ok (.getfield 20, 3) := q_tb t_Wo_allAtEnds 7 rfl
theorem d_Wo_allAtEnds_14 : decode prog_9_method_10_code 14 = .ok (.iload_n 2, 1) := q_tb t_Wo_allAtEnds 8 rfl
theorem d_Wo_allAtEnds_15 : decode prog_9_method_10_code 15 = .ok (.aaload, 1) := q_tb t_Wo_allAtEnds 9 rfl
theorem d_Wo_allAtEnds_16 : decode prog_9_method_10_code 16 = .ok (.aload_n 1, 1) := q_tb t_Wo_allAtEnds 10 rfl
theorem d_Wo_allAtEnds_17 : decode prog_9_method_10_code 17 = .ok (.getfield 47, 3) := q_tb t_Wo_allAtEnds 11 rfl
theorem d_Wo_allAtEnds_20 : decode prog_9_method_10_code 20 = .ok (.iload_n 2, 1) := q_tb t_Wo_allAtEnds 12 rfl
theorem d_Wo_allAtEnds_21 : decode prog_9_method_10_code 21 = .ok (.iaload, 1) := q_tb t_Wo_allAtEnds 13 rfl
theorem d_Wo_allAtEnds_22 : decode prog_9_method_10_code 22 = .ok (.invokevirtual 68, 3) := q_tb t_Wo_allAtEnds 14 rfl
theorem d_Wo_allAtEnds_25 : decode prog_9_method_10_code 25 = .ok (.ifCond .ne 5, 3) := q_tb t_Wo_allAtEnds 15 rfl
theorem d_Wo_allAtEnds_28 : decode prog_9_method_10_code 28 = .ok (.iconst 0, 1) := q_tb t_Wo_allAtEnds 16 rfl
theorem d_Wo_allAtEnds_29 : decode prog_9_method_10_code 29 = .ok (.ireturn, 1) := q_tb t_Wo_allAtEnds 17 rfl
theorem d_Wo_allAtEnds_30 : decode prog_9_method_10_code 30 = .ok (.iinc 2 1, 3) := q_tb t_Wo_allAtEnds 18 rfl
theorem d_Wo_allAtEnds_33 : decode prog_9_method_10_code 33 = .ok (.goto (-31), 3) := q_tb t_Wo_allAtEnds 19 rfl
theorem d_Wo_allAtEnds_36 : decode prog_9_method_10_code 36 = .ok (.iconst 1, 1) := q_tb t_Wo_allAtEnds 20 rfl
theorem d_Wo_allAtEnds_37 : decode prog_9_method_10_code 37 = .ok (.ireturn, 1) := q_tb t_Wo_allAtEnds 21 rfl
def T_Wo_addVariable : List (Nat × Instr × Nat) := [(0, .aload_n 0, 1), (1, .getfield 9, 3), (4, .aload_n 0, 1), (5, .getfield 31, 3), (8, .iload_n 1, 1), (9, .iastore, 1), (10, .aload_n 0, 1), (11, .getfield 15, 3), (14, .aload_n 0, 1), (15, .getfield 31, 3), (18, .iload_n 2, 1), (19, .iastore, 1), (20, .aload_n 0, 1), (21, .dup, 1), (22, .getfield 31, 3), (25, .iconst 1, 1), (26, .iadd, 1), (27, .putfield 31, 3), (30, .return_, 1)]
set_option maxRecDepth 100000 in
theorem t_Wo_addVariable : ∀ q ∈ T_Wo_addVariable, decode prog_9_method_2_code q.1 = .ok q.2 := by decide +kernel
theorem d_Wo_addVariable_0 : decode prog_9_method_2_code 0 = .ok (.aload_n 0, 1) := q_tb t_Wo_addVariable 0 rfl
theorem d_Wo_addVariable_1 : decode prog_9_method_2_code 1 = .ok (.getfield 9, 3) := q_tb t_Wo_addVariable 1 rfl
theorem d_Wo_addVariable_4 : decode prog_9_method_2_code 4 = .ok (.aload_n 0, 1) := q_tb t_Wo_addVariable 2 rfl
theorem d_Wo_addVariable_5 : decode prog_9_method_2_code 5 = .ok (.getfield 31, 3) := q_tb t_Wo_addVariable 3 rfl
theorem d_Wo_addVariable_8 : decode prog_9_method_2_code 8 = .ok (.iload_n 1, 1) := q_tb t_Wo_addVariable 4 rfl
theorem d_Wo_addVariable_9 : decode prog_9_method_2_code 9 = .ok (.iastore, 1) := q_tb t_Wo_addVariable 5 rfl
theorem d_Wo_addVariable_10 : decode prog_9_method_2_code 10 = .ok (.aload_n 0, 1) := q_tb t_Wo_addVariable 6 rfl
theorem d_Wo_addVariable_11 : decode prog_9_method_2_code 11 = .ok (.getfield 15, 3) := q_tb t_Wo_addVariable 7 rfl
theorem d_Wo_addVariable_14 : decode prog_9_method_2_code 14 = .ok (.aload_n 0, 1) := q_tb t_Wo_addVariable 8 rfl
theorem d_Wo_addVariable_15 : decode prog_9_method_2_code 15 = .ok (.getfield 31, 3) := q_tb t_Wo_addVariable 9 rfl
theorem d_Wo_addVariable_18 : decode prog_9_method_2_code 18 = .ok (.iload_n 2, 1) := q_tb t_Wo_addVariable 10 rfl
theorem d_Wo_addVariable_19 : decode prog_9_method_2_code 19 = .ok (.iastore, 1) := q_tb t_Wo_addVariable 11 rfl
theorem d_Wo_addVariable_20 : decode prog_9_method_2_code 20 = .ok (.aload_n 0, 1) := q_tb t_Wo_addVariable 12 rfl
theorem d_Wo_addVariable_21 : decode prog_9_method_2_code 21 = .ok (.dup, 1) := q_tb t_Wo_addVariable 13 rfl
theorem d_Wo_addVariable_22 : decode prog_9_method_2_code 22 = .ok (.getfield 31, 3) := q_tb t_Wo_addVariable 14 rfl
theorem d_Wo_addVariable_25 : decode prog_9_method_2_code 25 = .ok (.iconst 1, 1) := q_tb t_Wo_addVariable 15 rfl
theorem d_Wo_addVariable_26 : decode prog_9_method_2_code 26 = .ok (.iadd, 1) := q_tb t_Wo_addVariable 16 rfl
theorem d_Wo_addVariable_27 : decode prog_9_method_2_code 27 = .ok (.putfield 31, 3) := q_tb t_Wo_addVariable 17 rfl
theorem d_Wo_addVariable_30 : decode prog_9_method_2_code 30 = .ok (.return_, 1) := q_tb t_Wo_addVariable 18 rfl
def T_Se_standingState : List (Nat × Instr × Nat) := [(0, .aload_n 0, 1), (1, .getfield 41, 3), (4, .aload_n 0, 1), (5, .getfield 18, 3), (8, .iload_n 1, 1), (9, .invokevirtual 96, 3), (12, .aload_n 0, 1), (13, .getfield 30, 3), (16, .invokevirtual 100, 3), (19, .aload_n 0, 1), (20, .getfield 30, 3), (23, .areturn, 1)]
set_option maxRecDepth 100000 in
theorem t_Se_standingState : ∀ q ∈ T_Se_standingState, decode prog_4_method_5_code q.1 = .ok q.2 := by decide +kernel
theorem d_Se_standingState_0 : decode prog_4_method_5_code 0 = .ok (.aload_n 0, 1) := q_tb t_Se_standingState 0 rfl
theorem d_Se_standingState_1 : decode prog_4_method_5_code 1 = .ok (.getfield 41, 3) := q_tb t_Se_standingState 1 rfl
theorem d_Se_standingState_4 : decode prog_4_method_5_code 4 = .ok (.aload_n 0, 1) := q_tb t_Se_standingState 2 rfl
theorem d_Se_standingState_5 : decode prog_4_method_5_code 5 = .ok (.getfield 18, 3) := q_tb t_Se_standingState 3 rfl
theorem d_Se_standingState_8 : decode prog_4_method_5_code 8 = .ok (.iload_n 1, 1) := q_tb t_Se_standingState 4 rfl
theorem d_Se_standingState_9 : decode prog_4_method_5_code 9 = .ok (.invokevirtual 96, 3) := q_tb t_Se_standingState 5 rfl
theorem d_Se_standingState_12 : decode prog_4_method_5_code 12 = .ok (.aload_n 0, 1) := q_tb t_Se_standingState 6 rfl
theorem d_Se_standingState_13 : decode prog_4_method_5_code 13 = .ok (.getfield 30, 3) := q_tb t_Se_standingState 7 rfl
theorem d_Se_standingState_16 : decode prog_4_method_5_code 16 = .ok (.invokevirtual 100, 3) := q_tb t_Se_standingState 8 rfl
theorem d_Se_standingState_19 : decode prog_4_method_5_code 19 = .ok (.aload_n 0, 1) := q_tb t_Se_standingState 9 rfl
theorem d_Se_standingState_20 : decode prog_4_method_5_code 20 = .ok (.getfield 30, 3) := q_tb t_Se_standingState 10 rfl
theorem d_Se_standingState_23 : decode prog_4_method_5_code 23 = .ok (.areturn, 1) := q_tb t_Se_standingState 11 rfl
def T_Ss_nth : List (Nat × Instr × Nat) := [(0, .iload_n 1, 1), (1, .istore_n 2, 1), (2, .iconst 0, 1), (3, .istore_n 3, 1), (4, .iload_n 3, 1), (5, .sipush 469, 3), (8, .if_icmp .ge 47, 3), (11, .aload_n 0, 1), (12, .getfield 11, 3), (15, .iload_n 3, 1), (16, .laload, 1), (17, .invokestatic 35, 3), (20, .istore 4, 2), (22, .iload_n 2, 1), (23, .iload 4, 2), (25, .if_icmp .ge 19, 3), (28, .iload_n 3, 1), (29, .bipush 64, 2), (31, .imul, 1), (32, .aload_n 0, 1), (33, .getfield 11, 3), (36, .iload_n 3, 1), (37, .laload, 1), (38, .iload_n 2, 1), (39, .invokestatic 31, 3), (42, .iadd, 1), (43, .ireturn, 1), (44, .iload_n 2, 1), (45, .iload 4, 2), (47, .isub, 1), (48, .istore_n 2, 1), (49, .iinc 3 1, 3), (52, .goto (-48), 3), (55, .iconst (-1), 1), (56, .ireturn, 1)]
set_option maxRecDepth 100000 in
theorem t_Ss_nth : ∀ q ∈ T_Ss_nth, decode prog_6_method_7_code q.1 = .ok q.2 := by decide +kernel
theorem d_Ss_nth_0 : decode prog_6_method_7_code 0 = .ok (.iload_n 1, 1) := q_tb t_Ss_nth 0 rfl
theorem d_Ss_nth_1 : decode prog_6_method_7_code 1 = .ok (.istore_n 2, 1) := q_tb t_Ss_nth 1 rfl
theorem d_Ss_nth_2 : decode prog_6_method_7_code 2 = .ok (.iconst 0, 1) := q_tb t_Ss_nth 2 rfl
theorem d_Ss_nth_3 : decode prog_6_method_7_code 3 = .ok (.istore_n 3, 1) := q_tb t_Ss_nth 3 rfl
theorem d_Ss_nth_4 : decode prog_6_method_7_code 4 = .ok (.iload_n 3, 1) := q_tb t_Ss_nth 4 rfl
theorem d_Ss_nth_5 : decode prog_6_method_7_code 5 = .ok (.sipush 469, 3) := q_tb t_Ss_nth 5 rfl
theorem d_Ss_nth_8 : decode prog_6_method_7_code 8 = .ok (.if_icmp .ge 47, 3) := q_tb t_Ss_nth 6 rfl
theorem d_Ss_nth_11 : decode prog_6_method_7_code 11 = .ok (.aload_n 0, 1) := q_tb t_Ss_nth 7 rfl
theorem d_Ss_nth_12 : decode prog_6_method_7_code 12 = .ok (.getfield 11, 3) := q_tb t_Ss_nth 8 rfl
theorem d_Ss_nth_15 : decode prog_6_method_7_code 15 = .ok (.iload_n 3, 1) := q_tb t_Ss_nth 9 rfl
theorem d_Ss_nth_16 : decode prog_6_method_7_code 16 = .ok (.laload, 1) := q_tb t_Ss_nth 10 rfl
theorem d_Ss_nth_17 : decode prog_6_method_7_code 17 = .ok (.invokestatic 35, 3) := q_tb t_Ss_nth 11 rfl
theorem d_Ss_nth_20 : decode prog_6_method_7_code 20 = .ok (.istore 4, 2) := q_tb t_Ss_nth 12 rfl
theorem d_Ss_nth_22 : decode prog_6_method_7_code 22 = .ok (.iload_n 2, 1) := q_tb t_Ss_nth 13 rfl
theorem d_Ss_nth_23 : decode prog_6_method_7_code 23 = .ok (.iload 4, 2) := q_tb t_Ss_nth 14 rfl
theorem d_Ss_nth_25 : decode prog_6_method_7_code 25 = .ok (.if_icmp .ge 19, 3) := q_tb t_Ss_nth 15 rfl
theorem d_Ss_nth_28 : decode prog_6_method_7_code 28 = .ok (.iload_n 3, 1) := q_tb t_Ss_nth 16 rfl
theorem d_Ss_nth_29 : decode prog_6_method_7_code 29 = .ok (.bipush 64, 2) := q_tb t_Ss_nth 17 rfl
theorem d_Ss_nth_31 : decode prog_6_method_7_code 31 = .ok (.imul, 1) := q_tb t_Ss_nth 18 rfl
theorem d_Ss_nth_32 : decode prog_6_method_7_code 32 = .ok (.aload_n 0, 1) := q_tb t_Ss_nth 19 rfl
theorem d_Ss_nth_33 : decode prog_6_method_7_code 33 = .ok (.getfield 11, 3) := q_tb t_Ss_nth 20 rfl
theorem d_Ss_nth_36 : decode prog_6_method_7_code 36 = .ok (.iload_n 3, 1) := q_tb t_Ss_nth 21 rfl
theorem d_Ss_nth_37 : decode prog_6_method_7_code 37 = .ok (.laload, 1) := q_tb t_Ss_nth 22 rfl
theorem d_Ss_nth_38 : decode prog_6_method_7_code 38 = .ok (.iload_n 2, 1) := q_tb t_Ss_nth 23 rfl
theorem d_Ss_nth_39 : decode prog_6_method_7_code 39 = .ok (.invokestatic 31, 3) := q_tb t_Ss_nth 24 rfl
theorem d_Ss_nth_42 : decode prog_6_method_7_code 42 = .ok (.iadd, 1) := q_tb t_Ss_nth 25 rfl
theorem d_Ss_nth_43 : decode prog_6_method_7_code 43 = .ok (.ireturn, 1) := q_tb t_Ss_nth 26 rfl
theorem d_Ss_nth_44 : decode prog_6_method_7_code 44 = .ok (.iload_n 2, 1) := q_tb t_Ss_nth 27 rfl
theorem d_Ss_nth_45 : decode prog_6_method_7_code 45 = .ok (.iload 4, 2) := q_tb t_Ss_nth 28 rfl
theorem d_Ss_nth_47 : decode prog_6_method_7_code 47 = .ok (.isub, 1) := q_tb t_Ss_nth 29 rfl
theorem d_Ss_nth_48 : decode prog_6_method_7_code 48 = .ok (.istore_n 2, 1) := q_tb t_Ss_nth 30 rfl
theorem d_Ss_nth_49 : decode prog_6_method_7_code 49 = .ok (.iinc 3 1, 3) := q_tb t_Ss_nth 31 rfl
theorem d_Ss_nth_52 : decode prog_6_method_7_code 52 = .ok (.goto (-48), 3) := q_tb t_Ss_nth 32 rfl
theorem d_Ss_nth_55 : decode prog_6_method_7_code 55 = .ok (.iconst (-1), 1) := q_tb t_Ss_nth 33 rfl
theorem d_Ss_nth_56 : decode prog_6_method_7_code 56 = .ok (.ireturn, 1) := q_tb t_Ss_nth 34 rfl
def T_Wo_go : List (Nat × Instr × Nat) := [(0, .aload_n 0, 1), (1, .getfield 20, 3), (4, .iload_n 2, 1), (5, .aaload, 1), (6, .astore 4, 2), (8, .aload_n 1, 1), (9, .getfield 52, 3), (12, .aload 4, 2), (14, .getfield 62, 3), (17, .iload_n 3, 1), (18, .iaload, 1), (19, .aload_n 0, 1), (20, .aload_n 1, 1), (21, .aload 4, 2), (23, .iload_n 3, 1), (24, .invokevirtual 58, 3), (27, .iastore, 1), (28, .aload_n 1, 1), (29, .getfield 47, 3), (32, .iload_n 2, 1), (33, .iload_n 3, 1), (34, .iastore, 1), (35, .return_, 1)]
set_option maxRecDepth 100000 in
theorem t_Wo_go : ∀ q ∈ T_Wo_go, decode prog_9_method_9_code q.1 = .ok q.2 := by decide +kernel
theorem d_Wo_go_0 : decode prog_9_method_9_code 0 = .ok (.aload_n 0, 1) := q_tb t_Wo_go 0 rfl
theorem d_Wo_go_1 : decode prog_9_method_9_code 1 = .ok (.getfield 20, 3) := q_tb t_Wo_go 1 rfl
theorem d_Wo_go_4 : decode prog_9_method_9_code 4 = .ok (.iload_n 2, 1) := q_tb t_Wo_go 2 rfl
theorem d_Wo_go_5 : decode prog_9_method_9_code 5 = .ok (.aaload, 1) := q_tb t_Wo_go 3 rfl
theorem d_Wo_go_6 : decode prog_9_method_9_code 6 = .ok (.astore 4, 2) := q_tb t_Wo_go 4 rfl
theorem d_Wo_go_8 : decode prog_9_method_9_code 8 = .ok (.aload_n 1, 1) := q_tb t_Wo_go 5 rfl
theorem d_Wo_go_9 : decode prog_9_method_9_code 9 = .ok (.getfield 52, 3) := q_tb t_Wo_go 6 rfl
theorem d_Wo_go_12 : decode prog_9_method_9_code 12 = .ok (.aload 4, 2) := q_tb t_Wo_go 7 rfl
theorem d_Wo_go_14 : decode prog_9_method_9_code 14 = .ok (.getfield 62, 3) := q_tb t_Wo_go 8 rfl
theorem d_Wo_go_17 : decode prog_9_method_9_code 17 = .ok (.iload_n 3, 1) := q_tb t_Wo_go 9 rfl
theorem d_Wo_go_18 : decode prog_9_method_9_code 18 = .ok (.iaload, 1) := q_tb t_Wo_go 10 rfl
theorem d_Wo_go_19 : decode prog_9_method_9_code 19 = .ok (.aload_n 0, 1) := q_tb t_Wo_go 11 rfl
theorem d_Wo_go_20 : decode prog_9_method_9_code 20 = .ok (.aload_n 1, 1) := q_tb t_Wo_go 12 rfl
theorem d_Wo_go_21 : decode prog_9_method_9_code 21 = .ok (.aload 4, 2) := q_tb t_Wo_go 13 rfl
theorem d_Wo_go_23 : decode prog_9_method_9_code 23 = .ok (.iload_n 3, 1) := q_tb t_Wo_go 14 rfl
theorem d_Wo_go_24 : decode prog_9_method_9_code 24 = .ok (.invokevirtual 58, 3) := q_tb t_Wo_go 15 rfl
theorem d_Wo_go_27 : decode prog_9_method_9_code 27 = .ok (.iastore, 1) := q_tb t_Wo_go 16 rfl
theorem d_Wo_go_28 : decode prog_9_method_9_code 28 = .ok (.aload_n 1, 1) := q_tb t_Wo_go 17 rfl
theorem d_Wo_go_29 : decode prog_9_method_9_code 29 = .ok (.getfield 47, 3) := q_tb t_Wo_go 18 rfl
theorem d_Wo_go_32 : decode prog_9_method_9_code 32 = .ok (.iload_n 2, 1) := q_tb t_Wo_go 19 rfl
theorem d_Wo_go_33 : decode prog_9_method_9_code 33 = .ok (.iload_n 3, 1) := q_tb t_Wo_go 20 rfl
theorem d_Wo_go_34 : decode prog_9_method_9_code 34 = .ok (.iastore, 1) := q_tb t_Wo_go 21 rfl
theorem d_Wo_go_35 : decode prog_9_method_9_code 35 = .ok (.return_, 1) := q_tb t_Wo_go 22 rfl
def T_Se_findFalling : List (Nat × Instr × Nat) := [(0, .aload_n 0, 1), (1, .invokevirtual 86, 3), (4, .aload_n 0, 1), (5, .getfield 49, 3), (8, .ifCond .eq 4, 3), (11, .return_, 1), (12, .aload_n 0, 1), (13, .getfield 21, 3), (16, .aload_n 0, 1), (17, .getfield 18, 3), (20, .invokevirtual 89, 3), (23, .aload_n 0, 1), (24, .getfield 24, 3), (27, .aload_n 0, 1), (28, .getfield 18, 3), (31, .invokevirtual 89, 3), (34, .iconst 0, 1), (35, .istore_n 1, 1), (36, .iload_n 1, 1), (37, .sipush 30000, 3), (40, .if_icmp .ge 30, 3), (43, .aload_n 0, 1), (44, .getfield 24, 3), (47, .invokevirtual 79, 3), (50, .istore_n 2, 1), (51, .iload_n 2, 1), (52, .iconst (-1), 1), (53, .if_icmp .ne 6, 3), (56, .goto 14, 3), (59, .aload_n 0, 1), (60, .iload_n 2, 1), (61, .invokevirtual 93, 3), (64, .iinc 1 1, 3), (67, .goto (-31), 3), (70, .aload_n 0, 1), (71, .iconst 1, 1), (72, .putfield 49, 3), (75, .return_, 1)]
set_option maxRecDepth 100000 in
theorem t_Se_findFalling : ∀ q ∈ T_Se_findFalling, decode prog_4_method_4_code q.1 = .ok q.2 := by decide +kernel
theorem d_Se_findFalling_0 : decode prog_4_method_4_code 0 = .ok (.aload_n 0, 1) := q_tb t_Se_findFalling 0 rfl
theorem d_Se_findFalling_1 : decode prog_4_method_4_code 1 = .ok (.invokevirtual 86, 3) := q_tb t_Se_findFalling 1 rfl
theorem d_Se_findFalling_4 : decode prog_4_method_4_code 4 = .ok (.aload_n 0, 1) := q_tb t_Se_findFalling 2 rfl
theorem d_Se_findFalling_5 : decode prog_4_method_4_code 5 = .ok (.getfield 49, 3) := q_tb t_Se_findFalling 3 rfl
theorem d_Se_findFalling_8 : decode prog_4_method_4_code 8 = .ok (.ifCond .eq 4, 3) := q_tb t_Se_findFalling 4 rfl
theorem d_Se_findFalling_11 : decode prog_4_method_4_code 11 = .ok (.return_, 1) := q_tb t_Se_findFalling 5 rfl
theorem d_Se_findFalling_12 : decode prog_4_method_4_code 12 = .ok (.aload_n 0, 1) := q_tb t_Se_findFalling 6 rfl
theorem d_Se_findFalling_13 : decode prog_4_method_4_code 13 = .ok (.getfield 21, 3) := q_tb t_Se_findFalling 7 rfl
theorem d_Se_findFalling_16 : decode prog_4_method_4_code 16 = .ok (.aload_n 0, 1) := q_tb t_Se_findFalling 8 rfl
theorem d_Se_findFalling_17 : decode prog_4_method_4_code 17 = .ok (.getfield 18, 3) := q_tb t_Se_findFalling 9 rfl
theorem d_Se_findFalling_20 : decode prog_4_method_4_code 20 = .ok (.invokevirtual 89, 3) := q_tb t_Se_findFalling 10 rfl
theorem d_Se_findFalling_23 : decode prog_4_method_4_code 23 = .ok (.aload_n 0, 1) := q_tb t_Se_findFalling 11 rfl
theorem d_Se_findFalling_24 : decode prog_4_method_4_code 24 = .ok (.getfield 24, 3) := q_tb t_Se_findFalling 12 rfl
theorem d_Se_findFalling_27 : decode prog_4_method_4_code 27 = .ok (.aload_n 0, 1) := q_tb t_Se_findFalling 13 rfl
theorem d_Se_findFalling_28 : decode prog_4_method_4_code 28 = .ok (.getfield 18, 3) := q_tb t_Se_findFalling 14 rfl
theorem d_Se_findFalling_31 : decode prog_4_method_4_code 31 = .ok (.invokevirtual 89, 3) := q_tb t_Se_findFalling 15 rfl
theorem d_Se_findFalling_34 : decode prog_4_method_4_code 34 = .ok (.iconst 0, 1) := q_tb t_Se_findFalling 16 rfl
theorem d_Se_findFalling_35 : decode prog_4_method_4_code 35 = .ok (.istore_n 1, 1) := q_tb t_Se_findFalling 17 rfl
theorem d_Se_findFalling_36 : decode prog_4_method_4_code 36 = .ok (.iload_n 1, 1) := q_tb t_Se_findFalling 18 rfl
theorem d_Se_findFalling_37 : decode prog_4_method_4_code 37 = .ok (.sipush 30000, 3) := q_tb t_Se_findFalling 19 rfl
theorem d_Se_findFalling_40 : decode prog_4_method_4_code 40 = .ok (.if_icmp .ge 30, 3) := q_tb t_Se_findFalling 20 rfl
theorem d_Se_findFalling_43 : decode prog_4_method_4_code 43 = .ok (.aload_n 0, 1) := q_tb t_Se_findFalling 21 rfl
theorem d_Se_findFalling_44 : decode prog_4_method_4_code 44 = .ok (.getfield 24, 3) := q_tb t_Se_findFalling 22 rfl
theorem d_Se_findFalling_47 : decode prog_4_method_4_code 47 = .ok (.invokevirtual 79, 3) := q_tb t_Se_findFalling 23 rfl
theorem d_Se_findFalling_50 : decode prog_4_method_4_code 50 = .ok (.istore_n 2, 1) := q_tb t_Se_findFalling 24 rfl
theorem d_Se_findFalling_51 : decode prog_4_method_4_code 51 = .ok (.iload_n 2, 1) := q_tb t_Se_findFalling 25 rfl
theorem d_Se_findFalling_52 : decode prog_4_method_4_code 52 = .ok (.iconst (-1), 1) := q_tb t_Se_findFalling 26 rfl
theorem d_Se_findFalling_53 : decode prog_4_method_4_code 53 = .ok (.if_icmp .ne 6, 3) := q_tb t_Se_findFalling 27 rfl
theorem d_Se_findFalling_56 : decode prog_4_method_4_code 56 = .ok (.goto 14, 3) := q_tb t_Se_findFalling 28 rfl
theorem d_Se_findFalling_59 : decode prog_4_method_4_code 59 = .ok (.aload_n 0, 1) := q_tb t_Se_findFalling 29 rfl
theorem d_Se_findFalling_60 : decode prog_4_method_4_code 60 = .ok (.iload_n 2, 1) := q_tb t_Se_findFalling 30 rfl
theorem d_Se_findFalling_61 : decode prog_4_method_4_code 61 = .ok (.invokevirtual 93, 3) := q_tb t_Se_findFalling 31 rfl
theorem d_Se_findFalling_64 : decode prog_4_method_4_code 64 = .ok (.iinc 1 1, 3) := q_tb t_Se_findFalling 32 rfl
theorem d_Se_findFalling_67 : decode prog_4_method_4_code 67 = .ok (.goto (-31), 3) := q_tb t_Se_findFalling 33 rfl
theorem d_Se_findFalling_70 : decode prog_4_method_4_code 70 = .ok (.aload_n 0, 1) := q_tb t_Se_findFalling 34 rfl
theorem d_Se_findFalling_71 : decode prog_4_method_4_code 71 = .ok (.iconst 1, 1) := q_tb t_Se_findFalling 35 rfl
theorem d_Se_findFalling_72 : decode prog_4_method_4_code 72 = .ok (.putfield 49, 3) := q_tb t_Se_findFalling 36 rfl
theorem d_Se_findFalling_75 : decode prog_4_method_4_code 75 = .ok (.return_, 1) := q_tb t_Se_findFalling 37 rfl
def T_Ss_copyFrom : List (Nat × Instr × Nat) := [(0, .aload_n 1, 1), (1, .getfield 11, 3), (4, .iconst 0, 1), (5, .aload_n 0, 1), (6, .getfield 11, 3), (9, .iconst 0, 1), (10, .sipush 469, 3), (13, .invokestatic 25, 3), (16, .aload_n 0, 1), (17, .iconst 0, 1), (18, .putfield 15, 3), (21, .return_, 1)]
set_option maxRecDepth 100000 in
theorem t_Ss_copyFrom : ∀ q ∈ T_Ss_copyFrom, decode prog_6_method_3_code q.1 = .ok q.2 := by decide +kernel
theorem d_Ss_copyFrom_0 : decode prog_6_method_3_code 0 = .ok (.aload_n 1, 1) := q_tb t_Ss_copyFrom 0 rfl
theorem d_Ss_copyFrom_1 : decode prog_6_method_3_code 1 = .ok (.getfield 11, 3) := q_tb t_Ss_copyFrom 1 rfl
theorem d_Ss_copyFrom_4 : decode prog_6_method_3_code 4 = .ok (.iconst 0, 1) := q_tb t_Ss_copyFrom 2 rfl
theorem d_Ss_copyFrom_5 : decode prog_6_method_3_code 5 = .ok (.aload_n 0, 1) := q_tb t_Ss_copyFrom 3 rfl
theorem d_Ss_copyFrom_6 : decode prog_6_method_3_code 6 = .ok (.getfield 11, 3) := q_tb t_Ss_copyFrom 4 rfl
theorem d_Ss_copyFrom_9 : decode prog_6_method_3_code 9 = .ok (.iconst 0, 1) := q_tb t_Ss_copyFrom 5 rfl
theorem d_Ss_copyFrom_10 : decode prog_6_method_3_code 10 = .ok (.sipush 469, 3) := q_tb t_Ss_copyFrom 6 rfl
theorem d_Ss_copyFrom_13 : decode prog_6_method_3_code 13 = .ok (.invokestatic 25, 3) := q_tb t_Ss_copyFrom 7 rfl
theorem d_Ss_copyFrom_16 : decode prog_6_method_3_code 16 = .ok (.aload_n 0, 1) := q_tb t_Ss_copyFrom 8 rfl
theorem d_Ss_copyFrom_17 : decode prog_6_method_3_code 17 = .ok (.iconst 0, 1) := q_tb t_Ss_copyFrom 9 rfl
theorem d_Ss_copyFrom_18 : decode prog_6_method_3_code 18 = .ok (.putfield 15, 3) := q_tb t_Ss_copyFrom 10 rfl
theorem d_Ss_copyFrom_21 : decode prog_6_method_3_code 21 = .ok (.return_, 1) := q_tb t_Ss_copyFrom 11 rfl
def T_Se_lookBack : List (Nat × Instr × Nat) := [(0, .aload_n 0, 1), (1, .getfield 41, 3), (4, .iload_n 1, 1), (5, .aload_n 0, 1), (6, .getfield 30, 3), (9, .invokevirtual 100, 3), (12, .iconst 0, 1), (13, .istore_n 2, 1), (14, .iload_n 2, 1), (15, .aload_n 0, 1), (16, .getfield 41, 3), (19, .getfield 107, 3), (22, .if_icmp .ge 30, 3), (25, .aload_n 0, 1), (26, .getfield 30, 3), (29, .getfield 148, 3), (32, .iload_n 2, 1), (33, .iaload, 1), (34, .istore_n 3, 1), (35, .iload_n 3, 1), (36, .ifCond .eq 10, 3), (39, .aload_n 0, 1), (40, .iload_n 1, 1), (41, .iload_n 2, 1), (42, .iload_n 3, 1), (43, .invokevirtual 151, 3), (46, .iinc 2 1, 3), (49, .goto (-35), 3), (52, .return_, 1)]
set_option maxRecDepth 100000 in
theorem t_Se_lookBack : ∀ q ∈ T_Se_lookBack, decode prog_4_method_10_code q.1 = .ok q.2 := by decide +kernel
theorem d_Se_lookBack_0 : decode prog_4_method_10_code 0 = .ok (.aload_n 0, 1) := q_tb t_Se_lookBack 0 rfl
theorem d_Se_lookBack_1 : decode prog_4_method_10_code 1 = .ok (.getfield 41, 3) := q_tb t_Se_lookBack 1 rfl
theorem d_Se_lookBack_4 : decode prog_4_method_10_code 4 = .ok (.iload_n 1, 1) := q_tb t_Se_lookBack 2 rfl
theorem d_Se_lookBack_5 : decode prog_4_method_10_code 5 = .ok (.aload_n 0, 1) := q_tb t_Se_lookBack 3 rfl
theorem d_Se_lookBack_6 : decode prog_4_method_10_code 6 = .ok (.getfield 30, 3) := q_tb t_Se_lookBack 4 rfl
theorem d_Se_lookBack_9 : decode prog_4_method_10_code 9 = .ok (.invokevirtual 100, 3) := q_tb t_Se_lookBack 5 rfl
theorem d_Se_lookBack_12 : decode prog_4_method_10_code 12 = .ok (.iconst 0, 1) := q_tb t_Se_lookBack 6 rfl
theorem d_Se_lookBack_13 : decode prog_4_method_10_code 13 = .ok (.istore_n 2, 1) := q_tb t_Se_lookBack 7 rfl
theorem d_Se_lookBack_14 : decode prog_4_method_10_code 14 = .ok (.iload_n 2, 1) := q_tb t_Se_lookBack 8 rfl
theorem d_Se_lookBack_15 : decode prog_4_method_10_code 15 = .ok (.aload_n 0, 1) := q_tb t_Se_lookBack 9 rfl
theorem d_Se_lookBack_16 : decode prog_4_method_10_code 16 = .ok (.getfield 41, 3) := q_tb t_Se_lookBack 10 rfl
theorem d_Se_lookBack_19 : decode prog_4_method_10_code 19 = .ok (.getfield 107, 3) := q_tb t_Se_lookBack 11 rfl
theorem d_Se_lookBack_22 : decode prog_4_method_10_code 22 = .ok (.if_icmp .ge 30, 3) := q_tb t_Se_lookBack 12 rfl
theorem d_Se_lookBack_25 : decode prog_4_method_10_code 25 = .ok (.aload_n 0, 1) := q_tb t_Se_lookBack 13 rfl
theorem d_Se_lookBack_26 : decode prog_4_method_10_code 26 = .ok (.getfield 30, 3) := q_tb t_Se_lookBack 14 rfl
theorem d_Se_lookBack_29 : decode prog_4_method_10_code 29 = .ok (.getfield 148, 3) := q_tb t_Se_lookBack 15 rfl
theorem d_Se_lookBack_32 : decode prog_4_method_10_code 32 = .ok (.iload_n 2, 1) := q_tb t_Se_lookBack 16 rfl
theorem d_Se_lookBack_33 : decode prog_4_method_10_code 33 = .ok (.iaload, 1) := q_tb t_Se_lookBack 17 rfl
theorem d_Se_lookBack_34 : decode prog_4_method_10_code 34 = .ok (.istore_n 3, 1) := q_tb t_Se_lookBack 18 rfl
theorem d_Se_lookBack_35 : decode prog_4_method_10_code 35 = .ok (.iload_n 3, 1) := q_tb t_Se_lookBack 19 rfl
theorem d_Se_lookBack_36 : decode prog_4_method_10_code 36 = .ok (.ifCond .eq 10, 3) := q_tb t_Se_lookBack 20 rfl
theorem d_Se_lookBack_39 : decode prog_4_method_10_code 39 = .ok (.aload_n 0, 1) := q_tb t_Se_lookBack 21 rfl
theorem d_Se_lookBack_40 : decode prog_4_method_10_code 40 = .ok (.iload_n 1, 1) := q_tb t_Se_lookBack 22 rfl
theorem d_Se_lookBack_41 : decode prog_4_method_10_code 41 = .ok (.iload_n 2, 1) := q_tb t_Se_lookBack 23 rfl
theorem d_Se_lookBack_42 : decode prog_4_method_10_code 42 = .ok (.iload_n 3, 1) := q_tb t_Se_lookBack 24 rfl
theorem d_Se_lookBack_43 : decode prog_4_method_10_code 43 = .ok (.invokevirtual 151, 3) := q_tb t_Se_lookBack 25 rfl
theorem d_Se_lookBack_46 : decode prog_4_method_10_code 46 = .ok (.iinc 2 1, 3) := q_tb t_Se_lookBack 26 rfl
theorem d_Se_lookBack_49 : decode prog_4_method_10_code 49 = .ok (.goto (-35), 3) := q_tb t_Se_lookBack 27 rfl
theorem d_Se_lookBack_52 : decode prog_4_method_10_code 52 = .ok (.return_, 1) := q_tb t_Se_lookBack 28 rfl
def T_Se_undoAct0 : List (Nat × Instr × Nat) := [(0, .aload_n 0, 1), (1, .getfield 41, 3), (4, .getfield 110, 3), (7, .iload_n 2, 1), (8, .aaload, 1), (9, .astore 4, 2), (11, .aload 4, 2), (13, .getfield 138, 3), (16, .iload_n 3, 1), (17, .iaload, 1), (18, .istore 5, 2), (20, .aload_n 0, 1), (21, .getfield 30, 3), (24, .getfield 145, 3), (27, .iload 5, 2), (29, .iaload, 1), (30, .istore 6, 2), (32, .aload_n 0, 1), (33, .getfield 41, 3), (36, .getfield 104, 3), (39, .iload 5, 2), (41, .iaload, 1), (42, .istore 7, 2), (44, .iconst 0, 1), (45, .istore 8, 2), (47, .iload 8, 2), (49, .iload 7, 2), (51, .if_icmp .ge 45, 3), (54, .aload 4, 2), (56, .iload_n 3, 1), (57, .iload 8, 2), (59, .iload 7, 2), (61, .invokevirtual 154, 3), (64, .iload 6, 2), (66, .if_icmp .ne 24, 3), (69, .aload_n 0, 1), (70, .iload_n 1, 1), (71, .iload 8, 2), (73, .iload 6, 2), (75, .isub, 1)]
set_option maxRecDepth 100000 in
theorem t_Se_undoAct0 : ∀ q ∈ T_Se_undoAct0, decode prog_4_method_11_code q.1 = .ok q.2 := by decide +kernel
theorem d_Se_undoAct_0 : decode prog_4_method_11_code 0 = .ok (.aload_n 0, 1) := q_tb t_Se_undoAct0 0 rfl
theorem d_Se_undoAct_1 : decode prog_4_method_11_code 1 = .ok (.getfield 41, 3) := q_tb t_Se_undoAct0 1 rfl
theorem d_Se_undoAct_4 : decode prog_4_method_11_code 4 = .ok (.getfield 110, 3) := q_tb t_Se_undoAct0 2 rfl
theorem d_Se_undoAct_7 : decode prog_4_method_11_code 7 = .ok (.iload_n 2, 1) := q_tb t_Se_undoAct0 3 rfl
theorem d_Se_undoAct_8 : decode prog_4_method_11_code 8 = .ok (.aaload, 1) := q_tb t_Se_undoAct0 4 rfl
theorem d_Se_undoAct_9 : decode prog_4_method_11_code 9 = .ok (.astore 4, 2) := q_tb t_Se_undoAct0 5 rfl
theorem d_Se_undoAct_11 : decode prog_4_method_11_code 11 = .ok (.aload 4, 2) := q_tb t_Se_undoAct0 6 rfl
theorem d_Se_undoAct_13 : decode prog_4_method_11_code 13 = .ok (.getfield 138, 3) := q_tb t_Se_undoAct0 7 rfl
theorem d_Se_undoAct_16 : decode prog_4_method_11_code 16 = .ok (.iload_n 3, 1) := q_tb t_Se_undoAct0 8 rfl
theorem d_Se_undoAct_17 : decode prog_4_method_11_code 17 = .ok (.iaload, 1) := q_tb t_Se_undoAct0 9 rfl
theorem d_Se_undoAct_18 : decode prog_4_method_11_code 18 = .ok (.istore 5, 2) := q_tb t_Se_undoAct0 10 rfl
theorem d_Se_undoAct_20 : decode prog_4_method_11_code 20 = .ok (.aload_n 0, 1) := q_tb t_Se_undoAct0 11 rfl
theorem d_Se_undoAct_21 : decode prog_4_method_11_code 21 = .ok (.getfield 30, 3) := q_tb t_Se_undoAct0 12 rfl
theorem d_Se_undoAct_24 : decode prog_4_method_11_code 24 = .ok (.getfield 145, 3) := q_tb t_Se_undoAct0 13 rfl
theorem d_Se_undoAct_27 : decode prog_4_method_11_code 27 = .ok (.iload 5, 2) := q_tb t_Se_undoAct0 14 rfl
theorem d_Se_undoAct_29 : decode prog_4_method_11_code 29 = .ok (.iaload, 1) := q_tb t_Se_undoAct0 15 rfl
theorem d_Se_undoAct_30 : decode prog_4_method_11_code 30 = .ok (.istore 6, 2) := q_tb t_Se_undoAct0 16 rfl
theorem d_Se_undoAct_32 : decode prog_4_method_11_code 32 = .ok (.aload_n 0, 1) := q_tb t_Se_undoAct0 17 rfl
theorem d_Se_undoAct_33 : decode prog_4_method_11_code 33 = .ok (.getfield 41, 3) := q_tb t_Se_undoAct0 18 rfl
theorem d_Se_undoAct_36 : decode prog_4_method_11_code 36 = .ok (.getfield 104, 3) := q_tb t_Se_undoAct0 19 rfl
theorem d_Se_undoAct_39 : decode prog_4_method_11_code 39 = .ok (.iload 5, 2) := q_tb t_Se_undoAct0 20 rfl
theorem d_Se_undoAct_41 : decode prog_4_method_11_code 41 = .ok (.iaload, 1) := q_tb t_Se_undoAct0 21 rfl
theorem d_Se_undoAct_42 : decode prog_4_method_11_code 42 = .ok (.istore 7, 2) := q_tb t_Se_undoAct0 22 rfl
theorem d_Se_undoAct_44 : decode prog_4_method_11_code 44 = .ok (.iconst 0, 1) := q_tb t_Se_undoAct0 23 rfl
theorem d_Se_undoAct_45 : decode prog_4_method_11_code 45 = .ok (.istore 8, 2) := q_tb t_Se_undoAct0 24 rfl
theorem d_Se_undoAct_47 : decode prog_4_method_11_code 47 = .ok (.iload 8, 2) := q_tb t_Se_undoAct0 25 rfl
theorem d_Se_undoAct_49 : decode prog_4_method_11_code 49 = .ok (.iload 7, 2) := q_tb t_Se_undoAct0 26 rfl
theorem d_Se_undoAct_51 : decode prog_4_method_11_code 51 = .ok (.if_icmp .ge 45, 3) := q_tb t_Se_undoAct0 27 rfl
theorem d_Se_undoAct_54 : decode prog_4_method_11_code 54 = .ok (.aload 4, 2) := q_tb t_Se_undoAct0 28 rfl
theorem d_Se_undoAct_56 : decode prog_4_method_11_code 56 = .ok (.iload_n 3, 1) := q_tb t_Se_undoAct0 29 rfl
theorem d_Se_undoAct_57 : decode prog_4_method_11_code 57 = .ok (.iload 8, 2) := q_tb t_Se_undoAct0 30 rfl
theorem d_Se_undoAct_59 : decode prog_4_method_11_code 59 = .ok (.iload 7, 2) := q_tb t_Se_undoAct0 31 rfl
theorem d_Se_undoAct_61 : decode prog_4_method_11_code 61 = .ok (.invokevirtual 154, 3) := q_tb t_Se_undoAct0 32 rfl
theorem d_Se_undoAct_64 : decode prog_4_method_11_code 64 = .ok (.iload 6, 2) := q_tb t_Se_undoAct0 33 rfl
theorem d_Se_undoAct_66 : decode prog_4_method_11_code 66 = .ok (.if_icmp .ne 24, 3) := q_tb t_Se_undoAct0 34 rfl
theorem d_Se_undoAct_69 : decode prog_4_method_11_code 69 = .ok (.aload_n 0, 1) := q_tb t_Se_undoAct0 35 rfl
theorem d_Se_undoAct_70 : decode prog_4_method_11_code 70 = .ok (.iload_n 1, 1) := q_tb t_Se_undoAct0 36 rfl
theorem d_Se_undoAct_71 : decode prog_4_method_11_code 71 = .ok (.iload 8, 2) := q_tb t_Se_undoAct0 37 rfl
theorem d_Se_undoAct_73 : decode prog_4_method_11_code 73 = .ok (.iload 6, 2) := q_tb t_Se_undoAct0 38 rfl
theorem d_Se_undoAct_75 : decode prog_4_method_11_code 75 = .ok (.isub, 1) := q_tb t_Se_undoAct0 39 rfl
def T_Se_undoAct1 : List (Nat × Instr × Nat) := [(76, .aload_n 0, 1), (77, .getfield 38, 3), (80, .iload 5, 2), (82, .iaload, 1), (83, .imul, 1), (84, .iadd, 1), (85, .iload_n 2, 1), (86, .iload_n 3, 1), (87, .invokevirtual 157, 3), (90, .iinc 8 1, 3), (93, .goto (-46), 3), (96, .return_, 1)]
set_option maxRecDepth 100000 in
theorem t_Se_undoAct1 : ∀ q ∈ T_Se_undoAct1, decode prog_4_method_11_code q.1 = .ok q.2 := by decide +kernel
theorem d_Se_undoAct_76 : decode prog_4_method_11_code 76 = .ok (.aload_n 0, 1) := q_tb t_Se_undoAct1 0 rfl
theorem d_Se_undoAct_77 : decode prog_4_method_11_code 77 = .ok (.getfield 38, 3) := q_tb t_Se_undoAct1 1 rfl
theorem d_Se_undoAct_80 : decode prog_4_method_11_code 80 = .ok (.iload 5, 2) := q_tb t_Se_undoAct1 2 rfl
theorem d_Se_undoAct_82 : decode prog_4_method_11_code 82 = .ok (.iaload, 1) := q_tb t_Se_undoAct1 3 rfl
theorem d_Se_undoAct_83 : decode prog_4_method_11_code 83 = .ok (.imul, 1) := q_tb t_Se_undoAct1 4 rfl
theorem d_Se_undoAct_84 : decode prog_4_method_11_code 84 = .ok (.iadd, 1) := q_tb t_Se_undoAct1 5 rfl
theorem d_Se_undoAct_85 : decode prog_4_method_11_code 85 = .ok (.iload_n 2, 1) := q_tb t_Se_undoAct1 6 rfl
theorem d_Se_undoAct_86 : decode prog_4_method_11_code 86 = .ok (.iload_n 3, 1) := q_tb t_Se_undoAct1 7 rfl
theorem d_Se_undoAct_87 : decode prog_4_method_11_code 87 = .ok (.invokevirtual 157, 3) := q_tb t_Se_undoAct1 8 rfl
theorem d_Se_undoAct_90 : decode prog_4_method_11_code 90 = .ok (.iinc 8 1, 3) := q_tb t_Se_undoAct1 9 rfl
theorem d_Se_undoAct_93 : decode prog_4_method_11_code 93 = .ok (.goto (-46), 3) := q_tb t_Se_undoAct1 10 rfl
theorem d_Se_undoAct_96 : decode prog_4_method_11_code 96 = .ok (.return_, 1) := q_tb t_Se_undoAct1 11 rfl
def T_Se_undoStep : List (Nat × Instr × Nat) := [(0, .aload_n 0, 1), (1, .getfield 41, 3), (4, .getfield 110, 3), (7, .iload_n 2, 1), (8, .aaload, 1), (9, .astore 4, 2), (11, .iconst 0, 1), (12, .istore 5, 2), (14, .iload 5, 2), (16, .aload 4, 2), (18, .getfield 114, 3), (21, .if_icmp .ge 41, 3), (24, .aload 4, 2), (26, .getfield 160, 3), (29, .iload 5, 2), (31, .iaload, 1), (32, .iload_n 3, 1), (33, .ishr, 1), (34, .iconst 1, 1), (35, .iand, 1), (36, .ifCond .eq 20, 3), (39, .aload_n 0, 1), (40, .iload_n 1, 1), (41, .iload 5, 2), (43, .iload_n 3, 1), (44, .isub, 1), (45, .aload_n 0, 1), (46, .getfield 34, 3), (49, .iload_n 2, 1), (50, .iaload, 1), (51, .imul, 1), (52, .iadd, 1), (53, .invokevirtual 163, 3), (56, .iinc 5 1, 3), (59, .goto (-45), 3), (62, .return_, 1)]
set_option maxRecDepth 100000 in
theorem t_Se_undoStep : ∀ q ∈ T_Se_undoStep, decode prog_4_method_12_code q.1 = .ok q.2 := by decide +kernel
theorem d_Se_undoStep_0 : decode prog_4_method_12_code 0 = .ok (.aload_n 0, 1) := q_tb t_Se_undoStep 0 rfl
theorem d_Se_undoStep_1 : decode prog_4_method_12_code 1 = .ok (.getfield 41, 3) := q_tb t_Se_undoStep 1 rfl
theorem d_Se_undoStep_4 : decode prog_4_method_12_code 4 = .ok (.getfield 110, 3) := q_tb t_Se_undoStep 2 rfl
theorem d_Se_undoStep_7 : decode prog_4_method_12_code 7 = .ok (.iload_n 2, 1) := q_tb t_Se_undoStep 3 rfl
theorem d_Se_undoStep_8 : decode prog_4_method_12_code 8 = .ok (.aaload, 1) := q_tb t_Se_undoStep 4 rfl
theorem d_Se_undoStep_9 : decode prog_4_method_12_code 9 = .ok (.astore 4, 2) := q_tb t_Se_undoStep 5 rfl
theorem d_Se_undoStep_11 : decode prog_4_method_12_code 11 = .ok (.iconst 0, 1) := q_tb t_Se_undoStep 6 rfl
theorem d_Se_undoStep_12 : decode prog_4_method_12_code 12 = .ok (.istore 5, 2) := q_tb t_Se_undoStep 7 rfl
theorem d_Se_undoStep_14 : decode prog_4_method_12_code 14 = .ok (.iload 5, 2) := q_tb t_Se_undoStep 8 rfl
theorem d_Se_undoStep_16 : decode prog_4_method_12_code 16 = .ok (.aload 4, 2) := q_tb t_Se_undoStep 9 rfl
theorem d_Se_undoStep_18 : decode prog_4_method_12_code 18 = .ok (.getfield 114, 3) := q_tb t_Se_undoStep 10 rfl
theorem d_Se_undoStep_21 : decode prog_4_method_12_code 21 = .ok (.if_icmp .ge 41, 3) := q_tb t_Se_undoStep 11 rfl
theorem d_Se_undoStep_24 : decode prog_4_method_12_code 24 = .ok (.aload 4, 2) := q_tb t_Se_undoStep 12 rfl
theorem d_Se_undoStep_26 : decode prog_4_method_12_code 26 = .ok (.getfield 160, 3) := q_tb t_Se_undoStep 13 rfl
theorem d_Se_undoStep_29 : decode prog_4_method_12_code 29 = .ok (.iload 5, 2) := q_tb t_Se_undoStep 14 rfl
theorem d_Se_undoStep_31 : decode prog_4_method_12_code 31 = .ok (.iaload, 1) := q_tb t_Se_undoStep 15 rfl
theorem d_Se_undoStep_32 : decode prog_4_method_12_code 32 = .ok (.iload_n 3, 1) := q_tb t_Se_undoStep 16 rfl
theorem d_Se_undoStep_33 : decode prog_4_method_12_code 33 = .ok (.ishr, 1) := q_tb t_Se_undoStep 17 rfl
theorem d_Se_undoStep_34 : decode prog_4_method_12_code 34 = .ok (.iconst 1, 1) := q_tb t_Se_undoStep 18 rfl
theorem d_Se_undoStep_35 : decode prog_4_method_12_code 35 = .ok (.iand, 1) := q_tb t_Se_undoStep 19 rfl
theorem d_Se_undoStep_36 : decode prog_4_method_12_code 36 = .ok (.ifCond .eq 20, 3) := q_tb t_Se_undoStep 20 rfl
theorem d_Se_undoStep_39 : decode prog_4_method_12_code 39 = .ok (.aload_n 0, 1) := q_tb t_Se_undoStep 21 rfl
theorem d_Se_undoStep_40 : decode prog_4_method_12_code 40 = .ok (.iload_n 1, 1) := q_tb t_Se_undoStep 22 rfl
theorem d_Se_undoStep_41 : decode prog_4_method_12_code 41 = .ok (.iload 5, 2) := q_tb t_Se_undoStep 23 rfl
theorem d_Se_undoStep_43 : decode prog_4_method_12_code 43 = .ok (.iload_n 3, 1) := q_tb t_Se_undoStep 24 rfl
theorem d_Se_undoStep_44 : decode prog_4_method_12_code 44 = .ok (.isub, 1) := q_tb t_Se_undoStep 25 rfl
theorem d_Se_undoStep_45 : decode prog_4_method_12_code 45 = .ok (.aload_n 0, 1) := q_tb t_Se_undoStep 26 rfl
theorem d_Se_undoStep_46 : decode prog_4_method_12_code 46 = .ok (.getfield 34, 3) := q_tb t_Se_undoStep 27 rfl
theorem d_Se_undoStep_49 : decode prog_4_method_12_code 49 = .ok (.iload_n 2, 1) := q_tb t_Se_undoStep 28 rfl
theorem d_Se_undoStep_50 : decode prog_4_method_12_code 50 = .ok (.iaload, 1) := q_tb t_Se_undoStep 29 rfl
theorem d_Se_undoStep_51 : decode prog_4_method_12_code 51 = .ok (.imul, 1) := q_tb t_Se_undoStep 30 rfl
theorem d_Se_undoStep_52 : decode prog_4_method_12_code 52 = .ok (.iadd, 1) := q_tb t_Se_undoStep 31 rfl
theorem d_Se_undoStep_53 : decode prog_4_method_12_code 53 = .ok (.invokevirtual 163, 3) := q_tb t_Se_undoStep 32 rfl
theorem d_Se_undoStep_56 : decode prog_4_method_12_code 56 = .ok (.iinc 5 1, 3) := q_tb t_Se_undoStep 33 rfl
theorem d_Se_undoStep_59 : decode prog_4_method_12_code 59 = .ok (.goto (-45), 3) := q_tb t_Se_undoStep 34 rfl
theorem d_Se_undoStep_62 : decode prog_4_method_12_code 62 = .ok (.return_, 1) := q_tb t_Se_undoStep 35 rfl
def T_Se_fall : List (Nat × Instr × Nat) := [(0, .aload_n 0, 1), (1, .getfield 12, 3), (4, .iload_n 1, 1), (5, .invokevirtual 119, 3), (8, .ifCond .eq 30, 3), (11, .aload_n 0, 1), (12, .getfield 21, 3), (15, .iload_n 1, 1), (16, .invokevirtual 119, 3), (19, .ifCond .ne 19, 3), (22, .aload_n 0, 1), (23, .getfield 21, 3), (26, .iload_n 1, 1), (27, .invokevirtual 123, 3), (30, .aload_n 0, 1), (31, .getfield 24, 3), (34, .iload_n 1, 1), (35, .invokevirtual 123, 3), (38, .return_, 1)]
set_option maxRecDepth 100000 in
theorem t_Se_fall : ∀ q ∈ T_Se_fall, decode prog_4_method_13_code q.1 = .ok q.2 := by decide +kernel
theorem d_Se_fall_0 : decode prog_4_method_13_code 0 = .ok (.aload_n 0, 1) := q_tb t_Se_fall 0 rfl
theorem d_Se_fall_1 : decode prog_4_method_13_code 1 = .ok (.getfield 12, 3) := q_tb t_Se_fall 1 rfl
theorem d_Se_fall_4 : decode prog_4_method_13_code 4 = .ok (.iload_n 1, 1) := q_tb t_Se_fall 2 rfl
theorem d_Se_fall_5 : decode prog_4_method_13_code 5 = .ok (.invokevirtual 119, 3) := q_tb t_Se_fall 3 rfl
theorem d_Se_fall_8 : decode prog_4_method_13_code 8 = .ok (.ifCond .eq 30, 3) := q_tb t_Se_fall 4 rfl
theorem d_Se_fall_11 : decode prog_4_method_13_code 11 = .ok (.aload_n 0, 1) := q_tb t_Se_fall 5 rfl
theorem d_Se_fall_12 : decode prog_4_method_13_code 12 = .ok (.getfield 21, 3) := q_tb t_Se_fall 6 rfl
theorem d_Se_fall_15 : decode prog_4_method_13_code 15 = .ok (.iload_n 1, 1) := q_tb t_Se_fall 7 rfl
theorem d_Se_fall_16 : decode prog_4_method_13_code 16 = .ok (.invokevirtual 119, 3) := q_tb t_Se_fall 8 rfl
theorem d_Se_fall_19 : decode prog_4_method_13_code 19 = .ok (.ifCond .ne 19, 3) := q_tb t_Se_fall 9 rfl
theorem d_Se_fall_22 : decode prog_4_method_13_code 22 = .ok (.aload_n 0, 1) := q_tb t_Se_fall 10 rfl
theorem d_Se_fall_23 : decode prog_4_method_13_code 23 = .ok (.getfield 21, 3) := q_tb t_Se_fall 11 rfl
theorem d_Se_fall_26 : decode prog_4_method_13_code 26 = .ok (.iload_n 1, 1) := q_tb t_Se_fall 12 rfl
theorem d_Se_fall_27 : decode prog_4_method_13_code 27 = .ok (.invokevirtual 123, 3) := q_tb t_Se_fall 13 rfl
theorem d_Se_fall_30 : decode prog_4_method_13_code 30 = .ok (.aload_n 0, 1) := q_tb t_Se_fall 14 rfl
theorem d_Se_fall_31 : decode prog_4_method_13_code 31 = .ok (.getfield 24, 3) := q_tb t_Se_fall 15 rfl
theorem d_Se_fall_34 : decode prog_4_method_13_code 34 = .ok (.iload_n 1, 1) := q_tb t_Se_fall 16 rfl
theorem d_Se_fall_35 : decode prog_4_method_13_code 35 = .ok (.invokevirtual 123, 3) := q_tb t_Se_fall 17 rfl
theorem d_Se_fall_38 : decode prog_4_method_13_code 38 = .ok (.return_, 1) := q_tb t_Se_fall 18 rfl
end NAMES3
end
section
/-! names, 3c: decode tables, printed by gen/names2.py -/
section NAMES3
def T_S_init : List (Nat × Instr × Nat) := [(0, .aload_n 0, 1), (1, .invokespecial 1, 3), (4, .aload_n 0, 1), (5, .new 7, 3), (8, .dup, 1), (9, .invokespecial 9, 3), (12, .putfield 10, 3), (15, .aload_n 0, 1), (16, .new 16, 3), (19, .dup, 1), (20, .invokespecial 18, 3), (23, .putfield 19, 3), (26, .aload_n 0, 1), (27, .new 23, 3), (30, .dup, 1), (31, .aload_n 0, 1), (32, .getfield 10, 3), (35, .aload_n 0, 1), (36, .getfield 19, 3), (39, .invokespecial 25, 3), (42, .putfield 28, 3), (45, .aload_n 0, 1), (46, .new 32, 3), (49, .dup, 1), (50, .aload_n 0, 1), (51, .getfield 19, 3), (54, .invokespecial 34, 3), (57, .putfield 37, 3), (60, .aload_n 0, 1), (61, .new 41, 3), (64, .dup, 1), (65, .invokespecial 43, 3), (68, .putfield 44, 3), (71, .return_, 1)]
set_option maxRecDepth 100000 in
theorem t_S_init : ∀ q ∈ T_S_init, decode prog_1_method_1_code q.1 = .ok q.2 := by decide +kernel
theorem d_S_init_0 : decode prog_1_method_1_code 0 = .ok (.aload_n 0, 1) := q_tb t_S_init 0 rfl
theorem d_S_init_1 : decode prog_1_method_1_code 1 = .ok (.invokespecial 1, 3) := q_tb t_S_init 1 rfl
theorem d_S_init_4 : decode prog_1_method_1_code 4 = .ok (.aload_n 0, 1) := q_tb t_S_init 2 rfl
theorem d_S_init_5 : decode prog_1_method_1_code 5 = .ok (.new 7, 3) := q_tb t_S_init 3 rfl
theorem d_S_init_8 : decode prog_1_method_1_code 8 = .ok (.dup, 1) := q_tb t_S_init 4 rfl
theorem d_S_init_9 : decode prog_1_method_1_code 9 = .ok (.invokespecial 9, 3) := q_tb t_S_init 5 rfl
theorem d_S_init_12 : decode prog_1_method_1_code 12 = .ok (.putfield 10, 3) := q_tb t_S_init 6 rfl
theorem d_S_init_15 : decode prog_1_method_1_code 15 = .ok (.aload_n 0, 1) := q_tb t_S_init 7 rfl
theorem d_S_init_16 : decode prog_1_method_1_code 16 = .ok (.new 16, 3) := q_tb t_S_init 8 rfl
theorem d_S_init_19 : decode prog_1_method_1_code 19 = .ok (.dup, 1) := q_tb t_S_init 9 rfl
theorem d_S_init_20 : decode prog_1_method_1_code 20 = .ok (.invokespecial 18, 3) := q_tb t_S_init 10 rfl
theorem d_S_init_23 : decode prog_1_method_1_code 23 = .ok (.putfield 19, 3) := q_tb t_S_init 11 rfl
theorem d_S_init_26 : decode prog_1_method_1_code 26 = .ok (.aload_n 0, 1) := q_tb t_S_init 12 rfl
theorem d_S_init_27 : decode prog_1_method_1_code 27 = .ok (.new 23, 3) := q_tb t_S_init 13 rfl
theorem d_S_init_30 : decode prog_1_method_1_code 30 = .ok (.dup, 1) := q_tb t_S_init 14 rfl
theorem d_S_init_31 : decode prog_1_method_1_code 31 = .ok (.aload_n 0, 1) := q_tb t_S_init 15 rfl
theorem d_S_init_32 : decode prog_1_method_1_code 32 = .ok (.getfield 10, 3) := q_tb t_S_init 16 rfl
theorem d_S_init_35 : decode prog_1_method_1_code 35 = .ok (.aload_n 0, 1) := q_tb t_S_init 17 rfl
theorem d_S_init_36 : decode prog_1_method_1_code 36 = .ok (.getfield 19, 3) := q_tb t_S_init 18 rfl
theorem d_S_init_39 : decode prog_1_method_1_code 39 = .ok (.invokespecial 25, 3) := q_tb t_S_init 19 rfl
theorem d_S_init_42 : decode prog_1_method_1_code 42 = .ok (.putfield 28, 3) := q_tb t_S_init 20 rfl
theorem d_S_init_45 : decode prog_1_method_1_code 45 = .ok (.aload_n 0, 1) := q_tb t_S_init 21 rfl
theorem d_S_init_46 : decode prog_1_method_1_code 46 = .ok (.new 32, 3) := q_tb t_S_init 22 rfl
theorem d_S_init_49 : decode prog_1_method_1_code 49 = .ok (.dup, 1) := q_tb t_S_init 23 rfl
theorem d_S_init_50 : decode prog_1_method_1_code 50 = .ok (.aload_n 0, 1) := q_tb t_S_init 24 rfl
theorem d_S_init_51 : decode prog_1_method_1_code 51 = .ok (.getfield 19, 3) := q_tb t_S_init 25 rfl
theorem d_S_init_54 : decode prog_1_method_1_code 54 = .ok (.invokespecial 34, 3) := q_tb t_S_init 26 rfl
theorem d_S_init_57 : decode prog_1_method_1_code 57 = .ok (.putfield 37, 3) := q_tb t_S_init 27 rfl
theorem d_S_init_60 : decode prog_1_method_1_code 60 = .ok (.aload_n 0, 1) := q_tb t_S_init 28 rfl
theorem d_S_init_61 : decode prog_1_method_1_code 61 = .ok (.new 41, 3) := q_tb t_S_init 29 rfl
theorem d_S_init_64 : decode prog_1_method_1_code 64 = .ok (.dup, 1) := q_tb t_S_init 30 rfl
theorem d_S_init_65 : decode prog_1_method_1_code 65 = .ok (.invokespecial 43, 3) := q_tb t_S_init 31 rfl
theorem d_S_init_68 : decode prog_1_method_1_code 68 = .ok (.putfield 44, 3) := q_tb t_S_init 32 rfl
theorem d_S_init_71 : decode prog_1_method_1_code 71 = .ok (.return_, 1) := q_tb t_S_init 33 rfl
def T_Ar_fillI : List (Nat × Instr × Nat) := [(0, .iconst 0, 1), (1, .istore_n 2, 1), (2, .aload_n 0, 1), (3, .arraylength, 1), (4, .istore_n 3, 1), (5, .iload_n 2, 1), (6, .iload_n 3, 1), (7, .if_icmp .ge 13, 3), (10, .aload_n 0, 1), (11, .iload_n 2, 1), (12, .iload_n 1, 1), (13, .iastore, 1), (14, .iinc 2 1, 3), (17, .goto (-12), 3), (20, .return_, 1)]
set_option maxRecDepth 100000 in
theorem t_Ar_fillI : ∀ q ∈ T_Ar_fillI, decode prog_23_method_103_code q.1 = .ok q.2 := by decide +kernel
theorem d_Ar_fillI_0 : decode prog_23_method_103_code 0 = .ok (.iconst 0, 1) := q_tb t_Ar_fillI 0 rfl
theorem d_Ar_fillI_1 : decode prog_23_method_103_code 1 = .ok (.istore_n 2, 1) := q_tb t_Ar_fillI 1 rfl
theorem d_Ar_fillI_2 : decode prog_23_method_103_code 2 = .ok (.aload_n 0, 1) := q_tb t_Ar_fillI 2 rfl
theorem d_Ar_fillI_3 : decode prog_23_method_103_code 3 = .ok (.arraylength, 1) := q_tb t_Ar_fillI 3 rfl
theorem d_Ar_fillI_4 : decode prog_23_method_103_code 4 = .ok (.istore_n 3, 1) := q_tb t_Ar_fillI 4 rfl
theorem d_Ar_fillI_5 : decode prog_23_method_103_code 5 = .ok (.iload_n 2, 1) := q_tb t_Ar_fillI 5 rfl
theorem d_Ar_fillI_6 : decode prog_23_method_103_code 6 = .ok (.iload_n 3, 1) := q_tb t_Ar_fillI 6 rfl
theorem d_Ar_fillI_7 : decode prog_23_method_103_code 7 = .ok (.if_icmp .ge 13, 3) := q_tb t_Ar_fillI 7 rfl
theorem d_Ar_fillI_10 : decode prog_23_method_103_code 10 = .ok (.aload_n 0, 1) := q_tb t_Ar_fillI 8 rfl
theorem d_Ar_fillI_11 : decode prog_23_method_103_code 11 = .ok (.iload_n 2, 1) := q_tb t_Ar_fillI 9 rfl
theorem d_Ar_fillI_12 : decode prog_23_method_103_code 12 = .ok (.iload_n 1, 1) := q_tb t_Ar_fillI 10 rfl
theorem d_Ar_fillI_13 : decode prog_23_method_103_code 13 = .ok (.iastore, 1) := q_tb t_Ar_fillI 11 rfl
theorem d_Ar_fillI_14 : decode prog_23_method_103_code 14 = .ok (.iinc 2 1, 3) := q_tb t_Ar_fillI 12 rfl
theorem d_Ar_fillI_17 : decode prog_23_method_103_code 17 = .ok (.goto (-12), 3) := q_tb t_Ar_fillI 13 rfl
theorem d_Ar_fillI_20 : decode prog_23_method_103_code 20 = .ok (.return_, 1) := q_tb t_Ar_fillI 14 rfl
def T_S_wipe : List (Nat × Instr × Nat) := [(0, .aload_n 0, 1), (1, .getfield 10, 3), (4, .getfield 59, 3), (7, .istore_n 1, 1), (8, .aload_n 0, 1), (9, .getfield 10, 3), (12, .iconst 0, 1), (13, .putfield 59, 3), (16, .iload_n 1, 1), (17, .ireturn, 1)]
set_option maxRecDepth 100000 in
theorem t_S_wipe : ∀ q ∈ T_S_wipe, decode prog_1_method_3_code q.1 = .ok q.2 := by decide +kernel
theorem d_S_wipe_0 : decode prog_1_method_3_code 0 = .ok (.aload_n 0, 1) := q_tb t_S_wipe 0 rfl
theorem d_S_wipe_1 : decode prog_1_method_3_code 1 = .ok (.getfield 10, 3) := q_tb t_S_wipe 1 rfl
theorem d_S_wipe_4 : decode prog_1_method_3_code 4 = .ok (.getfield 59, 3) := q_tb t_S_wipe 2 rfl
theorem d_S_wipe_7 : decode prog_1_method_3_code 7 = .ok (.istore_n 1, 1) := q_tb t_S_wipe 3 rfl
theorem d_S_wipe_8 : decode prog_1_method_3_code 8 = .ok (.aload_n 0, 1) := q_tb t_S_wipe 4 rfl
theorem d_S_wipe_9 : decode prog_1_method_3_code 9 = .ok (.getfield 10, 3) := q_tb t_S_wipe 5 rfl
theorem d_S_wipe_12 : decode prog_1_method_3_code 12 = .ok (.iconst 0, 1) := q_tb t_S_wipe 6 rfl
theorem d_S_wipe_13 : decode prog_1_method_3_code 13 = .ok (.putfield 59, 3) := q_tb t_S_wipe 7 rfl
theorem d_S_wipe_16 : decode prog_1_method_3_code 16 = .ok (.iload_n 1, 1) := q_tb t_S_wipe 8 rfl
theorem d_S_wipe_17 : decode prog_1_method_3_code 17 = .ok (.ireturn, 1) := q_tb t_S_wipe 9 rfl
def T_S_process : List (Nat × Instr × Nat) := [(0, .aload_n 0, 1), (1, .getfield 19, 3), (4, .getfield 75, 3), (7, .bipush 6, 2), (9, .if_icmp .lt 5, 3), (12, .iconst (-1), 1), (13, .ireturn, 1), (14, .aload_n 0, 1), (15, .getfield 28, 3), (18, .aload_n 0, 1), (19, .getfield 19, 3), (22, .getfield 78, 3), (25, .aload_n 0, 1), (26, .getfield 19, 3), (29, .getfield 75, 3), (32, .aaload, 1), (33, .invokevirtual 82, 3), (36, .ifCond .ne 5, 3), (39, .iconst (-1), 1), (40, .ireturn, 1), (41, .aload_n 0, 1), (42, .getfield 19, 3), (45, .dup, 1), (46, .getfield 75, 3), (49, .iconst 1, 1), (50, .iadd, 1), (51, .putfield 75, 3), (54, .aload_n 0, 1), (55, .invokevirtual 72, 3), (58, .aload_n 0, 1), (59, .getfield 19, 3), (62, .getfield 75, 3), (65, .iconst 1, 1), (66, .isub, 1), (67, .ireturn, 1)]
set_option maxRecDepth 100000 in
theorem t_S_process : ∀ q ∈ T_S_process, decode prog_1_method_5_code q.1 = .ok q.2 := by decide +kernel
theorem d_S_process_0 : decode prog_1_method_5_code 0 = .ok (.aload_n 0, 1) := q_tb t_S_process 0 rfl
theorem d_S_process_1 : decode prog_1_method_5_code 1 = .ok (.getfield 19, 3) := q_tb t_S_process 1 rfl
theorem d_S_process_4 : decode prog_1_method_5_code 4 = .ok (.getfield 75, 3) := q_tb t_S_process 2 rfl
theorem d_S_process_7 : decode prog_1_method_5_code 7 = .ok (.bipush 6, 2) := q_tb t_S_process 3 rfl
theorem d_S_process_9 : decode prog_1_method_5_code 9 = .ok (.if_icmp .lt 5, 3) := q_tb t_S_process 4 rfl
theorem d_S_process_12 : decode prog_1_method_5_code 12 = .ok (.iconst (-1), 1) := q_tb t_S_process 5 rfl
theorem d_S_process_13 : decode prog_1_method_5_code 13 = .ok (.ireturn, 1) := q_tb t_S_process 6 rfl
theorem d_S_process_14 : decode prog_1_method_5_code 14 = .ok (.aload_n 0, 1) := q_tb t_S_process 7 rfl
theorem d_S_process_15 : decode prog_1_method_5_code 15 = .ok (.getfield 28, 3) := q_tb t_S_process 8 rfl
theorem d_S_process_18 : decode prog_1_method_5_code 18 = .ok (.aload_n 0, 1) := q_tb t_S_process 9 rfl
theorem d_S_process_19 : decode prog_1_method_5_code 19 = .ok (.getfield 19, 3) := q_tb t_S_process 10 rfl
theorem d_S_process_22 : decode prog_1_method_5_code 22 = .ok (.getfield 78, 3) := q_tb t_S_process 11 rfl
theorem d_S_process_25 : decode prog_1_method_5_code 25 = .ok (.aload_n 0, 1) := q_tb t_S_process 12 rfl
theorem d_S_process_26 : decode prog_1_method_5_code 26 = .ok (.getfield 19, 3) := q_tb t_S_process 13 rfl
theorem d_S_process_29 : decode prog_1_method_5_code 29 = .ok (.getfield 75, 3) := q_tb t_S_process 14 rfl
theorem d_S_process_32 : decode prog_1_method_5_code 32 = .ok (.aaload, 1) := q_tb t_S_process 15 rfl
theorem d_S_process_33 : decode prog_1_method_5_code 33 = .ok (.invokevirtual 82, 3) := q_tb t_S_process 16 rfl
theorem d_S_process_36 : decode prog_1_method_5_code 36 = .ok (.ifCond .ne 5, 3) := q_tb t_S_process 17 rfl
theorem d_S_process_39 : decode prog_1_method_5_code 39 = .ok (.iconst (-1), 1) := q_tb t_S_process 18 rfl
theorem d_S_process_40 : decode prog_1_method_5_code 40 = .ok (.ireturn, 1) := q_tb t_S_process 19 rfl
theorem d_S_process_41 : decode prog_1_method_5_code 41 = .ok (.aload_n 0, 1) := q_tb t_S_process 20 rfl
theorem d_S_process_42 : decode prog_1_method_5_code 42 = .ok (.getfield 19, 3) := q_tb t_S_process 21 rfl
theorem d_S_process_45 : decode prog_1_method_5_code 45 = .ok (.dup, 1) := q_tb t_S_process 22 rfl
theorem d_S_process_46 : decode prog_1_method_5_code 46 = .ok (.getfield 75, 3) := q_tb t_S_process 23 rfl
theorem d_S_process_49 : decode prog_1_method_5_code 49 = .ok (.iconst 1, 1) := q_tb t_S_process 24 rfl
theorem d_S_process_50 : decode prog_1_method_5_code 50 = .ok (.iadd, 1) := q_tb t_S_process 25 rfl
theorem d_S_process_51 : decode prog_1_method_5_code 51 = .ok (.putfield 75, 3) := q_tb t_S_process 26 rfl
theorem d_S_process_54 : decode prog_1_method_5_code 54 = .ok (.aload_n 0, 1) := q_tb t_S_process 27 rfl
theorem d_S_process_55 : decode prog_1_method_5_code 55 = .ok (.invokevirtual 72, 3) := q_tb t_S_process 28 rfl
theorem d_S_process_58 : decode prog_1_method_5_code 58 = .ok (.aload_n 0, 1) := q_tb t_S_process 29 rfl
theorem d_S_process_59 : decode prog_1_method_5_code 59 = .ok (.getfield 19, 3) := q_tb t_S_process 30 rfl
theorem d_S_process_62 : decode prog_1_method_5_code 62 = .ok (.getfield 75, 3) := q_tb t_S_process 31 rfl
theorem d_S_process_65 : decode prog_1_method_5_code 65 = .ok (.iconst 1, 1) := q_tb t_S_process 32 rfl
theorem d_S_process_66 : decode prog_1_method_5_code 66 = .ok (.isub, 1) := q_tb t_S_process 33 rfl
theorem d_S_process_67 : decode prog_1_method_5_code 67 = .ok (.ireturn, 1) := q_tb t_S_process 34 rfl
def T_S_beginAnew : List (Nat × Instr × Nat) := [(0, .aload_n 0, 1), (1, .getfield 37, 3), (4, .invokevirtual 189, 3), (7, .aload_n 0, 1), (8, .invokevirtual 169, 3), (11, .return_, 1)]
set_option maxRecDepth 100000 in
theorem t_S_beginAnew : ∀ q ∈ T_S_beginAnew, decode prog_1_method_21_code q.1 = .ok q.2 := by decide +kernel
theorem d_S_beginAnew_0 : decode prog_1_method_21_code 0 = .ok (.aload_n 0, 1) := q_tb t_S_beginAnew 0 rfl
theorem d_S_beginAnew_1 : decode prog_1_method_21_code 1 = .ok (.getfield 37, 3) := q_tb t_S_beginAnew 1 rfl
theorem d_S_beginAnew_4 : decode prog_1_method_21_code 4 = .ok (.invokevirtual 189, 3) := q_tb t_S_beginAnew 2 rfl
theorem d_S_beginAnew_7 : decode prog_1_method_21_code 7 = .ok (.aload_n 0, 1) := q_tb t_S_beginAnew 3 rfl
theorem d_S_beginAnew_8 : decode prog_1_method_21_code 8 = .ok (.invokevirtual 169, 3) := q_tb t_S_beginAnew 4 rfl
theorem d_S_beginAnew_11 : decode prog_1_method_21_code 11 = .ok (.return_, 1) := q_tb t_S_beginAnew 5 rfl
def T_S_returnToFirst : List (Nat × Instr × Nat) := [(0, .aload_n 0, 1), (1, .getfield 19, 3), (4, .aload_n 0, 1), (5, .getfield 44, 3), (8, .invokevirtual 192, 3), (11, .aload_n 0, 1), (12, .iconst 0, 1), (13, .putfield 161, 3), (16, .return_, 1)]
set_option maxRecDepth 100000 in
theorem t_S_returnToFirst : ∀ q ∈ T_S_returnToFirst, decode prog_1_method_22_code q.1 = .ok q.2 := by decide +kernel
theorem d_S_returnToFirst_0 : decode prog_1_method_22_code 0 = .ok (.aload_n 0, 1) := q_tb t_S_returnToFirst 0 rfl
theorem d_S_returnToFirst_1 : decode prog_1_method_22_code 1 = .ok (.getfield 19, 3) := q_tb t_S_returnToFirst 1 rfl
theorem d_S_returnToFirst_4 : decode prog_1_method_22_code 4 = .ok (.aload_n 0, 1) := q_tb t_S_returnToFirst 2 rfl
theorem d_S_returnToFirst_5 : decode prog_1_method_22_code 5 = .ok (.getfield 44, 3) := q_tb t_S_returnToFirst 3 rfl
theorem d_S_returnToFirst_8 : decode prog_1_method_22_code 8 = .ok (.invokevirtual 192, 3) := q_tb t_S_returnToFirst 4 rfl
theorem d_S_returnToFirst_11 : decode prog_1_method_22_code 11 = .ok (.aload_n 0, 1) := q_tb t_S_returnToFirst 5 rfl
theorem d_S_returnToFirst_12 : decode prog_1_method_22_code 12 = .ok (.iconst 0, 1) := q_tb t_S_returnToFirst 6 rfl
theorem d_S_returnToFirst_13 : decode prog_1_method_22_code 13 = .ok (.putfield 161, 3) := q_tb t_S_returnToFirst 7 rfl
theorem d_S_returnToFirst_16 : decode prog_1_method_22_code 16 = .ok (.return_, 1) := q_tb t_S_returnToFirst 8 rfl
def T_S_fault : List (Nat × Instr × Nat) := [(0, .aload_n 0, 1), (1, .getfield 28, 3), (4, .getfield 86, 3), (7, .ireturn, 1)]
set_option maxRecDepth 100000 in
theorem t_S_fault : ∀ q ∈ T_S_fault, decode prog_1_method_6_code q.1 = .ok q.2 := by decide +kernel
theorem d_S_fault_0 : decode prog_1_method_6_code 0 = .ok (.aload_n 0, 1) := q_tb t_S_fault 0 rfl
theorem d_S_fault_1 : decode prog_1_method_6_code 1 = .ok (.getfield 28, 3) := q_tb t_S_fault 1 rfl
theorem d_S_fault_4 : decode prog_1_method_6_code 4 = .ok (.getfield 86, 3) := q_tb t_S_fault 2 rfl
theorem d_S_fault_7 : decode prog_1_method_6_code 7 = .ok (.ireturn, 1) := q_tb t_S_fault 3 rfl
def T_S_faultAt : List (Nat × Instr × Nat) := [(0, .aload_n 0, 1), (1, .getfield 28, 3), (4, .getfield 89, 3), (7, .ireturn, 1)]
set_option maxRecDepth 100000 in
theorem t_S_faultAt : ∀ q ∈ T_S_faultAt, decode prog_1_method_7_code q.1 = .ok q.2 := by decide +kernel
theorem d_S_faultAt_0 : decode prog_1_method_7_code 0 = .ok (.aload_n 0, 1) := q_tb t_S_faultAt 0 rfl
theorem d_S_faultAt_1 : decode prog_1_method_7_code 1 = .ok (.getfield 28, 3) := q_tb t_S_faultAt 1 rfl
theorem d_S_faultAt_4 : decode prog_1_method_7_code 4 = .ok (.getfield 89, 3) := q_tb t_S_faultAt 2 rfl
theorem d_S_faultAt_7 : decode prog_1_method_7_code 7 = .ok (.ireturn, 1) := q_tb t_S_faultAt 3 rfl
def T_S_clear : List (Nat × Instr × Nat) := [(0, .aload_n 0, 1), (1, .getfield 19, 3), (4, .getfield 75, 3), (7, .istore_n 1, 1), (8, .aload_n 0, 1), (9, .getfield 19, 3), (12, .invokevirtual 92, 3), (15, .aload_n 0, 1), (16, .invokevirtual 72, 3), (19, .iload_n 1, 1), (20, .ireturn, 1)]
set_option maxRecDepth 100000 in
theorem t_S_clear : ∀ q ∈ T_S_clear, decode prog_1_method_8_code q.1 = .ok q.2 := by decide +kernel
theorem d_S_clear_0 : decode prog_1_method_8_code 0 = .ok (.aload_n 0, 1) := q_tb t_S_clear 0 rfl
theorem d_S_clear_1 : decode prog_1_method_8_code 1 = .ok (.getfield 19, 3) := q_tb t_S_clear 1 rfl
theorem d_S_clear_4 : decode prog_1_method_8_code 4 = .ok (.getfield 75, 3) := q_tb t_S_clear 2 rfl
theorem d_S_clear_7 : decode prog_1_method_8_code 7 = .ok (.istore_n 1, 1) := q_tb t_S_clear 3 rfl
theorem d_S_clear_8 : decode prog_1_method_8_code 8 = .ok (.aload_n 0, 1) := q_tb t_S_clear 4 rfl
theorem d_S_clear_9 : decode prog_1_method_8_code 9 = .ok (.getfield 19, 3) := q_tb t_S_clear 5 rfl
theorem d_S_clear_12 : decode prog_1_method_8_code 12 = .ok (.invokevirtual 92, 3) := q_tb t_S_clear 6 rfl
theorem d_S_clear_15 : decode prog_1_method_8_code 15 = .ok (.aload_n 0, 1) := q_tb t_S_clear 7 rfl
theorem d_S_clear_16 : decode prog_1_method_8_code 16 = .ok (.invokevirtual 72, 3) := q_tb t_S_clear 8 rfl
theorem d_S_clear_19 : decode prog_1_method_8_code 19 = .ok (.iload_n 1, 1) := q_tb t_S_clear 9 rfl
theorem d_S_clear_20 : decode prog_1_method_8_code 20 = .ok (.ireturn, 1) := q_tb t_S_clear 10 rfl
def T_S_product : List (Nat × Instr × Nat) := [(0, .aload_n 0, 1), (1, .getfield 19, 3), (4, .invokevirtual 118, 3), (7, .ifCond .eq 14, 3), (10, .aload_n 0, 1), (11, .getfield 19, 3), (14, .invokevirtual 122, 3), (17, .l2i, 1), (18, .goto 5, 3), (21, .bipush (-2), 2), (23, .ireturn, 1)]
set_option maxRecDepth 100000 in
theorem t_S_product : ∀ q ∈ T_S_product, decode prog_1_method_10_code q.1 = .ok q.2 := by decide +kernel
theorem d_S_product_0 : decode prog_1_method_10_code 0 = .ok (.aload_n 0, 1) := q_tb t_S_product 0 rfl
theorem d_S_product_1 : decode prog_1_method_10_code 1 = .ok (.getfield 19, 3) := q_tb t_S_product 1 rfl
theorem d_S_product_4 : decode prog_1_method_10_code 4 = .ok (.invokevirtual 118, 3) := q_tb t_S_product 2 rfl
theorem d_S_product_7 : decode prog_1_method_10_code 7 = .ok (.ifCond .eq 14, 3) := q_tb t_S_product 3 rfl
theorem d_S_product_10 : decode prog_1_method_10_code 10 = .ok (.aload_n 0, 1) := q_tb t_S_product 4 rfl
theorem d_S_product_11 : decode prog_1_method_10_code 11 = .ok (.getfield 19, 3) := q_tb t_S_product 5 rfl
theorem d_S_product_14 : decode prog_1_method_10_code 14 = .ok (.invokevirtual 122, 3) := q_tb t_S_product 6 rfl
theorem d_S_product_17 : decode prog_1_method_10_code 17 = .ok (.l2i, 1) := q_tb t_S_product 7 rfl
theorem d_S_product_18 : decode prog_1_method_10_code 18 = .ok (.goto 5, 3) := q_tb t_S_product 8 rfl
theorem d_S_product_21 : decode prog_1_method_10_code 21 = .ok (.bipush (-2), 2) := q_tb t_S_product 9 rfl
theorem d_S_product_23 : decode prog_1_method_10_code 23 = .ok (.ireturn, 1) := q_tb t_S_product 10 rfl
def T_S_stuck : List (Nat × Instr × Nat) := [(0, .aload_n 0, 1), (1, .getfield 19, 3), (4, .invokevirtual 118, 3), (7, .ifCond .ne 6, 3), (10, .bipush (-2), 2), (12, .ireturn, 1), (13, .aload_n 0, 1), (14, .getfield 37, 3), (17, .invokevirtual 126, 3), (20, .aload_n 0, 1), (21, .getfield 37, 3), (24, .getfield 129, 3), (27, .ireturn, 1)]
set_option maxRecDepth 100000 in
theorem t_S_stuck : ∀ q ∈ T_S_stuck, decode prog_1_method_11_code q.1 = .ok q.2 := by decide +kernel
theorem d_S_stuck_0 : decode prog_1_method_11_code 0 = .ok (.aload_n 0, 1) := q_tb t_S_stuck 0 rfl
theorem d_S_stuck_1 : decode prog_1_method_11_code 1 = .ok (.getfield 19, 3) := q_tb t_S_stuck 1 rfl
theorem d_S_stuck_4 : decode prog_1_method_11_code 4 = .ok (.invokevirtual 118, 3) := q_tb t_S_stuck 2 rfl
theorem d_S_stuck_7 : decode prog_1_method_11_code 7 = .ok (.ifCond .ne 6, 3) := q_tb t_S_stuck 3 rfl
theorem d_S_stuck_10 : decode prog_1_method_11_code 10 = .ok (.bipush (-2), 2) := q_tb t_S_stuck 4 rfl
theorem d_S_stuck_12 : decode prog_1_method_11_code 12 = .ok (.ireturn, 1) := q_tb t_S_stuck 5 rfl
theorem d_S_stuck_13 : decode prog_1_method_11_code 13 = .ok (.aload_n 0, 1) := q_tb t_S_stuck 6 rfl
theorem d_S_stuck_14 : decode prog_1_method_11_code 14 = .ok (.getfield 37, 3) := q_tb t_S_stuck 7 rfl
theorem d_S_stuck_17 : decode prog_1_method_11_code 17 = .ok (.invokevirtual 126, 3) := q_tb t_S_stuck 8 rfl
theorem d_S_stuck_20 : decode prog_1_method_11_code 20 = .ok (.aload_n 0, 1) := q_tb t_S_stuck 9 rfl
theorem d_S_stuck_21 : decode prog_1_method_11_code 21 = .ok (.getfield 37, 3) := q_tb t_S_stuck 10 rfl
theorem d_S_stuck_24 : decode prog_1_method_11_code 24 = .ok (.getfield 129, 3) := q_tb t_S_stuck 11 rfl
theorem d_S_stuck_27 : decode prog_1_method_11_code 27 = .ok (.ireturn, 1) := q_tb t_S_stuck 12 rfl
def T_Ar_fillJ : List (Nat × Instr × Nat) := [(0, .iconst 0, 1), (1, .istore_n 3, 1), (2, .aload_n 0, 1), (3, .arraylength, 1), (4, .istore 4, 2), (6, .iload_n 3, 1), (7, .iload 4, 2), (9, .if_icmp .ge 13, 3), (12, .aload_n 0, 1), (13, .iload_n 3, 1), (14, .lload_n 1, 1), (15, .lastore, 1), (16, .iinc 3 1, 3), (19, .goto (-13), 3), (22, .return_, 1)]
set_option maxRecDepth 100000 in
theorem t_Ar_fillJ : ∀ q ∈ T_Ar_fillJ, decode prog_23_method_101_code q.1 = .ok q.2 := by decide +kernel
theorem d_Ar_fillJ_0 : decode prog_23_method_101_code 0 = .ok (.iconst 0, 1) := q_tb t_Ar_fillJ 0 rfl
theorem d_Ar_fillJ_1 : decode prog_23_method_101_code 1 = .ok (.istore_n 3, 1) := q_tb t_Ar_fillJ 1 rfl
theorem d_Ar_fillJ_2 : decode prog_23_method_101_code 2 = .ok (.aload_n 0, 1) := q_tb t_Ar_fillJ 2 rfl
theorem d_Ar_fillJ_3 : decode prog_23_method_101_code 3 = .ok (.arraylength, 1) := q_tb t_Ar_fillJ 3 rfl
theorem d_Ar_fillJ_4 : decode prog_23_method_101_code 4 = .ok (.istore 4, 2) := q_tb t_Ar_fillJ 4 rfl
theorem d_Ar_fillJ_6 : decode prog_23_method_101_code 6 = .ok (.iload_n 3, 1) := q_tb t_Ar_fillJ 5 rfl
theorem d_Ar_fillJ_7 : decode prog_23_method_101_code 7 = .ok (.iload 4, 2) := q_tb t_Ar_fillJ 6 rfl
theorem d_Ar_fillJ_9 : decode prog_23_method_101_code 9 = .ok (.if_icmp .ge 13, 3) := q_tb t_Ar_fillJ 7 rfl
theorem d_Ar_fillJ_12 : decode prog_23_method_101_code 12 = .ok (.aload_n 0, 1) := q_tb t_Ar_fillJ 8 rfl
theorem d_Ar_fillJ_13 : decode prog_23_method_101_code 13 = .ok (.iload_n 3, 1) := q_tb t_Ar_fillJ 9 rfl
theorem d_Ar_fillJ_14 : decode prog_23_method_101_code 14 = .ok (.lload_n 1, 1) := q_tb t_Ar_fillJ 10 rfl
theorem d_Ar_fillJ_15 : decode prog_23_method_101_code 15 = .ok (.lastore, 1) := q_tb t_Ar_fillJ 11 rfl
theorem d_Ar_fillJ_16 : decode prog_23_method_101_code 16 = .ok (.iinc 3 1, 3) := q_tb t_Ar_fillJ 12 rfl
theorem d_Ar_fillJ_19 : decode prog_23_method_101_code 19 = .ok (.goto (-13), 3) := q_tb t_Ar_fillJ 13 rfl
theorem d_Ar_fillJ_22 : decode prog_23_method_101_code 22 = .ok (.return_, 1) := q_tb t_Ar_fillJ 14 rfl
def T_S_nthBit : List (Nat × Instr × Nat) := [(0, .lload_n 0, 1), (1, .lstore_n 3, 1), (2, .iconst 0, 1), (3, .istore 5, 2), (5, .iload 5, 2), (7, .iload_n 2, 1), (8, .if_icmp .ge 15, 3), (11, .lload_n 3, 1), (12, .lload_n 3, 1), (13, .lconst 1, 1), (14, .lsub, 1), (15, .land, 1), (16, .lstore_n 3, 1), (17, .iinc 5 1, 3), (20, .goto (-15), 3), (23, .lload_n 3, 1), (24, .lload_n 3, 1), (25, .lneg, 1), (26, .land, 1), (27, .lconst 1, 1), (28, .lsub, 1), (29, .invokestatic 203, 3), (32, .ireturn, 1)]
set_option maxRecDepth 100000 in
theorem t_S_nthBit : ∀ q ∈ T_S_nthBit, decode prog_1_method_25_code q.1 = .ok q.2 := by decide +kernel
theorem d_S_nthBit_0 : decode prog_1_method_25_code 0 = .ok (.lload_n 0, 1) := q_tb t_S_nthBit 0 rfl
theorem d_S_nthBit_1 : decode prog_1_method_25_code 1 = .ok (.lstore_n 3, 1) := q_tb t_S_nthBit 1 rfl
theorem d_S_nthBit_2 : decode prog_1_method_25_code 2 = .ok (.iconst 0, 1) := q_tb t_S_nthBit 2 rfl
theorem d_S_nthBit_3 : decode prog_1_method_25_code 3 = .ok (.istore 5, 2) := q_tb t_S_nthBit 3 rfl
theorem d_S_nthBit_5 : decode prog_1_method_25_code 5 = .ok (.iload 5, 2) := q_tb t_S_nthBit 4 rfl
theorem d_S_nthBit_7 : decode prog_1_method_25_code 7 = .ok (.iload_n 2, 1) := q_tb t_S_nthBit 5 rfl
theorem d_S_nthBit_8 : decode prog_1_method_25_code 8 = .ok (.if_icmp .ge 15, 3) := q_tb t_S_nthBit 6 rfl
theorem d_S_nthBit_11 : decode prog_1_method_25_code 11 = .ok (.lload_n 3, 1) := q_tb t_S_nthBit 7 rfl
theorem d_S_nthBit_12 : decode prog_1_method_25_code 12 = .ok (.lload_n 3, 1) := q_tb t_S_nthBit 8 rfl
theorem d_S_nthBit_13 : decode prog_1_method_25_code 13 = .ok (.lconst 1, 1) := q_tb t_S_nthBit 9 rfl
theorem d_S_nthBit_14 : decode prog_1_method_25_code 14 = .ok (.lsub, 1) := q_tb t_S_nthBit 10 rfl
theorem d_S_nthBit_15 : decode prog_1_method_25_code 15 = .ok (.land, 1) := q_tb t_S_nthBit 11 rfl
theorem d_S_nthBit_16 : decode prog_1_method_25_code 16 = .ok (.lstore_n 3, 1) := q_tb t_S_nthBit 12 rfl
theorem d_S_nthBit_17 : decode prog_1_method_25_code 17 = .ok (.iinc 5 1, 3) := q_tb t_S_nthBit 13 rfl
theorem d_S_nthBit_20 : decode prog_1_method_25_code 20 = .ok (.goto (-15), 3) := q_tb t_S_nthBit 14 rfl
theorem d_S_nthBit_23 : decode prog_1_method_25_code 23 = .ok (.lload_n 3, 1) := q_tb t_S_nthBit 15 rfl
theorem d_S_nthBit_24 : decode prog_1_method_25_code 24 = .ok (.lload_n 3, 1) := q_tb t_S_nthBit 16 rfl
theorem d_S_nthBit_25 : decode prog_1_method_25_code 25 = .ok (.lneg, 1) := q_tb t_S_nthBit 17 rfl
theorem d_S_nthBit_26 : decode prog_1_method_25_code 26 = .ok (.land, 1) := q_tb t_S_nthBit 18 rfl
theorem d_S_nthBit_27 : decode prog_1_method_25_code 27 = .ok (.lconst 1, 1) := q_tb t_S_nthBit 19 rfl
theorem d_S_nthBit_28 : decode prog_1_method_25_code 28 = .ok (.lsub, 1) := q_tb t_S_nthBit 20 rfl
theorem d_S_nthBit_29 : decode prog_1_method_25_code 29 = .ok (.invokestatic 203, 3) := q_tb t_S_nthBit 21 rfl
theorem d_S_nthBit_32 : decode prog_1_method_25_code 32 = .ok (.ireturn, 1) := q_tb t_S_nthBit 22 rfl
def T_Lo_bitCount0 : List (Nat × Instr × Nat) := [(0, .lload_n 0, 1), (1, .lload_n 0, 1), (2, .iconst 1, 1), (3, .lushr, 1), (4, .ldc2_w 314, 3), (7, .land, 1), (8, .lsub, 1), (9, .lstore_n 0, 1), (10, .lload_n 0, 1), (11, .ldc2_w 316, 3), (14, .land, 1), (15, .lload_n 0, 1), (16, .iconst 2, 1), (17, .lushr, 1), (18, .ldc2_w 316, 3), (21, .land, 1), (22, .ladd, 1), (23, .lstore_n 0, 1), (24, .lload_n 0, 1), (25, .lload_n 0, 1), (26, .iconst 4, 1), (27, .lushr, 1), (28, .ladd, 1), (29, .ldc2_w 318, 3), (32, .land, 1), (33, .lstore_n 0, 1), (34, .lload_n 0, 1), (35, .lload_n 0, 1), (36, .bipush 8, 2), (38, .lushr, 1), (39, .ladd, 1), (40, .lstore_n 0, 1), (41, .lload_n 0, 1), (42, .lload_n 0, 1), (43, .bipush 16, 2), (45, .lushr, 1), (46, .ladd, 1), (47, .lstore_n 0, 1), (48, .lload_n 0, 1), (49, .lload_n 0, 1)]
set_option maxRecDepth 100000 in
theorem t_Lo_bitCount0 : ∀ q ∈ T_Lo_bitCount0, decode prog_17_method_50_code q.1 = .ok q.2 := by decide +kernel
theorem d_Lo_bitCount_0 : decode prog_17_method_50_code 0 = .ok (.lload_n 0, 1) := q_tb t_Lo_bitCount0 0 rfl
theorem d_Lo_bitCount_1 : decode prog_17_method_50_code 1 = .ok (.lload_n 0, 1) := q_tb t_Lo_bitCount0 1 rfl
theorem d_Lo_bitCount_2 : decode prog_17_method_50_code 2 = .ok (.iconst 1, 1) := q_tb t_Lo_bitCount0 2 rfl
theorem d_Lo_bitCount_3 : decode prog_17_method_50_code 3 = .ok (.lushr, 1) := q_tb t_Lo_bitCount0 3 rfl
theorem d_Lo_bitCount_4 : decode prog_17_method_50_code 4 = .ok (.ldc2_w 314, 3) := q_tb t_Lo_bitCount0 4 rfl
theorem d_Lo_bitCount_7 : decode prog_17_method_50_code 7 = .ok (.land, 1) := q_tb t_Lo_bitCount0 5 rfl
theorem d_Lo_bitCount_8 : decode prog_17_method_50_code 8 = .ok (.lsub, 1) := q_tb t_Lo_bitCount0 6 rfl
theorem d_Lo_bitCount_9 : decode prog_17_method_50_code 9 = .ok (.lstore_n 0, 1) := q_tb t_Lo_bitCount0 7 rfl
theorem d_Lo_bitCount_10 : decode prog_17_method_50_code 10 = .ok (.lload_n 0, 1) := q_tb t_Lo_bitCount0 8 rfl
theorem d_Lo_bitCount_11 : decode prog_17_method_50_code 11 = .ok (.ldc2_w 316, 3) := q_tb t_Lo_bitCount0 9 rfl
theorem d_Lo_bitCount_14 : decode prog_17_method_50_code 14 = .ok (.land, 1) := q_tb t_Lo_bitCount0 10 rfl
theorem d_Lo_bitCount_15 : decode prog_17_method_50_code 15 = .ok (.lload_n 0, 1) := q_tb t_Lo_bitCount0 11 rfl
theorem d_Lo_bitCount_16 : decode prog_17_method_50_code 16 = .ok (.iconst 2, 1) := q_tb t_Lo_bitCount0 12 rfl
theorem d_Lo_bitCount_17 : decode prog_17_method_50_code 17 = .ok (.lushr, 1) := q_tb t_Lo_bitCount0 13 rfl
theorem d_Lo_bitCount_18 : decode prog_17_method_50_code 18 = .ok (.ldc2_w 316, 3) := q_tb t_Lo_bitCount0 14 rfl
theorem d_Lo_bitCount_21 : decode prog_17_method_50_code 21 = .ok (.land, 1) := q_tb t_Lo_bitCount0 15 rfl
theorem d_Lo_bitCount_22 : decode prog_17_method_50_code 22 = .ok (.ladd, 1) := q_tb t_Lo_bitCount0 16 rfl
theorem d_Lo_bitCount_23 : decode prog_17_method_50_code 23 = .ok (.lstore_n 0, 1) := q_tb t_Lo_bitCount0 17 rfl
theorem d_Lo_bitCount_24 : decode prog_17_method_50_code 24 = .ok (.lload_n 0, 1) := q_tb t_Lo_bitCount0 18 rfl
theorem d_Lo_bitCount_25 : decode prog_17_method_50_code 25 = .ok (.lload_n 0, 1) := q_tb t_Lo_bitCount0 19 rfl
theorem d_Lo_bitCount_26 : decode prog_17_method_50_code 26 = .ok (.iconst 4, 1) := q_tb t_Lo_bitCount0 20 rfl
theorem d_Lo_bitCount_27 : decode prog_17_method_50_code 27 = .ok (.lushr, 1) := q_tb t_Lo_bitCount0 21 rfl
theorem d_Lo_bitCount_28 : decode prog_17_method_50_code 28 = .ok (.ladd, 1) := q_tb t_Lo_bitCount0 22 rfl
theorem d_Lo_bitCount_29 : decode prog_17_method_50_code 29 = .ok (.ldc2_w 318, 3) := q_tb t_Lo_bitCount0 23 rfl
theorem d_Lo_bitCount_32 : decode prog_17_method_50_code 32 = .ok (.land, 1) := q_tb t_Lo_bitCount0 24 rfl
theorem d_Lo_bitCount_33 : decode prog_17_method_50_code 33 = .ok (.lstore_n 0, 1) := q_tb t_Lo_bitCount0 25 rfl
theorem d_Lo_bitCount_34 : decode prog_17_method_50_code 34 = .ok (.lload_n 0, 1) := q_tb t_Lo_bitCount0 26 rfl
theorem d_Lo_bitCount_35 : decode prog_17_method_50_code 35 = .ok (.lload_n 0, 1) := q_tb t_Lo_bitCount0 27 rfl
theorem d_Lo_bitCount_36 : decode prog_17_method_50_code 36 = .ok (.bipush 8, 2) := q_tb t_Lo_bitCount0 28 rfl
theorem d_Lo_bitCount_38 : decode prog_17_method_50_code 38 = .ok (.lushr, 1) := q_tb t_Lo_bitCount0 29 rfl
theorem d_Lo_bitCount_39 : decode prog_17_method_50_code 39 = .ok (.ladd, 1) := q_tb t_Lo_bitCount0 30 rfl
theorem d_Lo_bitCount_40 : decode prog_17_method_50_code 40 = .ok (.lstore_n 0, 1) := q_tb t_Lo_bitCount0 31 rfl
theorem d_Lo_bitCount_41 : decode prog_17_method_50_code 41 = .ok (.lload_n 0, 1) := q_tb t_Lo_bitCount0 32 rfl
theorem d_Lo_bitCount_42 : decode prog_17_method_50_code 42 = .ok (.lload_n 0, 1) := q_tb t_Lo_bitCount0 33 rfl
theorem d_Lo_bitCount_43 : decode prog_17_method_50_code 43 = .ok (.bipush 16, 2) := q_tb t_Lo_bitCount0 34 rfl
theorem d_Lo_bitCount_45 : decode prog_17_method_50_code 45 = .ok (.lushr, 1) := q_tb t_Lo_bitCount0 35 rfl
theorem d_Lo_bitCount_46 : decode prog_17_method_50_code 46 = .ok (.ladd, 1) := q_tb t_Lo_bitCount0 36 rfl
theorem d_Lo_bitCount_47 : decode prog_17_method_50_code 47 = .ok (.lstore_n 0, 1) := q_tb t_Lo_bitCount0 37 rfl
theorem d_Lo_bitCount_48 : decode prog_17_method_50_code 48 = .ok (.lload_n 0, 1) := q_tb t_Lo_bitCount0 38 rfl
theorem d_Lo_bitCount_49 : decode prog_17_method_50_code 49 = .ok (.lload_n 0, 1) := q_tb t_Lo_bitCount0 39 rfl
def T_Lo_bitCount1 : List (Nat × Instr × Nat) := [(50, .bipush 32, 2), (52, .lushr, 1), (53, .ladd, 1), (54, .lstore_n 0, 1), (55, .lload_n 0, 1), (56, .l2i, 1), (57, .bipush 127, 2), (59, .iand, 1), (60, .ireturn, 1)]
set_option maxRecDepth 100000 in
theorem t_Lo_bitCount1 : ∀ q ∈ T_Lo_bitCount1, decode prog_17_method_50_code q.1 = .ok q.2 := by decide +kernel
theorem d_Lo_bitCount_50 : decode prog_17_method_50_code 50 = .ok (.bipush 32, 2) := q_tb t_Lo_bitCount1 0 rfl
theorem d_Lo_bitCount_52 : decode prog_17_method_50_code 52 = .ok (.lushr, 1) := q_tb t_Lo_bitCount1 1 rfl
theorem d_Lo_bitCount_53 : decode prog_17_method_50_code 53 = .ok (.ladd, 1) := q_tb t_Lo_bitCount1 2 rfl
theorem d_Lo_bitCount_54 : decode prog_17_method_50_code 54 = .ok (.lstore_n 0, 1) := q_tb t_Lo_bitCount1 3 rfl
theorem d_Lo_bitCount_55 : decode prog_17_method_50_code 55 = .ok (.lload_n 0, 1) := q_tb t_Lo_bitCount1 4 rfl
theorem d_Lo_bitCount_56 : decode prog_17_method_50_code 56 = .ok (.l2i, 1) := q_tb t_Lo_bitCount1 5 rfl
theorem d_Lo_bitCount_57 : decode prog_17_method_50_code 57 = .ok (.bipush 127, 2) := q_tb t_Lo_bitCount1 6 rfl
theorem d_Lo_bitCount_59 : decode prog_17_method_50_code 59 = .ok (.iand, 1) := q_tb t_Lo_bitCount1 7 rfl
theorem d_Lo_bitCount_60 : decode prog_17_method_50_code 60 = .ok (.ireturn, 1) := q_tb t_Lo_bitCount1 8 rfl
def T_Ma_max : List (Nat × Instr × Nat) := [(0, .iload_n 0, 1), (1, .iload_n 1, 1), (2, .if_icmp .lt 7, 3), (5, .iload_n 0, 1), (6, .goto 4, 3), (9, .iload_n 1, 1), (10, .ireturn, 1)]
set_option maxRecDepth 100000 in
theorem t_Ma_max : ∀ q ∈ T_Ma_max, decode prog_18_method_65_code q.1 = .ok q.2 := by decide +kernel
theorem d_Ma_max_0 : decode prog_18_method_65_code 0 = .ok (.iload_n 0, 1) := q_tb t_Ma_max 0 rfl
theorem d_Ma_max_1 : decode prog_18_method_65_code 1 = .ok (.iload_n 1, 1) := q_tb t_Ma_max 1 rfl
theorem d_Ma_max_2 : decode prog_18_method_65_code 2 = .ok (.if_icmp .lt 7, 3) := q_tb t_Ma_max 2 rfl
theorem d_Ma_max_5 : decode prog_18_method_65_code 5 = .ok (.iload_n 0, 1) := q_tb t_Ma_max 3 rfl
theorem d_Ma_max_6 : decode prog_18_method_65_code 6 = .ok (.goto 4, 3) := q_tb t_Ma_max 4 rfl
theorem d_Ma_max_9 : decode prog_18_method_65_code 9 = .ok (.iload_n 1, 1) := q_tb t_Ma_max 5 rfl
theorem d_Ma_max_10 : decode prog_18_method_65_code 10 = .ok (.ireturn, 1) := q_tb t_Ma_max 6 rfl
def T_S_ended : List (Nat × Instr × Nat) := [(0, .aload_n 0, 1), (1, .getfield 19, 3), (4, .invokevirtual 118, 3), (7, .ifCond .ne 6, 3), (10, .bipush (-2), 2), (12, .ireturn, 1), (13, .aload_n 0, 1), (14, .getfield 37, 3), (17, .invokevirtual 126, 3), (20, .aload_n 0, 1), (21, .getfield 37, 3), (24, .getfield 132, 3), (27, .ireturn, 1)]
set_option maxRecDepth 100000 in
theorem t_S_ended : ∀ q ∈ T_S_ended, decode prog_1_method_12_code q.1 = .ok q.2 := by decide +kernel
theorem d_S_ended_0 : decode prog_1_method_12_code 0 = .ok (.aload_n 0, 1) := q_tb t_S_ended 0 rfl
theorem d_S_ended_1 : decode prog_1_method_12_code 1 = .ok (.getfield 19, 3) := q_tb t_S_ended 1 rfl
theorem d_S_ended_4 : decode prog_1_method_12_code 4 = .ok (.invokevirtual 118, 3) := q_tb t_S_ended 2 rfl
theorem d_S_ended_7 : decode prog_1_method_12_code 7 = .ok (.ifCond .ne 6, 3) := q_tb t_S_ended 3 rfl
theorem d_S_ended_10 : decode prog_1_method_12_code 10 = .ok (.bipush (-2), 2) := q_tb t_S_ended 4 rfl
theorem d_S_ended_12 : decode prog_1_method_12_code 12 = .ok (.ireturn, 1) := q_tb t_S_ended 5 rfl
theorem d_S_ended_13 : decode prog_1_method_12_code 13 = .ok (.aload_n 0, 1) := q_tb t_S_ended 6 rfl
theorem d_S_ended_14 : decode prog_1_method_12_code 14 = .ok (.getfield 37, 3) := q_tb t_S_ended 7 rfl
theorem d_S_ended_17 : decode prog_1_method_12_code 17 = .ok (.invokevirtual 126, 3) := q_tb t_S_ended 8 rfl
theorem d_S_ended_20 : decode prog_1_method_12_code 20 = .ok (.aload_n 0, 1) := q_tb t_S_ended 9 rfl
theorem d_S_ended_21 : decode prog_1_method_12_code 21 = .ok (.getfield 37, 3) := q_tb t_S_ended 10 rfl
theorem d_S_ended_24 : decode prog_1_method_12_code 24 = .ok (.getfield 132, 3) := q_tb t_S_ended 11 rfl
theorem d_S_ended_27 : decode prog_1_method_12_code 27 = .ok (.ireturn, 1) := q_tb t_S_ended 12 rfl
def T_S_moves : List (Nat × Instr × Nat) := [(0, .iconst 0, 1), (1, .istore_n 1, 1), (2, .iconst 0, 1), (3, .istore_n 2, 1), (4, .iload_n 2, 1), (5, .aload_n 0, 1), (6, .getfield 19, 3), (9, .getfield 75, 3), (12, .if_icmp .ge 27, 3), (15, .iload_n 1, 1), (16, .aload_n 0, 1), (17, .getfield 19, 3), (20, .aload_n 0, 1), (21, .getfield 44, 3), (24, .iload_n 2, 1), (25, .invokevirtual 149, 3), (28, .invokestatic 110, 3), (31, .iadd, 1), (32, .istore_n 1, 1), (33, .iinc 2 1, 3), (36, .goto (-32), 3), (39, .iload_n 1, 1), (40, .ireturn, 1)]
set_option maxRecDepth 100000 in
theorem t_S_moves : ∀ q ∈ T_S_moves, decode prog_1_method_15_code q.1 = .ok q.2 := by decide +kernel
theorem d_S_moves_0 : decode prog_1_method_15_code 0 = .ok (.iconst 0, 1) := q_tb t_S_moves 0 rfl
theorem d_S_moves_1 : decode prog_1_method_15_code 1 = .ok (.istore_n 1, 1) := q_tb t_S_moves 1 rfl
theorem d_S_moves_2 : decode prog_1_method_15_code 2 = .ok (.iconst 0, 1) := q_tb t_S_moves 2 rfl
theorem d_S_moves_3 : decode prog_1_method_15_code 3 = .ok (.istore_n 2, 1) := q_tb t_S_moves 3 rfl
theorem d_S_moves_4 : decode prog_1_method_15_code 4 = .ok (.iload_n 2, 1) := q_tb t_S_moves 4 rfl
theorem d_S_moves_5 : decode prog_1_method_15_code 5 = .ok (.aload_n 0, 1) := q_tb t_S_moves 5 rfl
theorem d_S_moves_6 : decode prog_1_method_15_code 6 = .ok (.getfield 19, 3) := q_tb t_S_moves 6 rfl
theorem d_S_moves_9 : decode prog_1_method_15_code 9 = .ok (.getfield 75, 3) := q_tb t_S_moves 7 rfl
theorem d_S_moves_12 : decode prog_1_method_15_code 12 = .ok (.if_icmp .ge 27, 3) := q_tb t_S_moves 8 rfl
theorem d_S_moves_15 : decode prog_1_method_15_code 15 = .ok (.iload_n 1, 1) := q_tb t_S_moves 9 rfl
theorem d_S_moves_16 : decode prog_1_method_15_code 16 = .ok (.aload_n 0, 1) := q_tb t_S_moves 10 rfl
theorem d_S_moves_17 : decode prog_1_method_15_code 17 = .ok (.getfield 19, 3) := q_tb t_S_moves 11 rfl
theorem d_S_moves_20 : decode prog_1_method_15_code 20 = .ok (.aload_n 0, 1) := q_tb t_S_moves 12 rfl
theorem d_S_moves_21 : decode prog_1_method_15_code 21 = .ok (.getfield 44, 3) := q_tb t_S_moves 13 rfl
theorem d_S_moves_24 : decode prog_1_method_15_code 24 = .ok (.iload_n 2, 1) := q_tb t_S_moves 14 rfl
theorem d_S_moves_25 : decode prog_1_method_15_code 25 = .ok (.invokevirtual 149, 3) := q_tb t_S_moves 15 rfl
theorem d_S_moves_28 : decode prog_1_method_15_code 28 = .ok (.invokestatic 110, 3) := q_tb t_S_moves 16 rfl
theorem d_S_moves_31 : decode prog_1_method_15_code 31 = .ok (.iadd, 1) := q_tb t_S_moves 17 rfl
theorem d_S_moves_32 : decode prog_1_method_15_code 32 = .ok (.istore_n 1, 1) := q_tb t_S_moves 18 rfl
theorem d_S_moves_33 : decode prog_1_method_15_code 33 = .ok (.iinc 2 1, 3) := q_tb t_S_moves 19 rfl
theorem d_S_moves_36 : decode prog_1_method_15_code 36 = .ok (.goto (-32), 3) := q_tb t_S_moves 20 rfl
theorem d_S_moves_39 : decode prog_1_method_15_code 39 = .ok (.iload_n 1, 1) := q_tb t_S_moves 21 rfl
theorem d_S_moves_40 : decode prog_1_method_15_code 40 = .ok (.ireturn, 1) := q_tb t_S_moves 22 rfl
def T_In_bitCount0 : List (Nat × Instr × Nat) := [(0, .iload_n 0, 1), (1, .iload_n 0, 1), (2, .iconst 1, 1), (3, .iushr, 1), (4, .ldc_w 265, 3), (7, .iand, 1), (8, .isub, 1), (9, .istore_n 0, 1), (10, .iload_n 0, 1), (11, .ldc_w 266, 3), (14, .iand, 1), (15, .iload_n 0, 1), (16, .iconst 2, 1), (17, .iushr, 1), (18, .ldc_w 266, 3), (21, .iand, 1), (22, .iadd, 1), (23, .istore_n 0, 1), (24, .iload_n 0, 1), (25, .iload_n 0, 1), (26, .iconst 4, 1), (27, .iushr, 1), (28, .iadd, 1), (29, .ldc_w 267, 3), (32, .iand, 1), (33, .istore_n 0, 1), (34, .iload_n 0, 1), (35, .iload_n 0, 1), (36, .bipush 8, 2), (38, .iushr, 1), (39, .iadd, 1), (40, .istore_n 0, 1), (41, .iload_n 0, 1), (42, .iload_n 0, 1), (43, .bipush 16, 2), (45, .iushr, 1), (46, .iadd, 1), (47, .istore_n 0, 1), (48, .iload_n 0, 1), (49, .bipush 63, 2)]
set_option maxRecDepth 100000 in
theorem t_In_bitCount0 : ∀ q ∈ T_In_bitCount0, decode prog_16_method_49_code q.1 = .ok q.2 := by decide +kernel
theorem d_In_bitCount_0 : decode prog_16_method_49_code 0 = .ok (.iload_n 0, 1) := q_tb t_In_bitCount0 0 rfl
theorem d_In_bitCount_1 : decode prog_16_method_49_code 1 = .ok (.iload_n 0, 1) := q_tb t_In_bitCount0 1 rfl
theorem d_In_bitCount_2 : decode prog_16_method_49_code 2 = .ok (.iconst 1, 1) := q_tb t_In_bitCount0 2 rfl
theorem d_In_bitCount_3 : decode prog_16_method_49_code 3 = .ok (.iushr, 1) := q_tb t_In_bitCount0 3 rfl
theorem d_In_bitCount_4 : decode prog_16_method_49_code 4 = .ok (.ldc_w 265, 3) := q_tb t_In_bitCount0 4 rfl
theorem d_In_bitCount_7 : decode prog_16_method_49_code 7 = .ok (.iand, 1) := q_tb t_In_bitCount0 5 rfl
theorem d_In_bitCount_8 : decode prog_16_method_49_code 8 = .ok (.isub, 1) := q_tb t_In_bitCount0 6 rfl
theorem d_In_bitCount_9 : decode prog_16_method_49_code 9 = .ok (.istore_n 0, 1) := q_tb t_In_bitCount0 7 rfl
theorem d_In_bitCount_10 : decode prog_16_method_49_code 10 = .ok (.iload_n 0, 1) := q_tb t_In_bitCount0 8 rfl
theorem d_In_bitCount_11 : decode prog_16_method_49_code 11 = .ok (.ldc_w 266, 3) := q_tb t_In_bitCount0 9 rfl
theorem d_In_bitCount_14 : decode prog_16_method_49_code 14 = .ok (.iand, 1) := q_tb t_In_bitCount0 10 rfl
theorem d_In_bitCount_15 : decode prog_16_method_49_code 15 = .ok (.iload_n 0, 1) := q_tb t_In_bitCount0 11 rfl
theorem d_In_bitCount_16 : decode prog_16_method_49_code 16 = .ok (.iconst 2, 1) := q_tb t_In_bitCount0 12 rfl
theorem d_In_bitCount_17 : decode prog_16_method_49_code 17 = .ok (.iushr, 1) := q_tb t_In_bitCount0 13 rfl
theorem d_In_bitCount_18 : decode prog_16_method_49_code 18 = .ok (.ldc_w 266, 3) := q_tb t_In_bitCount0 14 rfl
theorem d_In_bitCount_21 : decode prog_16_method_49_code 21 = .ok (.iand, 1) := q_tb t_In_bitCount0 15 rfl
theorem d_In_bitCount_22 : decode prog_16_method_49_code 22 = .ok (.iadd, 1) := q_tb t_In_bitCount0 16 rfl
theorem d_In_bitCount_23 : decode prog_16_method_49_code 23 = .ok (.istore_n 0, 1) := q_tb t_In_bitCount0 17 rfl
theorem d_In_bitCount_24 : decode prog_16_method_49_code 24 = .ok (.iload_n 0, 1) := q_tb t_In_bitCount0 18 rfl
theorem d_In_bitCount_25 : decode prog_16_method_49_code 25 = .ok (.iload_n 0, 1) := q_tb t_In_bitCount0 19 rfl
theorem d_In_bitCount_26 : decode prog_16_method_49_code 26 = .ok (.iconst 4, 1) := q_tb t_In_bitCount0 20 rfl
theorem d_In_bitCount_27 : decode prog_16_method_49_code 27 = .ok (.iushr, 1) := q_tb t_In_bitCount0 21 rfl
theorem d_In_bitCount_28 : decode prog_16_method_49_code 28 = .ok (.iadd, 1) := q_tb t_In_bitCount0 22 rfl
theorem d_In_bitCount_29 : decode prog_16_method_49_code 29 = .ok (.ldc_w 267, 3) := q_tb t_In_bitCount0 23 rfl
theorem d_In_bitCount_32 : decode prog_16_method_49_code 32 = .ok (.iand, 1) := q_tb t_In_bitCount0 24 rfl
theorem d_In_bitCount_33 : decode prog_16_method_49_code 33 = .ok (.istore_n 0, 1) := q_tb t_In_bitCount0 25 rfl
theorem d_In_bitCount_34 : decode prog_16_method_49_code 34 = .ok (.iload_n 0, 1) := q_tb t_In_bitCount0 26 rfl
theorem d_In_bitCount_35 : decode prog_16_method_49_code 35 = .ok (.iload_n 0, 1) := q_tb t_In_bitCount0 27 rfl
theorem d_In_bitCount_36 : decode prog_16_method_49_code 36 = .ok (.bipush 8, 2) := q_tb t_In_bitCount0 28 rfl
theorem d_In_bitCount_38 : decode prog_16_method_49_code 38 = .ok (.iushr, 1) := q_tb t_In_bitCount0 29 rfl
theorem d_In_bitCount_39 : decode prog_16_method_49_code 39 = .ok (.iadd, 1) := q_tb t_In_bitCount0 30 rfl
theorem d_In_bitCount_40 : decode prog_16_method_49_code 40 = .ok (.istore_n 0, 1) := q_tb t_In_bitCount0 31 rfl
theorem d_In_bitCount_41 : decode prog_16_method_49_code 41 = .ok (.iload_n 0, 1) := q_tb t_In_bitCount0 32 rfl
theorem d_In_bitCount_42 : decode prog_16_method_49_code 42 = .ok (.iload_n 0, 1) := q_tb t_In_bitCount0 33 rfl
theorem d_In_bitCount_43 : decode prog_16_method_49_code 43 = .ok (.bipush 16, 2) := q_tb t_In_bitCount0 34 rfl
theorem d_In_bitCount_45 : decode prog_16_method_49_code 45 = .ok (.iushr, 1) := q_tb t_In_bitCount0 35 rfl
theorem d_In_bitCount_46 : decode prog_16_method_49_code 46 = .ok (.iadd, 1) := q_tb t_In_bitCount0 36 rfl
theorem d_In_bitCount_47 : decode prog_16_method_49_code 47 = .ok (.istore_n 0, 1) := q_tb t_In_bitCount0 37 rfl
theorem d_In_bitCount_48 : decode prog_16_method_49_code 48 = .ok (.iload_n 0, 1) := q_tb t_In_bitCount0 38 rfl
theorem d_In_bitCount_49 : decode prog_16_method_49_code 49 = .ok (.bipush 63, 2) := q_tb t_In_bitCount0 39 rfl
def T_In_bitCount1 : List (Nat × Instr × Nat) := [(51, .iand, 1), (52, .ireturn, 1)]
set_option maxRecDepth 100000 in
theorem t_In_bitCount1 : ∀ q ∈ T_In_bitCount1, decode prog_16_method_49_code q.1 = .ok q.2 := by decide +kernel
theorem d_In_bitCount_51 : decode prog_16_method_49_code 51 = .ok (.iand, 1) := q_tb t_In_bitCount1 0 rfl
theorem d_In_bitCount_52 : decode prog_16_method_49_code 52 = .ok (.ireturn, 1) := q_tb t_In_bitCount1 1 rfl
def T_S_restart : List (Nat × Instr × Nat) := [(0, .aload_n 0, 1), (1, .getfield 161, 3), (4, .istore_n 1, 1), (5, .aload_n 0, 1), (6, .invokevirtual 169, 3), (9, .iload_n 1, 1), (10, .ireturn, 1)]
set_option maxRecDepth 100000 in
theorem t_S_restart : ∀ q ∈ T_S_restart, decode prog_1_method_17_code q.1 = .ok q.2 := by decide +kernel
theorem d_S_restart_0 : decode prog_1_method_17_code 0 = .ok (.aload_n 0, 1) := q_tb t_S_restart 0 rfl
theorem d_S_restart_1 : decode prog_1_method_17_code 1 = .ok (.getfield 161, 3) := q_tb t_S_restart 1 rfl
theorem d_S_restart_4 : decode prog_1_method_17_code 4 = .ok (.istore_n 1, 1) := q_tb t_S_restart 2 rfl
theorem d_S_restart_5 : decode prog_1_method_17_code 5 = .ok (.aload_n 0, 1) := q_tb t_S_restart 3 rfl
theorem d_S_restart_6 : decode prog_1_method_17_code 6 = .ok (.invokevirtual 169, 3) := q_tb t_S_restart 4 rfl
theorem d_S_restart_9 : decode prog_1_method_17_code 9 = .ok (.iload_n 1, 1) := q_tb t_S_restart 5 rfl
theorem d_S_restart_10 : decode prog_1_method_17_code 10 = .ok (.ireturn, 1) := q_tb t_S_restart 6 rfl
def T_S_feed : List (Nat × Instr × Nat) := [(0, .iload_n 1, 1), (1, .iconst 1, 1), (2, .if_icmp .lt 9, 3), (5, .iload_n 1, 1), (6, .bipush 8, 2), (8, .if_icmp .le 13, 3), (11, .new 48, 3), (14, .dup, 1), (15, .ldc 50, 2), (17, .invokespecial 52, 3), (20, .athrow, 1), (21, .aload_n 0, 1), (22, .getfield 10, 3), (25, .iload_n 1, 1), (26, .lload_n 2, 1), (27, .invokevirtual 55, 3), (30, .ifCond .eq 13, 3), (33, .aload_n 0, 1), (34, .getfield 10, 3), (37, .getfield 59, 3), (40, .goto 4, 3), (43, .iconst (-1), 1), (44, .ireturn, 1)]
set_option maxRecDepth 100000 in
theorem t_S_feed : ∀ q ∈ T_S_feed, decode prog_1_method_2_code q.1 = .ok q.2 := by decide +kernel
theorem d_S_feed_0 : decode prog_1_method_2_code 0 = .ok (.iload_n 1, 1) := q_tb t_S_feed 0 rfl
theorem d_S_feed_1 : decode prog_1_method_2_code 1 = .ok (.iconst 1, 1) := q_tb t_S_feed 1 rfl
theorem d_S_feed_2 : decode prog_1_method_2_code 2 = .ok (.if_icmp .lt 9, 3) := q_tb t_S_feed 2 rfl
theorem d_S_feed_5 : decode prog_1_method_2_code 5 = .ok (.iload_n 1, 1) := q_tb t_S_feed 3 rfl
theorem d_S_feed_6 : decode prog_1_method_2_code 6 = .ok (.bipush 8, 2) := q_tb t_S_feed 4 rfl
theorem d_S_feed_8 : decode prog_1_method_2_code 8 = .ok (.if_icmp .le 13, 3) := q_tb t_S_feed 5 rfl
theorem d_S_feed_11 : decode prog_1_method_2_code 11 = .ok (.new 48, 3) := q_tb t_S_feed 6 rfl
theorem d_S_feed_14 : decode prog_1_method_2_code 14 = .ok (.dup, 1) := q_tb t_S_feed 7 rfl
theorem d_S_feed_15 : decode prog_1_method_2_code 15 = .ok (.ldc 50, 2) := q_tb t_S_feed 8 rfl
theorem d_S_feed_17 : decode prog_1_method_2_code 17 = .ok (.invokespecial 52, 3) := q_tb t_S_feed 9 rfl
theorem d_S_feed_20 : decode prog_1_method_2_code 20 = .ok (.athrow, 1) := q_tb t_S_feed 10 rfl
theorem d_S_feed_21 : decode prog_1_method_2_code 21 = .ok (.aload_n 0, 1) := q_tb t_S_feed 11 rfl
theorem d_S_feed_22 : decode prog_1_method_2_code 22 = .ok (.getfield 10, 3) := q_tb t_S_feed 12 rfl
theorem d_S_feed_25 : decode prog_1_method_2_code 25 = .ok (.iload_n 1, 1) := q_tb t_S_feed 13 rfl
theorem d_S_feed_26 : decode prog_1_method_2_code 26 = .ok (.lload_n 2, 1) := q_tb t_S_feed 14 rfl
theorem d_S_feed_27 : decode prog_1_method_2_code 27 = .ok (.invokevirtual 55, 3) := q_tb t_S_feed 15 rfl
theorem d_S_feed_30 : decode prog_1_method_2_code 30 = .ok (.ifCond .eq 13, 3) := q_tb t_S_feed 16 rfl
theorem d_S_feed_33 : decode prog_1_method_2_code 33 = .ok (.aload_n 0, 1) := q_tb t_S_feed 17 rfl
theorem d_S_feed_34 : decode prog_1_method_2_code 34 = .ok (.getfield 10, 3) := q_tb t_S_feed 18 rfl
theorem d_S_feed_37 : decode prog_1_method_2_code 37 = .ok (.getfield 59, 3) := q_tb t_S_feed 19 rfl
theorem d_S_feed_40 : decode prog_1_method_2_code 40 = .ok (.goto 4, 3) := q_tb t_S_feed 20 rfl
theorem d_S_feed_43 : decode prog_1_method_2_code 43 = .ok (.iconst (-1), 1) := q_tb t_S_feed 21 rfl
theorem d_S_feed_44 : decode prog_1_method_2_code 44 = .ok (.ireturn, 1) := q_tb t_S_feed 22 rfl
def T_S_variable : List (Nat × Instr × Nat) := [(0, .iload_n 1, 1), (1, .iconst 2, 1), (2, .if_icmp .lt 17, 3), (5, .iload_n 1, 1), (6, .iconst 5, 1), (7, .if_icmp .gt 12, 3), (10, .iload_n 2, 1), (11, .ifCond .lt 8, 3), (14, .iload_n 2, 1), (15, .iload_n 1, 1), (16, .if_icmp .lt 13, 3), (19, .new 48, 3), (22, .dup, 1), (23, .ldc 63, 2), (25, .invokespecial 52, 3), (28, .athrow, 1), (29, .aload_n 0, 1), (30, .getfield 19, 3), (33, .getfield 65, 3), (36, .iconst 5, 1), (37, .if_icmp .lt 5, 3), (40, .iconst (-1), 1), (41, .ireturn, 1), (42, .aload_n 0, 1), (43, .getfield 19, 3), (46, .iload_n 1, 1), (47, .iload_n 2, 1), (48, .invokevirtual 68, 3), (51, .aload_n 0, 1), (52, .invokevirtual 72, 3), (55, .aload_n 0, 1), (56, .getfield 19, 3), (59, .getfield 65, 3), (62, .iconst 1, 1), (63, .isub, 1), (64, .ireturn, 1)]
set_option maxRecDepth 100000 in
theorem t_S_variable : ∀ q ∈ T_S_variable, decode prog_1_method_4_code q.1 = .ok q.2 := by decide +kernel
theorem d_S_variable_0 : decode prog_1_method_4_code 0 = .ok (.iload_n 1, 1) := q_tb t_S_variable 0 rfl
theorem d_S_variable_1 : decode prog_1_method_4_code 1 = .ok (.iconst 2, 1) := q_tb t_S_variable 1 rfl
theorem d_S_variable_2 : decode prog_1_method_4_code 2 = .ok (.if_icmp .lt 17, 3) := q_tb t_S_variable 2 rfl
theorem d_S_variable_5 : decode prog_1_method_4_code 5 = .ok (.iload_n 1, 1) := q_tb t_S_variable 3 rfl
theorem d_S_variable_6 : decode prog_1_method_4_code 6 = .ok (.iconst 5, 1) := q_tb t_S_variable 4 rfl
theorem d_S_variable_7 : decode prog_1_method_4_code 7 = .ok (.if_icmp .gt 12, 3) := q_tb t_S_variable 5 rfl
theorem d_S_variable_10 : decode prog_1_method_4_code 10 = .ok (.iload_n 2, 1) := q_tb t_S_variable 6 rfl
theorem d_S_variable_11 : decode prog_1_method_4_code 11 = .ok (.ifCond .lt 8, 3) := q_tb t_S_variable 7 rfl
theorem d_S_variable_14 : decode prog_1_method_4_code 14 = .ok (.iload_n 2, 1) := q_tb t_S_variable 8 rfl
theorem d_S_variable_15 : decode prog_1_method_4_code 15 = .ok (.iload_n 1, 1) := q_tb t_S_variable 9 rfl
theorem d_S_variable_16 : decode prog_1_method_4_code 16 = .ok (.if_icmp .lt 13, 3) := q_tb t_S_variable 10 rfl
theorem d_S_variable_19 : decode prog_1_method_4_code 19 = .ok (.new 48, 3) := q_tb t_S_variable 11 rfl
theorem d_S_variable_22 : decode prog_1_method_4_code 22 = .ok (.dup, 1) := q_tb t_S_variable 12 rfl
theorem d_S_variable_23 : decode prog_1_method_4_code 23 = .ok (.ldc 63, 2) := q_tb t_S_variable 13 rfl
theorem d_S_variable_25 : decode prog_1_method_4_code 25 = .ok (.invokespecial 52, 3) := q_tb t_S_variable 14 rfl
theorem d_S_variable_28 : decode prog_1_method_4_code 28 = .ok (.athrow, 1) := q_tb t_S_variable 15 rfl
theorem d_S_variable_29 : decode prog_1_method_4_code 29 = .ok (.aload_n 0, 1) := q_tb t_S_variable 16 rfl
theorem d_S_variable_30 : decode prog_1_method_4_code 30 = .ok (.getfield 19, 3) := q_tb t_S_variable 17 rfl
theorem d_S_variable_33 : decode prog_1_method_4_code 33 = .ok (.getfield 65, 3) := q_tb t_S_variable 18 rfl
theorem d_S_variable_36 : decode prog_1_method_4_code 36 = .ok (.iconst 5, 1) := q_tb t_S_variable 19 rfl
theorem d_S_variable_37 : decode prog_1_method_4_code 37 = .ok (.if_icmp .lt 5, 3) := q_tb t_S_variable 20 rfl
theorem d_S_variable_40 : decode prog_1_method_4_code 40 = .ok (.iconst (-1), 1) := q_tb t_S_variable 21 rfl
theorem d_S_variable_41 : decode prog_1_method_4_code 41 = .ok (.ireturn, 1) := q_tb t_S_variable 22 rfl
theorem d_S_variable_42 : decode prog_1_method_4_code 42 = .ok (.aload_n 0, 1) := q_tb t_S_variable 23 rfl
theorem d_S_variable_43 : decode prog_1_method_4_code 43 = .ok (.getfield 19, 3) := q_tb t_S_variable 24 rfl
theorem d_S_variable_46 : decode prog_1_method_4_code 46 = .ok (.iload_n 1, 1) := q_tb t_S_variable 25 rfl
theorem d_S_variable_47 : decode prog_1_method_4_code 47 = .ok (.iload_n 2, 1) := q_tb t_S_variable 26 rfl
theorem d_S_variable_48 : decode prog_1_method_4_code 48 = .ok (.invokevirtual 68, 3) := q_tb t_S_variable 27 rfl
theorem d_S_variable_51 : decode prog_1_method_4_code 51 = .ok (.aload_n 0, 1) := q_tb t_S_variable 28 rfl
theorem d_S_variable_52 : decode prog_1_method_4_code 52 = .ok (.invokevirtual 72, 3) := q_tb t_S_variable 29 rfl
theorem d_S_variable_55 : decode prog_1_method_4_code 55 = .ok (.aload_n 0, 1) := q_tb t_S_variable 30 rfl
theorem d_S_variable_56 : decode prog_1_method_4_code 56 = .ok (.getfield 19, 3) := q_tb t_S_variable 31 rfl
theorem d_S_variable_59 : decode prog_1_method_4_code 59 = .ok (.getfield 65, 3) := q_tb t_S_variable 32 rfl
theorem d_S_variable_62 : decode prog_1_method_4_code 62 = .ok (.iconst 1, 1) := q_tb t_S_variable 33 rfl
theorem d_S_variable_63 : decode prog_1_method_4_code 63 = .ok (.isub, 1) := q_tb t_S_variable 34 rfl
theorem d_S_variable_64 : decode prog_1_method_4_code 64 = .ok (.ireturn, 1) := q_tb t_S_variable 35 rfl
def T_S_told : List (Nat × Instr × Nat) := [(0, .iload_n 1, 1), (1, .aload_n 0, 1), (2, .getfield 19, 3), (5, .getfield 75, 3), (8, .invokestatic 95, 3), (11, .aload_n 0, 1), (12, .getfield 19, 3), (15, .getfield 78, 3), (18, .iload_n 1, 1), (19, .aaload, 1), (20, .astore_n 3, 1), (21, .iload_n 2, 1), (22, .tableswitch 44 0 2 #[26, 31, 36], 26), (48, .aload_n 3, 1), (49, .getfield 98, 3), (52, .ireturn, 1), (53, .aload_n 3, 1), (54, .invokevirtual 103, 3), (57, .ireturn, 1), (58, .aload_n 3, 1), (59, .getfield 107, 3), (62, .invokestatic 110, 3), (65, .ireturn, 1), (66, .new 48, 3), (69, .dup, 1), (70, .ldc 116, 2), (72, .invokespecial 52, 3), (75, .athrow, 1)]
set_option maxRecDepth 100000 in
theorem t_S_told : ∀ q ∈ T_S_told, decode prog_1_method_9_code q.1 = .ok q.2 := by decide +kernel
theorem d_S_told_0 : decode prog_1_method_9_code 0 = .ok (.iload_n 1, 1) := q_tb t_S_told 0 rfl
theorem d_S_told_1 : decode prog_1_method_9_code 1 = .ok (.aload_n 0, 1) := q_tb t_S_told 1 rfl
theorem d_S_told_2 : decode prog_1_method_9_code 2 = .ok (.getfield 19, 3) := q_tb t_S_told 2 rfl
theorem d_S_told_5 : decode prog_1_method_9_code 5 = .ok (.getfield 75, 3) := q_tb t_S_told 3 rfl
theorem d_S_told_8 : decode prog_1_method_9_code 8 = .ok (.invokestatic 95, 3) := q_tb t_S_told 4 rfl
theorem d_S_told_11 : decode prog_1_method_9_code 11 = .ok (.aload_n 0, 1) := q_tb t_S_told 5 rfl
theorem d_S_told_12 : decode prog_1_method_9_code 12 = .ok (.getfield 19, 3) := q_tb t_S_told 6 rfl
theorem d_S_told_15 : decode prog_1_method_9_code 15 = .ok (.getfield 78, 3) := q_tb t_S_told 7 rfl
theorem d_S_told_18 : decode prog_1_method_9_code 18 = .ok (.iload_n 1, 1) := q_tb t_S_told 8 rfl
theorem d_S_told_19 : decode prog_1_method_9_code 19 = .ok (.aaload, 1) := q_tb t_S_told 9 rfl
theorem d_S_told_20 : decode prog_1_method_9_code 20 = .ok (.astore_n 3, 1) := q_tb t_S_told 10 rfl
theorem d_S_told_21 : decode prog_1_method_9_code 21 = .ok (.iload_n 2, 1) := q_tb t_S_told 11 rfl
theorem d_S_told_22 : decode prog_1_method_9_code 22 = .ok (.tableswitch 44 0 2 #[26, 31, 36], 26) := q_tb t_S_told 12 rfl
theorem d_S_told_48 : decode prog_1_method_9_code 48 = .ok (.aload_n 3, 1) := q_tb t_S_told 13 rfl
theorem d_S_told_49 : decode prog_1_method_9_code 49 = .ok (.getfield 98, 3) := q_tb t_S_told 14 rfl
theorem d_S_told_52 : decode prog_1_method_9_code 52 = .ok (.ireturn, 1) := q_tb t_S_told 15 rfl
theorem d_S_told_53 : decode prog_1_method_9_code 53 = .ok (.aload_n 3, 1) := q_tb t_S_told 16 rfl
theorem d_S_told_54 : decode prog_1_method_9_code 54 = .ok (.invokevirtual 103, 3) := q_tb t_S_told 17 rfl
theorem d_S_told_57 : decode prog_1_method_9_code 57 = .ok (.ireturn, 1) := q_tb t_S_told 18 rfl
theorem d_S_told_58 : decode prog_1_method_9_code 58 = .ok (.aload_n 3, 1) := q_tb t_S_told 19 rfl
theorem d_S_told_59 : decode prog_1_method_9_code 59 = .ok (.getfield 107, 3) := q_tb t_S_told 20 rfl
theorem d_S_told_62 : decode prog_1_method_9_code 62 = .ok (.invokestatic 110, 3) := q_tb t_S_told 21 rfl
theorem d_S_told_65 : decode prog_1_method_9_code 65 = .ok (.ireturn, 1) := q_tb t_S_told 22 rfl
theorem d_S_told_66 : decode prog_1_method_9_code 66 = .ok (.new 48, 3) := q_tb t_S_told 23 rfl
theorem d_S_told_69 : decode prog_1_method_9_code 69 = .ok (.dup, 1) := q_tb t_S_told 24 rfl
theorem d_S_told_70 : decode prog_1_method_9_code 70 = .ok (.ldc 116, 2) := q_tb t_S_told 25 rfl
theorem d_S_told_72 : decode prog_1_method_9_code 72 = .ok (.invokespecial 52, 3) := q_tb t_S_told 26 rfl
theorem d_S_told_75 : decode prog_1_method_9_code 75 = .ok (.athrow, 1) := q_tb t_S_told 27 rfl
def T_S_checkIndex : List (Nat × Instr × Nat) := [(0, .iload_n 0, 1), (1, .ifCond .lt 8, 3), (4, .iload_n 0, 1), (5, .iload_n 1, 1), (6, .if_icmp .lt 13, 3), (9, .new 164, 3), (12, .dup, 1), (13, .ldc 201, 2), (15, .invokespecial 168, 3), (18, .athrow, 1), (19, .return_, 1)]
set_option maxRecDepth 100000 in
theorem t_S_checkIndex : ∀ q ∈ T_S_checkIndex, decode prog_1_method_24_code q.1 = .ok q.2 := by decide +kernel
theorem d_S_checkIndex_0 : decode prog_1_method_24_code 0 = .ok (.iload_n 0, 1) := q_tb t_S_checkIndex 0 rfl
theorem d_S_checkIndex_1 : decode prog_1_method_24_code 1 = .ok (.ifCond .lt 8, 3) := q_tb t_S_checkIndex 1 rfl
theorem d_S_checkIndex_4 : decode prog_1_method_24_code 4 = .ok (.iload_n 0, 1) := q_tb t_S_checkIndex 2 rfl
theorem d_S_checkIndex_5 : decode prog_1_method_24_code 5 = .ok (.iload_n 1, 1) := q_tb t_S_checkIndex 3 rfl
theorem d_S_checkIndex_6 : decode prog_1_method_24_code 6 = .ok (.if_icmp .lt 13, 3) := q_tb t_S_checkIndex 4 rfl
theorem d_S_checkIndex_9 : decode prog_1_method_24_code 9 = .ok (.new 164, 3) := q_tb t_S_checkIndex 5 rfl
theorem d_S_checkIndex_12 : decode prog_1_method_24_code 12 = .ok (.dup, 1) := q_tb t_S_checkIndex 6 rfl
theorem d_S_checkIndex_13 : decode prog_1_method_24_code 13 = .ok (.ldc 201, 2) := q_tb t_S_checkIndex 7 rfl
theorem d_S_checkIndex_15 : decode prog_1_method_24_code 15 = .ok (.invokespecial 168, 3) := q_tb t_S_checkIndex 8 rfl
theorem d_S_checkIndex_18 : decode prog_1_method_24_code 18 = .ok (.athrow, 1) := q_tb t_S_checkIndex 9 rfl
theorem d_S_checkIndex_19 : decode prog_1_method_24_code 19 = .ok (.return_, 1) := q_tb t_S_checkIndex 10 rfl
def T_S_place : List (Nat × Instr × Nat) := [(0, .aload_n 0, 1), (1, .invokevirtual 135, 3), (4, .aload_n 0, 1), (5, .getfield 37, 3), (8, .invokevirtual 126, 3), (11, .iload_n 1, 1), (12, .aload_n 0, 1), (13, .getfield 37, 3), (16, .getfield 129, 3), (19, .invokestatic 95, 3), (22, .iload_n 2, 1), (23, .aload_n 0, 1), (24, .getfield 19, 3), (27, .getfield 75, 3), (30, .invokestatic 95, 3), (33, .aload_n 0, 1), (34, .getfield 37, 3), (37, .iload_n 1, 1), (38, .invokevirtual 138, 3), (41, .getfield 142, 3), (44, .iload_n 2, 1), (45, .iaload, 1), (46, .ireturn, 1)]
set_option maxRecDepth 100000 in
theorem t_S_place : ∀ q ∈ T_S_place, decode prog_1_method_13_code q.1 = .ok q.2 := by decide +kernel
theorem d_S_place_0 : decode prog_1_method_13_code 0 = .ok (.aload_n 0, 1) := q_tb t_S_place 0 rfl
theorem d_S_place_1 : decode prog_1_method_13_code 1 = .ok (.invokevirtual 135, 3) := q_tb t_S_place 1 rfl
theorem d_S_place_4 : decode prog_1_method_13_code 4 = .ok (.aload_n 0, 1) := q_tb t_S_place 2 rfl
theorem d_S_place_5 : decode prog_1_method_13_code 5 = .ok (.getfield 37, 3) := q_tb t_S_place 3 rfl
theorem d_S_place_8 : decode prog_1_method_13_code 8 = .ok (.invokevirtual 126, 3) := q_tb t_S_place 4 rfl
theorem d_S_place_11 : decode prog_1_method_13_code 11 = .ok (.iload_n 1, 1) := q_tb t_S_place 5 rfl
theorem d_S_place_12 : decode prog_1_method_13_code 12 = .ok (.aload_n 0, 1) := q_tb t_S_place 6 rfl
theorem d_S_place_13 : decode prog_1_method_13_code 13 = .ok (.getfield 37, 3) := q_tb t_S_place 7 rfl
theorem d_S_place_16 : decode prog_1_method_13_code 16 = .ok (.getfield 129, 3) := q_tb t_S_place 8 rfl
theorem d_S_place_19 : decode prog_1_method_13_code 19 = .ok (.invokestatic 95, 3) := q_tb t_S_place 9 rfl
theorem d_S_place_22 : decode prog_1_method_13_code 22 = .ok (.iload_n 2, 1) := q_tb t_S_place 10 rfl
theorem d_S_place_23 : decode prog_1_method_13_code 23 = .ok (.aload_n 0, 1) := q_tb t_S_place 11 rfl
theorem d_S_place_24 : decode prog_1_method_13_code 24 = .ok (.getfield 19, 3) := q_tb t_S_place 12 rfl
theorem d_S_place_27 : decode prog_1_method_13_code 27 = .ok (.getfield 75, 3) := q_tb t_S_place 13 rfl
theorem d_S_place_30 : decode prog_1_method_13_code 30 = .ok (.invokestatic 95, 3) := q_tb t_S_place 14 rfl
theorem d_S_place_33 : decode prog_1_method_13_code 33 = .ok (.aload_n 0, 1) := q_tb t_S_place 15 rfl
theorem d_S_place_34 : decode prog_1_method_13_code 34 = .ok (.getfield 37, 3) := q_tb t_S_place 16 rfl
theorem d_S_place_37 : decode prog_1_method_13_code 37 = .ok (.iload_n 1, 1) := q_tb t_S_place 17 rfl
theorem d_S_place_38 : decode prog_1_method_13_code 38 = .ok (.invokevirtual 138, 3) := q_tb t_S_place 18 rfl
theorem d_S_place_41 : decode prog_1_method_13_code 41 = .ok (.getfield 142, 3) := q_tb t_S_place 19 rfl
theorem d_S_place_44 : decode prog_1_method_13_code 44 = .ok (.iload_n 2, 1) := q_tb t_S_place 20 rfl
theorem d_S_place_45 : decode prog_1_method_13_code 45 = .ok (.iaload, 1) := q_tb t_S_place 21 rfl
theorem d_S_place_46 : decode prog_1_method_13_code 46 = .ok (.ireturn, 1) := q_tb t_S_place 22 rfl
def T_S_checkSearchable : List (Nat × Instr × Nat) := [(0, .aload_n 0, 1), (1, .getfield 19, 3), (4, .invokevirtual 118, 3), (7, .ifCond .ne 13, 3), (10, .new 196, 3), (13, .dup, 1), (14, .ldc 198, 2), (16, .invokespecial 200, 3), (19, .athrow, 1), (20, .return_, 1)]
set_option maxRecDepth 100000 in
theorem t_S_checkSearchable : ∀ q ∈ T_S_checkSearchable, decode prog_1_method_23_code q.1 = .ok q.2 := by decide +kernel
theorem d_S_checkSearchable_0 : decode prog_1_method_23_code 0 = .ok (.aload_n 0, 1) := q_tb t_S_checkSearchable 0 rfl
theorem d_S_checkSearchable_1 : decode prog_1_method_23_code 1 = .ok (.getfield 19, 3) := q_tb t_S_checkSearchable 1 rfl
theorem d_S_checkSearchable_4 : decode prog_1_method_23_code 4 = .ok (.invokevirtual 118, 3) := q_tb t_S_checkSearchable 2 rfl
theorem d_S_checkSearchable_7 : decode prog_1_method_23_code 7 = .ok (.ifCond .ne 13, 3) := q_tb t_S_checkSearchable 3 rfl
theorem d_S_checkSearchable_10 : decode prog_1_method_23_code 10 = .ok (.new 196, 3) := q_tb t_S_checkSearchable 4 rfl
theorem d_S_checkSearchable_13 : decode prog_1_method_23_code 13 = .ok (.dup, 1) := q_tb t_S_checkSearchable 5 rfl
theorem d_S_checkSearchable_14 : decode prog_1_method_23_code 14 = .ok (.ldc 198, 2) := q_tb t_S_checkSearchable 6 rfl
theorem d_S_checkSearchable_16 : decode prog_1_method_23_code 16 = .ok (.invokespecial 200, 3) := q_tb t_S_checkSearchable 7 rfl
theorem d_S_checkSearchable_19 : decode prog_1_method_23_code 19 = .ok (.athrow, 1) := q_tb t_S_checkSearchable 8 rfl
theorem d_S_checkSearchable_20 : decode prog_1_method_23_code 20 = .ok (.return_, 1) := q_tb t_S_checkSearchable 9 rfl
def T_S_value : List (Nat × Instr × Nat) := [(0, .aload_n 0, 1), (1, .invokevirtual 135, 3), (4, .aload_n 0, 1), (5, .getfield 37, 3), (8, .invokevirtual 126, 3), (11, .iload_n 1, 1), (12, .aload_n 0, 1), (13, .getfield 37, 3), (16, .getfield 129, 3), (19, .invokestatic 95, 3), (22, .iload_n 2, 1), (23, .aload_n 0, 1), (24, .getfield 19, 3), (27, .getfield 65, 3), (30, .invokestatic 95, 3), (33, .aload_n 0, 1), (34, .getfield 37, 3), (37, .iload_n 1, 1), (38, .invokevirtual 138, 3), (41, .getfield 146, 3), (44, .iload_n 2, 1), (45, .iaload, 1), (46, .ireturn, 1)]
set_option maxRecDepth 100000 in
theorem t_S_value : ∀ q ∈ T_S_value, decode prog_1_method_14_code q.1 = .ok q.2 := by decide +kernel
theorem d_S_value_0 : decode prog_1_method_14_code 0 = .ok (.aload_n 0, 1) := q_tb t_S_value 0 rfl
theorem d_S_value_1 : decode prog_1_method_14_code 1 = .ok (.invokevirtual 135, 3) := q_tb t_S_value 1 rfl
theorem d_S_value_4 : decode prog_1_method_14_code 4 = .ok (.aload_n 0, 1) := q_tb t_S_value 2 rfl
theorem d_S_value_5 : decode prog_1_method_14_code 5 = .ok (.getfield 37, 3) := q_tb t_S_value 3 rfl
theorem d_S_value_8 : decode prog_1_method_14_code 8 = .ok (.invokevirtual 126, 3) := q_tb t_S_value 4 rfl
theorem d_S_value_11 : decode prog_1_method_14_code 11 = .ok (.iload_n 1, 1) := q_tb t_S_value 5 rfl
theorem d_S_value_12 : decode prog_1_method_14_code 12 = .ok (.aload_n 0, 1) := q_tb t_S_value 6 rfl
theorem d_S_value_13 : decode prog_1_method_14_code 13 = .ok (.getfield 37, 3) := q_tb t_S_value 7 rfl
theorem d_S_value_16 : decode prog_1_method_14_code 16 = .ok (.getfield 129, 3) := q_tb t_S_value 8 rfl
theorem d_S_value_19 : decode prog_1_method_14_code 19 = .ok (.invokestatic 95, 3) := q_tb t_S_value 9 rfl
theorem d_S_value_22 : decode prog_1_method_14_code 22 = .ok (.iload_n 2, 1) := q_tb t_S_value 10 rfl
theorem d_S_value_23 : decode prog_1_method_14_code 23 = .ok (.aload_n 0, 1) := q_tb t_S_value 11 rfl
theorem d_S_value_24 : decode prog_1_method_14_code 24 = .ok (.getfield 19, 3) := q_tb t_S_value 12 rfl
theorem d_S_value_27 : decode prog_1_method_14_code 27 = .ok (.getfield 65, 3) := q_tb t_S_value 13 rfl
theorem d_S_value_30 : decode prog_1_method_14_code 30 = .ok (.invokestatic 95, 3) := q_tb t_S_value 14 rfl
theorem d_S_value_33 : decode prog_1_method_14_code 33 = .ok (.aload_n 0, 1) := q_tb t_S_value 15 rfl
theorem d_S_value_34 : decode prog_1_method_14_code 34 = .ok (.getfield 37, 3) := q_tb t_S_value 16 rfl
theorem d_S_value_37 : decode prog_1_method_14_code 37 = .ok (.iload_n 1, 1) := q_tb t_S_value 17 rfl
theorem d_S_value_38 : decode prog_1_method_14_code 38 = .ok (.invokevirtual 138, 3) := q_tb t_S_value 18 rfl
theorem d_S_value_41 : decode prog_1_method_14_code 41 = .ok (.getfield 146, 3) := q_tb t_S_value 19 rfl
theorem d_S_value_44 : decode prog_1_method_14_code 44 = .ok (.iload_n 2, 1) := q_tb t_S_value 20 rfl
theorem d_S_value_45 : decode prog_1_method_14_code 45 = .ok (.iaload, 1) := q_tb t_S_value 21 rfl
theorem d_S_value_46 : decode prog_1_method_14_code 46 = .ok (.ireturn, 1) := q_tb t_S_value 22 rfl
def T_S_move0 : List (Nat × Instr × Nat) := [(0, .iload_n 1, 1), (1, .istore_n 2, 1), (2, .iconst 0, 1), (3, .istore_n 3, 1), (4, .iload_n 3, 1), (5, .aload_n 0, 1), (6, .getfield 19, 3), (9, .getfield 75, 3), (12, .if_icmp .ge 86, 3), (15, .iload_n 2, 1), (16, .ifCond .lt 82, 3), (19, .aload_n 0, 1), (20, .getfield 19, 3), (23, .aload_n 0, 1), (24, .getfield 44, 3), (27, .iload_n 3, 1), (28, .invokevirtual 149, 3), (31, .istore 4, 2), (33, .iload 4, 2), (35, .invokestatic 110, 3), (38, .istore 5, 2), (40, .iload_n 2, 1), (41, .iload 5, 2), (43, .if_icmp .ge 44, 3), (46, .iload 4, 2), (48, .i2l, 1), (49, .iload_n 2, 1), (50, .invokestatic 153, 3), (53, .istore 6, 2), (55, .aload_n 0, 1), (56, .getfield 19, 3), (59, .aload_n 0, 1), (60, .getfield 44, 3), (63, .iload_n 3, 1), (64, .iload 6, 2), (66, .invokevirtual 157, 3), (69, .aload_n 0, 1), (70, .dup, 1), (71, .getfield 161, 3), (74, .iconst 1, 1)]
set_option maxRecDepth 100000 in
theorem t_S_move0 : ∀ q ∈ T_S_move0, decode prog_1_method_16_code q.1 = .ok q.2 := by decide +kernel
theorem d_S_move_0 : decode prog_1_method_16_code 0 = .ok (.iload_n 1, 1) := q_tb t_S_move0 0 rfl
theorem d_S_move_1 : decode prog_1_method_16_code 1 = .ok (.istore_n 2, 1) := q_tb t_S_move0 1 rfl
theorem d_S_move_2 : decode prog_1_method_16_code 2 = .ok (.iconst 0, 1) := q_tb t_S_move0 2 rfl
theorem d_S_move_3 : decode prog_1_method_16_code 3 = .ok (.istore_n 3, 1) := q_tb t_S_move0 3 rfl
theorem d_S_move_4 : decode prog_1_method_16_code 4 = .ok (.iload_n 3, 1) := q_tb t_S_move0 4 rfl
theorem d_S_move_5 : decode prog_1_method_16_code 5 = .ok (.aload_n 0, 1) := q_tb t_S_move0 5 rfl
theorem d_S_move_6 : decode prog_1_method_16_code 6 = .ok (.getfield 19, 3) := q_tb t_S_move0 6 rfl
theorem d_S_move_9 : decode prog_1_method_16_code 9 = .ok (.getfield 75, 3) := q_tb t_S_move0 7 rfl
theorem d_S_move_12 : decode prog_1_method_16_code 12 = .ok (.if_icmp .ge 86, 3) := q_tb t_S_move0 8 rfl
theorem d_S_move_15 : decode prog_1_method_16_code 15 = .ok (.iload_n 2, 1) := q_tb t_S_move0 9 rfl
theorem d_S_move_16 : decode prog_1_method_16_code 16 = .ok (.ifCond .lt 82, 3) := q_tb t_S_move0 10 rfl
theorem d_S_move_19 : decode prog_1_method_16_code 19 = .ok (.aload_n 0, 1) := q_tb t_S_move0 11 rfl
theorem d_S_move_20 : decode prog_1_method_16_code 20 = .ok (.getfield 19, 3) := q_tb t_S_move0 12 rfl
theorem d_S_move_23 : decode prog_1_method_16_code 23 = .ok (.aload_n 0, 1) := q_tb t_S_move0 13 rfl
theorem d_S_move_24 : decode prog_1_method_16_code 24 = .ok (.getfield 44, 3) := q_tb t_S_move0 14 rfl
theorem d_S_move_27 : decode prog_1_method_16_code 27 = .ok (.iload_n 3, 1) := q_tb t_S_move0 15 rfl
theorem d_S_move_28 : decode prog_1_method_16_code 28 = .ok (.invokevirtual 149, 3) := q_tb t_S_move0 16 rfl
theorem d_S_move_31 : decode prog_1_method_16_code 31 = .ok (.istore 4, 2) := q_tb t_S_move0 17 rfl
theorem d_S_move_33 : decode prog_1_method_16_code 33 = .ok (.iload 4, 2) := q_tb t_S_move0 18 rfl
theorem d_S_move_35 : decode prog_1_method_16_code 35 = .ok (.invokestatic 110, 3) := q_tb t_S_move0 19 rfl
theorem d_S_move_38 : decode prog_1_method_16_code 38 = .ok (.istore 5, 2) := q_tb t_S_move0 20 rfl
theorem d_S_move_40 : decode prog_1_method_16_code 40 = .ok (.iload_n 2, 1) := q_tb t_S_move0 21 rfl
theorem d_S_move_41 : decode prog_1_method_16_code 41 = .ok (.iload 5, 2) := q_tb t_S_move0 22 rfl
theorem d_S_move_43 : decode prog_1_method_16_code 43 = .ok (.if_icmp .ge 44, 3) := q_tb t_S_move0 23 rfl
theorem d_S_move_46 : decode prog_1_method_16_code 46 = .ok (.iload 4, 2) := q_tb t_S_move0 24 rfl
theorem d_S_move_48 : decode prog_1_method_16_code 48 = .ok (.i2l, 1) := q_tb t_S_move0 25 rfl
theorem d_S_move_49 : decode prog_1_method_16_code 49 = .ok (.iload_n 2, 1) := q_tb t_S_move0 26 rfl
theorem d_S_move_50 : decode prog_1_method_16_code 50 = .ok (.invokestatic 153, 3) := q_tb t_S_move0 27 rfl
theorem d_S_move_53 : decode prog_1_method_16_code 53 = .ok (.istore 6, 2) := q_tb t_S_move0 28 rfl
theorem d_S_move_55 : decode prog_1_method_16_code 55 = .ok (.aload_n 0, 1) := q_tb t_S_move0 29 rfl
theorem d_S_move_56 : decode prog_1_method_16_code 56 = .ok (.getfield 19, 3) := q_tb t_S_move0 30 rfl
theorem d_S_move_59 : decode prog_1_method_16_code 59 = .ok (.aload_n 0, 1) := q_tb t_S_move0 31 rfl
theorem d_S_move_60 : decode prog_1_method_16_code 60 = .ok (.getfield 44, 3) := q_tb t_S_move0 32 rfl
theorem d_S_move_63 : decode prog_1_method_16_code 63 = .ok (.iload_n 3, 1) := q_tb t_S_move0 33 rfl
theorem d_S_move_64 : decode prog_1_method_16_code 64 = .ok (.iload 6, 2) := q_tb t_S_move0 34 rfl
theorem d_S_move_66 : decode prog_1_method_16_code 66 = .ok (.invokevirtual 157, 3) := q_tb t_S_move0 35 rfl
theorem d_S_move_69 : decode prog_1_method_16_code 69 = .ok (.aload_n 0, 1) := q_tb t_S_move0 36 rfl
theorem d_S_move_70 : decode prog_1_method_16_code 70 = .ok (.dup, 1) := q_tb t_S_move0 37 rfl
theorem d_S_move_71 : decode prog_1_method_16_code 71 = .ok (.getfield 161, 3) := q_tb t_S_move0 38 rfl
theorem d_S_move_74 : decode prog_1_method_16_code 74 = .ok (.iconst 1, 1) := q_tb t_S_move0 39 rfl
def T_S_move1 : List (Nat × Instr × Nat) := [(75, .iadd, 1), (76, .putfield 161, 3), (79, .bipush 16, 2), (81, .iload_n 3, 1), (82, .imul, 1), (83, .iload 6, 2), (85, .iadd, 1), (86, .ireturn, 1), (87, .iload_n 2, 1), (88, .iload 5, 2), (90, .isub, 1), (91, .istore_n 2, 1), (92, .iinc 3 1, 3), (95, .goto (-91), 3), (98, .new 164, 3), (101, .dup, 1), (102, .ldc 166, 2), (104, .invokespecial 168, 3), (107, .athrow, 1)]
set_option maxRecDepth 100000 in
theorem t_S_move1 : ∀ q ∈ T_S_move1, decode prog_1_method_16_code q.1 = .ok q.2 := by decide +kernel
theorem d_S_move_75 : decode prog_1_method_16_code 75 = .ok (.iadd, 1) := q_tb t_S_move1 0 rfl
theorem d_S_move_76 : decode prog_1_method_16_code 76 = .ok (.putfield 161, 3) := q_tb t_S_move1 1 rfl
theorem d_S_move_79 : decode prog_1_method_16_code 79 = .ok (.bipush 16, 2) := q_tb t_S_move1 2 rfl
theorem d_S_move_81 : decode prog_1_method_16_code 81 = .ok (.iload_n 3, 1) := q_tb t_S_move1 3 rfl
theorem d_S_move_82 : decode prog_1_method_16_code 82 = .ok (.imul, 1) := q_tb t_S_move1 4 rfl
theorem d_S_move_83 : decode prog_1_method_16_code 83 = .ok (.iload 6, 2) := q_tb t_S_move1 5 rfl
theorem d_S_move_85 : decode prog_1_method_16_code 85 = .ok (.iadd, 1) := q_tb t_S_move1 6 rfl
theorem d_S_move_86 : decode prog_1_method_16_code 86 = .ok (.ireturn, 1) := q_tb t_S_move1 7 rfl
theorem d_S_move_87 : decode prog_1_method_16_code 87 = .ok (.iload_n 2, 1) := q_tb t_S_move1 8 rfl
theorem d_S_move_88 : decode prog_1_method_16_code 88 = .ok (.iload 5, 2) := q_tb t_S_move1 9 rfl
theorem d_S_move_90 : decode prog_1_method_16_code 90 = .ok (.isub, 1) := q_tb t_S_move1 10 rfl
theorem d_S_move_91 : decode prog_1_method_16_code 91 = .ok (.istore_n 2, 1) := q_tb t_S_move1 11 rfl
theorem d_S_move_92 : decode prog_1_method_16_code 92 = .ok (.iinc 3 1, 3) := q_tb t_S_move1 12 rfl
theorem d_S_move_95 : decode prog_1_method_16_code 95 = .ok (.goto (-91), 3) := q_tb t_S_move1 13 rfl
theorem d_S_move_98 : decode prog_1_method_16_code 98 = .ok (.new 164, 3) := q_tb t_S_move1 14 rfl
theorem d_S_move_101 : decode prog_1_method_16_code 101 = .ok (.dup, 1) := q_tb t_S_move1 15 rfl
theorem d_S_move_102 : decode prog_1_method_16_code 102 = .ok (.ldc 166, 2) := q_tb t_S_move1 16 rfl
theorem d_S_move_104 : decode prog_1_method_16_code 104 = .ok (.invokespecial 168, 3) := q_tb t_S_move1 17 rfl
theorem d_S_move_107 : decode prog_1_method_16_code 107 = .ok (.athrow, 1) := q_tb t_S_move1 18 rfl
def T_S_now : List (Nat × Instr × Nat) := [(0, .iload_n 1, 1), (1, .aload_n 0, 1), (2, .getfield 19, 3), (5, .getfield 75, 3), (8, .invokestatic 95, 3), (11, .aload_n 0, 1), (12, .getfield 44, 3), (15, .getfield 142, 3), (18, .iload_n 1, 1), (19, .iaload, 1), (20, .ireturn, 1)]
set_option maxRecDepth 100000 in
theorem t_S_now : ∀ q ∈ T_S_now, decode prog_1_method_18_code q.1 = .ok q.2 := by decide +kernel
theorem d_S_now_0 : decode prog_1_method_18_code 0 = .ok (.iload_n 1, 1) := q_tb t_S_now 0 rfl
theorem d_S_now_1 : decode prog_1_method_18_code 1 = .ok (.aload_n 0, 1) := q_tb t_S_now 1 rfl
theorem d_S_now_2 : decode prog_1_method_18_code 2 = .ok (.getfield 19, 3) := q_tb t_S_now 2 rfl
theorem d_S_now_5 : decode prog_1_method_18_code 5 = .ok (.getfield 75, 3) := q_tb t_S_now 3 rfl
theorem d_S_now_8 : decode prog_1_method_18_code 8 = .ok (.invokestatic 95, 3) := q_tb t_S_now 4 rfl
theorem d_S_now_11 : decode prog_1_method_18_code 11 = .ok (.aload_n 0, 1) := q_tb t_S_now 5 rfl
theorem d_S_now_12 : decode prog_1_method_18_code 12 = .ok (.getfield 44, 3) := q_tb t_S_now 6 rfl
theorem d_S_now_15 : decode prog_1_method_18_code 15 = .ok (.getfield 142, 3) := q_tb t_S_now 7 rfl
theorem d_S_now_18 : decode prog_1_method_18_code 18 = .ok (.iload_n 1, 1) := q_tb t_S_now 8 rfl
theorem d_S_now_19 : decode prog_1_method_18_code 19 = .ok (.iaload, 1) := q_tb t_S_now 9 rfl
theorem d_S_now_20 : decode prog_1_method_18_code 20 = .ok (.ireturn, 1) := q_tb t_S_now 10 rfl
def T_S_has : List (Nat × Instr × Nat) := [(0, .iload_n 1, 1), (1, .aload_n 0, 1), (2, .getfield 19, 3), (5, .getfield 65, 3), (8, .invokestatic 95, 3), (11, .aload_n 0, 1), (12, .getfield 44, 3), (15, .getfield 146, 3), (18, .iload_n 1, 1), (19, .iaload, 1), (20, .ireturn, 1)]
set_option maxRecDepth 100000 in
theorem t_S_has : ∀ q ∈ T_S_has, decode prog_1_method_19_code q.1 = .ok q.2 := by decide +kernel
theorem d_S_has_0 : decode prog_1_method_19_code 0 = .ok (.iload_n 1, 1) := q_tb t_S_has 0 rfl
theorem d_S_has_1 : decode prog_1_method_19_code 1 = .ok (.aload_n 0, 1) := q_tb t_S_has 1 rfl
theorem d_S_has_2 : decode prog_1_method_19_code 2 = .ok (.getfield 19, 3) := q_tb t_S_has 2 rfl
theorem d_S_has_5 : decode prog_1_method_19_code 5 = .ok (.getfield 65, 3) := q_tb t_S_has 3 rfl
theorem d_S_has_8 : decode prog_1_method_19_code 8 = .ok (.invokestatic 95, 3) := q_tb t_S_has 4 rfl
theorem d_S_has_11 : decode prog_1_method_19_code 11 = .ok (.aload_n 0, 1) := q_tb t_S_has 5 rfl
theorem d_S_has_12 : decode prog_1_method_19_code 12 = .ok (.getfield 44, 3) := q_tb t_S_has 6 rfl
theorem d_S_has_15 : decode prog_1_method_19_code 15 = .ok (.getfield 146, 3) := q_tb t_S_has 7 rfl
theorem d_S_has_18 : decode prog_1_method_19_code 18 = .ok (.iload_n 1, 1) := q_tb t_S_has 8 rfl
theorem d_S_has_19 : decode prog_1_method_19_code 19 = .ok (.iaload, 1) := q_tb t_S_has 9 rfl
theorem d_S_has_20 : decode prog_1_method_19_code 20 = .ok (.ireturn, 1) := q_tb t_S_has 10 rfl
def T_S_falls : List (Nat × Instr × Nat) := [(0, .aload_n 0, 1), (1, .invokevirtual 135, 3), (4, .aload_n 0, 1), (5, .getfield 37, 3), (8, .invokevirtual 172, 3), (11, .aload_n 0, 1), (12, .getfield 37, 3), (15, .getfield 175, 3), (18, .aload_n 0, 1), (19, .getfield 19, 3), (22, .aload_n 0, 1), (23, .getfield 44, 3), (26, .invokevirtual 179, 3), (29, .invokevirtual 183, 3), (32, .ireturn, 1)]
set_option maxRecDepth 100000 in
theorem t_S_falls : ∀ q ∈ T_S_falls, decode prog_1_method_20_code q.1 = .ok q.2 := by decide +kernel
theorem d_S_falls_0 : decode prog_1_method_20_code 0 = .ok (.aload_n 0, 1) := q_tb t_S_falls 0 rfl
theorem d_S_falls_1 : decode prog_1_method_20_code 1 = .ok (.invokevirtual 135, 3) := q_tb t_S_falls 1 rfl
theorem d_S_falls_4 : decode prog_1_method_20_code 4 = .ok (.aload_n 0, 1) := q_tb t_S_falls 2 rfl
theorem d_S_falls_5 : decode prog_1_method_20_code 5 = .ok (.getfield 37, 3) := q_tb t_S_falls 3 rfl
theorem d_S_falls_8 : decode prog_1_method_20_code 8 = .ok (.invokevirtual 172, 3) := q_tb t_S_falls 4 rfl
theorem d_S_falls_11 : decode prog_1_method_20_code 11 = .ok (.aload_n 0, 1) := q_tb t_S_falls 5 rfl
theorem d_S_falls_12 : decode prog_1_method_20_code 12 = .ok (.getfield 37, 3) := q_tb t_S_falls 6 rfl
theorem d_S_falls_15 : decode prog_1_method_20_code 15 = .ok (.getfield 175, 3) := q_tb t_S_falls 7 rfl
theorem d_S_falls_18 : decode prog_1_method_20_code 18 = .ok (.aload_n 0, 1) := q_tb t_S_falls 8 rfl
theorem d_S_falls_19 : decode prog_1_method_20_code 19 = .ok (.getfield 19, 3) := q_tb t_S_falls 9 rfl
theorem d_S_falls_22 : decode prog_1_method_20_code 22 = .ok (.aload_n 0, 1) := q_tb t_S_falls 10 rfl
theorem d_S_falls_23 : decode prog_1_method_20_code 23 = .ok (.getfield 44, 3) := q_tb t_S_falls 11 rfl
theorem d_S_falls_26 : decode prog_1_method_20_code 26 = .ok (.invokevirtual 179, 3) := q_tb t_S_falls 12 rfl
theorem d_S_falls_29 : decode prog_1_method_20_code 29 = .ok (.invokevirtual 183, 3) := q_tb t_S_falls 13 rfl
theorem d_S_falls_32 : decode prog_1_method_20_code 32 = .ok (.ireturn, 1) := q_tb t_S_falls 14 rfl
end NAMES3
end
section
/-! names, 3d: decode tables, printed by gen/names2.py -/
section NAMES3
def T_Mo_init0 : List (Nat × Instr × Nat) := [(0, .aload_n 0, 1), (1, .invokespecial 1, 3), (4, .aload_n 0, 1), (5, .bipush 100, 2), (7, .newarray .int, 2), (9, .putfield 7, 3), (12, .aload_n 0, 1), (13, .iconst (-1), 1), (14, .putfield 13, 3), (17, .aload_n 0, 1), (18, .iconst 5, 1), (19, .newarray .int, 2), (21, .putfield 17, 3), (24, .aload_n 0, 1), (25, .iconst 5, 1), (26, .newarray .int, 2), (28, .putfield 20, 3), (31, .aload_n 0, 1), (32, .bipush 6, 2), (34, .newarray .int, 2), (36, .putfield 23, 3), (39, .aload_n 0, 1), (40, .bipush 6, 2), (42, .newarray .int, 2), (44, .putfield 26, 3), (47, .aload_n 0, 1), (48, .bipush 78, 2), (50, .newarray .int, 2), (52, .putfield 29, 3), (55, .aload_n 0, 1), (56, .bipush 78, 2), (58, .newarray .int, 2), (60, .putfield 32, 3), (63, .aload_n 0, 1), (64, .bipush 78, 2), (66, .newarray .int, 2), (68, .putfield 35, 3), (71, .aload_n 0, 1), (72, .bipush 78, 2), (74, .newarray .int, 2)]
set_option maxRecDepth 100000 in
theorem t_Mo_init0 : ∀ q ∈ T_Mo_init0, decode prog_11_method_1_code q.1 = .ok q.2 := by decide +kernel
theorem d_Mo_init_0 : decode prog_11_method_1_code 0 = .ok (.aload_n 0, 1) := q_tb t_Mo_init0 0 rfl
theorem d_Mo_init_1 : decode prog_11_method_1_code 1 = .ok (.invokespecial 1, 3) := q_tb t_Mo_init0 1 rfl
theorem d_Mo_init_4 : decode prog_11_method_1_code 4 = .ok (.aload_n 0, 1) := q_tb t_Mo_init0 2 rfl
theorem d_Mo_init_5 : decode prog_11_method_1_code 5 = .ok (.bipush 100, 2) := q_tb t_Mo_init0 3 rfl
theorem d_Mo_init_7 : decode prog_11_method_1_code 7 = .ok (.newarray .int, 2) := q_tb t_Mo_init0 4 rfl
theorem d_Mo_init_9 : decode prog_11_method_1_code 9 = .ok (.putfield 7, 3) := q_tb t_Mo_init0 5 rfl
theorem d_Mo_init_12 : decode prog_11_method_1_code 12 = .ok (.aload_n 0, 1) := q_tb t_Mo_init0 6 rfl
theorem d_Mo_init_13 : decode prog_11_method_1_code 13 = .ok (.iconst (-1), 1) := q_tb t_Mo_init0 7 rfl
theorem d_Mo_init_14 : decode prog_11_method_1_code 14 = .ok (.putfield 13, 3) := q_tb t_Mo_init0 8 rfl
theorem d_Mo_init_17 : decode prog_11_method_1_code 17 = .ok (.aload_n 0, 1) := q_tb t_Mo_init0 9 rfl
theorem d_Mo_init_18 : decode prog_11_method_1_code 18 = .ok (.iconst 5, 1) := q_tb t_Mo_init0 10 rfl
theorem d_Mo_init_19 : decode prog_11_method_1_code 19 = .ok (.newarray .int, 2) := q_tb t_Mo_init0 11 rfl
theorem d_Mo_init_21 : decode prog_11_method_1_code 21 = .ok (.putfield 17, 3) := q_tb t_Mo_init0 12 rfl
theorem d_Mo_init_24 : decode prog_11_method_1_code 24 = .ok (.aload_n 0, 1) := q_tb t_Mo_init0 13 rfl
theorem d_Mo_init_25 : decode prog_11_method_1_code 25 = .ok (.iconst 5, 1) := q_tb t_Mo_init0 14 rfl
theorem d_Mo_init_26 : decode prog_11_method_1_code 26 = .ok (.newarray .int, 2) := q_tb t_Mo_init0 15 rfl
theorem d_Mo_init_28 : decode prog_11_method_1_code 28 = .ok (.putfield 20, 3) := q_tb t_Mo_init0 16 rfl
theorem d_Mo_init_31 : decode prog_11_method_1_code 31 = .ok (.aload_n 0, 1) := q_tb t_Mo_init0 17 rfl
theorem d_Mo_init_32 : decode prog_11_method_1_code 32 = .ok (.bipush 6, 2) := q_tb t_Mo_init0 18 rfl
theorem d_Mo_init_34 : decode prog_11_method_1_code 34 = .ok (.newarray .int, 2) := q_tb t_Mo_init0 19 rfl
theorem d_Mo_init_36 : decode prog_11_method_1_code 36 = .ok (.putfield 23, 3) := q_tb t_Mo_init0 20 rfl
theorem d_Mo_init_39 : decode prog_11_method_1_code 39 = .ok (.aload_n 0, 1) := q_tb t_Mo_init0 21 rfl
theorem d_Mo_init_40 : decode prog_11_method_1_code 40 = .ok (.bipush 6, 2) := q_tb t_Mo_init0 22 rfl
theorem d_Mo_init_42 : decode prog_11_method_1_code 42 = .ok (.newarray .int, 2) := q_tb t_Mo_init0 23 rfl
theorem d_Mo_init_44 : decode prog_11_method_1_code 44 = .ok (.putfield 26, 3) := q_tb t_Mo_init0 24 rfl
theorem d_Mo_init_47 : decode prog_11_method_1_code 47 = .ok (.aload_n 0, 1) := q_tb t_Mo_init0 25 rfl
theorem d_Mo_init_48 : decode prog_11_method_1_code 48 = .ok (.bipush 78, 2) := q_tb t_Mo_init0 26 rfl
theorem d_Mo_init_50 : decode prog_11_method_1_code 50 = .ok (.newarray .int, 2) := q_tb t_Mo_init0 27 rfl
theorem d_Mo_init_52 : decode prog_11_method_1_code 52 = .ok (.putfield 29, 3) := q_tb t_Mo_init0 28 rfl
theorem d_Mo_init_55 : decode prog_11_method_1_code 55 = .ok (.aload_n 0, 1) := q_tb t_Mo_init0 29 rfl
theorem d_Mo_init_56 : decode prog_11_method_1_code 56 = .ok (.bipush 78, 2) := q_tb t_Mo_init0 30 rfl
theorem d_Mo_init_58 : decode prog_11_method_1_code 58 = .ok (.newarray .int, 2) := q_tb t_Mo_init0 31 rfl
theorem d_Mo_init_60 : decode prog_11_method_1_code 60 = .ok (.putfield 32, 3) := q_tb t_Mo_init0 32 rfl
theorem d_Mo_init_63 : decode prog_11_method_1_code 63 = .ok (.aload_n 0, 1) := q_tb t_Mo_init0 33 rfl
theorem d_Mo_init_64 : decode prog_11_method_1_code 64 = .ok (.bipush 78, 2) := q_tb t_Mo_init0 34 rfl
theorem d_Mo_init_66 : decode prog_11_method_1_code 66 = .ok (.newarray .int, 2) := q_tb t_Mo_init0 35 rfl
theorem d_Mo_init_68 : decode prog_11_method_1_code 68 = .ok (.putfield 35, 3) := q_tb t_Mo_init0 36 rfl
theorem d_Mo_init_71 : decode prog_11_method_1_code 71 = .ok (.aload_n 0, 1) := q_tb t_Mo_init0 37 rfl
theorem d_Mo_init_72 : decode prog_11_method_1_code 72 = .ok (.bipush 78, 2) := q_tb t_Mo_init0 38 rfl
theorem d_Mo_init_74 : decode prog_11_method_1_code 74 = .ok (.newarray .int, 2) := q_tb t_Mo_init0 39 rfl
def T_Mo_init1 : List (Nat × Instr × Nat) := [(76, .putfield 38, 3), (79, .aload_n 0, 1), (80, .bipush 13, 2), (82, .newarray .int, 2), (84, .putfield 41, 3), (87, .aload_n 0, 1), (88, .bipush 13, 2), (90, .newarray .int, 2), (92, .putfield 44, 3), (95, .aload_n 0, 1), (96, .bipush 13, 2), (98, .newarray .int, 2), (100, .putfield 47, 3), (103, .aload_n 0, 1), (104, .bipush 13, 2), (106, .newarray .int, 2), (108, .putfield 50, 3), (111, .aload_n 0, 1), (112, .bipush 14, 2), (114, .newarray .boolean, 2), (116, .putfield 53, 3), (119, .aload_n 0, 1), (120, .bipush 14, 2), (122, .newarray .int, 2), (124, .putfield 57, 3), (127, .aload_n 0, 1), (128, .bipush 14, 2), (130, .newarray .int, 2), (132, .putfield 60, 3), (135, .aload_n 0, 1), (136, .bipush 14, 2), (138, .newarray .boolean, 2), (140, .putfield 63, 3), (143, .aload_n 0, 1), (144, .bipush 14, 2), (146, .newarray .int, 2), (148, .putfield 66, 3), (151, .aload_n 0, 1), (152, .bipush 14, 2), (154, .newarray .int, 2)]
set_option maxRecDepth 100000 in
theorem t_Mo_init1 : ∀ q ∈ T_Mo_init1, decode prog_11_method_1_code q.1 = .ok q.2 := by decide +kernel
theorem d_Mo_init_76 : decode prog_11_method_1_code 76 = .ok (.putfield 38, 3) := q_tb t_Mo_init1 0 rfl
theorem d_Mo_init_79 : decode prog_11_method_1_code 79 = .ok (.aload_n 0, 1) := q_tb t_Mo_init1 1 rfl
theorem d_Mo_init_80 : decode prog_11_method_1_code 80 = .ok (.bipush 13, 2) := q_tb t_Mo_init1 2 rfl
theorem d_Mo_init_82 : decode prog_11_method_1_code 82 = .ok (.newarray .int, 2) := q_tb t_Mo_init1 3 rfl
theorem d_Mo_init_84 : decode prog_11_method_1_code 84 = .ok (.putfield 41, 3) := q_tb t_Mo_init1 4 rfl
theorem d_Mo_init_87 : decode prog_11_method_1_code 87 = .ok (.aload_n 0, 1) := q_tb t_Mo_init1 5 rfl
theorem d_Mo_init_88 : decode prog_11_method_1_code 88 = .ok (.bipush 13, 2) := q_tb t_Mo_init1 6 rfl
theorem d_Mo_init_90 : decode prog_11_method_1_code 90 = .ok (.newarray .int, 2) := q_tb t_Mo_init1 7 rfl
theorem d_Mo_init_92 : decode prog_11_method_1_code 92 = .ok (.putfield 44, 3) := q_tb t_Mo_init1 8 rfl
theorem d_Mo_init_95 : decode prog_11_method_1_code 95 = .ok (.aload_n 0, 1) := q_tb t_Mo_init1 9 rfl
theorem d_Mo_init_96 : decode prog_11_method_1_code 96 = .ok (.bipush 13, 2) := q_tb t_Mo_init1 10 rfl
theorem d_Mo_init_98 : decode prog_11_method_1_code 98 = .ok (.newarray .int, 2) := q_tb t_Mo_init1 11 rfl
theorem d_Mo_init_100 : decode prog_11_method_1_code 100 = .ok (.putfield 47, 3) := q_tb t_Mo_init1 12 rfl
theorem d_Mo_init_103 : decode prog_11_method_1_code 103 = .ok (.aload_n 0, 1) := q_tb t_Mo_init1 13 rfl
theorem d_Mo_init_104 : decode prog_11_method_1_code 104 = .ok (.bipush 13, 2) := q_tb t_Mo_init1 14 rfl
theorem d_Mo_init_106 : decode prog_11_method_1_code 106 = .ok (.newarray .int, 2) := q_tb t_Mo_init1 15 rfl
theorem d_Mo_init_108 : decode prog_11_method_1_code 108 = .ok (.putfield 50, 3) := q_tb t_Mo_init1 16 rfl
theorem d_Mo_init_111 : decode prog_11_method_1_code 111 = .ok (.aload_n 0, 1) := q_tb t_Mo_init1 17 rfl
theorem d_Mo_init_112 : decode prog_11_method_1_code 112 = .ok (.bipush 14, 2) := q_tb t_Mo_init1 18 rfl
theorem d_Mo_init_114 : decode prog_11_method_1_code 114 = .ok (.newarray .boolean, 2) := q_tb t_Mo_init1 19 rfl
theorem d_Mo_init_116 : decode prog_11_method_1_code 116 = .ok (.putfield 53, 3) := q_tb t_Mo_init1 20 rfl
theorem d_Mo_init_119 : decode prog_11_method_1_code 119 = .ok (.aload_n 0, 1) := q_tb t_Mo_init1 21 rfl
theorem d_Mo_init_120 : decode prog_11_method_1_code 120 = .ok (.bipush 14, 2) := q_tb t_Mo_init1 22 rfl
theorem d_Mo_init_122 : decode prog_11_method_1_code 122 = .ok (.newarray .int, 2) := q_tb t_Mo_init1 23 rfl
theorem d_Mo_init_124 : decode prog_11_method_1_code 124 = .ok (.putfield 57, 3) := q_tb t_Mo_init1 24 rfl
theorem d_Mo_init_127 : decode prog_11_method_1_code 127 = .ok (.aload_n 0, 1) := q_tb t_Mo_init1 25 rfl
theorem d_Mo_init_128 : decode prog_11_method_1_code 128 = .ok (.bipush 14, 2) := q_tb t_Mo_init1 26 rfl
theorem d_Mo_init_130 : decode prog_11_method_1_code 130 = .ok (.newarray .int, 2) := q_tb t_Mo_init1 27 rfl
theorem d_Mo_init_132 : decode prog_11_method_1_code 132 = .ok (.putfield 60, 3) := q_tb t_Mo_init1 28 rfl
theorem d_Mo_init_135 : decode prog_11_method_1_code 135 = .ok (.aload_n 0, 1) := q_tb t_Mo_init1 29 rfl
theorem d_Mo_init_136 : decode prog_11_method_1_code 136 = .ok (.bipush 14, 2) := q_tb t_Mo_init1 30 rfl
theorem d_Mo_init_138 : decode prog_11_method_1_code 138 = .ok (.newarray .boolean, 2) := q_tb t_Mo_init1 31 rfl
theorem d_Mo_init_140 : decode prog_11_method_1_code 140 = .ok (.putfield 63, 3) := q_tb t_Mo_init1 32 rfl
theorem d_Mo_init_143 : decode prog_11_method_1_code 143 = .ok (.aload_n 0, 1) := q_tb t_Mo_init1 33 rfl
theorem d_Mo_init_144 : decode prog_11_method_1_code 144 = .ok (.bipush 14, 2) := q_tb t_Mo_init1 34 rfl
theorem d_Mo_init_146 : decode prog_11_method_1_code 146 = .ok (.newarray .int, 2) := q_tb t_Mo_init1 35 rfl
theorem d_Mo_init_148 : decode prog_11_method_1_code 148 = .ok (.putfield 66, 3) := q_tb t_Mo_init1 36 rfl
theorem d_Mo_init_151 : decode prog_11_method_1_code 151 = .ok (.aload_n 0, 1) := q_tb t_Mo_init1 37 rfl
theorem d_Mo_init_152 : decode prog_11_method_1_code 152 = .ok (.bipush 14, 2) := q_tb t_Mo_init1 38 rfl
theorem d_Mo_init_154 : decode prog_11_method_1_code 154 = .ok (.newarray .int, 2) := q_tb t_Mo_init1 39 rfl
def T_Mo_init2 : List (Nat × Instr × Nat) := [(156, .putfield 69, 3), (159, .aload_n 0, 1), (160, .bipush 11, 2), (162, .newarray .int, 2), (164, .putfield 72, 3), (167, .aload_n 0, 1), (168, .bipush 11, 2), (170, .newarray .int, 2), (172, .putfield 75, 3), (175, .aload_n 0, 1), (176, .bipush 11, 2), (178, .newarray .int, 2), (180, .putfield 78, 3), (183, .aload_n 0, 1), (184, .sipush 30001, 3), (187, .newarray .boolean, 2), (189, .putfield 81, 3), (192, .aload_n 0, 1), (193, .sipush 30001, 3), (196, .newarray .int, 2), (198, .putfield 84, 3), (201, .aload_n 0, 1), (202, .sipush 30001, 3), (205, .newarray .int, 2), (207, .putfield 87, 3), (210, .return_, 1)]
set_option maxRecDepth 100000 in
theorem t_Mo_init2 : ∀ q ∈ T_Mo_init2, decode prog_11_method_1_code q.1 = .ok q.2 := by decide +kernel
theorem d_Mo_init_156 : decode prog_11_method_1_code 156 = .ok (.putfield 69, 3) := q_tb t_Mo_init2 0 rfl
theorem d_Mo_init_159 : decode prog_11_method_1_code 159 = .ok (.aload_n 0, 1) := q_tb t_Mo_init2 1 rfl
theorem d_Mo_init_160 : decode prog_11_method_1_code 160 = .ok (.bipush 11, 2) := q_tb t_Mo_init2 2 rfl
theorem d_Mo_init_162 : decode prog_11_method_1_code 162 = .ok (.newarray .int, 2) := q_tb t_Mo_init2 3 rfl
theorem d_Mo_init_164 : decode prog_11_method_1_code 164 = .ok (.putfield 72, 3) := q_tb t_Mo_init2 4 rfl
theorem d_Mo_init_167 : decode prog_11_method_1_code 167 = .ok (.aload_n 0, 1) := q_tb t_Mo_init2 5 rfl
theorem d_Mo_init_168 : decode prog_11_method_1_code 168 = .ok (.bipush 11, 2) := q_tb t_Mo_init2 6 rfl
theorem d_Mo_init_170 : decode prog_11_method_1_code 170 = .ok (.newarray .int, 2) := q_tb t_Mo_init2 7 rfl
theorem d_Mo_init_172 : decode prog_11_method_1_code 172 = .ok (.putfield 75, 3) := q_tb t_Mo_init2 8 rfl
theorem d_Mo_init_175 : decode prog_11_method_1_code 175 = .ok (.aload_n 0, 1) := q_tb t_Mo_init2 9 rfl
theorem d_Mo_init_176 : decode prog_11_method_1_code 176 = .ok (.bipush 11, 2) := q_tb t_Mo_init2 10 rfl
theorem d_Mo_init_178 : decode prog_11_method_1_code 178 = .ok (.newarray .int, 2) := q_tb t_Mo_init2 11 rfl
theorem d_Mo_init_180 : decode prog_11_method_1_code 180 = .ok (.putfield 78, 3) := q_tb t_Mo_init2 12 rfl
theorem d_Mo_init_183 : decode prog_11_method_1_code 183 = .ok (.aload_n 0, 1) := q_tb t_Mo_init2 13 rfl
theorem d_Mo_init_184 : decode prog_11_method_1_code 184 = .ok (.sipush 30001, 3) := q_tb t_Mo_init2 14 rfl
theorem d_Mo_init_187 : decode prog_11_method_1_code 187 = .ok (.newarray .boolean, 2) := q_tb t_Mo_init2 15 rfl
theorem d_Mo_init_189 : decode prog_11_method_1_code 189 = .ok (.putfield 81, 3) := q_tb t_Mo_init2 16 rfl
theorem d_Mo_init_192 : decode prog_11_method_1_code 192 = .ok (.aload_n 0, 1) := q_tb t_Mo_init2 17 rfl
theorem d_Mo_init_193 : decode prog_11_method_1_code 193 = .ok (.sipush 30001, 3) := q_tb t_Mo_init2 18 rfl
theorem d_Mo_init_196 : decode prog_11_method_1_code 196 = .ok (.newarray .int, 2) := q_tb t_Mo_init2 19 rfl
theorem d_Mo_init_198 : decode prog_11_method_1_code 198 = .ok (.putfield 84, 3) := q_tb t_Mo_init2 20 rfl
theorem d_Mo_init_201 : decode prog_11_method_1_code 201 = .ok (.aload_n 0, 1) := q_tb t_Mo_init2 21 rfl
theorem d_Mo_init_202 : decode prog_11_method_1_code 202 = .ok (.sipush 30001, 3) := q_tb t_Mo_init2 22 rfl
theorem d_Mo_init_205 : decode prog_11_method_1_code 205 = .ok (.newarray .int, 2) := q_tb t_Mo_init2 23 rfl
theorem d_Mo_init_207 : decode prog_11_method_1_code 207 = .ok (.putfield 87, 3) := q_tb t_Mo_init2 24 rfl
theorem d_Mo_init_210 : decode prog_11_method_1_code 210 = .ok (.return_, 1) := q_tb t_Mo_init2 25 rfl
def T_Mo_thrown : List (Nat × Instr × Nat) := [(0, .aload_n 0, 1), (1, .getfield 90, 3), (4, .ireturn, 1)]
set_option maxRecDepth 100000 in
theorem t_Mo_thrown : ∀ q ∈ T_Mo_thrown, decode prog_11_method_2_code q.1 = .ok q.2 := by decide +kernel
theorem d_Mo_thrown_0 : decode prog_11_method_2_code 0 = .ok (.aload_n 0, 1) := q_tb t_Mo_thrown 0 rfl
theorem d_Mo_thrown_1 : decode prog_11_method_2_code 1 = .ok (.getfield 90, 3) := q_tb t_Mo_thrown 1 rfl
theorem d_Mo_thrown_4 : decode prog_11_method_2_code 4 = .ok (.ireturn, 1) := q_tb t_Mo_thrown 2 rfl
def T_Mo_feed0 : List (Nat × Instr × Nat) := [(0, .aload_n 0, 1), (1, .iload_n 1, 1), (2, .iconst 1, 1), (3, .if_icmp .lt 9, 3), (6, .iload_n 1, 1), (7, .bipush 8, 2), (9, .if_icmp .le 7, 3), (12, .iconst 1, 1), (13, .goto 4, 3), (16, .iconst 0, 1), (17, .putfield 90, 3), (20, .aload_n 0, 1), (21, .getfield 90, 3), (24, .ifCond .le 5, 3), (27, .iconst 0, 1), (28, .ireturn, 1), (29, .aload_n 0, 1), (30, .getfield 93, 3), (33, .iload_n 1, 1), (34, .iadd, 1), (35, .bipush 100, 2), (37, .if_icmp .le 5, 3), (40, .iconst (-1), 1), (41, .ireturn, 1), (42, .iconst 0, 1), (43, .istore 4, 2), (45, .iload 4, 2), (47, .iload_n 1, 1), (48, .if_icmp .ge 40, 3), (51, .aload_n 0, 1), (52, .getfield 7, 3), (55, .aload_n 0, 1), (56, .getfield 93, 3), (59, .lload_n 2, 1), (60, .bipush 8, 2), (62, .iload 4, 2), (64, .imul, 1), (65, .lshr, 1), (66, .ldc2_w 96, 3), (69, .land, 1)]
set_option maxRecDepth 100000 in
theorem t_Mo_feed0 : ∀ q ∈ T_Mo_feed0, decode prog_11_method_3_code q.1 = .ok q.2 := by decide +kernel
theorem d_Mo_feed_0 : decode prog_11_method_3_code 0 = .ok (.aload_n 0, 1) := q_tb t_Mo_feed0 0 rfl
theorem d_Mo_feed_1 : decode prog_11_method_3_code 1 = .ok (.iload_n 1, 1) := q_tb t_Mo_feed0 1 rfl
theorem d_Mo_feed_2 : decode prog_11_method_3_code 2 = .ok (.iconst 1, 1) := q_tb t_Mo_feed0 2 rfl
theorem d_Mo_feed_3 : decode prog_11_method_3_code 3 = .ok (.if_icmp .lt 9, 3) := q_tb t_Mo_feed0 3 rfl
theorem d_Mo_feed_6 : decode prog_11_method_3_code 6 = .ok (.iload_n 1, 1) := q_tb t_Mo_feed0 4 rfl
theorem d_Mo_feed_7 : decode prog_11_method_3_code 7 = .ok (.bipush 8, 2) := q_tb t_Mo_feed0 5 rfl
theorem d_Mo_feed_9 : decode prog_11_method_3_code 9 = .ok (.if_icmp .le 7, 3) := q_tb t_Mo_feed0 6 rfl
theorem d_Mo_feed_12 : decode prog_11_method_3_code 12 = .ok (.iconst 1, 1) := q_tb t_Mo_feed0 7 rfl
theorem d_Mo_feed_13 : decode prog_11_method_3_code 13 = .ok (.goto 4, 3) := q_tb t_Mo_feed0 8 rfl
theorem d_Mo_feed_16 : decode prog_11_method_3_code 16 = .ok (.iconst 0, 1) := q_tb t_Mo_feed0 9 rfl
theorem d_Mo_feed_17 : decode prog_11_method_3_code 17 = .ok (.putfield 90, 3) := q_tb t_Mo_feed0 10 rfl
theorem d_Mo_feed_20 : decode prog_11_method_3_code 20 = .ok (.aload_n 0, 1) := q_tb t_Mo_feed0 11 rfl
theorem d_Mo_feed_21 : decode prog_11_method_3_code 21 = .ok (.getfield 90, 3) := q_tb t_Mo_feed0 12 rfl
theorem d_Mo_feed_24 : decode prog_11_method_3_code 24 = .ok (.ifCond .le 5, 3) := q_tb t_Mo_feed0 13 rfl
theorem d_Mo_feed_27 : decode prog_11_method_3_code 27 = .ok (.iconst 0, 1) := q_tb t_Mo_feed0 14 rfl
theorem d_Mo_feed_28 : decode prog_11_method_3_code 28 = .ok (.ireturn, 1) := q_tb t_Mo_feed0 15 rfl
theorem d_Mo_feed_29 : decode prog_11_method_3_code 29 = .ok (.aload_n 0, 1) := q_tb t_Mo_feed0 16 rfl
theorem d_Mo_feed_30 : decode prog_11_method_3_code 30 = .ok (.getfield 93, 3) := q_tb t_Mo_feed0 17 rfl
theorem d_Mo_feed_33 : decode prog_11_method_3_code 33 = .ok (.iload_n 1, 1) := q_tb t_Mo_feed0 18 rfl
theorem d_Mo_feed_34 : decode prog_11_method_3_code 34 = .ok (.iadd, 1) := q_tb t_Mo_feed0 19 rfl
theorem d_Mo_feed_35 : decode prog_11_method_3_code 35 = .ok (.bipush 100, 2) := q_tb t_Mo_feed0 20 rfl
theorem d_Mo_feed_37 : decode prog_11_method_3_code 37 = .ok (.if_icmp .le 5, 3) := q_tb t_Mo_feed0 21 rfl
theorem d_Mo_feed_40 : decode prog_11_method_3_code 40 = .ok (.iconst (-1), 1) := q_tb t_Mo_feed0 22 rfl
theorem d_Mo_feed_41 : decode prog_11_method_3_code 41 = .ok (.ireturn, 1) := q_tb t_Mo_feed0 23 rfl
theorem d_Mo_feed_42 : decode prog_11_method_3_code 42 = .ok (.iconst 0, 1) := q_tb t_Mo_feed0 24 rfl
theorem d_Mo_feed_43 : decode prog_11_method_3_code 43 = .ok (.istore 4, 2) := q_tb t_Mo_feed0 25 rfl
theorem d_Mo_feed_45 : decode prog_11_method_3_code 45 = .ok (.iload 4, 2) := q_tb t_Mo_feed0 26 rfl
theorem d_Mo_feed_47 : decode prog_11_method_3_code 47 = .ok (.iload_n 1, 1) := q_tb t_Mo_feed0 27 rfl
theorem d_Mo_feed_48 : decode prog_11_method_3_code 48 = .ok (.if_icmp .ge 40, 3) := q_tb t_Mo_feed0 28 rfl
theorem d_Mo_feed_51 : decode prog_11_method_3_code 51 = .ok (.aload_n 0, 1) := q_tb t_Mo_feed0 29 rfl
theorem d_Mo_feed_52 : decode prog_11_method_3_code 52 = .ok (.getfield 7, 3) := q_tb t_Mo_feed0 30 rfl
theorem d_Mo_feed_55 : decode prog_11_method_3_code 55 = .ok (.aload_n 0, 1) := q_tb t_Mo_feed0 31 rfl
theorem d_Mo_feed_56 : decode prog_11_method_3_code 56 = .ok (.getfield 93, 3) := q_tb t_Mo_feed0 32 rfl
theorem d_Mo_feed_59 : decode prog_11_method_3_code 59 = .ok (.lload_n 2, 1) := q_tb t_Mo_feed0 33 rfl
theorem d_Mo_feed_60 : decode prog_11_method_3_code 60 = .ok (.bipush 8, 2) := q_tb t_Mo_feed0 34 rfl
theorem d_Mo_feed_62 : decode prog_11_method_3_code 62 = .ok (.iload 4, 2) := q_tb t_Mo_feed0 35 rfl
theorem d_Mo_feed_64 : decode prog_11_method_3_code 64 = .ok (.imul, 1) := q_tb t_Mo_feed0 36 rfl
theorem d_Mo_feed_65 : decode prog_11_method_3_code 65 = .ok (.lshr, 1) := q_tb t_Mo_feed0 37 rfl
theorem d_Mo_feed_66 : decode prog_11_method_3_code 66 = .ok (.ldc2_w 96, 3) := q_tb t_Mo_feed0 38 rfl
theorem d_Mo_feed_69 : decode prog_11_method_3_code 69 = .ok (.land, 1) := q_tb t_Mo_feed0 39 rfl
def T_Mo_feed1 : List (Nat × Instr × Nat) := [(70, .l2i, 1), (71, .iastore, 1), (72, .aload_n 0, 1), (73, .dup, 1), (74, .getfield 93, 3), (77, .iconst 1, 1), (78, .iadd, 1), (79, .putfield 93, 3), (82, .iinc 4 1, 3), (85, .goto (-40), 3), (88, .aload_n 0, 1), (89, .getfield 93, 3), (92, .ireturn, 1)]
set_option maxRecDepth 100000 in
theorem t_Mo_feed1 : ∀ q ∈ T_Mo_feed1, decode prog_11_method_3_code q.1 = .ok q.2 := by decide +kernel
theorem d_Mo_feed_70 : decode prog_11_method_3_code 70 = .ok (.l2i, 1) := q_tb t_Mo_feed1 0 rfl
theorem d_Mo_feed_71 : decode prog_11_method_3_code 71 = .ok (.iastore, 1) := q_tb t_Mo_feed1 1 rfl
theorem d_Mo_feed_72 : decode prog_11_method_3_code 72 = .ok (.aload_n 0, 1) := q_tb t_Mo_feed1 2 rfl
theorem d_Mo_feed_73 : decode prog_11_method_3_code 73 = .ok (.dup, 1) := q_tb t_Mo_feed1 3 rfl
theorem d_Mo_feed_74 : decode prog_11_method_3_code 74 = .ok (.getfield 93, 3) := q_tb t_Mo_feed1 4 rfl
theorem d_Mo_feed_77 : decode prog_11_method_3_code 77 = .ok (.iconst 1, 1) := q_tb t_Mo_feed1 5 rfl
theorem d_Mo_feed_78 : decode prog_11_method_3_code 78 = .ok (.iadd, 1) := q_tb t_Mo_feed1 6 rfl
theorem d_Mo_feed_79 : decode prog_11_method_3_code 79 = .ok (.putfield 93, 3) := q_tb t_Mo_feed1 7 rfl
theorem d_Mo_feed_82 : decode prog_11_method_3_code 82 = .ok (.iinc 4 1, 3) := q_tb t_Mo_feed1 8 rfl
theorem d_Mo_feed_85 : decode prog_11_method_3_code 85 = .ok (.goto (-40), 3) := q_tb t_Mo_feed1 9 rfl
theorem d_Mo_feed_88 : decode prog_11_method_3_code 88 = .ok (.aload_n 0, 1) := q_tb t_Mo_feed1 10 rfl
theorem d_Mo_feed_89 : decode prog_11_method_3_code 89 = .ok (.getfield 93, 3) := q_tb t_Mo_feed1 11 rfl
theorem d_Mo_feed_92 : decode prog_11_method_3_code 92 = .ok (.ireturn, 1) := q_tb t_Mo_feed1 12 rfl
def T_Mo_wipe : List (Nat × Instr × Nat) := [(0, .aload_n 0, 1), (1, .iconst 0, 1), (2, .putfield 90, 3), (5, .aload_n 0, 1), (6, .getfield 93, 3), (9, .istore_n 1, 1), (10, .aload_n 0, 1), (11, .iconst 0, 1), (12, .putfield 93, 3), (15, .iload_n 1, 1), (16, .ireturn, 1)]
set_option maxRecDepth 100000 in
theorem t_Mo_wipe : ∀ q ∈ T_Mo_wipe, decode prog_11_method_4_code q.1 = .ok q.2 := by decide +kernel
theorem d_Mo_wipe_0 : decode prog_11_method_4_code 0 = .ok (.aload_n 0, 1) := q_tb t_Mo_wipe 0 rfl
theorem d_Mo_wipe_1 : decode prog_11_method_4_code 1 = .ok (.iconst 0, 1) := q_tb t_Mo_wipe 1 rfl
theorem d_Mo_wipe_2 : decode prog_11_method_4_code 2 = .ok (.putfield 90, 3) := q_tb t_Mo_wipe 2 rfl
theorem d_Mo_wipe_5 : decode prog_11_method_4_code 5 = .ok (.aload_n 0, 1) := q_tb t_Mo_wipe 3 rfl
theorem d_Mo_wipe_6 : decode prog_11_method_4_code 6 = .ok (.getfield 93, 3) := q_tb t_Mo_wipe 4 rfl
theorem d_Mo_wipe_9 : decode prog_11_method_4_code 9 = .ok (.istore_n 1, 1) := q_tb t_Mo_wipe 5 rfl
theorem d_Mo_wipe_10 : decode prog_11_method_4_code 10 = .ok (.aload_n 0, 1) := q_tb t_Mo_wipe 6 rfl
theorem d_Mo_wipe_11 : decode prog_11_method_4_code 11 = .ok (.iconst 0, 1) := q_tb t_Mo_wipe 7 rfl
theorem d_Mo_wipe_12 : decode prog_11_method_4_code 12 = .ok (.putfield 93, 3) := q_tb t_Mo_wipe 8 rfl
theorem d_Mo_wipe_15 : decode prog_11_method_4_code 15 = .ok (.iload_n 1, 1) := q_tb t_Mo_wipe 9 rfl
theorem d_Mo_wipe_16 : decode prog_11_method_4_code 16 = .ok (.ireturn, 1) := q_tb t_Mo_wipe 10 rfl
def T_Mo_variable0 : List (Nat × Instr × Nat) := [(0, .aload_n 0, 1), (1, .iload_n 1, 1), (2, .iconst 2, 1), (3, .if_icmp .lt 17, 3), (6, .iload_n 1, 1), (7, .iconst 5, 1), (8, .if_icmp .gt 12, 3), (11, .iload_n 2, 1), (12, .ifCond .lt 8, 3), (15, .iload_n 2, 1), (16, .iload_n 1, 1), (17, .if_icmp .lt 7, 3), (20, .iconst 1, 1), (21, .goto 4, 3), (24, .iconst 0, 1), (25, .putfield 90, 3), (28, .aload_n 0, 1), (29, .getfield 90, 3), (32, .ifCond .le 5, 3), (35, .iconst 0, 1), (36, .ireturn, 1), (37, .aload_n 0, 1), (38, .getfield 105, 3), (41, .iconst 5, 1), (42, .if_icmp .ne 5, 3), (45, .iconst (-1), 1), (46, .ireturn, 1), (47, .aload_n 0, 1), (48, .getfield 17, 3), (51, .aload_n 0, 1), (52, .getfield 105, 3), (55, .iload_n 1, 1), (56, .iastore, 1), (57, .aload_n 0, 1), (58, .getfield 20, 3), (61, .aload_n 0, 1), (62, .getfield 105, 3), (65, .iload_n 2, 1), (66, .iastore, 1), (67, .aload_n 0, 1)]
set_option maxRecDepth 100000 in
theorem t_Mo_variable0 : ∀ q ∈ T_Mo_variable0, decode prog_11_method_6_code q.1 = .ok q.2 := by decide +kernel
theorem d_Mo_variable_0 : decode prog_11_method_6_code 0 = .ok (.aload_n 0, 1) := q_tb t_Mo_variable0 0 rfl
theorem d_Mo_variable_1 : decode prog_11_method_6_code 1 = .ok (.iload_n 1, 1) := q_tb t_Mo_variable0 1 rfl
theorem d_Mo_variable_2 : decode prog_11_method_6_code 2 = .ok (.iconst 2, 1) := q_tb t_Mo_variable0 2 rfl
theorem d_Mo_variable_3 : decode prog_11_method_6_code 3 = .ok (.if_icmp .lt 17, 3) := q_tb t_Mo_variable0 3 rfl
theorem d_Mo_variable_6 : decode prog_11_method_6_code 6 = .ok (.iload_n 1, 1) := q_tb t_Mo_variable0 4 rfl
theorem d_Mo_variable_7 : decode prog_11_method_6_code 7 = .ok (.iconst 5, 1) := q_tb t_Mo_variable0 5 rfl
theorem d_Mo_variable_8 : decode prog_11_method_6_code 8 = .ok (.if_icmp .gt 12, 3) := q_tb t_Mo_variable0 6 rfl
theorem d_Mo_variable_11 : decode prog_11_method_6_code 11 = .ok (.iload_n 2, 1) := q_tb t_Mo_variable0 7 rfl
theorem d_Mo_variable_12 : decode prog_11_method_6_code 12 = .ok (.ifCond .lt 8, 3) := q_tb t_Mo_variable0 8 rfl
theorem d_Mo_variable_15 : decode prog_11_method_6_code 15 = .ok (.iload_n 2, 1) := q_tb t_Mo_variable0 9 rfl
theorem d_Mo_variable_16 : decode prog_11_method_6_code 16 = .ok (.iload_n 1, 1) := q_tb t_Mo_variable0 10 rfl
theorem d_Mo_variable_17 : decode prog_11_method_6_code 17 = .ok (.if_icmp .lt 7, 3) := q_tb t_Mo_variable0 11 rfl
theorem d_Mo_variable_20 : decode prog_11_method_6_code 20 = .ok (.iconst 1, 1) := q_tb t_Mo_variable0 12 rfl
theorem d_Mo_variable_21 : decode prog_11_method_6_code 21 = .ok (.goto 4, 3) := q_tb t_Mo_variable0 13 rfl
theorem d_Mo_variable_24 : decode prog_11_method_6_code 24 = .ok (.iconst 0, 1) := q_tb t_Mo_variable0 14 rfl
theorem d_Mo_variable_25 : decode prog_11_method_6_code 25 = .ok (.putfield 90, 3) := q_tb t_Mo_variable0 15 rfl
theorem d_Mo_variable_28 : decode prog_11_method_6_code 28 = .ok (.aload_n 0, 1) := q_tb t_Mo_variable0 16 rfl
theorem d_Mo_variable_29 : decode prog_11_method_6_code 29 = .ok (.getfield 90, 3) := q_tb t_Mo_variable0 17 rfl
theorem d_Mo_variable_32 : decode prog_11_method_6_code 32 = .ok (.ifCond .le 5, 3) := q_tb t_Mo_variable0 18 rfl
theorem d_Mo_variable_35 : decode prog_11_method_6_code 35 = .ok (.iconst 0, 1) := q_tb t_Mo_variable0 19 rfl
theorem d_Mo_variable_36 : decode prog_11_method_6_code 36 = .ok (.ireturn, 1) := q_tb t_Mo_variable0 20 rfl
theorem d_Mo_variable_37 : decode prog_11_method_6_code 37 = .ok (.aload_n 0, 1) := q_tb t_Mo_variable0 21 rfl
theorem d_Mo_variable_38 : decode prog_11_method_6_code 38 = .ok (.getfield 105, 3) := q_tb t_Mo_variable0 22 rfl
theorem d_Mo_variable_41 : decode prog_11_method_6_code 41 = .ok (.iconst 5, 1) := q_tb t_Mo_variable0 23 rfl
theorem d_Mo_variable_42 : decode prog_11_method_6_code 42 = .ok (.if_icmp .ne 5, 3) := q_tb t_Mo_variable0 24 rfl
theorem d_Mo_variable_45 : decode prog_11_method_6_code 45 = .ok (.iconst (-1), 1) := q_tb t_Mo_variable0 25 rfl
theorem d_Mo_variable_46 : decode prog_11_method_6_code 46 = .ok (.ireturn, 1) := q_tb t_Mo_variable0 26 rfl
theorem d_Mo_variable_47 : decode prog_11_method_6_code 47 = .ok (.aload_n 0, 1) := q_tb t_Mo_variable0 27 rfl
theorem d_Mo_variable_48 : decode prog_11_method_6_code 48 = .ok (.getfield 17, 3) := q_tb t_Mo_variable0 28 rfl
theorem d_Mo_variable_51 : decode prog_11_method_6_code 51 = .ok (.aload_n 0, 1) := q_tb t_Mo_variable0 29 rfl
theorem d_Mo_variable_52 : decode prog_11_method_6_code 52 = .ok (.getfield 105, 3) := q_tb t_Mo_variable0 30 rfl
theorem d_Mo_variable_55 : decode prog_11_method_6_code 55 = .ok (.iload_n 1, 1) := q_tb t_Mo_variable0 31 rfl
theorem d_Mo_variable_56 : decode prog_11_method_6_code 56 = .ok (.iastore, 1) := q_tb t_Mo_variable0 32 rfl
theorem d_Mo_variable_57 : decode prog_11_method_6_code 57 = .ok (.aload_n 0, 1) := q_tb t_Mo_variable0 33 rfl
theorem d_Mo_variable_58 : decode prog_11_method_6_code 58 = .ok (.getfield 20, 3) := q_tb t_Mo_variable0 34 rfl
theorem d_Mo_variable_61 : decode prog_11_method_6_code 61 = .ok (.aload_n 0, 1) := q_tb t_Mo_variable0 35 rfl
theorem d_Mo_variable_62 : decode prog_11_method_6_code 62 = .ok (.getfield 105, 3) := q_tb t_Mo_variable0 36 rfl
theorem d_Mo_variable_65 : decode prog_11_method_6_code 65 = .ok (.iload_n 2, 1) := q_tb t_Mo_variable0 37 rfl
theorem d_Mo_variable_66 : decode prog_11_method_6_code 66 = .ok (.iastore, 1) := q_tb t_Mo_variable0 38 rfl
theorem d_Mo_variable_67 : decode prog_11_method_6_code 67 = .ok (.aload_n 0, 1) := q_tb t_Mo_variable0 39 rfl
def T_Mo_variable1 : List (Nat × Instr × Nat) := [(68, .dup, 1), (69, .getfield 105, 3), (72, .iconst 1, 1), (73, .iadd, 1), (74, .putfield 105, 3), (77, .aload_n 0, 1), (78, .invokevirtual 108, 3), (81, .aload_n 0, 1), (82, .getfield 105, 3), (85, .iconst 1, 1), (86, .isub, 1), (87, .ireturn, 1)]
set_option maxRecDepth 100000 in
theorem t_Mo_variable1 : ∀ q ∈ T_Mo_variable1, decode prog_11_method_6_code q.1 = .ok q.2 := by decide +kernel
theorem d_Mo_variable_68 : decode prog_11_method_6_code 68 = .ok (.dup, 1) := q_tb t_Mo_variable1 0 rfl
theorem d_Mo_variable_69 : decode prog_11_method_6_code 69 = .ok (.getfield 105, 3) := q_tb t_Mo_variable1 1 rfl
theorem d_Mo_variable_72 : decode prog_11_method_6_code 72 = .ok (.iconst 1, 1) := q_tb t_Mo_variable1 2 rfl
theorem d_Mo_variable_73 : decode prog_11_method_6_code 73 = .ok (.iadd, 1) := q_tb t_Mo_variable1 3 rfl
theorem d_Mo_variable_74 : decode prog_11_method_6_code 74 = .ok (.putfield 105, 3) := q_tb t_Mo_variable1 4 rfl
theorem d_Mo_variable_77 : decode prog_11_method_6_code 77 = .ok (.aload_n 0, 1) := q_tb t_Mo_variable1 5 rfl
theorem d_Mo_variable_78 : decode prog_11_method_6_code 78 = .ok (.invokevirtual 108, 3) := q_tb t_Mo_variable1 6 rfl
theorem d_Mo_variable_81 : decode prog_11_method_6_code 81 = .ok (.aload_n 0, 1) := q_tb t_Mo_variable1 7 rfl
theorem d_Mo_variable_82 : decode prog_11_method_6_code 82 = .ok (.getfield 105, 3) := q_tb t_Mo_variable1 8 rfl
theorem d_Mo_variable_85 : decode prog_11_method_6_code 85 = .ok (.iconst 1, 1) := q_tb t_Mo_variable1 9 rfl
theorem d_Mo_variable_86 : decode prog_11_method_6_code 86 = .ok (.isub, 1) := q_tb t_Mo_variable1 10 rfl
theorem d_Mo_variable_87 : decode prog_11_method_6_code 87 = .ok (.ireturn, 1) := q_tb t_Mo_variable1 11 rfl
def T_Mo_begin0 : List (Nat × Instr × Nat) := [(0, .aload_n 0, 1), (1, .iconst 0, 1), (2, .putfield 98, 3), (5, .aload_n 0, 1), (6, .iconst 0, 1), (7, .putfield 102, 3), (10, .iconst 0, 1), (11, .istore_n 1, 1), (12, .iload_n 1, 1), (13, .bipush 6, 2), (15, .if_icmp .ge 16, 3), (18, .aload_n 0, 1), (19, .getfield 72, 3), (22, .iload_n 1, 1), (23, .iconst 0, 1), (24, .iastore, 1), (25, .iinc 1 1, 3), (28, .goto (-16), 3), (31, .iconst 0, 1), (32, .istore_n 1, 1), (33, .iload_n 1, 1), (34, .iconst 5, 1), (35, .if_icmp .ge 36, 3), (38, .aload_n 0, 1), (39, .getfield 72, 3), (42, .bipush 6, 2), (44, .iload_n 1, 1), (45, .iadd, 1), (46, .iload_n 1, 1), (47, .aload_n 0, 1), (48, .getfield 105, 3), (51, .if_icmp .ge 12, 3), (54, .aload_n 0, 1), (55, .getfield 20, 3), (58, .iload_n 1, 1), (59, .iaload, 1), (60, .goto 4, 3), (63, .iconst 0, 1), (64, .iastore, 1), (65, .iinc 1 1, 3)]
set_option maxRecDepth 100000 in
theorem t_Mo_begin0 : ∀ q ∈ T_Mo_begin0, decode prog_11_method_5_code q.1 = .ok q.2 := by decide +kernel
theorem d_Mo_begin_0 : decode prog_11_method_5_code 0 = .ok (.aload_n 0, 1) := q_tb t_Mo_begin0 0 rfl
theorem d_Mo_begin_1 : decode prog_11_method_5_code 1 = .ok (.iconst 0, 1) := q_tb t_Mo_begin0 1 rfl
theorem d_Mo_begin_2 : decode prog_11_method_5_code 2 = .ok (.putfield 98, 3) := q_tb t_Mo_begin0 2 rfl
theorem d_Mo_begin_5 : decode prog_11_method_5_code 5 = .ok (.aload_n 0, 1) := q_tb t_Mo_begin0 3 rfl
theorem d_Mo_begin_6 : decode prog_11_method_5_code 6 = .ok (.iconst 0, 1) := q_tb t_Mo_begin0 4 rfl
theorem d_Mo_begin_7 : decode prog_11_method_5_code 7 = .ok (.putfield 102, 3) := q_tb t_Mo_begin0 5 rfl
theorem d_Mo_begin_10 : decode prog_11_method_5_code 10 = .ok (.iconst 0, 1) := q_tb t_Mo_begin0 6 rfl
theorem d_Mo_begin_11 : decode prog_11_method_5_code 11 = .ok (.istore_n 1, 1) := q_tb t_Mo_begin0 7 rfl
theorem d_Mo_begin_12 : decode prog_11_method_5_code 12 = .ok (.iload_n 1, 1) := q_tb t_Mo_begin0 8 rfl
theorem d_Mo_begin_13 : decode prog_11_method_5_code 13 = .ok (.bipush 6, 2) := q_tb t_Mo_begin0 9 rfl
theorem d_Mo_begin_15 : decode prog_11_method_5_code 15 = .ok (.if_icmp .ge 16, 3) := q_tb t_Mo_begin0 10 rfl
theorem d_Mo_begin_18 : decode prog_11_method_5_code 18 = .ok (.aload_n 0, 1) := q_tb t_Mo_begin0 11 rfl
theorem d_Mo_begin_19 : decode prog_11_method_5_code 19 = .ok (.getfield 72, 3) := q_tb t_Mo_begin0 12 rfl
theorem d_Mo_begin_22 : decode prog_11_method_5_code 22 = .ok (.iload_n 1, 1) := q_tb t_Mo_begin0 13 rfl
theorem d_Mo_begin_23 : decode prog_11_method_5_code 23 = .ok (.iconst 0, 1) := q_tb t_Mo_begin0 14 rfl
theorem d_Mo_begin_24 : decode prog_11_method_5_code 24 = .ok (.iastore, 1) := q_tb t_Mo_begin0 15 rfl
theorem d_Mo_begin_25 : decode prog_11_method_5_code 25 = .ok (.iinc 1 1, 3) := q_tb t_Mo_begin0 16 rfl
theorem d_Mo_begin_28 : decode prog_11_method_5_code 28 = .ok (.goto (-16), 3) := q_tb t_Mo_begin0 17 rfl
theorem d_Mo_begin_31 : decode prog_11_method_5_code 31 = .ok (.iconst 0, 1) := q_tb t_Mo_begin0 18 rfl
theorem d_Mo_begin_32 : decode prog_11_method_5_code 32 = .ok (.istore_n 1, 1) := q_tb t_Mo_begin0 19 rfl
theorem d_Mo_begin_33 : decode prog_11_method_5_code 33 = .ok (.iload_n 1, 1) := q_tb t_Mo_begin0 20 rfl
theorem d_Mo_begin_34 : decode prog_11_method_5_code 34 = .ok (.iconst 5, 1) := q_tb t_Mo_begin0 21 rfl
theorem d_Mo_begin_35 : decode prog_11_method_5_code 35 = .ok (.if_icmp .ge 36, 3) := q_tb t_Mo_begin0 22 rfl
theorem d_Mo_begin_38 : decode prog_11_method_5_code 38 = .ok (.aload_n 0, 1) := q_tb t_Mo_begin0 23 rfl
theorem d_Mo_begin_39 : decode prog_11_method_5_code 39 = .ok (.getfield 72, 3) := q_tb t_Mo_begin0 24 rfl
theorem d_Mo_begin_42 : decode prog_11_method_5_code 42 = .ok (.bipush 6, 2) := q_tb t_Mo_begin0 25 rfl
theorem d_Mo_begin_44 : decode prog_11_method_5_code 44 = .ok (.iload_n 1, 1) := q_tb t_Mo_begin0 26 rfl
theorem d_Mo_begin_45 : decode prog_11_method_5_code 45 = .ok (.iadd, 1) := q_tb t_Mo_begin0 27 rfl
theorem d_Mo_begin_46 : decode prog_11_method_5_code 46 = .ok (.iload_n 1, 1) := q_tb t_Mo_begin0 28 rfl
theorem d_Mo_begin_47 : decode prog_11_method_5_code 47 = .ok (.aload_n 0, 1) := q_tb t_Mo_begin0 29 rfl
theorem d_Mo_begin_48 : decode prog_11_method_5_code 48 = .ok (.getfield 105, 3) := q_tb t_Mo_begin0 30 rfl
theorem d_Mo_begin_51 : decode prog_11_method_5_code 51 = .ok (.if_icmp .ge 12, 3) := q_tb t_Mo_begin0 31 rfl
theorem d_Mo_begin_54 : decode prog_11_method_5_code 54 = .ok (.aload_n 0, 1) := q_tb t_Mo_begin0 32 rfl
theorem d_Mo_begin_55 : decode prog_11_method_5_code 55 = .ok (.getfield 20, 3) := q_tb t_Mo_begin0 33 rfl
theorem d_Mo_begin_58 : decode prog_11_method_5_code 58 = .ok (.iload_n 1, 1) := q_tb t_Mo_begin0 34 rfl
theorem d_Mo_begin_59 : decode prog_11_method_5_code 59 = .ok (.iaload, 1) := q_tb t_Mo_begin0 35 rfl
theorem d_Mo_begin_60 : decode prog_11_method_5_code 60 = .ok (.goto 4, 3) := q_tb t_Mo_begin0 36 rfl
theorem d_Mo_begin_63 : decode prog_11_method_5_code 63 = .ok (.iconst 0, 1) := q_tb t_Mo_begin0 37 rfl
theorem d_Mo_begin_64 : decode prog_11_method_5_code 64 = .ok (.iastore, 1) := q_tb t_Mo_begin0 38 rfl
theorem d_Mo_begin_65 : decode prog_11_method_5_code 65 = .ok (.iinc 1 1, 3) := q_tb t_Mo_begin0 39 rfl
def T_Mo_begin1 : List (Nat × Instr × Nat) := [(68, .goto (-35), 3), (71, .return_, 1)]
set_option maxRecDepth 100000 in
theorem t_Mo_begin1 : ∀ q ∈ T_Mo_begin1, decode prog_11_method_5_code q.1 = .ok q.2 := by decide +kernel
theorem d_Mo_begin_68 : decode prog_11_method_5_code 68 = .ok (.goto (-35), 3) := q_tb t_Mo_begin1 0 rfl
theorem d_Mo_begin_71 : decode prog_11_method_5_code 71 = .ok (.return_, 1) := q_tb t_Mo_begin1 1 rfl
def T_Mo_clear : List (Nat × Instr × Nat) := [(0, .aload_n 0, 1), (1, .iconst 0, 1), (2, .putfield 90, 3), (5, .aload_n 0, 1), (6, .getfield 111, 3), (9, .istore_n 1, 1), (10, .aload_n 0, 1), (11, .iconst 0, 1), (12, .putfield 111, 3), (15, .aload_n 0, 1), (16, .iconst 0, 1), (17, .putfield 105, 3), (20, .aload_n 0, 1), (21, .invokevirtual 108, 3), (24, .iload_n 1, 1), (25, .ireturn, 1)]
set_option maxRecDepth 100000 in
theorem t_Mo_clear : ∀ q ∈ T_Mo_clear, decode prog_11_method_7_code q.1 = .ok q.2 := by decide +kernel
theorem d_Mo_clear_0 : decode prog_11_method_7_code 0 = .ok (.aload_n 0, 1) := q_tb t_Mo_clear 0 rfl
theorem d_Mo_clear_1 : decode prog_11_method_7_code 1 = .ok (.iconst 0, 1) := q_tb t_Mo_clear 1 rfl
theorem d_Mo_clear_2 : decode prog_11_method_7_code 2 = .ok (.putfield 90, 3) := q_tb t_Mo_clear 2 rfl
theorem d_Mo_clear_5 : decode prog_11_method_7_code 5 = .ok (.aload_n 0, 1) := q_tb t_Mo_clear 3 rfl
theorem d_Mo_clear_6 : decode prog_11_method_7_code 6 = .ok (.getfield 111, 3) := q_tb t_Mo_clear 4 rfl
theorem d_Mo_clear_9 : decode prog_11_method_7_code 9 = .ok (.istore_n 1, 1) := q_tb t_Mo_clear 5 rfl
theorem d_Mo_clear_10 : decode prog_11_method_7_code 10 = .ok (.aload_n 0, 1) := q_tb t_Mo_clear 6 rfl
theorem d_Mo_clear_11 : decode prog_11_method_7_code 11 = .ok (.iconst 0, 1) := q_tb t_Mo_clear 7 rfl
theorem d_Mo_clear_12 : decode prog_11_method_7_code 12 = .ok (.putfield 111, 3) := q_tb t_Mo_clear 8 rfl
theorem d_Mo_clear_15 : decode prog_11_method_7_code 15 = .ok (.aload_n 0, 1) := q_tb t_Mo_clear 9 rfl
theorem d_Mo_clear_16 : decode prog_11_method_7_code 16 = .ok (.iconst 0, 1) := q_tb t_Mo_clear 10 rfl
theorem d_Mo_clear_17 : decode prog_11_method_7_code 17 = .ok (.putfield 105, 3) := q_tb t_Mo_clear 11 rfl
theorem d_Mo_clear_20 : decode prog_11_method_7_code 20 = .ok (.aload_n 0, 1) := q_tb t_Mo_clear 12 rfl
theorem d_Mo_clear_21 : decode prog_11_method_7_code 21 = .ok (.invokevirtual 108, 3) := q_tb t_Mo_clear 13 rfl
theorem d_Mo_clear_24 : decode prog_11_method_7_code 24 = .ok (.iload_n 1, 1) := q_tb t_Mo_clear 14 rfl
theorem d_Mo_clear_25 : decode prog_11_method_7_code 25 = .ok (.ireturn, 1) := q_tb t_Mo_clear 15 rfl
def T_Mo_process0 : List (Nat × Instr × Nat) := [(0, .aload_n 0, 1), (1, .iconst 0, 1), (2, .putfield 90, 3), (5, .aload_n 0, 1), (6, .getfield 111, 3), (9, .bipush 6, 2), (11, .if_icmp .ne 5, 3), (14, .iconst (-1), 1), (15, .ireturn, 1), (16, .aload_n 0, 1), (17, .iconst 0, 1), (18, .putfield 114, 3), (21, .aload_n 0, 1), (22, .iconst (-1), 1), (23, .putfield 13, 3), (26, .aload_n 0, 1), (27, .iconst 0, 1), (28, .putfield 123, 3), (31, .aload_n 0, 1), (32, .iconst 0, 1), (33, .putfield 143, 3), (36, .aload_n 0, 1), (37, .iconst 0, 1), (38, .putfield 117, 3), (41, .aload_n 0, 1), (42, .getfield 41, 3), (45, .iconst 0, 1), (46, .iconst 0, 1), (47, .iastore, 1), (48, .aload_n 0, 1), (49, .invokevirtual 156, 3), (52, .aload_n 0, 1), (53, .getfield 114, 3), (56, .ifCond .ne 21, 3), (59, .aload_n 0, 1), (60, .getfield 123, 3), (63, .aload_n 0, 1), (64, .getfield 93, 3), (67, .if_icmp .ge 10, 3), (70, .aload_n 0, 1)]
set_option maxRecDepth 100000 in
theorem t_Mo_process0 : ∀ q ∈ T_Mo_process0, decode prog_11_method_18_code q.1 = .ok q.2 := by decide +kernel
theorem d_Mo_process_0 : decode prog_11_method_18_code 0 = .ok (.aload_n 0, 1) := q_tb t_Mo_process0 0 rfl
theorem d_Mo_process_1 : decode prog_11_method_18_code 1 = .ok (.iconst 0, 1) := q_tb t_Mo_process0 1 rfl
theorem d_Mo_process_2 : decode prog_11_method_18_code 2 = .ok (.putfield 90, 3) := q_tb t_Mo_process0 2 rfl
theorem d_Mo_process_5 : decode prog_11_method_18_code 5 = .ok (.aload_n 0, 1) := q_tb t_Mo_process0 3 rfl
theorem d_Mo_process_6 : decode prog_11_method_18_code 6 = .ok (.getfield 111, 3) := q_tb t_Mo_process0 4 rfl
theorem d_Mo_process_9 : decode prog_11_method_18_code 9 = .ok (.bipush 6, 2) := q_tb t_Mo_process0 5 rfl
theorem d_Mo_process_11 : decode prog_11_method_18_code 11 = .ok (.if_icmp .ne 5, 3) := q_tb t_Mo_process0 6 rfl
theorem d_Mo_process_14 : decode prog_11_method_18_code 14 = .ok (.iconst (-1), 1) := q_tb t_Mo_process0 7 rfl
theorem d_Mo_process_15 : decode prog_11_method_18_code 15 = .ok (.ireturn, 1) := q_tb t_Mo_process0 8 rfl
theorem d_Mo_process_16 : decode prog_11_method_18_code 16 = .ok (.aload_n 0, 1) := q_tb t_Mo_process0 9 rfl
theorem d_Mo_process_17 : decode prog_11_method_18_code 17 = .ok (.iconst 0, 1) := q_tb t_Mo_process0 10 rfl
theorem d_Mo_process_18 : decode prog_11_method_18_code 18 = .ok (.putfield 114, 3) := q_tb t_Mo_process0 11 rfl
theorem d_Mo_process_21 : decode prog_11_method_18_code 21 = .ok (.aload_n 0, 1) := q_tb t_Mo_process0 12 rfl
theorem d_Mo_process_22 : decode prog_11_method_18_code 22 = .ok (.iconst (-1), 1) := q_tb t_Mo_process0 13 rfl
theorem d_Mo_process_23 : decode prog_11_method_18_code 23 = .ok (.putfield 13, 3) := q_tb t_Mo_process0 14 rfl
theorem d_Mo_process_26 : decode prog_11_method_18_code 26 = .ok (.aload_n 0, 1) := q_tb t_Mo_process0 15 rfl
theorem d_Mo_process_27 : decode prog_11_method_18_code 27 = .ok (.iconst 0, 1) := q_tb t_Mo_process0 16 rfl
theorem d_Mo_process_28 : decode prog_11_method_18_code 28 = .ok (.putfield 123, 3) := q_tb t_Mo_process0 17 rfl
theorem d_Mo_process_31 : decode prog_11_method_18_code 31 = .ok (.aload_n 0, 1) := q_tb t_Mo_process0 18 rfl
theorem d_Mo_process_32 : decode prog_11_method_18_code 32 = .ok (.iconst 0, 1) := q_tb t_Mo_process0 19 rfl
theorem d_Mo_process_33 : decode prog_11_method_18_code 33 = .ok (.putfield 143, 3) := q_tb t_Mo_process0 20 rfl
theorem d_Mo_process_36 : decode prog_11_method_18_code 36 = .ok (.aload_n 0, 1) := q_tb t_Mo_process0 21 rfl
theorem d_Mo_process_37 : decode prog_11_method_18_code 37 = .ok (.iconst 0, 1) := q_tb t_Mo_process0 22 rfl
theorem d_Mo_process_38 : decode prog_11_method_18_code 38 = .ok (.putfield 117, 3) := q_tb t_Mo_process0 23 rfl
theorem d_Mo_process_41 : decode prog_11_method_18_code 41 = .ok (.aload_n 0, 1) := q_tb t_Mo_process0 24 rfl
theorem d_Mo_process_42 : decode prog_11_method_18_code 42 = .ok (.getfield 41, 3) := q_tb t_Mo_process0 25 rfl
theorem d_Mo_process_45 : decode prog_11_method_18_code 45 = .ok (.iconst 0, 1) := q_tb t_Mo_process0 26 rfl
theorem d_Mo_process_46 : decode prog_11_method_18_code 46 = .ok (.iconst 0, 1) := q_tb t_Mo_process0 27 rfl
theorem d_Mo_process_47 : decode prog_11_method_18_code 47 = .ok (.iastore, 1) := q_tb t_Mo_process0 28 rfl
theorem d_Mo_process_48 : decode prog_11_method_18_code 48 = .ok (.aload_n 0, 1) := q_tb t_Mo_process0 29 rfl
theorem d_Mo_process_49 : decode prog_11_method_18_code 49 = .ok (.invokevirtual 156, 3) := q_tb t_Mo_process0 30 rfl
theorem d_Mo_process_52 : decode prog_11_method_18_code 52 = .ok (.aload_n 0, 1) := q_tb t_Mo_process0 31 rfl
theorem d_Mo_process_53 : decode prog_11_method_18_code 53 = .ok (.getfield 114, 3) := q_tb t_Mo_process0 32 rfl
theorem d_Mo_process_56 : decode prog_11_method_18_code 56 = .ok (.ifCond .ne 21, 3) := q_tb t_Mo_process0 33 rfl
theorem d_Mo_process_59 : decode prog_11_method_18_code 59 = .ok (.aload_n 0, 1) := q_tb t_Mo_process0 34 rfl
theorem d_Mo_process_60 : decode prog_11_method_18_code 60 = .ok (.getfield 123, 3) := q_tb t_Mo_process0 35 rfl
theorem d_Mo_process_63 : decode prog_11_method_18_code 63 = .ok (.aload_n 0, 1) := q_tb t_Mo_process0 36 rfl
theorem d_Mo_process_64 : decode prog_11_method_18_code 64 = .ok (.getfield 93, 3) := q_tb t_Mo_process0 37 rfl
theorem d_Mo_process_67 : decode prog_11_method_18_code 67 = .ok (.if_icmp .ge 10, 3) := q_tb t_Mo_process0 38 rfl
theorem d_Mo_process_70 : decode prog_11_method_18_code 70 = .ok (.aload_n 0, 1) := q_tb t_Mo_process0 39 rfl
def T_Mo_process1 : List (Nat × Instr × Nat) := [(71, .invokevirtual 165, 3), (74, .goto (-22), 3), (77, .aload_n 0, 1), (78, .getfield 117, 3), (81, .ifCond .le 12, 3), (84, .aload_n 0, 1), (85, .iconst 1, 1), (86, .aload_n 0, 1), (87, .getfield 93, 3), (90, .invokevirtual 149, 3), (93, .aload_n 0, 1), (94, .getfield 114, 3), (97, .ifCond .le 5, 3), (100, .iconst (-1), 1), (101, .ireturn, 1), (102, .aload_n 0, 1), (103, .invokevirtual 159, 3), (106, .aload_n 0, 1), (107, .getfield 41, 3), (110, .iconst 0, 1), (111, .aload_n 0, 1), (112, .getfield 57, 3), (115, .iconst 0, 1), (116, .iaload, 1), (117, .iastore, 1), (118, .aload_n 0, 1), (119, .getfield 111, 3), (122, .istore_n 1, 1), (123, .aload_n 0, 1), (124, .getfield 23, 3), (127, .iload_n 1, 1), (128, .aload_n 0, 1), (129, .getfield 143, 3), (132, .iconst 1, 1), (133, .iadd, 1), (134, .iastore, 1), (135, .aload_n 0, 1), (136, .getfield 26, 3), (139, .iload_n 1, 1), (140, .aload_n 0, 1)]
set_option maxRecDepth 100000 in
theorem t_Mo_process1 : ∀ q ∈ T_Mo_process1, decode prog_11_method_18_code q.1 = .ok q.2 := by decide +kernel
theorem d_Mo_process_71 : decode prog_11_method_18_code 71 = .ok (.invokevirtual 165, 3) := q_tb t_Mo_process1 0 rfl
theorem d_Mo_process_74 : decode prog_11_method_18_code 74 = .ok (.goto (-22), 3) := q_tb t_Mo_process1 1 rfl
theorem d_Mo_process_77 : decode prog_11_method_18_code 77 = .ok (.aload_n 0, 1) := q_tb t_Mo_process1 2 rfl
theorem d_Mo_process_78 : decode prog_11_method_18_code 78 = .ok (.getfield 117, 3) := q_tb t_Mo_process1 3 rfl
theorem d_Mo_process_81 : decode prog_11_method_18_code 81 = .ok (.ifCond .le 12, 3) := q_tb t_Mo_process1 4 rfl
theorem d_Mo_process_84 : decode prog_11_method_18_code 84 = .ok (.aload_n 0, 1) := q_tb t_Mo_process1 5 rfl
theorem d_Mo_process_85 : decode prog_11_method_18_code 85 = .ok (.iconst 1, 1) := q_tb t_Mo_process1 6 rfl
theorem d_Mo_process_86 : decode prog_11_method_18_code 86 = .ok (.aload_n 0, 1) := q_tb t_Mo_process1 7 rfl
theorem d_Mo_process_87 : decode prog_11_method_18_code 87 = .ok (.getfield 93, 3) := q_tb t_Mo_process1 8 rfl
theorem d_Mo_process_90 : decode prog_11_method_18_code 90 = .ok (.invokevirtual 149, 3) := q_tb t_Mo_process1 9 rfl
theorem d_Mo_process_93 : decode prog_11_method_18_code 93 = .ok (.aload_n 0, 1) := q_tb t_Mo_process1 10 rfl
theorem d_Mo_process_94 : decode prog_11_method_18_code 94 = .ok (.getfield 114, 3) := q_tb t_Mo_process1 11 rfl
theorem d_Mo_process_97 : decode prog_11_method_18_code 97 = .ok (.ifCond .le 5, 3) := q_tb t_Mo_process1 12 rfl
theorem d_Mo_process_100 : decode prog_11_method_18_code 100 = .ok (.iconst (-1), 1) := q_tb t_Mo_process1 13 rfl
theorem d_Mo_process_101 : decode prog_11_method_18_code 101 = .ok (.ireturn, 1) := q_tb t_Mo_process1 14 rfl
theorem d_Mo_process_102 : decode prog_11_method_18_code 102 = .ok (.aload_n 0, 1) := q_tb t_Mo_process1 15 rfl
theorem d_Mo_process_103 : decode prog_11_method_18_code 103 = .ok (.invokevirtual 159, 3) := q_tb t_Mo_process1 16 rfl
theorem d_Mo_process_106 : decode prog_11_method_18_code 106 = .ok (.aload_n 0, 1) := q_tb t_Mo_process1 17 rfl
theorem d_Mo_process_107 : decode prog_11_method_18_code 107 = .ok (.getfield 41, 3) := q_tb t_Mo_process1 18 rfl
theorem d_Mo_process_110 : decode prog_11_method_18_code 110 = .ok (.iconst 0, 1) := q_tb t_Mo_process1 19 rfl
theorem d_Mo_process_111 : decode prog_11_method_18_code 111 = .ok (.aload_n 0, 1) := q_tb t_Mo_process1 20 rfl
theorem d_Mo_process_112 : decode prog_11_method_18_code 112 = .ok (.getfield 57, 3) := q_tb t_Mo_process1 21 rfl
theorem d_Mo_process_115 : decode prog_11_method_18_code 115 = .ok (.iconst 0, 1) := q_tb t_Mo_process1 22 rfl
theorem d_Mo_process_116 : decode prog_11_method_18_code 116 = .ok (.iaload, 1) := q_tb t_Mo_process1 23 rfl
theorem d_Mo_process_117 : decode prog_11_method_18_code 117 = .ok (.iastore, 1) := q_tb t_Mo_process1 24 rfl
theorem d_Mo_process_118 : decode prog_11_method_18_code 118 = .ok (.aload_n 0, 1) := q_tb t_Mo_process1 25 rfl
theorem d_Mo_process_119 : decode prog_11_method_18_code 119 = .ok (.getfield 111, 3) := q_tb t_Mo_process1 26 rfl
theorem d_Mo_process_122 : decode prog_11_method_18_code 122 = .ok (.istore_n 1, 1) := q_tb t_Mo_process1 27 rfl
theorem d_Mo_process_123 : decode prog_11_method_18_code 123 = .ok (.aload_n 0, 1) := q_tb t_Mo_process1 28 rfl
theorem d_Mo_process_124 : decode prog_11_method_18_code 124 = .ok (.getfield 23, 3) := q_tb t_Mo_process1 29 rfl
theorem d_Mo_process_127 : decode prog_11_method_18_code 127 = .ok (.iload_n 1, 1) := q_tb t_Mo_process1 30 rfl
theorem d_Mo_process_128 : decode prog_11_method_18_code 128 = .ok (.aload_n 0, 1) := q_tb t_Mo_process1 31 rfl
theorem d_Mo_process_129 : decode prog_11_method_18_code 129 = .ok (.getfield 143, 3) := q_tb t_Mo_process1 32 rfl
theorem d_Mo_process_132 : decode prog_11_method_18_code 132 = .ok (.iconst 1, 1) := q_tb t_Mo_process1 33 rfl
theorem d_Mo_process_133 : decode prog_11_method_18_code 133 = .ok (.iadd, 1) := q_tb t_Mo_process1 34 rfl
theorem d_Mo_process_134 : decode prog_11_method_18_code 134 = .ok (.iastore, 1) := q_tb t_Mo_process1 35 rfl
theorem d_Mo_process_135 : decode prog_11_method_18_code 135 = .ok (.aload_n 0, 1) := q_tb t_Mo_process1 36 rfl
theorem d_Mo_process_136 : decode prog_11_method_18_code 136 = .ok (.getfield 26, 3) := q_tb t_Mo_process1 37 rfl
theorem d_Mo_process_139 : decode prog_11_method_18_code 139 = .ok (.iload_n 1, 1) := q_tb t_Mo_process1 38 rfl
theorem d_Mo_process_140 : decode prog_11_method_18_code 140 = .ok (.aload_n 0, 1) := q_tb t_Mo_process1 39 rfl
def T_Mo_process2 : List (Nat × Instr × Nat) := [(141, .getfield 53, 3), (144, .iconst 0, 1), (145, .baload, 1), (146, .ifCond .eq 14, 3), (149, .aload_n 0, 1), (150, .getfield 60, 3), (153, .iconst 0, 1), (154, .iaload, 1), (155, .iconst 1, 1), (156, .ior, 1), (157, .goto 9, 3), (160, .aload_n 0, 1), (161, .getfield 60, 3), (164, .iconst 0, 1), (165, .iaload, 1), (166, .iastore, 1), (167, .iconst 0, 1), (168, .istore_n 2, 1), (169, .iload_n 2, 1), (170, .bipush 13, 2), (172, .if_icmp .ge 89, 3), (175, .aload_n 0, 1), (176, .getfield 29, 3), (179, .bipush 13, 2), (181, .iload_n 1, 1), (182, .imul, 1), (183, .iload_n 2, 1), (184, .iadd, 1), (185, .iload_n 2, 1), (186, .aload_n 0, 1), (187, .getfield 143, 3), (190, .if_icmp .gt 12, 3), (193, .aload_n 0, 1), (194, .getfield 41, 3), (197, .iload_n 2, 1), (198, .iaload, 1), (199, .goto 4, 3), (202, .iconst 0, 1), (203, .iastore, 1), (204, .aload_n 0, 1)]
set_option maxRecDepth 100000 in
theorem t_Mo_process2 : ∀ q ∈ T_Mo_process2, decode prog_11_method_18_code q.1 = .ok q.2 := by decide +kernel
theorem d_Mo_process_141 : decode prog_11_method_18_code 141 = .ok (.getfield 53, 3) := q_tb t_Mo_process2 0 rfl
theorem d_Mo_process_144 : decode prog_11_method_18_code 144 = .ok (.iconst 0, 1) := q_tb t_Mo_process2 1 rfl
theorem d_Mo_process_145 : decode prog_11_method_18_code 145 = .ok (.baload, 1) := q_tb t_Mo_process2 2 rfl
theorem d_Mo_process_146 : decode prog_11_method_18_code 146 = .ok (.ifCond .eq 14, 3) := q_tb t_Mo_process2 3 rfl
theorem d_Mo_process_149 : decode prog_11_method_18_code 149 = .ok (.aload_n 0, 1) := q_tb t_Mo_process2 4 rfl
theorem d_Mo_process_150 : decode prog_11_method_18_code 150 = .ok (.getfield 60, 3) := q_tb t_Mo_process2 5 rfl
theorem d_Mo_process_153 : decode prog_11_method_18_code 153 = .ok (.iconst 0, 1) := q_tb t_Mo_process2 6 rfl
theorem d_Mo_process_154 : decode prog_11_method_18_code 154 = .ok (.iaload, 1) := q_tb t_Mo_process2 7 rfl
theorem d_Mo_process_155 : decode prog_11_method_18_code 155 = .ok (.iconst 1, 1) := q_tb t_Mo_process2 8 rfl
theorem d_Mo_process_156 : decode prog_11_method_18_code 156 = .ok (.ior, 1) := q_tb t_Mo_process2 9 rfl
theorem d_Mo_process_157 : decode prog_11_method_18_code 157 = .ok (.goto 9, 3) := q_tb t_Mo_process2 10 rfl
theorem d_Mo_process_160 : decode prog_11_method_18_code 160 = .ok (.aload_n 0, 1) := q_tb t_Mo_process2 11 rfl
theorem d_Mo_process_161 : decode prog_11_method_18_code 161 = .ok (.getfield 60, 3) := q_tb t_Mo_process2 12 rfl
theorem d_Mo_process_164 : decode prog_11_method_18_code 164 = .ok (.iconst 0, 1) := q_tb t_Mo_process2 13 rfl
theorem d_Mo_process_165 : decode prog_11_method_18_code 165 = .ok (.iaload, 1) := q_tb t_Mo_process2 14 rfl
theorem d_Mo_process_166 : decode prog_11_method_18_code 166 = .ok (.iastore, 1) := q_tb t_Mo_process2 15 rfl
theorem d_Mo_process_167 : decode prog_11_method_18_code 167 = .ok (.iconst 0, 1) := q_tb t_Mo_process2 16 rfl
theorem d_Mo_process_168 : decode prog_11_method_18_code 168 = .ok (.istore_n 2, 1) := q_tb t_Mo_process2 17 rfl
theorem d_Mo_process_169 : decode prog_11_method_18_code 169 = .ok (.iload_n 2, 1) := q_tb t_Mo_process2 18 rfl
theorem d_Mo_process_170 : decode prog_11_method_18_code 170 = .ok (.bipush 13, 2) := q_tb t_Mo_process2 19 rfl
theorem d_Mo_process_172 : decode prog_11_method_18_code 172 = .ok (.if_icmp .ge 89, 3) := q_tb t_Mo_process2 20 rfl
theorem d_Mo_process_175 : decode prog_11_method_18_code 175 = .ok (.aload_n 0, 1) := q_tb t_Mo_process2 21 rfl
theorem d_Mo_process_176 : decode prog_11_method_18_code 176 = .ok (.getfield 29, 3) := q_tb t_Mo_process2 22 rfl
theorem d_Mo_process_179 : decode prog_11_method_18_code 179 = .ok (.bipush 13, 2) := q_tb t_Mo_process2 23 rfl
theorem d_Mo_process_181 : decode prog_11_method_18_code 181 = .ok (.iload_n 1, 1) := q_tb t_Mo_process2 24 rfl
theorem d_Mo_process_182 : decode prog_11_method_18_code 182 = .ok (.imul, 1) := q_tb t_Mo_process2 25 rfl
theorem d_Mo_process_183 : decode prog_11_method_18_code 183 = .ok (.iload_n 2, 1) := q_tb t_Mo_process2 26 rfl
theorem d_Mo_process_184 : decode prog_11_method_18_code 184 = .ok (.iadd, 1) := q_tb t_Mo_process2 27 rfl
theorem d_Mo_process_185 : decode prog_11_method_18_code 185 = .ok (.iload_n 2, 1) := q_tb t_Mo_process2 28 rfl
theorem d_Mo_process_186 : decode prog_11_method_18_code 186 = .ok (.aload_n 0, 1) := q_tb t_Mo_process2 29 rfl
theorem d_Mo_process_187 : decode prog_11_method_18_code 187 = .ok (.getfield 143, 3) := q_tb t_Mo_process2 30 rfl
theorem d_Mo_process_190 : decode prog_11_method_18_code 190 = .ok (.if_icmp .gt 12, 3) := q_tb t_Mo_process2 31 rfl
theorem d_Mo_process_193 : decode prog_11_method_18_code 193 = .ok (.aload_n 0, 1) := q_tb t_Mo_process2 32 rfl
theorem d_Mo_process_194 : decode prog_11_method_18_code 194 = .ok (.getfield 41, 3) := q_tb t_Mo_process2 33 rfl
theorem d_Mo_process_197 : decode prog_11_method_18_code 197 = .ok (.iload_n 2, 1) := q_tb t_Mo_process2 34 rfl
theorem d_Mo_process_198 : decode prog_11_method_18_code 198 = .ok (.iaload, 1) := q_tb t_Mo_process2 35 rfl
theorem d_Mo_process_199 : decode prog_11_method_18_code 199 = .ok (.goto 4, 3) := q_tb t_Mo_process2 36 rfl
theorem d_Mo_process_202 : decode prog_11_method_18_code 202 = .ok (.iconst 0, 1) := q_tb t_Mo_process2 37 rfl
theorem d_Mo_process_203 : decode prog_11_method_18_code 203 = .ok (.iastore, 1) := q_tb t_Mo_process2 38 rfl
theorem d_Mo_process_204 : decode prog_11_method_18_code 204 = .ok (.aload_n 0, 1) := q_tb t_Mo_process2 39 rfl
def T_Mo_process3 : List (Nat × Instr × Nat) := [(205, .getfield 32, 3), (208, .bipush 13, 2), (210, .iload_n 1, 1), (211, .imul, 1), (212, .iload_n 2, 1), (213, .iadd, 1), (214, .aload_n 0, 1), (215, .getfield 44, 3), (218, .iload_n 2, 1), (219, .iaload, 1), (220, .iastore, 1), (221, .aload_n 0, 1), (222, .getfield 35, 3), (225, .bipush 13, 2), (227, .iload_n 1, 1), (228, .imul, 1), (229, .iload_n 2, 1), (230, .iadd, 1), (231, .aload_n 0, 1), (232, .getfield 47, 3), (235, .iload_n 2, 1), (236, .iaload, 1), (237, .iastore, 1), (238, .aload_n 0, 1), (239, .getfield 38, 3), (242, .bipush 13, 2), (244, .iload_n 1, 1), (245, .imul, 1), (246, .iload_n 2, 1), (247, .iadd, 1), (248, .aload_n 0, 1), (249, .getfield 50, 3), (252, .iload_n 2, 1), (253, .iaload, 1), (254, .iastore, 1), (255, .iinc 2 1, 3), (258, .goto (-89), 3), (261, .aload_n 0, 1), (262, .dup, 1), (263, .getfield 111, 3)]
set_option maxRecDepth 100000 in
theorem t_Mo_process3 : ∀ q ∈ T_Mo_process3, decode prog_11_method_18_code q.1 = .ok q.2 := by decide +kernel
theorem d_Mo_process_205 : decode prog_11_method_18_code 205 = .ok (.getfield 32, 3) := q_tb t_Mo_process3 0 rfl
theorem d_Mo_process_208 : decode prog_11_method_18_code 208 = .ok (.bipush 13, 2) := q_tb t_Mo_process3 1 rfl
theorem d_Mo_process_210 : decode prog_11_method_18_code 210 = .ok (.iload_n 1, 1) := q_tb t_Mo_process3 2 rfl
theorem d_Mo_process_211 : decode prog_11_method_18_code 211 = .ok (.imul, 1) := q_tb t_Mo_process3 3 rfl
theorem d_Mo_process_212 : decode prog_11_method_18_code 212 = .ok (.iload_n 2, 1) := q_tb t_Mo_process3 4 rfl
theorem d_Mo_process_213 : decode prog_11_method_18_code 213 = .ok (.iadd, 1) := q_tb t_Mo_process3 5 rfl
theorem d_Mo_process_214 : decode prog_11_method_18_code 214 = .ok (.aload_n 0, 1) := q_tb t_Mo_process3 6 rfl
theorem d_Mo_process_215 : decode prog_11_method_18_code 215 = .ok (.getfield 44, 3) := q_tb t_Mo_process3 7 rfl
theorem d_Mo_process_218 : decode prog_11_method_18_code 218 = .ok (.iload_n 2, 1) := q_tb t_Mo_process3 8 rfl
theorem d_Mo_process_219 : decode prog_11_method_18_code 219 = .ok (.iaload, 1) := q_tb t_Mo_process3 9 rfl
theorem d_Mo_process_220 : decode prog_11_method_18_code 220 = .ok (.iastore, 1) := q_tb t_Mo_process3 10 rfl
theorem d_Mo_process_221 : decode prog_11_method_18_code 221 = .ok (.aload_n 0, 1) := q_tb t_Mo_process3 11 rfl
theorem d_Mo_process_222 : decode prog_11_method_18_code 222 = .ok (.getfield 35, 3) := q_tb t_Mo_process3 12 rfl
theorem d_Mo_process_225 : decode prog_11_method_18_code 225 = .ok (.bipush 13, 2) := q_tb t_Mo_process3 13 rfl
theorem d_Mo_process_227 : decode prog_11_method_18_code 227 = .ok (.iload_n 1, 1) := q_tb t_Mo_process3 14 rfl
theorem d_Mo_process_228 : decode prog_11_method_18_code 228 = .ok (.imul, 1) := q_tb t_Mo_process3 15 rfl
theorem d_Mo_process_229 : decode prog_11_method_18_code 229 = .ok (.iload_n 2, 1) := q_tb t_Mo_process3 16 rfl
theorem d_Mo_process_230 : decode prog_11_method_18_code 230 = .ok (.iadd, 1) := q_tb t_Mo_process3 17 rfl
theorem d_Mo_process_231 : decode prog_11_method_18_code 231 = .ok (.aload_n 0, 1) := q_tb t_Mo_process3 18 rfl
theorem d_Mo_process_232 : decode prog_11_method_18_code 232 = .ok (.getfield 47, 3) := q_tb t_Mo_process3 19 rfl
theorem d_Mo_process_235 : decode prog_11_method_18_code 235 = .ok (.iload_n 2, 1) := q_tb t_Mo_process3 20 rfl
theorem d_Mo_process_236 : decode prog_11_method_18_code 236 = .ok (.iaload, 1) := q_tb t_Mo_process3 21 rfl
theorem d_Mo_process_237 : decode prog_11_method_18_code 237 = .ok (.iastore, 1) := q_tb t_Mo_process3 22 rfl
theorem d_Mo_process_238 : decode prog_11_method_18_code 238 = .ok (.aload_n 0, 1) := q_tb t_Mo_process3 23 rfl
theorem d_Mo_process_239 : decode prog_11_method_18_code 239 = .ok (.getfield 38, 3) := q_tb t_Mo_process3 24 rfl
theorem d_Mo_process_242 : decode prog_11_method_18_code 242 = .ok (.bipush 13, 2) := q_tb t_Mo_process3 25 rfl
theorem d_Mo_process_244 : decode prog_11_method_18_code 244 = .ok (.iload_n 1, 1) := q_tb t_Mo_process3 26 rfl
theorem d_Mo_process_245 : decode prog_11_method_18_code 245 = .ok (.imul, 1) := q_tb t_Mo_process3 27 rfl
theorem d_Mo_process_246 : decode prog_11_method_18_code 246 = .ok (.iload_n 2, 1) := q_tb t_Mo_process3 28 rfl
theorem d_Mo_process_247 : decode prog_11_method_18_code 247 = .ok (.iadd, 1) := q_tb t_Mo_process3 29 rfl
theorem d_Mo_process_248 : decode prog_11_method_18_code 248 = .ok (.aload_n 0, 1) := q_tb t_Mo_process3 30 rfl
theorem d_Mo_process_249 : decode prog_11_method_18_code 249 = .ok (.getfield 50, 3) := q_tb t_Mo_process3 31 rfl
theorem d_Mo_process_252 : decode prog_11_method_18_code 252 = .ok (.iload_n 2, 1) := q_tb t_Mo_process3 32 rfl
theorem d_Mo_process_253 : decode prog_11_method_18_code 253 = .ok (.iaload, 1) := q_tb t_Mo_process3 33 rfl
theorem d_Mo_process_254 : decode prog_11_method_18_code 254 = .ok (.iastore, 1) := q_tb t_Mo_process3 34 rfl
theorem d_Mo_process_255 : decode prog_11_method_18_code 255 = .ok (.iinc 2 1, 3) := q_tb t_Mo_process3 35 rfl
theorem d_Mo_process_258 : decode prog_11_method_18_code 258 = .ok (.goto (-89), 3) := q_tb t_Mo_process3 36 rfl
theorem d_Mo_process_261 : decode prog_11_method_18_code 261 = .ok (.aload_n 0, 1) := q_tb t_Mo_process3 37 rfl
theorem d_Mo_process_262 : decode prog_11_method_18_code 262 = .ok (.dup, 1) := q_tb t_Mo_process3 38 rfl
theorem d_Mo_process_263 : decode prog_11_method_18_code 263 = .ok (.getfield 111, 3) := q_tb t_Mo_process3 39 rfl
def T_Mo_process4 : List (Nat × Instr × Nat) := [(266, .iconst 1, 1), (267, .iadd, 1), (268, .putfield 111, 3), (271, .aload_n 0, 1), (272, .invokevirtual 108, 3), (275, .iload_n 1, 1), (276, .ireturn, 1)]
set_option maxRecDepth 100000 in
theorem t_Mo_process4 : ∀ q ∈ T_Mo_process4, decode prog_11_method_18_code q.1 = .ok q.2 := by decide +kernel
theorem d_Mo_process_266 : decode prog_11_method_18_code 266 = .ok (.iconst 1, 1) := q_tb t_Mo_process4 0 rfl
theorem d_Mo_process_267 : decode prog_11_method_18_code 267 = .ok (.iadd, 1) := q_tb t_Mo_process4 1 rfl
theorem d_Mo_process_268 : decode prog_11_method_18_code 268 = .ok (.putfield 111, 3) := q_tb t_Mo_process4 2 rfl
theorem d_Mo_process_271 : decode prog_11_method_18_code 271 = .ok (.aload_n 0, 1) := q_tb t_Mo_process4 3 rfl
theorem d_Mo_process_272 : decode prog_11_method_18_code 272 = .ok (.invokevirtual 108, 3) := q_tb t_Mo_process4 4 rfl
theorem d_Mo_process_275 : decode prog_11_method_18_code 275 = .ok (.iload_n 1, 1) := q_tb t_Mo_process4 5 rfl
theorem d_Mo_process_276 : decode prog_11_method_18_code 276 = .ok (.ireturn, 1) := q_tb t_Mo_process4 6 rfl
def T_Mo_beginChoices : List (Nat × Instr × Nat) := [(0, .aload_n 0, 1), (1, .getfield 53, 3), (4, .aload_n 0, 1), (5, .getfield 117, 3), (8, .iconst 0, 1), (9, .bastore, 1), (10, .aload_n 0, 1), (11, .getfield 57, 3), (14, .aload_n 0, 1), (15, .getfield 117, 3), (18, .iconst 0, 1), (19, .iastore, 1), (20, .aload_n 0, 1), (21, .getfield 60, 3), (24, .aload_n 0, 1), (25, .getfield 117, 3), (28, .iconst 0, 1), (29, .iastore, 1), (30, .aload_n 0, 1), (31, .invokevirtual 120, 3), (34, .return_, 1)]
set_option maxRecDepth 100000 in
theorem t_Mo_beginChoices : ∀ q ∈ T_Mo_beginChoices, decode prog_11_method_11_code q.1 = .ok q.2 := by decide +kernel
theorem d_Mo_beginChoices_0 : decode prog_11_method_11_code 0 = .ok (.aload_n 0, 1) := q_tb t_Mo_beginChoices 0 rfl
theorem d_Mo_beginChoices_1 : decode prog_11_method_11_code 1 = .ok (.getfield 53, 3) := q_tb t_Mo_beginChoices 1 rfl
theorem d_Mo_beginChoices_4 : decode prog_11_method_11_code 4 = .ok (.aload_n 0, 1) := q_tb t_Mo_beginChoices 2 rfl
theorem d_Mo_beginChoices_5 : decode prog_11_method_11_code 5 = .ok (.getfield 117, 3) := q_tb t_Mo_beginChoices 3 rfl
theorem d_Mo_beginChoices_8 : decode prog_11_method_11_code 8 = .ok (.iconst 0, 1) := q_tb t_Mo_beginChoices 4 rfl
theorem d_Mo_beginChoices_9 : decode prog_11_method_11_code 9 = .ok (.bastore, 1) := q_tb t_Mo_beginChoices 5 rfl
theorem d_Mo_beginChoices_10 : decode prog_11_method_11_code 10 = .ok (.aload_n 0, 1) := q_tb t_Mo_beginChoices 6 rfl
theorem d_Mo_beginChoices_11 : decode prog_11_method_11_code 11 = .ok (.getfield 57, 3) := q_tb t_Mo_beginChoices 7 rfl
theorem d_Mo_beginChoices_14 : decode prog_11_method_11_code 14 = .ok (.aload_n 0, 1) := q_tb t_Mo_beginChoices 8 rfl
theorem d_Mo_beginChoices_15 : decode prog_11_method_11_code 15 = .ok (.getfield 117, 3) := q_tb t_Mo_beginChoices 9 rfl
theorem d_Mo_beginChoices_18 : decode prog_11_method_11_code 18 = .ok (.iconst 0, 1) := q_tb t_Mo_beginChoices 10 rfl
theorem d_Mo_beginChoices_19 : decode prog_11_method_11_code 19 = .ok (.iastore, 1) := q_tb t_Mo_beginChoices 11 rfl
theorem d_Mo_beginChoices_20 : decode prog_11_method_11_code 20 = .ok (.aload_n 0, 1) := q_tb t_Mo_beginChoices 12 rfl
theorem d_Mo_beginChoices_21 : decode prog_11_method_11_code 21 = .ok (.getfield 60, 3) := q_tb t_Mo_beginChoices 13 rfl
theorem d_Mo_beginChoices_24 : decode prog_11_method_11_code 24 = .ok (.aload_n 0, 1) := q_tb t_Mo_beginChoices 14 rfl
theorem d_Mo_beginChoices_25 : decode prog_11_method_11_code 25 = .ok (.getfield 117, 3) := q_tb t_Mo_beginChoices 15 rfl
theorem d_Mo_beginChoices_28 : decode prog_11_method_11_code 28 = .ok (.iconst 0, 1) := q_tb t_Mo_beginChoices 16 rfl
theorem d_Mo_beginChoices_29 : decode prog_11_method_11_code 29 = .ok (.iastore, 1) := q_tb t_Mo_beginChoices 17 rfl
theorem d_Mo_beginChoices_30 : decode prog_11_method_11_code 30 = .ok (.aload_n 0, 1) := q_tb t_Mo_beginChoices 18 rfl
theorem d_Mo_beginChoices_31 : decode prog_11_method_11_code 31 = .ok (.invokevirtual 120, 3) := q_tb t_Mo_beginChoices 19 rfl
theorem d_Mo_beginChoices_34 : decode prog_11_method_11_code 34 = .ok (.return_, 1) := q_tb t_Mo_beginChoices 20 rfl
def T_Mo_beginRow : List (Nat × Instr × Nat) := [(0, .aload_n 0, 1), (1, .getfield 63, 3), (4, .aload_n 0, 1), (5, .getfield 117, 3), (8, .iconst 1, 1), (9, .bastore, 1), (10, .aload_n 0, 1), (11, .getfield 66, 3), (14, .aload_n 0, 1), (15, .getfield 117, 3), (18, .iconst 0, 1), (19, .iastore, 1), (20, .aload_n 0, 1), (21, .getfield 69, 3), (24, .aload_n 0, 1), (25, .getfield 117, 3), (28, .iconst 0, 1), (29, .iastore, 1), (30, .return_, 1)]
set_option maxRecDepth 100000 in
theorem t_Mo_beginRow : ∀ q ∈ T_Mo_beginRow, decode prog_11_method_10_code q.1 = .ok q.2 := by decide +kernel
theorem d_Mo_beginRow_0 : decode prog_11_method_10_code 0 = .ok (.aload_n 0, 1) := q_tb t_Mo_beginRow 0 rfl
theorem d_Mo_beginRow_1 : decode prog_11_method_10_code 1 = .ok (.getfield 63, 3) := q_tb t_Mo_beginRow 1 rfl
theorem d_Mo_beginRow_4 : decode prog_11_method_10_code 4 = .ok (.aload_n 0, 1) := q_tb t_Mo_beginRow 2 rfl
theorem d_Mo_beginRow_5 : decode prog_11_method_10_code 5 = .ok (.getfield 117, 3) := q_tb t_Mo_beginRow 3 rfl
theorem d_Mo_beginRow_8 : decode prog_11_method_10_code 8 = .ok (.iconst 1, 1) := q_tb t_Mo_beginRow 4 rfl
theorem d_Mo_beginRow_9 : decode prog_11_method_10_code 9 = .ok (.bastore, 1) := q_tb t_Mo_beginRow 5 rfl
theorem d_Mo_beginRow_10 : decode prog_11_method_10_code 10 = .ok (.aload_n 0, 1) := q_tb t_Mo_beginRow 6 rfl
theorem d_Mo_beginRow_11 : decode prog_11_method_10_code 11 = .ok (.getfield 66, 3) := q_tb t_Mo_beginRow 7 rfl
theorem d_Mo_beginRow_14 : decode prog_11_method_10_code 14 = .ok (.aload_n 0, 1) := q_tb t_Mo_beginRow 8 rfl
theorem d_Mo_beginRow_15 : decode prog_11_method_10_code 15 = .ok (.getfield 117, 3) := q_tb t_Mo_beginRow 9 rfl
theorem d_Mo_beginRow_18 : decode prog_11_method_10_code 18 = .ok (.iconst 0, 1) := q_tb t_Mo_beginRow 10 rfl
theorem d_Mo_beginRow_19 : decode prog_11_method_10_code 19 = .ok (.iastore, 1) := q_tb t_Mo_beginRow 11 rfl
theorem d_Mo_beginRow_20 : decode prog_11_method_10_code 20 = .ok (.aload_n 0, 1) := q_tb t_Mo_beginRow 12 rfl
theorem d_Mo_beginRow_21 : decode prog_11_method_10_code 21 = .ok (.getfield 69, 3) := q_tb t_Mo_beginRow 13 rfl
theorem d_Mo_beginRow_24 : decode prog_11_method_10_code 24 = .ok (.aload_n 0, 1) := q_tb t_Mo_beginRow 14 rfl
theorem d_Mo_beginRow_25 : decode prog_11_method_10_code 25 = .ok (.getfield 117, 3) := q_tb t_Mo_beginRow 15 rfl
theorem d_Mo_beginRow_28 : decode prog_11_method_10_code 28 = .ok (.iconst 0, 1) := q_tb t_Mo_beginRow 16 rfl
theorem d_Mo_beginRow_29 : decode prog_11_method_10_code 29 = .ok (.iastore, 1) := q_tb t_Mo_beginRow 17 rfl
theorem d_Mo_beginRow_30 : decode prog_11_method_10_code 30 = .ok (.return_, 1) := q_tb t_Mo_beginRow 18 rfl
def T_Mo_step0 : List (Nat × Instr × Nat) := [(0, .aload_n 0, 1), (1, .aload_n 0, 1), (2, .getfield 123, 3), (5, .invokevirtual 126, 3), (8, .istore_n 1, 1), (9, .iload_n 1, 1), (10, .bipush 40, 2), (12, .if_icmp .ne 49, 3), (15, .aload_n 0, 1), (16, .getfield 117, 3), (19, .bipush 12, 2), (21, .if_icmp .ne 13, 3), (24, .aload_n 0, 1), (25, .iconst 3, 1), (26, .aload_n 0, 1), (27, .getfield 123, 3), (30, .invokevirtual 149, 3), (33, .return_, 1), (34, .aload_n 0, 1), (35, .dup, 1), (36, .getfield 117, 3), (39, .iconst 1, 1), (40, .iadd, 1), (41, .putfield 117, 3), (44, .aload_n 0, 1), (45, .invokevirtual 156, 3), (48, .aload_n 0, 1), (49, .dup, 1), (50, .getfield 123, 3), (53, .iconst 1, 1), (54, .iadd, 1), (55, .putfield 123, 3), (58, .goto 161, 3), (61, .iload_n 1, 1), (62, .bipush 41, 2), (64, .if_icmp .ne 80, 3), (67, .aload_n 0, 1), (68, .getfield 117, 3), (71, .ifCond .le 73, 3), (74, .aload_n 0, 1)]
set_option maxRecDepth 100000 in
theorem t_Mo_step0 : ∀ q ∈ T_Mo_step0, decode prog_11_method_17_code q.1 = .ok q.2 := by decide +kernel
theorem d_Mo_step_0 : decode prog_11_method_17_code 0 = .ok (.aload_n 0, 1) := q_tb t_Mo_step0 0 rfl
theorem d_Mo_step_1 : decode prog_11_method_17_code 1 = .ok (.aload_n 0, 1) := q_tb t_Mo_step0 1 rfl
theorem d_Mo_step_2 : decode prog_11_method_17_code 2 = .ok (.getfield 123, 3) := q_tb t_Mo_step0 2 rfl
theorem d_Mo_step_5 : decode prog_11_method_17_code 5 = .ok (.invokevirtual 126, 3) := q_tb t_Mo_step0 3 rfl
theorem d_Mo_step_8 : decode prog_11_method_17_code 8 = .ok (.istore_n 1, 1) := q_tb t_Mo_step0 4 rfl
theorem d_Mo_step_9 : decode prog_11_method_17_code 9 = .ok (.iload_n 1, 1) := q_tb t_Mo_step0 5 rfl
theorem d_Mo_step_10 : decode prog_11_method_17_code 10 = .ok (.bipush 40, 2) := q_tb t_Mo_step0 6 rfl
theorem d_Mo_step_12 : decode prog_11_method_17_code 12 = .ok (.if_icmp .ne 49, 3) := q_tb t_Mo_step0 7 rfl
theorem d_Mo_step_15 : decode prog_11_method_17_code 15 = .ok (.aload_n 0, 1) := q_tb t_Mo_step0 8 rfl
theorem d_Mo_step_16 : decode prog_11_method_17_code 16 = .ok (.getfield 117, 3) := q_tb t_Mo_step0 9 rfl
theorem d_Mo_step_19 : decode prog_11_method_17_code 19 = .ok (.bipush 12, 2) := q_tb t_Mo_step0 10 rfl
theorem d_Mo_step_21 : decode prog_11_method_17_code 21 = .ok (.if_icmp .ne 13, 3) := q_tb t_Mo_step0 11 rfl
theorem d_Mo_step_24 : decode prog_11_method_17_code 24 = .ok (.aload_n 0, 1) := q_tb t_Mo_step0 12 rfl
theorem d_Mo_step_25 : decode prog_11_method_17_code 25 = .ok (.iconst 3, 1) := q_tb t_Mo_step0 13 rfl
theorem d_Mo_step_26 : decode prog_11_method_17_code 26 = .ok (.aload_n 0, 1) := q_tb t_Mo_step0 14 rfl
theorem d_Mo_step_27 : decode prog_11_method_17_code 27 = .ok (.getfield 123, 3) := q_tb t_Mo_step0 15 rfl
theorem d_Mo_step_30 : decode prog_11_method_17_code 30 = .ok (.invokevirtual 149, 3) := q_tb t_Mo_step0 16 rfl
theorem d_Mo_step_33 : decode prog_11_method_17_code 33 = .ok (.return_, 1) := q_tb t_Mo_step0 17 rfl
theorem d_Mo_step_34 : decode prog_11_method_17_code 34 = .ok (.aload_n 0, 1) := q_tb t_Mo_step0 18 rfl
theorem d_Mo_step_35 : decode prog_11_method_17_code 35 = .ok (.dup, 1) := q_tb t_Mo_step0 19 rfl
theorem d_Mo_step_36 : decode prog_11_method_17_code 36 = .ok (.getfield 117, 3) := q_tb t_Mo_step0 20 rfl
theorem d_Mo_step_39 : decode prog_11_method_17_code 39 = .ok (.iconst 1, 1) := q_tb t_Mo_step0 21 rfl
theorem d_Mo_step_40 : decode prog_11_method_17_code 40 = .ok (.iadd, 1) := q_tb t_Mo_step0 22 rfl
theorem d_Mo_step_41 : decode prog_11_method_17_code 41 = .ok (.putfield 117, 3) := q_tb t_Mo_step0 23 rfl
theorem d_Mo_step_44 : decode prog_11_method_17_code 44 = .ok (.aload_n 0, 1) := q_tb t_Mo_step0 24 rfl
theorem d_Mo_step_45 : decode prog_11_method_17_code 45 = .ok (.invokevirtual 156, 3) := q_tb t_Mo_step0 25 rfl
theorem d_Mo_step_48 : decode prog_11_method_17_code 48 = .ok (.aload_n 0, 1) := q_tb t_Mo_step0 26 rfl
theorem d_Mo_step_49 : decode prog_11_method_17_code 49 = .ok (.dup, 1) := q_tb t_Mo_step0 27 rfl
theorem d_Mo_step_50 : decode prog_11_method_17_code 50 = .ok (.getfield 123, 3) := q_tb t_Mo_step0 28 rfl
theorem d_Mo_step_53 : decode prog_11_method_17_code 53 = .ok (.iconst 1, 1) := q_tb t_Mo_step0 29 rfl
theorem d_Mo_step_54 : decode prog_11_method_17_code 54 = .ok (.iadd, 1) := q_tb t_Mo_step0 30 rfl
theorem d_Mo_step_55 : decode prog_11_method_17_code 55 = .ok (.putfield 123, 3) := q_tb t_Mo_step0 31 rfl
theorem d_Mo_step_58 : decode prog_11_method_17_code 58 = .ok (.goto 161, 3) := q_tb t_Mo_step0 32 rfl
theorem d_Mo_step_61 : decode prog_11_method_17_code 61 = .ok (.iload_n 1, 1) := q_tb t_Mo_step0 33 rfl
theorem d_Mo_step_62 : decode prog_11_method_17_code 62 = .ok (.bipush 41, 2) := q_tb t_Mo_step0 34 rfl
theorem d_Mo_step_64 : decode prog_11_method_17_code 64 = .ok (.if_icmp .ne 80, 3) := q_tb t_Mo_step0 35 rfl
theorem d_Mo_step_67 : decode prog_11_method_17_code 67 = .ok (.aload_n 0, 1) := q_tb t_Mo_step0 36 rfl
theorem d_Mo_step_68 : decode prog_11_method_17_code 68 = .ok (.getfield 117, 3) := q_tb t_Mo_step0 37 rfl
theorem d_Mo_step_71 : decode prog_11_method_17_code 71 = .ok (.ifCond .le 73, 3) := q_tb t_Mo_step0 38 rfl
theorem d_Mo_step_74 : decode prog_11_method_17_code 74 = .ok (.aload_n 0, 1) := q_tb t_Mo_step0 39 rfl
def T_Mo_step1 : List (Nat × Instr × Nat) := [(75, .invokevirtual 159, 3), (78, .aload_n 0, 1), (79, .aload_n 0, 1), (80, .getfield 53, 3), (83, .aload_n 0, 1), (84, .getfield 117, 3), (87, .baload, 1), (88, .putfield 130, 3), (91, .aload_n 0, 1), (92, .aload_n 0, 1), (93, .getfield 57, 3), (96, .aload_n 0, 1), (97, .getfield 117, 3), (100, .iaload, 1), (101, .putfield 136, 3), (104, .aload_n 0, 1), (105, .aload_n 0, 1), (106, .getfield 60, 3), (109, .aload_n 0, 1), (110, .getfield 117, 3), (113, .iaload, 1), (114, .putfield 133, 3), (117, .aload_n 0, 1), (118, .dup, 1), (119, .getfield 117, 3), (122, .iconst 1, 1), (123, .isub, 1), (124, .putfield 117, 3), (127, .aload_n 0, 1), (128, .dup, 1), (129, .getfield 123, 3), (132, .iconst 1, 1), (133, .iadd, 1), (134, .putfield 123, 3), (137, .aload_n 0, 1), (138, .invokevirtual 146, 3), (141, .goto 78, 3), (144, .iload_n 1, 1), (145, .bipush 124, 2), (147, .if_icmp .ne 24, 3)]
set_option maxRecDepth 100000 in
theorem t_Mo_step1 : ∀ q ∈ T_Mo_step1, decode prog_11_method_17_code q.1 = .ok q.2 := by decide +kernel
theorem d_Mo_step_75 : decode prog_11_method_17_code 75 = .ok (.invokevirtual 159, 3) := q_tb t_Mo_step1 0 rfl
theorem d_Mo_step_78 : decode prog_11_method_17_code 78 = .ok (.aload_n 0, 1) := q_tb t_Mo_step1 1 rfl
theorem d_Mo_step_79 : decode prog_11_method_17_code 79 = .ok (.aload_n 0, 1) := q_tb t_Mo_step1 2 rfl
theorem d_Mo_step_80 : decode prog_11_method_17_code 80 = .ok (.getfield 53, 3) := q_tb t_Mo_step1 3 rfl
theorem d_Mo_step_83 : decode prog_11_method_17_code 83 = .ok (.aload_n 0, 1) := q_tb t_Mo_step1 4 rfl
theorem d_Mo_step_84 : decode prog_11_method_17_code 84 = .ok (.getfield 117, 3) := q_tb t_Mo_step1 5 rfl
theorem d_Mo_step_87 : decode prog_11_method_17_code 87 = .ok (.baload, 1) := q_tb t_Mo_step1 6 rfl
theorem d_Mo_step_88 : decode prog_11_method_17_code 88 = .ok (.putfield 130, 3) := q_tb t_Mo_step1 7 rfl
theorem d_Mo_step_91 : decode prog_11_method_17_code 91 = .ok (.aload_n 0, 1) := q_tb t_Mo_step1 8 rfl
theorem d_Mo_step_92 : decode prog_11_method_17_code 92 = .ok (.aload_n 0, 1) := q_tb t_Mo_step1 9 rfl
theorem d_Mo_step_93 : decode prog_11_method_17_code 93 = .ok (.getfield 57, 3) := q_tb t_Mo_step1 10 rfl
theorem d_Mo_step_96 : decode prog_11_method_17_code 96 = .ok (.aload_n 0, 1) := q_tb t_Mo_step1 11 rfl
theorem d_Mo_step_97 : decode prog_11_method_17_code 97 = .ok (.getfield 117, 3) := q_tb t_Mo_step1 12 rfl
theorem d_Mo_step_100 : decode prog_11_method_17_code 100 = .ok (.iaload, 1) := q_tb t_Mo_step1 13 rfl
theorem d_Mo_step_101 : decode prog_11_method_17_code 101 = .ok (.putfield 136, 3) := q_tb t_Mo_step1 14 rfl
theorem d_Mo_step_104 : decode prog_11_method_17_code 104 = .ok (.aload_n 0, 1) := q_tb t_Mo_step1 15 rfl
theorem d_Mo_step_105 : decode prog_11_method_17_code 105 = .ok (.aload_n 0, 1) := q_tb t_Mo_step1 16 rfl
theorem d_Mo_step_106 : decode prog_11_method_17_code 106 = .ok (.getfield 60, 3) := q_tb t_Mo_step1 17 rfl
theorem d_Mo_step_109 : decode prog_11_method_17_code 109 = .ok (.aload_n 0, 1) := q_tb t_Mo_step1 18 rfl
theorem d_Mo_step_110 : decode prog_11_method_17_code 110 = .ok (.getfield 117, 3) := q_tb t_Mo_step1 19 rfl
theorem d_Mo_step_113 : decode prog_11_method_17_code 113 = .ok (.iaload, 1) := q_tb t_Mo_step1 20 rfl
theorem d_Mo_step_114 : decode prog_11_method_17_code 114 = .ok (.putfield 133, 3) := q_tb t_Mo_step1 21 rfl
theorem d_Mo_step_117 : decode prog_11_method_17_code 117 = .ok (.aload_n 0, 1) := q_tb t_Mo_step1 22 rfl
theorem d_Mo_step_118 : decode prog_11_method_17_code 118 = .ok (.dup, 1) := q_tb t_Mo_step1 23 rfl
theorem d_Mo_step_119 : decode prog_11_method_17_code 119 = .ok (.getfield 117, 3) := q_tb t_Mo_step1 24 rfl
theorem d_Mo_step_122 : decode prog_11_method_17_code 122 = .ok (.iconst 1, 1) := q_tb t_Mo_step1 25 rfl
theorem d_Mo_step_123 : decode prog_11_method_17_code 123 = .ok (.isub, 1) := q_tb t_Mo_step1 26 rfl
theorem d_Mo_step_124 : decode prog_11_method_17_code 124 = .ok (.putfield 117, 3) := q_tb t_Mo_step1 27 rfl
theorem d_Mo_step_127 : decode prog_11_method_17_code 127 = .ok (.aload_n 0, 1) := q_tb t_Mo_step1 28 rfl
theorem d_Mo_step_128 : decode prog_11_method_17_code 128 = .ok (.dup, 1) := q_tb t_Mo_step1 29 rfl
theorem d_Mo_step_129 : decode prog_11_method_17_code 129 = .ok (.getfield 123, 3) := q_tb t_Mo_step1 30 rfl
theorem d_Mo_step_132 : decode prog_11_method_17_code 132 = .ok (.iconst 1, 1) := q_tb t_Mo_step1 31 rfl
theorem d_Mo_step_133 : decode prog_11_method_17_code 133 = .ok (.iadd, 1) := q_tb t_Mo_step1 32 rfl
theorem d_Mo_step_134 : decode prog_11_method_17_code 134 = .ok (.putfield 123, 3) := q_tb t_Mo_step1 33 rfl
theorem d_Mo_step_137 : decode prog_11_method_17_code 137 = .ok (.aload_n 0, 1) := q_tb t_Mo_step1 34 rfl
theorem d_Mo_step_138 : decode prog_11_method_17_code 138 = .ok (.invokevirtual 146, 3) := q_tb t_Mo_step1 35 rfl
theorem d_Mo_step_141 : decode prog_11_method_17_code 141 = .ok (.goto 78, 3) := q_tb t_Mo_step1 36 rfl
theorem d_Mo_step_144 : decode prog_11_method_17_code 144 = .ok (.iload_n 1, 1) := q_tb t_Mo_step1 37 rfl
theorem d_Mo_step_145 : decode prog_11_method_17_code 145 = .ok (.bipush 124, 2) := q_tb t_Mo_step1 38 rfl
theorem d_Mo_step_147 : decode prog_11_method_17_code 147 = .ok (.if_icmp .ne 24, 3) := q_tb t_Mo_step1 39 rfl
def T_Mo_step2 : List (Nat × Instr × Nat) := [(150, .aload_n 0, 1), (151, .invokevirtual 159, 3), (154, .aload_n 0, 1), (155, .invokevirtual 120, 3), (158, .aload_n 0, 1), (159, .dup, 1), (160, .getfield 123, 3), (163, .iconst 1, 1), (164, .iadd, 1), (165, .putfield 123, 3), (168, .goto 51, 3), (171, .aload_n 0, 1), (172, .getfield 143, 3), (175, .bipush 12, 2), (177, .if_icmp .ne 38, 3), (180, .iload_n 1, 1), (181, .bipush 46, 2), (183, .if_icmp .eq 20, 3), (186, .iload_n 1, 1), (187, .bipush 97, 2), (189, .if_icmp .lt 26, 3), (192, .iload_n 1, 1), (193, .bipush 97, 2), (195, .aload_n 0, 1), (196, .getfield 105, 3), (199, .iadd, 1), (200, .if_icmp .ge 15, 3), (203, .aload_n 0, 1), (204, .iconst 2, 1), (205, .aload_n 0, 1), (206, .getfield 123, 3), (209, .invokevirtual 149, 3), (212, .goto 7, 3), (215, .aload_n 0, 1), (216, .invokevirtual 162, 3), (219, .return_, 1)]
set_option maxRecDepth 100000 in
theorem t_Mo_step2 : ∀ q ∈ T_Mo_step2, decode prog_11_method_17_code q.1 = .ok q.2 := by decide +kernel
theorem d_Mo_step_150 : decode prog_11_method_17_code 150 = .ok (.aload_n 0, 1) := q_tb t_Mo_step2 0 rfl
theorem d_Mo_step_151 : decode prog_11_method_17_code 151 = .ok (.invokevirtual 159, 3) := q_tb t_Mo_step2 1 rfl
theorem d_Mo_step_154 : decode prog_11_method_17_code 154 = .ok (.aload_n 0, 1) := q_tb t_Mo_step2 2 rfl
theorem d_Mo_step_155 : decode prog_11_method_17_code 155 = .ok (.invokevirtual 120, 3) := q_tb t_Mo_step2 3 rfl
theorem d_Mo_step_158 : decode prog_11_method_17_code 158 = .ok (.aload_n 0, 1) := q_tb t_Mo_step2 4 rfl
theorem d_Mo_step_159 : decode prog_11_method_17_code 159 = .ok (.dup, 1) := q_tb t_Mo_step2 5 rfl
theorem d_Mo_step_160 : decode prog_11_method_17_code 160 = .ok (.getfield 123, 3) := q_tb t_Mo_step2 6 rfl
theorem d_Mo_step_163 : decode prog_11_method_17_code 163 = .ok (.iconst 1, 1) := q_tb t_Mo_step2 7 rfl
theorem d_Mo_step_164 : decode prog_11_method_17_code 164 = .ok (.iadd, 1) := q_tb t_Mo_step2 8 rfl
theorem d_Mo_step_165 : decode prog_11_method_17_code 165 = .ok (.putfield 123, 3) := q_tb t_Mo_step2 9 rfl
theorem d_Mo_step_168 : decode prog_11_method_17_code 168 = .ok (.goto 51, 3) := q_tb t_Mo_step2 10 rfl
theorem d_Mo_step_171 : decode prog_11_method_17_code 171 = .ok (.aload_n 0, 1) := q_tb t_Mo_step2 11 rfl
theorem d_Mo_step_172 : decode prog_11_method_17_code 172 = .ok (.getfield 143, 3) := q_tb t_Mo_step2 12 rfl
theorem d_Mo_step_175 : decode prog_11_method_17_code 175 = .ok (.bipush 12, 2) := q_tb t_Mo_step2 13 rfl
theorem d_Mo_step_177 : decode prog_11_method_17_code 177 = .ok (.if_icmp .ne 38, 3) := q_tb t_Mo_step2 14 rfl
theorem d_Mo_step_180 : decode prog_11_method_17_code 180 = .ok (.iload_n 1, 1) := q_tb t_Mo_step2 15 rfl
theorem d_Mo_step_181 : decode prog_11_method_17_code 181 = .ok (.bipush 46, 2) := q_tb t_Mo_step2 16 rfl
theorem d_Mo_step_183 : decode prog_11_method_17_code 183 = .ok (.if_icmp .eq 20, 3) := q_tb t_Mo_step2 17 rfl
theorem d_Mo_step_186 : decode prog_11_method_17_code 186 = .ok (.iload_n 1, 1) := q_tb t_Mo_step2 18 rfl
theorem d_Mo_step_187 : decode prog_11_method_17_code 187 = .ok (.bipush 97, 2) := q_tb t_Mo_step2 19 rfl
theorem d_Mo_step_189 : decode prog_11_method_17_code 189 = .ok (.if_icmp .lt 26, 3) := q_tb t_Mo_step2 20 rfl
theorem d_Mo_step_192 : decode prog_11_method_17_code 192 = .ok (.iload_n 1, 1) := q_tb t_Mo_step2 21 rfl
theorem d_Mo_step_193 : decode prog_11_method_17_code 193 = .ok (.bipush 97, 2) := q_tb t_Mo_step2 22 rfl
theorem d_Mo_step_195 : decode prog_11_method_17_code 195 = .ok (.aload_n 0, 1) := q_tb t_Mo_step2 23 rfl
theorem d_Mo_step_196 : decode prog_11_method_17_code 196 = .ok (.getfield 105, 3) := q_tb t_Mo_step2 24 rfl
theorem d_Mo_step_199 : decode prog_11_method_17_code 199 = .ok (.iadd, 1) := q_tb t_Mo_step2 25 rfl
theorem d_Mo_step_200 : decode prog_11_method_17_code 200 = .ok (.if_icmp .ge 15, 3) := q_tb t_Mo_step2 26 rfl
theorem d_Mo_step_203 : decode prog_11_method_17_code 203 = .ok (.aload_n 0, 1) := q_tb t_Mo_step2 27 rfl
theorem d_Mo_step_204 : decode prog_11_method_17_code 204 = .ok (.iconst 2, 1) := q_tb t_Mo_step2 28 rfl
theorem d_Mo_step_205 : decode prog_11_method_17_code 205 = .ok (.aload_n 0, 1) := q_tb t_Mo_step2 29 rfl
theorem d_Mo_step_206 : decode prog_11_method_17_code 206 = .ok (.getfield 123, 3) := q_tb t_Mo_step2 30 rfl
theorem d_Mo_step_209 : decode prog_11_method_17_code 209 = .ok (.invokevirtual 149, 3) := q_tb t_Mo_step2 31 rfl
theorem d_Mo_step_212 : decode prog_11_method_17_code 212 = .ok (.goto 7, 3) := q_tb t_Mo_step2 32 rfl
theorem d_Mo_step_215 : decode prog_11_method_17_code 215 = .ok (.aload_n 0, 1) := q_tb t_Mo_step2 33 rfl
theorem d_Mo_step_216 : decode prog_11_method_17_code 216 = .ok (.invokevirtual 162, 3) := q_tb t_Mo_step2 34 rfl
theorem d_Mo_step_219 : decode prog_11_method_17_code 219 = .ok (.return_, 1) := q_tb t_Mo_step2 35 rfl
def T_Mo_byteAt : List (Nat × Instr × Nat) := [(0, .iload_n 1, 1), (1, .aload_n 0, 1), (2, .getfield 93, 3), (5, .if_icmp .ge 12, 3), (8, .aload_n 0, 1), (9, .getfield 7, 3), (12, .iload_n 1, 1), (13, .iaload, 1), (14, .goto 4, 3), (17, .iconst (-1), 1), (18, .ireturn, 1)]
set_option maxRecDepth 100000 in
theorem t_Mo_byteAt : ∀ q ∈ T_Mo_byteAt, decode prog_11_method_9_code q.1 = .ok q.2 := by decide +kernel
theorem d_Mo_byteAt_0 : decode prog_11_method_9_code 0 = .ok (.iload_n 1, 1) := q_tb t_Mo_byteAt 0 rfl
theorem d_Mo_byteAt_1 : decode prog_11_method_9_code 1 = .ok (.aload_n 0, 1) := q_tb t_Mo_byteAt 1 rfl
theorem d_Mo_byteAt_2 : decode prog_11_method_9_code 2 = .ok (.getfield 93, 3) := q_tb t_Mo_byteAt 2 rfl
theorem d_Mo_byteAt_5 : decode prog_11_method_9_code 5 = .ok (.if_icmp .ge 12, 3) := q_tb t_Mo_byteAt 3 rfl
theorem d_Mo_byteAt_8 : decode prog_11_method_9_code 8 = .ok (.aload_n 0, 1) := q_tb t_Mo_byteAt 4 rfl
theorem d_Mo_byteAt_9 : decode prog_11_method_9_code 9 = .ok (.getfield 7, 3) := q_tb t_Mo_byteAt 5 rfl
theorem d_Mo_byteAt_12 : decode prog_11_method_9_code 12 = .ok (.iload_n 1, 1) := q_tb t_Mo_byteAt 6 rfl
theorem d_Mo_byteAt_13 : decode prog_11_method_9_code 13 = .ok (.iaload, 1) := q_tb t_Mo_byteAt 7 rfl
theorem d_Mo_byteAt_14 : decode prog_11_method_9_code 14 = .ok (.goto 4, 3) := q_tb t_Mo_byteAt 8 rfl
theorem d_Mo_byteAt_17 : decode prog_11_method_9_code 17 = .ok (.iconst (-1), 1) := q_tb t_Mo_byteAt 9 rfl
theorem d_Mo_byteAt_18 : decode prog_11_method_9_code 18 = .ok (.ireturn, 1) := q_tb t_Mo_byteAt 10 rfl
def T_Mo_fail : List (Nat × Instr × Nat) := [(0, .aload_n 0, 1), (1, .getfield 114, 3), (4, .ifCond .ne 13, 3), (7, .aload_n 0, 1), (8, .iload_n 1, 1), (9, .putfield 114, 3), (12, .aload_n 0, 1), (13, .iload_n 2, 1), (14, .putfield 13, 3), (17, .return_, 1)]
set_option maxRecDepth 100000 in
theorem t_Mo_fail : ∀ q ∈ T_Mo_fail, decode prog_11_method_8_code q.1 = .ok q.2 := by decide +kernel
theorem d_Mo_fail_0 : decode prog_11_method_8_code 0 = .ok (.aload_n 0, 1) := q_tb t_Mo_fail 0 rfl
theorem d_Mo_fail_1 : decode prog_11_method_8_code 1 = .ok (.getfield 114, 3) := q_tb t_Mo_fail 1 rfl
theorem d_Mo_fail_4 : decode prog_11_method_8_code 4 = .ok (.ifCond .ne 13, 3) := q_tb t_Mo_fail 2 rfl
theorem d_Mo_fail_7 : decode prog_11_method_8_code 7 = .ok (.aload_n 0, 1) := q_tb t_Mo_fail 3 rfl
theorem d_Mo_fail_8 : decode prog_11_method_8_code 8 = .ok (.iload_n 1, 1) := q_tb t_Mo_fail 4 rfl
theorem d_Mo_fail_9 : decode prog_11_method_8_code 9 = .ok (.putfield 114, 3) := q_tb t_Mo_fail 5 rfl
theorem d_Mo_fail_12 : decode prog_11_method_8_code 12 = .ok (.aload_n 0, 1) := q_tb t_Mo_fail 6 rfl
theorem d_Mo_fail_13 : decode prog_11_method_8_code 13 = .ok (.iload_n 2, 1) := q_tb t_Mo_fail 7 rfl
theorem d_Mo_fail_14 : decode prog_11_method_8_code 14 = .ok (.putfield 13, 3) := q_tb t_Mo_fail 8 rfl
theorem d_Mo_fail_17 : decode prog_11_method_8_code 17 = .ok (.return_, 1) := q_tb t_Mo_fail 9 rfl
def T_Mo_endRow0 : List (Nat × Instr × Nat) := [(0, .aload_n 0, 1), (1, .getfield 53, 3), (4, .aload_n 0, 1), (5, .getfield 117, 3), (8, .aload_n 0, 1), (9, .getfield 53, 3), (12, .aload_n 0, 1), (13, .getfield 117, 3), (16, .baload, 1), (17, .ifCond .ne 15, 3), (20, .aload_n 0, 1), (21, .getfield 63, 3), (24, .aload_n 0, 1), (25, .getfield 117, 3), (28, .baload, 1), (29, .ifCond .eq 7, 3), (32, .iconst 1, 1), (33, .goto 4, 3), (36, .iconst 0, 1), (37, .bastore, 1), (38, .aload_n 0, 1), (39, .getfield 57, 3), (42, .aload_n 0, 1), (43, .getfield 117, 3), (46, .aload_n 0, 1), (47, .getfield 57, 3), (50, .aload_n 0, 1), (51, .getfield 117, 3), (54, .iaload, 1), (55, .aload_n 0, 1), (56, .getfield 66, 3), (59, .aload_n 0, 1), (60, .getfield 117, 3), (63, .iaload, 1), (64, .ior, 1), (65, .iastore, 1), (66, .aload_n 0, 1), (67, .getfield 60, 3), (70, .aload_n 0, 1), (71, .getfield 117, 3)]
set_option maxRecDepth 100000 in
theorem t_Mo_endRow0 : ∀ q ∈ T_Mo_endRow0, decode prog_11_method_12_code q.1 = .ok q.2 := by decide +kernel
theorem d_Mo_endRow_0 : decode prog_11_method_12_code 0 = .ok (.aload_n 0, 1) := q_tb t_Mo_endRow0 0 rfl
theorem d_Mo_endRow_1 : decode prog_11_method_12_code 1 = .ok (.getfield 53, 3) := q_tb t_Mo_endRow0 1 rfl
theorem d_Mo_endRow_4 : decode prog_11_method_12_code 4 = .ok (.aload_n 0, 1) := q_tb t_Mo_endRow0 2 rfl
theorem d_Mo_endRow_5 : decode prog_11_method_12_code 5 = .ok (.getfield 117, 3) := q_tb t_Mo_endRow0 3 rfl
theorem d_Mo_endRow_8 : decode prog_11_method_12_code 8 = .ok (.aload_n 0, 1) := q_tb t_Mo_endRow0 4 rfl
theorem d_Mo_endRow_9 : decode prog_11_method_12_code 9 = .ok (.getfield 53, 3) := q_tb t_Mo_endRow0 5 rfl
theorem d_Mo_endRow_12 : decode prog_11_method_12_code 12 = .ok (.aload_n 0, 1) := q_tb t_Mo_endRow0 6 rfl
theorem d_Mo_endRow_13 : decode prog_11_method_12_code 13 = .ok (.getfield 117, 3) := q_tb t_Mo_endRow0 7 rfl
theorem d_Mo_endRow_16 : decode prog_11_method_12_code 16 = .ok (.baload, 1) := q_tb t_Mo_endRow0 8 rfl
theorem d_Mo_endRow_17 : decode prog_11_method_12_code 17 = .ok (.ifCond .ne 15, 3) := q_tb t_Mo_endRow0 9 rfl
theorem d_Mo_endRow_20 : decode prog_11_method_12_code 20 = .ok (.aload_n 0, 1) := q_tb t_Mo_endRow0 10 rfl
theorem d_Mo_endRow_21 : decode prog_11_method_12_code 21 = .ok (.getfield 63, 3) := q_tb t_Mo_endRow0 11 rfl
theorem d_Mo_endRow_24 : decode prog_11_method_12_code 24 = .ok (.aload_n 0, 1) := q_tb t_Mo_endRow0 12 rfl
theorem d_Mo_endRow_25 : decode prog_11_method_12_code 25 = .ok (.getfield 117, 3) := q_tb t_Mo_endRow0 13 rfl
theorem d_Mo_endRow_28 : decode prog_11_method_12_code 28 = .ok (.baload, 1) := q_tb t_Mo_endRow0 14 rfl
theorem d_Mo_endRow_29 : decode prog_11_method_12_code 29 = .ok (.ifCond .eq 7, 3) := q_tb t_Mo_endRow0 15 rfl
theorem d_Mo_endRow_32 : decode prog_11_method_12_code 32 = .ok (.iconst 1, 1) := q_tb t_Mo_endRow0 16 rfl
theorem d_Mo_endRow_33 : decode prog_11_method_12_code 33 = .ok (.goto 4, 3) := q_tb t_Mo_endRow0 17 rfl
theorem d_Mo_endRow_36 : decode prog_11_method_12_code 36 = .ok (.iconst 0, 1) := q_tb t_Mo_endRow0 18 rfl
theorem d_Mo_endRow_37 : decode prog_11_method_12_code 37 = .ok (.bastore, 1) := q_tb t_Mo_endRow0 19 rfl
theorem d_Mo_endRow_38 : decode prog_11_method_12_code 38 = .ok (.aload_n 0, 1) := q_tb t_Mo_endRow0 20 rfl
theorem d_Mo_endRow_39 : decode prog_11_method_12_code 39 = .ok (.getfield 57, 3) := q_tb t_Mo_endRow0 21 rfl
theorem d_Mo_endRow_42 : decode prog_11_method_12_code 42 = .ok (.aload_n 0, 1) := q_tb t_Mo_endRow0 22 rfl
theorem d_Mo_endRow_43 : decode prog_11_method_12_code 43 = .ok (.getfield 117, 3) := q_tb t_Mo_endRow0 23 rfl
theorem d_Mo_endRow_46 : decode prog_11_method_12_code 46 = .ok (.aload_n 0, 1) := q_tb t_Mo_endRow0 24 rfl
theorem d_Mo_endRow_47 : decode prog_11_method_12_code 47 = .ok (.getfield 57, 3) := q_tb t_Mo_endRow0 25 rfl
theorem d_Mo_endRow_50 : decode prog_11_method_12_code 50 = .ok (.aload_n 0, 1) := q_tb t_Mo_endRow0 26 rfl
theorem d_Mo_endRow_51 : decode prog_11_method_12_code 51 = .ok (.getfield 117, 3) := q_tb t_Mo_endRow0 27 rfl
theorem d_Mo_endRow_54 : decode prog_11_method_12_code 54 = .ok (.iaload, 1) := q_tb t_Mo_endRow0 28 rfl
theorem d_Mo_endRow_55 : decode prog_11_method_12_code 55 = .ok (.aload_n 0, 1) := q_tb t_Mo_endRow0 29 rfl
theorem d_Mo_endRow_56 : decode prog_11_method_12_code 56 = .ok (.getfield 66, 3) := q_tb t_Mo_endRow0 30 rfl
theorem d_Mo_endRow_59 : decode prog_11_method_12_code 59 = .ok (.aload_n 0, 1) := q_tb t_Mo_endRow0 31 rfl
theorem d_Mo_endRow_60 : decode prog_11_method_12_code 60 = .ok (.getfield 117, 3) := q_tb t_Mo_endRow0 32 rfl
theorem d_Mo_endRow_63 : decode prog_11_method_12_code 63 = .ok (.iaload, 1) := q_tb t_Mo_endRow0 33 rfl
theorem d_Mo_endRow_64 : decode prog_11_method_12_code 64 = .ok (.ior, 1) := q_tb t_Mo_endRow0 34 rfl
theorem d_Mo_endRow_65 : decode prog_11_method_12_code 65 = .ok (.iastore, 1) := q_tb t_Mo_endRow0 35 rfl
theorem d_Mo_endRow_66 : decode prog_11_method_12_code 66 = .ok (.aload_n 0, 1) := q_tb t_Mo_endRow0 36 rfl
theorem d_Mo_endRow_67 : decode prog_11_method_12_code 67 = .ok (.getfield 60, 3) := q_tb t_Mo_endRow0 37 rfl
theorem d_Mo_endRow_70 : decode prog_11_method_12_code 70 = .ok (.aload_n 0, 1) := q_tb t_Mo_endRow0 38 rfl
theorem d_Mo_endRow_71 : decode prog_11_method_12_code 71 = .ok (.getfield 117, 3) := q_tb t_Mo_endRow0 39 rfl
def T_Mo_endRow1 : List (Nat × Instr × Nat) := [(74, .aload_n 0, 1), (75, .getfield 60, 3), (78, .aload_n 0, 1), (79, .getfield 117, 3), (82, .iaload, 1), (83, .aload_n 0, 1), (84, .getfield 69, 3), (87, .aload_n 0, 1), (88, .getfield 117, 3), (91, .iaload, 1), (92, .ior, 1), (93, .iastore, 1), (94, .return_, 1)]
set_option maxRecDepth 100000 in
theorem t_Mo_endRow1 : ∀ q ∈ T_Mo_endRow1, decode prog_11_method_12_code q.1 = .ok q.2 := by decide +kernel
theorem d_Mo_endRow_74 : decode prog_11_method_12_code 74 = .ok (.aload_n 0, 1) := q_tb t_Mo_endRow1 0 rfl
theorem d_Mo_endRow_75 : decode prog_11_method_12_code 75 = .ok (.getfield 60, 3) := q_tb t_Mo_endRow1 1 rfl
theorem d_Mo_endRow_78 : decode prog_11_method_12_code 78 = .ok (.aload_n 0, 1) := q_tb t_Mo_endRow1 2 rfl
theorem d_Mo_endRow_79 : decode prog_11_method_12_code 79 = .ok (.getfield 117, 3) := q_tb t_Mo_endRow1 3 rfl
theorem d_Mo_endRow_82 : decode prog_11_method_12_code 82 = .ok (.iaload, 1) := q_tb t_Mo_endRow1 4 rfl
theorem d_Mo_endRow_83 : decode prog_11_method_12_code 83 = .ok (.aload_n 0, 1) := q_tb t_Mo_endRow1 5 rfl
theorem d_Mo_endRow_84 : decode prog_11_method_12_code 84 = .ok (.getfield 69, 3) := q_tb t_Mo_endRow1 6 rfl
theorem d_Mo_endRow_87 : decode prog_11_method_12_code 87 = .ok (.aload_n 0, 1) := q_tb t_Mo_endRow1 7 rfl
theorem d_Mo_endRow_88 : decode prog_11_method_12_code 88 = .ok (.getfield 117, 3) := q_tb t_Mo_endRow1 8 rfl
theorem d_Mo_endRow_91 : decode prog_11_method_12_code 91 = .ok (.iaload, 1) := q_tb t_Mo_endRow1 9 rfl
theorem d_Mo_endRow_92 : decode prog_11_method_12_code 92 = .ok (.ior, 1) := q_tb t_Mo_endRow1 10 rfl
theorem d_Mo_endRow_93 : decode prog_11_method_12_code 93 = .ok (.iastore, 1) := q_tb t_Mo_endRow1 11 rfl
theorem d_Mo_endRow_94 : decode prog_11_method_12_code 94 = .ok (.return_, 1) := q_tb t_Mo_endRow1 12 rfl
def T_Mo_take0 : List (Nat × Instr × Nat) := [(0, .aload_n 0, 1), (1, .aload_n 0, 1), (2, .getfield 123, 3), (5, .invokevirtual 126, 3), (8, .bipush 42, 2), (10, .if_icmp .ne 33, 3), (13, .aload_n 0, 1), (14, .iconst 1, 1), (15, .putfield 130, 3), (18, .aload_n 0, 1), (19, .aload_n 0, 1), (20, .getfield 133, 3), (23, .aload_n 0, 1), (24, .getfield 136, 3), (27, .invokevirtual 139, 3), (30, .aload_n 0, 1), (31, .dup, 1), (32, .getfield 123, 3), (35, .iconst 1, 1), (36, .iadd, 1), (37, .putfield 123, 3), (40, .goto (-40), 3), (43, .aload_n 0, 1), (44, .aload_n 0, 1), (45, .getfield 69, 3), (48, .aload_n 0, 1), (49, .getfield 117, 3), (52, .iaload, 1), (53, .aload_n 0, 1), (54, .getfield 136, 3), (57, .invokevirtual 139, 3), (60, .aload_n 0, 1), (61, .getfield 66, 3), (64, .aload_n 0, 1), (65, .getfield 117, 3), (68, .aload_n 0, 1), (69, .getfield 63, 3), (72, .aload_n 0, 1), (73, .getfield 117, 3), (76, .baload, 1)]
set_option maxRecDepth 100000 in
theorem t_Mo_take0 : ∀ q ∈ T_Mo_take0, decode prog_11_method_14_code q.1 = .ok q.2 := by decide +kernel
theorem d_Mo_take_0 : decode prog_11_method_14_code 0 = .ok (.aload_n 0, 1) := q_tb t_Mo_take0 0 rfl
theorem d_Mo_take_1 : decode prog_11_method_14_code 1 = .ok (.aload_n 0, 1) := q_tb t_Mo_take0 1 rfl
theorem d_Mo_take_2 : decode prog_11_method_14_code 2 = .ok (.getfield 123, 3) := q_tb t_Mo_take0 2 rfl
theorem d_Mo_take_5 : decode prog_11_method_14_code 5 = .ok (.invokevirtual 126, 3) := q_tb t_Mo_take0 3 rfl
theorem d_Mo_take_8 : decode prog_11_method_14_code 8 = .ok (.bipush 42, 2) := q_tb t_Mo_take0 4 rfl
theorem d_Mo_take_10 : decode prog_11_method_14_code 10 = .ok (.if_icmp .ne 33, 3) := q_tb t_Mo_take0 5 rfl
theorem d_Mo_take_13 : decode prog_11_method_14_code 13 = .ok (.aload_n 0, 1) := q_tb t_Mo_take0 6 rfl
theorem d_Mo_take_14 : decode prog_11_method_14_code 14 = .ok (.iconst 1, 1) := q_tb t_Mo_take0 7 rfl
theorem d_Mo_take_15 : decode prog_11_method_14_code 15 = .ok (.putfield 130, 3) := q_tb t_Mo_take0 8 rfl
theorem d_Mo_take_18 : decode prog_11_method_14_code 18 = .ok (.aload_n 0, 1) := q_tb t_Mo_take0 9 rfl
theorem d_Mo_take_19 : decode prog_11_method_14_code 19 = .ok (.aload_n 0, 1) := q_tb t_Mo_take0 10 rfl
theorem d_Mo_take_20 : decode prog_11_method_14_code 20 = .ok (.getfield 133, 3) := q_tb t_Mo_take0 11 rfl
theorem d_Mo_take_23 : decode prog_11_method_14_code 23 = .ok (.aload_n 0, 1) := q_tb t_Mo_take0 12 rfl
theorem d_Mo_take_24 : decode prog_11_method_14_code 24 = .ok (.getfield 136, 3) := q_tb t_Mo_take0 13 rfl
theorem d_Mo_take_27 : decode prog_11_method_14_code 27 = .ok (.invokevirtual 139, 3) := q_tb t_Mo_take0 14 rfl
theorem d_Mo_take_30 : decode prog_11_method_14_code 30 = .ok (.aload_n 0, 1) := q_tb t_Mo_take0 15 rfl
theorem d_Mo_take_31 : decode prog_11_method_14_code 31 = .ok (.dup, 1) := q_tb t_Mo_take0 16 rfl
theorem d_Mo_take_32 : decode prog_11_method_14_code 32 = .ok (.getfield 123, 3) := q_tb t_Mo_take0 17 rfl
theorem d_Mo_take_35 : decode prog_11_method_14_code 35 = .ok (.iconst 1, 1) := q_tb t_Mo_take0 18 rfl
theorem d_Mo_take_36 : decode prog_11_method_14_code 36 = .ok (.iadd, 1) := q_tb t_Mo_take0 19 rfl
theorem d_Mo_take_37 : decode prog_11_method_14_code 37 = .ok (.putfield 123, 3) := q_tb t_Mo_take0 20 rfl
theorem d_Mo_take_40 : decode prog_11_method_14_code 40 = .ok (.goto (-40), 3) := q_tb t_Mo_take0 21 rfl
theorem d_Mo_take_43 : decode prog_11_method_14_code 43 = .ok (.aload_n 0, 1) := q_tb t_Mo_take0 22 rfl
theorem d_Mo_take_44 : decode prog_11_method_14_code 44 = .ok (.aload_n 0, 1) := q_tb t_Mo_take0 23 rfl
theorem d_Mo_take_45 : decode prog_11_method_14_code 45 = .ok (.getfield 69, 3) := q_tb t_Mo_take0 24 rfl
theorem d_Mo_take_48 : decode prog_11_method_14_code 48 = .ok (.aload_n 0, 1) := q_tb t_Mo_take0 25 rfl
theorem d_Mo_take_49 : decode prog_11_method_14_code 49 = .ok (.getfield 117, 3) := q_tb t_Mo_take0 26 rfl
theorem d_Mo_take_52 : decode prog_11_method_14_code 52 = .ok (.iaload, 1) := q_tb t_Mo_take0 27 rfl
theorem d_Mo_take_53 : decode prog_11_method_14_code 53 = .ok (.aload_n 0, 1) := q_tb t_Mo_take0 28 rfl
theorem d_Mo_take_54 : decode prog_11_method_14_code 54 = .ok (.getfield 136, 3) := q_tb t_Mo_take0 29 rfl
theorem d_Mo_take_57 : decode prog_11_method_14_code 57 = .ok (.invokevirtual 139, 3) := q_tb t_Mo_take0 30 rfl
theorem d_Mo_take_60 : decode prog_11_method_14_code 60 = .ok (.aload_n 0, 1) := q_tb t_Mo_take0 31 rfl
theorem d_Mo_take_61 : decode prog_11_method_14_code 61 = .ok (.getfield 66, 3) := q_tb t_Mo_take0 32 rfl
theorem d_Mo_take_64 : decode prog_11_method_14_code 64 = .ok (.aload_n 0, 1) := q_tb t_Mo_take0 33 rfl
theorem d_Mo_take_65 : decode prog_11_method_14_code 65 = .ok (.getfield 117, 3) := q_tb t_Mo_take0 34 rfl
theorem d_Mo_take_68 : decode prog_11_method_14_code 68 = .ok (.aload_n 0, 1) := q_tb t_Mo_take0 35 rfl
theorem d_Mo_take_69 : decode prog_11_method_14_code 69 = .ok (.getfield 63, 3) := q_tb t_Mo_take0 36 rfl
theorem d_Mo_take_72 : decode prog_11_method_14_code 72 = .ok (.aload_n 0, 1) := q_tb t_Mo_take0 37 rfl
theorem d_Mo_take_73 : decode prog_11_method_14_code 73 = .ok (.getfield 117, 3) := q_tb t_Mo_take0 38 rfl
theorem d_Mo_take_76 : decode prog_11_method_14_code 76 = .ok (.baload, 1) := q_tb t_Mo_take0 39 rfl
def T_Mo_take1 : List (Nat × Instr × Nat) := [(77, .ifCond .eq 20, 3), (80, .aload_n 0, 1), (81, .getfield 66, 3), (84, .aload_n 0, 1), (85, .getfield 117, 3), (88, .iaload, 1), (89, .aload_n 0, 1), (90, .getfield 136, 3), (93, .ior, 1), (94, .goto 12, 3), (97, .aload_n 0, 1), (98, .getfield 66, 3), (101, .aload_n 0, 1), (102, .getfield 117, 3), (105, .iaload, 1), (106, .iastore, 1), (107, .aload_n 0, 1), (108, .getfield 69, 3), (111, .aload_n 0, 1), (112, .getfield 117, 3), (115, .aload_n 0, 1), (116, .getfield 130, 3), (119, .ifCond .eq 20, 3), (122, .aload_n 0, 1), (123, .getfield 69, 3), (126, .aload_n 0, 1), (127, .getfield 117, 3), (130, .iaload, 1), (131, .aload_n 0, 1), (132, .getfield 133, 3), (135, .ior, 1), (136, .goto 7, 3), (139, .aload_n 0, 1), (140, .getfield 133, 3), (143, .iastore, 1), (144, .aload_n 0, 1), (145, .getfield 63, 3), (148, .aload_n 0, 1), (149, .getfield 117, 3), (152, .aload_n 0, 1)]
set_option maxRecDepth 100000 in
theorem t_Mo_take1 : ∀ q ∈ T_Mo_take1, decode prog_11_method_14_code q.1 = .ok q.2 := by decide +kernel
theorem d_Mo_take_77 : decode prog_11_method_14_code 77 = .ok (.ifCond .eq 20, 3) := q_tb t_Mo_take1 0 rfl
theorem d_Mo_take_80 : decode prog_11_method_14_code 80 = .ok (.aload_n 0, 1) := q_tb t_Mo_take1 1 rfl
theorem d_Mo_take_81 : decode prog_11_method_14_code 81 = .ok (.getfield 66, 3) := q_tb t_Mo_take1 2 rfl
theorem d_Mo_take_84 : decode prog_11_method_14_code 84 = .ok (.aload_n 0, 1) := q_tb t_Mo_take1 3 rfl
theorem d_Mo_take_85 : decode prog_11_method_14_code 85 = .ok (.getfield 117, 3) := q_tb t_Mo_take1 4 rfl
theorem d_Mo_take_88 : decode prog_11_method_14_code 88 = .ok (.iaload, 1) := q_tb t_Mo_take1 5 rfl
theorem d_Mo_take_89 : decode prog_11_method_14_code 89 = .ok (.aload_n 0, 1) := q_tb t_Mo_take1 6 rfl
theorem d_Mo_take_90 : decode prog_11_method_14_code 90 = .ok (.getfield 136, 3) := q_tb t_Mo_take1 7 rfl
theorem d_Mo_take_93 : decode prog_11_method_14_code 93 = .ok (.ior, 1) := q_tb t_Mo_take1 8 rfl
theorem d_Mo_take_94 : decode prog_11_method_14_code 94 = .ok (.goto 12, 3) := q_tb t_Mo_take1 9 rfl
theorem d_Mo_take_97 : decode prog_11_method_14_code 97 = .ok (.aload_n 0, 1) := q_tb t_Mo_take1 10 rfl
theorem d_Mo_take_98 : decode prog_11_method_14_code 98 = .ok (.getfield 66, 3) := q_tb t_Mo_take1 11 rfl
theorem d_Mo_take_101 : decode prog_11_method_14_code 101 = .ok (.aload_n 0, 1) := q_tb t_Mo_take1 12 rfl
theorem d_Mo_take_102 : decode prog_11_method_14_code 102 = .ok (.getfield 117, 3) := q_tb t_Mo_take1 13 rfl
theorem d_Mo_take_105 : decode prog_11_method_14_code 105 = .ok (.iaload, 1) := q_tb t_Mo_take1 14 rfl
theorem d_Mo_take_106 : decode prog_11_method_14_code 106 = .ok (.iastore, 1) := q_tb t_Mo_take1 15 rfl
theorem d_Mo_take_107 : decode prog_11_method_14_code 107 = .ok (.aload_n 0, 1) := q_tb t_Mo_take1 16 rfl
theorem d_Mo_take_108 : decode prog_11_method_14_code 108 = .ok (.getfield 69, 3) := q_tb t_Mo_take1 17 rfl
theorem d_Mo_take_111 : decode prog_11_method_14_code 111 = .ok (.aload_n 0, 1) := q_tb t_Mo_take1 18 rfl
theorem d_Mo_take_112 : decode prog_11_method_14_code 112 = .ok (.getfield 117, 3) := q_tb t_Mo_take1 19 rfl
theorem d_Mo_take_115 : decode prog_11_method_14_code 115 = .ok (.aload_n 0, 1) := q_tb t_Mo_take1 20 rfl
theorem d_Mo_take_116 : decode prog_11_method_14_code 116 = .ok (.getfield 130, 3) := q_tb t_Mo_take1 21 rfl
theorem d_Mo_take_119 : decode prog_11_method_14_code 119 = .ok (.ifCond .eq 20, 3) := q_tb t_Mo_take1 22 rfl
theorem d_Mo_take_122 : decode prog_11_method_14_code 122 = .ok (.aload_n 0, 1) := q_tb t_Mo_take1 23 rfl
theorem d_Mo_take_123 : decode prog_11_method_14_code 123 = .ok (.getfield 69, 3) := q_tb t_Mo_take1 24 rfl
theorem d_Mo_take_126 : decode prog_11_method_14_code 126 = .ok (.aload_n 0, 1) := q_tb t_Mo_take1 25 rfl
theorem d_Mo_take_127 : decode prog_11_method_14_code 127 = .ok (.getfield 117, 3) := q_tb t_Mo_take1 26 rfl
theorem d_Mo_take_130 : decode prog_11_method_14_code 130 = .ok (.iaload, 1) := q_tb t_Mo_take1 27 rfl
theorem d_Mo_take_131 : decode prog_11_method_14_code 131 = .ok (.aload_n 0, 1) := q_tb t_Mo_take1 28 rfl
theorem d_Mo_take_132 : decode prog_11_method_14_code 132 = .ok (.getfield 133, 3) := q_tb t_Mo_take1 29 rfl
theorem d_Mo_take_135 : decode prog_11_method_14_code 135 = .ok (.ior, 1) := q_tb t_Mo_take1 30 rfl
theorem d_Mo_take_136 : decode prog_11_method_14_code 136 = .ok (.goto 7, 3) := q_tb t_Mo_take1 31 rfl
theorem d_Mo_take_139 : decode prog_11_method_14_code 139 = .ok (.aload_n 0, 1) := q_tb t_Mo_take1 32 rfl
theorem d_Mo_take_140 : decode prog_11_method_14_code 140 = .ok (.getfield 133, 3) := q_tb t_Mo_take1 33 rfl
theorem d_Mo_take_143 : decode prog_11_method_14_code 143 = .ok (.iastore, 1) := q_tb t_Mo_take1 34 rfl
theorem d_Mo_take_144 : decode prog_11_method_14_code 144 = .ok (.aload_n 0, 1) := q_tb t_Mo_take1 35 rfl
theorem d_Mo_take_145 : decode prog_11_method_14_code 145 = .ok (.getfield 63, 3) := q_tb t_Mo_take1 36 rfl
theorem d_Mo_take_148 : decode prog_11_method_14_code 148 = .ok (.aload_n 0, 1) := q_tb t_Mo_take1 37 rfl
theorem d_Mo_take_149 : decode prog_11_method_14_code 149 = .ok (.getfield 117, 3) := q_tb t_Mo_take1 38 rfl
theorem d_Mo_take_152 : decode prog_11_method_14_code 152 = .ok (.aload_n 0, 1) := q_tb t_Mo_take1 39 rfl
def T_Mo_take2 : List (Nat × Instr × Nat) := [(153, .getfield 63, 3), (156, .aload_n 0, 1), (157, .getfield 117, 3), (160, .baload, 1), (161, .ifCond .eq 14, 3), (164, .aload_n 0, 1), (165, .getfield 130, 3), (168, .ifCond .eq 7, 3), (171, .iconst 1, 1), (172, .goto 4, 3), (175, .iconst 0, 1), (176, .bastore, 1), (177, .return_, 1)]
set_option maxRecDepth 100000 in
theorem t_Mo_take2 : ∀ q ∈ T_Mo_take2, decode prog_11_method_14_code q.1 = .ok q.2 := by decide +kernel
theorem d_Mo_take_153 : decode prog_11_method_14_code 153 = .ok (.getfield 63, 3) := q_tb t_Mo_take2 0 rfl
theorem d_Mo_take_156 : decode prog_11_method_14_code 156 = .ok (.aload_n 0, 1) := q_tb t_Mo_take2 1 rfl
theorem d_Mo_take_157 : decode prog_11_method_14_code 157 = .ok (.getfield 117, 3) := q_tb t_Mo_take2 2 rfl
theorem d_Mo_take_160 : decode prog_11_method_14_code 160 = .ok (.baload, 1) := q_tb t_Mo_take2 3 rfl
theorem d_Mo_take_161 : decode prog_11_method_14_code 161 = .ok (.ifCond .eq 14, 3) := q_tb t_Mo_take2 4 rfl
theorem d_Mo_take_164 : decode prog_11_method_14_code 164 = .ok (.aload_n 0, 1) := q_tb t_Mo_take2 5 rfl
theorem d_Mo_take_165 : decode prog_11_method_14_code 165 = .ok (.getfield 130, 3) := q_tb t_Mo_take2 6 rfl
theorem d_Mo_take_168 : decode prog_11_method_14_code 168 = .ok (.ifCond .eq 7, 3) := q_tb t_Mo_take2 7 rfl
theorem d_Mo_take_171 : decode prog_11_method_14_code 171 = .ok (.iconst 1, 1) := q_tb t_Mo_take2 8 rfl
theorem d_Mo_take_172 : decode prog_11_method_14_code 172 = .ok (.goto 4, 3) := q_tb t_Mo_take2 9 rfl
theorem d_Mo_take_175 : decode prog_11_method_14_code 175 = .ok (.iconst 0, 1) := q_tb t_Mo_take2 10 rfl
theorem d_Mo_take_176 : decode prog_11_method_14_code 176 = .ok (.bastore, 1) := q_tb t_Mo_take2 11 rfl
theorem d_Mo_take_177 : decode prog_11_method_14_code 177 = .ok (.return_, 1) := q_tb t_Mo_take2 12 rfl
def T_Mo_lead : List (Nat × Instr × Nat) := [(0, .iconst 0, 1), (1, .istore_n 3, 1), (2, .iload_n 3, 1), (3, .bipush 13, 2), (5, .if_icmp .ge 41, 3), (8, .aload_n 0, 1), (9, .getfield 41, 3), (12, .iload_n 3, 1), (13, .iload_n 1, 1), (14, .iload_n 3, 1), (15, .ishr, 1), (16, .iconst 1, 1), (17, .iand, 1), (18, .iconst 1, 1), (19, .if_icmp .ne 14, 3), (22, .aload_n 0, 1), (23, .getfield 41, 3), (26, .iload_n 3, 1), (27, .iaload, 1), (28, .iload_n 2, 1), (29, .ior, 1), (30, .goto 9, 3), (33, .aload_n 0, 1), (34, .getfield 41, 3), (37, .iload_n 3, 1), (38, .iaload, 1), (39, .iastore, 1), (40, .iinc 3 1, 3), (43, .goto (-41), 3), (46, .return_, 1)]
set_option maxRecDepth 100000 in
theorem t_Mo_lead : ∀ q ∈ T_Mo_lead, decode prog_11_method_13_code q.1 = .ok q.2 := by decide +kernel
theorem d_Mo_lead_0 : decode prog_11_method_13_code 0 = .ok (.iconst 0, 1) := q_tb t_Mo_lead 0 rfl
theorem d_Mo_lead_1 : decode prog_11_method_13_code 1 = .ok (.istore_n 3, 1) := q_tb t_Mo_lead 1 rfl
theorem d_Mo_lead_2 : decode prog_11_method_13_code 2 = .ok (.iload_n 3, 1) := q_tb t_Mo_lead 2 rfl
theorem d_Mo_lead_3 : decode prog_11_method_13_code 3 = .ok (.bipush 13, 2) := q_tb t_Mo_lead 3 rfl
theorem d_Mo_lead_5 : decode prog_11_method_13_code 5 = .ok (.if_icmp .ge 41, 3) := q_tb t_Mo_lead 4 rfl
theorem d_Mo_lead_8 : decode prog_11_method_13_code 8 = .ok (.aload_n 0, 1) := q_tb t_Mo_lead 5 rfl
theorem d_Mo_lead_9 : decode prog_11_method_13_code 9 = .ok (.getfield 41, 3) := q_tb t_Mo_lead 6 rfl
theorem d_Mo_lead_12 : decode prog_11_method_13_code 12 = .ok (.iload_n 3, 1) := q_tb t_Mo_lead 7 rfl
theorem d_Mo_lead_13 : decode prog_11_method_13_code 13 = .ok (.iload_n 1, 1) := q_tb t_Mo_lead 8 rfl
theorem d_Mo_lead_14 : decode prog_11_method_13_code 14 = .ok (.iload_n 3, 1) := q_tb t_Mo_lead 9 rfl
theorem d_Mo_lead_15 : decode prog_11_method_13_code 15 = .ok (.ishr, 1) := q_tb t_Mo_lead 10 rfl
theorem d_Mo_lead_16 : decode prog_11_method_13_code 16 = .ok (.iconst 1, 1) := q_tb t_Mo_lead 11 rfl
theorem d_Mo_lead_17 : decode prog_11_method_13_code 17 = .ok (.iand, 1) := q_tb t_Mo_lead 12 rfl
theorem d_Mo_lead_18 : decode prog_11_method_13_code 18 = .ok (.iconst 1, 1) := q_tb t_Mo_lead 13 rfl
theorem d_Mo_lead_19 : decode prog_11_method_13_code 19 = .ok (.if_icmp .ne 14, 3) := q_tb t_Mo_lead 14 rfl
theorem d_Mo_lead_22 : decode prog_11_method_13_code 22 = .ok (.aload_n 0, 1) := q_tb t_Mo_lead 15 rfl
theorem d_Mo_lead_23 : decode prog_11_method_13_code 23 = .ok (.getfield 41, 3) := q_tb t_Mo_lead 16 rfl
theorem d_Mo_lead_26 : decode prog_11_method_13_code 26 = .ok (.iload_n 3, 1) := q_tb t_Mo_lead 17 rfl
theorem d_Mo_lead_27 : decode prog_11_method_13_code 27 = .ok (.iaload, 1) := q_tb t_Mo_lead 18 rfl
theorem d_Mo_lead_28 : decode prog_11_method_13_code 28 = .ok (.iload_n 2, 1) := q_tb t_Mo_lead 19 rfl
theorem d_Mo_lead_29 : decode prog_11_method_13_code 29 = .ok (.ior, 1) := q_tb t_Mo_lead 20 rfl
theorem d_Mo_lead_30 : decode prog_11_method_13_code 30 = .ok (.goto 9, 3) := q_tb t_Mo_lead 21 rfl
theorem d_Mo_lead_33 : decode prog_11_method_13_code 33 = .ok (.aload_n 0, 1) := q_tb t_Mo_lead 22 rfl
theorem d_Mo_lead_34 : decode prog_11_method_13_code 34 = .ok (.getfield 41, 3) := q_tb t_Mo_lead 23 rfl
theorem d_Mo_lead_37 : decode prog_11_method_13_code 37 = .ok (.iload_n 3, 1) := q_tb t_Mo_lead 24 rfl
theorem d_Mo_lead_38 : decode prog_11_method_13_code 38 = .ok (.iaload, 1) := q_tb t_Mo_lead 25 rfl
theorem d_Mo_lead_39 : decode prog_11_method_13_code 39 = .ok (.iastore, 1) := q_tb t_Mo_lead 26 rfl
theorem d_Mo_lead_40 : decode prog_11_method_13_code 40 = .ok (.iinc 3 1, 3) := q_tb t_Mo_lead 27 rfl
theorem d_Mo_lead_43 : decode prog_11_method_13_code 43 = .ok (.goto (-41), 3) := q_tb t_Mo_lead 28 rfl
theorem d_Mo_lead_46 : decode prog_11_method_13_code 46 = .ok (.return_, 1) := q_tb t_Mo_lead 29 rfl
def T_Mo_readAct0 : List (Nat × Instr × Nat) := [(0, .aload_n 0, 1), (1, .aload_n 0, 1), (2, .getfield 123, 3), (5, .invokevirtual 126, 3), (8, .istore_n 1, 1), (9, .iload_n 1, 1), (10, .bipush 46, 2), (12, .if_icmp .eq 30, 3), (15, .iload_n 1, 1), (16, .bipush 97, 2), (18, .if_icmp .lt 14, 3), (21, .iload_n 1, 1), (22, .bipush 97, 2), (24, .aload_n 0, 1), (25, .getfield 105, 3), (28, .iadd, 1), (29, .if_icmp .lt 13, 3), (32, .aload_n 0, 1), (33, .iconst 1, 1), (34, .aload_n 0, 1), (35, .getfield 123, 3), (38, .invokevirtual 149, 3), (41, .return_, 1), (42, .aload_n 0, 1), (43, .dup, 1), (44, .getfield 123, 3), (47, .iconst 1, 1), (48, .iadd, 1), (49, .putfield 123, 3), (52, .iload_n 1, 1), (53, .bipush 46, 2), (55, .if_icmp .ne 11, 3), (58, .aload_n 0, 1), (59, .iconst 0, 1), (60, .iconst 0, 1), (61, .iconst 0, 1), (62, .invokevirtual 152, 3), (65, .return_, 1), (66, .aload_n 0, 1), (67, .aload_n 0, 1)]
set_option maxRecDepth 100000 in
theorem t_Mo_readAct0 : ∀ q ∈ T_Mo_readAct0, decode prog_11_method_16_code q.1 = .ok q.2 := by decide +kernel
theorem d_Mo_readAct_0 : decode prog_11_method_16_code 0 = .ok (.aload_n 0, 1) := q_tb t_Mo_readAct0 0 rfl
theorem d_Mo_readAct_1 : decode prog_11_method_16_code 1 = .ok (.aload_n 0, 1) := q_tb t_Mo_readAct0 1 rfl
theorem d_Mo_readAct_2 : decode prog_11_method_16_code 2 = .ok (.getfield 123, 3) := q_tb t_Mo_readAct0 2 rfl
theorem d_Mo_readAct_5 : decode prog_11_method_16_code 5 = .ok (.invokevirtual 126, 3) := q_tb t_Mo_readAct0 3 rfl
theorem d_Mo_readAct_8 : decode prog_11_method_16_code 8 = .ok (.istore_n 1, 1) := q_tb t_Mo_readAct0 4 rfl
theorem d_Mo_readAct_9 : decode prog_11_method_16_code 9 = .ok (.iload_n 1, 1) := q_tb t_Mo_readAct0 5 rfl
theorem d_Mo_readAct_10 : decode prog_11_method_16_code 10 = .ok (.bipush 46, 2) := q_tb t_Mo_readAct0 6 rfl
theorem d_Mo_readAct_12 : decode prog_11_method_16_code 12 = .ok (.if_icmp .eq 30, 3) := q_tb t_Mo_readAct0 7 rfl
theorem d_Mo_readAct_15 : decode prog_11_method_16_code 15 = .ok (.iload_n 1, 1) := q_tb t_Mo_readAct0 8 rfl
theorem d_Mo_readAct_16 : decode prog_11_method_16_code 16 = .ok (.bipush 97, 2) := q_tb t_Mo_readAct0 9 rfl
theorem d_Mo_readAct_18 : decode prog_11_method_16_code 18 = .ok (.if_icmp .lt 14, 3) := q_tb t_Mo_readAct0 10 rfl
theorem d_Mo_readAct_21 : decode prog_11_method_16_code 21 = .ok (.iload_n 1, 1) := q_tb t_Mo_readAct0 11 rfl
theorem d_Mo_readAct_22 : decode prog_11_method_16_code 22 = .ok (.bipush 97, 2) := q_tb t_Mo_readAct0 12 rfl
theorem d_Mo_readAct_24 : decode prog_11_method_16_code 24 = .ok (.aload_n 0, 1) := q_tb t_Mo_readAct0 13 rfl
theorem d_Mo_readAct_25 : decode prog_11_method_16_code 25 = .ok (.getfield 105, 3) := q_tb t_Mo_readAct0 14 rfl
theorem d_Mo_readAct_28 : decode prog_11_method_16_code 28 = .ok (.iadd, 1) := q_tb t_Mo_readAct0 15 rfl
theorem d_Mo_readAct_29 : decode prog_11_method_16_code 29 = .ok (.if_icmp .lt 13, 3) := q_tb t_Mo_readAct0 16 rfl
theorem d_Mo_readAct_32 : decode prog_11_method_16_code 32 = .ok (.aload_n 0, 1) := q_tb t_Mo_readAct0 17 rfl
theorem d_Mo_readAct_33 : decode prog_11_method_16_code 33 = .ok (.iconst 1, 1) := q_tb t_Mo_readAct0 18 rfl
theorem d_Mo_readAct_34 : decode prog_11_method_16_code 34 = .ok (.aload_n 0, 1) := q_tb t_Mo_readAct0 19 rfl
theorem d_Mo_readAct_35 : decode prog_11_method_16_code 35 = .ok (.getfield 123, 3) := q_tb t_Mo_readAct0 20 rfl
theorem d_Mo_readAct_38 : decode prog_11_method_16_code 38 = .ok (.invokevirtual 149, 3) := q_tb t_Mo_readAct0 21 rfl
theorem d_Mo_readAct_41 : decode prog_11_method_16_code 41 = .ok (.return_, 1) := q_tb t_Mo_readAct0 22 rfl
theorem d_Mo_readAct_42 : decode prog_11_method_16_code 42 = .ok (.aload_n 0, 1) := q_tb t_Mo_readAct0 23 rfl
theorem d_Mo_readAct_43 : decode prog_11_method_16_code 43 = .ok (.dup, 1) := q_tb t_Mo_readAct0 24 rfl
theorem d_Mo_readAct_44 : decode prog_11_method_16_code 44 = .ok (.getfield 123, 3) := q_tb t_Mo_readAct0 25 rfl
theorem d_Mo_readAct_47 : decode prog_11_method_16_code 47 = .ok (.iconst 1, 1) := q_tb t_Mo_readAct0 26 rfl
theorem d_Mo_readAct_48 : decode prog_11_method_16_code 48 = .ok (.iadd, 1) := q_tb t_Mo_readAct0 27 rfl
theorem d_Mo_readAct_49 : decode prog_11_method_16_code 49 = .ok (.putfield 123, 3) := q_tb t_Mo_readAct0 28 rfl
theorem d_Mo_readAct_52 : decode prog_11_method_16_code 52 = .ok (.iload_n 1, 1) := q_tb t_Mo_readAct0 29 rfl
theorem d_Mo_readAct_53 : decode prog_11_method_16_code 53 = .ok (.bipush 46, 2) := q_tb t_Mo_readAct0 30 rfl
theorem d_Mo_readAct_55 : decode prog_11_method_16_code 55 = .ok (.if_icmp .ne 11, 3) := q_tb t_Mo_readAct0 31 rfl
theorem d_Mo_readAct_58 : decode prog_11_method_16_code 58 = .ok (.aload_n 0, 1) := q_tb t_Mo_readAct0 32 rfl
theorem d_Mo_readAct_59 : decode prog_11_method_16_code 59 = .ok (.iconst 0, 1) := q_tb t_Mo_readAct0 33 rfl
theorem d_Mo_readAct_60 : decode prog_11_method_16_code 60 = .ok (.iconst 0, 1) := q_tb t_Mo_readAct0 34 rfl
theorem d_Mo_readAct_61 : decode prog_11_method_16_code 61 = .ok (.iconst 0, 1) := q_tb t_Mo_readAct0 35 rfl
theorem d_Mo_readAct_62 : decode prog_11_method_16_code 62 = .ok (.invokevirtual 152, 3) := q_tb t_Mo_readAct0 36 rfl
theorem d_Mo_readAct_65 : decode prog_11_method_16_code 65 = .ok (.return_, 1) := q_tb t_Mo_readAct0 37 rfl
theorem d_Mo_readAct_66 : decode prog_11_method_16_code 66 = .ok (.aload_n 0, 1) := q_tb t_Mo_readAct0 38 rfl
theorem d_Mo_readAct_67 : decode prog_11_method_16_code 67 = .ok (.aload_n 0, 1) := q_tb t_Mo_readAct0 39 rfl
def T_Mo_readAct1 : List (Nat × Instr × Nat) := [(68, .getfield 123, 3), (71, .invokevirtual 126, 3), (74, .istore_n 2, 1), (75, .iload_n 2, 1), (76, .bipush 43, 2), (78, .if_icmp .ne 7, 3), (81, .iconst 1, 1), (82, .goto 44, 3), (85, .iload_n 2, 1), (86, .bipush 45, 2), (88, .if_icmp .ne 7, 3), (91, .iconst 2, 1), (92, .goto 34, 3), (95, .iload_n 2, 1), (96, .bipush 61, 2), (98, .if_icmp .ne 7, 3), (101, .iconst 3, 1), (102, .goto 24, 3), (105, .iload_n 2, 1), (106, .bipush 63, 2), (108, .if_icmp .ne 7, 3), (111, .iconst 4, 1), (112, .goto 14, 3), (115, .iload_n 2, 1), (116, .bipush 33, 2), (118, .if_icmp .ne 7, 3), (121, .iconst 5, 1), (122, .goto 4, 3), (125, .iconst 0, 1), (126, .istore_n 3, 1), (127, .iload_n 3, 1), (128, .ifCond .ne 13, 3), (131, .aload_n 0, 1), (132, .iconst 1, 1), (133, .aload_n 0, 1), (134, .getfield 123, 3), (137, .invokevirtual 149, 3), (140, .return_, 1), (141, .aload_n 0, 1), (142, .dup, 1)]
set_option maxRecDepth 100000 in
theorem t_Mo_readAct1 : ∀ q ∈ T_Mo_readAct1, decode prog_11_method_16_code q.1 = .ok q.2 := by decide +kernel
theorem d_Mo_readAct_68 : decode prog_11_method_16_code 68 = .ok (.getfield 123, 3) := q_tb t_Mo_readAct1 0 rfl
theorem d_Mo_readAct_71 : decode prog_11_method_16_code 71 = .ok (.invokevirtual 126, 3) := q_tb t_Mo_readAct1 1 rfl
theorem d_Mo_readAct_74 : decode prog_11_method_16_code 74 = .ok (.istore_n 2, 1) := q_tb t_Mo_readAct1 2 rfl
theorem d_Mo_readAct_75 : decode prog_11_method_16_code 75 = .ok (.iload_n 2, 1) := q_tb t_Mo_readAct1 3 rfl
theorem d_Mo_readAct_76 : decode prog_11_method_16_code 76 = .ok (.bipush 43, 2) := q_tb t_Mo_readAct1 4 rfl
theorem d_Mo_readAct_78 : decode prog_11_method_16_code 78 = .ok (.if_icmp .ne 7, 3) := q_tb t_Mo_readAct1 5 rfl
theorem d_Mo_readAct_81 : decode prog_11_method_16_code 81 = .ok (.iconst 1, 1) := q_tb t_Mo_readAct1 6 rfl
theorem d_Mo_readAct_82 : decode prog_11_method_16_code 82 = .ok (.goto 44, 3) := q_tb t_Mo_readAct1 7 rfl
theorem d_Mo_readAct_85 : decode prog_11_method_16_code 85 = .ok (.iload_n 2, 1) := q_tb t_Mo_readAct1 8 rfl
theorem d_Mo_readAct_86 : decode prog_11_method_16_code 86 = .ok (.bipush 45, 2) := q_tb t_Mo_readAct1 9 rfl
theorem d_Mo_readAct_88 : decode prog_11_method_16_code 88 = .ok (.if_icmp .ne 7, 3) := q_tb t_Mo_readAct1 10 rfl
theorem d_Mo_readAct_91 : decode prog_11_method_16_code 91 = .ok (.iconst 2, 1) := q_tb t_Mo_readAct1 11 rfl
theorem d_Mo_readAct_92 : decode prog_11_method_16_code 92 = .ok (.goto 34, 3) := q_tb t_Mo_readAct1 12 rfl
theorem d_Mo_readAct_95 : decode prog_11_method_16_code 95 = .ok (.iload_n 2, 1) := q_tb t_Mo_readAct1 13 rfl
theorem d_Mo_readAct_96 : decode prog_11_method_16_code 96 = .ok (.bipush 61, 2) := q_tb t_Mo_readAct1 14 rfl
theorem d_Mo_readAct_98 : decode prog_11_method_16_code 98 = .ok (.if_icmp .ne 7, 3) := q_tb t_Mo_readAct1 15 rfl
theorem d_Mo_readAct_101 : decode prog_11_method_16_code 101 = .ok (.iconst 3, 1) := q_tb t_Mo_readAct1 16 rfl
theorem d_Mo_readAct_102 : decode prog_11_method_16_code 102 = .ok (.goto 24, 3) := q_tb t_Mo_readAct1 17 rfl
theorem d_Mo_readAct_105 : decode prog_11_method_16_code 105 = .ok (.iload_n 2, 1) := q_tb t_Mo_readAct1 18 rfl
theorem d_Mo_readAct_106 : decode prog_11_method_16_code 106 = .ok (.bipush 63, 2) := q_tb t_Mo_readAct1 19 rfl
theorem d_Mo_readAct_108 : decode prog_11_method_16_code 108 = .ok (.if_icmp .ne 7, 3) := q_tb t_Mo_readAct1 20 rfl
theorem d_Mo_readAct_111 : decode prog_11_method_16_code 111 = .ok (.iconst 4, 1) := q_tb t_Mo_readAct1 21 rfl
theorem d_Mo_readAct_112 : decode prog_11_method_16_code 112 = .ok (.goto 14, 3) := q_tb t_Mo_readAct1 22 rfl
theorem d_Mo_readAct_115 : decode prog_11_method_16_code 115 = .ok (.iload_n 2, 1) := q_tb t_Mo_readAct1 23 rfl
theorem d_Mo_readAct_116 : decode prog_11_method_16_code 116 = .ok (.bipush 33, 2) := q_tb t_Mo_readAct1 24 rfl
theorem d_Mo_readAct_118 : decode prog_11_method_16_code 118 = .ok (.if_icmp .ne 7, 3) := q_tb t_Mo_readAct1 25 rfl
theorem d_Mo_readAct_121 : decode prog_11_method_16_code 121 = .ok (.iconst 5, 1) := q_tb t_Mo_readAct1 26 rfl
theorem d_Mo_readAct_122 : decode prog_11_method_16_code 122 = .ok (.goto 4, 3) := q_tb t_Mo_readAct1 27 rfl
theorem d_Mo_readAct_125 : decode prog_11_method_16_code 125 = .ok (.iconst 0, 1) := q_tb t_Mo_readAct1 28 rfl
theorem d_Mo_readAct_126 : decode prog_11_method_16_code 126 = .ok (.istore_n 3, 1) := q_tb t_Mo_readAct1 29 rfl
theorem d_Mo_readAct_127 : decode prog_11_method_16_code 127 = .ok (.iload_n 3, 1) := q_tb t_Mo_readAct1 30 rfl
theorem d_Mo_readAct_128 : decode prog_11_method_16_code 128 = .ok (.ifCond .ne 13, 3) := q_tb t_Mo_readAct1 31 rfl
theorem d_Mo_readAct_131 : decode prog_11_method_16_code 131 = .ok (.aload_n 0, 1) := q_tb t_Mo_readAct1 32 rfl
theorem d_Mo_readAct_132 : decode prog_11_method_16_code 132 = .ok (.iconst 1, 1) := q_tb t_Mo_readAct1 33 rfl
theorem d_Mo_readAct_133 : decode prog_11_method_16_code 133 = .ok (.aload_n 0, 1) := q_tb t_Mo_readAct1 34 rfl
theorem d_Mo_readAct_134 : decode prog_11_method_16_code 134 = .ok (.getfield 123, 3) := q_tb t_Mo_readAct1 35 rfl
theorem d_Mo_readAct_137 : decode prog_11_method_16_code 137 = .ok (.invokevirtual 149, 3) := q_tb t_Mo_readAct1 36 rfl
theorem d_Mo_readAct_140 : decode prog_11_method_16_code 140 = .ok (.return_, 1) := q_tb t_Mo_readAct1 37 rfl
theorem d_Mo_readAct_141 : decode prog_11_method_16_code 141 = .ok (.aload_n 0, 1) := q_tb t_Mo_readAct1 38 rfl
theorem d_Mo_readAct_142 : decode prog_11_method_16_code 142 = .ok (.dup, 1) := q_tb t_Mo_readAct1 39 rfl
def T_Mo_readAct2 : List (Nat × Instr × Nat) := [(143, .getfield 123, 3), (146, .iconst 1, 1), (147, .iadd, 1), (148, .putfield 123, 3), (151, .iload_n 3, 1), (152, .iconst 3, 1), (153, .if_icmp .ge 14, 3), (156, .aload_n 0, 1), (157, .iload_n 3, 1), (158, .iload_n 1, 1), (159, .bipush 97, 2), (161, .isub, 1), (162, .iconst 0, 1), (163, .invokevirtual 152, 3), (166, .return_, 1), (167, .aload_n 0, 1), (168, .aload_n 0, 1), (169, .getfield 123, 3), (172, .invokevirtual 126, 3), (175, .bipush 48, 2), (177, .isub, 1), (178, .istore 4, 2), (180, .iload 4, 2), (182, .ifCond .lt 17, 3), (185, .iload 4, 2), (187, .aload_n 0, 1), (188, .getfield 17, 3), (191, .iload_n 1, 1), (192, .bipush 97, 2), (194, .isub, 1), (195, .iaload, 1), (196, .if_icmp .lt 13, 3), (199, .aload_n 0, 1), (200, .iconst 1, 1), (201, .aload_n 0, 1), (202, .getfield 123, 3), (205, .invokevirtual 149, 3), (208, .return_, 1), (209, .aload_n 0, 1), (210, .dup, 1)]
set_option maxRecDepth 100000 in
theorem t_Mo_readAct2 : ∀ q ∈ T_Mo_readAct2, decode prog_11_method_16_code q.1 = .ok q.2 := by decide +kernel
theorem d_Mo_readAct_143 : decode prog_11_method_16_code 143 = .ok (.getfield 123, 3) := q_tb t_Mo_readAct2 0 rfl
theorem d_Mo_readAct_146 : decode prog_11_method_16_code 146 = .ok (.iconst 1, 1) := q_tb t_Mo_readAct2 1 rfl
theorem d_Mo_readAct_147 : decode prog_11_method_16_code 147 = .ok (.iadd, 1) := q_tb t_Mo_readAct2 2 rfl
theorem d_Mo_readAct_148 : decode prog_11_method_16_code 148 = .ok (.putfield 123, 3) := q_tb t_Mo_readAct2 3 rfl
theorem d_Mo_readAct_151 : decode prog_11_method_16_code 151 = .ok (.iload_n 3, 1) := q_tb t_Mo_readAct2 4 rfl
theorem d_Mo_readAct_152 : decode prog_11_method_16_code 152 = .ok (.iconst 3, 1) := q_tb t_Mo_readAct2 5 rfl
theorem d_Mo_readAct_153 : decode prog_11_method_16_code 153 = .ok (.if_icmp .ge 14, 3) := q_tb t_Mo_readAct2 6 rfl
theorem d_Mo_readAct_156 : decode prog_11_method_16_code 156 = .ok (.aload_n 0, 1) := q_tb t_Mo_readAct2 7 rfl
theorem d_Mo_readAct_157 : decode prog_11_method_16_code 157 = .ok (.iload_n 3, 1) := q_tb t_Mo_readAct2 8 rfl
theorem d_Mo_readAct_158 : decode prog_11_method_16_code 158 = .ok (.iload_n 1, 1) := q_tb t_Mo_readAct2 9 rfl
theorem d_Mo_readAct_159 : decode prog_11_method_16_code 159 = .ok (.bipush 97, 2) := q_tb t_Mo_readAct2 10 rfl
theorem d_Mo_readAct_161 : decode prog_11_method_16_code 161 = .ok (.isub, 1) := q_tb t_Mo_readAct2 11 rfl
theorem d_Mo_readAct_162 : decode prog_11_method_16_code 162 = .ok (.iconst 0, 1) := q_tb t_Mo_readAct2 12 rfl
theorem d_Mo_readAct_163 : decode prog_11_method_16_code 163 = .ok (.invokevirtual 152, 3) := q_tb t_Mo_readAct2 13 rfl
theorem d_Mo_readAct_166 : decode prog_11_method_16_code 166 = .ok (.return_, 1) := q_tb t_Mo_readAct2 14 rfl
theorem d_Mo_readAct_167 : decode prog_11_method_16_code 167 = .ok (.aload_n 0, 1) := q_tb t_Mo_readAct2 15 rfl
theorem d_Mo_readAct_168 : decode prog_11_method_16_code 168 = .ok (.aload_n 0, 1) := q_tb t_Mo_readAct2 16 rfl
theorem d_Mo_readAct_169 : decode prog_11_method_16_code 169 = .ok (.getfield 123, 3) := q_tb t_Mo_readAct2 17 rfl
theorem d_Mo_readAct_172 : decode prog_11_method_16_code 172 = .ok (.invokevirtual 126, 3) := q_tb t_Mo_readAct2 18 rfl
theorem d_Mo_readAct_175 : decode prog_11_method_16_code 175 = .ok (.bipush 48, 2) := q_tb t_Mo_readAct2 19 rfl
theorem d_Mo_readAct_177 : decode prog_11_method_16_code 177 = .ok (.isub, 1) := q_tb t_Mo_readAct2 20 rfl
theorem d_Mo_readAct_178 : decode prog_11_method_16_code 178 = .ok (.istore 4, 2) := q_tb t_Mo_readAct2 21 rfl
theorem d_Mo_readAct_180 : decode prog_11_method_16_code 180 = .ok (.iload 4, 2) := q_tb t_Mo_readAct2 22 rfl
theorem d_Mo_readAct_182 : decode prog_11_method_16_code 182 = .ok (.ifCond .lt 17, 3) := q_tb t_Mo_readAct2 23 rfl
theorem d_Mo_readAct_185 : decode prog_11_method_16_code 185 = .ok (.iload 4, 2) := q_tb t_Mo_readAct2 24 rfl
theorem d_Mo_readAct_187 : decode prog_11_method_16_code 187 = .ok (.aload_n 0, 1) := q_tb t_Mo_readAct2 25 rfl
theorem d_Mo_readAct_188 : decode prog_11_method_16_code 188 = .ok (.getfield 17, 3) := q_tb t_Mo_readAct2 26 rfl
theorem d_Mo_readAct_191 : decode prog_11_method_16_code 191 = .ok (.iload_n 1, 1) := q_tb t_Mo_readAct2 27 rfl
theorem d_Mo_readAct_192 : decode prog_11_method_16_code 192 = .ok (.bipush 97, 2) := q_tb t_Mo_readAct2 28 rfl
theorem d_Mo_readAct_194 : decode prog_11_method_16_code 194 = .ok (.isub, 1) := q_tb t_Mo_readAct2 29 rfl
theorem d_Mo_readAct_195 : decode prog_11_method_16_code 195 = .ok (.iaload, 1) := q_tb t_Mo_readAct2 30 rfl
theorem d_Mo_readAct_196 : decode prog_11_method_16_code 196 = .ok (.if_icmp .lt 13, 3) := q_tb t_Mo_readAct2 31 rfl
theorem d_Mo_readAct_199 : decode prog_11_method_16_code 199 = .ok (.aload_n 0, 1) := q_tb t_Mo_readAct2 32 rfl
theorem d_Mo_readAct_200 : decode prog_11_method_16_code 200 = .ok (.iconst 1, 1) := q_tb t_Mo_readAct2 33 rfl
theorem d_Mo_readAct_201 : decode prog_11_method_16_code 201 = .ok (.aload_n 0, 1) := q_tb t_Mo_readAct2 34 rfl
theorem d_Mo_readAct_202 : decode prog_11_method_16_code 202 = .ok (.getfield 123, 3) := q_tb t_Mo_readAct2 35 rfl
theorem d_Mo_readAct_205 : decode prog_11_method_16_code 205 = .ok (.invokevirtual 149, 3) := q_tb t_Mo_readAct2 36 rfl
theorem d_Mo_readAct_208 : decode prog_11_method_16_code 208 = .ok (.return_, 1) := q_tb t_Mo_readAct2 37 rfl
theorem d_Mo_readAct_209 : decode prog_11_method_16_code 209 = .ok (.aload_n 0, 1) := q_tb t_Mo_readAct2 38 rfl
theorem d_Mo_readAct_210 : decode prog_11_method_16_code 210 = .ok (.dup, 1) := q_tb t_Mo_readAct2 39 rfl
def T_Mo_readAct3 : List (Nat × Instr × Nat) := [(211, .getfield 123, 3), (214, .iconst 1, 1), (215, .iadd, 1), (216, .putfield 123, 3), (219, .aload_n 0, 1), (220, .iload_n 3, 1), (221, .iload_n 1, 1), (222, .bipush 97, 2), (224, .isub, 1), (225, .iload 4, 2), (227, .invokevirtual 152, 3), (230, .return_, 1)]
set_option maxRecDepth 100000 in
theorem t_Mo_readAct3 : ∀ q ∈ T_Mo_readAct3, decode prog_11_method_16_code q.1 = .ok q.2 := by decide +kernel
theorem d_Mo_readAct_211 : decode prog_11_method_16_code 211 = .ok (.getfield 123, 3) := q_tb t_Mo_readAct3 0 rfl
theorem d_Mo_readAct_214 : decode prog_11_method_16_code 214 = .ok (.iconst 1, 1) := q_tb t_Mo_readAct3 1 rfl
theorem d_Mo_readAct_215 : decode prog_11_method_16_code 215 = .ok (.iadd, 1) := q_tb t_Mo_readAct3 2 rfl
theorem d_Mo_readAct_216 : decode prog_11_method_16_code 216 = .ok (.putfield 123, 3) := q_tb t_Mo_readAct3 3 rfl
theorem d_Mo_readAct_219 : decode prog_11_method_16_code 219 = .ok (.aload_n 0, 1) := q_tb t_Mo_readAct3 4 rfl
theorem d_Mo_readAct_220 : decode prog_11_method_16_code 220 = .ok (.iload_n 3, 1) := q_tb t_Mo_readAct3 5 rfl
theorem d_Mo_readAct_221 : decode prog_11_method_16_code 221 = .ok (.iload_n 1, 1) := q_tb t_Mo_readAct3 6 rfl
theorem d_Mo_readAct_222 : decode prog_11_method_16_code 222 = .ok (.bipush 97, 2) := q_tb t_Mo_readAct3 7 rfl
theorem d_Mo_readAct_224 : decode prog_11_method_16_code 224 = .ok (.isub, 1) := q_tb t_Mo_readAct3 8 rfl
theorem d_Mo_readAct_225 : decode prog_11_method_16_code 225 = .ok (.iload 4, 2) := q_tb t_Mo_readAct3 9 rfl
theorem d_Mo_readAct_227 : decode prog_11_method_16_code 227 = .ok (.invokevirtual 152, 3) := q_tb t_Mo_readAct3 10 rfl
theorem d_Mo_readAct_230 : decode prog_11_method_16_code 230 = .ok (.return_, 1) := q_tb t_Mo_readAct3 11 rfl
def T_Mo_act0 : List (Nat × Instr × Nat) := [(0, .aload_n 0, 1), (1, .dup, 1), (2, .getfield 143, 3), (5, .iconst 1, 1), (6, .iadd, 1), (7, .putfield 143, 3), (10, .aload_n 0, 1), (11, .getfield 44, 3), (14, .aload_n 0, 1), (15, .getfield 143, 3), (18, .iload_n 1, 1), (19, .iastore, 1), (20, .aload_n 0, 1), (21, .getfield 47, 3), (24, .aload_n 0, 1), (25, .getfield 143, 3), (28, .iload_n 2, 1), (29, .iastore, 1), (30, .aload_n 0, 1), (31, .getfield 50, 3), (34, .aload_n 0, 1), (35, .getfield 143, 3), (38, .iload_n 3, 1), (39, .iastore, 1), (40, .aload_n 0, 1), (41, .getfield 41, 3), (44, .aload_n 0, 1), (45, .getfield 143, 3), (48, .iconst 0, 1), (49, .iastore, 1), (50, .aload_n 0, 1), (51, .iconst 0, 1), (52, .putfield 130, 3), (55, .aload_n 0, 1), (56, .iconst 1, 1), (57, .aload_n 0, 1), (58, .getfield 143, 3), (61, .ishl, 1), (62, .putfield 136, 3), (65, .aload_n 0, 1)]
set_option maxRecDepth 100000 in
theorem t_Mo_act0 : ∀ q ∈ T_Mo_act0, decode prog_11_method_15_code q.1 = .ok q.2 := by decide +kernel
theorem d_Mo_act_0 : decode prog_11_method_15_code 0 = .ok (.aload_n 0, 1) := q_tb t_Mo_act0 0 rfl
theorem d_Mo_act_1 : decode prog_11_method_15_code 1 = .ok (.dup, 1) := q_tb t_Mo_act0 1 rfl
theorem d_Mo_act_2 : decode prog_11_method_15_code 2 = .ok (.getfield 143, 3) := q_tb t_Mo_act0 2 rfl
theorem d_Mo_act_5 : decode prog_11_method_15_code 5 = .ok (.iconst 1, 1) := q_tb t_Mo_act0 3 rfl
theorem d_Mo_act_6 : decode prog_11_method_15_code 6 = .ok (.iadd, 1) := q_tb t_Mo_act0 4 rfl
theorem d_Mo_act_7 : decode prog_11_method_15_code 7 = .ok (.putfield 143, 3) := q_tb t_Mo_act0 5 rfl
theorem d_Mo_act_10 : decode prog_11_method_15_code 10 = .ok (.aload_n 0, 1) := q_tb t_Mo_act0 6 rfl
theorem d_Mo_act_11 : decode prog_11_method_15_code 11 = .ok (.getfield 44, 3) := q_tb t_Mo_act0 7 rfl
theorem d_Mo_act_14 : decode prog_11_method_15_code 14 = .ok (.aload_n 0, 1) := q_tb t_Mo_act0 8 rfl
theorem d_Mo_act_15 : decode prog_11_method_15_code 15 = .ok (.getfield 143, 3) := q_tb t_Mo_act0 9 rfl
theorem d_Mo_act_18 : decode prog_11_method_15_code 18 = .ok (.iload_n 1, 1) := q_tb t_Mo_act0 10 rfl
theorem d_Mo_act_19 : decode prog_11_method_15_code 19 = .ok (.iastore, 1) := q_tb t_Mo_act0 11 rfl
theorem d_Mo_act_20 : decode prog_11_method_15_code 20 = .ok (.aload_n 0, 1) := q_tb t_Mo_act0 12 rfl
theorem d_Mo_act_21 : decode prog_11_method_15_code 21 = .ok (.getfield 47, 3) := q_tb t_Mo_act0 13 rfl
theorem d_Mo_act_24 : decode prog_11_method_15_code 24 = .ok (.aload_n 0, 1) := q_tb t_Mo_act0 14 rfl
theorem d_Mo_act_25 : decode prog_11_method_15_code 25 = .ok (.getfield 143, 3) := q_tb t_Mo_act0 15 rfl
theorem d_Mo_act_28 : decode prog_11_method_15_code 28 = .ok (.iload_n 2, 1) := q_tb t_Mo_act0 16 rfl
theorem d_Mo_act_29 : decode prog_11_method_15_code 29 = .ok (.iastore, 1) := q_tb t_Mo_act0 17 rfl
theorem d_Mo_act_30 : decode prog_11_method_15_code 30 = .ok (.aload_n 0, 1) := q_tb t_Mo_act0 18 rfl
theorem d_Mo_act_31 : decode prog_11_method_15_code 31 = .ok (.getfield 50, 3) := q_tb t_Mo_act0 19 rfl
theorem d_Mo_act_34 : decode prog_11_method_15_code 34 = .ok (.aload_n 0, 1) := q_tb t_Mo_act0 20 rfl
theorem d_Mo_act_35 : decode prog_11_method_15_code 35 = .ok (.getfield 143, 3) := q_tb t_Mo_act0 21 rfl
theorem d_Mo_act_38 : decode prog_11_method_15_code 38 = .ok (.iload_n 3, 1) := q_tb t_Mo_act0 22 rfl
theorem d_Mo_act_39 : decode prog_11_method_15_code 39 = .ok (.iastore, 1) := q_tb t_Mo_act0 23 rfl
theorem d_Mo_act_40 : decode prog_11_method_15_code 40 = .ok (.aload_n 0, 1) := q_tb t_Mo_act0 24 rfl
theorem d_Mo_act_41 : decode prog_11_method_15_code 41 = .ok (.getfield 41, 3) := q_tb t_Mo_act0 25 rfl
theorem d_Mo_act_44 : decode prog_11_method_15_code 44 = .ok (.aload_n 0, 1) := q_tb t_Mo_act0 26 rfl
theorem d_Mo_act_45 : decode prog_11_method_15_code 45 = .ok (.getfield 143, 3) := q_tb t_Mo_act0 27 rfl
theorem d_Mo_act_48 : decode prog_11_method_15_code 48 = .ok (.iconst 0, 1) := q_tb t_Mo_act0 28 rfl
theorem d_Mo_act_49 : decode prog_11_method_15_code 49 = .ok (.iastore, 1) := q_tb t_Mo_act0 29 rfl
theorem d_Mo_act_50 : decode prog_11_method_15_code 50 = .ok (.aload_n 0, 1) := q_tb t_Mo_act0 30 rfl
theorem d_Mo_act_51 : decode prog_11_method_15_code 51 = .ok (.iconst 0, 1) := q_tb t_Mo_act0 31 rfl
theorem d_Mo_act_52 : decode prog_11_method_15_code 52 = .ok (.putfield 130, 3) := q_tb t_Mo_act0 32 rfl
theorem d_Mo_act_55 : decode prog_11_method_15_code 55 = .ok (.aload_n 0, 1) := q_tb t_Mo_act0 33 rfl
theorem d_Mo_act_56 : decode prog_11_method_15_code 56 = .ok (.iconst 1, 1) := q_tb t_Mo_act0 34 rfl
theorem d_Mo_act_57 : decode prog_11_method_15_code 57 = .ok (.aload_n 0, 1) := q_tb t_Mo_act0 35 rfl
theorem d_Mo_act_58 : decode prog_11_method_15_code 58 = .ok (.getfield 143, 3) := q_tb t_Mo_act0 36 rfl
theorem d_Mo_act_61 : decode prog_11_method_15_code 61 = .ok (.ishl, 1) := q_tb t_Mo_act0 37 rfl
theorem d_Mo_act_62 : decode prog_11_method_15_code 62 = .ok (.putfield 136, 3) := q_tb t_Mo_act0 38 rfl
theorem d_Mo_act_65 : decode prog_11_method_15_code 65 = .ok (.aload_n 0, 1) := q_tb t_Mo_act0 39 rfl
def T_Mo_act1 : List (Nat × Instr × Nat) := [(66, .iconst 1, 1), (67, .aload_n 0, 1), (68, .getfield 143, 3), (71, .ishl, 1), (72, .putfield 133, 3), (75, .aload_n 0, 1), (76, .invokevirtual 146, 3), (79, .return_, 1)]
set_option maxRecDepth 100000 in
theorem t_Mo_act1 : ∀ q ∈ T_Mo_act1, decode prog_11_method_15_code q.1 = .ok q.2 := by decide +kernel
theorem d_Mo_act_66 : decode prog_11_method_15_code 66 = .ok (.iconst 1, 1) := q_tb t_Mo_act1 0 rfl
theorem d_Mo_act_67 : decode prog_11_method_15_code 67 = .ok (.aload_n 0, 1) := q_tb t_Mo_act1 1 rfl
theorem d_Mo_act_68 : decode prog_11_method_15_code 68 = .ok (.getfield 143, 3) := q_tb t_Mo_act1 2 rfl
theorem d_Mo_act_71 : decode prog_11_method_15_code 71 = .ok (.ishl, 1) := q_tb t_Mo_act1 3 rfl
theorem d_Mo_act_72 : decode prog_11_method_15_code 72 = .ok (.putfield 133, 3) := q_tb t_Mo_act1 4 rfl
theorem d_Mo_act_75 : decode prog_11_method_15_code 75 = .ok (.aload_n 0, 1) := q_tb t_Mo_act1 5 rfl
theorem d_Mo_act_76 : decode prog_11_method_15_code 76 = .ok (.invokevirtual 146, 3) := q_tb t_Mo_act1 6 rfl
theorem d_Mo_act_79 : decode prog_11_method_15_code 79 = .ok (.return_, 1) := q_tb t_Mo_act1 7 rfl
end NAMES3
end
section
/-! names, 3e: decode tables, printed by gen/names2.py -/
section NAMES3
def T_Mo_fault : List (Nat × Instr × Nat) := [(0, .aload_n 0, 1), (1, .iconst 0, 1), (2, .putfield 90, 3), (5, .aload_n 0, 1), (6, .getfield 114, 3), (9, .ireturn, 1)]
set_option maxRecDepth 100000 in
theorem t_Mo_fault : ∀ q ∈ T_Mo_fault, decode prog_11_method_19_code q.1 = .ok q.2 := by decide +kernel
theorem d_Mo_fault_0 : decode prog_11_method_19_code 0 = .ok (.aload_n 0, 1) := q_tb t_Mo_fault 0 rfl
theorem d_Mo_fault_1 : decode prog_11_method_19_code 1 = .ok (.iconst 0, 1) := q_tb t_Mo_fault 1 rfl
theorem d_Mo_fault_2 : decode prog_11_method_19_code 2 = .ok (.putfield 90, 3) := q_tb t_Mo_fault 2 rfl
theorem d_Mo_fault_5 : decode prog_11_method_19_code 5 = .ok (.aload_n 0, 1) := q_tb t_Mo_fault 3 rfl
theorem d_Mo_fault_6 : decode prog_11_method_19_code 6 = .ok (.getfield 114, 3) := q_tb t_Mo_fault 4 rfl
theorem d_Mo_fault_9 : decode prog_11_method_19_code 9 = .ok (.ireturn, 1) := q_tb t_Mo_fault 5 rfl
def T_Mo_faultAt : List (Nat × Instr × Nat) := [(0, .aload_n 0, 1), (1, .iconst 0, 1), (2, .putfield 90, 3), (5, .aload_n 0, 1), (6, .getfield 13, 3), (9, .ireturn, 1)]
set_option maxRecDepth 100000 in
theorem t_Mo_faultAt : ∀ q ∈ T_Mo_faultAt, decode prog_11_method_20_code q.1 = .ok q.2 := by decide +kernel
theorem d_Mo_faultAt_0 : decode prog_11_method_20_code 0 = .ok (.aload_n 0, 1) := q_tb t_Mo_faultAt 0 rfl
theorem d_Mo_faultAt_1 : decode prog_11_method_20_code 1 = .ok (.iconst 0, 1) := q_tb t_Mo_faultAt 1 rfl
theorem d_Mo_faultAt_2 : decode prog_11_method_20_code 2 = .ok (.putfield 90, 3) := q_tb t_Mo_faultAt 2 rfl
theorem d_Mo_faultAt_5 : decode prog_11_method_20_code 5 = .ok (.aload_n 0, 1) := q_tb t_Mo_faultAt 3 rfl
theorem d_Mo_faultAt_6 : decode prog_11_method_20_code 6 = .ok (.getfield 13, 3) := q_tb t_Mo_faultAt 4 rfl
theorem d_Mo_faultAt_9 : decode prog_11_method_20_code 9 = .ok (.ireturn, 1) := q_tb t_Mo_faultAt 5 rfl
def T_Mo_told0 : List (Nat × Instr × Nat) := [(0, .aload_n 0, 1), (1, .aload_n 0, 1), (2, .iload_n 1, 1), (3, .invokevirtual 168, 3), (6, .ifCond .eq 7, 3), (9, .iconst 1, 1), (10, .goto 17, 3), (13, .iload_n 2, 1), (14, .ifCond .lt 8, 3), (17, .iload_n 2, 1), (18, .iconst 2, 1), (19, .if_icmp .le 7, 3), (22, .iconst 2, 1), (23, .goto 4, 3), (26, .iconst 0, 1), (27, .putfield 90, 3), (30, .aload_n 0, 1), (31, .getfield 90, 3), (34, .ifCond .le 5, 3), (37, .iconst 0, 1), (38, .ireturn, 1), (39, .iconst 0, 1), (40, .istore_n 3, 1), (41, .iconst 0, 1), (42, .istore 4, 2), (44, .iload 4, 2), (46, .bipush 13, 2), (48, .if_icmp .ge 27, 3), (51, .iload_n 3, 1), (52, .aload_n 0, 1), (53, .getfield 29, 3), (56, .bipush 13, 2), (58, .iload_n 1, 1), (59, .imul, 1), (60, .iload 4, 2), (62, .iadd, 1), (63, .iaload, 1), (64, .invokestatic 172, 3), (67, .iadd, 1), (68, .istore_n 3, 1)]
set_option maxRecDepth 100000 in
theorem t_Mo_told0 : ∀ q ∈ T_Mo_told0, decode prog_11_method_23_code q.1 = .ok q.2 := by decide +kernel
theorem d_Mo_told_0 : decode prog_11_method_23_code 0 = .ok (.aload_n 0, 1) := q_tb t_Mo_told0 0 rfl
theorem d_Mo_told_1 : decode prog_11_method_23_code 1 = .ok (.aload_n 0, 1) := q_tb t_Mo_told0 1 rfl
theorem d_Mo_told_2 : decode prog_11_method_23_code 2 = .ok (.iload_n 1, 1) := q_tb t_Mo_told0 2 rfl
theorem d_Mo_told_3 : decode prog_11_method_23_code 3 = .ok (.invokevirtual 168, 3) := q_tb t_Mo_told0 3 rfl
theorem d_Mo_told_6 : decode prog_11_method_23_code 6 = .ok (.ifCond .eq 7, 3) := q_tb t_Mo_told0 4 rfl
theorem d_Mo_told_9 : decode prog_11_method_23_code 9 = .ok (.iconst 1, 1) := q_tb t_Mo_told0 5 rfl
theorem d_Mo_told_10 : decode prog_11_method_23_code 10 = .ok (.goto 17, 3) := q_tb t_Mo_told0 6 rfl
theorem d_Mo_told_13 : decode prog_11_method_23_code 13 = .ok (.iload_n 2, 1) := q_tb t_Mo_told0 7 rfl
theorem d_Mo_told_14 : decode prog_11_method_23_code 14 = .ok (.ifCond .lt 8, 3) := q_tb t_Mo_told0 8 rfl
theorem d_Mo_told_17 : decode prog_11_method_23_code 17 = .ok (.iload_n 2, 1) := q_tb t_Mo_told0 9 rfl
theorem d_Mo_told_18 : decode prog_11_method_23_code 18 = .ok (.iconst 2, 1) := q_tb t_Mo_told0 10 rfl
theorem d_Mo_told_19 : decode prog_11_method_23_code 19 = .ok (.if_icmp .le 7, 3) := q_tb t_Mo_told0 11 rfl
theorem d_Mo_told_22 : decode prog_11_method_23_code 22 = .ok (.iconst 2, 1) := q_tb t_Mo_told0 12 rfl
theorem d_Mo_told_23 : decode prog_11_method_23_code 23 = .ok (.goto 4, 3) := q_tb t_Mo_told0 13 rfl
theorem d_Mo_told_26 : decode prog_11_method_23_code 26 = .ok (.iconst 0, 1) := q_tb t_Mo_told0 14 rfl
theorem d_Mo_told_27 : decode prog_11_method_23_code 27 = .ok (.putfield 90, 3) := q_tb t_Mo_told0 15 rfl
theorem d_Mo_told_30 : decode prog_11_method_23_code 30 = .ok (.aload_n 0, 1) := q_tb t_Mo_told0 16 rfl
theorem d_Mo_told_31 : decode prog_11_method_23_code 31 = .ok (.getfield 90, 3) := q_tb t_Mo_told0 17 rfl
theorem d_Mo_told_34 : decode prog_11_method_23_code 34 = .ok (.ifCond .le 5, 3) := q_tb t_Mo_told0 18 rfl
theorem d_Mo_told_37 : decode prog_11_method_23_code 37 = .ok (.iconst 0, 1) := q_tb t_Mo_told0 19 rfl
theorem d_Mo_told_38 : decode prog_11_method_23_code 38 = .ok (.ireturn, 1) := q_tb t_Mo_told0 20 rfl
theorem d_Mo_told_39 : decode prog_11_method_23_code 39 = .ok (.iconst 0, 1) := q_tb t_Mo_told0 21 rfl
theorem d_Mo_told_40 : decode prog_11_method_23_code 40 = .ok (.istore_n 3, 1) := q_tb t_Mo_told0 22 rfl
theorem d_Mo_told_41 : decode prog_11_method_23_code 41 = .ok (.iconst 0, 1) := q_tb t_Mo_told0 23 rfl
theorem d_Mo_told_42 : decode prog_11_method_23_code 42 = .ok (.istore 4, 2) := q_tb t_Mo_told0 24 rfl
theorem d_Mo_told_44 : decode prog_11_method_23_code 44 = .ok (.iload 4, 2) := q_tb t_Mo_told0 25 rfl
theorem d_Mo_told_46 : decode prog_11_method_23_code 46 = .ok (.bipush 13, 2) := q_tb t_Mo_told0 26 rfl
theorem d_Mo_told_48 : decode prog_11_method_23_code 48 = .ok (.if_icmp .ge 27, 3) := q_tb t_Mo_told0 27 rfl
theorem d_Mo_told_51 : decode prog_11_method_23_code 51 = .ok (.iload_n 3, 1) := q_tb t_Mo_told0 28 rfl
theorem d_Mo_told_52 : decode prog_11_method_23_code 52 = .ok (.aload_n 0, 1) := q_tb t_Mo_told0 29 rfl
theorem d_Mo_told_53 : decode prog_11_method_23_code 53 = .ok (.getfield 29, 3) := q_tb t_Mo_told0 30 rfl
theorem d_Mo_told_56 : decode prog_11_method_23_code 56 = .ok (.bipush 13, 2) := q_tb t_Mo_told0 31 rfl
theorem d_Mo_told_58 : decode prog_11_method_23_code 58 = .ok (.iload_n 1, 1) := q_tb t_Mo_told0 32 rfl
theorem d_Mo_told_59 : decode prog_11_method_23_code 59 = .ok (.imul, 1) := q_tb t_Mo_told0 33 rfl
theorem d_Mo_told_60 : decode prog_11_method_23_code 60 = .ok (.iload 4, 2) := q_tb t_Mo_told0 34 rfl
theorem d_Mo_told_62 : decode prog_11_method_23_code 62 = .ok (.iadd, 1) := q_tb t_Mo_told0 35 rfl
theorem d_Mo_told_63 : decode prog_11_method_23_code 63 = .ok (.iaload, 1) := q_tb t_Mo_told0 36 rfl
theorem d_Mo_told_64 : decode prog_11_method_23_code 64 = .ok (.invokestatic 172, 3) := q_tb t_Mo_told0 37 rfl
theorem d_Mo_told_67 : decode prog_11_method_23_code 67 = .ok (.iadd, 1) := q_tb t_Mo_told0 38 rfl
theorem d_Mo_told_68 : decode prog_11_method_23_code 68 = .ok (.istore_n 3, 1) := q_tb t_Mo_told0 39 rfl
def T_Mo_told1 : List (Nat × Instr × Nat) := [(69, .iinc 4 1, 3), (72, .goto (-28), 3), (75, .iload_n 2, 1), (76, .ifCond .ne 12, 3), (79, .aload_n 0, 1), (80, .getfield 23, 3), (83, .iload_n 1, 1), (84, .iaload, 1), (85, .goto 21, 3), (88, .iload_n 2, 1), (89, .iconst 1, 1), (90, .if_icmp .ne 7, 3), (93, .iload_n 3, 1), (94, .goto 12, 3), (97, .aload_n 0, 1), (98, .getfield 26, 3), (101, .iload_n 1, 1), (102, .iaload, 1), (103, .invokestatic 172, 3), (106, .ireturn, 1)]
set_option maxRecDepth 100000 in
theorem t_Mo_told1 : ∀ q ∈ T_Mo_told1, decode prog_11_method_23_code q.1 = .ok q.2 := by decide +kernel
theorem d_Mo_told_69 : decode prog_11_method_23_code 69 = .ok (.iinc 4 1, 3) := q_tb t_Mo_told1 0 rfl
theorem d_Mo_told_72 : decode prog_11_method_23_code 72 = .ok (.goto (-28), 3) := q_tb t_Mo_told1 1 rfl
theorem d_Mo_told_75 : decode prog_11_method_23_code 75 = .ok (.iload_n 2, 1) := q_tb t_Mo_told1 2 rfl
theorem d_Mo_told_76 : decode prog_11_method_23_code 76 = .ok (.ifCond .ne 12, 3) := q_tb t_Mo_told1 3 rfl
theorem d_Mo_told_79 : decode prog_11_method_23_code 79 = .ok (.aload_n 0, 1) := q_tb t_Mo_told1 4 rfl
theorem d_Mo_told_80 : decode prog_11_method_23_code 80 = .ok (.getfield 23, 3) := q_tb t_Mo_told1 5 rfl
theorem d_Mo_told_83 : decode prog_11_method_23_code 83 = .ok (.iload_n 1, 1) := q_tb t_Mo_told1 6 rfl
theorem d_Mo_told_84 : decode prog_11_method_23_code 84 = .ok (.iaload, 1) := q_tb t_Mo_told1 7 rfl
theorem d_Mo_told_85 : decode prog_11_method_23_code 85 = .ok (.goto 21, 3) := q_tb t_Mo_told1 8 rfl
theorem d_Mo_told_88 : decode prog_11_method_23_code 88 = .ok (.iload_n 2, 1) := q_tb t_Mo_told1 9 rfl
theorem d_Mo_told_89 : decode prog_11_method_23_code 89 = .ok (.iconst 1, 1) := q_tb t_Mo_told1 10 rfl
theorem d_Mo_told_90 : decode prog_11_method_23_code 90 = .ok (.if_icmp .ne 7, 3) := q_tb t_Mo_told1 11 rfl
theorem d_Mo_told_93 : decode prog_11_method_23_code 93 = .ok (.iload_n 3, 1) := q_tb t_Mo_told1 12 rfl
theorem d_Mo_told_94 : decode prog_11_method_23_code 94 = .ok (.goto 12, 3) := q_tb t_Mo_told1 13 rfl
theorem d_Mo_told_97 : decode prog_11_method_23_code 97 = .ok (.aload_n 0, 1) := q_tb t_Mo_told1 14 rfl
theorem d_Mo_told_98 : decode prog_11_method_23_code 98 = .ok (.getfield 26, 3) := q_tb t_Mo_told1 15 rfl
theorem d_Mo_told_101 : decode prog_11_method_23_code 101 = .ok (.iload_n 1, 1) := q_tb t_Mo_told1 16 rfl
theorem d_Mo_told_102 : decode prog_11_method_23_code 102 = .ok (.iaload, 1) := q_tb t_Mo_told1 17 rfl
theorem d_Mo_told_103 : decode prog_11_method_23_code 103 = .ok (.invokestatic 172, 3) := q_tb t_Mo_told1 18 rfl
theorem d_Mo_told_106 : decode prog_11_method_23_code 106 = .ok (.ireturn, 1) := q_tb t_Mo_told1 19 rfl
def T_Mo_noProcess : List (Nat × Instr × Nat) := [(0, .iload_n 1, 1), (1, .ifCond .lt 11, 3), (4, .iload_n 1, 1), (5, .aload_n 0, 1), (6, .getfield 111, 3), (9, .if_icmp .lt 7, 3), (12, .iconst 1, 1), (13, .goto 4, 3), (16, .iconst 0, 1), (17, .ireturn, 1)]
set_option maxRecDepth 100000 in
theorem t_Mo_noProcess : ∀ q ∈ T_Mo_noProcess, decode prog_11_method_21_code q.1 = .ok q.2 := by decide +kernel
theorem d_Mo_noProcess_0 : decode prog_11_method_21_code 0 = .ok (.iload_n 1, 1) := q_tb t_Mo_noProcess 0 rfl
theorem d_Mo_noProcess_1 : decode prog_11_method_21_code 1 = .ok (.ifCond .lt 11, 3) := q_tb t_Mo_noProcess 1 rfl
theorem d_Mo_noProcess_4 : decode prog_11_method_21_code 4 = .ok (.iload_n 1, 1) := q_tb t_Mo_noProcess 2 rfl
theorem d_Mo_noProcess_5 : decode prog_11_method_21_code 5 = .ok (.aload_n 0, 1) := q_tb t_Mo_noProcess 3 rfl
theorem d_Mo_noProcess_6 : decode prog_11_method_21_code 6 = .ok (.getfield 111, 3) := q_tb t_Mo_noProcess 4 rfl
theorem d_Mo_noProcess_9 : decode prog_11_method_21_code 9 = .ok (.if_icmp .lt 7, 3) := q_tb t_Mo_noProcess 5 rfl
theorem d_Mo_noProcess_12 : decode prog_11_method_21_code 12 = .ok (.iconst 1, 1) := q_tb t_Mo_noProcess 6 rfl
theorem d_Mo_noProcess_13 : decode prog_11_method_21_code 13 = .ok (.goto 4, 3) := q_tb t_Mo_noProcess 7 rfl
theorem d_Mo_noProcess_16 : decode prog_11_method_21_code 16 = .ok (.iconst 0, 1) := q_tb t_Mo_noProcess 8 rfl
theorem d_Mo_noProcess_17 : decode prog_11_method_21_code 17 = .ok (.ireturn, 1) := q_tb t_Mo_noProcess 9 rfl
def T_Mo_ones : List (Nat × Instr × Nat) := [(0, .iconst 0, 1), (1, .istore_n 1, 1), (2, .iconst 0, 1), (3, .istore_n 2, 1), (4, .iload_n 2, 1), (5, .bipush 13, 2), (7, .if_icmp .ge 17, 3), (10, .iload_n 1, 1), (11, .iload_n 0, 1), (12, .iload_n 2, 1), (13, .ishr, 1), (14, .iconst 1, 1), (15, .iand, 1), (16, .iadd, 1), (17, .istore_n 1, 1), (18, .iinc 2 1, 3), (21, .goto (-17), 3), (24, .iload_n 1, 1), (25, .ireturn, 1)]
set_option maxRecDepth 100000 in
theorem t_Mo_ones : ∀ q ∈ T_Mo_ones, decode prog_11_method_22_code q.1 = .ok q.2 := by decide +kernel
theorem d_Mo_ones_0 : decode prog_11_method_22_code 0 = .ok (.iconst 0, 1) := q_tb t_Mo_ones 0 rfl
theorem d_Mo_ones_1 : decode prog_11_method_22_code 1 = .ok (.istore_n 1, 1) := q_tb t_Mo_ones 1 rfl
theorem d_Mo_ones_2 : decode prog_11_method_22_code 2 = .ok (.iconst 0, 1) := q_tb t_Mo_ones 2 rfl
theorem d_Mo_ones_3 : decode prog_11_method_22_code 3 = .ok (.istore_n 2, 1) := q_tb t_Mo_ones 3 rfl
theorem d_Mo_ones_4 : decode prog_11_method_22_code 4 = .ok (.iload_n 2, 1) := q_tb t_Mo_ones 4 rfl
theorem d_Mo_ones_5 : decode prog_11_method_22_code 5 = .ok (.bipush 13, 2) := q_tb t_Mo_ones 5 rfl
theorem d_Mo_ones_7 : decode prog_11_method_22_code 7 = .ok (.if_icmp .ge 17, 3) := q_tb t_Mo_ones 6 rfl
theorem d_Mo_ones_10 : decode prog_11_method_22_code 10 = .ok (.iload_n 1, 1) := q_tb t_Mo_ones 7 rfl
theorem d_Mo_ones_11 : decode prog_11_method_22_code 11 = .ok (.iload_n 0, 1) := q_tb t_Mo_ones 8 rfl
theorem d_Mo_ones_12 : decode prog_11_method_22_code 12 = .ok (.iload_n 2, 1) := q_tb t_Mo_ones 9 rfl
theorem d_Mo_ones_13 : decode prog_11_method_22_code 13 = .ok (.ishr, 1) := q_tb t_Mo_ones 10 rfl
theorem d_Mo_ones_14 : decode prog_11_method_22_code 14 = .ok (.iconst 1, 1) := q_tb t_Mo_ones 11 rfl
theorem d_Mo_ones_15 : decode prog_11_method_22_code 15 = .ok (.iand, 1) := q_tb t_Mo_ones 12 rfl
theorem d_Mo_ones_16 : decode prog_11_method_22_code 16 = .ok (.iadd, 1) := q_tb t_Mo_ones 13 rfl
theorem d_Mo_ones_17 : decode prog_11_method_22_code 17 = .ok (.istore_n 1, 1) := q_tb t_Mo_ones 14 rfl
theorem d_Mo_ones_18 : decode prog_11_method_22_code 18 = .ok (.iinc 2 1, 3) := q_tb t_Mo_ones 15 rfl
theorem d_Mo_ones_21 : decode prog_11_method_22_code 21 = .ok (.goto (-17), 3) := q_tb t_Mo_ones 16 rfl
theorem d_Mo_ones_24 : decode prog_11_method_22_code 24 = .ok (.iload_n 1, 1) := q_tb t_Mo_ones 17 rfl
theorem d_Mo_ones_25 : decode prog_11_method_22_code 25 = .ok (.ireturn, 1) := q_tb t_Mo_ones 18 rfl
def T_Mo_moves : List (Nat × Instr × Nat) := [(0, .aload_n 0, 1), (1, .iconst 0, 1), (2, .putfield 90, 3), (5, .aload_n 0, 1), (6, .invokevirtual 179, 3), (9, .aload_n 0, 1), (10, .invokevirtual 182, 3), (13, .ireturn, 1)]
set_option maxRecDepth 100000 in
theorem t_Mo_moves : ∀ q ∈ T_Mo_moves, decode prog_11_method_27_code q.1 = .ok q.2 := by decide +kernel
theorem d_Mo_moves_0 : decode prog_11_method_27_code 0 = .ok (.aload_n 0, 1) := q_tb t_Mo_moves 0 rfl
theorem d_Mo_moves_1 : decode prog_11_method_27_code 1 = .ok (.iconst 0, 1) := q_tb t_Mo_moves 1 rfl
theorem d_Mo_moves_2 : decode prog_11_method_27_code 2 = .ok (.putfield 90, 3) := q_tb t_Mo_moves 2 rfl
theorem d_Mo_moves_5 : decode prog_11_method_27_code 5 = .ok (.aload_n 0, 1) := q_tb t_Mo_moves 3 rfl
theorem d_Mo_moves_6 : decode prog_11_method_27_code 6 = .ok (.invokevirtual 179, 3) := q_tb t_Mo_moves 4 rfl
theorem d_Mo_moves_9 : decode prog_11_method_27_code 9 = .ok (.aload_n 0, 1) := q_tb t_Mo_moves 5 rfl
theorem d_Mo_moves_10 : decode prog_11_method_27_code 10 = .ok (.invokevirtual 182, 3) := q_tb t_Mo_moves 6 rfl
theorem d_Mo_moves_13 : decode prog_11_method_27_code 13 = .ok (.ireturn, 1) := q_tb t_Mo_moves 7 rfl
def T_Mo_fromNow : List (Nat × Instr × Nat) := [(0, .iconst 0, 1), (1, .istore_n 1, 1), (2, .iload_n 1, 1), (3, .bipush 11, 2), (5, .if_icmp .ge 21, 3), (8, .aload_n 0, 1), (9, .getfield 75, 3), (12, .iload_n 1, 1), (13, .aload_n 0, 1), (14, .getfield 72, 3), (17, .iload_n 1, 1), (18, .iaload, 1), (19, .iastore, 1), (20, .iinc 1 1, 3), (23, .goto (-21), 3), (26, .return_, 1)]
set_option maxRecDepth 100000 in
theorem t_Mo_fromNow : ∀ q ∈ T_Mo_fromNow, decode prog_11_method_26_code q.1 = .ok q.2 := by decide +kernel
theorem d_Mo_fromNow_0 : decode prog_11_method_26_code 0 = .ok (.iconst 0, 1) := q_tb t_Mo_fromNow 0 rfl
theorem d_Mo_fromNow_1 : decode prog_11_method_26_code 1 = .ok (.istore_n 1, 1) := q_tb t_Mo_fromNow 1 rfl
theorem d_Mo_fromNow_2 : decode prog_11_method_26_code 2 = .ok (.iload_n 1, 1) := q_tb t_Mo_fromNow 2 rfl
theorem d_Mo_fromNow_3 : decode prog_11_method_26_code 3 = .ok (.bipush 11, 2) := q_tb t_Mo_fromNow 3 rfl
theorem d_Mo_fromNow_5 : decode prog_11_method_26_code 5 = .ok (.if_icmp .ge 21, 3) := q_tb t_Mo_fromNow 4 rfl
theorem d_Mo_fromNow_8 : decode prog_11_method_26_code 8 = .ok (.aload_n 0, 1) := q_tb t_Mo_fromNow 5 rfl
theorem d_Mo_fromNow_9 : decode prog_11_method_26_code 9 = .ok (.getfield 75, 3) := q_tb t_Mo_fromNow 6 rfl
theorem d_Mo_fromNow_12 : decode prog_11_method_26_code 12 = .ok (.iload_n 1, 1) := q_tb t_Mo_fromNow 7 rfl
theorem d_Mo_fromNow_13 : decode prog_11_method_26_code 13 = .ok (.aload_n 0, 1) := q_tb t_Mo_fromNow 8 rfl
theorem d_Mo_fromNow_14 : decode prog_11_method_26_code 14 = .ok (.getfield 72, 3) := q_tb t_Mo_fromNow 9 rfl
theorem d_Mo_fromNow_17 : decode prog_11_method_26_code 17 = .ok (.iload_n 1, 1) := q_tb t_Mo_fromNow 10 rfl
theorem d_Mo_fromNow_18 : decode prog_11_method_26_code 18 = .ok (.iaload, 1) := q_tb t_Mo_fromNow 11 rfl
theorem d_Mo_fromNow_19 : decode prog_11_method_26_code 19 = .ok (.iastore, 1) := q_tb t_Mo_fromNow 12 rfl
theorem d_Mo_fromNow_20 : decode prog_11_method_26_code 20 = .ok (.iinc 1 1, 3) := q_tb t_Mo_fromNow 13 rfl
theorem d_Mo_fromNow_23 : decode prog_11_method_26_code 23 = .ok (.goto (-21), 3) := q_tb t_Mo_fromNow 14 rfl
theorem d_Mo_fromNow_26 : decode prog_11_method_26_code 26 = .ok (.return_, 1) := q_tb t_Mo_fromNow 15 rfl
def T_Mo_possible : List (Nat × Instr × Nat) := [(0, .iconst 0, 1), (1, .istore_n 1, 1), (2, .iconst 0, 1), (3, .istore_n 2, 1), (4, .iload_n 2, 1), (5, .aload_n 0, 1), (6, .getfield 111, 3), (9, .if_icmp .ge 40, 3), (12, .iconst 1, 1), (13, .istore_n 3, 1), (14, .iload_n 3, 1), (15, .bipush 13, 2), (17, .if_icmp .ge 26, 3), (20, .aload_n 0, 1), (21, .iload_n 2, 1), (22, .iload_n 3, 1), (23, .invokevirtual 175, 3), (26, .ifCond .eq 9, 3), (29, .iload_n 1, 1), (30, .iconst 1, 1), (31, .iadd, 1), (32, .goto 4, 3), (35, .iload_n 1, 1), (36, .istore_n 1, 1), (37, .iinc 3 1, 3), (40, .goto (-26), 3), (43, .iinc 2 1, 3), (46, .goto (-42), 3), (49, .iload_n 1, 1), (50, .ireturn, 1)]
set_option maxRecDepth 100000 in
theorem t_Mo_possible : ∀ q ∈ T_Mo_possible, decode prog_11_method_25_code q.1 = .ok q.2 := by decide +kernel
theorem d_Mo_possible_0 : decode prog_11_method_25_code 0 = .ok (.iconst 0, 1) := q_tb t_Mo_possible 0 rfl
theorem d_Mo_possible_1 : decode prog_11_method_25_code 1 = .ok (.istore_n 1, 1) := q_tb t_Mo_possible 1 rfl
theorem d_Mo_possible_2 : decode prog_11_method_25_code 2 = .ok (.iconst 0, 1) := q_tb t_Mo_possible 2 rfl
theorem d_Mo_possible_3 : decode prog_11_method_25_code 3 = .ok (.istore_n 2, 1) := q_tb t_Mo_possible 3 rfl
theorem d_Mo_possible_4 : decode prog_11_method_25_code 4 = .ok (.iload_n 2, 1) := q_tb t_Mo_possible 4 rfl
theorem d_Mo_possible_5 : decode prog_11_method_25_code 5 = .ok (.aload_n 0, 1) := q_tb t_Mo_possible 5 rfl
theorem d_Mo_possible_6 : decode prog_11_method_25_code 6 = .ok (.getfield 111, 3) := q_tb t_Mo_possible 6 rfl
theorem d_Mo_possible_9 : decode prog_11_method_25_code 9 = .ok (.if_icmp .ge 40, 3) := q_tb t_Mo_possible 7 rfl
theorem d_Mo_possible_12 : decode prog_11_method_25_code 12 = .ok (.iconst 1, 1) := q_tb t_Mo_possible 8 rfl
theorem d_Mo_possible_13 : decode prog_11_method_25_code 13 = .ok (.istore_n 3, 1) := q_tb t_Mo_possible 9 rfl
theorem d_Mo_possible_14 : decode prog_11_method_25_code 14 = .ok (.iload_n 3, 1) := q_tb t_Mo_possible 10 rfl
theorem d_Mo_possible_15 : decode prog_11_method_25_code 15 = .ok (.bipush 13, 2) := q_tb t_Mo_possible 11 rfl
theorem d_Mo_possible_17 : decode prog_11_method_25_code 17 = .ok (.if_icmp .ge 26, 3) := q_tb t_Mo_possible 12 rfl
theorem d_Mo_possible_20 : decode prog_11_method_25_code 20 = .ok (.aload_n 0, 1) := q_tb t_Mo_possible 13 rfl
theorem d_Mo_possible_21 : decode prog_11_method_25_code 21 = .ok (.iload_n 2, 1) := q_tb t_Mo_possible 14 rfl
theorem d_Mo_possible_22 : decode prog_11_method_25_code 22 = .ok (.iload_n 3, 1) := q_tb t_Mo_possible 15 rfl
theorem d_Mo_possible_23 : decode prog_11_method_25_code 23 = .ok (.invokevirtual 175, 3) := q_tb t_Mo_possible 16 rfl
theorem d_Mo_possible_26 : decode prog_11_method_25_code 26 = .ok (.ifCond .eq 9, 3) := q_tb t_Mo_possible 17 rfl
theorem d_Mo_possible_29 : decode prog_11_method_25_code 29 = .ok (.iload_n 1, 1) := q_tb t_Mo_possible 18 rfl
theorem d_Mo_possible_30 : decode prog_11_method_25_code 30 = .ok (.iconst 1, 1) := q_tb t_Mo_possible 19 rfl
theorem d_Mo_possible_31 : decode prog_11_method_25_code 31 = .ok (.iadd, 1) := q_tb t_Mo_possible 20 rfl
theorem d_Mo_possible_32 : decode prog_11_method_25_code 32 = .ok (.goto 4, 3) := q_tb t_Mo_possible 21 rfl
theorem d_Mo_possible_35 : decode prog_11_method_25_code 35 = .ok (.iload_n 1, 1) := q_tb t_Mo_possible 22 rfl
theorem d_Mo_possible_36 : decode prog_11_method_25_code 36 = .ok (.istore_n 1, 1) := q_tb t_Mo_possible 23 rfl
theorem d_Mo_possible_37 : decode prog_11_method_25_code 37 = .ok (.iinc 3 1, 3) := q_tb t_Mo_possible 24 rfl
theorem d_Mo_possible_40 : decode prog_11_method_25_code 40 = .ok (.goto (-26), 3) := q_tb t_Mo_possible 25 rfl
theorem d_Mo_possible_43 : decode prog_11_method_25_code 43 = .ok (.iinc 2 1, 3) := q_tb t_Mo_possible 26 rfl
theorem d_Mo_possible_46 : decode prog_11_method_25_code 46 = .ok (.goto (-42), 3) := q_tb t_Mo_possible 27 rfl
theorem d_Mo_possible_49 : decode prog_11_method_25_code 49 = .ok (.iload_n 1, 1) := q_tb t_Mo_possible 28 rfl
theorem d_Mo_possible_50 : decode prog_11_method_25_code 50 = .ok (.ireturn, 1) := q_tb t_Mo_possible 29 rfl
def T_Mo_goes0 : List (Nat × Instr × Nat) := [(0, .aload_n 0, 1), (1, .getfield 29, 3), (4, .bipush 13, 2), (6, .iload_n 1, 1), (7, .imul, 1), (8, .aload_n 0, 1), (9, .getfield 75, 3), (12, .iload_n 1, 1), (13, .iaload, 1), (14, .iadd, 1), (15, .iaload, 1), (16, .iload_n 2, 1), (17, .ishr, 1), (18, .iconst 1, 1), (19, .iand, 1), (20, .ifCond .ne 5, 3), (23, .iconst 0, 1), (24, .ireturn, 1), (25, .iconst 0, 1), (26, .istore_n 3, 1), (27, .iload_n 3, 1), (28, .bipush 11, 2), (30, .if_icmp .ge 21, 3), (33, .aload_n 0, 1), (34, .getfield 78, 3), (37, .iload_n 3, 1), (38, .aload_n 0, 1), (39, .getfield 75, 3), (42, .iload_n 3, 1), (43, .iaload, 1), (44, .iastore, 1), (45, .iinc 3 1, 3), (48, .goto (-21), 3), (51, .aload_n 0, 1), (52, .getfield 78, 3), (55, .iload_n 1, 1), (56, .iload_n 2, 1), (57, .iastore, 1), (58, .aload_n 0, 1), (59, .getfield 35, 3)]
set_option maxRecDepth 100000 in
theorem t_Mo_goes0 : ∀ q ∈ T_Mo_goes0, decode prog_11_method_24_code q.1 = .ok q.2 := by decide +kernel
theorem d_Mo_goes_0 : decode prog_11_method_24_code 0 = .ok (.aload_n 0, 1) := q_tb t_Mo_goes0 0 rfl
theorem d_Mo_goes_1 : decode prog_11_method_24_code 1 = .ok (.getfield 29, 3) := q_tb t_Mo_goes0 1 rfl
theorem d_Mo_goes_4 : decode prog_11_method_24_code 4 = .ok (.bipush 13, 2) := q_tb t_Mo_goes0 2 rfl
theorem d_Mo_goes_6 : decode prog_11_method_24_code 6 = .ok (.iload_n 1, 1) := q_tb t_Mo_goes0 3 rfl
theorem d_Mo_goes_7 : decode prog_11_method_24_code 7 = .ok (.imul, 1) := q_tb t_Mo_goes0 4 rfl
theorem d_Mo_goes_8 : decode prog_11_method_24_code 8 = .ok (.aload_n 0, 1) := q_tb t_Mo_goes0 5 rfl
theorem d_Mo_goes_9 : decode prog_11_method_24_code 9 = .ok (.getfield 75, 3) := q_tb t_Mo_goes0 6 rfl
theorem d_Mo_goes_12 : decode prog_11_method_24_code 12 = .ok (.iload_n 1, 1) := q_tb t_Mo_goes0 7 rfl
theorem d_Mo_goes_13 : decode prog_11_method_24_code 13 = .ok (.iaload, 1) := q_tb t_Mo_goes0 8 rfl
theorem d_Mo_goes_14 : decode prog_11_method_24_code 14 = .ok (.iadd, 1) := q_tb t_Mo_goes0 9 rfl
theorem d_Mo_goes_15 : decode prog_11_method_24_code 15 = .ok (.iaload, 1) := q_tb t_Mo_goes0 10 rfl
theorem d_Mo_goes_16 : decode prog_11_method_24_code 16 = .ok (.iload_n 2, 1) := q_tb t_Mo_goes0 11 rfl
theorem d_Mo_goes_17 : decode prog_11_method_24_code 17 = .ok (.ishr, 1) := q_tb t_Mo_goes0 12 rfl
theorem d_Mo_goes_18 : decode prog_11_method_24_code 18 = .ok (.iconst 1, 1) := q_tb t_Mo_goes0 13 rfl
theorem d_Mo_goes_19 : decode prog_11_method_24_code 19 = .ok (.iand, 1) := q_tb t_Mo_goes0 14 rfl
theorem d_Mo_goes_20 : decode prog_11_method_24_code 20 = .ok (.ifCond .ne 5, 3) := q_tb t_Mo_goes0 15 rfl
theorem d_Mo_goes_23 : decode prog_11_method_24_code 23 = .ok (.iconst 0, 1) := q_tb t_Mo_goes0 16 rfl
theorem d_Mo_goes_24 : decode prog_11_method_24_code 24 = .ok (.ireturn, 1) := q_tb t_Mo_goes0 17 rfl
theorem d_Mo_goes_25 : decode prog_11_method_24_code 25 = .ok (.iconst 0, 1) := q_tb t_Mo_goes0 18 rfl
theorem d_Mo_goes_26 : decode prog_11_method_24_code 26 = .ok (.istore_n 3, 1) := q_tb t_Mo_goes0 19 rfl
theorem d_Mo_goes_27 : decode prog_11_method_24_code 27 = .ok (.iload_n 3, 1) := q_tb t_Mo_goes0 20 rfl
theorem d_Mo_goes_28 : decode prog_11_method_24_code 28 = .ok (.bipush 11, 2) := q_tb t_Mo_goes0 21 rfl
theorem d_Mo_goes_30 : decode prog_11_method_24_code 30 = .ok (.if_icmp .ge 21, 3) := q_tb t_Mo_goes0 22 rfl
theorem d_Mo_goes_33 : decode prog_11_method_24_code 33 = .ok (.aload_n 0, 1) := q_tb t_Mo_goes0 23 rfl
theorem d_Mo_goes_34 : decode prog_11_method_24_code 34 = .ok (.getfield 78, 3) := q_tb t_Mo_goes0 24 rfl
theorem d_Mo_goes_37 : decode prog_11_method_24_code 37 = .ok (.iload_n 3, 1) := q_tb t_Mo_goes0 25 rfl
theorem d_Mo_goes_38 : decode prog_11_method_24_code 38 = .ok (.aload_n 0, 1) := q_tb t_Mo_goes0 26 rfl
theorem d_Mo_goes_39 : decode prog_11_method_24_code 39 = .ok (.getfield 75, 3) := q_tb t_Mo_goes0 27 rfl
theorem d_Mo_goes_42 : decode prog_11_method_24_code 42 = .ok (.iload_n 3, 1) := q_tb t_Mo_goes0 28 rfl
theorem d_Mo_goes_43 : decode prog_11_method_24_code 43 = .ok (.iaload, 1) := q_tb t_Mo_goes0 29 rfl
theorem d_Mo_goes_44 : decode prog_11_method_24_code 44 = .ok (.iastore, 1) := q_tb t_Mo_goes0 30 rfl
theorem d_Mo_goes_45 : decode prog_11_method_24_code 45 = .ok (.iinc 3 1, 3) := q_tb t_Mo_goes0 31 rfl
theorem d_Mo_goes_48 : decode prog_11_method_24_code 48 = .ok (.goto (-21), 3) := q_tb t_Mo_goes0 32 rfl
theorem d_Mo_goes_51 : decode prog_11_method_24_code 51 = .ok (.aload_n 0, 1) := q_tb t_Mo_goes0 33 rfl
theorem d_Mo_goes_52 : decode prog_11_method_24_code 52 = .ok (.getfield 78, 3) := q_tb t_Mo_goes0 34 rfl
theorem d_Mo_goes_55 : decode prog_11_method_24_code 55 = .ok (.iload_n 1, 1) := q_tb t_Mo_goes0 35 rfl
theorem d_Mo_goes_56 : decode prog_11_method_24_code 56 = .ok (.iload_n 2, 1) := q_tb t_Mo_goes0 36 rfl
theorem d_Mo_goes_57 : decode prog_11_method_24_code 57 = .ok (.iastore, 1) := q_tb t_Mo_goes0 37 rfl
theorem d_Mo_goes_58 : decode prog_11_method_24_code 58 = .ok (.aload_n 0, 1) := q_tb t_Mo_goes0 38 rfl
theorem d_Mo_goes_59 : decode prog_11_method_24_code 59 = .ok (.getfield 35, 3) := q_tb t_Mo_goes0 39 rfl
def T_Mo_goes1 : List (Nat × Instr × Nat) := [(62, .bipush 13, 2), (64, .iload_n 1, 1), (65, .imul, 1), (66, .iload_n 2, 1), (67, .iadd, 1), (68, .iaload, 1), (69, .istore_n 3, 1), (70, .aload_n 0, 1), (71, .getfield 75, 3), (74, .bipush 6, 2), (76, .iload_n 3, 1), (77, .iadd, 1), (78, .iaload, 1), (79, .istore 4, 2), (81, .aload_n 0, 1), (82, .getfield 38, 3), (85, .bipush 13, 2), (87, .iload_n 1, 1), (88, .imul, 1), (89, .iload_n 2, 1), (90, .iadd, 1), (91, .iaload, 1), (92, .istore 5, 2), (94, .aload_n 0, 1), (95, .getfield 32, 3), (98, .bipush 13, 2), (100, .iload_n 1, 1), (101, .imul, 1), (102, .iload_n 2, 1), (103, .iadd, 1), (104, .iaload, 1), (105, .tableswitch 119 0 4 #[35, 37, 69, 93, 106], 35), (140, .iconst 1, 1), (141, .ireturn, 1), (142, .aload_n 0, 1), (143, .getfield 78, 3), (146, .bipush 6, 2), (148, .iload_n 3, 1), (149, .iadd, 1), (150, .iload 4, 2)]
set_option maxRecDepth 100000 in
theorem t_Mo_goes1 : ∀ q ∈ T_Mo_goes1, decode prog_11_method_24_code q.1 = .ok q.2 := by decide +kernel
theorem d_Mo_goes_62 : decode prog_11_method_24_code 62 = .ok (.bipush 13, 2) := q_tb t_Mo_goes1 0 rfl
theorem d_Mo_goes_64 : decode prog_11_method_24_code 64 = .ok (.iload_n 1, 1) := q_tb t_Mo_goes1 1 rfl
theorem d_Mo_goes_65 : decode prog_11_method_24_code 65 = .ok (.imul, 1) := q_tb t_Mo_goes1 2 rfl
theorem d_Mo_goes_66 : decode prog_11_method_24_code 66 = .ok (.iload_n 2, 1) := q_tb t_Mo_goes1 3 rfl
theorem d_Mo_goes_67 : decode prog_11_method_24_code 67 = .ok (.iadd, 1) := q_tb t_Mo_goes1 4 rfl
theorem d_Mo_goes_68 : decode prog_11_method_24_code 68 = .ok (.iaload, 1) := q_tb t_Mo_goes1 5 rfl
theorem d_Mo_goes_69 : decode prog_11_method_24_code 69 = .ok (.istore_n 3, 1) := q_tb t_Mo_goes1 6 rfl
theorem d_Mo_goes_70 : decode prog_11_method_24_code 70 = .ok (.aload_n 0, 1) := q_tb t_Mo_goes1 7 rfl
theorem d_Mo_goes_71 : decode prog_11_method_24_code 71 = .ok (.getfield 75, 3) := q_tb t_Mo_goes1 8 rfl
theorem d_Mo_goes_74 : decode prog_11_method_24_code 74 = .ok (.bipush 6, 2) := q_tb t_Mo_goes1 9 rfl
theorem d_Mo_goes_76 : decode prog_11_method_24_code 76 = .ok (.iload_n 3, 1) := q_tb t_Mo_goes1 10 rfl
theorem d_Mo_goes_77 : decode prog_11_method_24_code 77 = .ok (.iadd, 1) := q_tb t_Mo_goes1 11 rfl
theorem d_Mo_goes_78 : decode prog_11_method_24_code 78 = .ok (.iaload, 1) := q_tb t_Mo_goes1 12 rfl
theorem d_Mo_goes_79 : decode prog_11_method_24_code 79 = .ok (.istore 4, 2) := q_tb t_Mo_goes1 13 rfl
theorem d_Mo_goes_81 : decode prog_11_method_24_code 81 = .ok (.aload_n 0, 1) := q_tb t_Mo_goes1 14 rfl
theorem d_Mo_goes_82 : decode prog_11_method_24_code 82 = .ok (.getfield 38, 3) := q_tb t_Mo_goes1 15 rfl
theorem d_Mo_goes_85 : decode prog_11_method_24_code 85 = .ok (.bipush 13, 2) := q_tb t_Mo_goes1 16 rfl
theorem d_Mo_goes_87 : decode prog_11_method_24_code 87 = .ok (.iload_n 1, 1) := q_tb t_Mo_goes1 17 rfl
theorem d_Mo_goes_88 : decode prog_11_method_24_code 88 = .ok (.imul, 1) := q_tb t_Mo_goes1 18 rfl
theorem d_Mo_goes_89 : decode prog_11_method_24_code 89 = .ok (.iload_n 2, 1) := q_tb t_Mo_goes1 19 rfl
theorem d_Mo_goes_90 : decode prog_11_method_24_code 90 = .ok (.iadd, 1) := q_tb t_Mo_goes1 20 rfl
theorem d_Mo_goes_91 : decode prog_11_method_24_code 91 = .ok (.iaload, 1) := q_tb t_Mo_goes1 21 rfl
theorem d_Mo_goes_92 : decode prog_11_method_24_code 92 = .ok (.istore 5, 2) := q_tb t_Mo_goes1 22 rfl
theorem d_Mo_goes_94 : decode prog_11_method_24_code 94 = .ok (.aload_n 0, 1) := q_tb t_Mo_goes1 23 rfl
theorem d_Mo_goes_95 : decode prog_11_method_24_code 95 = .ok (.getfield 32, 3) := q_tb t_Mo_goes1 24 rfl
theorem d_Mo_goes_98 : decode prog_11_method_24_code 98 = .ok (.bipush 13, 2) := q_tb t_Mo_goes1 25 rfl
theorem d_Mo_goes_100 : decode prog_11_method_24_code 100 = .ok (.iload_n 1, 1) := q_tb t_Mo_goes1 26 rfl
theorem d_Mo_goes_101 : decode prog_11_method_24_code 101 = .ok (.imul, 1) := q_tb t_Mo_goes1 27 rfl
theorem d_Mo_goes_102 : decode prog_11_method_24_code 102 = .ok (.iload_n 2, 1) := q_tb t_Mo_goes1 28 rfl
theorem d_Mo_goes_103 : decode prog_11_method_24_code 103 = .ok (.iadd, 1) := q_tb t_Mo_goes1 29 rfl
theorem d_Mo_goes_104 : decode prog_11_method_24_code 104 = .ok (.iaload, 1) := q_tb t_Mo_goes1 30 rfl
theorem d_Mo_goes_105 : decode prog_11_method_24_code 105 = .ok (.tableswitch 119 0 4 #[35, 37, 69, 93, 106], 35) := q_tb t_Mo_goes1 31 rfl
theorem d_Mo_goes_140 : decode prog_11_method_24_code 140 = .ok (.iconst 1, 1) := q_tb t_Mo_goes1 32 rfl
theorem d_Mo_goes_141 : decode prog_11_method_24_code 141 = .ok (.ireturn, 1) := q_tb t_Mo_goes1 33 rfl
theorem d_Mo_goes_142 : decode prog_11_method_24_code 142 = .ok (.aload_n 0, 1) := q_tb t_Mo_goes1 34 rfl
theorem d_Mo_goes_143 : decode prog_11_method_24_code 143 = .ok (.getfield 78, 3) := q_tb t_Mo_goes1 35 rfl
theorem d_Mo_goes_146 : decode prog_11_method_24_code 146 = .ok (.bipush 6, 2) := q_tb t_Mo_goes1 36 rfl
theorem d_Mo_goes_148 : decode prog_11_method_24_code 148 = .ok (.iload_n 3, 1) := q_tb t_Mo_goes1 37 rfl
theorem d_Mo_goes_149 : decode prog_11_method_24_code 149 = .ok (.iadd, 1) := q_tb t_Mo_goes1 38 rfl
theorem d_Mo_goes_150 : decode prog_11_method_24_code 150 = .ok (.iload 4, 2) := q_tb t_Mo_goes1 39 rfl
def T_Mo_goes2 : List (Nat × Instr × Nat) := [(152, .iconst 1, 1), (153, .iadd, 1), (154, .iastore, 1), (155, .iload 4, 2), (157, .aload_n 0, 1), (158, .getfield 17, 3), (161, .iload_n 3, 1), (162, .iaload, 1), (163, .iconst 1, 1), (164, .isub, 1), (165, .if_icmp .ge 7, 3), (168, .iconst 1, 1), (169, .goto 4, 3), (172, .iconst 0, 1), (173, .ireturn, 1), (174, .aload_n 0, 1), (175, .getfield 78, 3), (178, .bipush 6, 2), (180, .iload_n 3, 1), (181, .iadd, 1), (182, .iload 4, 2), (184, .iconst 1, 1), (185, .isub, 1), (186, .iastore, 1), (187, .iload 4, 2), (189, .ifCond .le 7, 3), (192, .iconst 1, 1), (193, .goto 4, 3), (196, .iconst 0, 1), (197, .ireturn, 1), (198, .aload_n 0, 1), (199, .getfield 78, 3), (202, .bipush 6, 2), (204, .iload_n 3, 1), (205, .iadd, 1), (206, .iload 5, 2), (208, .iastore, 1), (209, .iconst 1, 1), (210, .ireturn, 1), (211, .iload 4, 2)]
set_option maxRecDepth 100000 in
theorem t_Mo_goes2 : ∀ q ∈ T_Mo_goes2, decode prog_11_method_24_code q.1 = .ok q.2 := by decide +kernel
theorem d_Mo_goes_152 : decode prog_11_method_24_code 152 = .ok (.iconst 1, 1) := q_tb t_Mo_goes2 0 rfl
theorem d_Mo_goes_153 : decode prog_11_method_24_code 153 = .ok (.iadd, 1) := q_tb t_Mo_goes2 1 rfl
theorem d_Mo_goes_154 : decode prog_11_method_24_code 154 = .ok (.iastore, 1) := q_tb t_Mo_goes2 2 rfl
theorem d_Mo_goes_155 : decode prog_11_method_24_code 155 = .ok (.iload 4, 2) := q_tb t_Mo_goes2 3 rfl
theorem d_Mo_goes_157 : decode prog_11_method_24_code 157 = .ok (.aload_n 0, 1) := q_tb t_Mo_goes2 4 rfl
theorem d_Mo_goes_158 : decode prog_11_method_24_code 158 = .ok (.getfield 17, 3) := q_tb t_Mo_goes2 5 rfl
theorem d_Mo_goes_161 : decode prog_11_method_24_code 161 = .ok (.iload_n 3, 1) := q_tb t_Mo_goes2 6 rfl
theorem d_Mo_goes_162 : decode prog_11_method_24_code 162 = .ok (.iaload, 1) := q_tb t_Mo_goes2 7 rfl
theorem d_Mo_goes_163 : decode prog_11_method_24_code 163 = .ok (.iconst 1, 1) := q_tb t_Mo_goes2 8 rfl
theorem d_Mo_goes_164 : decode prog_11_method_24_code 164 = .ok (.isub, 1) := q_tb t_Mo_goes2 9 rfl
theorem d_Mo_goes_165 : decode prog_11_method_24_code 165 = .ok (.if_icmp .ge 7, 3) := q_tb t_Mo_goes2 10 rfl
theorem d_Mo_goes_168 : decode prog_11_method_24_code 168 = .ok (.iconst 1, 1) := q_tb t_Mo_goes2 11 rfl
theorem d_Mo_goes_169 : decode prog_11_method_24_code 169 = .ok (.goto 4, 3) := q_tb t_Mo_goes2 12 rfl
theorem d_Mo_goes_172 : decode prog_11_method_24_code 172 = .ok (.iconst 0, 1) := q_tb t_Mo_goes2 13 rfl
theorem d_Mo_goes_173 : decode prog_11_method_24_code 173 = .ok (.ireturn, 1) := q_tb t_Mo_goes2 14 rfl
theorem d_Mo_goes_174 : decode prog_11_method_24_code 174 = .ok (.aload_n 0, 1) := q_tb t_Mo_goes2 15 rfl
theorem d_Mo_goes_175 : decode prog_11_method_24_code 175 = .ok (.getfield 78, 3) := q_tb t_Mo_goes2 16 rfl
theorem d_Mo_goes_178 : decode prog_11_method_24_code 178 = .ok (.bipush 6, 2) := q_tb t_Mo_goes2 17 rfl
theorem d_Mo_goes_180 : decode prog_11_method_24_code 180 = .ok (.iload_n 3, 1) := q_tb t_Mo_goes2 18 rfl
theorem d_Mo_goes_181 : decode prog_11_method_24_code 181 = .ok (.iadd, 1) := q_tb t_Mo_goes2 19 rfl
theorem d_Mo_goes_182 : decode prog_11_method_24_code 182 = .ok (.iload 4, 2) := q_tb t_Mo_goes2 20 rfl
theorem d_Mo_goes_184 : decode prog_11_method_24_code 184 = .ok (.iconst 1, 1) := q_tb t_Mo_goes2 21 rfl
theorem d_Mo_goes_185 : decode prog_11_method_24_code 185 = .ok (.isub, 1) := q_tb t_Mo_goes2 22 rfl
theorem d_Mo_goes_186 : decode prog_11_method_24_code 186 = .ok (.iastore, 1) := q_tb t_Mo_goes2 23 rfl
theorem d_Mo_goes_187 : decode prog_11_method_24_code 187 = .ok (.iload 4, 2) := q_tb t_Mo_goes2 24 rfl
theorem d_Mo_goes_189 : decode prog_11_method_24_code 189 = .ok (.ifCond .le 7, 3) := q_tb t_Mo_goes2 25 rfl
theorem d_Mo_goes_192 : decode prog_11_method_24_code 192 = .ok (.iconst 1, 1) := q_tb t_Mo_goes2 26 rfl
theorem d_Mo_goes_193 : decode prog_11_method_24_code 193 = .ok (.goto 4, 3) := q_tb t_Mo_goes2 27 rfl
theorem d_Mo_goes_196 : decode prog_11_method_24_code 196 = .ok (.iconst 0, 1) := q_tb t_Mo_goes2 28 rfl
theorem d_Mo_goes_197 : decode prog_11_method_24_code 197 = .ok (.ireturn, 1) := q_tb t_Mo_goes2 29 rfl
theorem d_Mo_goes_198 : decode prog_11_method_24_code 198 = .ok (.aload_n 0, 1) := q_tb t_Mo_goes2 30 rfl
theorem d_Mo_goes_199 : decode prog_11_method_24_code 199 = .ok (.getfield 78, 3) := q_tb t_Mo_goes2 31 rfl
theorem d_Mo_goes_202 : decode prog_11_method_24_code 202 = .ok (.bipush 6, 2) := q_tb t_Mo_goes2 32 rfl
theorem d_Mo_goes_204 : decode prog_11_method_24_code 204 = .ok (.iload_n 3, 1) := q_tb t_Mo_goes2 33 rfl
theorem d_Mo_goes_205 : decode prog_11_method_24_code 205 = .ok (.iadd, 1) := q_tb t_Mo_goes2 34 rfl
theorem d_Mo_goes_206 : decode prog_11_method_24_code 206 = .ok (.iload 5, 2) := q_tb t_Mo_goes2 35 rfl
theorem d_Mo_goes_208 : decode prog_11_method_24_code 208 = .ok (.iastore, 1) := q_tb t_Mo_goes2 36 rfl
theorem d_Mo_goes_209 : decode prog_11_method_24_code 209 = .ok (.iconst 1, 1) := q_tb t_Mo_goes2 37 rfl
theorem d_Mo_goes_210 : decode prog_11_method_24_code 210 = .ok (.ireturn, 1) := q_tb t_Mo_goes2 38 rfl
theorem d_Mo_goes_211 : decode prog_11_method_24_code 211 = .ok (.iload 4, 2) := q_tb t_Mo_goes2 39 rfl
def T_Mo_goes3 : List (Nat × Instr × Nat) := [(213, .iload 5, 2), (215, .if_icmp .ne 7, 3), (218, .iconst 1, 1), (219, .goto 4, 3), (222, .iconst 0, 1), (223, .ireturn, 1), (224, .iload 4, 2), (226, .iload 5, 2), (228, .if_icmp .eq 7, 3), (231, .iconst 1, 1), (232, .goto 4, 3), (235, .iconst 0, 1), (236, .ireturn, 1)]
set_option maxRecDepth 100000 in
theorem t_Mo_goes3 : ∀ q ∈ T_Mo_goes3, decode prog_11_method_24_code q.1 = .ok q.2 := by decide +kernel
theorem d_Mo_goes_213 : decode prog_11_method_24_code 213 = .ok (.iload 5, 2) := q_tb t_Mo_goes3 0 rfl
theorem d_Mo_goes_215 : decode prog_11_method_24_code 215 = .ok (.if_icmp .ne 7, 3) := q_tb t_Mo_goes3 1 rfl
theorem d_Mo_goes_218 : decode prog_11_method_24_code 218 = .ok (.iconst 1, 1) := q_tb t_Mo_goes3 2 rfl
theorem d_Mo_goes_219 : decode prog_11_method_24_code 219 = .ok (.goto 4, 3) := q_tb t_Mo_goes3 3 rfl
theorem d_Mo_goes_222 : decode prog_11_method_24_code 222 = .ok (.iconst 0, 1) := q_tb t_Mo_goes3 4 rfl
theorem d_Mo_goes_223 : decode prog_11_method_24_code 223 = .ok (.ireturn, 1) := q_tb t_Mo_goes3 5 rfl
theorem d_Mo_goes_224 : decode prog_11_method_24_code 224 = .ok (.iload 4, 2) := q_tb t_Mo_goes3 6 rfl
theorem d_Mo_goes_226 : decode prog_11_method_24_code 226 = .ok (.iload 5, 2) := q_tb t_Mo_goes3 7 rfl
theorem d_Mo_goes_228 : decode prog_11_method_24_code 228 = .ok (.if_icmp .eq 7, 3) := q_tb t_Mo_goes3 8 rfl
theorem d_Mo_goes_231 : decode prog_11_method_24_code 231 = .ok (.iconst 1, 1) := q_tb t_Mo_goes3 9 rfl
theorem d_Mo_goes_232 : decode prog_11_method_24_code 232 = .ok (.goto 4, 3) := q_tb t_Mo_goes3 10 rfl
theorem d_Mo_goes_235 : decode prog_11_method_24_code 235 = .ok (.iconst 0, 1) := q_tb t_Mo_goes3 11 rfl
theorem d_Mo_goes_236 : decode prog_11_method_24_code 236 = .ok (.ireturn, 1) := q_tb t_Mo_goes3 12 rfl
def T_Mo_move0 : List (Nat × Instr × Nat) := [(0, .aload_n 0, 1), (1, .invokevirtual 179, 3), (4, .aload_n 0, 1), (5, .iload_n 1, 1), (6, .ifCond .lt 11, 3), (9, .iload_n 1, 1), (10, .aload_n 0, 1), (11, .invokevirtual 182, 3), (14, .if_icmp .lt 7, 3), (17, .iconst 1, 1), (18, .goto 4, 3), (21, .iconst 0, 1), (22, .putfield 90, 3), (25, .iload_n 1, 1), (26, .istore_n 2, 1), (27, .iconst 0, 1), (28, .istore_n 3, 1), (29, .iload_n 3, 1), (30, .aload_n 0, 1), (31, .getfield 111, 3), (34, .if_icmp .ge 97, 3), (37, .aload_n 0, 1), (38, .getfield 90, 3), (41, .ifCond .ne 90, 3), (44, .iconst 1, 1), (45, .istore 4, 2), (47, .iload 4, 2), (49, .bipush 13, 2), (51, .if_icmp .ge 74, 3), (54, .aload_n 0, 1), (55, .iload_n 3, 1), (56, .iload 4, 2), (58, .invokevirtual 175, 3), (61, .ifCond .eq 58, 3), (64, .iload_n 2, 1), (65, .ifCond .ne 51, 3), (68, .iconst 0, 1), (69, .istore 5, 2), (71, .iload 5, 2), (73, .bipush 11, 2)]
set_option maxRecDepth 100000 in
theorem t_Mo_move0 : ∀ q ∈ T_Mo_move0, decode prog_11_method_28_code q.1 = .ok q.2 := by decide +kernel
theorem d_Mo_move_0 : decode prog_11_method_28_code 0 = .ok (.aload_n 0, 1) := q_tb t_Mo_move0 0 rfl
theorem d_Mo_move_1 : decode prog_11_method_28_code 1 = .ok (.invokevirtual 179, 3) := q_tb t_Mo_move0 1 rfl
theorem d_Mo_move_4 : decode prog_11_method_28_code 4 = .ok (.aload_n 0, 1) := q_tb t_Mo_move0 2 rfl
theorem d_Mo_move_5 : decode prog_11_method_28_code 5 = .ok (.iload_n 1, 1) := q_tb t_Mo_move0 3 rfl
theorem d_Mo_move_6 : decode prog_11_method_28_code 6 = .ok (.ifCond .lt 11, 3) := q_tb t_Mo_move0 4 rfl
theorem d_Mo_move_9 : decode prog_11_method_28_code 9 = .ok (.iload_n 1, 1) := q_tb t_Mo_move0 5 rfl
theorem d_Mo_move_10 : decode prog_11_method_28_code 10 = .ok (.aload_n 0, 1) := q_tb t_Mo_move0 6 rfl
theorem d_Mo_move_11 : decode prog_11_method_28_code 11 = .ok (.invokevirtual 182, 3) := q_tb t_Mo_move0 7 rfl
theorem d_Mo_move_14 : decode prog_11_method_28_code 14 = .ok (.if_icmp .lt 7, 3) := q_tb t_Mo_move0 8 rfl
theorem d_Mo_move_17 : decode prog_11_method_28_code 17 = .ok (.iconst 1, 1) := q_tb t_Mo_move0 9 rfl
theorem d_Mo_move_18 : decode prog_11_method_28_code 18 = .ok (.goto 4, 3) := q_tb t_Mo_move0 10 rfl
theorem d_Mo_move_21 : decode prog_11_method_28_code 21 = .ok (.iconst 0, 1) := q_tb t_Mo_move0 11 rfl
theorem d_Mo_move_22 : decode prog_11_method_28_code 22 = .ok (.putfield 90, 3) := q_tb t_Mo_move0 12 rfl
theorem d_Mo_move_25 : decode prog_11_method_28_code 25 = .ok (.iload_n 1, 1) := q_tb t_Mo_move0 13 rfl
theorem d_Mo_move_26 : decode prog_11_method_28_code 26 = .ok (.istore_n 2, 1) := q_tb t_Mo_move0 14 rfl
theorem d_Mo_move_27 : decode prog_11_method_28_code 27 = .ok (.iconst 0, 1) := q_tb t_Mo_move0 15 rfl
theorem d_Mo_move_28 : decode prog_11_method_28_code 28 = .ok (.istore_n 3, 1) := q_tb t_Mo_move0 16 rfl
theorem d_Mo_move_29 : decode prog_11_method_28_code 29 = .ok (.iload_n 3, 1) := q_tb t_Mo_move0 17 rfl
theorem d_Mo_move_30 : decode prog_11_method_28_code 30 = .ok (.aload_n 0, 1) := q_tb t_Mo_move0 18 rfl
theorem d_Mo_move_31 : decode prog_11_method_28_code 31 = .ok (.getfield 111, 3) := q_tb t_Mo_move0 19 rfl
theorem d_Mo_move_34 : decode prog_11_method_28_code 34 = .ok (.if_icmp .ge 97, 3) := q_tb t_Mo_move0 20 rfl
theorem d_Mo_move_37 : decode prog_11_method_28_code 37 = .ok (.aload_n 0, 1) := q_tb t_Mo_move0 21 rfl
theorem d_Mo_move_38 : decode prog_11_method_28_code 38 = .ok (.getfield 90, 3) := q_tb t_Mo_move0 22 rfl
theorem d_Mo_move_41 : decode prog_11_method_28_code 41 = .ok (.ifCond .ne 90, 3) := q_tb t_Mo_move0 23 rfl
theorem d_Mo_move_44 : decode prog_11_method_28_code 44 = .ok (.iconst 1, 1) := q_tb t_Mo_move0 24 rfl
theorem d_Mo_move_45 : decode prog_11_method_28_code 45 = .ok (.istore 4, 2) := q_tb t_Mo_move0 25 rfl
theorem d_Mo_move_47 : decode prog_11_method_28_code 47 = .ok (.iload 4, 2) := q_tb t_Mo_move0 26 rfl
theorem d_Mo_move_49 : decode prog_11_method_28_code 49 = .ok (.bipush 13, 2) := q_tb t_Mo_move0 27 rfl
theorem d_Mo_move_51 : decode prog_11_method_28_code 51 = .ok (.if_icmp .ge 74, 3) := q_tb t_Mo_move0 28 rfl
theorem d_Mo_move_54 : decode prog_11_method_28_code 54 = .ok (.aload_n 0, 1) := q_tb t_Mo_move0 29 rfl
theorem d_Mo_move_55 : decode prog_11_method_28_code 55 = .ok (.iload_n 3, 1) := q_tb t_Mo_move0 30 rfl
theorem d_Mo_move_56 : decode prog_11_method_28_code 56 = .ok (.iload 4, 2) := q_tb t_Mo_move0 31 rfl
theorem d_Mo_move_58 : decode prog_11_method_28_code 58 = .ok (.invokevirtual 175, 3) := q_tb t_Mo_move0 32 rfl
theorem d_Mo_move_61 : decode prog_11_method_28_code 61 = .ok (.ifCond .eq 58, 3) := q_tb t_Mo_move0 33 rfl
theorem d_Mo_move_64 : decode prog_11_method_28_code 64 = .ok (.iload_n 2, 1) := q_tb t_Mo_move0 34 rfl
theorem d_Mo_move_65 : decode prog_11_method_28_code 65 = .ok (.ifCond .ne 51, 3) := q_tb t_Mo_move0 35 rfl
theorem d_Mo_move_68 : decode prog_11_method_28_code 68 = .ok (.iconst 0, 1) := q_tb t_Mo_move0 36 rfl
theorem d_Mo_move_69 : decode prog_11_method_28_code 69 = .ok (.istore 5, 2) := q_tb t_Mo_move0 37 rfl
theorem d_Mo_move_71 : decode prog_11_method_28_code 71 = .ok (.iload 5, 2) := q_tb t_Mo_move0 38 rfl
theorem d_Mo_move_73 : decode prog_11_method_28_code 73 = .ok (.bipush 11, 2) := q_tb t_Mo_move0 39 rfl
def T_Mo_move1 : List (Nat × Instr × Nat) := [(75, .if_icmp .ge 23, 3), (78, .aload_n 0, 1), (79, .getfield 72, 3), (82, .iload 5, 2), (84, .aload_n 0, 1), (85, .getfield 78, 3), (88, .iload 5, 2), (90, .iaload, 1), (91, .iastore, 1), (92, .iinc 5 1, 3), (95, .goto (-24), 3), (98, .aload_n 0, 1), (99, .dup, 1), (100, .getfield 102, 3), (103, .iconst 1, 1), (104, .iadd, 1), (105, .putfield 102, 3), (108, .bipush 16, 2), (110, .iload_n 3, 1), (111, .imul, 1), (112, .iload 4, 2), (114, .iadd, 1), (115, .ireturn, 1), (116, .iinc 2 (-1), 3), (119, .iinc 4 1, 3), (122, .goto (-75), 3), (125, .iinc 3 1, 3), (128, .goto (-99), 3), (131, .iconst 0, 1), (132, .ireturn, 1)]
set_option maxRecDepth 100000 in
theorem t_Mo_move1 : ∀ q ∈ T_Mo_move1, decode prog_11_method_28_code q.1 = .ok q.2 := by decide +kernel
theorem d_Mo_move_75 : decode prog_11_method_28_code 75 = .ok (.if_icmp .ge 23, 3) := q_tb t_Mo_move1 0 rfl
theorem d_Mo_move_78 : decode prog_11_method_28_code 78 = .ok (.aload_n 0, 1) := q_tb t_Mo_move1 1 rfl
theorem d_Mo_move_79 : decode prog_11_method_28_code 79 = .ok (.getfield 72, 3) := q_tb t_Mo_move1 2 rfl
theorem d_Mo_move_82 : decode prog_11_method_28_code 82 = .ok (.iload 5, 2) := q_tb t_Mo_move1 3 rfl
theorem d_Mo_move_84 : decode prog_11_method_28_code 84 = .ok (.aload_n 0, 1) := q_tb t_Mo_move1 4 rfl
theorem d_Mo_move_85 : decode prog_11_method_28_code 85 = .ok (.getfield 78, 3) := q_tb t_Mo_move1 5 rfl
theorem d_Mo_move_88 : decode prog_11_method_28_code 88 = .ok (.iload 5, 2) := q_tb t_Mo_move1 6 rfl
theorem d_Mo_move_90 : decode prog_11_method_28_code 90 = .ok (.iaload, 1) := q_tb t_Mo_move1 7 rfl
theorem d_Mo_move_91 : decode prog_11_method_28_code 91 = .ok (.iastore, 1) := q_tb t_Mo_move1 8 rfl
theorem d_Mo_move_92 : decode prog_11_method_28_code 92 = .ok (.iinc 5 1, 3) := q_tb t_Mo_move1 9 rfl
theorem d_Mo_move_95 : decode prog_11_method_28_code 95 = .ok (.goto (-24), 3) := q_tb t_Mo_move1 10 rfl
theorem d_Mo_move_98 : decode prog_11_method_28_code 98 = .ok (.aload_n 0, 1) := q_tb t_Mo_move1 11 rfl
theorem d_Mo_move_99 : decode prog_11_method_28_code 99 = .ok (.dup, 1) := q_tb t_Mo_move1 12 rfl
theorem d_Mo_move_100 : decode prog_11_method_28_code 100 = .ok (.getfield 102, 3) := q_tb t_Mo_move1 13 rfl
theorem d_Mo_move_103 : decode prog_11_method_28_code 103 = .ok (.iconst 1, 1) := q_tb t_Mo_move1 14 rfl
theorem d_Mo_move_104 : decode prog_11_method_28_code 104 = .ok (.iadd, 1) := q_tb t_Mo_move1 15 rfl
theorem d_Mo_move_105 : decode prog_11_method_28_code 105 = .ok (.putfield 102, 3) := q_tb t_Mo_move1 16 rfl
theorem d_Mo_move_108 : decode prog_11_method_28_code 108 = .ok (.bipush 16, 2) := q_tb t_Mo_move1 17 rfl
theorem d_Mo_move_110 : decode prog_11_method_28_code 110 = .ok (.iload_n 3, 1) := q_tb t_Mo_move1 18 rfl
theorem d_Mo_move_111 : decode prog_11_method_28_code 111 = .ok (.imul, 1) := q_tb t_Mo_move1 19 rfl
theorem d_Mo_move_112 : decode prog_11_method_28_code 112 = .ok (.iload 4, 2) := q_tb t_Mo_move1 20 rfl
theorem d_Mo_move_114 : decode prog_11_method_28_code 114 = .ok (.iadd, 1) := q_tb t_Mo_move1 21 rfl
theorem d_Mo_move_115 : decode prog_11_method_28_code 115 = .ok (.ireturn, 1) := q_tb t_Mo_move1 22 rfl
theorem d_Mo_move_116 : decode prog_11_method_28_code 116 = .ok (.iinc 2 (-1), 3) := q_tb t_Mo_move1 23 rfl
theorem d_Mo_move_119 : decode prog_11_method_28_code 119 = .ok (.iinc 4 1, 3) := q_tb t_Mo_move1 24 rfl
theorem d_Mo_move_122 : decode prog_11_method_28_code 122 = .ok (.goto (-75), 3) := q_tb t_Mo_move1 25 rfl
theorem d_Mo_move_125 : decode prog_11_method_28_code 125 = .ok (.iinc 3 1, 3) := q_tb t_Mo_move1 26 rfl
theorem d_Mo_move_128 : decode prog_11_method_28_code 128 = .ok (.goto (-99), 3) := q_tb t_Mo_move1 27 rfl
theorem d_Mo_move_131 : decode prog_11_method_28_code 131 = .ok (.iconst 0, 1) := q_tb t_Mo_move1 28 rfl
theorem d_Mo_move_132 : decode prog_11_method_28_code 132 = .ok (.ireturn, 1) := q_tb t_Mo_move1 29 rfl
def T_Mo_restart : List (Nat × Instr × Nat) := [(0, .aload_n 0, 1), (1, .iconst 0, 1), (2, .putfield 90, 3), (5, .aload_n 0, 1), (6, .getfield 102, 3), (9, .istore_n 1, 1), (10, .aload_n 0, 1), (11, .getfield 98, 3), (14, .istore_n 2, 1), (15, .aload_n 0, 1), (16, .invokevirtual 108, 3), (19, .aload_n 0, 1), (20, .iload_n 2, 1), (21, .putfield 98, 3), (24, .iload_n 1, 1), (25, .ireturn, 1)]
set_option maxRecDepth 100000 in
theorem t_Mo_restart : ∀ q ∈ T_Mo_restart, decode prog_11_method_29_code q.1 = .ok q.2 := by decide +kernel
theorem d_Mo_restart_0 : decode prog_11_method_29_code 0 = .ok (.aload_n 0, 1) := q_tb t_Mo_restart 0 rfl
theorem d_Mo_restart_1 : decode prog_11_method_29_code 1 = .ok (.iconst 0, 1) := q_tb t_Mo_restart 1 rfl
theorem d_Mo_restart_2 : decode prog_11_method_29_code 2 = .ok (.putfield 90, 3) := q_tb t_Mo_restart 2 rfl
theorem d_Mo_restart_5 : decode prog_11_method_29_code 5 = .ok (.aload_n 0, 1) := q_tb t_Mo_restart 3 rfl
theorem d_Mo_restart_6 : decode prog_11_method_29_code 6 = .ok (.getfield 102, 3) := q_tb t_Mo_restart 4 rfl
theorem d_Mo_restart_9 : decode prog_11_method_29_code 9 = .ok (.istore_n 1, 1) := q_tb t_Mo_restart 5 rfl
theorem d_Mo_restart_10 : decode prog_11_method_29_code 10 = .ok (.aload_n 0, 1) := q_tb t_Mo_restart 6 rfl
theorem d_Mo_restart_11 : decode prog_11_method_29_code 11 = .ok (.getfield 98, 3) := q_tb t_Mo_restart 7 rfl
theorem d_Mo_restart_14 : decode prog_11_method_29_code 14 = .ok (.istore_n 2, 1) := q_tb t_Mo_restart 8 rfl
theorem d_Mo_restart_15 : decode prog_11_method_29_code 15 = .ok (.aload_n 0, 1) := q_tb t_Mo_restart 9 rfl
theorem d_Mo_restart_16 : decode prog_11_method_29_code 16 = .ok (.invokevirtual 108, 3) := q_tb t_Mo_restart 10 rfl
theorem d_Mo_restart_19 : decode prog_11_method_29_code 19 = .ok (.aload_n 0, 1) := q_tb t_Mo_restart 11 rfl
theorem d_Mo_restart_20 : decode prog_11_method_29_code 20 = .ok (.iload_n 2, 1) := q_tb t_Mo_restart 12 rfl
theorem d_Mo_restart_21 : decode prog_11_method_29_code 21 = .ok (.putfield 98, 3) := q_tb t_Mo_restart 13 rfl
theorem d_Mo_restart_24 : decode prog_11_method_29_code 24 = .ok (.iload_n 1, 1) := q_tb t_Mo_restart 14 rfl
theorem d_Mo_restart_25 : decode prog_11_method_29_code 25 = .ok (.ireturn, 1) := q_tb t_Mo_restart 15 rfl
def T_Mo_now : List (Nat × Instr × Nat) := [(0, .aload_n 0, 1), (1, .aload_n 0, 1), (2, .iload_n 1, 1), (3, .invokevirtual 168, 3), (6, .ifCond .eq 7, 3), (9, .iconst 1, 1), (10, .goto 4, 3), (13, .iconst 0, 1), (14, .putfield 90, 3), (17, .aload_n 0, 1), (18, .getfield 90, 3), (21, .ifCond .le 7, 3), (24, .iconst 0, 1), (25, .goto 9, 3), (28, .aload_n 0, 1), (29, .getfield 72, 3), (32, .iload_n 1, 1), (33, .iaload, 1), (34, .ireturn, 1)]
set_option maxRecDepth 100000 in
theorem t_Mo_now : ∀ q ∈ T_Mo_now, decode prog_11_method_30_code q.1 = .ok q.2 := by decide +kernel
theorem d_Mo_now_0 : decode prog_11_method_30_code 0 = .ok (.aload_n 0, 1) := q_tb t_Mo_now 0 rfl
theorem d_Mo_now_1 : decode prog_11_method_30_code 1 = .ok (.aload_n 0, 1) := q_tb t_Mo_now 1 rfl
theorem d_Mo_now_2 : decode prog_11_method_30_code 2 = .ok (.iload_n 1, 1) := q_tb t_Mo_now 2 rfl
theorem d_Mo_now_3 : decode prog_11_method_30_code 3 = .ok (.invokevirtual 168, 3) := q_tb t_Mo_now 3 rfl
theorem d_Mo_now_6 : decode prog_11_method_30_code 6 = .ok (.ifCond .eq 7, 3) := q_tb t_Mo_now 4 rfl
theorem d_Mo_now_9 : decode prog_11_method_30_code 9 = .ok (.iconst 1, 1) := q_tb t_Mo_now 5 rfl
theorem d_Mo_now_10 : decode prog_11_method_30_code 10 = .ok (.goto 4, 3) := q_tb t_Mo_now 6 rfl
theorem d_Mo_now_13 : decode prog_11_method_30_code 13 = .ok (.iconst 0, 1) := q_tb t_Mo_now 7 rfl
theorem d_Mo_now_14 : decode prog_11_method_30_code 14 = .ok (.putfield 90, 3) := q_tb t_Mo_now 8 rfl
theorem d_Mo_now_17 : decode prog_11_method_30_code 17 = .ok (.aload_n 0, 1) := q_tb t_Mo_now 9 rfl
theorem d_Mo_now_18 : decode prog_11_method_30_code 18 = .ok (.getfield 90, 3) := q_tb t_Mo_now 10 rfl
theorem d_Mo_now_21 : decode prog_11_method_30_code 21 = .ok (.ifCond .le 7, 3) := q_tb t_Mo_now 11 rfl
theorem d_Mo_now_24 : decode prog_11_method_30_code 24 = .ok (.iconst 0, 1) := q_tb t_Mo_now 12 rfl
theorem d_Mo_now_25 : decode prog_11_method_30_code 25 = .ok (.goto 9, 3) := q_tb t_Mo_now 13 rfl
theorem d_Mo_now_28 : decode prog_11_method_30_code 28 = .ok (.aload_n 0, 1) := q_tb t_Mo_now 14 rfl
theorem d_Mo_now_29 : decode prog_11_method_30_code 29 = .ok (.getfield 72, 3) := q_tb t_Mo_now 15 rfl
theorem d_Mo_now_32 : decode prog_11_method_30_code 32 = .ok (.iload_n 1, 1) := q_tb t_Mo_now 16 rfl
theorem d_Mo_now_33 : decode prog_11_method_30_code 33 = .ok (.iaload, 1) := q_tb t_Mo_now 17 rfl
theorem d_Mo_now_34 : decode prog_11_method_30_code 34 = .ok (.ireturn, 1) := q_tb t_Mo_now 18 rfl
def T_Mo_has : List (Nat × Instr × Nat) := [(0, .aload_n 0, 1), (1, .iload_n 1, 1), (2, .ifCond .lt 11, 3), (5, .iload_n 1, 1), (6, .aload_n 0, 1), (7, .getfield 105, 3), (10, .if_icmp .lt 7, 3), (13, .iconst 1, 1), (14, .goto 4, 3), (17, .iconst 0, 1), (18, .putfield 90, 3), (21, .aload_n 0, 1), (22, .getfield 90, 3), (25, .ifCond .le 7, 3), (28, .iconst 0, 1), (29, .goto 12, 3), (32, .aload_n 0, 1), (33, .getfield 72, 3), (36, .bipush 6, 2), (38, .iload_n 1, 1), (39, .iadd, 1), (40, .iaload, 1), (41, .ireturn, 1)]
set_option maxRecDepth 100000 in
theorem t_Mo_has : ∀ q ∈ T_Mo_has, decode prog_11_method_31_code q.1 = .ok q.2 := by decide +kernel
theorem d_Mo_has_0 : decode prog_11_method_31_code 0 = .ok (.aload_n 0, 1) := q_tb t_Mo_has 0 rfl
theorem d_Mo_has_1 : decode prog_11_method_31_code 1 = .ok (.iload_n 1, 1) := q_tb t_Mo_has 1 rfl
theorem d_Mo_has_2 : decode prog_11_method_31_code 2 = .ok (.ifCond .lt 11, 3) := q_tb t_Mo_has 2 rfl
theorem d_Mo_has_5 : decode prog_11_method_31_code 5 = .ok (.iload_n 1, 1) := q_tb t_Mo_has 3 rfl
theorem d_Mo_has_6 : decode prog_11_method_31_code 6 = .ok (.aload_n 0, 1) := q_tb t_Mo_has 4 rfl
theorem d_Mo_has_7 : decode prog_11_method_31_code 7 = .ok (.getfield 105, 3) := q_tb t_Mo_has 5 rfl
theorem d_Mo_has_10 : decode prog_11_method_31_code 10 = .ok (.if_icmp .lt 7, 3) := q_tb t_Mo_has 6 rfl
theorem d_Mo_has_13 : decode prog_11_method_31_code 13 = .ok (.iconst 1, 1) := q_tb t_Mo_has 7 rfl
theorem d_Mo_has_14 : decode prog_11_method_31_code 14 = .ok (.goto 4, 3) := q_tb t_Mo_has 8 rfl
theorem d_Mo_has_17 : decode prog_11_method_31_code 17 = .ok (.iconst 0, 1) := q_tb t_Mo_has 9 rfl
theorem d_Mo_has_18 : decode prog_11_method_31_code 18 = .ok (.putfield 90, 3) := q_tb t_Mo_has 10 rfl
theorem d_Mo_has_21 : decode prog_11_method_31_code 21 = .ok (.aload_n 0, 1) := q_tb t_Mo_has 11 rfl
theorem d_Mo_has_22 : decode prog_11_method_31_code 22 = .ok (.getfield 90, 3) := q_tb t_Mo_has 12 rfl
theorem d_Mo_has_25 : decode prog_11_method_31_code 25 = .ok (.ifCond .le 7, 3) := q_tb t_Mo_has 13 rfl
theorem d_Mo_has_28 : decode prog_11_method_31_code 28 = .ok (.iconst 0, 1) := q_tb t_Mo_has 14 rfl
theorem d_Mo_has_29 : decode prog_11_method_31_code 29 = .ok (.goto 12, 3) := q_tb t_Mo_has 15 rfl
theorem d_Mo_has_32 : decode prog_11_method_31_code 32 = .ok (.aload_n 0, 1) := q_tb t_Mo_has 16 rfl
theorem d_Mo_has_33 : decode prog_11_method_31_code 33 = .ok (.getfield 72, 3) := q_tb t_Mo_has 17 rfl
theorem d_Mo_has_36 : decode prog_11_method_31_code 36 = .ok (.bipush 6, 2) := q_tb t_Mo_has 18 rfl
theorem d_Mo_has_38 : decode prog_11_method_31_code 38 = .ok (.iload_n 1, 1) := q_tb t_Mo_has 19 rfl
theorem d_Mo_has_39 : decode prog_11_method_31_code 39 = .ok (.iadd, 1) := q_tb t_Mo_has 20 rfl
theorem d_Mo_has_40 : decode prog_11_method_31_code 40 = .ok (.iaload, 1) := q_tb t_Mo_has 21 rfl
theorem d_Mo_has_41 : decode prog_11_method_31_code 41 = .ok (.ireturn, 1) := q_tb t_Mo_has 22 rfl
def T_Mo_product0 : List (Nat × Instr × Nat) := [(0, .aload_n 0, 1), (1, .iconst 0, 1), (2, .putfield 90, 3), (5, .iconst 1, 1), (6, .istore_n 1, 1), (7, .iconst 0, 1), (8, .istore_n 2, 1), (9, .iload_n 2, 1), (10, .aload_n 0, 1), (11, .getfield 111, 3), (14, .if_icmp .ge 25, 3), (17, .iload_n 1, 1), (18, .sipush 30000, 3), (21, .if_icmp .gt 18, 3), (24, .iload_n 1, 1), (25, .aload_n 0, 1), (26, .getfield 23, 3), (29, .iload_n 2, 1), (30, .iaload, 1), (31, .imul, 1), (32, .istore_n 1, 1), (33, .iinc 2 1, 3), (36, .goto (-27), 3), (39, .iconst 0, 1), (40, .istore_n 2, 1), (41, .iload_n 2, 1), (42, .aload_n 0, 1), (43, .getfield 105, 3), (46, .if_icmp .ge 25, 3), (49, .iload_n 1, 1), (50, .sipush 30000, 3), (53, .if_icmp .gt 18, 3), (56, .iload_n 1, 1), (57, .aload_n 0, 1), (58, .getfield 17, 3), (61, .iload_n 2, 1), (62, .iaload, 1), (63, .imul, 1), (64, .istore_n 1, 1), (65, .iinc 2 1, 3)]
set_option maxRecDepth 100000 in
theorem t_Mo_product0 : ∀ q ∈ T_Mo_product0, decode prog_11_method_32_code q.1 = .ok q.2 := by decide +kernel
theorem d_Mo_product_0 : decode prog_11_method_32_code 0 = .ok (.aload_n 0, 1) := q_tb t_Mo_product0 0 rfl
theorem d_Mo_product_1 : decode prog_11_method_32_code 1 = .ok (.iconst 0, 1) := q_tb t_Mo_product0 1 rfl
theorem d_Mo_product_2 : decode prog_11_method_32_code 2 = .ok (.putfield 90, 3) := q_tb t_Mo_product0 2 rfl
theorem d_Mo_product_5 : decode prog_11_method_32_code 5 = .ok (.iconst 1, 1) := q_tb t_Mo_product0 3 rfl
theorem d_Mo_product_6 : decode prog_11_method_32_code 6 = .ok (.istore_n 1, 1) := q_tb t_Mo_product0 4 rfl
theorem d_Mo_product_7 : decode prog_11_method_32_code 7 = .ok (.iconst 0, 1) := q_tb t_Mo_product0 5 rfl
theorem d_Mo_product_8 : decode prog_11_method_32_code 8 = .ok (.istore_n 2, 1) := q_tb t_Mo_product0 6 rfl
theorem d_Mo_product_9 : decode prog_11_method_32_code 9 = .ok (.iload_n 2, 1) := q_tb t_Mo_product0 7 rfl
theorem d_Mo_product_10 : decode prog_11_method_32_code 10 = .ok (.aload_n 0, 1) := q_tb t_Mo_product0 8 rfl
theorem d_Mo_product_11 : decode prog_11_method_32_code 11 = .ok (.getfield 111, 3) := q_tb t_Mo_product0 9 rfl
theorem d_Mo_product_14 : decode prog_11_method_32_code 14 = .ok (.if_icmp .ge 25, 3) := q_tb t_Mo_product0 10 rfl
theorem d_Mo_product_17 : decode prog_11_method_32_code 17 = .ok (.iload_n 1, 1) := q_tb t_Mo_product0 11 rfl
theorem d_Mo_product_18 : decode prog_11_method_32_code 18 = .ok (.sipush 30000, 3) := q_tb t_Mo_product0 12 rfl
theorem d_Mo_product_21 : decode prog_11_method_32_code 21 = .ok (.if_icmp .gt 18, 3) := q_tb t_Mo_product0 13 rfl
theorem d_Mo_product_24 : decode prog_11_method_32_code 24 = .ok (.iload_n 1, 1) := q_tb t_Mo_product0 14 rfl
theorem d_Mo_product_25 : decode prog_11_method_32_code 25 = .ok (.aload_n 0, 1) := q_tb t_Mo_product0 15 rfl
theorem d_Mo_product_26 : decode prog_11_method_32_code 26 = .ok (.getfield 23, 3) := q_tb t_Mo_product0 16 rfl
theorem d_Mo_product_29 : decode prog_11_method_32_code 29 = .ok (.iload_n 2, 1) := q_tb t_Mo_product0 17 rfl
theorem d_Mo_product_30 : decode prog_11_method_32_code 30 = .ok (.iaload, 1) := q_tb t_Mo_product0 18 rfl
theorem d_Mo_product_31 : decode prog_11_method_32_code 31 = .ok (.imul, 1) := q_tb t_Mo_product0 19 rfl
theorem d_Mo_product_32 : decode prog_11_method_32_code 32 = .ok (.istore_n 1, 1) := q_tb t_Mo_product0 20 rfl
theorem d_Mo_product_33 : decode prog_11_method_32_code 33 = .ok (.iinc 2 1, 3) := q_tb t_Mo_product0 21 rfl
theorem d_Mo_product_36 : decode prog_11_method_32_code 36 = .ok (.goto (-27), 3) := q_tb t_Mo_product0 22 rfl
theorem d_Mo_product_39 : decode prog_11_method_32_code 39 = .ok (.iconst 0, 1) := q_tb t_Mo_product0 23 rfl
theorem d_Mo_product_40 : decode prog_11_method_32_code 40 = .ok (.istore_n 2, 1) := q_tb t_Mo_product0 24 rfl
theorem d_Mo_product_41 : decode prog_11_method_32_code 41 = .ok (.iload_n 2, 1) := q_tb t_Mo_product0 25 rfl
theorem d_Mo_product_42 : decode prog_11_method_32_code 42 = .ok (.aload_n 0, 1) := q_tb t_Mo_product0 26 rfl
theorem d_Mo_product_43 : decode prog_11_method_32_code 43 = .ok (.getfield 105, 3) := q_tb t_Mo_product0 27 rfl
theorem d_Mo_product_46 : decode prog_11_method_32_code 46 = .ok (.if_icmp .ge 25, 3) := q_tb t_Mo_product0 28 rfl
theorem d_Mo_product_49 : decode prog_11_method_32_code 49 = .ok (.iload_n 1, 1) := q_tb t_Mo_product0 29 rfl
theorem d_Mo_product_50 : decode prog_11_method_32_code 50 = .ok (.sipush 30000, 3) := q_tb t_Mo_product0 30 rfl
theorem d_Mo_product_53 : decode prog_11_method_32_code 53 = .ok (.if_icmp .gt 18, 3) := q_tb t_Mo_product0 31 rfl
theorem d_Mo_product_56 : decode prog_11_method_32_code 56 = .ok (.iload_n 1, 1) := q_tb t_Mo_product0 32 rfl
theorem d_Mo_product_57 : decode prog_11_method_32_code 57 = .ok (.aload_n 0, 1) := q_tb t_Mo_product0 33 rfl
theorem d_Mo_product_58 : decode prog_11_method_32_code 58 = .ok (.getfield 17, 3) := q_tb t_Mo_product0 34 rfl
theorem d_Mo_product_61 : decode prog_11_method_32_code 61 = .ok (.iload_n 2, 1) := q_tb t_Mo_product0 35 rfl
theorem d_Mo_product_62 : decode prog_11_method_32_code 62 = .ok (.iaload, 1) := q_tb t_Mo_product0 36 rfl
theorem d_Mo_product_63 : decode prog_11_method_32_code 63 = .ok (.imul, 1) := q_tb t_Mo_product0 37 rfl
theorem d_Mo_product_64 : decode prog_11_method_32_code 64 = .ok (.istore_n 1, 1) := q_tb t_Mo_product0 38 rfl
theorem d_Mo_product_65 : decode prog_11_method_32_code 65 = .ok (.iinc 2 1, 3) := q_tb t_Mo_product0 39 rfl
def T_Mo_product1 : List (Nat × Instr × Nat) := [(68, .goto (-27), 3), (71, .iload_n 1, 1), (72, .sipush 30000, 3), (75, .if_icmp .le 8, 3), (78, .bipush (-2), 2), (80, .goto 4, 3), (83, .iload_n 1, 1), (84, .ireturn, 1)]
set_option maxRecDepth 100000 in
theorem t_Mo_product1 : ∀ q ∈ T_Mo_product1, decode prog_11_method_32_code q.1 = .ok q.2 := by decide +kernel
theorem d_Mo_product_68 : decode prog_11_method_32_code 68 = .ok (.goto (-27), 3) := q_tb t_Mo_product1 0 rfl
theorem d_Mo_product_71 : decode prog_11_method_32_code 71 = .ok (.iload_n 1, 1) := q_tb t_Mo_product1 1 rfl
theorem d_Mo_product_72 : decode prog_11_method_32_code 72 = .ok (.sipush 30000, 3) := q_tb t_Mo_product1 2 rfl
theorem d_Mo_product_75 : decode prog_11_method_32_code 75 = .ok (.if_icmp .le 8, 3) := q_tb t_Mo_product1 3 rfl
theorem d_Mo_product_78 : decode prog_11_method_32_code 78 = .ok (.bipush (-2), 2) := q_tb t_Mo_product1 4 rfl
theorem d_Mo_product_80 : decode prog_11_method_32_code 80 = .ok (.goto 4, 3) := q_tb t_Mo_product1 5 rfl
theorem d_Mo_product_83 : decode prog_11_method_32_code 83 = .ok (.iload_n 1, 1) := q_tb t_Mo_product1 6 rfl
theorem d_Mo_product_84 : decode prog_11_method_32_code 84 = .ok (.ireturn, 1) := q_tb t_Mo_product1 7 rfl
def T_Mo_stuck : List (Nat × Instr × Nat) := [(0, .aload_n 0, 1), (1, .invokevirtual 194, 3), (4, .ifCond .ge 6, 3), (7, .bipush (-2), 2), (9, .ireturn, 1), (10, .aload_n 0, 1), (11, .invokevirtual 206, 3), (14, .aload_n 0, 1), (15, .getfield 200, 3), (18, .ireturn, 1)]
set_option maxRecDepth 100000 in
theorem t_Mo_stuck : ∀ q ∈ T_Mo_stuck, decode prog_11_method_37_code q.1 = .ok q.2 := by decide +kernel
theorem d_Mo_stuck_0 : decode prog_11_method_37_code 0 = .ok (.aload_n 0, 1) := q_tb t_Mo_stuck 0 rfl
theorem d_Mo_stuck_1 : decode prog_11_method_37_code 1 = .ok (.invokevirtual 194, 3) := q_tb t_Mo_stuck 1 rfl
theorem d_Mo_stuck_4 : decode prog_11_method_37_code 4 = .ok (.ifCond .ge 6, 3) := q_tb t_Mo_stuck 2 rfl
theorem d_Mo_stuck_7 : decode prog_11_method_37_code 7 = .ok (.bipush (-2), 2) := q_tb t_Mo_stuck 3 rfl
theorem d_Mo_stuck_9 : decode prog_11_method_37_code 9 = .ok (.ireturn, 1) := q_tb t_Mo_stuck 4 rfl
theorem d_Mo_stuck_10 : decode prog_11_method_37_code 10 = .ok (.aload_n 0, 1) := q_tb t_Mo_stuck 5 rfl
theorem d_Mo_stuck_11 : decode prog_11_method_37_code 11 = .ok (.invokevirtual 206, 3) := q_tb t_Mo_stuck 6 rfl
theorem d_Mo_stuck_14 : decode prog_11_method_37_code 14 = .ok (.aload_n 0, 1) := q_tb t_Mo_stuck 7 rfl
theorem d_Mo_stuck_15 : decode prog_11_method_37_code 15 = .ok (.getfield 200, 3) := q_tb t_Mo_stuck 8 rfl
theorem d_Mo_stuck_18 : decode prog_11_method_37_code 18 = .ok (.ireturn, 1) := q_tb t_Mo_stuck 9 rfl
def T_Mo_know0 : List (Nat × Instr × Nat) := [(0, .aload_n 0, 1), (1, .getfield 98, 3), (4, .ifCond .eq 4, 3), (7, .return_, 1), (8, .iconst 0, 1), (9, .istore_n 1, 1), (10, .iload_n 1, 1), (11, .bipush 11, 2), (13, .if_icmp .ge 45, 3), (16, .aload_n 0, 1), (17, .getfield 75, 3), (20, .iload_n 1, 1), (21, .iload_n 1, 1), (22, .bipush 6, 2), (24, .if_icmp .lt 14, 3), (27, .iload_n 1, 1), (28, .bipush 6, 2), (30, .isub, 1), (31, .aload_n 0, 1), (32, .getfield 105, 3), (35, .if_icmp .lt 7, 3), (38, .iconst 0, 1), (39, .goto 12, 3), (42, .aload_n 0, 1), (43, .getfield 20, 3), (46, .iload_n 1, 1), (47, .bipush 6, 2), (49, .isub, 1), (50, .iaload, 1), (51, .iastore, 1), (52, .iinc 1 1, 3), (55, .goto (-45), 3), (58, .aload_n 0, 1), (59, .invokevirtual 194, 3), (62, .istore_n 1, 1), (63, .aload_n 0, 1), (64, .aload_n 0, 1), (65, .aload_n 0, 1), (66, .getfield 75, 3), (69, .invokevirtual 190, 3)]
set_option maxRecDepth 100000 in
theorem t_Mo_know0 : ∀ q ∈ T_Mo_know0, decode prog_11_method_36_code q.1 = .ok q.2 := by decide +kernel
theorem d_Mo_know_0 : decode prog_11_method_36_code 0 = .ok (.aload_n 0, 1) := q_tb t_Mo_know0 0 rfl
theorem d_Mo_know_1 : decode prog_11_method_36_code 1 = .ok (.getfield 98, 3) := q_tb t_Mo_know0 1 rfl
theorem d_Mo_know_4 : decode prog_11_method_36_code 4 = .ok (.ifCond .eq 4, 3) := q_tb t_Mo_know0 2 rfl
theorem d_Mo_know_7 : decode prog_11_method_36_code 7 = .ok (.return_, 1) := q_tb t_Mo_know0 3 rfl
theorem d_Mo_know_8 : decode prog_11_method_36_code 8 = .ok (.iconst 0, 1) := q_tb t_Mo_know0 4 rfl
theorem d_Mo_know_9 : decode prog_11_method_36_code 9 = .ok (.istore_n 1, 1) := q_tb t_Mo_know0 5 rfl
theorem d_Mo_know_10 : decode prog_11_method_36_code 10 = .ok (.iload_n 1, 1) := q_tb t_Mo_know0 6 rfl
theorem d_Mo_know_11 : decode prog_11_method_36_code 11 = .ok (.bipush 11, 2) := q_tb t_Mo_know0 7 rfl
theorem d_Mo_know_13 : decode prog_11_method_36_code 13 = .ok (.if_icmp .ge 45, 3) := q_tb t_Mo_know0 8 rfl
theorem d_Mo_know_16 : decode prog_11_method_36_code 16 = .ok (.aload_n 0, 1) := q_tb t_Mo_know0 9 rfl
theorem d_Mo_know_17 : decode prog_11_method_36_code 17 = .ok (.getfield 75, 3) := q_tb t_Mo_know0 10 rfl
theorem d_Mo_know_20 : decode prog_11_method_36_code 20 = .ok (.iload_n 1, 1) := q_tb t_Mo_know0 11 rfl
theorem d_Mo_know_21 : decode prog_11_method_36_code 21 = .ok (.iload_n 1, 1) := q_tb t_Mo_know0 12 rfl
theorem d_Mo_know_22 : decode prog_11_method_36_code 22 = .ok (.bipush 6, 2) := q_tb t_Mo_know0 13 rfl
theorem d_Mo_know_24 : decode prog_11_method_36_code 24 = .ok (.if_icmp .lt 14, 3) := q_tb t_Mo_know0 14 rfl
theorem d_Mo_know_27 : decode prog_11_method_36_code 27 = .ok (.iload_n 1, 1) := q_tb t_Mo_know0 15 rfl
theorem d_Mo_know_28 : decode prog_11_method_36_code 28 = .ok (.bipush 6, 2) := q_tb t_Mo_know0 16 rfl
theorem d_Mo_know_30 : decode prog_11_method_36_code 30 = .ok (.isub, 1) := q_tb t_Mo_know0 17 rfl
theorem d_Mo_know_31 : decode prog_11_method_36_code 31 = .ok (.aload_n 0, 1) := q_tb t_Mo_know0 18 rfl
theorem d_Mo_know_32 : decode prog_11_method_36_code 32 = .ok (.getfield 105, 3) := q_tb t_Mo_know0 19 rfl
theorem d_Mo_know_35 : decode prog_11_method_36_code 35 = .ok (.if_icmp .lt 7, 3) := q_tb t_Mo_know0 20 rfl
theorem d_Mo_know_38 : decode prog_11_method_36_code 38 = .ok (.iconst 0, 1) := q_tb t_Mo_know0 21 rfl
theorem d_Mo_know_39 : decode prog_11_method_36_code 39 = .ok (.goto 12, 3) := q_tb t_Mo_know0 22 rfl
theorem d_Mo_know_42 : decode prog_11_method_36_code 42 = .ok (.aload_n 0, 1) := q_tb t_Mo_know0 23 rfl
theorem d_Mo_know_43 : decode prog_11_method_36_code 43 = .ok (.getfield 20, 3) := q_tb t_Mo_know0 24 rfl
theorem d_Mo_know_46 : decode prog_11_method_36_code 46 = .ok (.iload_n 1, 1) := q_tb t_Mo_know0 25 rfl
theorem d_Mo_know_47 : decode prog_11_method_36_code 47 = .ok (.bipush 6, 2) := q_tb t_Mo_know0 26 rfl
theorem d_Mo_know_49 : decode prog_11_method_36_code 49 = .ok (.isub, 1) := q_tb t_Mo_know0 27 rfl
theorem d_Mo_know_50 : decode prog_11_method_36_code 50 = .ok (.iaload, 1) := q_tb t_Mo_know0 28 rfl
theorem d_Mo_know_51 : decode prog_11_method_36_code 51 = .ok (.iastore, 1) := q_tb t_Mo_know0 29 rfl
theorem d_Mo_know_52 : decode prog_11_method_36_code 52 = .ok (.iinc 1 1, 3) := q_tb t_Mo_know0 30 rfl
theorem d_Mo_know_55 : decode prog_11_method_36_code 55 = .ok (.goto (-45), 3) := q_tb t_Mo_know0 31 rfl
theorem d_Mo_know_58 : decode prog_11_method_36_code 58 = .ok (.aload_n 0, 1) := q_tb t_Mo_know0 32 rfl
theorem d_Mo_know_59 : decode prog_11_method_36_code 59 = .ok (.invokevirtual 194, 3) := q_tb t_Mo_know0 33 rfl
theorem d_Mo_know_62 : decode prog_11_method_36_code 62 = .ok (.istore_n 1, 1) := q_tb t_Mo_know0 34 rfl
theorem d_Mo_know_63 : decode prog_11_method_36_code 63 = .ok (.aload_n 0, 1) := q_tb t_Mo_know0 35 rfl
theorem d_Mo_know_64 : decode prog_11_method_36_code 64 = .ok (.aload_n 0, 1) := q_tb t_Mo_know0 36 rfl
theorem d_Mo_know_65 : decode prog_11_method_36_code 65 = .ok (.aload_n 0, 1) := q_tb t_Mo_know0 37 rfl
theorem d_Mo_know_66 : decode prog_11_method_36_code 66 = .ok (.getfield 75, 3) := q_tb t_Mo_know0 38 rfl
theorem d_Mo_know_69 : decode prog_11_method_36_code 69 = .ok (.invokevirtual 190, 3) := q_tb t_Mo_know0 39 rfl
def T_Mo_know1 : List (Nat × Instr × Nat) := [(72, .invokevirtual 197, 3), (75, .aload_n 0, 1), (76, .iconst 0, 1), (77, .putfield 200, 3), (80, .aload_n 0, 1), (81, .iconst 0, 1), (82, .putfield 203, 3), (85, .iconst 0, 1), (86, .istore_n 2, 1), (87, .iload_n 2, 1), (88, .iload_n 1, 1), (89, .if_icmp .ge 122, 3), (92, .aload_n 0, 1), (93, .iload_n 2, 1), (94, .invokevirtual 186, 3), (97, .aload_n 0, 1), (98, .getfield 81, 3), (101, .iload_n 2, 1), (102, .baload, 1), (103, .ifCond .eq 102, 3), (106, .aload_n 0, 1), (107, .invokevirtual 182, 3), (110, .ifCond .ne 95, 3), (113, .aload_n 0, 1), (114, .getfield 87, 3), (117, .aload_n 0, 1), (118, .getfield 200, 3), (121, .iload_n 2, 1), (122, .iastore, 1), (123, .aload_n 0, 1), (124, .dup, 1), (125, .getfield 200, 3), (128, .iconst 1, 1), (129, .iadd, 1), (130, .putfield 200, 3), (133, .iconst 1, 1), (134, .istore_n 3, 1), (135, .iconst 0, 1), (136, .istore 4, 2), (138, .iload 4, 2)]
set_option maxRecDepth 100000 in
theorem t_Mo_know1 : ∀ q ∈ T_Mo_know1, decode prog_11_method_36_code q.1 = .ok q.2 := by decide +kernel
theorem d_Mo_know_72 : decode prog_11_method_36_code 72 = .ok (.invokevirtual 197, 3) := q_tb t_Mo_know1 0 rfl
theorem d_Mo_know_75 : decode prog_11_method_36_code 75 = .ok (.aload_n 0, 1) := q_tb t_Mo_know1 1 rfl
theorem d_Mo_know_76 : decode prog_11_method_36_code 76 = .ok (.iconst 0, 1) := q_tb t_Mo_know1 2 rfl
theorem d_Mo_know_77 : decode prog_11_method_36_code 77 = .ok (.putfield 200, 3) := q_tb t_Mo_know1 3 rfl
theorem d_Mo_know_80 : decode prog_11_method_36_code 80 = .ok (.aload_n 0, 1) := q_tb t_Mo_know1 4 rfl
theorem d_Mo_know_81 : decode prog_11_method_36_code 81 = .ok (.iconst 0, 1) := q_tb t_Mo_know1 5 rfl
theorem d_Mo_know_82 : decode prog_11_method_36_code 82 = .ok (.putfield 203, 3) := q_tb t_Mo_know1 6 rfl
theorem d_Mo_know_85 : decode prog_11_method_36_code 85 = .ok (.iconst 0, 1) := q_tb t_Mo_know1 7 rfl
theorem d_Mo_know_86 : decode prog_11_method_36_code 86 = .ok (.istore_n 2, 1) := q_tb t_Mo_know1 8 rfl
theorem d_Mo_know_87 : decode prog_11_method_36_code 87 = .ok (.iload_n 2, 1) := q_tb t_Mo_know1 9 rfl
theorem d_Mo_know_88 : decode prog_11_method_36_code 88 = .ok (.iload_n 1, 1) := q_tb t_Mo_know1 10 rfl
theorem d_Mo_know_89 : decode prog_11_method_36_code 89 = .ok (.if_icmp .ge 122, 3) := q_tb t_Mo_know1 11 rfl
theorem d_Mo_know_92 : decode prog_11_method_36_code 92 = .ok (.aload_n 0, 1) := q_tb t_Mo_know1 12 rfl
theorem d_Mo_know_93 : decode prog_11_method_36_code 93 = .ok (.iload_n 2, 1) := q_tb t_Mo_know1 13 rfl
theorem d_Mo_know_94 : decode prog_11_method_36_code 94 = .ok (.invokevirtual 186, 3) := q_tb t_Mo_know1 14 rfl
theorem d_Mo_know_97 : decode prog_11_method_36_code 97 = .ok (.aload_n 0, 1) := q_tb t_Mo_know1 15 rfl
theorem d_Mo_know_98 : decode prog_11_method_36_code 98 = .ok (.getfield 81, 3) := q_tb t_Mo_know1 16 rfl
theorem d_Mo_know_101 : decode prog_11_method_36_code 101 = .ok (.iload_n 2, 1) := q_tb t_Mo_know1 17 rfl
theorem d_Mo_know_102 : decode prog_11_method_36_code 102 = .ok (.baload, 1) := q_tb t_Mo_know1 18 rfl
theorem d_Mo_know_103 : decode prog_11_method_36_code 103 = .ok (.ifCond .eq 102, 3) := q_tb t_Mo_know1 19 rfl
theorem d_Mo_know_106 : decode prog_11_method_36_code 106 = .ok (.aload_n 0, 1) := q_tb t_Mo_know1 20 rfl
theorem d_Mo_know_107 : decode prog_11_method_36_code 107 = .ok (.invokevirtual 182, 3) := q_tb t_Mo_know1 21 rfl
theorem d_Mo_know_110 : decode prog_11_method_36_code 110 = .ok (.ifCond .ne 95, 3) := q_tb t_Mo_know1 22 rfl
theorem d_Mo_know_113 : decode prog_11_method_36_code 113 = .ok (.aload_n 0, 1) := q_tb t_Mo_know1 23 rfl
theorem d_Mo_know_114 : decode prog_11_method_36_code 114 = .ok (.getfield 87, 3) := q_tb t_Mo_know1 24 rfl
theorem d_Mo_know_117 : decode prog_11_method_36_code 117 = .ok (.aload_n 0, 1) := q_tb t_Mo_know1 25 rfl
theorem d_Mo_know_118 : decode prog_11_method_36_code 118 = .ok (.getfield 200, 3) := q_tb t_Mo_know1 26 rfl
theorem d_Mo_know_121 : decode prog_11_method_36_code 121 = .ok (.iload_n 2, 1) := q_tb t_Mo_know1 27 rfl
theorem d_Mo_know_122 : decode prog_11_method_36_code 122 = .ok (.iastore, 1) := q_tb t_Mo_know1 28 rfl
theorem d_Mo_know_123 : decode prog_11_method_36_code 123 = .ok (.aload_n 0, 1) := q_tb t_Mo_know1 29 rfl
theorem d_Mo_know_124 : decode prog_11_method_36_code 124 = .ok (.dup, 1) := q_tb t_Mo_know1 30 rfl
theorem d_Mo_know_125 : decode prog_11_method_36_code 125 = .ok (.getfield 200, 3) := q_tb t_Mo_know1 31 rfl
theorem d_Mo_know_128 : decode prog_11_method_36_code 128 = .ok (.iconst 1, 1) := q_tb t_Mo_know1 32 rfl
theorem d_Mo_know_129 : decode prog_11_method_36_code 129 = .ok (.iadd, 1) := q_tb t_Mo_know1 33 rfl
theorem d_Mo_know_130 : decode prog_11_method_36_code 130 = .ok (.putfield 200, 3) := q_tb t_Mo_know1 34 rfl
theorem d_Mo_know_133 : decode prog_11_method_36_code 133 = .ok (.iconst 1, 1) := q_tb t_Mo_know1 35 rfl
theorem d_Mo_know_134 : decode prog_11_method_36_code 134 = .ok (.istore_n 3, 1) := q_tb t_Mo_know1 36 rfl
theorem d_Mo_know_135 : decode prog_11_method_36_code 135 = .ok (.iconst 0, 1) := q_tb t_Mo_know1 37 rfl
theorem d_Mo_know_136 : decode prog_11_method_36_code 136 = .ok (.istore 4, 2) := q_tb t_Mo_know1 38 rfl
theorem d_Mo_know_138 : decode prog_11_method_36_code 138 = .ok (.iload 4, 2) := q_tb t_Mo_know1 39 rfl
def T_Mo_know2 : List (Nat × Instr × Nat) := [(140, .aload_n 0, 1), (141, .getfield 111, 3), (144, .if_icmp .ge 40, 3), (147, .iload_n 3, 1), (148, .ifCond .eq 28, 3), (151, .aload_n 0, 1), (152, .getfield 26, 3), (155, .iload 4, 2), (157, .iaload, 1), (158, .aload_n 0, 1), (159, .getfield 75, 3), (162, .iload 4, 2), (164, .iaload, 1), (165, .ishr, 1), (166, .iconst 1, 1), (167, .iand, 1), (168, .iconst 1, 1), (169, .if_icmp .ne 7, 3), (172, .iconst 1, 1), (173, .goto 4, 3), (176, .iconst 0, 1), (177, .istore_n 3, 1), (178, .iinc 4 1, 3), (181, .goto (-43), 3), (184, .aload_n 0, 1), (185, .iload_n 3, 1), (186, .ifCond .eq 12, 3), (189, .aload_n 0, 1), (190, .getfield 203, 3), (193, .iconst 1, 1), (194, .iadd, 1), (195, .goto 7, 3), (198, .aload_n 0, 1), (199, .getfield 203, 3), (202, .putfield 203, 3), (205, .iinc 2 1, 3), (208, .goto (-121), 3), (211, .aload_n 0, 1), (212, .iconst 1, 1), (213, .putfield 98, 3)]
set_option maxRecDepth 100000 in
theorem t_Mo_know2 : ∀ q ∈ T_Mo_know2, decode prog_11_method_36_code q.1 = .ok q.2 := by decide +kernel
theorem d_Mo_know_140 : decode prog_11_method_36_code 140 = .ok (.aload_n 0, 1) := q_tb t_Mo_know2 0 rfl
theorem d_Mo_know_141 : decode prog_11_method_36_code 141 = .ok (.getfield 111, 3) := q_tb t_Mo_know2 1 rfl
theorem d_Mo_know_144 : decode prog_11_method_36_code 144 = .ok (.if_icmp .ge 40, 3) := q_tb t_Mo_know2 2 rfl
theorem d_Mo_know_147 : decode prog_11_method_36_code 147 = .ok (.iload_n 3, 1) := q_tb t_Mo_know2 3 rfl
theorem d_Mo_know_148 : decode prog_11_method_36_code 148 = .ok (.ifCond .eq 28, 3) := q_tb t_Mo_know2 4 rfl
theorem d_Mo_know_151 : decode prog_11_method_36_code 151 = .ok (.aload_n 0, 1) := q_tb t_Mo_know2 5 rfl
theorem d_Mo_know_152 : decode prog_11_method_36_code 152 = .ok (.getfield 26, 3) := q_tb t_Mo_know2 6 rfl
theorem d_Mo_know_155 : decode prog_11_method_36_code 155 = .ok (.iload 4, 2) := q_tb t_Mo_know2 7 rfl
theorem d_Mo_know_157 : decode prog_11_method_36_code 157 = .ok (.iaload, 1) := q_tb t_Mo_know2 8 rfl
theorem d_Mo_know_158 : decode prog_11_method_36_code 158 = .ok (.aload_n 0, 1) := q_tb t_Mo_know2 9 rfl
theorem d_Mo_know_159 : decode prog_11_method_36_code 159 = .ok (.getfield 75, 3) := q_tb t_Mo_know2 10 rfl
theorem d_Mo_know_162 : decode prog_11_method_36_code 162 = .ok (.iload 4, 2) := q_tb t_Mo_know2 11 rfl
theorem d_Mo_know_164 : decode prog_11_method_36_code 164 = .ok (.iaload, 1) := q_tb t_Mo_know2 12 rfl
theorem d_Mo_know_165 : decode prog_11_method_36_code 165 = .ok (.ishr, 1) := q_tb t_Mo_know2 13 rfl
theorem d_Mo_know_166 : decode prog_11_method_36_code 166 = .ok (.iconst 1, 1) := q_tb t_Mo_know2 14 rfl
theorem d_Mo_know_167 : decode prog_11_method_36_code 167 = .ok (.iand, 1) := q_tb t_Mo_know2 15 rfl
theorem d_Mo_know_168 : decode prog_11_method_36_code 168 = .ok (.iconst 1, 1) := q_tb t_Mo_know2 16 rfl
theorem d_Mo_know_169 : decode prog_11_method_36_code 169 = .ok (.if_icmp .ne 7, 3) := q_tb t_Mo_know2 17 rfl
theorem d_Mo_know_172 : decode prog_11_method_36_code 172 = .ok (.iconst 1, 1) := q_tb t_Mo_know2 18 rfl
theorem d_Mo_know_173 : decode prog_11_method_36_code 173 = .ok (.goto 4, 3) := q_tb t_Mo_know2 19 rfl
theorem d_Mo_know_176 : decode prog_11_method_36_code 176 = .ok (.iconst 0, 1) := q_tb t_Mo_know2 20 rfl
theorem d_Mo_know_177 : decode prog_11_method_36_code 177 = .ok (.istore_n 3, 1) := q_tb t_Mo_know2 21 rfl
theorem d_Mo_know_178 : decode prog_11_method_36_code 178 = .ok (.iinc 4 1, 3) := q_tb t_Mo_know2 22 rfl
theorem d_Mo_know_181 : decode prog_11_method_36_code 181 = .ok (.goto (-43), 3) := q_tb t_Mo_know2 23 rfl
theorem d_Mo_know_184 : decode prog_11_method_36_code 184 = .ok (.aload_n 0, 1) := q_tb t_Mo_know2 24 rfl
theorem d_Mo_know_185 : decode prog_11_method_36_code 185 = .ok (.iload_n 3, 1) := q_tb t_Mo_know2 25 rfl
theorem d_Mo_know_186 : decode prog_11_method_36_code 186 = .ok (.ifCond .eq 12, 3) := q_tb t_Mo_know2 26 rfl
theorem d_Mo_know_189 : decode prog_11_method_36_code 189 = .ok (.aload_n 0, 1) := q_tb t_Mo_know2 27 rfl
theorem d_Mo_know_190 : decode prog_11_method_36_code 190 = .ok (.getfield 203, 3) := q_tb t_Mo_know2 28 rfl
theorem d_Mo_know_193 : decode prog_11_method_36_code 193 = .ok (.iconst 1, 1) := q_tb t_Mo_know2 29 rfl
theorem d_Mo_know_194 : decode prog_11_method_36_code 194 = .ok (.iadd, 1) := q_tb t_Mo_know2 30 rfl
theorem d_Mo_know_195 : decode prog_11_method_36_code 195 = .ok (.goto 7, 3) := q_tb t_Mo_know2 31 rfl
theorem d_Mo_know_198 : decode prog_11_method_36_code 198 = .ok (.aload_n 0, 1) := q_tb t_Mo_know2 32 rfl
theorem d_Mo_know_199 : decode prog_11_method_36_code 199 = .ok (.getfield 203, 3) := q_tb t_Mo_know2 33 rfl
theorem d_Mo_know_202 : decode prog_11_method_36_code 202 = .ok (.putfield 203, 3) := q_tb t_Mo_know2 34 rfl
theorem d_Mo_know_205 : decode prog_11_method_36_code 205 = .ok (.iinc 2 1, 3) := q_tb t_Mo_know2 35 rfl
theorem d_Mo_know_208 : decode prog_11_method_36_code 208 = .ok (.goto (-121), 3) := q_tb t_Mo_know2 36 rfl
theorem d_Mo_know_211 : decode prog_11_method_36_code 211 = .ok (.aload_n 0, 1) := q_tb t_Mo_know2 37 rfl
theorem d_Mo_know_212 : decode prog_11_method_36_code 212 = .ok (.iconst 1, 1) := q_tb t_Mo_know2 38 rfl
theorem d_Mo_know_213 : decode prog_11_method_36_code 213 = .ok (.putfield 98, 3) := q_tb t_Mo_know2 39 rfl
def T_Mo_know3 : List (Nat × Instr × Nat) := [(216, .return_, 1)]
set_option maxRecDepth 100000 in
theorem t_Mo_know3 : ∀ q ∈ T_Mo_know3, decode prog_11_method_36_code q.1 = .ok q.2 := by decide +kernel
theorem d_Mo_know_216 : decode prog_11_method_36_code 216 = .ok (.return_, 1) := q_tb t_Mo_know3 0 rfl
def T_Mo_number0 : List (Nat × Instr × Nat) := [(0, .iconst 0, 1), (1, .istore_n 2, 1), (2, .iconst 0, 1), (3, .istore_n 3, 1), (4, .iload_n 3, 1), (5, .aload_n 0, 1), (6, .getfield 111, 3), (9, .if_icmp .ge 22, 3), (12, .iload_n 2, 1), (13, .aload_n 0, 1), (14, .getfield 23, 3), (17, .iload_n 3, 1), (18, .iaload, 1), (19, .imul, 1), (20, .aload_n 1, 1), (21, .iload_n 3, 1), (22, .iaload, 1), (23, .iadd, 1), (24, .istore_n 2, 1), (25, .iinc 3 1, 3), (28, .goto (-24), 3), (31, .iconst 0, 1), (32, .istore_n 3, 1), (33, .iload_n 3, 1), (34, .aload_n 0, 1), (35, .getfield 105, 3), (38, .if_icmp .ge 25, 3), (41, .iload_n 2, 1), (42, .aload_n 0, 1), (43, .getfield 17, 3), (46, .iload_n 3, 1), (47, .iaload, 1), (48, .imul, 1), (49, .aload_n 1, 1), (50, .bipush 6, 2), (52, .iload_n 3, 1), (53, .iadd, 1), (54, .iaload, 1), (55, .iadd, 1), (56, .istore_n 2, 1)]
set_option maxRecDepth 100000 in
theorem t_Mo_number0 : ∀ q ∈ T_Mo_number0, decode prog_11_method_33_code q.1 = .ok q.2 := by decide +kernel
theorem d_Mo_number_0 : decode prog_11_method_33_code 0 = .ok (.iconst 0, 1) := q_tb t_Mo_number0 0 rfl
theorem d_Mo_number_1 : decode prog_11_method_33_code 1 = .ok (.istore_n 2, 1) := q_tb t_Mo_number0 1 rfl
theorem d_Mo_number_2 : decode prog_11_method_33_code 2 = .ok (.iconst 0, 1) := q_tb t_Mo_number0 2 rfl
theorem d_Mo_number_3 : decode prog_11_method_33_code 3 = .ok (.istore_n 3, 1) := q_tb t_Mo_number0 3 rfl
theorem d_Mo_number_4 : decode prog_11_method_33_code 4 = .ok (.iload_n 3, 1) := q_tb t_Mo_number0 4 rfl
theorem d_Mo_number_5 : decode prog_11_method_33_code 5 = .ok (.aload_n 0, 1) := q_tb t_Mo_number0 5 rfl
theorem d_Mo_number_6 : decode prog_11_method_33_code 6 = .ok (.getfield 111, 3) := q_tb t_Mo_number0 6 rfl
theorem d_Mo_number_9 : decode prog_11_method_33_code 9 = .ok (.if_icmp .ge 22, 3) := q_tb t_Mo_number0 7 rfl
theorem d_Mo_number_12 : decode prog_11_method_33_code 12 = .ok (.iload_n 2, 1) := q_tb t_Mo_number0 8 rfl
theorem d_Mo_number_13 : decode prog_11_method_33_code 13 = .ok (.aload_n 0, 1) := q_tb t_Mo_number0 9 rfl
theorem d_Mo_number_14 : decode prog_11_method_33_code 14 = .ok (.getfield 23, 3) := q_tb t_Mo_number0 10 rfl
theorem d_Mo_number_17 : decode prog_11_method_33_code 17 = .ok (.iload_n 3, 1) := q_tb t_Mo_number0 11 rfl
theorem d_Mo_number_18 : decode prog_11_method_33_code 18 = .ok (.iaload, 1) := q_tb t_Mo_number0 12 rfl
theorem d_Mo_number_19 : decode prog_11_method_33_code 19 = .ok (.imul, 1) := q_tb t_Mo_number0 13 rfl
theorem d_Mo_number_20 : decode prog_11_method_33_code 20 = .ok (.aload_n 1, 1) := q_tb t_Mo_number0 14 rfl
theorem d_Mo_number_21 : decode prog_11_method_33_code 21 = .ok (.iload_n 3, 1) := q_tb t_Mo_number0 15 rfl
theorem d_Mo_number_22 : decode prog_11_method_33_code 22 = .ok (.iaload, 1) := q_tb t_Mo_number0 16 rfl
theorem d_Mo_number_23 : decode prog_11_method_33_code 23 = .ok (.iadd, 1) := q_tb t_Mo_number0 17 rfl
theorem d_Mo_number_24 : decode prog_11_method_33_code 24 = .ok (.istore_n 2, 1) := q_tb t_Mo_number0 18 rfl
theorem d_Mo_number_25 : decode prog_11_method_33_code 25 = .ok (.iinc 3 1, 3) := q_tb t_Mo_number0 19 rfl
theorem d_Mo_number_28 : decode prog_11_method_33_code 28 = .ok (.goto (-24), 3) := q_tb t_Mo_number0 20 rfl
theorem d_Mo_number_31 : decode prog_11_method_33_code 31 = .ok (.iconst 0, 1) := q_tb t_Mo_number0 21 rfl
theorem d_Mo_number_32 : decode prog_11_method_33_code 32 = .ok (.istore_n 3, 1) := q_tb t_Mo_number0 22 rfl
theorem d_Mo_number_33 : decode prog_11_method_33_code 33 = .ok (.iload_n 3, 1) := q_tb t_Mo_number0 23 rfl
theorem d_Mo_number_34 : decode prog_11_method_33_code 34 = .ok (.aload_n 0, 1) := q_tb t_Mo_number0 24 rfl
theorem d_Mo_number_35 : decode prog_11_method_33_code 35 = .ok (.getfield 105, 3) := q_tb t_Mo_number0 25 rfl
theorem d_Mo_number_38 : decode prog_11_method_33_code 38 = .ok (.if_icmp .ge 25, 3) := q_tb t_Mo_number0 26 rfl
theorem d_Mo_number_41 : decode prog_11_method_33_code 41 = .ok (.iload_n 2, 1) := q_tb t_Mo_number0 27 rfl
theorem d_Mo_number_42 : decode prog_11_method_33_code 42 = .ok (.aload_n 0, 1) := q_tb t_Mo_number0 28 rfl
theorem d_Mo_number_43 : decode prog_11_method_33_code 43 = .ok (.getfield 17, 3) := q_tb t_Mo_number0 29 rfl
theorem d_Mo_number_46 : decode prog_11_method_33_code 46 = .ok (.iload_n 3, 1) := q_tb t_Mo_number0 30 rfl
theorem d_Mo_number_47 : decode prog_11_method_33_code 47 = .ok (.iaload, 1) := q_tb t_Mo_number0 31 rfl
theorem d_Mo_number_48 : decode prog_11_method_33_code 48 = .ok (.imul, 1) := q_tb t_Mo_number0 32 rfl
theorem d_Mo_number_49 : decode prog_11_method_33_code 49 = .ok (.aload_n 1, 1) := q_tb t_Mo_number0 33 rfl
theorem d_Mo_number_50 : decode prog_11_method_33_code 50 = .ok (.bipush 6, 2) := q_tb t_Mo_number0 34 rfl
theorem d_Mo_number_52 : decode prog_11_method_33_code 52 = .ok (.iload_n 3, 1) := q_tb t_Mo_number0 35 rfl
theorem d_Mo_number_53 : decode prog_11_method_33_code 53 = .ok (.iadd, 1) := q_tb t_Mo_number0 36 rfl
theorem d_Mo_number_54 : decode prog_11_method_33_code 54 = .ok (.iaload, 1) := q_tb t_Mo_number0 37 rfl
theorem d_Mo_number_55 : decode prog_11_method_33_code 55 = .ok (.iadd, 1) := q_tb t_Mo_number0 38 rfl
theorem d_Mo_number_56 : decode prog_11_method_33_code 56 = .ok (.istore_n 2, 1) := q_tb t_Mo_number0 39 rfl
def T_Mo_number1 : List (Nat × Instr × Nat) := [(57, .iinc 3 1, 3), (60, .goto (-27), 3), (63, .iload_n 2, 1), (64, .ireturn, 1)]
set_option maxRecDepth 100000 in
theorem t_Mo_number1 : ∀ q ∈ T_Mo_number1, decode prog_11_method_33_code q.1 = .ok q.2 := by decide +kernel
theorem d_Mo_number_57 : decode prog_11_method_33_code 57 = .ok (.iinc 3 1, 3) := q_tb t_Mo_number1 0 rfl
theorem d_Mo_number_60 : decode prog_11_method_33_code 60 = .ok (.goto (-27), 3) := q_tb t_Mo_number1 1 rfl
theorem d_Mo_number_63 : decode prog_11_method_33_code 63 = .ok (.iload_n 2, 1) := q_tb t_Mo_number1 2 rfl
theorem d_Mo_number_64 : decode prog_11_method_33_code 64 = .ok (.ireturn, 1) := q_tb t_Mo_number1 3 rfl
def T_Mo_walk0 : List (Nat × Instr × Nat) := [(0, .iconst 0, 1), (1, .istore_n 2, 1), (2, .iload_n 2, 1), (3, .sipush 30000, 3), (6, .if_icmp .gt 16, 3), (9, .aload_n 0, 1), (10, .getfield 81, 3), (13, .iload_n 2, 1), (14, .iconst 0, 1), (15, .bastore, 1), (16, .iinc 2 1, 3), (19, .goto (-17), 3), (22, .aload_n 0, 1), (23, .getfield 81, 3), (26, .iload_n 1, 1), (27, .iconst 1, 1), (28, .bastore, 1), (29, .aload_n 0, 1), (30, .getfield 84, 3), (33, .iconst 0, 1), (34, .iload_n 1, 1), (35, .iastore, 1), (36, .iconst 1, 1), (37, .istore_n 2, 1), (38, .iconst 0, 1), (39, .istore_n 3, 1), (40, .iload_n 3, 1), (41, .iload_n 2, 1), (42, .if_icmp .ge 111, 3), (45, .aload_n 0, 1), (46, .aload_n 0, 1), (47, .getfield 84, 3), (50, .iload_n 3, 1), (51, .iaload, 1), (52, .invokevirtual 186, 3), (55, .iconst 0, 1), (56, .istore 4, 2), (58, .iload 4, 2), (60, .aload_n 0, 1), (61, .getfield 111, 3)]
set_option maxRecDepth 100000 in
theorem t_Mo_walk0 : ∀ q ∈ T_Mo_walk0, decode prog_11_method_35_code q.1 = .ok q.2 := by decide +kernel
theorem d_Mo_walk_0 : decode prog_11_method_35_code 0 = .ok (.iconst 0, 1) := q_tb t_Mo_walk0 0 rfl
theorem d_Mo_walk_1 : decode prog_11_method_35_code 1 = .ok (.istore_n 2, 1) := q_tb t_Mo_walk0 1 rfl
theorem d_Mo_walk_2 : decode prog_11_method_35_code 2 = .ok (.iload_n 2, 1) := q_tb t_Mo_walk0 2 rfl
theorem d_Mo_walk_3 : decode prog_11_method_35_code 3 = .ok (.sipush 30000, 3) := q_tb t_Mo_walk0 3 rfl
theorem d_Mo_walk_6 : decode prog_11_method_35_code 6 = .ok (.if_icmp .gt 16, 3) := q_tb t_Mo_walk0 4 rfl
theorem d_Mo_walk_9 : decode prog_11_method_35_code 9 = .ok (.aload_n 0, 1) := q_tb t_Mo_walk0 5 rfl
theorem d_Mo_walk_10 : decode prog_11_method_35_code 10 = .ok (.getfield 81, 3) := q_tb t_Mo_walk0 6 rfl
theorem d_Mo_walk_13 : decode prog_11_method_35_code 13 = .ok (.iload_n 2, 1) := q_tb t_Mo_walk0 7 rfl
theorem d_Mo_walk_14 : decode prog_11_method_35_code 14 = .ok (.iconst 0, 1) := q_tb t_Mo_walk0 8 rfl
theorem d_Mo_walk_15 : decode prog_11_method_35_code 15 = .ok (.bastore, 1) := q_tb t_Mo_walk0 9 rfl
theorem d_Mo_walk_16 : decode prog_11_method_35_code 16 = .ok (.iinc 2 1, 3) := q_tb t_Mo_walk0 10 rfl
theorem d_Mo_walk_19 : decode prog_11_method_35_code 19 = .ok (.goto (-17), 3) := q_tb t_Mo_walk0 11 rfl
theorem d_Mo_walk_22 : decode prog_11_method_35_code 22 = .ok (.aload_n 0, 1) := q_tb t_Mo_walk0 12 rfl
theorem d_Mo_walk_23 : decode prog_11_method_35_code 23 = .ok (.getfield 81, 3) := q_tb t_Mo_walk0 13 rfl
theorem d_Mo_walk_26 : decode prog_11_method_35_code 26 = .ok (.iload_n 1, 1) := q_tb t_Mo_walk0 14 rfl
theorem d_Mo_walk_27 : decode prog_11_method_35_code 27 = .ok (.iconst 1, 1) := q_tb t_Mo_walk0 15 rfl
theorem d_Mo_walk_28 : decode prog_11_method_35_code 28 = .ok (.bastore, 1) := q_tb t_Mo_walk0 16 rfl
theorem d_Mo_walk_29 : decode prog_11_method_35_code 29 = .ok (.aload_n 0, 1) := q_tb t_Mo_walk0 17 rfl
theorem d_Mo_walk_30 : decode prog_11_method_35_code 30 = .ok (.getfield 84, 3) := q_tb t_Mo_walk0 18 rfl
theorem d_Mo_walk_33 : decode prog_11_method_35_code 33 = .ok (.iconst 0, 1) := q_tb t_Mo_walk0 19 rfl
theorem d_Mo_walk_34 : decode prog_11_method_35_code 34 = .ok (.iload_n 1, 1) := q_tb t_Mo_walk0 20 rfl
theorem d_Mo_walk_35 : decode prog_11_method_35_code 35 = .ok (.iastore, 1) := q_tb t_Mo_walk0 21 rfl
theorem d_Mo_walk_36 : decode prog_11_method_35_code 36 = .ok (.iconst 1, 1) := q_tb t_Mo_walk0 22 rfl
theorem d_Mo_walk_37 : decode prog_11_method_35_code 37 = .ok (.istore_n 2, 1) := q_tb t_Mo_walk0 23 rfl
theorem d_Mo_walk_38 : decode prog_11_method_35_code 38 = .ok (.iconst 0, 1) := q_tb t_Mo_walk0 24 rfl
theorem d_Mo_walk_39 : decode prog_11_method_35_code 39 = .ok (.istore_n 3, 1) := q_tb t_Mo_walk0 25 rfl
theorem d_Mo_walk_40 : decode prog_11_method_35_code 40 = .ok (.iload_n 3, 1) := q_tb t_Mo_walk0 26 rfl
theorem d_Mo_walk_41 : decode prog_11_method_35_code 41 = .ok (.iload_n 2, 1) := q_tb t_Mo_walk0 27 rfl
theorem d_Mo_walk_42 : decode prog_11_method_35_code 42 = .ok (.if_icmp .ge 111, 3) := q_tb t_Mo_walk0 28 rfl
theorem d_Mo_walk_45 : decode prog_11_method_35_code 45 = .ok (.aload_n 0, 1) := q_tb t_Mo_walk0 29 rfl
theorem d_Mo_walk_46 : decode prog_11_method_35_code 46 = .ok (.aload_n 0, 1) := q_tb t_Mo_walk0 30 rfl
theorem d_Mo_walk_47 : decode prog_11_method_35_code 47 = .ok (.getfield 84, 3) := q_tb t_Mo_walk0 31 rfl
theorem d_Mo_walk_50 : decode prog_11_method_35_code 50 = .ok (.iload_n 3, 1) := q_tb t_Mo_walk0 32 rfl
theorem d_Mo_walk_51 : decode prog_11_method_35_code 51 = .ok (.iaload, 1) := q_tb t_Mo_walk0 33 rfl
theorem d_Mo_walk_52 : decode prog_11_method_35_code 52 = .ok (.invokevirtual 186, 3) := q_tb t_Mo_walk0 34 rfl
theorem d_Mo_walk_55 : decode prog_11_method_35_code 55 = .ok (.iconst 0, 1) := q_tb t_Mo_walk0 35 rfl
theorem d_Mo_walk_56 : decode prog_11_method_35_code 56 = .ok (.istore 4, 2) := q_tb t_Mo_walk0 36 rfl
theorem d_Mo_walk_58 : decode prog_11_method_35_code 58 = .ok (.iload 4, 2) := q_tb t_Mo_walk0 37 rfl
theorem d_Mo_walk_60 : decode prog_11_method_35_code 60 = .ok (.aload_n 0, 1) := q_tb t_Mo_walk0 38 rfl
theorem d_Mo_walk_61 : decode prog_11_method_35_code 61 = .ok (.getfield 111, 3) := q_tb t_Mo_walk0 39 rfl
def T_Mo_walk1 : List (Nat × Instr × Nat) := [(64, .if_icmp .ge 83, 3), (67, .iconst 1, 1), (68, .istore 5, 2), (70, .iload 5, 2), (72, .bipush 13, 2), (74, .if_icmp .ge 67, 3), (77, .aload_n 0, 1), (78, .iload 4, 2), (80, .iload 5, 2), (82, .invokevirtual 175, 3), (85, .ifCond .eq 50, 3), (88, .aload_n 0, 1), (89, .getfield 81, 3), (92, .aload_n 0, 1), (93, .aload_n 0, 1), (94, .getfield 78, 3), (97, .invokevirtual 190, 3), (100, .baload, 1), (101, .ifCond .ne 34, 3), (104, .aload_n 0, 1), (105, .getfield 81, 3), (108, .aload_n 0, 1), (109, .aload_n 0, 1), (110, .getfield 78, 3), (113, .invokevirtual 190, 3), (116, .iconst 1, 1), (117, .bastore, 1), (118, .aload_n 0, 1), (119, .getfield 84, 3), (122, .iload_n 2, 1), (123, .aload_n 0, 1), (124, .aload_n 0, 1), (125, .getfield 78, 3), (128, .invokevirtual 190, 3), (131, .iastore, 1), (132, .iinc 2 1, 3), (135, .iinc 5 1, 3), (138, .goto (-68), 3), (141, .iinc 4 1, 3), (144, .goto (-86), 3)]
set_option maxRecDepth 100000 in
theorem t_Mo_walk1 : ∀ q ∈ T_Mo_walk1, decode prog_11_method_35_code q.1 = .ok q.2 := by decide +kernel
theorem d_Mo_walk_64 : decode prog_11_method_35_code 64 = .ok (.if_icmp .ge 83, 3) := q_tb t_Mo_walk1 0 rfl
theorem d_Mo_walk_67 : decode prog_11_method_35_code 67 = .ok (.iconst 1, 1) := q_tb t_Mo_walk1 1 rfl
theorem d_Mo_walk_68 : decode prog_11_method_35_code 68 = .ok (.istore 5, 2) := q_tb t_Mo_walk1 2 rfl
theorem d_Mo_walk_70 : decode prog_11_method_35_code 70 = .ok (.iload 5, 2) := q_tb t_Mo_walk1 3 rfl
theorem d_Mo_walk_72 : decode prog_11_method_35_code 72 = .ok (.bipush 13, 2) := q_tb t_Mo_walk1 4 rfl
theorem d_Mo_walk_74 : decode prog_11_method_35_code 74 = .ok (.if_icmp .ge 67, 3) := q_tb t_Mo_walk1 5 rfl
theorem d_Mo_walk_77 : decode prog_11_method_35_code 77 = .ok (.aload_n 0, 1) := q_tb t_Mo_walk1 6 rfl
theorem d_Mo_walk_78 : decode prog_11_method_35_code 78 = .ok (.iload 4, 2) := q_tb t_Mo_walk1 7 rfl
theorem d_Mo_walk_80 : decode prog_11_method_35_code 80 = .ok (.iload 5, 2) := q_tb t_Mo_walk1 8 rfl
theorem d_Mo_walk_82 : decode prog_11_method_35_code 82 = .ok (.invokevirtual 175, 3) := q_tb t_Mo_walk1 9 rfl
theorem d_Mo_walk_85 : decode prog_11_method_35_code 85 = .ok (.ifCond .eq 50, 3) := q_tb t_Mo_walk1 10 rfl
theorem d_Mo_walk_88 : decode prog_11_method_35_code 88 = .ok (.aload_n 0, 1) := q_tb t_Mo_walk1 11 rfl
theorem d_Mo_walk_89 : decode prog_11_method_35_code 89 = .ok (.getfield 81, 3) := q_tb t_Mo_walk1 12 rfl
theorem d_Mo_walk_92 : decode prog_11_method_35_code 92 = .ok (.aload_n 0, 1) := q_tb t_Mo_walk1 13 rfl
theorem d_Mo_walk_93 : decode prog_11_method_35_code 93 = .ok (.aload_n 0, 1) := q_tb t_Mo_walk1 14 rfl
theorem d_Mo_walk_94 : decode prog_11_method_35_code 94 = .ok (.getfield 78, 3) := q_tb t_Mo_walk1 15 rfl
theorem d_Mo_walk_97 : decode prog_11_method_35_code 97 = .ok (.invokevirtual 190, 3) := q_tb t_Mo_walk1 16 rfl
theorem d_Mo_walk_100 : decode prog_11_method_35_code 100 = .ok (.baload, 1) := q_tb t_Mo_walk1 17 rfl
theorem d_Mo_walk_101 : decode prog_11_method_35_code 101 = .ok (.ifCond .ne 34, 3) := q_tb t_Mo_walk1 18 rfl
theorem d_Mo_walk_104 : decode prog_11_method_35_code 104 = .ok (.aload_n 0, 1) := q_tb t_Mo_walk1 19 rfl
theorem d_Mo_walk_105 : decode prog_11_method_35_code 105 = .ok (.getfield 81, 3) := q_tb t_Mo_walk1 20 rfl
theorem d_Mo_walk_108 : decode prog_11_method_35_code 108 = .ok (.aload_n 0, 1) := q_tb t_Mo_walk1 21 rfl
theorem d_Mo_walk_109 : decode prog_11_method_35_code 109 = .ok (.aload_n 0, 1) := q_tb t_Mo_walk1 22 rfl
theorem d_Mo_walk_110 : decode prog_11_method_35_code 110 = .ok (.getfield 78, 3) := q_tb t_Mo_walk1 23 rfl
theorem d_Mo_walk_113 : decode prog_11_method_35_code 113 = .ok (.invokevirtual 190, 3) := q_tb t_Mo_walk1 24 rfl
theorem d_Mo_walk_116 : decode prog_11_method_35_code 116 = .ok (.iconst 1, 1) := q_tb t_Mo_walk1 25 rfl
theorem d_Mo_walk_117 : decode prog_11_method_35_code 117 = .ok (.bastore, 1) := q_tb t_Mo_walk1 26 rfl
theorem d_Mo_walk_118 : decode prog_11_method_35_code 118 = .ok (.aload_n 0, 1) := q_tb t_Mo_walk1 27 rfl
theorem d_Mo_walk_119 : decode prog_11_method_35_code 119 = .ok (.getfield 84, 3) := q_tb t_Mo_walk1 28 rfl
theorem d_Mo_walk_122 : decode prog_11_method_35_code 122 = .ok (.iload_n 2, 1) := q_tb t_Mo_walk1 29 rfl
theorem d_Mo_walk_123 : decode prog_11_method_35_code 123 = .ok (.aload_n 0, 1) := q_tb t_Mo_walk1 30 rfl
theorem d_Mo_walk_124 : decode prog_11_method_35_code 124 = .ok (.aload_n 0, 1) := q_tb t_Mo_walk1 31 rfl
theorem d_Mo_walk_125 : decode prog_11_method_35_code 125 = .ok (.getfield 78, 3) := q_tb t_Mo_walk1 32 rfl
theorem d_Mo_walk_128 : decode prog_11_method_35_code 128 = .ok (.invokevirtual 190, 3) := q_tb t_Mo_walk1 33 rfl
theorem d_Mo_walk_131 : decode prog_11_method_35_code 131 = .ok (.iastore, 1) := q_tb t_Mo_walk1 34 rfl
theorem d_Mo_walk_132 : decode prog_11_method_35_code 132 = .ok (.iinc 2 1, 3) := q_tb t_Mo_walk1 35 rfl
theorem d_Mo_walk_135 : decode prog_11_method_35_code 135 = .ok (.iinc 5 1, 3) := q_tb t_Mo_walk1 36 rfl
theorem d_Mo_walk_138 : decode prog_11_method_35_code 138 = .ok (.goto (-68), 3) := q_tb t_Mo_walk1 37 rfl
theorem d_Mo_walk_141 : decode prog_11_method_35_code 141 = .ok (.iinc 4 1, 3) := q_tb t_Mo_walk1 38 rfl
theorem d_Mo_walk_144 : decode prog_11_method_35_code 144 = .ok (.goto (-86), 3) := q_tb t_Mo_walk1 39 rfl
def T_Mo_walk2 : List (Nat × Instr × Nat) := [(147, .iinc 3 1, 3), (150, .goto (-110), 3), (153, .return_, 1)]
set_option maxRecDepth 100000 in
theorem t_Mo_walk2 : ∀ q ∈ T_Mo_walk2, decode prog_11_method_35_code q.1 = .ok q.2 := by decide +kernel
theorem d_Mo_walk_147 : decode prog_11_method_35_code 147 = .ok (.iinc 3 1, 3) := q_tb t_Mo_walk2 0 rfl
theorem d_Mo_walk_150 : decode prog_11_method_35_code 150 = .ok (.goto (-110), 3) := q_tb t_Mo_walk2 1 rfl
theorem d_Mo_walk_153 : decode prog_11_method_35_code 153 = .ok (.return_, 1) := q_tb t_Mo_walk2 2 rfl
def T_Mo_apart0 : List (Nat × Instr × Nat) := [(0, .iload_n 1, 1), (1, .istore_n 2, 1), (2, .aload_n 0, 1), (3, .getfield 105, 3), (6, .iconst 1, 1), (7, .isub, 1), (8, .istore_n 3, 1), (9, .iload_n 3, 1), (10, .ifCond .lt 35, 3), (13, .aload_n 0, 1), (14, .getfield 75, 3), (17, .bipush 6, 2), (19, .iload_n 3, 1), (20, .iadd, 1), (21, .iload_n 2, 1), (22, .aload_n 0, 1), (23, .getfield 17, 3), (26, .iload_n 3, 1), (27, .iaload, 1), (28, .irem, 1), (29, .iastore, 1), (30, .iload_n 2, 1), (31, .aload_n 0, 1), (32, .getfield 17, 3), (35, .iload_n 3, 1), (36, .iaload, 1), (37, .idiv, 1), (38, .istore_n 2, 1), (39, .iinc 3 (-1), 3), (42, .goto (-33), 3), (45, .aload_n 0, 1), (46, .getfield 111, 3), (49, .iconst 1, 1), (50, .isub, 1), (51, .istore_n 3, 1), (52, .iload_n 3, 1), (53, .ifCond .lt 32, 3), (56, .aload_n 0, 1), (57, .getfield 75, 3), (60, .iload_n 3, 1)]
set_option maxRecDepth 100000 in
theorem t_Mo_apart0 : ∀ q ∈ T_Mo_apart0, decode prog_11_method_34_code q.1 = .ok q.2 := by decide +kernel
theorem d_Mo_apart_0 : decode prog_11_method_34_code 0 = .ok (.iload_n 1, 1) := q_tb t_Mo_apart0 0 rfl
theorem d_Mo_apart_1 : decode prog_11_method_34_code 1 = .ok (.istore_n 2, 1) := q_tb t_Mo_apart0 1 rfl
theorem d_Mo_apart_2 : decode prog_11_method_34_code 2 = .ok (.aload_n 0, 1) := q_tb t_Mo_apart0 2 rfl
theorem d_Mo_apart_3 : decode prog_11_method_34_code 3 = .ok (.getfield 105, 3) := q_tb t_Mo_apart0 3 rfl
theorem d_Mo_apart_6 : decode prog_11_method_34_code 6 = .ok (.iconst 1, 1) := q_tb t_Mo_apart0 4 rfl
theorem d_Mo_apart_7 : decode prog_11_method_34_code 7 = .ok (.isub, 1) := q_tb t_Mo_apart0 5 rfl
theorem d_Mo_apart_8 : decode prog_11_method_34_code 8 = .ok (.istore_n 3, 1) := q_tb t_Mo_apart0 6 rfl
theorem d_Mo_apart_9 : decode prog_11_method_34_code 9 = .ok (.iload_n 3, 1) := q_tb t_Mo_apart0 7 rfl
theorem d_Mo_apart_10 : decode prog_11_method_34_code 10 = .ok (.ifCond .lt 35, 3) := q_tb t_Mo_apart0 8 rfl
theorem d_Mo_apart_13 : decode prog_11_method_34_code 13 = .ok (.aload_n 0, 1) := q_tb t_Mo_apart0 9 rfl
theorem d_Mo_apart_14 : decode prog_11_method_34_code 14 = .ok (.getfield 75, 3) := q_tb t_Mo_apart0 10 rfl
theorem d_Mo_apart_17 : decode prog_11_method_34_code 17 = .ok (.bipush 6, 2) := q_tb t_Mo_apart0 11 rfl
theorem d_Mo_apart_19 : decode prog_11_method_34_code 19 = .ok (.iload_n 3, 1) := q_tb t_Mo_apart0 12 rfl
theorem d_Mo_apart_20 : decode prog_11_method_34_code 20 = .ok (.iadd, 1) := q_tb t_Mo_apart0 13 rfl
theorem d_Mo_apart_21 : decode prog_11_method_34_code 21 = .ok (.iload_n 2, 1) := q_tb t_Mo_apart0 14 rfl
theorem d_Mo_apart_22 : decode prog_11_method_34_code 22 = .ok (.aload_n 0, 1) := q_tb t_Mo_apart0 15 rfl
theorem d_Mo_apart_23 : decode prog_11_method_34_code 23 = .ok (.getfield 17, 3) := q_tb t_Mo_apart0 16 rfl
theorem d_Mo_apart_26 : decode prog_11_method_34_code 26 = .ok (.iload_n 3, 1) := q_tb t_Mo_apart0 17 rfl
theorem d_Mo_apart_27 : decode prog_11_method_34_code 27 = .ok (.iaload, 1) := q_tb t_Mo_apart0 18 rfl
theorem d_Mo_apart_28 : decode prog_11_method_34_code 28 = .ok (.irem, 1) := q_tb t_Mo_apart0 19 rfl
theorem d_Mo_apart_29 : decode prog_11_method_34_code 29 = .ok (.iastore, 1) := q_tb t_Mo_apart0 20 rfl
theorem d_Mo_apart_30 : decode prog_11_method_34_code 30 = .ok (.iload_n 2, 1) := q_tb t_Mo_apart0 21 rfl
theorem d_Mo_apart_31 : decode prog_11_method_34_code 31 = .ok (.aload_n 0, 1) := q_tb t_Mo_apart0 22 rfl
theorem d_Mo_apart_32 : decode prog_11_method_34_code 32 = .ok (.getfield 17, 3) := q_tb t_Mo_apart0 23 rfl
theorem d_Mo_apart_35 : decode prog_11_method_34_code 35 = .ok (.iload_n 3, 1) := q_tb t_Mo_apart0 24 rfl
theorem d_Mo_apart_36 : decode prog_11_method_34_code 36 = .ok (.iaload, 1) := q_tb t_Mo_apart0 25 rfl
theorem d_Mo_apart_37 : decode prog_11_method_34_code 37 = .ok (.idiv, 1) := q_tb t_Mo_apart0 26 rfl
theorem d_Mo_apart_38 : decode prog_11_method_34_code 38 = .ok (.istore_n 2, 1) := q_tb t_Mo_apart0 27 rfl
theorem d_Mo_apart_39 : decode prog_11_method_34_code 39 = .ok (.iinc 3 (-1), 3) := q_tb t_Mo_apart0 28 rfl
theorem d_Mo_apart_42 : decode prog_11_method_34_code 42 = .ok (.goto (-33), 3) := q_tb t_Mo_apart0 29 rfl
theorem d_Mo_apart_45 : decode prog_11_method_34_code 45 = .ok (.aload_n 0, 1) := q_tb t_Mo_apart0 30 rfl
theorem d_Mo_apart_46 : decode prog_11_method_34_code 46 = .ok (.getfield 111, 3) := q_tb t_Mo_apart0 31 rfl
theorem d_Mo_apart_49 : decode prog_11_method_34_code 49 = .ok (.iconst 1, 1) := q_tb t_Mo_apart0 32 rfl
theorem d_Mo_apart_50 : decode prog_11_method_34_code 50 = .ok (.isub, 1) := q_tb t_Mo_apart0 33 rfl
theorem d_Mo_apart_51 : decode prog_11_method_34_code 51 = .ok (.istore_n 3, 1) := q_tb t_Mo_apart0 34 rfl
theorem d_Mo_apart_52 : decode prog_11_method_34_code 52 = .ok (.iload_n 3, 1) := q_tb t_Mo_apart0 35 rfl
theorem d_Mo_apart_53 : decode prog_11_method_34_code 53 = .ok (.ifCond .lt 32, 3) := q_tb t_Mo_apart0 36 rfl
theorem d_Mo_apart_56 : decode prog_11_method_34_code 56 = .ok (.aload_n 0, 1) := q_tb t_Mo_apart0 37 rfl
theorem d_Mo_apart_57 : decode prog_11_method_34_code 57 = .ok (.getfield 75, 3) := q_tb t_Mo_apart0 38 rfl
theorem d_Mo_apart_60 : decode prog_11_method_34_code 60 = .ok (.iload_n 3, 1) := q_tb t_Mo_apart0 39 rfl
def T_Mo_apart1 : List (Nat × Instr × Nat) := [(61, .iload_n 2, 1), (62, .aload_n 0, 1), (63, .getfield 23, 3), (66, .iload_n 3, 1), (67, .iaload, 1), (68, .irem, 1), (69, .iastore, 1), (70, .iload_n 2, 1), (71, .aload_n 0, 1), (72, .getfield 23, 3), (75, .iload_n 3, 1), (76, .iaload, 1), (77, .idiv, 1), (78, .istore_n 2, 1), (79, .iinc 3 (-1), 3), (82, .goto (-30), 3), (85, .return_, 1)]
set_option maxRecDepth 100000 in
theorem t_Mo_apart1 : ∀ q ∈ T_Mo_apart1, decode prog_11_method_34_code q.1 = .ok q.2 := by decide +kernel
theorem d_Mo_apart_61 : decode prog_11_method_34_code 61 = .ok (.iload_n 2, 1) := q_tb t_Mo_apart1 0 rfl
theorem d_Mo_apart_62 : decode prog_11_method_34_code 62 = .ok (.aload_n 0, 1) := q_tb t_Mo_apart1 1 rfl
theorem d_Mo_apart_63 : decode prog_11_method_34_code 63 = .ok (.getfield 23, 3) := q_tb t_Mo_apart1 2 rfl
theorem d_Mo_apart_66 : decode prog_11_method_34_code 66 = .ok (.iload_n 3, 1) := q_tb t_Mo_apart1 3 rfl
theorem d_Mo_apart_67 : decode prog_11_method_34_code 67 = .ok (.iaload, 1) := q_tb t_Mo_apart1 4 rfl
theorem d_Mo_apart_68 : decode prog_11_method_34_code 68 = .ok (.irem, 1) := q_tb t_Mo_apart1 5 rfl
theorem d_Mo_apart_69 : decode prog_11_method_34_code 69 = .ok (.iastore, 1) := q_tb t_Mo_apart1 6 rfl
theorem d_Mo_apart_70 : decode prog_11_method_34_code 70 = .ok (.iload_n 2, 1) := q_tb t_Mo_apart1 7 rfl
theorem d_Mo_apart_71 : decode prog_11_method_34_code 71 = .ok (.aload_n 0, 1) := q_tb t_Mo_apart1 8 rfl
theorem d_Mo_apart_72 : decode prog_11_method_34_code 72 = .ok (.getfield 23, 3) := q_tb t_Mo_apart1 9 rfl
theorem d_Mo_apart_75 : decode prog_11_method_34_code 75 = .ok (.iload_n 3, 1) := q_tb t_Mo_apart1 10 rfl
theorem d_Mo_apart_76 : decode prog_11_method_34_code 76 = .ok (.iaload, 1) := q_tb t_Mo_apart1 11 rfl
theorem d_Mo_apart_77 : decode prog_11_method_34_code 77 = .ok (.idiv, 1) := q_tb t_Mo_apart1 12 rfl
theorem d_Mo_apart_78 : decode prog_11_method_34_code 78 = .ok (.istore_n 2, 1) := q_tb t_Mo_apart1 13 rfl
theorem d_Mo_apart_79 : decode prog_11_method_34_code 79 = .ok (.iinc 3 (-1), 3) := q_tb t_Mo_apart1 14 rfl
theorem d_Mo_apart_82 : decode prog_11_method_34_code 82 = .ok (.goto (-30), 3) := q_tb t_Mo_apart1 15 rfl
theorem d_Mo_apart_85 : decode prog_11_method_34_code 85 = .ok (.return_, 1) := q_tb t_Mo_apart1 16 rfl
def T_Mo_ended : List (Nat × Instr × Nat) := [(0, .aload_n 0, 1), (1, .invokevirtual 194, 3), (4, .ifCond .ge 6, 3), (7, .bipush (-2), 2), (9, .ireturn, 1), (10, .aload_n 0, 1), (11, .invokevirtual 206, 3), (14, .aload_n 0, 1), (15, .getfield 203, 3), (18, .ireturn, 1)]
set_option maxRecDepth 100000 in
theorem t_Mo_ended : ∀ q ∈ T_Mo_ended, decode prog_11_method_38_code q.1 = .ok q.2 := by decide +kernel
theorem d_Mo_ended_0 : decode prog_11_method_38_code 0 = .ok (.aload_n 0, 1) := q_tb t_Mo_ended 0 rfl
theorem d_Mo_ended_1 : decode prog_11_method_38_code 1 = .ok (.invokevirtual 194, 3) := q_tb t_Mo_ended 1 rfl
theorem d_Mo_ended_4 : decode prog_11_method_38_code 4 = .ok (.ifCond .ge 6, 3) := q_tb t_Mo_ended 2 rfl
theorem d_Mo_ended_7 : decode prog_11_method_38_code 7 = .ok (.bipush (-2), 2) := q_tb t_Mo_ended 3 rfl
theorem d_Mo_ended_9 : decode prog_11_method_38_code 9 = .ok (.ireturn, 1) := q_tb t_Mo_ended 4 rfl
theorem d_Mo_ended_10 : decode prog_11_method_38_code 10 = .ok (.aload_n 0, 1) := q_tb t_Mo_ended 5 rfl
theorem d_Mo_ended_11 : decode prog_11_method_38_code 11 = .ok (.invokevirtual 206, 3) := q_tb t_Mo_ended 6 rfl
theorem d_Mo_ended_14 : decode prog_11_method_38_code 14 = .ok (.aload_n 0, 1) := q_tb t_Mo_ended 7 rfl
theorem d_Mo_ended_15 : decode prog_11_method_38_code 15 = .ok (.getfield 203, 3) := q_tb t_Mo_ended 8 rfl
theorem d_Mo_ended_18 : decode prog_11_method_38_code 18 = .ok (.ireturn, 1) := q_tb t_Mo_ended 9 rfl
def T_Mo_place0 : List (Nat × Instr × Nat) := [(0, .aload_n 0, 1), (1, .aload_n 0, 1), (2, .invokevirtual 194, 3), (5, .ifCond .ge 7, 3), (8, .iconst 1, 1), (9, .goto 4, 3), (12, .iconst 0, 1), (13, .putfield 90, 3), (16, .aload_n 0, 1), (17, .getfield 90, 3), (20, .ifCond .le 5, 3), (23, .iconst 0, 1), (24, .ireturn, 1), (25, .aload_n 0, 1), (26, .invokevirtual 206, 3), (29, .aload_n 0, 1), (30, .iload_n 1, 1), (31, .ifCond .lt 19, 3), (34, .iload_n 1, 1), (35, .aload_n 0, 1), (36, .getfield 200, 3), (39, .if_icmp .ge 11, 3), (42, .aload_n 0, 1), (43, .iload_n 2, 1), (44, .invokevirtual 168, 3), (47, .ifCond .eq 7, 3), (50, .iconst 2, 1), (51, .goto 4, 3), (54, .iconst 0, 1), (55, .putfield 90, 3), (58, .aload_n 0, 1), (59, .getfield 90, 3), (62, .ifCond .le 5, 3), (65, .iconst 0, 1), (66, .ireturn, 1), (67, .aload_n 0, 1), (68, .aload_n 0, 1), (69, .getfield 87, 3), (72, .iload_n 1, 1), (73, .iaload, 1)]
set_option maxRecDepth 100000 in
theorem t_Mo_place0 : ∀ q ∈ T_Mo_place0, decode prog_11_method_39_code q.1 = .ok q.2 := by decide +kernel
theorem d_Mo_place_0 : decode prog_11_method_39_code 0 = .ok (.aload_n 0, 1) := q_tb t_Mo_place0 0 rfl
theorem d_Mo_place_1 : decode prog_11_method_39_code 1 = .ok (.aload_n 0, 1) := q_tb t_Mo_place0 1 rfl
theorem d_Mo_place_2 : decode prog_11_method_39_code 2 = .ok (.invokevirtual 194, 3) := q_tb t_Mo_place0 2 rfl
theorem d_Mo_place_5 : decode prog_11_method_39_code 5 = .ok (.ifCond .ge 7, 3) := q_tb t_Mo_place0 3 rfl
theorem d_Mo_place_8 : decode prog_11_method_39_code 8 = .ok (.iconst 1, 1) := q_tb t_Mo_place0 4 rfl
theorem d_Mo_place_9 : decode prog_11_method_39_code 9 = .ok (.goto 4, 3) := q_tb t_Mo_place0 5 rfl
theorem d_Mo_place_12 : decode prog_11_method_39_code 12 = .ok (.iconst 0, 1) := q_tb t_Mo_place0 6 rfl
theorem d_Mo_place_13 : decode prog_11_method_39_code 13 = .ok (.putfield 90, 3) := q_tb t_Mo_place0 7 rfl
theorem d_Mo_place_16 : decode prog_11_method_39_code 16 = .ok (.aload_n 0, 1) := q_tb t_Mo_place0 8 rfl
theorem d_Mo_place_17 : decode prog_11_method_39_code 17 = .ok (.getfield 90, 3) := q_tb t_Mo_place0 9 rfl
theorem d_Mo_place_20 : decode prog_11_method_39_code 20 = .ok (.ifCond .le 5, 3) := q_tb t_Mo_place0 10 rfl
theorem d_Mo_place_23 : decode prog_11_method_39_code 23 = .ok (.iconst 0, 1) := q_tb t_Mo_place0 11 rfl
theorem d_Mo_place_24 : decode prog_11_method_39_code 24 = .ok (.ireturn, 1) := q_tb t_Mo_place0 12 rfl
theorem d_Mo_place_25 : decode prog_11_method_39_code 25 = .ok (.aload_n 0, 1) := q_tb t_Mo_place0 13 rfl
theorem d_Mo_place_26 : decode prog_11_method_39_code 26 = .ok (.invokevirtual 206, 3) := q_tb t_Mo_place0 14 rfl
theorem d_Mo_place_29 : decode prog_11_method_39_code 29 = .ok (.aload_n 0, 1) := q_tb t_Mo_place0 15 rfl
theorem d_Mo_place_30 : decode prog_11_method_39_code 30 = .ok (.iload_n 1, 1) := q_tb t_Mo_place0 16 rfl
theorem d_Mo_place_31 : decode prog_11_method_39_code 31 = .ok (.ifCond .lt 19, 3) := q_tb t_Mo_place0 17 rfl
theorem d_Mo_place_34 : decode prog_11_method_39_code 34 = .ok (.iload_n 1, 1) := q_tb t_Mo_place0 18 rfl
theorem d_Mo_place_35 : decode prog_11_method_39_code 35 = .ok (.aload_n 0, 1) := q_tb t_Mo_place0 19 rfl
theorem d_Mo_place_36 : decode prog_11_method_39_code 36 = .ok (.getfield 200, 3) := q_tb t_Mo_place0 20 rfl
theorem d_Mo_place_39 : decode prog_11_method_39_code 39 = .ok (.if_icmp .ge 11, 3) := q_tb t_Mo_place0 21 rfl
theorem d_Mo_place_42 : decode prog_11_method_39_code 42 = .ok (.aload_n 0, 1) := q_tb t_Mo_place0 22 rfl
theorem d_Mo_place_43 : decode prog_11_method_39_code 43 = .ok (.iload_n 2, 1) := q_tb t_Mo_place0 23 rfl
theorem d_Mo_place_44 : decode prog_11_method_39_code 44 = .ok (.invokevirtual 168, 3) := q_tb t_Mo_place0 24 rfl
theorem d_Mo_place_47 : decode prog_11_method_39_code 47 = .ok (.ifCond .eq 7, 3) := q_tb t_Mo_place0 25 rfl
theorem d_Mo_place_50 : decode prog_11_method_39_code 50 = .ok (.iconst 2, 1) := q_tb t_Mo_place0 26 rfl
theorem d_Mo_place_51 : decode prog_11_method_39_code 51 = .ok (.goto 4, 3) := q_tb t_Mo_place0 27 rfl
theorem d_Mo_place_54 : decode prog_11_method_39_code 54 = .ok (.iconst 0, 1) := q_tb t_Mo_place0 28 rfl
theorem d_Mo_place_55 : decode prog_11_method_39_code 55 = .ok (.putfield 90, 3) := q_tb t_Mo_place0 29 rfl
theorem d_Mo_place_58 : decode prog_11_method_39_code 58 = .ok (.aload_n 0, 1) := q_tb t_Mo_place0 30 rfl
theorem d_Mo_place_59 : decode prog_11_method_39_code 59 = .ok (.getfield 90, 3) := q_tb t_Mo_place0 31 rfl
theorem d_Mo_place_62 : decode prog_11_method_39_code 62 = .ok (.ifCond .le 5, 3) := q_tb t_Mo_place0 32 rfl
theorem d_Mo_place_65 : decode prog_11_method_39_code 65 = .ok (.iconst 0, 1) := q_tb t_Mo_place0 33 rfl
theorem d_Mo_place_66 : decode prog_11_method_39_code 66 = .ok (.ireturn, 1) := q_tb t_Mo_place0 34 rfl
theorem d_Mo_place_67 : decode prog_11_method_39_code 67 = .ok (.aload_n 0, 1) := q_tb t_Mo_place0 35 rfl
theorem d_Mo_place_68 : decode prog_11_method_39_code 68 = .ok (.aload_n 0, 1) := q_tb t_Mo_place0 36 rfl
theorem d_Mo_place_69 : decode prog_11_method_39_code 69 = .ok (.getfield 87, 3) := q_tb t_Mo_place0 37 rfl
theorem d_Mo_place_72 : decode prog_11_method_39_code 72 = .ok (.iload_n 1, 1) := q_tb t_Mo_place0 38 rfl
theorem d_Mo_place_73 : decode prog_11_method_39_code 73 = .ok (.iaload, 1) := q_tb t_Mo_place0 39 rfl
def T_Mo_place1 : List (Nat × Instr × Nat) := [(74, .invokevirtual 186, 3), (77, .aload_n 0, 1), (78, .getfield 75, 3), (81, .iload_n 2, 1), (82, .iaload, 1), (83, .ireturn, 1)]
set_option maxRecDepth 100000 in
theorem t_Mo_place1 : ∀ q ∈ T_Mo_place1, decode prog_11_method_39_code q.1 = .ok q.2 := by decide +kernel
theorem d_Mo_place_74 : decode prog_11_method_39_code 74 = .ok (.invokevirtual 186, 3) := q_tb t_Mo_place1 0 rfl
theorem d_Mo_place_77 : decode prog_11_method_39_code 77 = .ok (.aload_n 0, 1) := q_tb t_Mo_place1 1 rfl
theorem d_Mo_place_78 : decode prog_11_method_39_code 78 = .ok (.getfield 75, 3) := q_tb t_Mo_place1 2 rfl
theorem d_Mo_place_81 : decode prog_11_method_39_code 81 = .ok (.iload_n 2, 1) := q_tb t_Mo_place1 3 rfl
theorem d_Mo_place_82 : decode prog_11_method_39_code 82 = .ok (.iaload, 1) := q_tb t_Mo_place1 4 rfl
theorem d_Mo_place_83 : decode prog_11_method_39_code 83 = .ok (.ireturn, 1) := q_tb t_Mo_place1 5 rfl
def T_Mo_value0 : List (Nat × Instr × Nat) := [(0, .aload_n 0, 1), (1, .aload_n 0, 1), (2, .invokevirtual 194, 3), (5, .ifCond .ge 7, 3), (8, .iconst 1, 1), (9, .goto 4, 3), (12, .iconst 0, 1), (13, .putfield 90, 3), (16, .aload_n 0, 1), (17, .getfield 90, 3), (20, .ifCond .le 5, 3), (23, .iconst 0, 1), (24, .ireturn, 1), (25, .aload_n 0, 1), (26, .invokevirtual 206, 3), (29, .aload_n 0, 1), (30, .iload_n 1, 1), (31, .ifCond .lt 23, 3), (34, .iload_n 1, 1), (35, .aload_n 0, 1), (36, .getfield 200, 3), (39, .if_icmp .ge 15, 3), (42, .iload_n 2, 1), (43, .ifCond .lt 11, 3), (46, .iload_n 2, 1), (47, .aload_n 0, 1), (48, .getfield 105, 3), (51, .if_icmp .lt 7, 3), (54, .iconst 2, 1), (55, .goto 4, 3), (58, .iconst 0, 1), (59, .putfield 90, 3), (62, .aload_n 0, 1), (63, .getfield 90, 3), (66, .ifCond .le 5, 3), (69, .iconst 0, 1), (70, .ireturn, 1), (71, .aload_n 0, 1), (72, .aload_n 0, 1), (73, .getfield 87, 3)]
set_option maxRecDepth 100000 in
theorem t_Mo_value0 : ∀ q ∈ T_Mo_value0, decode prog_11_method_40_code q.1 = .ok q.2 := by decide +kernel
theorem d_Mo_value_0 : decode prog_11_method_40_code 0 = .ok (.aload_n 0, 1) := q_tb t_Mo_value0 0 rfl
theorem d_Mo_value_1 : decode prog_11_method_40_code 1 = .ok (.aload_n 0, 1) := q_tb t_Mo_value0 1 rfl
theorem d_Mo_value_2 : decode prog_11_method_40_code 2 = .ok (.invokevirtual 194, 3) := q_tb t_Mo_value0 2 rfl
theorem d_Mo_value_5 : decode prog_11_method_40_code 5 = .ok (.ifCond .ge 7, 3) := q_tb t_Mo_value0 3 rfl
theorem d_Mo_value_8 : decode prog_11_method_40_code 8 = .ok (.iconst 1, 1) := q_tb t_Mo_value0 4 rfl
theorem d_Mo_value_9 : decode prog_11_method_40_code 9 = .ok (.goto 4, 3) := q_tb t_Mo_value0 5 rfl
theorem d_Mo_value_12 : decode prog_11_method_40_code 12 = .ok (.iconst 0, 1) := q_tb t_Mo_value0 6 rfl
theorem d_Mo_value_13 : decode prog_11_method_40_code 13 = .ok (.putfield 90, 3) := q_tb t_Mo_value0 7 rfl
theorem d_Mo_value_16 : decode prog_11_method_40_code 16 = .ok (.aload_n 0, 1) := q_tb t_Mo_value0 8 rfl
theorem d_Mo_value_17 : decode prog_11_method_40_code 17 = .ok (.getfield 90, 3) := q_tb t_Mo_value0 9 rfl
theorem d_Mo_value_20 : decode prog_11_method_40_code 20 = .ok (.ifCond .le 5, 3) := q_tb t_Mo_value0 10 rfl
theorem d_Mo_value_23 : decode prog_11_method_40_code 23 = .ok (.iconst 0, 1) := q_tb t_Mo_value0 11 rfl
theorem d_Mo_value_24 : decode prog_11_method_40_code 24 = .ok (.ireturn, 1) := q_tb t_Mo_value0 12 rfl
theorem d_Mo_value_25 : decode prog_11_method_40_code 25 = .ok (.aload_n 0, 1) := q_tb t_Mo_value0 13 rfl
theorem d_Mo_value_26 : decode prog_11_method_40_code 26 = .ok (.invokevirtual 206, 3) := q_tb t_Mo_value0 14 rfl
theorem d_Mo_value_29 : decode prog_11_method_40_code 29 = .ok (.aload_n 0, 1) := q_tb t_Mo_value0 15 rfl
theorem d_Mo_value_30 : decode prog_11_method_40_code 30 = .ok (.iload_n 1, 1) := q_tb t_Mo_value0 16 rfl
theorem d_Mo_value_31 : decode prog_11_method_40_code 31 = .ok (.ifCond .lt 23, 3) := q_tb t_Mo_value0 17 rfl
theorem d_Mo_value_34 : decode prog_11_method_40_code 34 = .ok (.iload_n 1, 1) := q_tb t_Mo_value0 18 rfl
theorem d_Mo_value_35 : decode prog_11_method_40_code 35 = .ok (.aload_n 0, 1) := q_tb t_Mo_value0 19 rfl
theorem d_Mo_value_36 : decode prog_11_method_40_code 36 = .ok (.getfield 200, 3) := q_tb t_Mo_value0 20 rfl
theorem d_Mo_value_39 : decode prog_11_method_40_code 39 = .ok (.if_icmp .ge 15, 3) := q_tb t_Mo_value0 21 rfl
theorem d_Mo_value_42 : decode prog_11_method_40_code 42 = .ok (.iload_n 2, 1) := q_tb t_Mo_value0 22 rfl
theorem d_Mo_value_43 : decode prog_11_method_40_code 43 = .ok (.ifCond .lt 11, 3) := q_tb t_Mo_value0 23 rfl
theorem d_Mo_value_46 : decode prog_11_method_40_code 46 = .ok (.iload_n 2, 1) := q_tb t_Mo_value0 24 rfl
theorem d_Mo_value_47 : decode prog_11_method_40_code 47 = .ok (.aload_n 0, 1) := q_tb t_Mo_value0 25 rfl
theorem d_Mo_value_48 : decode prog_11_method_40_code 48 = .ok (.getfield 105, 3) := q_tb t_Mo_value0 26 rfl
theorem d_Mo_value_51 : decode prog_11_method_40_code 51 = .ok (.if_icmp .lt 7, 3) := q_tb t_Mo_value0 27 rfl
theorem d_Mo_value_54 : decode prog_11_method_40_code 54 = .ok (.iconst 2, 1) := q_tb t_Mo_value0 28 rfl
theorem d_Mo_value_55 : decode prog_11_method_40_code 55 = .ok (.goto 4, 3) := q_tb t_Mo_value0 29 rfl
theorem d_Mo_value_58 : decode prog_11_method_40_code 58 = .ok (.iconst 0, 1) := q_tb t_Mo_value0 30 rfl
theorem d_Mo_value_59 : decode prog_11_method_40_code 59 = .ok (.putfield 90, 3) := q_tb t_Mo_value0 31 rfl
theorem d_Mo_value_62 : decode prog_11_method_40_code 62 = .ok (.aload_n 0, 1) := q_tb t_Mo_value0 32 rfl
theorem d_Mo_value_63 : decode prog_11_method_40_code 63 = .ok (.getfield 90, 3) := q_tb t_Mo_value0 33 rfl
theorem d_Mo_value_66 : decode prog_11_method_40_code 66 = .ok (.ifCond .le 5, 3) := q_tb t_Mo_value0 34 rfl
theorem d_Mo_value_69 : decode prog_11_method_40_code 69 = .ok (.iconst 0, 1) := q_tb t_Mo_value0 35 rfl
theorem d_Mo_value_70 : decode prog_11_method_40_code 70 = .ok (.ireturn, 1) := q_tb t_Mo_value0 36 rfl
theorem d_Mo_value_71 : decode prog_11_method_40_code 71 = .ok (.aload_n 0, 1) := q_tb t_Mo_value0 37 rfl
theorem d_Mo_value_72 : decode prog_11_method_40_code 72 = .ok (.aload_n 0, 1) := q_tb t_Mo_value0 38 rfl
theorem d_Mo_value_73 : decode prog_11_method_40_code 73 = .ok (.getfield 87, 3) := q_tb t_Mo_value0 39 rfl
def T_Mo_value1 : List (Nat × Instr × Nat) := [(76, .iload_n 1, 1), (77, .iaload, 1), (78, .invokevirtual 186, 3), (81, .aload_n 0, 1), (82, .getfield 75, 3), (85, .bipush 6, 2), (87, .iload_n 2, 1), (88, .iadd, 1), (89, .iaload, 1), (90, .ireturn, 1)]
set_option maxRecDepth 100000 in
theorem t_Mo_value1 : ∀ q ∈ T_Mo_value1, decode prog_11_method_40_code q.1 = .ok q.2 := by decide +kernel
theorem d_Mo_value_76 : decode prog_11_method_40_code 76 = .ok (.iload_n 1, 1) := q_tb t_Mo_value1 0 rfl
theorem d_Mo_value_77 : decode prog_11_method_40_code 77 = .ok (.iaload, 1) := q_tb t_Mo_value1 1 rfl
theorem d_Mo_value_78 : decode prog_11_method_40_code 78 = .ok (.invokevirtual 186, 3) := q_tb t_Mo_value1 2 rfl
theorem d_Mo_value_81 : decode prog_11_method_40_code 81 = .ok (.aload_n 0, 1) := q_tb t_Mo_value1 3 rfl
theorem d_Mo_value_82 : decode prog_11_method_40_code 82 = .ok (.getfield 75, 3) := q_tb t_Mo_value1 4 rfl
theorem d_Mo_value_85 : decode prog_11_method_40_code 85 = .ok (.bipush 6, 2) := q_tb t_Mo_value1 5 rfl
theorem d_Mo_value_87 : decode prog_11_method_40_code 87 = .ok (.iload_n 2, 1) := q_tb t_Mo_value1 6 rfl
theorem d_Mo_value_88 : decode prog_11_method_40_code 88 = .ok (.iadd, 1) := q_tb t_Mo_value1 7 rfl
theorem d_Mo_value_89 : decode prog_11_method_40_code 89 = .ok (.iaload, 1) := q_tb t_Mo_value1 8 rfl
theorem d_Mo_value_90 : decode prog_11_method_40_code 90 = .ok (.ireturn, 1) := q_tb t_Mo_value1 9 rfl
def T_Mo_falls0 : List (Nat × Instr × Nat) := [(0, .aload_n 0, 1), (1, .invokevirtual 194, 3), (4, .istore_n 1, 1), (5, .aload_n 0, 1), (6, .iload_n 1, 1), (7, .ifCond .ge 7, 3), (10, .iconst 1, 1), (11, .goto 4, 3), (14, .iconst 0, 1), (15, .putfield 90, 3), (18, .aload_n 0, 1), (19, .getfield 90, 3), (22, .ifCond .le 5, 3), (25, .iconst 0, 1), (26, .ireturn, 1), (27, .aload_n 0, 1), (28, .aload_n 0, 1), (29, .aload_n 0, 1), (30, .getfield 72, 3), (33, .invokevirtual 190, 3), (36, .invokevirtual 197, 3), (39, .iconst 0, 1), (40, .istore_n 2, 1), (41, .iload_n 2, 1), (42, .iload_n 1, 1), (43, .if_icmp .ge 32, 3), (46, .aload_n 0, 1), (47, .iload_n 2, 1), (48, .invokevirtual 186, 3), (51, .aload_n 0, 1), (52, .getfield 81, 3), (55, .iload_n 2, 1), (56, .baload, 1), (57, .ifCond .eq 12, 3), (60, .aload_n 0, 1), (61, .invokevirtual 182, 3), (64, .ifCond .ne 5, 3), (67, .iconst 1, 1), (68, .ireturn, 1), (69, .iinc 2 1, 3)]
set_option maxRecDepth 100000 in
theorem t_Mo_falls0 : ∀ q ∈ T_Mo_falls0, decode prog_11_method_41_code q.1 = .ok q.2 := by decide +kernel
theorem d_Mo_falls_0 : decode prog_11_method_41_code 0 = .ok (.aload_n 0, 1) := q_tb t_Mo_falls0 0 rfl
theorem d_Mo_falls_1 : decode prog_11_method_41_code 1 = .ok (.invokevirtual 194, 3) := q_tb t_Mo_falls0 1 rfl
theorem d_Mo_falls_4 : decode prog_11_method_41_code 4 = .ok (.istore_n 1, 1) := q_tb t_Mo_falls0 2 rfl
theorem d_Mo_falls_5 : decode prog_11_method_41_code 5 = .ok (.aload_n 0, 1) := q_tb t_Mo_falls0 3 rfl
theorem d_Mo_falls_6 : decode prog_11_method_41_code 6 = .ok (.iload_n 1, 1) := q_tb t_Mo_falls0 4 rfl
theorem d_Mo_falls_7 : decode prog_11_method_41_code 7 = .ok (.ifCond .ge 7, 3) := q_tb t_Mo_falls0 5 rfl
theorem d_Mo_falls_10 : decode prog_11_method_41_code 10 = .ok (.iconst 1, 1) := q_tb t_Mo_falls0 6 rfl
theorem d_Mo_falls_11 : decode prog_11_method_41_code 11 = .ok (.goto 4, 3) := q_tb t_Mo_falls0 7 rfl
theorem d_Mo_falls_14 : decode prog_11_method_41_code 14 = .ok (.iconst 0, 1) := q_tb t_Mo_falls0 8 rfl
theorem d_Mo_falls_15 : decode prog_11_method_41_code 15 = .ok (.putfield 90, 3) := q_tb t_Mo_falls0 9 rfl
theorem d_Mo_falls_18 : decode prog_11_method_41_code 18 = .ok (.aload_n 0, 1) := q_tb t_Mo_falls0 10 rfl
theorem d_Mo_falls_19 : decode prog_11_method_41_code 19 = .ok (.getfield 90, 3) := q_tb t_Mo_falls0 11 rfl
theorem d_Mo_falls_22 : decode prog_11_method_41_code 22 = .ok (.ifCond .le 5, 3) := q_tb t_Mo_falls0 12 rfl
theorem d_Mo_falls_25 : decode prog_11_method_41_code 25 = .ok (.iconst 0, 1) := q_tb t_Mo_falls0 13 rfl
theorem d_Mo_falls_26 : decode prog_11_method_41_code 26 = .ok (.ireturn, 1) := q_tb t_Mo_falls0 14 rfl
theorem d_Mo_falls_27 : decode prog_11_method_41_code 27 = .ok (.aload_n 0, 1) := q_tb t_Mo_falls0 15 rfl
theorem d_Mo_falls_28 : decode prog_11_method_41_code 28 = .ok (.aload_n 0, 1) := q_tb t_Mo_falls0 16 rfl
theorem d_Mo_falls_29 : decode prog_11_method_41_code 29 = .ok (.aload_n 0, 1) := q_tb t_Mo_falls0 17 rfl
theorem d_Mo_falls_30 : decode prog_11_method_41_code 30 = .ok (.getfield 72, 3) := q_tb t_Mo_falls0 18 rfl
theorem d_Mo_falls_33 : decode prog_11_method_41_code 33 = .ok (.invokevirtual 190, 3) := q_tb t_Mo_falls0 19 rfl
theorem d_Mo_falls_36 : decode prog_11_method_41_code 36 = .ok (.invokevirtual 197, 3) := q_tb t_Mo_falls0 20 rfl
theorem d_Mo_falls_39 : decode prog_11_method_41_code 39 = .ok (.iconst 0, 1) := q_tb t_Mo_falls0 21 rfl
theorem d_Mo_falls_40 : decode prog_11_method_41_code 40 = .ok (.istore_n 2, 1) := q_tb t_Mo_falls0 22 rfl
theorem d_Mo_falls_41 : decode prog_11_method_41_code 41 = .ok (.iload_n 2, 1) := q_tb t_Mo_falls0 23 rfl
theorem d_Mo_falls_42 : decode prog_11_method_41_code 42 = .ok (.iload_n 1, 1) := q_tb t_Mo_falls0 24 rfl
theorem d_Mo_falls_43 : decode prog_11_method_41_code 43 = .ok (.if_icmp .ge 32, 3) := q_tb t_Mo_falls0 25 rfl
theorem d_Mo_falls_46 : decode prog_11_method_41_code 46 = .ok (.aload_n 0, 1) := q_tb t_Mo_falls0 26 rfl
theorem d_Mo_falls_47 : decode prog_11_method_41_code 47 = .ok (.iload_n 2, 1) := q_tb t_Mo_falls0 27 rfl
theorem d_Mo_falls_48 : decode prog_11_method_41_code 48 = .ok (.invokevirtual 186, 3) := q_tb t_Mo_falls0 28 rfl
theorem d_Mo_falls_51 : decode prog_11_method_41_code 51 = .ok (.aload_n 0, 1) := q_tb t_Mo_falls0 29 rfl
theorem d_Mo_falls_52 : decode prog_11_method_41_code 52 = .ok (.getfield 81, 3) := q_tb t_Mo_falls0 30 rfl
theorem d_Mo_falls_55 : decode prog_11_method_41_code 55 = .ok (.iload_n 2, 1) := q_tb t_Mo_falls0 31 rfl
theorem d_Mo_falls_56 : decode prog_11_method_41_code 56 = .ok (.baload, 1) := q_tb t_Mo_falls0 32 rfl
theorem d_Mo_falls_57 : decode prog_11_method_41_code 57 = .ok (.ifCond .eq 12, 3) := q_tb t_Mo_falls0 33 rfl
theorem d_Mo_falls_60 : decode prog_11_method_41_code 60 = .ok (.aload_n 0, 1) := q_tb t_Mo_falls0 34 rfl
theorem d_Mo_falls_61 : decode prog_11_method_41_code 61 = .ok (.invokevirtual 182, 3) := q_tb t_Mo_falls0 35 rfl
theorem d_Mo_falls_64 : decode prog_11_method_41_code 64 = .ok (.ifCond .ne 5, 3) := q_tb t_Mo_falls0 36 rfl
theorem d_Mo_falls_67 : decode prog_11_method_41_code 67 = .ok (.iconst 1, 1) := q_tb t_Mo_falls0 37 rfl
theorem d_Mo_falls_68 : decode prog_11_method_41_code 68 = .ok (.ireturn, 1) := q_tb t_Mo_falls0 38 rfl
theorem d_Mo_falls_69 : decode prog_11_method_41_code 69 = .ok (.iinc 2 1, 3) := q_tb t_Mo_falls0 39 rfl
def T_Mo_falls1 : List (Nat × Instr × Nat) := [(72, .goto (-31), 3), (75, .iconst 0, 1), (76, .ireturn, 1)]
set_option maxRecDepth 100000 in
theorem t_Mo_falls1 : ∀ q ∈ T_Mo_falls1, decode prog_11_method_41_code q.1 = .ok q.2 := by decide +kernel
theorem d_Mo_falls_72 : decode prog_11_method_41_code 72 = .ok (.goto (-31), 3) := q_tb t_Mo_falls1 0 rfl
theorem d_Mo_falls_75 : decode prog_11_method_41_code 75 = .ok (.iconst 0, 1) := q_tb t_Mo_falls1 1 rfl
theorem d_Mo_falls_76 : decode prog_11_method_41_code 76 = .ok (.ireturn, 1) := q_tb t_Mo_falls1 2 rfl
end NAMES3
end
section
/-! names, 3f: decode tables, printed by gen/names2.py -/
section NAMES3
def T_La_feed : List (Nat × Instr × Nat) := [(0, .aload 4, 2), (2, .iconst 0, 1), (3, .aload_n 0, 1), (4, .iload_n 1, 1), (5, .lload_n 2, 1), (6, .invokevirtual 7, 3), (9, .i2l, 1), (10, .lastore, 1), (11, .goto 7, 3), (14, .astore 5, 2), (16, .iconst 1, 1), (17, .ireturn, 1), (18, .iconst 0, 1), (19, .ireturn, 1)]
set_option maxRecDepth 100000 in
theorem t_La_feed : ∀ q ∈ T_La_feed, decode method_3_code q.1 = .ok q.2 := by decide +kernel
theorem d_La_feed_0 : decode method_3_code 0 = .ok (.aload 4, 2) := q_tb t_La_feed 0 rfl
theorem d_La_feed_2 : decode method_3_code 2 = .ok (.iconst 0, 1) := q_tb t_La_feed 1 rfl
theorem d_La_feed_3 : decode method_3_code 3 = .ok (.aload_n 0, 1) := q_tb t_La_feed 2 rfl
theorem d_La_feed_4 : decode method_3_code 4 = .ok (.iload_n 1, 1) := q_tb t_La_feed 3 rfl
theorem d_La_feed_5 : decode method_3_code 5 = .ok (.lload_n 2, 1) := q_tb t_La_feed 4 rfl
theorem d_La_feed_6 : decode method_3_code 6 = .ok (.invokevirtual 7, 3) := q_tb t_La_feed 5 rfl
theorem d_La_feed_9 : decode method_3_code 9 = .ok (.i2l, 1) := q_tb t_La_feed 6 rfl
theorem d_La_feed_10 : decode method_3_code 10 = .ok (.lastore, 1) := q_tb t_La_feed 7 rfl
theorem d_La_feed_11 : decode method_3_code 11 = .ok (.goto 7, 3) := q_tb t_La_feed 8 rfl
theorem d_La_feed_14 : decode method_3_code 14 = .ok (.astore 5, 2) := q_tb t_La_feed 9 rfl
theorem d_La_feed_16 : decode method_3_code 16 = .ok (.iconst 1, 1) := q_tb t_La_feed 10 rfl
theorem d_La_feed_17 : decode method_3_code 17 = .ok (.ireturn, 1) := q_tb t_La_feed 11 rfl
theorem d_La_feed_18 : decode method_3_code 18 = .ok (.iconst 0, 1) := q_tb t_La_feed 12 rfl
theorem d_La_feed_19 : decode method_3_code 19 = .ok (.ireturn, 1) := q_tb t_La_feed 13 rfl
def T_La_variable : List (Nat × Instr × Nat) := [(0, .aload_n 3, 1), (1, .iconst 0, 1), (2, .aload_n 0, 1), (3, .iload_n 1, 1), (4, .iload_n 2, 1), (5, .invokevirtual 15, 3), (8, .i2l, 1), (9, .lastore, 1), (10, .goto 7, 3), (13, .astore 4, 2), (15, .iconst 1, 1), (16, .ireturn, 1), (17, .iconst 0, 1), (18, .ireturn, 1)]
set_option maxRecDepth 100000 in
theorem t_La_variable : ∀ q ∈ T_La_variable, decode method_4_code q.1 = .ok q.2 := by decide +kernel
theorem d_La_variable_0 : decode method_4_code 0 = .ok (.aload_n 3, 1) := q_tb t_La_variable 0 rfl
theorem d_La_variable_1 : decode method_4_code 1 = .ok (.iconst 0, 1) := q_tb t_La_variable 1 rfl
theorem d_La_variable_2 : decode method_4_code 2 = .ok (.aload_n 0, 1) := q_tb t_La_variable 2 rfl
theorem d_La_variable_3 : decode method_4_code 3 = .ok (.iload_n 1, 1) := q_tb t_La_variable 3 rfl
theorem d_La_variable_4 : decode method_4_code 4 = .ok (.iload_n 2, 1) := q_tb t_La_variable 4 rfl
theorem d_La_variable_5 : decode method_4_code 5 = .ok (.invokevirtual 15, 3) := q_tb t_La_variable 5 rfl
theorem d_La_variable_8 : decode method_4_code 8 = .ok (.i2l, 1) := q_tb t_La_variable 6 rfl
theorem d_La_variable_9 : decode method_4_code 9 = .ok (.lastore, 1) := q_tb t_La_variable 7 rfl
theorem d_La_variable_10 : decode method_4_code 10 = .ok (.goto 7, 3) := q_tb t_La_variable 8 rfl
theorem d_La_variable_13 : decode method_4_code 13 = .ok (.astore 4, 2) := q_tb t_La_variable 9 rfl
theorem d_La_variable_15 : decode method_4_code 15 = .ok (.iconst 1, 1) := q_tb t_La_variable 10 rfl
theorem d_La_variable_16 : decode method_4_code 16 = .ok (.ireturn, 1) := q_tb t_La_variable 11 rfl
theorem d_La_variable_17 : decode method_4_code 17 = .ok (.iconst 0, 1) := q_tb t_La_variable 12 rfl
theorem d_La_variable_18 : decode method_4_code 18 = .ok (.ireturn, 1) := q_tb t_La_variable 13 rfl
def T_La_told : List (Nat × Instr × Nat) := [(0, .aload_n 3, 1), (1, .iconst 0, 1), (2, .aload_n 0, 1), (3, .iload_n 1, 1), (4, .iload_n 2, 1), (5, .invokevirtual 19, 3), (8, .i2l, 1), (9, .lastore, 1), (10, .goto 11, 3), (13, .astore 4, 2), (15, .iconst 1, 1), (16, .ireturn, 1), (17, .astore 4, 2), (19, .iconst 2, 1), (20, .ireturn, 1), (21, .iconst 0, 1), (22, .ireturn, 1)]
set_option maxRecDepth 100000 in
theorem t_La_told : ∀ q ∈ T_La_told, decode method_5_code q.1 = .ok q.2 := by decide +kernel
theorem d_La_told_0 : decode method_5_code 0 = .ok (.aload_n 3, 1) := q_tb t_La_told 0 rfl
theorem d_La_told_1 : decode method_5_code 1 = .ok (.iconst 0, 1) := q_tb t_La_told 1 rfl
theorem d_La_told_2 : decode method_5_code 2 = .ok (.aload_n 0, 1) := q_tb t_La_told 2 rfl
theorem d_La_told_3 : decode method_5_code 3 = .ok (.iload_n 1, 1) := q_tb t_La_told 3 rfl
theorem d_La_told_4 : decode method_5_code 4 = .ok (.iload_n 2, 1) := q_tb t_La_told 4 rfl
theorem d_La_told_5 : decode method_5_code 5 = .ok (.invokevirtual 19, 3) := q_tb t_La_told 5 rfl
theorem d_La_told_8 : decode method_5_code 8 = .ok (.i2l, 1) := q_tb t_La_told 6 rfl
theorem d_La_told_9 : decode method_5_code 9 = .ok (.lastore, 1) := q_tb t_La_told 7 rfl
theorem d_La_told_10 : decode method_5_code 10 = .ok (.goto 11, 3) := q_tb t_La_told 8 rfl
theorem d_La_told_13 : decode method_5_code 13 = .ok (.astore 4, 2) := q_tb t_La_told 9 rfl
theorem d_La_told_15 : decode method_5_code 15 = .ok (.iconst 1, 1) := q_tb t_La_told 10 rfl
theorem d_La_told_16 : decode method_5_code 16 = .ok (.ireturn, 1) := q_tb t_La_told 11 rfl
theorem d_La_told_17 : decode method_5_code 17 = .ok (.astore 4, 2) := q_tb t_La_told 12 rfl
theorem d_La_told_19 : decode method_5_code 19 = .ok (.iconst 2, 1) := q_tb t_La_told 13 rfl
theorem d_La_told_20 : decode method_5_code 20 = .ok (.ireturn, 1) := q_tb t_La_told 14 rfl
theorem d_La_told_21 : decode method_5_code 21 = .ok (.iconst 0, 1) := q_tb t_La_told 15 rfl
theorem d_La_told_22 : decode method_5_code 22 = .ok (.ireturn, 1) := q_tb t_La_told 16 rfl
def T_La_place : List (Nat × Instr × Nat) := [(0, .aload_n 3, 1), (1, .iconst 0, 1), (2, .aload_n 0, 1), (3, .iload_n 1, 1), (4, .iload_n 2, 1), (5, .invokevirtual 24, 3), (8, .i2l, 1), (9, .lastore, 1), (10, .goto 11, 3), (13, .astore 4, 2), (15, .iconst 1, 1), (16, .ireturn, 1), (17, .astore 4, 2), (19, .iconst 2, 1), (20, .ireturn, 1), (21, .iconst 0, 1), (22, .ireturn, 1)]
set_option maxRecDepth 100000 in
theorem t_La_place : ∀ q ∈ T_La_place, decode method_6_code q.1 = .ok q.2 := by decide +kernel
theorem d_La_place_0 : decode method_6_code 0 = .ok (.aload_n 3, 1) := q_tb t_La_place 0 rfl
theorem d_La_place_1 : decode method_6_code 1 = .ok (.iconst 0, 1) := q_tb t_La_place 1 rfl
theorem d_La_place_2 : decode method_6_code 2 = .ok (.aload_n 0, 1) := q_tb t_La_place 2 rfl
theorem d_La_place_3 : decode method_6_code 3 = .ok (.iload_n 1, 1) := q_tb t_La_place 3 rfl
theorem d_La_place_4 : decode method_6_code 4 = .ok (.iload_n 2, 1) := q_tb t_La_place 4 rfl
theorem d_La_place_5 : decode method_6_code 5 = .ok (.invokevirtual 24, 3) := q_tb t_La_place 5 rfl
theorem d_La_place_8 : decode method_6_code 8 = .ok (.i2l, 1) := q_tb t_La_place 6 rfl
theorem d_La_place_9 : decode method_6_code 9 = .ok (.lastore, 1) := q_tb t_La_place 7 rfl
theorem d_La_place_10 : decode method_6_code 10 = .ok (.goto 11, 3) := q_tb t_La_place 8 rfl
theorem d_La_place_13 : decode method_6_code 13 = .ok (.astore 4, 2) := q_tb t_La_place 9 rfl
theorem d_La_place_15 : decode method_6_code 15 = .ok (.iconst 1, 1) := q_tb t_La_place 10 rfl
theorem d_La_place_16 : decode method_6_code 16 = .ok (.ireturn, 1) := q_tb t_La_place 11 rfl
theorem d_La_place_17 : decode method_6_code 17 = .ok (.astore 4, 2) := q_tb t_La_place 12 rfl
theorem d_La_place_19 : decode method_6_code 19 = .ok (.iconst 2, 1) := q_tb t_La_place 13 rfl
theorem d_La_place_20 : decode method_6_code 20 = .ok (.ireturn, 1) := q_tb t_La_place 14 rfl
theorem d_La_place_21 : decode method_6_code 21 = .ok (.iconst 0, 1) := q_tb t_La_place 15 rfl
theorem d_La_place_22 : decode method_6_code 22 = .ok (.ireturn, 1) := q_tb t_La_place 16 rfl
def T_La_value : List (Nat × Instr × Nat) := [(0, .aload_n 3, 1), (1, .iconst 0, 1), (2, .aload_n 0, 1), (3, .iload_n 1, 1), (4, .iload_n 2, 1), (5, .invokevirtual 29, 3), (8, .i2l, 1), (9, .lastore, 1), (10, .goto 11, 3), (13, .astore 4, 2), (15, .iconst 1, 1), (16, .ireturn, 1), (17, .astore 4, 2), (19, .iconst 2, 1), (20, .ireturn, 1), (21, .iconst 0, 1), (22, .ireturn, 1)]
set_option maxRecDepth 100000 in
theorem t_La_value : ∀ q ∈ T_La_value, decode method_7_code q.1 = .ok q.2 := by decide +kernel
theorem d_La_value_0 : decode method_7_code 0 = .ok (.aload_n 3, 1) := q_tb t_La_value 0 rfl
theorem d_La_value_1 : decode method_7_code 1 = .ok (.iconst 0, 1) := q_tb t_La_value 1 rfl
theorem d_La_value_2 : decode method_7_code 2 = .ok (.aload_n 0, 1) := q_tb t_La_value 2 rfl
theorem d_La_value_3 : decode method_7_code 3 = .ok (.iload_n 1, 1) := q_tb t_La_value 3 rfl
theorem d_La_value_4 : decode method_7_code 4 = .ok (.iload_n 2, 1) := q_tb t_La_value 4 rfl
theorem d_La_value_5 : decode method_7_code 5 = .ok (.invokevirtual 29, 3) := q_tb t_La_value 5 rfl
theorem d_La_value_8 : decode method_7_code 8 = .ok (.i2l, 1) := q_tb t_La_value 6 rfl
theorem d_La_value_9 : decode method_7_code 9 = .ok (.lastore, 1) := q_tb t_La_value 7 rfl
theorem d_La_value_10 : decode method_7_code 10 = .ok (.goto 11, 3) := q_tb t_La_value 8 rfl
theorem d_La_value_13 : decode method_7_code 13 = .ok (.astore 4, 2) := q_tb t_La_value 9 rfl
theorem d_La_value_15 : decode method_7_code 15 = .ok (.iconst 1, 1) := q_tb t_La_value 10 rfl
theorem d_La_value_16 : decode method_7_code 16 = .ok (.ireturn, 1) := q_tb t_La_value 11 rfl
theorem d_La_value_17 : decode method_7_code 17 = .ok (.astore 4, 2) := q_tb t_La_value 12 rfl
theorem d_La_value_19 : decode method_7_code 19 = .ok (.iconst 2, 1) := q_tb t_La_value 13 rfl
theorem d_La_value_20 : decode method_7_code 20 = .ok (.ireturn, 1) := q_tb t_La_value 14 rfl
theorem d_La_value_21 : decode method_7_code 21 = .ok (.iconst 0, 1) := q_tb t_La_value 15 rfl
theorem d_La_value_22 : decode method_7_code 22 = .ok (.ireturn, 1) := q_tb t_La_value 16 rfl
def T_La_move : List (Nat × Instr × Nat) := [(0, .aload_n 2, 1), (1, .iconst 0, 1), (2, .aload_n 0, 1), (3, .iload_n 1, 1), (4, .invokevirtual 32, 3), (7, .i2l, 1), (8, .lastore, 1), (9, .goto 6, 3), (12, .astore_n 3, 1), (13, .iconst 1, 1), (14, .ireturn, 1), (15, .iconst 0, 1), (16, .ireturn, 1)]
set_option maxRecDepth 100000 in
theorem t_La_move : ∀ q ∈ T_La_move, decode method_8_code q.1 = .ok q.2 := by decide +kernel
theorem d_La_move_0 : decode method_8_code 0 = .ok (.aload_n 2, 1) := q_tb t_La_move 0 rfl
theorem d_La_move_1 : decode method_8_code 1 = .ok (.iconst 0, 1) := q_tb t_La_move 1 rfl
theorem d_La_move_2 : decode method_8_code 2 = .ok (.aload_n 0, 1) := q_tb t_La_move 2 rfl
theorem d_La_move_3 : decode method_8_code 3 = .ok (.iload_n 1, 1) := q_tb t_La_move 3 rfl
theorem d_La_move_4 : decode method_8_code 4 = .ok (.invokevirtual 32, 3) := q_tb t_La_move 4 rfl
theorem d_La_move_7 : decode method_8_code 7 = .ok (.i2l, 1) := q_tb t_La_move 5 rfl
theorem d_La_move_8 : decode method_8_code 8 = .ok (.lastore, 1) := q_tb t_La_move 6 rfl
theorem d_La_move_9 : decode method_8_code 9 = .ok (.goto 6, 3) := q_tb t_La_move 7 rfl
theorem d_La_move_12 : decode method_8_code 12 = .ok (.astore_n 3, 1) := q_tb t_La_move 8 rfl
theorem d_La_move_13 : decode method_8_code 13 = .ok (.iconst 1, 1) := q_tb t_La_move 9 rfl
theorem d_La_move_14 : decode method_8_code 14 = .ok (.ireturn, 1) := q_tb t_La_move 10 rfl
theorem d_La_move_15 : decode method_8_code 15 = .ok (.iconst 0, 1) := q_tb t_La_move 11 rfl
theorem d_La_move_16 : decode method_8_code 16 = .ok (.ireturn, 1) := q_tb t_La_move 12 rfl
def T_La_now : List (Nat × Instr × Nat) := [(0, .aload_n 2, 1), (1, .iconst 0, 1), (2, .aload_n 0, 1), (3, .iload_n 1, 1), (4, .invokevirtual 36, 3), (7, .i2l, 1), (8, .lastore, 1), (9, .goto 6, 3), (12, .astore_n 3, 1), (13, .iconst 1, 1), (14, .ireturn, 1), (15, .iconst 0, 1), (16, .ireturn, 1)]
set_option maxRecDepth 100000 in
theorem t_La_now : ∀ q ∈ T_La_now, decode method_9_code q.1 = .ok q.2 := by decide +kernel
theorem d_La_now_0 : decode method_9_code 0 = .ok (.aload_n 2, 1) := q_tb t_La_now 0 rfl
theorem d_La_now_1 : decode method_9_code 1 = .ok (.iconst 0, 1) := q_tb t_La_now 1 rfl
theorem d_La_now_2 : decode method_9_code 2 = .ok (.aload_n 0, 1) := q_tb t_La_now 2 rfl
theorem d_La_now_3 : decode method_9_code 3 = .ok (.iload_n 1, 1) := q_tb t_La_now 3 rfl
theorem d_La_now_4 : decode method_9_code 4 = .ok (.invokevirtual 36, 3) := q_tb t_La_now 4 rfl
theorem d_La_now_7 : decode method_9_code 7 = .ok (.i2l, 1) := q_tb t_La_now 5 rfl
theorem d_La_now_8 : decode method_9_code 8 = .ok (.lastore, 1) := q_tb t_La_now 6 rfl
theorem d_La_now_9 : decode method_9_code 9 = .ok (.goto 6, 3) := q_tb t_La_now 7 rfl
theorem d_La_now_12 : decode method_9_code 12 = .ok (.astore_n 3, 1) := q_tb t_La_now 8 rfl
theorem d_La_now_13 : decode method_9_code 13 = .ok (.iconst 1, 1) := q_tb t_La_now 9 rfl
theorem d_La_now_14 : decode method_9_code 14 = .ok (.ireturn, 1) := q_tb t_La_now 10 rfl
theorem d_La_now_15 : decode method_9_code 15 = .ok (.iconst 0, 1) := q_tb t_La_now 11 rfl
theorem d_La_now_16 : decode method_9_code 16 = .ok (.ireturn, 1) := q_tb t_La_now 12 rfl
def T_La_has : List (Nat × Instr × Nat) := [(0, .aload_n 2, 1), (1, .iconst 0, 1), (2, .aload_n 0, 1), (3, .iload_n 1, 1), (4, .invokevirtual 39, 3), (7, .i2l, 1), (8, .lastore, 1), (9, .goto 6, 3), (12, .astore_n 3, 1), (13, .iconst 1, 1), (14, .ireturn, 1), (15, .iconst 0, 1), (16, .ireturn, 1)]
set_option maxRecDepth 100000 in
theorem t_La_has : ∀ q ∈ T_La_has, decode method_10_code q.1 = .ok q.2 := by decide +kernel
theorem d_La_has_0 : decode method_10_code 0 = .ok (.aload_n 2, 1) := q_tb t_La_has 0 rfl
theorem d_La_has_1 : decode method_10_code 1 = .ok (.iconst 0, 1) := q_tb t_La_has 1 rfl
theorem d_La_has_2 : decode method_10_code 2 = .ok (.aload_n 0, 1) := q_tb t_La_has 2 rfl
theorem d_La_has_3 : decode method_10_code 3 = .ok (.iload_n 1, 1) := q_tb t_La_has 3 rfl
theorem d_La_has_4 : decode method_10_code 4 = .ok (.invokevirtual 39, 3) := q_tb t_La_has 4 rfl
theorem d_La_has_7 : decode method_10_code 7 = .ok (.i2l, 1) := q_tb t_La_has 5 rfl
theorem d_La_has_8 : decode method_10_code 8 = .ok (.lastore, 1) := q_tb t_La_has 6 rfl
theorem d_La_has_9 : decode method_10_code 9 = .ok (.goto 6, 3) := q_tb t_La_has 7 rfl
theorem d_La_has_12 : decode method_10_code 12 = .ok (.astore_n 3, 1) := q_tb t_La_has 8 rfl
theorem d_La_has_13 : decode method_10_code 13 = .ok (.iconst 1, 1) := q_tb t_La_has 9 rfl
theorem d_La_has_14 : decode method_10_code 14 = .ok (.ireturn, 1) := q_tb t_La_has 10 rfl
theorem d_La_has_15 : decode method_10_code 15 = .ok (.iconst 0, 1) := q_tb t_La_has 11 rfl
theorem d_La_has_16 : decode method_10_code 16 = .ok (.ireturn, 1) := q_tb t_La_has 12 rfl
def T_La_falls : List (Nat × Instr × Nat) := [(0, .aload_n 1, 1), (1, .iconst 0, 1), (2, .aload_n 0, 1), (3, .invokevirtual 42, 3), (6, .ifCond .eq 7, 3), (9, .lconst 1, 1), (10, .goto 4, 3), (13, .lconst 0, 1), (14, .lastore, 1), (15, .goto 6, 3), (18, .astore_n 2, 1), (19, .iconst 1, 1), (20, .ireturn, 1), (21, .iconst 0, 1), (22, .ireturn, 1)]
set_option maxRecDepth 100000 in
theorem t_La_falls : ∀ q ∈ T_La_falls, decode method_11_code q.1 = .ok q.2 := by decide +kernel
theorem d_La_falls_0 : decode method_11_code 0 = .ok (.aload_n 1, 1) := q_tb t_La_falls 0 rfl
theorem d_La_falls_1 : decode method_11_code 1 = .ok (.iconst 0, 1) := q_tb t_La_falls 1 rfl
theorem d_La_falls_2 : decode method_11_code 2 = .ok (.aload_n 0, 1) := q_tb t_La_falls 2 rfl
theorem d_La_falls_3 : decode method_11_code 3 = .ok (.invokevirtual 42, 3) := q_tb t_La_falls 3 rfl
theorem d_La_falls_6 : decode method_11_code 6 = .ok (.ifCond .eq 7, 3) := q_tb t_La_falls 4 rfl
theorem d_La_falls_9 : decode method_11_code 9 = .ok (.lconst 1, 1) := q_tb t_La_falls 5 rfl
theorem d_La_falls_10 : decode method_11_code 10 = .ok (.goto 4, 3) := q_tb t_La_falls 6 rfl
theorem d_La_falls_13 : decode method_11_code 13 = .ok (.lconst 0, 1) := q_tb t_La_falls 7 rfl
theorem d_La_falls_14 : decode method_11_code 14 = .ok (.lastore, 1) := q_tb t_La_falls 8 rfl
theorem d_La_falls_15 : decode method_11_code 15 = .ok (.goto 6, 3) := q_tb t_La_falls 9 rfl
theorem d_La_falls_18 : decode method_11_code 18 = .ok (.astore_n 2, 1) := q_tb t_La_falls 10 rfl
theorem d_La_falls_19 : decode method_11_code 19 = .ok (.iconst 1, 1) := q_tb t_La_falls 11 rfl
theorem d_La_falls_20 : decode method_11_code 20 = .ok (.ireturn, 1) := q_tb t_La_falls 12 rfl
theorem d_La_falls_21 : decode method_11_code 21 = .ok (.iconst 0, 1) := q_tb t_La_falls 13 rfl
theorem d_La_falls_22 : decode method_11_code 22 = .ok (.ireturn, 1) := q_tb t_La_falls 14 rfl
def T_La_law0 : List (Nat × Instr × Nat) := [(0, .new 8, 3), (3, .dup, 1), (4, .invokespecial 46, 3), (7, .astore_n 1, 1), (8, .new 47, 3), (11, .dup, 1), (12, .invokespecial 49, 3), (15, .astore_n 2, 1), (16, .iconst 1, 1), (17, .newarray .long, 2), (19, .astore_n 3, 1), (20, .iconst 0, 1), (21, .istore 4, 2), (23, .iload 4, 2), (25, .aload_n 0, 1), (26, .arraylength, 1), (27, .iconst 4, 1), (28, .isub, 1), (29, .if_icmp .gt 826, 3), (32, .aload_n 0, 1), (33, .iload 4, 2), (35, .iaload, 1), (36, .bipush 31, 2), (38, .iand, 1), (39, .tableswitch 810 0 18 #[89, 189, 202, 270, 283, 296, 309, 322, 390, 403, 416, 429, 497, 565, 578, 634, 647, 703, 759], 89), (128, .aload_n 1, 1), (129, .aload_n 0, 1), (130, .iload 4, 2), (132, .iconst 1, 1), (133, .iadd, 1), (134, .iaload, 1), (135, .aload_n 0, 1), (136, .iload 4, 2), (138, .iconst 2, 1), (139, .iadd, 1), (140, .iaload, 1), (141, .i2l, 1), (142, .bipush 32, 2), (144, .lshl, 1), (145, .aload_n 0, 1)]
set_option maxRecDepth 100000 in
theorem t_La_law0 : ∀ q ∈ T_La_law0, decode code q.1 = .ok q.2 := by decide +kernel
theorem d_La_law_0 : decode code 0 = .ok (.new 8, 3) := q_tb t_La_law0 0 rfl
theorem d_La_law_3 : decode code 3 = .ok (.dup, 1) := q_tb t_La_law0 1 rfl
theorem d_La_law_4 : decode code 4 = .ok (.invokespecial 46, 3) := q_tb t_La_law0 2 rfl
theorem d_La_law_7 : decode code 7 = .ok (.astore_n 1, 1) := q_tb t_La_law0 3 rfl
theorem d_La_law_8 : decode code 8 = .ok (.new 47, 3) := q_tb t_La_law0 4 rfl
theorem d_La_law_11 : decode code 11 = .ok (.dup, 1) := q_tb t_La_law0 5 rfl
theorem d_La_law_12 : decode code 12 = .ok (.invokespecial 49, 3) := q_tb t_La_law0 6 rfl
theorem d_La_law_15 : decode code 15 = .ok (.astore_n 2, 1) := q_tb t_La_law0 7 rfl
theorem d_La_law_16 : decode code 16 = .ok (.iconst 1, 1) := q_tb t_La_law0 8 rfl
theorem d_La_law_17 : decode code 17 = .ok (.newarray .long, 2) := q_tb t_La_law0 9 rfl
theorem d_La_law_19 : decode code 19 = .ok (.astore_n 3, 1) := q_tb t_La_law0 10 rfl
theorem d_La_law_20 : decode code 20 = .ok (.iconst 0, 1) := q_tb t_La_law0 11 rfl
theorem d_La_law_21 : decode code 21 = .ok (.istore 4, 2) := q_tb t_La_law0 12 rfl
theorem d_La_law_23 : decode code 23 = .ok (.iload 4, 2) := q_tb t_La_law0 13 rfl
theorem d_La_law_25 : decode code 25 = .ok (.aload_n 0, 1) := q_tb t_La_law0 14 rfl
theorem d_La_law_26 : decode code 26 = .ok (.arraylength, 1) := q_tb t_La_law0 15 rfl
theorem d_La_law_27 : decode code 27 = .ok (.iconst 4, 1) := q_tb t_La_law0 16 rfl
theorem d_La_law_28 : decode code 28 = .ok (.isub, 1) := q_tb t_La_law0 17 rfl
theorem d_La_law_29 : decode code 29 = .ok (.if_icmp .gt 826, 3) := q_tb t_La_law0 18 rfl
theorem d_La_law_32 : decode code 32 = .ok (.aload_n 0, 1) := q_tb t_La_law0 19 rfl
theorem d_La_law_33 : decode code 33 = .ok (.iload 4, 2) := q_tb t_La_law0 20 rfl
theorem d_La_law_35 : decode code 35 = .ok (.iaload, 1) := q_tb t_La_law0 21 rfl
theorem d_La_law_36 : decode code 36 = .ok (.bipush 31, 2) := q_tb t_La_law0 22 rfl
theorem d_La_law_38 : decode code 38 = .ok (.iand, 1) := q_tb t_La_law0 23 rfl
theorem d_La_law_39 : decode code 39 = .ok (.tableswitch 810 0 18 #[89, 189, 202, 270, 283, 296, 309, 322, 390, 403, 416, 429, 497, 565, 578, 634, 647, 703, 759], 89) := q_tb t_La_law0 24 rfl
theorem d_La_law_128 : decode code 128 = .ok (.aload_n 1, 1) := q_tb t_La_law0 25 rfl
theorem d_La_law_129 : decode code 129 = .ok (.aload_n 0, 1) := q_tb t_La_law0 26 rfl
theorem d_La_law_130 : decode code 130 = .ok (.iload 4, 2) := q_tb t_La_law0 27 rfl
theorem d_La_law_132 : decode code 132 = .ok (.iconst 1, 1) := q_tb t_La_law0 28 rfl
theorem d_La_law_133 : decode code 133 = .ok (.iadd, 1) := q_tb t_La_law0 29 rfl
theorem d_La_law_134 : decode code 134 = .ok (.iaload, 1) := q_tb t_La_law0 30 rfl
theorem d_La_law_135 : decode code 135 = .ok (.aload_n 0, 1) := q_tb t_La_law0 31 rfl
theorem d_La_law_136 : decode code 136 = .ok (.iload 4, 2) := q_tb t_La_law0 32 rfl
theorem d_La_law_138 : decode code 138 = .ok (.iconst 2, 1) := q_tb t_La_law0 33 rfl
theorem d_La_law_139 : decode code 139 = .ok (.iadd, 1) := q_tb t_La_law0 34 rfl
theorem d_La_law_140 : decode code 140 = .ok (.iaload, 1) := q_tb t_La_law0 35 rfl
theorem d_La_law_141 : decode code 141 = .ok (.i2l, 1) := q_tb t_La_law0 36 rfl
theorem d_La_law_142 : decode code 142 = .ok (.bipush 32, 2) := q_tb t_La_law0 37 rfl
theorem d_La_law_144 : decode code 144 = .ok (.lshl, 1) := q_tb t_La_law0 38 rfl
theorem d_La_law_145 : decode code 145 = .ok (.aload_n 0, 1) := q_tb t_La_law0 39 rfl
def T_La_law1 : List (Nat × Instr × Nat) := [(146, .iload 4, 2), (148, .iconst 3, 1), (149, .iadd, 1), (150, .iaload, 1), (151, .i2l, 1), (152, .ldc2_w 50, 3), (155, .land, 1), (156, .lor, 1), (157, .aload_n 3, 1), (158, .invokestatic 52, 3), (161, .istore 5, 2), (163, .aload_n 2, 1), (164, .aload_n 0, 1), (165, .iload 4, 2), (167, .iconst 1, 1), (168, .iadd, 1), (169, .iaload, 1), (170, .aload_n 0, 1), (171, .iload 4, 2), (173, .iconst 2, 1), (174, .iadd, 1), (175, .iaload, 1), (176, .i2l, 1), (177, .bipush 32, 2), (179, .lshl, 1), (180, .aload_n 0, 1), (181, .iload 4, 2), (183, .iconst 3, 1), (184, .iadd, 1), (185, .iaload, 1), (186, .i2l, 1), (187, .ldc2_w 50, 3), (190, .land, 1), (191, .lor, 1), (192, .invokevirtual 57, 3), (195, .istore 6, 2), (197, .aload_n 2, 1), (198, .invokevirtual 58, 3), (201, .iload 5, 2), (203, .if_icmp .eq 5, 3)]
set_option maxRecDepth 100000 in
theorem t_La_law1 : ∀ q ∈ T_La_law1, decode code q.1 = .ok q.2 := by decide +kernel
theorem d_La_law_146 : decode code 146 = .ok (.iload 4, 2) := q_tb t_La_law1 0 rfl
theorem d_La_law_148 : decode code 148 = .ok (.iconst 3, 1) := q_tb t_La_law1 1 rfl
theorem d_La_law_149 : decode code 149 = .ok (.iadd, 1) := q_tb t_La_law1 2 rfl
theorem d_La_law_150 : decode code 150 = .ok (.iaload, 1) := q_tb t_La_law1 3 rfl
theorem d_La_law_151 : decode code 151 = .ok (.i2l, 1) := q_tb t_La_law1 4 rfl
theorem d_La_law_152 : decode code 152 = .ok (.ldc2_w 50, 3) := q_tb t_La_law1 5 rfl
theorem d_La_law_155 : decode code 155 = .ok (.land, 1) := q_tb t_La_law1 6 rfl
theorem d_La_law_156 : decode code 156 = .ok (.lor, 1) := q_tb t_La_law1 7 rfl
theorem d_La_law_157 : decode code 157 = .ok (.aload_n 3, 1) := q_tb t_La_law1 8 rfl
theorem d_La_law_158 : decode code 158 = .ok (.invokestatic 52, 3) := q_tb t_La_law1 9 rfl
theorem d_La_law_161 : decode code 161 = .ok (.istore 5, 2) := q_tb t_La_law1 10 rfl
theorem d_La_law_163 : decode code 163 = .ok (.aload_n 2, 1) := q_tb t_La_law1 11 rfl
theorem d_La_law_164 : decode code 164 = .ok (.aload_n 0, 1) := q_tb t_La_law1 12 rfl
theorem d_La_law_165 : decode code 165 = .ok (.iload 4, 2) := q_tb t_La_law1 13 rfl
theorem d_La_law_167 : decode code 167 = .ok (.iconst 1, 1) := q_tb t_La_law1 14 rfl
theorem d_La_law_168 : decode code 168 = .ok (.iadd, 1) := q_tb t_La_law1 15 rfl
theorem d_La_law_169 : decode code 169 = .ok (.iaload, 1) := q_tb t_La_law1 16 rfl
theorem d_La_law_170 : decode code 170 = .ok (.aload_n 0, 1) := q_tb t_La_law1 17 rfl
theorem d_La_law_171 : decode code 171 = .ok (.iload 4, 2) := q_tb t_La_law1 18 rfl
theorem d_La_law_173 : decode code 173 = .ok (.iconst 2, 1) := q_tb t_La_law1 19 rfl
theorem d_La_law_174 : decode code 174 = .ok (.iadd, 1) := q_tb t_La_law1 20 rfl
theorem d_La_law_175 : decode code 175 = .ok (.iaload, 1) := q_tb t_La_law1 21 rfl
theorem d_La_law_176 : decode code 176 = .ok (.i2l, 1) := q_tb t_La_law1 22 rfl
theorem d_La_law_177 : decode code 177 = .ok (.bipush 32, 2) := q_tb t_La_law1 23 rfl
theorem d_La_law_179 : decode code 179 = .ok (.lshl, 1) := q_tb t_La_law1 24 rfl
theorem d_La_law_180 : decode code 180 = .ok (.aload_n 0, 1) := q_tb t_La_law1 25 rfl
theorem d_La_law_181 : decode code 181 = .ok (.iload 4, 2) := q_tb t_La_law1 26 rfl
theorem d_La_law_183 : decode code 183 = .ok (.iconst 3, 1) := q_tb t_La_law1 27 rfl
theorem d_La_law_184 : decode code 184 = .ok (.iadd, 1) := q_tb t_La_law1 28 rfl
theorem d_La_law_185 : decode code 185 = .ok (.iaload, 1) := q_tb t_La_law1 29 rfl
theorem d_La_law_186 : decode code 186 = .ok (.i2l, 1) := q_tb t_La_law1 30 rfl
theorem d_La_law_187 : decode code 187 = .ok (.ldc2_w 50, 3) := q_tb t_La_law1 31 rfl
theorem d_La_law_190 : decode code 190 = .ok (.land, 1) := q_tb t_La_law1 32 rfl
theorem d_La_law_191 : decode code 191 = .ok (.lor, 1) := q_tb t_La_law1 33 rfl
theorem d_La_law_192 : decode code 192 = .ok (.invokevirtual 57, 3) := q_tb t_La_law1 34 rfl
theorem d_La_law_195 : decode code 195 = .ok (.istore 6, 2) := q_tb t_La_law1 35 rfl
theorem d_La_law_197 : decode code 197 = .ok (.aload_n 2, 1) := q_tb t_La_law1 36 rfl
theorem d_La_law_198 : decode code 198 = .ok (.invokevirtual 58, 3) := q_tb t_La_law1 37 rfl
theorem d_La_law_201 : decode code 201 = .ok (.iload 5, 2) := q_tb t_La_law1 38 rfl
theorem d_La_law_203 : decode code 203 = .ok (.if_icmp .eq 5, 3) := q_tb t_La_law1 39 rfl
def T_La_law2 : List (Nat × Instr × Nat) := [(206, .iconst 0, 1), (207, .ireturn, 1), (208, .iload 5, 2), (210, .ifCond .ne 15, 3), (213, .aload_n 3, 1), (214, .iconst 0, 1), (215, .laload, 1), (216, .iload 6, 2), (218, .i2l, 1), (219, .lcmp, 1), (220, .ifCond .eq 5, 3), (223, .iconst 0, 1), (224, .ireturn, 1), (225, .goto 624, 3), (228, .aload_n 1, 1), (229, .invokevirtual 62, 3), (232, .aload_n 2, 1), (233, .invokevirtual 65, 3), (236, .if_icmp .eq 613, 3), (239, .iconst 0, 1), (240, .ireturn, 1), (241, .aload_n 1, 1), (242, .aload_n 0, 1), (243, .iload 4, 2), (245, .iconst 1, 1), (246, .iadd, 1), (247, .iaload, 1), (248, .aload_n 0, 1), (249, .iload 4, 2), (251, .iconst 2, 1), (252, .iadd, 1), (253, .iaload, 1), (254, .aload_n 3, 1), (255, .invokestatic 66, 3), (258, .istore 5, 2), (260, .aload_n 2, 1), (261, .aload_n 0, 1), (262, .iload 4, 2), (264, .iconst 1, 1), (265, .iadd, 1)]
set_option maxRecDepth 100000 in
theorem t_La_law2 : ∀ q ∈ T_La_law2, decode code q.1 = .ok q.2 := by decide +kernel
theorem d_La_law_206 : decode code 206 = .ok (.iconst 0, 1) := q_tb t_La_law2 0 rfl
theorem d_La_law_207 : decode code 207 = .ok (.ireturn, 1) := q_tb t_La_law2 1 rfl
theorem d_La_law_208 : decode code 208 = .ok (.iload 5, 2) := q_tb t_La_law2 2 rfl
theorem d_La_law_210 : decode code 210 = .ok (.ifCond .ne 15, 3) := q_tb t_La_law2 3 rfl
theorem d_La_law_213 : decode code 213 = .ok (.aload_n 3, 1) := q_tb t_La_law2 4 rfl
theorem d_La_law_214 : decode code 214 = .ok (.iconst 0, 1) := q_tb t_La_law2 5 rfl
theorem d_La_law_215 : decode code 215 = .ok (.laload, 1) := q_tb t_La_law2 6 rfl
theorem d_La_law_216 : decode code 216 = .ok (.iload 6, 2) := q_tb t_La_law2 7 rfl
theorem d_La_law_218 : decode code 218 = .ok (.i2l, 1) := q_tb t_La_law2 8 rfl
theorem d_La_law_219 : decode code 219 = .ok (.lcmp, 1) := q_tb t_La_law2 9 rfl
theorem d_La_law_220 : decode code 220 = .ok (.ifCond .eq 5, 3) := q_tb t_La_law2 10 rfl
theorem d_La_law_223 : decode code 223 = .ok (.iconst 0, 1) := q_tb t_La_law2 11 rfl
theorem d_La_law_224 : decode code 224 = .ok (.ireturn, 1) := q_tb t_La_law2 12 rfl
theorem d_La_law_225 : decode code 225 = .ok (.goto 624, 3) := q_tb t_La_law2 13 rfl
theorem d_La_law_228 : decode code 228 = .ok (.aload_n 1, 1) := q_tb t_La_law2 14 rfl
theorem d_La_law_229 : decode code 229 = .ok (.invokevirtual 62, 3) := q_tb t_La_law2 15 rfl
theorem d_La_law_232 : decode code 232 = .ok (.aload_n 2, 1) := q_tb t_La_law2 16 rfl
theorem d_La_law_233 : decode code 233 = .ok (.invokevirtual 65, 3) := q_tb t_La_law2 17 rfl
theorem d_La_law_236 : decode code 236 = .ok (.if_icmp .eq 613, 3) := q_tb t_La_law2 18 rfl
theorem d_La_law_239 : decode code 239 = .ok (.iconst 0, 1) := q_tb t_La_law2 19 rfl
theorem d_La_law_240 : decode code 240 = .ok (.ireturn, 1) := q_tb t_La_law2 20 rfl
theorem d_La_law_241 : decode code 241 = .ok (.aload_n 1, 1) := q_tb t_La_law2 21 rfl
theorem d_La_law_242 : decode code 242 = .ok (.aload_n 0, 1) := q_tb t_La_law2 22 rfl
theorem d_La_law_243 : decode code 243 = .ok (.iload 4, 2) := q_tb t_La_law2 23 rfl
theorem d_La_law_245 : decode code 245 = .ok (.iconst 1, 1) := q_tb t_La_law2 24 rfl
theorem d_La_law_246 : decode code 246 = .ok (.iadd, 1) := q_tb t_La_law2 25 rfl
theorem d_La_law_247 : decode code 247 = .ok (.iaload, 1) := q_tb t_La_law2 26 rfl
theorem d_La_law_248 : decode code 248 = .ok (.aload_n 0, 1) := q_tb t_La_law2 27 rfl
theorem d_La_law_249 : decode code 249 = .ok (.iload 4, 2) := q_tb t_La_law2 28 rfl
theorem d_La_law_251 : decode code 251 = .ok (.iconst 2, 1) := q_tb t_La_law2 29 rfl
theorem d_La_law_252 : decode code 252 = .ok (.iadd, 1) := q_tb t_La_law2 30 rfl
theorem d_La_law_253 : decode code 253 = .ok (.iaload, 1) := q_tb t_La_law2 31 rfl
theorem d_La_law_254 : decode code 254 = .ok (.aload_n 3, 1) := q_tb t_La_law2 32 rfl
theorem d_La_law_255 : decode code 255 = .ok (.invokestatic 66, 3) := q_tb t_La_law2 33 rfl
theorem d_La_law_258 : decode code 258 = .ok (.istore 5, 2) := q_tb t_La_law2 34 rfl
theorem d_La_law_260 : decode code 260 = .ok (.aload_n 2, 1) := q_tb t_La_law2 35 rfl
theorem d_La_law_261 : decode code 261 = .ok (.aload_n 0, 1) := q_tb t_La_law2 36 rfl
theorem d_La_law_262 : decode code 262 = .ok (.iload 4, 2) := q_tb t_La_law2 37 rfl
theorem d_La_law_264 : decode code 264 = .ok (.iconst 1, 1) := q_tb t_La_law2 38 rfl
theorem d_La_law_265 : decode code 265 = .ok (.iadd, 1) := q_tb t_La_law2 39 rfl
def T_La_law3 : List (Nat × Instr × Nat) := [(266, .iaload, 1), (267, .aload_n 0, 1), (268, .iload 4, 2), (270, .iconst 2, 1), (271, .iadd, 1), (272, .iaload, 1), (273, .invokevirtual 69, 3), (276, .istore 6, 2), (278, .aload_n 2, 1), (279, .invokevirtual 58, 3), (282, .iload 5, 2), (284, .if_icmp .eq 5, 3), (287, .iconst 0, 1), (288, .ireturn, 1), (289, .iload 5, 2), (291, .ifCond .ne 15, 3), (294, .aload_n 3, 1), (295, .iconst 0, 1), (296, .laload, 1), (297, .iload 6, 2), (299, .i2l, 1), (300, .lcmp, 1), (301, .ifCond .eq 5, 3), (304, .iconst 0, 1), (305, .ireturn, 1), (306, .goto 543, 3), (309, .aload_n 1, 1), (310, .invokevirtual 70, 3), (313, .aload_n 2, 1), (314, .invokevirtual 73, 3), (317, .if_icmp .eq 532, 3), (320, .iconst 0, 1), (321, .ireturn, 1), (322, .aload_n 1, 1), (323, .invokevirtual 74, 3), (326, .aload_n 2, 1), (327, .invokevirtual 77, 3), (330, .if_icmp .eq 519, 3), (333, .iconst 0, 1), (334, .ireturn, 1)]
set_option maxRecDepth 100000 in
theorem t_La_law3 : ∀ q ∈ T_La_law3, decode code q.1 = .ok q.2 := by decide +kernel
theorem d_La_law_266 : decode code 266 = .ok (.iaload, 1) := q_tb t_La_law3 0 rfl
theorem d_La_law_267 : decode code 267 = .ok (.aload_n 0, 1) := q_tb t_La_law3 1 rfl
theorem d_La_law_268 : decode code 268 = .ok (.iload 4, 2) := q_tb t_La_law3 2 rfl
theorem d_La_law_270 : decode code 270 = .ok (.iconst 2, 1) := q_tb t_La_law3 3 rfl
theorem d_La_law_271 : decode code 271 = .ok (.iadd, 1) := q_tb t_La_law3 4 rfl
theorem d_La_law_272 : decode code 272 = .ok (.iaload, 1) := q_tb t_La_law3 5 rfl
theorem d_La_law_273 : decode code 273 = .ok (.invokevirtual 69, 3) := q_tb t_La_law3 6 rfl
theorem d_La_law_276 : decode code 276 = .ok (.istore 6, 2) := q_tb t_La_law3 7 rfl
theorem d_La_law_278 : decode code 278 = .ok (.aload_n 2, 1) := q_tb t_La_law3 8 rfl
theorem d_La_law_279 : decode code 279 = .ok (.invokevirtual 58, 3) := q_tb t_La_law3 9 rfl
theorem d_La_law_282 : decode code 282 = .ok (.iload 5, 2) := q_tb t_La_law3 10 rfl
theorem d_La_law_284 : decode code 284 = .ok (.if_icmp .eq 5, 3) := q_tb t_La_law3 11 rfl
theorem d_La_law_287 : decode code 287 = .ok (.iconst 0, 1) := q_tb t_La_law3 12 rfl
theorem d_La_law_288 : decode code 288 = .ok (.ireturn, 1) := q_tb t_La_law3 13 rfl
theorem d_La_law_289 : decode code 289 = .ok (.iload 5, 2) := q_tb t_La_law3 14 rfl
theorem d_La_law_291 : decode code 291 = .ok (.ifCond .ne 15, 3) := q_tb t_La_law3 15 rfl
theorem d_La_law_294 : decode code 294 = .ok (.aload_n 3, 1) := q_tb t_La_law3 16 rfl
theorem d_La_law_295 : decode code 295 = .ok (.iconst 0, 1) := q_tb t_La_law3 17 rfl
theorem d_La_law_296 : decode code 296 = .ok (.laload, 1) := q_tb t_La_law3 18 rfl
theorem d_La_law_297 : decode code 297 = .ok (.iload 6, 2) := q_tb t_La_law3 19 rfl
theorem d_La_law_299 : decode code 299 = .ok (.i2l, 1) := q_tb t_La_law3 20 rfl
theorem d_La_law_300 : decode code 300 = .ok (.lcmp, 1) := q_tb t_La_law3 21 rfl
theorem d_La_law_301 : decode code 301 = .ok (.ifCond .eq 5, 3) := q_tb t_La_law3 22 rfl
theorem d_La_law_304 : decode code 304 = .ok (.iconst 0, 1) := q_tb t_La_law3 23 rfl
theorem d_La_law_305 : decode code 305 = .ok (.ireturn, 1) := q_tb t_La_law3 24 rfl
theorem d_La_law_306 : decode code 306 = .ok (.goto 543, 3) := q_tb t_La_law3 25 rfl
theorem d_La_law_309 : decode code 309 = .ok (.aload_n 1, 1) := q_tb t_La_law3 26 rfl
theorem d_La_law_310 : decode code 310 = .ok (.invokevirtual 70, 3) := q_tb t_La_law3 27 rfl
theorem d_La_law_313 : decode code 313 = .ok (.aload_n 2, 1) := q_tb t_La_law3 28 rfl
theorem d_La_law_314 : decode code 314 = .ok (.invokevirtual 73, 3) := q_tb t_La_law3 29 rfl
theorem d_La_law_317 : decode code 317 = .ok (.if_icmp .eq 532, 3) := q_tb t_La_law3 30 rfl
theorem d_La_law_320 : decode code 320 = .ok (.iconst 0, 1) := q_tb t_La_law3 31 rfl
theorem d_La_law_321 : decode code 321 = .ok (.ireturn, 1) := q_tb t_La_law3 32 rfl
theorem d_La_law_322 : decode code 322 = .ok (.aload_n 1, 1) := q_tb t_La_law3 33 rfl
theorem d_La_law_323 : decode code 323 = .ok (.invokevirtual 74, 3) := q_tb t_La_law3 34 rfl
theorem d_La_law_326 : decode code 326 = .ok (.aload_n 2, 1) := q_tb t_La_law3 35 rfl
theorem d_La_law_327 : decode code 327 = .ok (.invokevirtual 77, 3) := q_tb t_La_law3 36 rfl
theorem d_La_law_330 : decode code 330 = .ok (.if_icmp .eq 519, 3) := q_tb t_La_law3 37 rfl
theorem d_La_law_333 : decode code 333 = .ok (.iconst 0, 1) := q_tb t_La_law3 38 rfl
theorem d_La_law_334 : decode code 334 = .ok (.ireturn, 1) := q_tb t_La_law3 39 rfl
def T_La_law4 : List (Nat × Instr × Nat) := [(335, .aload_n 1, 1), (336, .invokevirtual 78, 3), (339, .aload_n 2, 1), (340, .invokevirtual 81, 3), (343, .if_icmp .eq 506, 3), (346, .iconst 0, 1), (347, .ireturn, 1), (348, .aload_n 1, 1), (349, .invokevirtual 82, 3), (352, .aload_n 2, 1), (353, .invokevirtual 85, 3), (356, .if_icmp .eq 493, 3), (359, .iconst 0, 1), (360, .ireturn, 1), (361, .aload_n 1, 1), (362, .aload_n 0, 1), (363, .iload 4, 2), (365, .iconst 1, 1), (366, .iadd, 1), (367, .iaload, 1), (368, .aload_n 0, 1), (369, .iload 4, 2), (371, .iconst 2, 1), (372, .iadd, 1), (373, .iaload, 1), (374, .aload_n 3, 1), (375, .invokestatic 86, 3), (378, .istore 5, 2), (380, .aload_n 2, 1), (381, .aload_n 0, 1), (382, .iload 4, 2), (384, .iconst 1, 1), (385, .iadd, 1), (386, .iaload, 1), (387, .aload_n 0, 1), (388, .iload 4, 2), (390, .iconst 2, 1), (391, .iadd, 1), (392, .iaload, 1), (393, .invokevirtual 88, 3)]
set_option maxRecDepth 100000 in
theorem t_La_law4 : ∀ q ∈ T_La_law4, decode code q.1 = .ok q.2 := by decide +kernel
theorem d_La_law_335 : decode code 335 = .ok (.aload_n 1, 1) := q_tb t_La_law4 0 rfl
theorem d_La_law_336 : decode code 336 = .ok (.invokevirtual 78, 3) := q_tb t_La_law4 1 rfl
theorem d_La_law_339 : decode code 339 = .ok (.aload_n 2, 1) := q_tb t_La_law4 2 rfl
theorem d_La_law_340 : decode code 340 = .ok (.invokevirtual 81, 3) := q_tb t_La_law4 3 rfl
theorem d_La_law_343 : decode code 343 = .ok (.if_icmp .eq 506, 3) := q_tb t_La_law4 4 rfl
theorem d_La_law_346 : decode code 346 = .ok (.iconst 0, 1) := q_tb t_La_law4 5 rfl
theorem d_La_law_347 : decode code 347 = .ok (.ireturn, 1) := q_tb t_La_law4 6 rfl
theorem d_La_law_348 : decode code 348 = .ok (.aload_n 1, 1) := q_tb t_La_law4 7 rfl
theorem d_La_law_349 : decode code 349 = .ok (.invokevirtual 82, 3) := q_tb t_La_law4 8 rfl
theorem d_La_law_352 : decode code 352 = .ok (.aload_n 2, 1) := q_tb t_La_law4 9 rfl
theorem d_La_law_353 : decode code 353 = .ok (.invokevirtual 85, 3) := q_tb t_La_law4 10 rfl
theorem d_La_law_356 : decode code 356 = .ok (.if_icmp .eq 493, 3) := q_tb t_La_law4 11 rfl
theorem d_La_law_359 : decode code 359 = .ok (.iconst 0, 1) := q_tb t_La_law4 12 rfl
theorem d_La_law_360 : decode code 360 = .ok (.ireturn, 1) := q_tb t_La_law4 13 rfl
theorem d_La_law_361 : decode code 361 = .ok (.aload_n 1, 1) := q_tb t_La_law4 14 rfl
theorem d_La_law_362 : decode code 362 = .ok (.aload_n 0, 1) := q_tb t_La_law4 15 rfl
theorem d_La_law_363 : decode code 363 = .ok (.iload 4, 2) := q_tb t_La_law4 16 rfl
theorem d_La_law_365 : decode code 365 = .ok (.iconst 1, 1) := q_tb t_La_law4 17 rfl
theorem d_La_law_366 : decode code 366 = .ok (.iadd, 1) := q_tb t_La_law4 18 rfl
theorem d_La_law_367 : decode code 367 = .ok (.iaload, 1) := q_tb t_La_law4 19 rfl
theorem d_La_law_368 : decode code 368 = .ok (.aload_n 0, 1) := q_tb t_La_law4 20 rfl
theorem d_La_law_369 : decode code 369 = .ok (.iload 4, 2) := q_tb t_La_law4 21 rfl
theorem d_La_law_371 : decode code 371 = .ok (.iconst 2, 1) := q_tb t_La_law4 22 rfl
theorem d_La_law_372 : decode code 372 = .ok (.iadd, 1) := q_tb t_La_law4 23 rfl
theorem d_La_law_373 : decode code 373 = .ok (.iaload, 1) := q_tb t_La_law4 24 rfl
theorem d_La_law_374 : decode code 374 = .ok (.aload_n 3, 1) := q_tb t_La_law4 25 rfl
theorem d_La_law_375 : decode code 375 = .ok (.invokestatic 86, 3) := q_tb t_La_law4 26 rfl
theorem d_La_law_378 : decode code 378 = .ok (.istore 5, 2) := q_tb t_La_law4 27 rfl
theorem d_La_law_380 : decode code 380 = .ok (.aload_n 2, 1) := q_tb t_La_law4 28 rfl
theorem d_La_law_381 : decode code 381 = .ok (.aload_n 0, 1) := q_tb t_La_law4 29 rfl
theorem d_La_law_382 : decode code 382 = .ok (.iload 4, 2) := q_tb t_La_law4 30 rfl
theorem d_La_law_384 : decode code 384 = .ok (.iconst 1, 1) := q_tb t_La_law4 31 rfl
theorem d_La_law_385 : decode code 385 = .ok (.iadd, 1) := q_tb t_La_law4 32 rfl
theorem d_La_law_386 : decode code 386 = .ok (.iaload, 1) := q_tb t_La_law4 33 rfl
theorem d_La_law_387 : decode code 387 = .ok (.aload_n 0, 1) := q_tb t_La_law4 34 rfl
theorem d_La_law_388 : decode code 388 = .ok (.iload 4, 2) := q_tb t_La_law4 35 rfl
theorem d_La_law_390 : decode code 390 = .ok (.iconst 2, 1) := q_tb t_La_law4 36 rfl
theorem d_La_law_391 : decode code 391 = .ok (.iadd, 1) := q_tb t_La_law4 37 rfl
theorem d_La_law_392 : decode code 392 = .ok (.iaload, 1) := q_tb t_La_law4 38 rfl
theorem d_La_law_393 : decode code 393 = .ok (.invokevirtual 88, 3) := q_tb t_La_law4 39 rfl
def T_La_law5 : List (Nat × Instr × Nat) := [(396, .istore 6, 2), (398, .aload_n 2, 1), (399, .invokevirtual 58, 3), (402, .iload 5, 2), (404, .if_icmp .eq 5, 3), (407, .iconst 0, 1), (408, .ireturn, 1), (409, .iload 5, 2), (411, .ifCond .ne 15, 3), (414, .aload_n 3, 1), (415, .iconst 0, 1), (416, .laload, 1), (417, .iload 6, 2), (419, .i2l, 1), (420, .lcmp, 1), (421, .ifCond .eq 5, 3), (424, .iconst 0, 1), (425, .ireturn, 1), (426, .goto 423, 3), (429, .aload_n 1, 1), (430, .invokevirtual 89, 3), (433, .aload_n 2, 1), (434, .invokevirtual 92, 3), (437, .if_icmp .eq 412, 3), (440, .iconst 0, 1), (441, .ireturn, 1), (442, .aload_n 1, 1), (443, .invokevirtual 93, 3), (446, .aload_n 2, 1), (447, .invokevirtual 96, 3), (450, .if_icmp .eq 399, 3), (453, .iconst 0, 1), (454, .ireturn, 1), (455, .aload_n 1, 1), (456, .invokevirtual 97, 3), (459, .aload_n 2, 1), (460, .invokevirtual 100, 3), (463, .if_icmp .eq 386, 3), (466, .iconst 0, 1), (467, .ireturn, 1)]
set_option maxRecDepth 100000 in
theorem t_La_law5 : ∀ q ∈ T_La_law5, decode code q.1 = .ok q.2 := by decide +kernel
theorem d_La_law_396 : decode code 396 = .ok (.istore 6, 2) := q_tb t_La_law5 0 rfl
theorem d_La_law_398 : decode code 398 = .ok (.aload_n 2, 1) := q_tb t_La_law5 1 rfl
theorem d_La_law_399 : decode code 399 = .ok (.invokevirtual 58, 3) := q_tb t_La_law5 2 rfl
theorem d_La_law_402 : decode code 402 = .ok (.iload 5, 2) := q_tb t_La_law5 3 rfl
theorem d_La_law_404 : decode code 404 = .ok (.if_icmp .eq 5, 3) := q_tb t_La_law5 4 rfl
theorem d_La_law_407 : decode code 407 = .ok (.iconst 0, 1) := q_tb t_La_law5 5 rfl
theorem d_La_law_408 : decode code 408 = .ok (.ireturn, 1) := q_tb t_La_law5 6 rfl
theorem d_La_law_409 : decode code 409 = .ok (.iload 5, 2) := q_tb t_La_law5 7 rfl
theorem d_La_law_411 : decode code 411 = .ok (.ifCond .ne 15, 3) := q_tb t_La_law5 8 rfl
theorem d_La_law_414 : decode code 414 = .ok (.aload_n 3, 1) := q_tb t_La_law5 9 rfl
theorem d_La_law_415 : decode code 415 = .ok (.iconst 0, 1) := q_tb t_La_law5 10 rfl
theorem d_La_law_416 : decode code 416 = .ok (.laload, 1) := q_tb t_La_law5 11 rfl
theorem d_La_law_417 : decode code 417 = .ok (.iload 6, 2) := q_tb t_La_law5 12 rfl
theorem d_La_law_419 : decode code 419 = .ok (.i2l, 1) := q_tb t_La_law5 13 rfl
theorem d_La_law_420 : decode code 420 = .ok (.lcmp, 1) := q_tb t_La_law5 14 rfl
theorem d_La_law_421 : decode code 421 = .ok (.ifCond .eq 5, 3) := q_tb t_La_law5 15 rfl
theorem d_La_law_424 : decode code 424 = .ok (.iconst 0, 1) := q_tb t_La_law5 16 rfl
theorem d_La_law_425 : decode code 425 = .ok (.ireturn, 1) := q_tb t_La_law5 17 rfl
theorem d_La_law_426 : decode code 426 = .ok (.goto 423, 3) := q_tb t_La_law5 18 rfl
theorem d_La_law_429 : decode code 429 = .ok (.aload_n 1, 1) := q_tb t_La_law5 19 rfl
theorem d_La_law_430 : decode code 430 = .ok (.invokevirtual 89, 3) := q_tb t_La_law5 20 rfl
theorem d_La_law_433 : decode code 433 = .ok (.aload_n 2, 1) := q_tb t_La_law5 21 rfl
theorem d_La_law_434 : decode code 434 = .ok (.invokevirtual 92, 3) := q_tb t_La_law5 22 rfl
theorem d_La_law_437 : decode code 437 = .ok (.if_icmp .eq 412, 3) := q_tb t_La_law5 23 rfl
theorem d_La_law_440 : decode code 440 = .ok (.iconst 0, 1) := q_tb t_La_law5 24 rfl
theorem d_La_law_441 : decode code 441 = .ok (.ireturn, 1) := q_tb t_La_law5 25 rfl
theorem d_La_law_442 : decode code 442 = .ok (.aload_n 1, 1) := q_tb t_La_law5 26 rfl
theorem d_La_law_443 : decode code 443 = .ok (.invokevirtual 93, 3) := q_tb t_La_law5 27 rfl
theorem d_La_law_446 : decode code 446 = .ok (.aload_n 2, 1) := q_tb t_La_law5 28 rfl
theorem d_La_law_447 : decode code 447 = .ok (.invokevirtual 96, 3) := q_tb t_La_law5 29 rfl
theorem d_La_law_450 : decode code 450 = .ok (.if_icmp .eq 399, 3) := q_tb t_La_law5 30 rfl
theorem d_La_law_453 : decode code 453 = .ok (.iconst 0, 1) := q_tb t_La_law5 31 rfl
theorem d_La_law_454 : decode code 454 = .ok (.ireturn, 1) := q_tb t_La_law5 32 rfl
theorem d_La_law_455 : decode code 455 = .ok (.aload_n 1, 1) := q_tb t_La_law5 33 rfl
theorem d_La_law_456 : decode code 456 = .ok (.invokevirtual 97, 3) := q_tb t_La_law5 34 rfl
theorem d_La_law_459 : decode code 459 = .ok (.aload_n 2, 1) := q_tb t_La_law5 35 rfl
theorem d_La_law_460 : decode code 460 = .ok (.invokevirtual 100, 3) := q_tb t_La_law5 36 rfl
theorem d_La_law_463 : decode code 463 = .ok (.if_icmp .eq 386, 3) := q_tb t_La_law5 37 rfl
theorem d_La_law_466 : decode code 466 = .ok (.iconst 0, 1) := q_tb t_La_law5 38 rfl
theorem d_La_law_467 : decode code 467 = .ok (.ireturn, 1) := q_tb t_La_law5 39 rfl
def T_La_law6 : List (Nat × Instr × Nat) := [(468, .aload_n 1, 1), (469, .aload_n 0, 1), (470, .iload 4, 2), (472, .iconst 1, 1), (473, .iadd, 1), (474, .iaload, 1), (475, .aload_n 0, 1), (476, .iload 4, 2), (478, .iconst 2, 1), (479, .iadd, 1), (480, .iaload, 1), (481, .aload_n 3, 1), (482, .invokestatic 101, 3), (485, .istore 5, 2), (487, .aload_n 2, 1), (488, .aload_n 0, 1), (489, .iload 4, 2), (491, .iconst 1, 1), (492, .iadd, 1), (493, .iaload, 1), (494, .aload_n 0, 1), (495, .iload 4, 2), (497, .iconst 2, 1), (498, .iadd, 1), (499, .iaload, 1), (500, .invokevirtual 103, 3), (503, .istore 6, 2), (505, .aload_n 2, 1), (506, .invokevirtual 58, 3), (509, .iload 5, 2), (511, .if_icmp .eq 5, 3), (514, .iconst 0, 1), (515, .ireturn, 1), (516, .iload 5, 2), (518, .ifCond .ne 15, 3), (521, .aload_n 3, 1), (522, .iconst 0, 1), (523, .laload, 1), (524, .iload 6, 2), (526, .i2l, 1)]
set_option maxRecDepth 100000 in
theorem t_La_law6 : ∀ q ∈ T_La_law6, decode code q.1 = .ok q.2 := by decide +kernel
theorem d_La_law_468 : decode code 468 = .ok (.aload_n 1, 1) := q_tb t_La_law6 0 rfl
theorem d_La_law_469 : decode code 469 = .ok (.aload_n 0, 1) := q_tb t_La_law6 1 rfl
theorem d_La_law_470 : decode code 470 = .ok (.iload 4, 2) := q_tb t_La_law6 2 rfl
theorem d_La_law_472 : decode code 472 = .ok (.iconst 1, 1) := q_tb t_La_law6 3 rfl
theorem d_La_law_473 : decode code 473 = .ok (.iadd, 1) := q_tb t_La_law6 4 rfl
theorem d_La_law_474 : decode code 474 = .ok (.iaload, 1) := q_tb t_La_law6 5 rfl
theorem d_La_law_475 : decode code 475 = .ok (.aload_n 0, 1) := q_tb t_La_law6 6 rfl
theorem d_La_law_476 : decode code 476 = .ok (.iload 4, 2) := q_tb t_La_law6 7 rfl
theorem d_La_law_478 : decode code 478 = .ok (.iconst 2, 1) := q_tb t_La_law6 8 rfl
theorem d_La_law_479 : decode code 479 = .ok (.iadd, 1) := q_tb t_La_law6 9 rfl
theorem d_La_law_480 : decode code 480 = .ok (.iaload, 1) := q_tb t_La_law6 10 rfl
theorem d_La_law_481 : decode code 481 = .ok (.aload_n 3, 1) := q_tb t_La_law6 11 rfl
theorem d_La_law_482 : decode code 482 = .ok (.invokestatic 101, 3) := q_tb t_La_law6 12 rfl
theorem d_La_law_485 : decode code 485 = .ok (.istore 5, 2) := q_tb t_La_law6 13 rfl
theorem d_La_law_487 : decode code 487 = .ok (.aload_n 2, 1) := q_tb t_La_law6 14 rfl
theorem d_La_law_488 : decode code 488 = .ok (.aload_n 0, 1) := q_tb t_La_law6 15 rfl
theorem d_La_law_489 : decode code 489 = .ok (.iload 4, 2) := q_tb t_La_law6 16 rfl
theorem d_La_law_491 : decode code 491 = .ok (.iconst 1, 1) := q_tb t_La_law6 17 rfl
theorem d_La_law_492 : decode code 492 = .ok (.iadd, 1) := q_tb t_La_law6 18 rfl
theorem d_La_law_493 : decode code 493 = .ok (.iaload, 1) := q_tb t_La_law6 19 rfl
theorem d_La_law_494 : decode code 494 = .ok (.aload_n 0, 1) := q_tb t_La_law6 20 rfl
theorem d_La_law_495 : decode code 495 = .ok (.iload 4, 2) := q_tb t_La_law6 21 rfl
theorem d_La_law_497 : decode code 497 = .ok (.iconst 2, 1) := q_tb t_La_law6 22 rfl
theorem d_La_law_498 : decode code 498 = .ok (.iadd, 1) := q_tb t_La_law6 23 rfl
theorem d_La_law_499 : decode code 499 = .ok (.iaload, 1) := q_tb t_La_law6 24 rfl
theorem d_La_law_500 : decode code 500 = .ok (.invokevirtual 103, 3) := q_tb t_La_law6 25 rfl
theorem d_La_law_503 : decode code 503 = .ok (.istore 6, 2) := q_tb t_La_law6 26 rfl
theorem d_La_law_505 : decode code 505 = .ok (.aload_n 2, 1) := q_tb t_La_law6 27 rfl
theorem d_La_law_506 : decode code 506 = .ok (.invokevirtual 58, 3) := q_tb t_La_law6 28 rfl
theorem d_La_law_509 : decode code 509 = .ok (.iload 5, 2) := q_tb t_La_law6 29 rfl
theorem d_La_law_511 : decode code 511 = .ok (.if_icmp .eq 5, 3) := q_tb t_La_law6 30 rfl
theorem d_La_law_514 : decode code 514 = .ok (.iconst 0, 1) := q_tb t_La_law6 31 rfl
theorem d_La_law_515 : decode code 515 = .ok (.ireturn, 1) := q_tb t_La_law6 32 rfl
theorem d_La_law_516 : decode code 516 = .ok (.iload 5, 2) := q_tb t_La_law6 33 rfl
theorem d_La_law_518 : decode code 518 = .ok (.ifCond .ne 15, 3) := q_tb t_La_law6 34 rfl
theorem d_La_law_521 : decode code 521 = .ok (.aload_n 3, 1) := q_tb t_La_law6 35 rfl
theorem d_La_law_522 : decode code 522 = .ok (.iconst 0, 1) := q_tb t_La_law6 36 rfl
theorem d_La_law_523 : decode code 523 = .ok (.laload, 1) := q_tb t_La_law6 37 rfl
theorem d_La_law_524 : decode code 524 = .ok (.iload 6, 2) := q_tb t_La_law6 38 rfl
theorem d_La_law_526 : decode code 526 = .ok (.i2l, 1) := q_tb t_La_law6 39 rfl
def T_La_law7 : List (Nat × Instr × Nat) := [(527, .lcmp, 1), (528, .ifCond .eq 5, 3), (531, .iconst 0, 1), (532, .ireturn, 1), (533, .goto 316, 3), (536, .aload_n 1, 1), (537, .aload_n 0, 1), (538, .iload 4, 2), (540, .iconst 1, 1), (541, .iadd, 1), (542, .iaload, 1), (543, .aload_n 0, 1), (544, .iload 4, 2), (546, .iconst 2, 1), (547, .iadd, 1), (548, .iaload, 1), (549, .aload_n 3, 1), (550, .invokestatic 104, 3), (553, .istore 5, 2), (555, .aload_n 2, 1), (556, .aload_n 0, 1), (557, .iload 4, 2), (559, .iconst 1, 1), (560, .iadd, 1), (561, .iaload, 1), (562, .aload_n 0, 1), (563, .iload 4, 2), (565, .iconst 2, 1), (566, .iadd, 1), (567, .iaload, 1), (568, .invokevirtual 106, 3), (571, .istore 6, 2), (573, .aload_n 2, 1), (574, .invokevirtual 58, 3), (577, .iload 5, 2), (579, .if_icmp .eq 5, 3), (582, .iconst 0, 1), (583, .ireturn, 1), (584, .iload 5, 2), (586, .ifCond .ne 15, 3)]
set_option maxRecDepth 100000 in
theorem t_La_law7 : ∀ q ∈ T_La_law7, decode code q.1 = .ok q.2 := by decide +kernel
theorem d_La_law_527 : decode code 527 = .ok (.lcmp, 1) := q_tb t_La_law7 0 rfl
theorem d_La_law_528 : decode code 528 = .ok (.ifCond .eq 5, 3) := q_tb t_La_law7 1 rfl
theorem d_La_law_531 : decode code 531 = .ok (.iconst 0, 1) := q_tb t_La_law7 2 rfl
theorem d_La_law_532 : decode code 532 = .ok (.ireturn, 1) := q_tb t_La_law7 3 rfl
theorem d_La_law_533 : decode code 533 = .ok (.goto 316, 3) := q_tb t_La_law7 4 rfl
theorem d_La_law_536 : decode code 536 = .ok (.aload_n 1, 1) := q_tb t_La_law7 5 rfl
theorem d_La_law_537 : decode code 537 = .ok (.aload_n 0, 1) := q_tb t_La_law7 6 rfl
theorem d_La_law_538 : decode code 538 = .ok (.iload 4, 2) := q_tb t_La_law7 7 rfl
theorem d_La_law_540 : decode code 540 = .ok (.iconst 1, 1) := q_tb t_La_law7 8 rfl
theorem d_La_law_541 : decode code 541 = .ok (.iadd, 1) := q_tb t_La_law7 9 rfl
theorem d_La_law_542 : decode code 542 = .ok (.iaload, 1) := q_tb t_La_law7 10 rfl
theorem d_La_law_543 : decode code 543 = .ok (.aload_n 0, 1) := q_tb t_La_law7 11 rfl
theorem d_La_law_544 : decode code 544 = .ok (.iload 4, 2) := q_tb t_La_law7 12 rfl
theorem d_La_law_546 : decode code 546 = .ok (.iconst 2, 1) := q_tb t_La_law7 13 rfl
theorem d_La_law_547 : decode code 547 = .ok (.iadd, 1) := q_tb t_La_law7 14 rfl
theorem d_La_law_548 : decode code 548 = .ok (.iaload, 1) := q_tb t_La_law7 15 rfl
theorem d_La_law_549 : decode code 549 = .ok (.aload_n 3, 1) := q_tb t_La_law7 16 rfl
theorem d_La_law_550 : decode code 550 = .ok (.invokestatic 104, 3) := q_tb t_La_law7 17 rfl
theorem d_La_law_553 : decode code 553 = .ok (.istore 5, 2) := q_tb t_La_law7 18 rfl
theorem d_La_law_555 : decode code 555 = .ok (.aload_n 2, 1) := q_tb t_La_law7 19 rfl
theorem d_La_law_556 : decode code 556 = .ok (.aload_n 0, 1) := q_tb t_La_law7 20 rfl
theorem d_La_law_557 : decode code 557 = .ok (.iload 4, 2) := q_tb t_La_law7 21 rfl
theorem d_La_law_559 : decode code 559 = .ok (.iconst 1, 1) := q_tb t_La_law7 22 rfl
theorem d_La_law_560 : decode code 560 = .ok (.iadd, 1) := q_tb t_La_law7 23 rfl
theorem d_La_law_561 : decode code 561 = .ok (.iaload, 1) := q_tb t_La_law7 24 rfl
theorem d_La_law_562 : decode code 562 = .ok (.aload_n 0, 1) := q_tb t_La_law7 25 rfl
theorem d_La_law_563 : decode code 563 = .ok (.iload 4, 2) := q_tb t_La_law7 26 rfl
theorem d_La_law_565 : decode code 565 = .ok (.iconst 2, 1) := q_tb t_La_law7 27 rfl
theorem d_La_law_566 : decode code 566 = .ok (.iadd, 1) := q_tb t_La_law7 28 rfl
theorem d_La_law_567 : decode code 567 = .ok (.iaload, 1) := q_tb t_La_law7 29 rfl
theorem d_La_law_568 : decode code 568 = .ok (.invokevirtual 106, 3) := q_tb t_La_law7 30 rfl
theorem d_La_law_571 : decode code 571 = .ok (.istore 6, 2) := q_tb t_La_law7 31 rfl
theorem d_La_law_573 : decode code 573 = .ok (.aload_n 2, 1) := q_tb t_La_law7 32 rfl
theorem d_La_law_574 : decode code 574 = .ok (.invokevirtual 58, 3) := q_tb t_La_law7 33 rfl
theorem d_La_law_577 : decode code 577 = .ok (.iload 5, 2) := q_tb t_La_law7 34 rfl
theorem d_La_law_579 : decode code 579 = .ok (.if_icmp .eq 5, 3) := q_tb t_La_law7 35 rfl
theorem d_La_law_582 : decode code 582 = .ok (.iconst 0, 1) := q_tb t_La_law7 36 rfl
theorem d_La_law_583 : decode code 583 = .ok (.ireturn, 1) := q_tb t_La_law7 37 rfl
theorem d_La_law_584 : decode code 584 = .ok (.iload 5, 2) := q_tb t_La_law7 38 rfl
theorem d_La_law_586 : decode code 586 = .ok (.ifCond .ne 15, 3) := q_tb t_La_law7 39 rfl
def T_La_law8 : List (Nat × Instr × Nat) := [(589, .aload_n 3, 1), (590, .iconst 0, 1), (591, .laload, 1), (592, .iload 6, 2), (594, .i2l, 1), (595, .lcmp, 1), (596, .ifCond .eq 5, 3), (599, .iconst 0, 1), (600, .ireturn, 1), (601, .goto 248, 3), (604, .aload_n 1, 1), (605, .invokevirtual 107, 3), (608, .aload_n 2, 1), (609, .invokevirtual 110, 3), (612, .if_icmp .eq 237, 3), (615, .iconst 0, 1), (616, .ireturn, 1), (617, .aload_n 1, 1), (618, .aload_n 0, 1), (619, .iload 4, 2), (621, .iconst 1, 1), (622, .iadd, 1), (623, .iaload, 1), (624, .aload_n 3, 1), (625, .invokestatic 111, 3), (628, .istore 5, 2), (630, .aload_n 2, 1), (631, .aload_n 0, 1), (632, .iload 4, 2), (634, .iconst 1, 1), (635, .iadd, 1), (636, .iaload, 1), (637, .invokevirtual 114, 3), (640, .istore 6, 2), (642, .aload_n 2, 1), (643, .invokevirtual 58, 3), (646, .iload 5, 2), (648, .if_icmp .eq 5, 3), (651, .iconst 0, 1), (652, .ireturn, 1)]
set_option maxRecDepth 100000 in
theorem t_La_law8 : ∀ q ∈ T_La_law8, decode code q.1 = .ok q.2 := by decide +kernel
theorem d_La_law_589 : decode code 589 = .ok (.aload_n 3, 1) := q_tb t_La_law8 0 rfl
theorem d_La_law_590 : decode code 590 = .ok (.iconst 0, 1) := q_tb t_La_law8 1 rfl
theorem d_La_law_591 : decode code 591 = .ok (.laload, 1) := q_tb t_La_law8 2 rfl
theorem d_La_law_592 : decode code 592 = .ok (.iload 6, 2) := q_tb t_La_law8 3 rfl
theorem d_La_law_594 : decode code 594 = .ok (.i2l, 1) := q_tb t_La_law8 4 rfl
theorem d_La_law_595 : decode code 595 = .ok (.lcmp, 1) := q_tb t_La_law8 5 rfl
theorem d_La_law_596 : decode code 596 = .ok (.ifCond .eq 5, 3) := q_tb t_La_law8 6 rfl
theorem d_La_law_599 : decode code 599 = .ok (.iconst 0, 1) := q_tb t_La_law8 7 rfl
theorem d_La_law_600 : decode code 600 = .ok (.ireturn, 1) := q_tb t_La_law8 8 rfl
theorem d_La_law_601 : decode code 601 = .ok (.goto 248, 3) := q_tb t_La_law8 9 rfl
theorem d_La_law_604 : decode code 604 = .ok (.aload_n 1, 1) := q_tb t_La_law8 10 rfl
theorem d_La_law_605 : decode code 605 = .ok (.invokevirtual 107, 3) := q_tb t_La_law8 11 rfl
theorem d_La_law_608 : decode code 608 = .ok (.aload_n 2, 1) := q_tb t_La_law8 12 rfl
theorem d_La_law_609 : decode code 609 = .ok (.invokevirtual 110, 3) := q_tb t_La_law8 13 rfl
theorem d_La_law_612 : decode code 612 = .ok (.if_icmp .eq 237, 3) := q_tb t_La_law8 14 rfl
theorem d_La_law_615 : decode code 615 = .ok (.iconst 0, 1) := q_tb t_La_law8 15 rfl
theorem d_La_law_616 : decode code 616 = .ok (.ireturn, 1) := q_tb t_La_law8 16 rfl
theorem d_La_law_617 : decode code 617 = .ok (.aload_n 1, 1) := q_tb t_La_law8 17 rfl
theorem d_La_law_618 : decode code 618 = .ok (.aload_n 0, 1) := q_tb t_La_law8 18 rfl
theorem d_La_law_619 : decode code 619 = .ok (.iload 4, 2) := q_tb t_La_law8 19 rfl
theorem d_La_law_621 : decode code 621 = .ok (.iconst 1, 1) := q_tb t_La_law8 20 rfl
theorem d_La_law_622 : decode code 622 = .ok (.iadd, 1) := q_tb t_La_law8 21 rfl
theorem d_La_law_623 : decode code 623 = .ok (.iaload, 1) := q_tb t_La_law8 22 rfl
theorem d_La_law_624 : decode code 624 = .ok (.aload_n 3, 1) := q_tb t_La_law8 23 rfl
theorem d_La_law_625 : decode code 625 = .ok (.invokestatic 111, 3) := q_tb t_La_law8 24 rfl
theorem d_La_law_628 : decode code 628 = .ok (.istore 5, 2) := q_tb t_La_law8 25 rfl
theorem d_La_law_630 : decode code 630 = .ok (.aload_n 2, 1) := q_tb t_La_law8 26 rfl
theorem d_La_law_631 : decode code 631 = .ok (.aload_n 0, 1) := q_tb t_La_law8 27 rfl
theorem d_La_law_632 : decode code 632 = .ok (.iload 4, 2) := q_tb t_La_law8 28 rfl
theorem d_La_law_634 : decode code 634 = .ok (.iconst 1, 1) := q_tb t_La_law8 29 rfl
theorem d_La_law_635 : decode code 635 = .ok (.iadd, 1) := q_tb t_La_law8 30 rfl
theorem d_La_law_636 : decode code 636 = .ok (.iaload, 1) := q_tb t_La_law8 31 rfl
theorem d_La_law_637 : decode code 637 = .ok (.invokevirtual 114, 3) := q_tb t_La_law8 32 rfl
theorem d_La_law_640 : decode code 640 = .ok (.istore 6, 2) := q_tb t_La_law8 33 rfl
theorem d_La_law_642 : decode code 642 = .ok (.aload_n 2, 1) := q_tb t_La_law8 34 rfl
theorem d_La_law_643 : decode code 643 = .ok (.invokevirtual 58, 3) := q_tb t_La_law8 35 rfl
theorem d_La_law_646 : decode code 646 = .ok (.iload 5, 2) := q_tb t_La_law8 36 rfl
theorem d_La_law_648 : decode code 648 = .ok (.if_icmp .eq 5, 3) := q_tb t_La_law8 37 rfl
theorem d_La_law_651 : decode code 651 = .ok (.iconst 0, 1) := q_tb t_La_law8 38 rfl
theorem d_La_law_652 : decode code 652 = .ok (.ireturn, 1) := q_tb t_La_law8 39 rfl
def T_La_law9 : List (Nat × Instr × Nat) := [(653, .iload 5, 2), (655, .ifCond .ne 15, 3), (658, .aload_n 3, 1), (659, .iconst 0, 1), (660, .laload, 1), (661, .iload 6, 2), (663, .i2l, 1), (664, .lcmp, 1), (665, .ifCond .eq 5, 3), (668, .iconst 0, 1), (669, .ireturn, 1), (670, .goto 179, 3), (673, .aload_n 1, 1), (674, .invokevirtual 115, 3), (677, .aload_n 2, 1), (678, .invokevirtual 118, 3), (681, .if_icmp .eq 168, 3), (684, .iconst 0, 1), (685, .ireturn, 1), (686, .aload_n 1, 1), (687, .aload_n 0, 1), (688, .iload 4, 2), (690, .iconst 1, 1), (691, .iadd, 1), (692, .iaload, 1), (693, .aload_n 3, 1), (694, .invokestatic 119, 3), (697, .istore 5, 2), (699, .aload_n 2, 1), (700, .aload_n 0, 1), (701, .iload 4, 2), (703, .iconst 1, 1), (704, .iadd, 1), (705, .iaload, 1), (706, .invokevirtual 121, 3), (709, .istore 6, 2), (711, .aload_n 2, 1), (712, .invokevirtual 58, 3), (715, .iload 5, 2), (717, .if_icmp .eq 5, 3)]
set_option maxRecDepth 100000 in
theorem t_La_law9 : ∀ q ∈ T_La_law9, decode code q.1 = .ok q.2 := by decide +kernel
theorem d_La_law_653 : decode code 653 = .ok (.iload 5, 2) := q_tb t_La_law9 0 rfl
theorem d_La_law_655 : decode code 655 = .ok (.ifCond .ne 15, 3) := q_tb t_La_law9 1 rfl
theorem d_La_law_658 : decode code 658 = .ok (.aload_n 3, 1) := q_tb t_La_law9 2 rfl
theorem d_La_law_659 : decode code 659 = .ok (.iconst 0, 1) := q_tb t_La_law9 3 rfl
theorem d_La_law_660 : decode code 660 = .ok (.laload, 1) := q_tb t_La_law9 4 rfl
theorem d_La_law_661 : decode code 661 = .ok (.iload 6, 2) := q_tb t_La_law9 5 rfl
theorem d_La_law_663 : decode code 663 = .ok (.i2l, 1) := q_tb t_La_law9 6 rfl
theorem d_La_law_664 : decode code 664 = .ok (.lcmp, 1) := q_tb t_La_law9 7 rfl
theorem d_La_law_665 : decode code 665 = .ok (.ifCond .eq 5, 3) := q_tb t_La_law9 8 rfl
theorem d_La_law_668 : decode code 668 = .ok (.iconst 0, 1) := q_tb t_La_law9 9 rfl
theorem d_La_law_669 : decode code 669 = .ok (.ireturn, 1) := q_tb t_La_law9 10 rfl
theorem d_La_law_670 : decode code 670 = .ok (.goto 179, 3) := q_tb t_La_law9 11 rfl
theorem d_La_law_673 : decode code 673 = .ok (.aload_n 1, 1) := q_tb t_La_law9 12 rfl
theorem d_La_law_674 : decode code 674 = .ok (.invokevirtual 115, 3) := q_tb t_La_law9 13 rfl
theorem d_La_law_677 : decode code 677 = .ok (.aload_n 2, 1) := q_tb t_La_law9 14 rfl
theorem d_La_law_678 : decode code 678 = .ok (.invokevirtual 118, 3) := q_tb t_La_law9 15 rfl
theorem d_La_law_681 : decode code 681 = .ok (.if_icmp .eq 168, 3) := q_tb t_La_law9 16 rfl
theorem d_La_law_684 : decode code 684 = .ok (.iconst 0, 1) := q_tb t_La_law9 17 rfl
theorem d_La_law_685 : decode code 685 = .ok (.ireturn, 1) := q_tb t_La_law9 18 rfl
theorem d_La_law_686 : decode code 686 = .ok (.aload_n 1, 1) := q_tb t_La_law9 19 rfl
theorem d_La_law_687 : decode code 687 = .ok (.aload_n 0, 1) := q_tb t_La_law9 20 rfl
theorem d_La_law_688 : decode code 688 = .ok (.iload 4, 2) := q_tb t_La_law9 21 rfl
theorem d_La_law_690 : decode code 690 = .ok (.iconst 1, 1) := q_tb t_La_law9 22 rfl
theorem d_La_law_691 : decode code 691 = .ok (.iadd, 1) := q_tb t_La_law9 23 rfl
theorem d_La_law_692 : decode code 692 = .ok (.iaload, 1) := q_tb t_La_law9 24 rfl
theorem d_La_law_693 : decode code 693 = .ok (.aload_n 3, 1) := q_tb t_La_law9 25 rfl
theorem d_La_law_694 : decode code 694 = .ok (.invokestatic 119, 3) := q_tb t_La_law9 26 rfl
theorem d_La_law_697 : decode code 697 = .ok (.istore 5, 2) := q_tb t_La_law9 27 rfl
theorem d_La_law_699 : decode code 699 = .ok (.aload_n 2, 1) := q_tb t_La_law9 28 rfl
theorem d_La_law_700 : decode code 700 = .ok (.aload_n 0, 1) := q_tb t_La_law9 29 rfl
theorem d_La_law_701 : decode code 701 = .ok (.iload 4, 2) := q_tb t_La_law9 30 rfl
theorem d_La_law_703 : decode code 703 = .ok (.iconst 1, 1) := q_tb t_La_law9 31 rfl
theorem d_La_law_704 : decode code 704 = .ok (.iadd, 1) := q_tb t_La_law9 32 rfl
theorem d_La_law_705 : decode code 705 = .ok (.iaload, 1) := q_tb t_La_law9 33 rfl
theorem d_La_law_706 : decode code 706 = .ok (.invokevirtual 121, 3) := q_tb t_La_law9 34 rfl
theorem d_La_law_709 : decode code 709 = .ok (.istore 6, 2) := q_tb t_La_law9 35 rfl
theorem d_La_law_711 : decode code 711 = .ok (.aload_n 2, 1) := q_tb t_La_law9 36 rfl
theorem d_La_law_712 : decode code 712 = .ok (.invokevirtual 58, 3) := q_tb t_La_law9 37 rfl
theorem d_La_law_715 : decode code 715 = .ok (.iload 5, 2) := q_tb t_La_law9 38 rfl
theorem d_La_law_717 : decode code 717 = .ok (.if_icmp .eq 5, 3) := q_tb t_La_law9 39 rfl
def T_La_law10 : List (Nat × Instr × Nat) := [(720, .iconst 0, 1), (721, .ireturn, 1), (722, .iload 5, 2), (724, .ifCond .ne 15, 3), (727, .aload_n 3, 1), (728, .iconst 0, 1), (729, .laload, 1), (730, .iload 6, 2), (732, .i2l, 1), (733, .lcmp, 1), (734, .ifCond .eq 5, 3), (737, .iconst 0, 1), (738, .ireturn, 1), (739, .goto 110, 3), (742, .aload_n 1, 1), (743, .aload_n 0, 1), (744, .iload 4, 2), (746, .iconst 1, 1), (747, .iadd, 1), (748, .iaload, 1), (749, .aload_n 3, 1), (750, .invokestatic 122, 3), (753, .istore 5, 2), (755, .aload_n 2, 1), (756, .aload_n 0, 1), (757, .iload 4, 2), (759, .iconst 1, 1), (760, .iadd, 1), (761, .iaload, 1), (762, .invokevirtual 124, 3), (765, .istore 6, 2), (767, .aload_n 2, 1), (768, .invokevirtual 58, 3), (771, .iload 5, 2), (773, .if_icmp .eq 5, 3), (776, .iconst 0, 1), (777, .ireturn, 1), (778, .iload 5, 2), (780, .ifCond .ne 15, 3), (783, .aload_n 3, 1)]
set_option maxRecDepth 100000 in
theorem t_La_law10 : ∀ q ∈ T_La_law10, decode code q.1 = .ok q.2 := by decide +kernel
theorem d_La_law_720 : decode code 720 = .ok (.iconst 0, 1) := q_tb t_La_law10 0 rfl
theorem d_La_law_721 : decode code 721 = .ok (.ireturn, 1) := q_tb t_La_law10 1 rfl
theorem d_La_law_722 : decode code 722 = .ok (.iload 5, 2) := q_tb t_La_law10 2 rfl
theorem d_La_law_724 : decode code 724 = .ok (.ifCond .ne 15, 3) := q_tb t_La_law10 3 rfl
theorem d_La_law_727 : decode code 727 = .ok (.aload_n 3, 1) := q_tb t_La_law10 4 rfl
theorem d_La_law_728 : decode code 728 = .ok (.iconst 0, 1) := q_tb t_La_law10 5 rfl
theorem d_La_law_729 : decode code 729 = .ok (.laload, 1) := q_tb t_La_law10 6 rfl
theorem d_La_law_730 : decode code 730 = .ok (.iload 6, 2) := q_tb t_La_law10 7 rfl
theorem d_La_law_732 : decode code 732 = .ok (.i2l, 1) := q_tb t_La_law10 8 rfl
theorem d_La_law_733 : decode code 733 = .ok (.lcmp, 1) := q_tb t_La_law10 9 rfl
theorem d_La_law_734 : decode code 734 = .ok (.ifCond .eq 5, 3) := q_tb t_La_law10 10 rfl
theorem d_La_law_737 : decode code 737 = .ok (.iconst 0, 1) := q_tb t_La_law10 11 rfl
theorem d_La_law_738 : decode code 738 = .ok (.ireturn, 1) := q_tb t_La_law10 12 rfl
theorem d_La_law_739 : decode code 739 = .ok (.goto 110, 3) := q_tb t_La_law10 13 rfl
theorem d_La_law_742 : decode code 742 = .ok (.aload_n 1, 1) := q_tb t_La_law10 14 rfl
theorem d_La_law_743 : decode code 743 = .ok (.aload_n 0, 1) := q_tb t_La_law10 15 rfl
theorem d_La_law_744 : decode code 744 = .ok (.iload 4, 2) := q_tb t_La_law10 16 rfl
theorem d_La_law_746 : decode code 746 = .ok (.iconst 1, 1) := q_tb t_La_law10 17 rfl
theorem d_La_law_747 : decode code 747 = .ok (.iadd, 1) := q_tb t_La_law10 18 rfl
theorem d_La_law_748 : decode code 748 = .ok (.iaload, 1) := q_tb t_La_law10 19 rfl
theorem d_La_law_749 : decode code 749 = .ok (.aload_n 3, 1) := q_tb t_La_law10 20 rfl
theorem d_La_law_750 : decode code 750 = .ok (.invokestatic 122, 3) := q_tb t_La_law10 21 rfl
theorem d_La_law_753 : decode code 753 = .ok (.istore 5, 2) := q_tb t_La_law10 22 rfl
theorem d_La_law_755 : decode code 755 = .ok (.aload_n 2, 1) := q_tb t_La_law10 23 rfl
theorem d_La_law_756 : decode code 756 = .ok (.aload_n 0, 1) := q_tb t_La_law10 24 rfl
theorem d_La_law_757 : decode code 757 = .ok (.iload 4, 2) := q_tb t_La_law10 25 rfl
theorem d_La_law_759 : decode code 759 = .ok (.iconst 1, 1) := q_tb t_La_law10 26 rfl
theorem d_La_law_760 : decode code 760 = .ok (.iadd, 1) := q_tb t_La_law10 27 rfl
theorem d_La_law_761 : decode code 761 = .ok (.iaload, 1) := q_tb t_La_law10 28 rfl
theorem d_La_law_762 : decode code 762 = .ok (.invokevirtual 124, 3) := q_tb t_La_law10 29 rfl
theorem d_La_law_765 : decode code 765 = .ok (.istore 6, 2) := q_tb t_La_law10 30 rfl
theorem d_La_law_767 : decode code 767 = .ok (.aload_n 2, 1) := q_tb t_La_law10 31 rfl
theorem d_La_law_768 : decode code 768 = .ok (.invokevirtual 58, 3) := q_tb t_La_law10 32 rfl
theorem d_La_law_771 : decode code 771 = .ok (.iload 5, 2) := q_tb t_La_law10 33 rfl
theorem d_La_law_773 : decode code 773 = .ok (.if_icmp .eq 5, 3) := q_tb t_La_law10 34 rfl
theorem d_La_law_776 : decode code 776 = .ok (.iconst 0, 1) := q_tb t_La_law10 35 rfl
theorem d_La_law_777 : decode code 777 = .ok (.ireturn, 1) := q_tb t_La_law10 36 rfl
theorem d_La_law_778 : decode code 778 = .ok (.iload 5, 2) := q_tb t_La_law10 37 rfl
theorem d_La_law_780 : decode code 780 = .ok (.ifCond .ne 15, 3) := q_tb t_La_law10 38 rfl
theorem d_La_law_783 : decode code 783 = .ok (.aload_n 3, 1) := q_tb t_La_law10 39 rfl
def T_La_law11 : List (Nat × Instr × Nat) := [(784, .iconst 0, 1), (785, .laload, 1), (786, .iload 6, 2), (788, .i2l, 1), (789, .lcmp, 1), (790, .ifCond .eq 5, 3), (793, .iconst 0, 1), (794, .ireturn, 1), (795, .goto 54, 3), (798, .aload_n 1, 1), (799, .aload_n 3, 1), (800, .invokestatic 125, 3), (803, .istore 5, 2), (805, .aload_n 2, 1), (806, .invokevirtual 128, 3), (809, .istore 6, 2), (811, .aload_n 2, 1), (812, .invokevirtual 58, 3), (815, .iload 5, 2), (817, .if_icmp .eq 5, 3), (820, .iconst 0, 1), (821, .ireturn, 1), (822, .iload 5, 2), (824, .ifCond .ne 22, 3), (827, .aload_n 3, 1), (828, .iconst 0, 1), (829, .laload, 1), (830, .iload 6, 2), (832, .ifCond .eq 7, 3), (835, .lconst 1, 1), (836, .goto 4, 3), (839, .lconst 0, 1), (840, .lcmp, 1), (841, .ifCond .eq 5, 3), (844, .iconst 0, 1), (845, .ireturn, 1), (846, .goto 3, 3), (849, .iinc 4 4, 3), (852, .goto (-829), 3), (855, .iconst 1, 1)]
set_option maxRecDepth 100000 in
theorem t_La_law11 : ∀ q ∈ T_La_law11, decode code q.1 = .ok q.2 := by decide +kernel
theorem d_La_law_784 : decode code 784 = .ok (.iconst 0, 1) := q_tb t_La_law11 0 rfl
theorem d_La_law_785 : decode code 785 = .ok (.laload, 1) := q_tb t_La_law11 1 rfl
theorem d_La_law_786 : decode code 786 = .ok (.iload 6, 2) := q_tb t_La_law11 2 rfl
theorem d_La_law_788 : decode code 788 = .ok (.i2l, 1) := q_tb t_La_law11 3 rfl
theorem d_La_law_789 : decode code 789 = .ok (.lcmp, 1) := q_tb t_La_law11 4 rfl
theorem d_La_law_790 : decode code 790 = .ok (.ifCond .eq 5, 3) := q_tb t_La_law11 5 rfl
theorem d_La_law_793 : decode code 793 = .ok (.iconst 0, 1) := q_tb t_La_law11 6 rfl
theorem d_La_law_794 : decode code 794 = .ok (.ireturn, 1) := q_tb t_La_law11 7 rfl
theorem d_La_law_795 : decode code 795 = .ok (.goto 54, 3) := q_tb t_La_law11 8 rfl
theorem d_La_law_798 : decode code 798 = .ok (.aload_n 1, 1) := q_tb t_La_law11 9 rfl
theorem d_La_law_799 : decode code 799 = .ok (.aload_n 3, 1) := q_tb t_La_law11 10 rfl
theorem d_La_law_800 : decode code 800 = .ok (.invokestatic 125, 3) := q_tb t_La_law11 11 rfl
theorem d_La_law_803 : decode code 803 = .ok (.istore 5, 2) := q_tb t_La_law11 12 rfl
theorem d_La_law_805 : decode code 805 = .ok (.aload_n 2, 1) := q_tb t_La_law11 13 rfl
theorem d_La_law_806 : decode code 806 = .ok (.invokevirtual 128, 3) := q_tb t_La_law11 14 rfl
theorem d_La_law_809 : decode code 809 = .ok (.istore 6, 2) := q_tb t_La_law11 15 rfl
theorem d_La_law_811 : decode code 811 = .ok (.aload_n 2, 1) := q_tb t_La_law11 16 rfl
theorem d_La_law_812 : decode code 812 = .ok (.invokevirtual 58, 3) := q_tb t_La_law11 17 rfl
theorem d_La_law_815 : decode code 815 = .ok (.iload 5, 2) := q_tb t_La_law11 18 rfl
theorem d_La_law_817 : decode code 817 = .ok (.if_icmp .eq 5, 3) := q_tb t_La_law11 19 rfl
theorem d_La_law_820 : decode code 820 = .ok (.iconst 0, 1) := q_tb t_La_law11 20 rfl
theorem d_La_law_821 : decode code 821 = .ok (.ireturn, 1) := q_tb t_La_law11 21 rfl
theorem d_La_law_822 : decode code 822 = .ok (.iload 5, 2) := q_tb t_La_law11 22 rfl
theorem d_La_law_824 : decode code 824 = .ok (.ifCond .ne 22, 3) := q_tb t_La_law11 23 rfl
theorem d_La_law_827 : decode code 827 = .ok (.aload_n 3, 1) := q_tb t_La_law11 24 rfl
theorem d_La_law_828 : decode code 828 = .ok (.iconst 0, 1) := q_tb t_La_law11 25 rfl
theorem d_La_law_829 : decode code 829 = .ok (.laload, 1) := q_tb t_La_law11 26 rfl
theorem d_La_law_830 : decode code 830 = .ok (.iload 6, 2) := q_tb t_La_law11 27 rfl
theorem d_La_law_832 : decode code 832 = .ok (.ifCond .eq 7, 3) := q_tb t_La_law11 28 rfl
theorem d_La_law_835 : decode code 835 = .ok (.lconst 1, 1) := q_tb t_La_law11 29 rfl
theorem d_La_law_836 : decode code 836 = .ok (.goto 4, 3) := q_tb t_La_law11 30 rfl
theorem d_La_law_839 : decode code 839 = .ok (.lconst 0, 1) := q_tb t_La_law11 31 rfl
theorem d_La_law_840 : decode code 840 = .ok (.lcmp, 1) := q_tb t_La_law11 32 rfl
theorem d_La_law_841 : decode code 841 = .ok (.ifCond .eq 5, 3) := q_tb t_La_law11 33 rfl
theorem d_La_law_844 : decode code 844 = .ok (.iconst 0, 1) := q_tb t_La_law11 34 rfl
theorem d_La_law_845 : decode code 845 = .ok (.ireturn, 1) := q_tb t_La_law11 35 rfl
theorem d_La_law_846 : decode code 846 = .ok (.goto 3, 3) := q_tb t_La_law11 36 rfl
theorem d_La_law_849 : decode code 849 = .ok (.iinc 4 4, 3) := q_tb t_La_law11 37 rfl
theorem d_La_law_852 : decode code 852 = .ok (.goto (-829), 3) := q_tb t_La_law11 38 rfl
theorem d_La_law_855 : decode code 855 = .ok (.iconst 1, 1) := q_tb t_La_law11 39 rfl
def T_La_law12 : List (Nat × Instr × Nat) := [(856, .ireturn, 1)]
set_option maxRecDepth 100000 in
theorem t_La_law12 : ∀ q ∈ T_La_law12, decode code q.1 = .ok q.2 := by decide +kernel
theorem d_La_law_856 : decode code 856 = .ok (.ireturn, 1) := q_tb t_La_law12 0 rfl
end NAMES3
end
section
/-! wrappers: rows as the walks use them -/
section WRAP
theorem q_keep {hp hp' : List va_E} {a b : Nat} {x y : va_E} (e : hp' = hp.set a y) (h : hp[b]? = some x) (hne : a ≠ b) : hp'[b]? = some x := by
  rw [e, List.getElem?_set_ne hne]
  exact h
theorem q_self {hp : List va_E} {a : Nat} {x y : va_E} (h : hp[a]? = some x) : (hp.set a y)[a]? = some y := List.getElem?_set_self (List.getElem?_eq_some_iff.mp h).1
theorem q_atn (hp : List va_E) (x : va_E) : (hp ++ [x])[hp.length]? = some x := by simp
theorem q_ato {hp : List va_E} {b : Nat} {x y : va_E} (h : hp[b]? = some x) : (hp ++ [y])[b]? = some x := by
  rw [List.getElem?_append_left (List.getElem?_eq_some_iff.mp h).1]
  exact h
variable {g : q_G} {M : q_Me} {fr : Bool} {rm : Room} {P : Outcome → List va_E → Prop} {pc : Nat} {ls : List (Option Value)} {st : List Value} {hp : List va_E} {c s : Nat} {w : Bool}
theorem x_put {idx ci k a : Nat} {fs : List Value} {v : Value} (hd : decode M.2.1 pc = .ok (.putfield idx, 3)) (hf : q_F M.1.cls idx ci k false) (he : hp[a]? = some (.inr (ci, fs))) (hl : k < fs.length) (hn : narrow (q_tf ci k) v = v) (ht : fits (q_tf ci k) v = true) (kk : ∀ hp', hp' = hp.set a (.inr (ci, fs.set k v)) → hp'[a]? = some (.inr (ci, fs.set k v)) → q_J g M fr rm P (pc + 3) ls st hp' c s true) : q_J g M fr rm P pc ls (v :: .ref a :: st) hp c s w :=
  q_put hd hf he hl hn ht (kk _ rfl (q_self he))
theorem x_putF {idx ci k a : Nat} {fs : List Value} {v : Value} (hd : decode M.2.1 pc = .ok (.putfield idx, 3)) (hf : q_F M.1.cls idx ci k true) (hin : M.1.name = "<init>") (hown : ∀ q : vw_C, q_cl[ci]? = some q → q.1 = M.1.cls) (he : hp[a]? = some (.inr (ci, fs))) (hl : k < fs.length) (hn : narrow (q_tf ci k) v = v) (ht : fits (q_tf ci k) v = true) (kk : ∀ hp', hp' = hp.set a (.inr (ci, fs.set k v)) → hp'[a]? = some (.inr (ci, fs.set k v)) → q_J g M fr rm P (pc + 3) ls st hp' c s true) : q_J g M fr rm P pc ls (v :: .ref a :: st) hp c s w :=
  q_putF hd hf hin hown he hl hn ht (kk _ rfl (q_self he))
theorem x_iast {a t n : Nat} {f : Nat → Int32} {i : Int32} {x : Int32} (hd : decode M.2.1 pc = .ok (.iastore, 1)) (he : hp[a]? = some (.inl (t, n, .inl f))) (ht : q_ty[t]? = some .int) (hin : vp_in i n) (kk : ∀ hp', hp' = hp.set a (.inl (t, n, .inl (upd f i.toNatClampNeg x))) → hp'[a]? = some (.inl (t, n, .inl (upd f i.toNatClampNeg x))) → q_J g M fr rm P (pc + 1) ls st hp' c s true) : q_J g M fr rm P pc ls (.int x :: .int i :: .ref a :: st) hp c s w :=
  q_iast hd he ht hin (kk _ rfl (q_self he))
theorem x_bast {a t n : Nat} {f : Nat → Int32} {i : Int32} {x : Int32} (hd : decode M.2.1 pc = .ok (.bastore, 1)) (he : hp[a]? = some (.inl (t, n, .inl f))) (ht : q_ty[t]? = some .byte) (hin : vp_in i n) (kk : ∀ hp', hp' = hp.set a (.inl (t, n, .inl (upd f i.toNatClampNeg (vp_nar .byte x)))) → hp'[a]? = some (.inl (t, n, .inl (upd f i.toNatClampNeg (vp_nar .byte x)))) → q_J g M fr rm P (pc + 1) ls st hp' c s true) : q_J g M fr rm P pc ls (.int x :: .int i :: .ref a :: st) hp c s w :=
  q_bast hd he ht hin (kk _ rfl (q_self he))
theorem x_zast {a t n : Nat} {f : Nat → Int32} {i : Int32} {x : Int32} (hd : decode M.2.1 pc = .ok (.bastore, 1)) (he : hp[a]? = some (.inl (t, n, .inl f))) (ht : q_ty[t]? = some .boolean) (hin : vp_in i n) (kk : ∀ hp', hp' = hp.set a (.inl (t, n, .inl (upd f i.toNatClampNeg (vp_nar .boolean x)))) → hp'[a]? = some (.inl (t, n, .inl (upd f i.toNatClampNeg (vp_nar .boolean x)))) → q_J g M fr rm P (pc + 1) ls st hp' c s true) : q_J g M fr rm P pc ls (.int x :: .int i :: .ref a :: st) hp c s w :=
  q_zast hd he ht hin (kk _ rfl (q_self he))
theorem x_last {a t n : Nat} {f : Nat → Int64} {i : Int32} {x : Int64} (hd : decode M.2.1 pc = .ok (.lastore, 1)) (he : hp[a]? = some (.inl (t, n, .inr (.inl f)))) (ht : q_ty[t]? = some .long) (hin : vp_in i n) (kk : ∀ hp', hp' = hp.set a (.inl (t, n, .inr (.inl (vp_updL f i.toNatClampNeg x)))) → hp'[a]? = some (.inl (t, n, .inr (.inl (vp_updL f i.toNatClampNeg x)))) → q_J g M fr rm P (pc + 1) ls st hp' c s true) : q_J g M fr rm P pc ls (.long x :: .int i :: .ref a :: st) hp c s w :=
  q_last hd he ht hin (kk _ rfl (q_self he))
theorem x_ldcw {index : Nat} {v : Int32} (hd : decode M.2.1 pc = .ok (.ldc_w index, 3)) (hw : Jvm.Cond.constant M.1.cls index v ∈ q_gw) (k : q_J g M fr rm P (pc + 3) ls (.int v :: st) hp c s w) : q_J g M fr rm P pc ls st hp c s w :=
  fun p e R u m args below meth co H locs la E hL hH h1 h2 => lv_ldcw E.2.1 E.2.2.1 E.2.2.2.2.1 (q_word E.1 E.2.2.2.2.2.1 hw rfl) hd (k p e R u m args below meth co H locs la E hL hH h1 h2)
/-- calls whose end is known -/
theorem x_callS {N : q_Me} {fr' : Bool} {rm' : Room} {idx n : Nat} {as stk : List Value} {v : Option Value} {hp2 : List va_E} (hd : decode M.2.1 pc = .ok (.invokestatic idx, 3)) (hl : q_ML M.1.cls idx N n) (hsta : Jvm.Cond.static N.1 ∈ q_gw) (hC : q_C g N fr' rm' as hp (q_ret v hp2)) (hn : as.length = n) (hstk : stk = as.reverse ++ st) (hd' : rm'.frames + 1 ≤ rm.frames) (hN : (st.map fun v => v.category).sum + (N.2.2.1 + 11) + rm'.locals ≤ rm.locals) (hmc : c + rm'.cells ≤ rm.cells) (hms : s + rm'.slots ≤ rm.slots) (k : q_J g M fr rm P (pc + 3) ls (v.toList ++ st) hp2 (c + rm'.cells) (s + rm'.slots) (w || fr')) : q_J g M fr rm P pc ls stk hp c s w := by
  subst hstk
  exact q_callS hd hl hsta hn hC hd' hN hmc hms (q_kr k) q_kt
theorem x_callI {N : q_Me} {fr' : Bool} {rm' : Room} {idx n : Nat} {as stk : List Value} {a : Nat} {v : Option Value} {hp2 : List va_E} (hd : decode M.2.1 pc = .ok (.invokespecial idx, 3)) (hl : q_ML M.1.cls idx N n) (hnh : N.2.2.2 = (none, [])) (hin : N.1.name = "<init>") (hins : Jvm.Cond.instanceMethod N.1 ∈ q_gw) (hC : q_C g N fr' rm' (.ref a :: as) hp (q_ret v hp2)) (hn : as.length = n) (hstk : stk = as.reverse ++ .ref a :: st) (hd' : rm'.frames + 1 ≤ rm.frames) (hN : (st.map fun v => v.category).sum + (N.2.2.1 + 11) + rm'.locals ≤ rm.locals) (hmc : c + rm'.cells ≤ rm.cells) (hms : s + rm'.slots ≤ rm.slots) (k : q_J g M fr rm P (pc + 3) ls (v.toList ++ st) hp2 (c + rm'.cells) (s + rm'.slots) (w || fr')) : q_J g M fr rm P pc ls stk hp c s w := by
  subst hstk
  exact q_callI hd hl hnh hin hins hn hC hd' hN hmc hms (q_kr k) q_kt
theorem x_callV {N : q_Me} {fr' : Bool} {rm' : Room} {idx n : Nat} {as stk : List Value} {a ci : Nat} {fs : List Value} {q : vw_C} {v : Option Value} {hp2 : List va_E} (hd : decode M.2.1 pc = .ok (.invokevirtual idx, 3)) (hl : q_ML M.1.cls idx N n) (hins : Jvm.Cond.instanceMethod N.1 ∈ q_gw) (hsel : Jvm.Cond.selects q.1 N.1 N.1 ∈ q_gw) (hq : q_cl[ci]? = some q) (he : hp[a]? = some (.inr (ci, fs))) (hC : q_C g N fr' rm' (.ref a :: as) hp (q_ret v hp2)) (hn : as.length = n) (hstk : stk = as.reverse ++ .ref a :: st) (hd' : rm'.frames + 1 ≤ rm.frames) (hN : (st.map fun v => v.category).sum + (N.2.2.1 + 11) + rm'.locals ≤ rm.locals) (hmc : c + rm'.cells ≤ rm.cells) (hms : s + rm'.slots ≤ rm.slots) (k : q_J g M fr rm P (pc + 3) ls (v.toList ++ st) hp2 (c + rm'.cells) (s + rm'.slots) (w || fr')) : q_J g M fr rm P pc ls stk hp c s w := by
  subst hstk
  exact q_callV hd hl hins hsel hq he hn hC hd' hN hmc hms (q_kr k) q_kt
/-- Math.max -/
theorem x_max {idx : Nat} {x y : Int32} (hd : decode M.2.1 pc = .ok (.invokestatic idx, 3)) (hlk : Jvm.Cond.methodLink M.1.cls idx Lib.Math.max.name ∈ q_gw) (hsta : Jvm.Cond.static Lib.Math.max.name ∈ q_gw) (hini : Jvm.Cond.initialized "java/lang/Math" ∈ q_gw) (hco : Jvm.Cond.code Lib.Math.max.name Lib.Math.max.code 2 (some .int) ∈ q_gw) (hf : 1 ≤ rm.frames) (hl : (st.map fun v => v.category).sum + 13 ≤ rm.locals) (hc : c ≤ rm.cells) (hs : s ≤ rm.slots) (k : q_J g M fr rm P (pc + 3) ls (.int (if x < y then y else x) :: st) hp c s w) : q_J g M fr rm P pc ls (.int y :: .int x :: st) hp c s w := by
  intro p e R u m args below meth co H locs la E hL hH h1 h2
  have hu := E.2.2.2.2.2.1
  have hR1 := E.2.2.2.2.2.2.2.2.2.1
  have hR2 := E.2.2.2.2.2.2.2.2.2.2.1
  have hR3 := E.2.2.2.2.2.2.2.2.2.2.2.1
  have hR4 := E.2.2.2.2.2.2.2.2.2.2.2.2.1
  have hcat : ((st.map (q_ev g)).map fun v => v.category).sum = (st.map fun v => v.category).sum := by
    rw [List.map_map]
    exact congrArg List.sum (List.map_congr_left (fun v _ => q_ev_cat g v))
  exact va_mmax E.2.1 E.2.2.1 (by rw [E.2.2.2.1]; exact hL.1.symm) E.2.2.2.2.1 (q_word E.1 hu hlk rfl) (q_word E.1 hu hsta rfl) (q_word E.1 hu hini rfl) (q_word E.1 hu hco rfl) (by omega) (by omega) (by omega) (by omega) hd (k p e R u m args below meth co H locs la E hL hH h1 h2)
end WRAP
end
section
/-! Part, Tape, small methods -/
section CPART
abbrev q_R (f n c s : Nat) : Room := { frames := f, cells := c, slots := s, locals := n }
/-- a Part -/
abbrev o_Pa (b f l : Int32) : va_E := .inr (5, [.int b, .int f, .int l])
abbrev q_B (b : Int32) : Prop := b = 0 ∨ b = 1
theorem q_Bn {b : Int32} (h : q_B b) : narrow .boolean (.int b) = .int b := by rcases h with rfl | rfl <;> rfl
theorem q_Bf {b : Int32} (h : q_B b) : fits .boolean (.int b) = true := by rcases h with rfl | rfl <;> rfl
variable {g : q_G}
set_option maxRecDepth 10000 in
theorem c_Pa_set (hG : q_GG g) {hp : List va_E} {a : Nat} {b f l z x : Int32} (h_p : hp[a]? = some (o_Pa b f l)) (hz : q_B z) : q_C g m_Pa_set true (q_R 0 0 0 0) [.ref a, .int z, .int x] hp (q_ret none (hp.set a (o_Pa z x x))) := by
  refine q_C.of hG (by decide) (Nat.le_of_ble_eq_true rfl) ?_
  refine q_aload_n d_Pa_set_0 rfl rfl ?_
  refine q_iload_n d_Pa_set_1 rfl ?_
  refine x_put d_Pa_set_2 f_Pa_7 h_p (Nat.le_of_ble_eq_true rfl) (q_Bn hz) (q_Bf hz) (fun hp1 e1 h_p => ?_)
  refine q_aload_n d_Pa_set_5 rfl rfl ?_
  refine q_iload_n d_Pa_set_6 rfl ?_
  refine x_put d_Pa_set_7 f_Pa_13 h_p (Nat.le_of_ble_eq_true rfl) rfl rfl (fun hp2 e2 h_p => ?_)
  refine q_aload_n d_Pa_set_10 rfl rfl ?_
  refine q_iload_n d_Pa_set_11 rfl ?_
  refine x_put d_Pa_set_12 f_Pa_17 h_p (Nat.le_of_ble_eq_true rfl) rfl rfl (fun hp3 e3 h_p => ?_)
  refine q_vret d_Pa_set_15 rfl ?_ (Nat.le_of_ble_eq_true rfl) (Nat.le_of_ble_eq_true rfl) (by decide)
  exact ⟨rfl, by subst e1; subst e2; subst e3; simp [List.set_set]⟩
end CPART
end
section
/-! small methods: Part, Tape, Course, the JDK's -/
section C1
abbrev a_I (n : Nat) (f : Nat → Int32) : va_E := .inl (0, n, .inl f)
abbrev a_J (n : Nat) (f : Nat → Int64) : va_E := .inl (1, n, .inr (.inl f))
abbrev a_B (n : Nat) (f : Nat → Int32) : va_E := .inl (2, n, .inl f)
abbrev a_Z (n : Nat) (f : Nat → Int32) : va_E := .inl (3, n, .inl f)
/-- a Course at a: its rows behind it -/
abbrev o_Co (a : Nat) (pc en : Int32) : va_E := .inr (3, [.int pc, .int en, .ref (a + 1), .ref (a + 2), .ref (a + 3), .ref (a + 4)])
abbrev o_Ta (a : Nat) (n : Int32) : va_E := .inr (1, [.ref (a + 1), .int n])
theorem q_Bo {b c : Int32} (h : q_B b) (k : q_B c) : q_B (b ||| c) := by rcases h with rfl | rfl <;> rcases k with rfl | rfl <;> decide
theorem q_Ba {b c : Int32} (h : q_B b) (k : q_B c) : q_B (b &&& c) := by rcases h with rfl | rfl <;> rcases k with rfl | rfl <;> decide
theorem q_B1 : q_B 1 := Or.inr rfl
theorem q_B0 : q_B 0 := Or.inl rfl
variable {g : q_G}
set_option maxRecDepth 10000 in
set_option maxHeartbeats 1000000 in
theorem c_Pa_init (hG : q_GG g) {hp : List va_E} {a : Nat} : q_C g m_Pa_init false (q_R 1 12 0 0) [.ref a] hp (q_ret none hp) := by
  refine q_C.of hG (by decide) (Nat.le_of_ble_eq_true rfl) ?_
  refine q_aload_n d_Pa_init_0 rfl rfl ?_
  refine q_objInit d_Pa_init_1 lo_Pa_1 oi_1 oi_2 (Nat.le_of_ble_eq_true rfl) (Nat.le_of_ble_eq_true rfl) ?_
  refine q_vret d_Pa_init_4 rfl ?_ (Nat.le_of_ble_eq_true rfl) (Nat.le_of_ble_eq_true rfl) (by decide)
  exact ⟨rfl, rfl⟩
set_option maxRecDepth 10000 in
set_option maxHeartbeats 1000000 in
theorem c_Pa_addChoice (hG : q_GG g) {hp : List va_E} {a o : Nat} {b f l b2 f2 l2 : Int32} (h_p : hp[a]? = some (o_Pa b f l)) (h_o : hp[o]? = some (o_Pa b2 f2 l2)) (hne : a ≠ o) (hb : q_B b) (hb2 : q_B b2) : q_C g m_Pa_addChoice true (q_R 0 0 0 0) [.ref a, .ref o] hp (q_ret none (hp.set a (o_Pa (b ||| b2) (f ||| f2) (l ||| l2)))) := by
  refine q_C.of hG (by decide) (Nat.le_of_ble_eq_true rfl) ?_
  refine q_aload_n d_Pa_addChoice_0 rfl rfl ?_
  refine q_dup d_Pa_addChoice_1 rfl ?_
  refine q_get d_Pa_addChoice_2 f_Pa_7 h_p rfl ?_
  refine q_aload_n d_Pa_addChoice_5 rfl rfl ?_
  refine q_get d_Pa_addChoice_6 f_Pa_7 h_o rfl ?_
  refine q_ior d_Pa_addChoice_9 ?_
  refine x_put d_Pa_addChoice_10 f_Pa_7 h_p (Nat.le_of_ble_eq_true rfl) (q_Bn (q_Bo hb hb2)) (q_Bf (q_Bo hb hb2)) (fun hp1 e1 h_p => ?_)
  have h_o := q_keep e1 h_o hne
  refine q_aload_n d_Pa_addChoice_13 rfl rfl ?_
  refine q_dup d_Pa_addChoice_14 rfl ?_
  refine q_get d_Pa_addChoice_15 f_Pa_13 h_p rfl ?_
  refine q_aload_n d_Pa_addChoice_18 rfl rfl ?_
  refine q_get d_Pa_addChoice_19 f_Pa_13 h_o rfl ?_
  refine q_ior d_Pa_addChoice_22 ?_
  refine x_put d_Pa_addChoice_23 f_Pa_13 h_p (Nat.le_of_ble_eq_true rfl) rfl rfl (fun hp2 e2 h_p => ?_)
  have h_o := q_keep e2 h_o hne
  refine q_aload_n d_Pa_addChoice_26 rfl rfl ?_
  refine q_dup d_Pa_addChoice_27 rfl ?_
  refine q_get d_Pa_addChoice_28 f_Pa_17 h_p rfl ?_
  refine q_aload_n d_Pa_addChoice_31 rfl rfl ?_
  refine q_get d_Pa_addChoice_32 f_Pa_17 h_o rfl ?_
  refine q_ior d_Pa_addChoice_35 ?_
  refine x_put d_Pa_addChoice_36 f_Pa_17 h_p (Nat.le_of_ble_eq_true rfl) rfl rfl (fun hp3 e3 h_p => ?_)
  have h_o := q_keep e3 h_o hne
  refine q_vret d_Pa_addChoice_39 rfl ?_ (Nat.le_of_ble_eq_true rfl) (Nat.le_of_ble_eq_true rfl) (by decide)
  exact ⟨rfl, by subst_vars; simp [List.set_set]⟩
set_option maxRecDepth 10000 in
set_option maxHeartbeats 1000000 in
theorem c_Pa_addBehind (hG : q_GG g) {hp : List va_E} {a o : Nat} {b f l b2 f2 l2 : Int32} (h_p : hp[a]? = some (o_Pa b f l)) (h_o : hp[o]? = some (o_Pa b2 f2 l2)) (hne : a ≠ o) (hb : q_B b) (hb2 : q_B b2) : q_C g m_Pa_addBehind true (q_R 0 0 0 0) [.ref a, .ref o] hp (q_ret none (hp.set a (o_Pa (b &&& b2) (f ||| (if b = 0 then 0 else f2)) (l2 ||| (if b2 = 0 then 0 else l))))) := by
  refine q_C.of hG (by decide) (Nat.le_of_ble_eq_true rfl) ?_
  refine q_aload_n d_Pa_addBehind_0 rfl rfl ?_
  refine q_dup d_Pa_addBehind_1 rfl ?_
  refine q_get d_Pa_addBehind_2 f_Pa_13 h_p rfl ?_
  refine q_aload_n d_Pa_addBehind_5 rfl rfl ?_
  refine q_get d_Pa_addBehind_6 f_Pa_7 h_p rfl ?_
  refine q_if_eq (tgt := 19) d_Pa_addBehind_9 (by decide) (fun b9 => ?_) (fun b9 => ?_)
  · skip
    refine q_iconst (v := 0) d_Pa_addBehind_19 (by decide) ?_
    refine q_ior d_Pa_addBehind_20 ?_
    refine x_put d_Pa_addBehind_21 f_Pa_13 h_p (Nat.le_of_ble_eq_true rfl) rfl rfl (fun hp1 e1 h_p => ?_)
    have h_o := q_keep e1 h_o hne
    refine q_aload_n d_Pa_addBehind_24 rfl rfl ?_
    refine q_aload_n d_Pa_addBehind_25 rfl rfl ?_
    refine q_get d_Pa_addBehind_26 f_Pa_17 h_o rfl ?_
    refine q_aload_n d_Pa_addBehind_29 rfl rfl ?_
    refine q_get d_Pa_addBehind_30 f_Pa_7 h_o rfl ?_
    refine q_if_eq (tgt := 43) d_Pa_addBehind_33 (by decide) (fun b33 => ?_) (fun b33 => ?_)
    · skip
      refine q_iconst (v := 0) d_Pa_addBehind_43 (by decide) ?_
      refine q_ior d_Pa_addBehind_44 ?_
      refine x_put d_Pa_addBehind_45 f_Pa_17 h_p (Nat.le_of_ble_eq_true rfl) rfl rfl (fun hp2 e2 h_p => ?_)
      have h_o := q_keep e2 h_o hne
      refine q_aload_n d_Pa_addBehind_48 rfl rfl ?_
      refine q_dup d_Pa_addBehind_49 rfl ?_
      refine q_get d_Pa_addBehind_50 f_Pa_7 h_p rfl ?_
      refine q_aload_n d_Pa_addBehind_53 rfl rfl ?_
      refine q_get d_Pa_addBehind_54 f_Pa_7 h_o rfl ?_
      refine q_iand d_Pa_addBehind_57 ?_
      refine x_put d_Pa_addBehind_58 f_Pa_7 h_p (Nat.le_of_ble_eq_true rfl) (q_Bn (q_Ba hb hb2)) (q_Bf (q_Ba hb hb2)) (fun hp3 e3 h_p => ?_)
      have h_o := q_keep e3 h_o hne
      refine q_vret d_Pa_addBehind_61 rfl ?_ (Nat.le_of_ble_eq_true rfl) (Nat.le_of_ble_eq_true rfl) (by decide)
      exact ⟨rfl, by subst e1; subst e2; subst e3; simp [List.set_set, b9, b33]⟩
    · skip
      refine q_aload_n d_Pa_addBehind_36 rfl rfl ?_
      refine q_get d_Pa_addBehind_37 f_Pa_17 h_p rfl ?_
      refine q_goto (tgt := 44) d_Pa_addBehind_40 (by decide) ?_
      refine q_ior d_Pa_addBehind_44 ?_
      refine x_put d_Pa_addBehind_45 f_Pa_17 h_p (Nat.le_of_ble_eq_true rfl) rfl rfl (fun hp4 e4 h_p => ?_)
      have h_o := q_keep e4 h_o hne
      refine q_aload_n d_Pa_addBehind_48 rfl rfl ?_
      refine q_dup d_Pa_addBehind_49 rfl ?_
      refine q_get d_Pa_addBehind_50 f_Pa_7 h_p rfl ?_
      refine q_aload_n d_Pa_addBehind_53 rfl rfl ?_
      refine q_get d_Pa_addBehind_54 f_Pa_7 h_o rfl ?_
      refine q_iand d_Pa_addBehind_57 ?_
      refine x_put d_Pa_addBehind_58 f_Pa_7 h_p (Nat.le_of_ble_eq_true rfl) (q_Bn (q_Ba hb hb2)) (q_Bf (q_Ba hb hb2)) (fun hp5 e5 h_p => ?_)
      have h_o := q_keep e5 h_o hne
      refine q_vret d_Pa_addBehind_61 rfl ?_ (Nat.le_of_ble_eq_true rfl) (Nat.le_of_ble_eq_true rfl) (by decide)
      exact ⟨rfl, by subst e1; subst e4; subst e5; simp [List.set_set, b9, b33]⟩
  · skip
    refine q_aload_n d_Pa_addBehind_12 rfl rfl ?_
    refine q_get d_Pa_addBehind_13 f_Pa_13 h_o rfl ?_
    refine q_goto (tgt := 20) d_Pa_addBehind_16 (by decide) ?_
    refine q_ior d_Pa_addBehind_20 ?_
    refine x_put d_Pa_addBehind_21 f_Pa_13 h_p (Nat.le_of_ble_eq_true rfl) rfl rfl (fun hp6 e6 h_p => ?_)
    have h_o := q_keep e6 h_o hne
    refine q_aload_n d_Pa_addBehind_24 rfl rfl ?_
    refine q_aload_n d_Pa_addBehind_25 rfl rfl ?_
    refine q_get d_Pa_addBehind_26 f_Pa_17 h_o rfl ?_
    refine q_aload_n d_Pa_addBehind_29 rfl rfl ?_
    refine q_get d_Pa_addBehind_30 f_Pa_7 h_o rfl ?_
    refine q_if_eq (tgt := 43) d_Pa_addBehind_33 (by decide) (fun b33 => ?_) (fun b33 => ?_)
    · skip
      refine q_iconst (v := 0) d_Pa_addBehind_43 (by decide) ?_
      refine q_ior d_Pa_addBehind_44 ?_
      refine x_put d_Pa_addBehind_45 f_Pa_17 h_p (Nat.le_of_ble_eq_true rfl) rfl rfl (fun hp7 e7 h_p => ?_)
      have h_o := q_keep e7 h_o hne
      refine q_aload_n d_Pa_addBehind_48 rfl rfl ?_
      refine q_dup d_Pa_addBehind_49 rfl ?_
      refine q_get d_Pa_addBehind_50 f_Pa_7 h_p rfl ?_
      refine q_aload_n d_Pa_addBehind_53 rfl rfl ?_
      refine q_get d_Pa_addBehind_54 f_Pa_7 h_o rfl ?_
      refine q_iand d_Pa_addBehind_57 ?_
      refine x_put d_Pa_addBehind_58 f_Pa_7 h_p (Nat.le_of_ble_eq_true rfl) (q_Bn (q_Ba hb hb2)) (q_Bf (q_Ba hb hb2)) (fun hp8 e8 h_p => ?_)
      have h_o := q_keep e8 h_o hne
      refine q_vret d_Pa_addBehind_61 rfl ?_ (Nat.le_of_ble_eq_true rfl) (Nat.le_of_ble_eq_true rfl) (by decide)
      exact ⟨rfl, by subst e6; subst e7; subst e8; simp [List.set_set, b9, b33]⟩
    · skip
      refine q_aload_n d_Pa_addBehind_36 rfl rfl ?_
      refine q_get d_Pa_addBehind_37 f_Pa_17 h_p rfl ?_
      refine q_goto (tgt := 44) d_Pa_addBehind_40 (by decide) ?_
      refine q_ior d_Pa_addBehind_44 ?_
      refine x_put d_Pa_addBehind_45 f_Pa_17 h_p (Nat.le_of_ble_eq_true rfl) rfl rfl (fun hp9 e9 h_p => ?_)
      have h_o := q_keep e9 h_o hne
      refine q_aload_n d_Pa_addBehind_48 rfl rfl ?_
      refine q_dup d_Pa_addBehind_49 rfl ?_
      refine q_get d_Pa_addBehind_50 f_Pa_7 h_p rfl ?_
      refine q_aload_n d_Pa_addBehind_53 rfl rfl ?_
      refine q_get d_Pa_addBehind_54 f_Pa_7 h_o rfl ?_
      refine q_iand d_Pa_addBehind_57 ?_
      refine x_put d_Pa_addBehind_58 f_Pa_7 h_p (Nat.le_of_ble_eq_true rfl) (q_Bn (q_Ba hb hb2)) (q_Bf (q_Ba hb hb2)) (fun hp10 e10 h_p => ?_)
      have h_o := q_keep e10 h_o hne
      refine q_vret d_Pa_addBehind_61 rfl ?_ (Nat.le_of_ble_eq_true rfl) (Nat.le_of_ble_eq_true rfl) (by decide)
      exact ⟨rfl, by subst e6; subst e9; subst e10; simp [List.set_set, b9, b33]⟩
set_option maxRecDepth 10000 in
set_option maxHeartbeats 1000000 in
theorem c_Ta_byteAt (hG : q_GG g) {hp : List va_E} {a n i : Nat} {f : Nat → Int32} (h_t : hp[a]? = some (o_Ta a (nI n))) (h_b : hp[a + 1]? = some (a_B 100 f)) (hn : n ≤ 100) (hi : i < 2 ^ 30) : q_C g m_Ta_byteAt false (q_R 0 0 0 0) [.ref a, .int (nI i)] hp (q_ret (some (.int (if i < n then f i &&& 255 else -1))) hp) := by
  refine q_C.of hG (by decide) (Nat.le_of_ble_eq_true rfl) ?_
  refine q_iload_n d_Ta_byteAt_0 rfl ?_
  refine q_if_lt (tgt := 25) d_Ta_byteAt_1 (by decide) (fun b1 => ?_) (fun b1 => ?_)
  · skip
    exact absurd b1 (nI_pos (by omega))
  · skip
    refine q_iload_n d_Ta_byteAt_4 rfl ?_
    refine q_aload_n d_Ta_byteAt_5 rfl rfl ?_
    refine q_get d_Ta_byteAt_6 f_Ta_15 h_t rfl ?_
    refine q_icmp_ge (tgt := 25) d_Ta_byteAt_9 (by decide) (fun b9 => ?_) (fun b9 => ?_)
    · skip
      have hlt : ¬ i < n := fun q => nI_ge q (by omega) b9
      refine q_iconst (v := (-1)) d_Ta_byteAt_25 (by decide) ?_
      refine q_iret d_Ta_byteAt_26 rfl ?_ (Nat.le_of_ble_eq_true rfl) (Nat.le_of_ble_eq_true rfl) (by decide)
      exact ⟨by simp [hlt, nI_clamp (show i < 2 ^ 31 by omega)], rfl⟩
    · skip
      have hlt : i < n := Nat.lt_of_not_le fun q => b9 (nI_le q (by omega))
      have hin : vp_in (nI i) 100 := vp_in_nI (by omega) (by omega)
      refine q_aload_n d_Ta_byteAt_12 rfl rfl ?_
      refine q_get d_Ta_byteAt_13 f_Ta_9 h_t rfl ?_
      refine q_iload_n d_Ta_byteAt_16 rfl ?_
      refine q_bald d_Ta_byteAt_17 h_b rfl (by assumption) ?_
      refine q_sipush (v := 255) d_Ta_byteAt_18 (by decide) ?_
      refine q_iand d_Ta_byteAt_21 ?_
      refine q_goto (tgt := 26) d_Ta_byteAt_22 (by decide) ?_
      refine q_iret d_Ta_byteAt_26 rfl ?_ (Nat.le_of_ble_eq_true rfl) (Nat.le_of_ble_eq_true rfl) (by decide)
      exact ⟨by simp [hlt, nI_clamp (show i < 2 ^ 31 by omega)], rfl⟩
set_option maxRecDepth 10000 in
set_option maxHeartbeats 1000000 in
theorem c_Co_isFull (hG : q_GG g) {hp : List va_E} {a : Nat} {pc en : Int32} (h_c : hp[a]? = some (o_Co a pc en)) : q_C g m_Co_isFull false (q_R 0 0 0 0) [.ref a] hp (q_ret (some (.int (if pc ≤ 12 then 0 else 1))) hp) := by
  refine q_C.of hG (by decide) (Nat.le_of_ble_eq_true rfl) ?_
  refine q_aload_n d_Co_isFull_0 rfl rfl ?_
  refine q_get d_Co_isFull_1 f_Co_9 h_c rfl ?_
  refine q_bipush (v := 12) d_Co_isFull_4 (by decide) ?_
  refine q_icmp_le (tgt := 13) d_Co_isFull_6 (by decide) (fun b6 => ?_) (fun b6 => ?_)
  · skip
    refine q_iconst (v := 0) d_Co_isFull_13 (by decide) ?_
    refine q_zret d_Co_isFull_14 rfl (by decide) ?_ (Nat.le_of_ble_eq_true rfl) (Nat.le_of_ble_eq_true rfl) (by decide)
    exact ⟨by simp [b6], rfl⟩
  · skip
    refine q_iconst (v := 1) d_Co_isFull_9 (by decide) ?_
    refine q_goto (tgt := 14) d_Co_isFull_10 (by decide) ?_
    refine q_zret d_Co_isFull_14 rfl (by decide) ?_ (Nat.le_of_ble_eq_true rfl) (Nat.le_of_ble_eq_true rfl) (by decide)
    exact ⟨by simp [b6], rfl⟩
set_option maxRecDepth 10000 in
set_option maxHeartbeats 1000000 in
theorem c_Co_isEnd (hG : q_GG g) {hp : List va_E} {a : Nat} {pc en i : Int32} (h_c : hp[a]? = some (o_Co a pc en)) : q_C g m_Co_isEnd false (q_R 0 0 0 0) [.ref a, .int i] hp (q_ret (some (.int (if (en >>> (i &&& 31)) &&& 1 = 0 then 0 else 1))) hp) := by
  refine q_C.of hG (by decide) (Nat.le_of_ble_eq_true rfl) ?_
  refine q_aload_n d_Co_isEnd_0 rfl rfl ?_
  refine q_get d_Co_isEnd_1 f_Co_28 h_c rfl ?_
  refine q_iload_n d_Co_isEnd_4 rfl ?_
  refine q_ishr d_Co_isEnd_5 ?_
  refine q_iconst (v := 1) d_Co_isEnd_6 (by decide) ?_
  refine q_iand d_Co_isEnd_7 ?_
  refine q_if_eq (tgt := 15) d_Co_isEnd_8 (by decide) (fun b8 => ?_) (fun b8 => ?_)
  · skip
    refine q_iconst (v := 0) d_Co_isEnd_15 (by decide) ?_
    refine q_zret d_Co_isEnd_16 rfl (by decide) ?_ (Nat.le_of_ble_eq_true rfl) (Nat.le_of_ble_eq_true rfl) (by decide)
    exact ⟨by simp [b8], rfl⟩
  · skip
    refine q_iconst (v := 1) d_Co_isEnd_11 (by decide) ?_
    refine q_goto (tgt := 16) d_Co_isEnd_12 (by decide) ?_
    refine q_zret d_Co_isEnd_16 rfl (by decide) ?_ (Nat.le_of_ble_eq_true rfl) (Nat.le_of_ble_eq_true rfl) (by decide)
    exact ⟨by simp [b8], rfl⟩
set_option maxRecDepth 10000 in
set_option maxHeartbeats 1000000 in
theorem c_Co_finish (hG : q_GG g) {hp : List va_E} {a o : Nat} {pc en b f l : Int32} {s : Nat → Int32} (h_c : hp[a]? = some (o_Co a pc en)) (h_s : hp[a + 1]? = some (a_I 13 s)) (h_o : hp[o]? = some (o_Pa b f l)) (h1 : a ≠ o) (h2 : a + 1 ≠ o) : q_C g m_Co_finish true (q_R 0 0 0 0) [.ref a, .ref o] hp (q_ret none ((hp.set (a + 1) (a_I 13 (upd s 0 f))).set a (o_Co a pc (l ||| (if b = 0 then 0 else 1))))) := by
  refine q_C.of hG (by decide) (Nat.le_of_ble_eq_true rfl) ?_
  have hin : vp_in 0 13 := by unfold vp_in; decide
  refine q_aload_n d_Co_finish_0 rfl rfl ?_
  refine q_get d_Co_finish_1 f_Co_15 h_c rfl ?_
  refine q_iconst (v := 0) d_Co_finish_4 (by decide) ?_
  refine q_aload_n d_Co_finish_5 rfl rfl ?_
  refine q_get d_Co_finish_6 f_Co_37 h_o rfl ?_
  refine x_iast d_Co_finish_9 h_s rfl (by assumption) (fun hp1 e1 h_s => ?_)
  have h_c := q_keep e1 h_c (by omega)
  have h_o := q_keep e1 h_o h2
  refine q_aload_n d_Co_finish_10 rfl rfl ?_
  refine q_aload_n d_Co_finish_11 rfl rfl ?_
  refine q_get d_Co_finish_12 f_Co_42 h_o rfl ?_
  refine q_aload_n d_Co_finish_15 rfl rfl ?_
  refine q_get d_Co_finish_16 f_Co_45 h_o rfl ?_
  refine q_if_eq (tgt := 26) d_Co_finish_19 (by decide) (fun b19 => ?_) (fun b19 => ?_)
  · skip
    refine q_iconst (v := 0) d_Co_finish_26 (by decide) ?_
    refine q_ior d_Co_finish_27 ?_
    refine x_put d_Co_finish_28 f_Co_28 h_c (Nat.le_of_ble_eq_true rfl) rfl rfl (fun hp2 e2 h_c => ?_)
    have h_s := q_keep e2 h_s (by omega)
    have h_o := q_keep e2 h_o h1
    refine q_vret d_Co_finish_31 rfl ?_ (Nat.le_of_ble_eq_true rfl) (Nat.le_of_ble_eq_true rfl) (by decide)
    refine ⟨rfl, ?_⟩
    subst e1; subst e2
    simp [b19] <;> rfl
  · skip
    refine q_iconst (v := 1) d_Co_finish_22 (by decide) ?_
    refine q_goto (tgt := 27) d_Co_finish_23 (by decide) ?_
    refine q_ior d_Co_finish_27 ?_
    refine x_put d_Co_finish_28 f_Co_28 h_c (Nat.le_of_ble_eq_true rfl) rfl rfl (fun hp3 e3 h_c => ?_)
    have h_s := q_keep e3 h_s (by omega)
    have h_o := q_keep e3 h_o h1
    refine q_vret d_Co_finish_31 rfl ?_ (Nat.le_of_ble_eq_true rfl) (Nat.le_of_ble_eq_true rfl) (by decide)
    refine ⟨rfl, ?_⟩
    subst e1; subst e3
    simp [b19] <;> rfl
set_option maxRecDepth 10000 in
set_option maxHeartbeats 1000000 in
theorem c_Co_addAct (hG : q_GG g) {hp : List va_E} {a n : Nat} {en x y z : Int32} {k v f : Nat → Int32} (h_c : hp[a]? = some (o_Co a (nI n) en)) (h_k : hp[a + 2]? = some (a_I 13 k)) (h_v : hp[a + 3]? = some (a_I 13 v)) (h_f : hp[a + 4]? = some (a_I 13 f)) (hn : n < 13) : q_C g m_Co_addAct true (q_R 0 0 0 0) [.ref a, .int x, .int y, .int z] hp (q_ret (some (.int (nI n))) ((((hp.set (a + 2) (a_I 13 (upd k n x))).set (a + 3) (a_I 13 (upd v n y))).set (a + 4) (a_I 13 (upd f n z))).set a (o_Co a (nI (n + 1)) en))) := by
  refine q_C.of hG (by decide) (Nat.le_of_ble_eq_true rfl) ?_
  have hin : vp_in (nI n) 13 := vp_in_nI hn (by decide)
  have hcl : (nI n).toNatClampNeg = n := nI_clamp (by omega)
  refine q_aload_n d_Co_addAct_0 rfl rfl ?_
  refine q_get d_Co_addAct_1 f_Co_9 h_c rfl ?_
  refine q_istore d_Co_addAct_4 (by decide) rfl ?_
  refine q_aload_n d_Co_addAct_6 rfl rfl ?_
  refine q_get d_Co_addAct_7 f_Co_19 h_c rfl ?_
  refine q_iload d_Co_addAct_10 rfl ?_
  refine q_iload_n d_Co_addAct_12 rfl ?_
  refine x_iast d_Co_addAct_13 h_k rfl (by assumption) (fun hp1 e1 h_k => ?_)
  have h_c := q_keep e1 h_c (by omega)
  have h_v := q_keep e1 h_v (by omega)
  have h_f := q_keep e1 h_f (by omega)
  refine q_aload_n d_Co_addAct_14 rfl rfl ?_
  refine q_get d_Co_addAct_15 f_Co_22 h_c rfl ?_
  refine q_iload d_Co_addAct_18 rfl ?_
  refine q_iload_n d_Co_addAct_20 rfl ?_
  refine x_iast d_Co_addAct_21 h_v rfl (by assumption) (fun hp2 e2 h_v => ?_)
  have h_c := q_keep e2 h_c (by omega)
  have h_k := q_keep e2 h_k (by omega)
  have h_f := q_keep e2 h_f (by omega)
  refine q_aload_n d_Co_addAct_22 rfl rfl ?_
  refine q_get d_Co_addAct_23 f_Co_25 h_c rfl ?_
  refine q_iload d_Co_addAct_26 rfl ?_
  refine q_iload_n d_Co_addAct_28 rfl ?_
  refine x_iast d_Co_addAct_29 h_f rfl (by assumption) (fun hp3 e3 h_f => ?_)
  have h_c := q_keep e3 h_c (by omega)
  have h_k := q_keep e3 h_k (by omega)
  have h_v := q_keep e3 h_v (by omega)
  refine q_aload_n d_Co_addAct_30 rfl rfl ?_
  refine q_dup d_Co_addAct_31 rfl ?_
  refine q_get d_Co_addAct_32 f_Co_9 h_c rfl ?_
  refine q_iconst (v := 1) d_Co_addAct_35 (by decide) ?_
  refine q_iadd d_Co_addAct_36 ?_
  refine x_put d_Co_addAct_37 f_Co_9 h_c (Nat.le_of_ble_eq_true rfl) rfl rfl (fun hp4 e4 h_c => ?_)
  have h_k := q_keep e4 h_k (by omega)
  have h_v := q_keep e4 h_v (by omega)
  have h_f := q_keep e4 h_f (by omega)
  refine q_iload d_Co_addAct_40 rfl ?_
  refine q_iret d_Co_addAct_42 rfl ?_ (Nat.le_of_ble_eq_true rfl) (Nat.le_of_ble_eq_true rfl) (by decide)
  exact ⟨rfl, by subst e1 e2 e3 e4; simp [hcl, nI_1]⟩
end C1
end
section
/-! the JDK's small methods, loops of Course -/
section C2
theorem q_same {hp : List va_E} {a : Nat} {x : va_E} (h : hp[a]? = some x) : hp.set a x = hp := by
  apply List.ext_getElem?
  intro i
  by_cases hi : i = a
  · subst hi
    rw [q_self h, h]
  · rw [List.getElem?_set_ne (Ne.symm hi)]
variable {g : q_G}
def j_iu (x y : Int32) : Int32 := (x.toUInt32 >>> (y.toUInt32 &&& Int32.toUInt32 31)).toInt32
def j_lu (x : Int64) (y : Int32) : Int64 := (x.toUInt64 >>> (y.toInt64.toUInt64 &&& Int64.toUInt64 63)).toInt64
def j_i1 (x : Int32) : Int32 := x - (j_iu x 1 &&& 1431655765)
def j_i2 (x : Int32) : Int32 := (x &&& 858993459) + (j_iu x 2 &&& 858993459)
def j_i3 (x : Int32) : Int32 := (x + j_iu x 4) &&& 252645135
def j_i4 (x : Int32) : Int32 := x + j_iu x 8
def j_i5 (x : Int32) : Int32 := x + j_iu x 16
def j_ib (x : Int32) : Int32 := j_i5 (j_i4 (j_i3 (j_i2 (j_i1 x)))) &&& 63
def j_l1 (x : Int64) : Int64 := x - (j_lu x 1 &&& 6148914691236517205)
def j_l2 (x : Int64) : Int64 := (x &&& 3689348814741910323) + (j_lu x 2 &&& 3689348814741910323)
def j_l3 (x : Int64) : Int64 := (x + j_lu x 4) &&& 1085102592571150095
def j_l4 (x : Int64) : Int64 := x + j_lu x 8
def j_l5 (x : Int64) : Int64 := x + j_lu x 16
def j_l6 (x : Int64) : Int64 := x + j_lu x 32
def j_lb (x : Int64) : Int32 := (j_l6 (j_l5 (j_l4 (j_l3 (j_l2 (j_l1 x)))))).toInt32 &&& 127
set_option maxRecDepth 10000 in
set_option maxHeartbeats 1000000 in
theorem c_In_bitCount (hG : q_GG g) {hp : List va_E} {x : Int32} : q_C g m_In_bitCount false (q_R 0 0 0 0) [.int x] hp (q_ret (some (.int (j_ib x))) hp) := by
  refine q_C.of hG (by decide) (Nat.le_of_ble_eq_true rfl) ?_
  refine q_iload_n d_In_bitCount_0 rfl ?_
  refine q_iload_n d_In_bitCount_1 rfl ?_
  refine q_iconst (v := 1) d_In_bitCount_2 (by decide) ?_
  refine q_iushr d_In_bitCount_3 ?_
  refine x_ldcw d_In_bitCount_4 c_In_265 ?_
  refine q_iand d_In_bitCount_7 ?_
  refine q_isub d_In_bitCount_8 ?_
  refine q_istore_n d_In_bitCount_9 rfl (by decide) rfl ?_
  refine q_iload_n d_In_bitCount_10 rfl ?_
  refine x_ldcw d_In_bitCount_11 c_In_266 ?_
  refine q_iand d_In_bitCount_14 ?_
  refine q_iload_n d_In_bitCount_15 rfl ?_
  refine q_iconst (v := 2) d_In_bitCount_16 (by decide) ?_
  refine q_iushr d_In_bitCount_17 ?_
  refine x_ldcw d_In_bitCount_18 c_In_266 ?_
  refine q_iand d_In_bitCount_21 ?_
  refine q_iadd d_In_bitCount_22 ?_
  refine q_istore_n d_In_bitCount_23 rfl (by decide) rfl ?_
  refine q_iload_n d_In_bitCount_24 rfl ?_
  refine q_iload_n d_In_bitCount_25 rfl ?_
  refine q_iconst (v := 4) d_In_bitCount_26 (by decide) ?_
  refine q_iushr d_In_bitCount_27 ?_
  refine q_iadd d_In_bitCount_28 ?_
  refine x_ldcw d_In_bitCount_29 c_In_267 ?_
  refine q_iand d_In_bitCount_32 ?_
  refine q_istore_n d_In_bitCount_33 rfl (by decide) rfl ?_
  refine q_iload_n d_In_bitCount_34 rfl ?_
  refine q_iload_n d_In_bitCount_35 rfl ?_
  refine q_bipush (v := 8) d_In_bitCount_36 (by decide) ?_
  refine q_iushr d_In_bitCount_38 ?_
  refine q_iadd d_In_bitCount_39 ?_
  refine q_istore_n d_In_bitCount_40 rfl (by decide) rfl ?_
  refine q_iload_n d_In_bitCount_41 rfl ?_
  refine q_iload_n d_In_bitCount_42 rfl ?_
  refine q_bipush (v := 16) d_In_bitCount_43 (by decide) ?_
  refine q_iushr d_In_bitCount_45 ?_
  refine q_iadd d_In_bitCount_46 ?_
  refine q_istore_n d_In_bitCount_47 rfl (by decide) rfl ?_
  refine q_iload_n d_In_bitCount_48 rfl ?_
  refine q_bipush (v := 63) d_In_bitCount_49 (by decide) ?_
  refine q_iand d_In_bitCount_51 ?_
  refine q_iret d_In_bitCount_52 rfl ?_ (Nat.le_of_ble_eq_true rfl) (Nat.le_of_ble_eq_true rfl) (by decide)
  exact ⟨rfl, rfl⟩
set_option maxRecDepth 10000 in
set_option maxHeartbeats 1000000 in
theorem c_Lo_bitCount (hG : q_GG g) {hp : List va_E} {x : Int64} : q_C g m_Lo_bitCount false (q_R 0 0 0 0) [.long x] hp (q_ret (some (.int (j_lb x))) hp) := by
  refine q_C.of hG (by decide) (Nat.le_of_ble_eq_true rfl) ?_
  refine q_lload_n d_Lo_bitCount_0 rfl ?_
  refine q_lload_n d_Lo_bitCount_1 rfl ?_
  refine q_iconst (v := 1) d_Lo_bitCount_2 (by decide) ?_
  refine q_lushr d_Lo_bitCount_3 ?_
  refine q_ldc2 d_Lo_bitCount_4 c_Lo_314 ?_
  refine q_land d_Lo_bitCount_7 ?_
  refine q_lsub d_Lo_bitCount_8 ?_
  refine q_lstore_n d_Lo_bitCount_9 rfl (by decide) rfl ?_
  refine q_lload_n d_Lo_bitCount_10 rfl ?_
  refine q_ldc2 d_Lo_bitCount_11 c_Lo_316 ?_
  refine q_land d_Lo_bitCount_14 ?_
  refine q_lload_n d_Lo_bitCount_15 rfl ?_
  refine q_iconst (v := 2) d_Lo_bitCount_16 (by decide) ?_
  refine q_lushr d_Lo_bitCount_17 ?_
  refine q_ldc2 d_Lo_bitCount_18 c_Lo_316 ?_
  refine q_land d_Lo_bitCount_21 ?_
  refine q_ladd d_Lo_bitCount_22 ?_
  refine q_lstore_n d_Lo_bitCount_23 rfl (by decide) rfl ?_
  refine q_lload_n d_Lo_bitCount_24 rfl ?_
  refine q_lload_n d_Lo_bitCount_25 rfl ?_
  refine q_iconst (v := 4) d_Lo_bitCount_26 (by decide) ?_
  refine q_lushr d_Lo_bitCount_27 ?_
  refine q_ladd d_Lo_bitCount_28 ?_
  refine q_ldc2 d_Lo_bitCount_29 c_Lo_318 ?_
  refine q_land d_Lo_bitCount_32 ?_
  refine q_lstore_n d_Lo_bitCount_33 rfl (by decide) rfl ?_
  refine q_lload_n d_Lo_bitCount_34 rfl ?_
  refine q_lload_n d_Lo_bitCount_35 rfl ?_
  refine q_bipush (v := 8) d_Lo_bitCount_36 (by decide) ?_
  refine q_lushr d_Lo_bitCount_38 ?_
  refine q_ladd d_Lo_bitCount_39 ?_
  refine q_lstore_n d_Lo_bitCount_40 rfl (by decide) rfl ?_
  refine q_lload_n d_Lo_bitCount_41 rfl ?_
  refine q_lload_n d_Lo_bitCount_42 rfl ?_
  refine q_bipush (v := 16) d_Lo_bitCount_43 (by decide) ?_
  refine q_lushr d_Lo_bitCount_45 ?_
  refine q_ladd d_Lo_bitCount_46 ?_
  refine q_lstore_n d_Lo_bitCount_47 rfl (by decide) rfl ?_
  refine q_lload_n d_Lo_bitCount_48 rfl ?_
  refine q_lload_n d_Lo_bitCount_49 rfl ?_
  refine q_bipush (v := 32) d_Lo_bitCount_50 (by decide) ?_
  refine q_lushr d_Lo_bitCount_52 ?_
  refine q_ladd d_Lo_bitCount_53 ?_
  refine q_lstore_n d_Lo_bitCount_54 rfl (by decide) rfl ?_
  refine q_lload_n d_Lo_bitCount_55 rfl ?_
  refine q_l2i d_Lo_bitCount_56 ?_
  refine q_bipush (v := 127) d_Lo_bitCount_57 (by decide) ?_
  refine q_iand d_Lo_bitCount_59 ?_
  refine q_iret d_Lo_bitCount_60 rfl ?_ (Nat.le_of_ble_eq_true rfl) (Nat.le_of_ble_eq_true rfl) (by decide)
  exact ⟨rfl, rfl⟩
theorem u_fillI (f : Nat → Int32) (v : Int32) (i m : Nat) (hm : m = i) : upd (fun j => if j < i then v else f j) m v = fun j => if j < i + 1 then v else f j := by
  subst hm
  funext j
  unfold upd
  by_cases h : j = m
  · subst h; simp
  · by_cases h2 : j < m
    · simp [h, h2, Nat.lt_succ_of_lt h2]
    · have : ¬ j < m + 1 := by omega
      simp [h, h2, this]
set_option maxRecDepth 10000 in
set_option maxHeartbeats 1000000 in
theorem l_fillI {hp : List va_E} {a n : Nat} {v : Int32} {f : Nat → Int32} (hn : n < 2 ^ 31) : ∀ (k i : Nat) (hp0 : List va_E), i + k = n → hp0[a]? = some (a_I n (fun j => if j < i then v else f j)) → hp0 = hp.set a (a_I n (fun j => if j < i then v else f j)) → q_J g m_Ar_fillI true (q_R 0 0 0 0) (q_ret none (hp.set a (a_I n (fun j => if j < n then v else f j)))) 5 [some (.ref a), some (.int v), some (.int (nI i)), some (.int (nI n))] [] hp0 0 0 true := by
  intro k
  induction k with
  | zero =>
    intro i hp0 hi h_a e0
    have hi : i = n := by omega
    subst hi
    refine q_iload_n d_Ar_fillI_5 rfl ?_
    refine q_iload_n d_Ar_fillI_6 rfl ?_
    refine q_icmp_ge (tgt := 20) d_Ar_fillI_7 (by decide) (fun b7 => ?_) (fun b7 => ?_)
    · skip
      refine q_vret d_Ar_fillI_20 rfl ?_ (Nat.le_of_ble_eq_true rfl) (Nat.le_of_ble_eq_true rfl) (by decide)
      exact ⟨rfl, e0⟩
    · skip
      exact absurd (nI_le (Nat.le_refl i) hn) b7
  | succ k ih =>
    intro i hp0 hi h_a e0
    have hcl : (nI i).toNatClampNeg = i := nI_clamp (by omega)
    have hin : vp_in (nI i) n := vp_in_nI (by omega) hn
    refine q_iload_n d_Ar_fillI_5 rfl ?_
    refine q_iload_n d_Ar_fillI_6 rfl ?_
    refine q_icmp_ge (tgt := 20) d_Ar_fillI_7 (by decide) (fun b7 => ?_) (fun b7 => ?_)
    · skip
      exact absurd b7 (nI_ge (show i < n by omega) hn)
    · skip
      refine q_aload_n d_Ar_fillI_10 rfl rfl ?_
      refine q_iload_n d_Ar_fillI_11 rfl ?_
      refine q_iload_n d_Ar_fillI_12 rfl ?_
      refine x_iast d_Ar_fillI_13 h_a rfl hin (fun hp1 e1 h_a => ?_)
      refine q_iinc d_Ar_fillI_14 rfl (show _ + Int32.ofInt 1 = _ + 1 from rfl) (by decide) rfl ?_
      refine q_goto (tgt := 5) d_Ar_fillI_17 (by decide) ?_
      rw [nI_1]
      have hf := u_fillI f v i _ hcl
      rw [hf] at h_a e1
      exact ih (i + 1) hp1 (by omega) h_a (by rw [e1, e0, List.set_set])
set_option maxRecDepth 10000 in
set_option maxHeartbeats 1000000 in
theorem c_Ar_fillI (hG : q_GG g) {hp : List va_E} {a n : Nat} {v : Int32} {f : Nat → Int32} (h_a : hp[a]? = some (a_I n f)) (hn : n < 2 ^ 31) : q_C g m_Ar_fillI true (q_R 0 0 0 0) [.ref a, .int v] hp (q_ret none (hp.set a (a_I n (fun j => if j < n then v else f j)))) := by
  refine q_C.of hG (by decide) (Nat.le_of_ble_eq_true rfl) ?_
  refine q_iconst (v := 0) d_Ar_fillI_0 (by decide) ?_
  refine q_istore_n d_Ar_fillI_1 rfl (by decide) rfl ?_
  refine q_aload_n d_Ar_fillI_2 rfl rfl ?_
  refine q_alen d_Ar_fillI_3 h_a rfl rfl ?_
  refine q_istore_n d_Ar_fillI_4 rfl (by decide) rfl ?_
  refine q_wrote ?_
  exact l_fillI hn n 0 hp (by omega) (by simpa using h_a) (by simp only [Nat.not_lt_zero, if_false]; exact (q_same h_a).symm)
theorem u_fillJ (f : Nat → Int64) (v : Int64) (i m : Nat) (hm : m = i) : vp_updL (fun j => if j < i then v else f j) m v = fun j => if j < i + 1 then v else f j := by
  subst hm
  funext j
  unfold vp_updL
  by_cases h : j = m
  · subst h; simp
  · by_cases h2 : j < m
    · simp [h, h2, Nat.lt_succ_of_lt h2]
    · have : ¬ j < m + 1 := by omega
      simp [h, h2, this]
set_option maxRecDepth 10000 in
set_option maxHeartbeats 1000000 in
theorem l_fillJ {hp : List va_E} {a n : Nat} {v : Int64} {f : Nat → Int64} (hn : n < 2 ^ 31) : ∀ (k i : Nat) (hp0 : List va_E), i + k = n → hp0[a]? = some (a_J n (fun j => if j < i then v else f j)) → hp0 = hp.set a (a_J n (fun j => if j < i then v else f j)) → q_J g m_Ar_fillJ true (q_R 0 0 0 0) (q_ret none (hp.set a (a_J n (fun j => if j < n then v else f j)))) 6 [some (.ref a), some (.long v), none, some (.int (nI i)), some (.int (nI n))] [] hp0 0 0 true := by
  intro k
  induction k with
  | zero =>
    intro i hp0 hi h_a e0
    have hi : i = n := by omega
    subst hi
    refine q_iload_n d_Ar_fillJ_6 rfl ?_
    refine q_iload d_Ar_fillJ_7 rfl ?_
    refine q_icmp_ge (tgt := 22) d_Ar_fillJ_9 (by decide) (fun b9 => ?_) (fun b9 => ?_)
    · skip
      refine q_vret d_Ar_fillJ_22 rfl ?_ (Nat.le_of_ble_eq_true rfl) (Nat.le_of_ble_eq_true rfl) (by decide)
      exact ⟨rfl, e0⟩
    · skip
      exact absurd (nI_le (Nat.le_refl i) hn) b9
  | succ k ih =>
    intro i hp0 hi h_a e0
    have hcl : (nI i).toNatClampNeg = i := nI_clamp (by omega)
    have hin : vp_in (nI i) n := vp_in_nI (by omega) hn
    refine q_iload_n d_Ar_fillJ_6 rfl ?_
    refine q_iload d_Ar_fillJ_7 rfl ?_
    refine q_icmp_ge (tgt := 22) d_Ar_fillJ_9 (by decide) (fun b9 => ?_) (fun b9 => ?_)
    · skip
      exact absurd b9 (nI_ge (show i < n by omega) hn)
    · skip
      refine q_aload_n d_Ar_fillJ_12 rfl rfl ?_
      refine q_iload_n d_Ar_fillJ_13 rfl ?_
      refine q_lload_n d_Ar_fillJ_14 rfl ?_
      refine x_last d_Ar_fillJ_15 h_a rfl hin (fun hp1 e1 h_a => ?_)
      refine q_iinc d_Ar_fillJ_16 rfl (show _ + Int32.ofInt 1 = _ + 1 from rfl) (by decide) rfl ?_
      refine q_goto (tgt := 6) d_Ar_fillJ_19 (by decide) ?_
      rw [nI_1]
      have hf := u_fillJ f v i _ hcl
      rw [hf] at h_a e1
      exact ih (i + 1) hp1 (by omega) h_a (by rw [e1, e0, List.set_set])
set_option maxRecDepth 10000 in
set_option maxHeartbeats 1000000 in
theorem c_Ar_fillJ (hG : q_GG g) {hp : List va_E} {a n : Nat} {v : Int64} {f : Nat → Int64} (h_a : hp[a]? = some (a_J n f)) (hn : n < 2 ^ 31) : q_C g m_Ar_fillJ true (q_R 0 0 0 0) [.ref a, .long v] hp (q_ret none (hp.set a (a_J n (fun j => if j < n then v else f j)))) := by
  refine q_C.of hG (by decide) (Nat.le_of_ble_eq_true rfl) ?_
  refine q_iconst (v := 0) d_Ar_fillJ_0 (by decide) ?_
  refine q_istore_n d_Ar_fillJ_1 rfl (by decide) rfl ?_
  refine q_aload_n d_Ar_fillJ_2 rfl rfl ?_
  refine q_alen d_Ar_fillJ_3 h_a rfl rfl ?_
  refine q_istore d_Ar_fillJ_4 (by decide) rfl ?_
  refine q_wrote ?_
  exact l_fillJ hn n 0 hp (by omega) (by simpa using h_a) (by simp only [Nat.not_lt_zero, if_false]; exact (q_same h_a).symm)
end C2
end
section
/-! Course, Tape.append, nthBit -/
section C3
variable {g : q_G}
def co_as (fm to : Int32) (i : Nat) (s : Nat → Int32) : Nat → Int32 := fun j => if j < i ∧ ¬ ((fm >>> (nI j &&& 31)) &&& 1 = 0) then s j ||| to else s j
theorem co_as_t {fm to : Int32} {i m : Nat} {s : Nat → Int32} (hm : m = i) (h : ¬ ((fm >>> (nI i &&& 31)) &&& 1 = 0)) : upd (co_as fm to i s) m (co_as fm to i s m ||| to) = co_as fm to (i + 1) s := by
  subst hm
  funext j
  unfold upd co_as
  by_cases hj : j = m
  · subst hj; simp [h]
  · have : j < m + 1 ↔ j < m := by omega
    simp [hj, this]
theorem co_as_f {fm to : Int32} {i : Nat} {s : Nat → Int32} (h : (fm >>> (nI i &&& 31)) &&& 1 = 0) : co_as fm to i s = co_as fm to (i + 1) s := by
  funext j
  unfold co_as
  by_cases hj : j = i
  · subst hj; simp [h]
  · have : j < i + 1 ↔ j < i := by omega
    simp [this]
theorem co_as_0 {fm to : Int32} {s : Nat → Int32} : co_as fm to 0 s = s := by funext j; simp [co_as]
def co_cs (s : Nat → Int32) : Nat → Int32
  | 0 => 0
  | i + 1 => co_cs s i + j_ib (s i)
def co_out (k f x z : Int32) : Int32 := if k = 33 then (if x = f then -1 else x) else if k = 43 then (if z - 1 ≤ x then -1 else x + 1) else if k = 45 then (if x ≤ 0 then -1 else x - 1) else if k = 61 then f else if k = 63 then (if x = f then x else -1) else x
theorem co_out_33 {f x z : Int32} : co_out 33 f x z = if x = f then -1 else x := rfl
theorem co_out_43 {f x z : Int32} : co_out 43 f x z = if z - 1 ≤ x then -1 else x + 1 := rfl
theorem co_out_45 {f x z : Int32} : co_out 45 f x z = if x ≤ 0 then -1 else x - 1 := rfl
theorem co_out_61 {f x z : Int32} : co_out 61 f x z = f := rfl
theorem co_out_63 {f x z : Int32} : co_out 63 f x z = if x = f then x else -1 := rfl
def s_cl (x : Int64) : Nat → Int64
  | 0 => x
  | i + 1 => s_cl x i &&& (s_cl x i - 1)
def s_nb (x : Int64) (n : Nat) : Int32 := j_lb ((s_cl x n &&& -s_cl x n) - 1)
def ta_by (x : Int64) (q : Nat) : Int32 := vp_nar .byte ((j_lu x (8 * nI q)).toInt32.toInt8.toInt32)
def ta_ap (x : Int64) (L i : Nat) (f : Nat → Int32) : Nat → Int32 := fun j => if L ≤ j ∧ j < L + i then ta_by x (j - L) else f j
theorem ta_ap_0 {x : Int64} {L : Nat} {f : Nat → Int32} : ta_ap x L 0 f = f := by
  funext j
  have : ¬ (L ≤ j ∧ j < L + 0) := by omega
  simp only [ta_ap, if_neg this]
theorem ta_ap_s {x : Int64} {L i m : Nat} {f : Nat → Int32} (hm : m = L + i) : upd (ta_ap x L i f) m (ta_by x i) = ta_ap x L (i + 1) f := by
  subst hm
  funext j
  unfold upd ta_ap
  by_cases hj : j = L + i
  · subst hj
    have h1 : L + i - L = i := by omega
    have h2 : L ≤ L + i ∧ L + i < L + (i + 1) := by omega
    simp [h1]
  · by_cases h2 : L ≤ j ∧ j < L + i
    · have h3 : L ≤ j ∧ j < L + (i + 1) := by omega
      simp [hj, h2, h3]
    · have h3 : ¬ (L ≤ j ∧ j < L + (i + 1)) := by omega
      simp only [if_neg hj, if_neg h2, if_neg h3]
set_option maxRecDepth 10000 in
set_option maxHeartbeats 1000000 in
theorem c_Co_reset (hG : q_GG g) {hp : List va_E} {a : Nat} {pc en : Int32} {s : Nat → Int32} (h_c : hp[a]? = some (o_Co a pc en)) (h_s : hp[a + 1]? = some (a_I 13 s)) : q_C g m_Co_reset true (q_R 1 16 0 0) [.ref a] hp (q_ret none ((hp.set a (o_Co a 1 0)).set (a + 1) (a_I 13 (fun j => if j < 13 then 0 else s j)))) := by
  refine q_C.of hG (by decide) (Nat.le_of_ble_eq_true rfl) ?_
  refine q_aload_n d_Co_reset_0 rfl rfl ?_
  refine q_iconst (v := 1) d_Co_reset_1 (by decide) ?_
  refine x_put d_Co_reset_2 f_Co_9 h_c (Nat.le_of_ble_eq_true rfl) rfl rfl (fun hp1 e1 h_c => ?_)
  have h_s := q_keep e1 h_s (by omega)
  refine q_aload_n d_Co_reset_5 rfl rfl ?_
  refine q_iconst (v := 0) d_Co_reset_6 (by decide) ?_
  refine x_put d_Co_reset_7 f_Co_28 h_c (Nat.le_of_ble_eq_true rfl) rfl rfl (fun hp2 e2 h_c => ?_)
  have h_s := q_keep e2 h_s (by omega)
  refine q_aload_n d_Co_reset_10 rfl rfl ?_
  refine q_get d_Co_reset_11 f_Co_15 h_c rfl ?_
  refine q_iconst (v := 0) d_Co_reset_14 (by decide) ?_
  refine x_callS d_Co_reset_15 l_Co_31 s_Ar_fillI (c_Ar_fillI hG h_s (by decide)) rfl rfl (Nat.le_of_ble_eq_true rfl) (Nat.le_of_ble_eq_true rfl) (Nat.le_of_ble_eq_true rfl) (Nat.le_of_ble_eq_true rfl) ?_
  refine q_vret d_Co_reset_18 rfl ?_ (Nat.le_of_ble_eq_true rfl) (Nat.le_of_ble_eq_true rfl) (by decide)
  exact ⟨rfl, by subst e1; subst e2; simp [List.set_set]⟩
set_option maxRecDepth 10000 in
set_option maxHeartbeats 1000000 in
theorem l_Co_addSteps {hp : List va_E} {a n : Nat} {fm to en : Int32} {s : Nat → Int32} (hn : n ≤ 13) : ∀ (k i : Nat) (hp0 : List va_E), i + k = n → hp0[a]? = some (o_Co a (nI n) en) → hp0[a + 1]? = some (a_I 13 (co_as fm to i s)) → hp0 = hp.set (a + 1) (a_I 13 (co_as fm to i s)) → q_J g m_Co_addSteps true (q_R 0 0 0 0) (q_ret none (hp.set (a + 1) (a_I 13 (co_as fm to n s)))) 2 [some (.ref a), some (.int fm), some (.int to), some (.int (nI i))] [] hp0 0 0 true := by
  intro k
  induction k with
  | zero =>
    intro i hp0 hi h_c h_s e0
    have hi : i = n := by omega
    subst hi
    refine q_iload_n d_Co_addSteps_2 rfl ?_
    refine q_aload_n d_Co_addSteps_3 rfl rfl ?_
    refine q_get d_Co_addSteps_4 f_Co_9 h_c rfl ?_
    refine q_icmp_ge (tgt := 34) d_Co_addSteps_7 (by decide) (fun b7 => ?_) (fun b7 => ?_)
    · skip
      refine q_vret d_Co_addSteps_34 rfl ?_ (Nat.le_of_ble_eq_true rfl) (Nat.le_of_ble_eq_true rfl) (by decide)
      exact ⟨rfl, e0⟩
    · skip
      exact absurd (nI_le (Nat.le_refl i) (by omega)) b7
  | succ k ih =>
    intro i hp0 hi h_c h_s e0
    have hcl : (nI i).toNatClampNeg = i := nI_clamp (by omega)
    have hin : vp_in (nI i) 13 := vp_in_nI (by omega) (by decide)
    refine q_iload_n d_Co_addSteps_2 rfl ?_
    refine q_aload_n d_Co_addSteps_3 rfl rfl ?_
    refine q_get d_Co_addSteps_4 f_Co_9 h_c rfl ?_
    refine q_icmp_ge (tgt := 34) d_Co_addSteps_7 (by decide) (fun b7 => ?_) (fun b7 => ?_)
    · skip
      exact absurd b7 (nI_ge (show i < n by omega) (by omega))
    · skip
      refine q_iload_n d_Co_addSteps_10 rfl ?_
      refine q_iload_n d_Co_addSteps_11 rfl ?_
      refine q_ishr d_Co_addSteps_12 ?_
      refine q_iconst (v := 1) d_Co_addSteps_13 (by decide) ?_
      refine q_iand d_Co_addSteps_14 ?_
      refine q_if_eq (tgt := 28) d_Co_addSteps_15 (by decide) (fun b15 => ?_) (fun b15 => ?_)
      · skip
        rw [co_as_f b15] at e0 h_s
        refine q_iinc d_Co_addSteps_28 rfl (show _ + Int32.ofInt 1 = _ + 1 from rfl) (by decide) rfl ?_
        refine q_goto (tgt := 2) d_Co_addSteps_31 (by decide) ?_
        rw [nI_1]
        exact ih (i + 1) hp0 (by omega) h_c h_s e0
      · skip
        refine q_aload_n d_Co_addSteps_18 rfl rfl ?_
        refine q_get d_Co_addSteps_19 f_Co_15 h_c rfl ?_
        refine q_iload_n d_Co_addSteps_22 rfl ?_
        refine q_dup2 d_Co_addSteps_23 rfl rfl ?_
        refine q_iald d_Co_addSteps_24 h_s rfl hin ?_
        refine q_iload_n d_Co_addSteps_25 rfl ?_
        refine q_ior d_Co_addSteps_26 ?_
        refine x_iast d_Co_addSteps_27 h_s rfl hin (fun hp1 e1 h_s => ?_)
        have h_c := q_keep e1 h_c (by omega)
        refine q_iinc d_Co_addSteps_28 rfl (show _ + Int32.ofInt 1 = _ + 1 from rfl) (by decide) rfl ?_
        refine q_goto (tgt := 2) d_Co_addSteps_31 (by decide) ?_
        rw [nI_1]
        rw [co_as_t hcl b15] at e1 h_s
        exact ih (i + 1) hp1 (by omega) h_c h_s (by rw [e1, e0, List.set_set])
set_option maxRecDepth 10000 in
set_option maxHeartbeats 1000000 in
theorem c_Co_addSteps (hG : q_GG g) {hp : List va_E} {a n : Nat} {fm to en : Int32} {s : Nat → Int32} (h_c : hp[a]? = some (o_Co a (nI n) en)) (h_s : hp[a + 1]? = some (a_I 13 s)) (hn : n ≤ 13) : q_C g m_Co_addSteps true (q_R 0 0 0 0) [.ref a, .int fm, .int to] hp (q_ret none (hp.set (a + 1) (a_I 13 (co_as fm to n s)))) := by
  refine q_C.of hG (by decide) (Nat.le_of_ble_eq_true rfl) ?_
  refine q_iconst (v := 0) d_Co_addSteps_0 (by decide) ?_
  refine q_istore_n d_Co_addSteps_1 rfl (by decide) rfl ?_
  refine q_wrote ?_
  exact l_Co_addSteps hn n 0 hp (by omega) h_c (by rw [co_as_0]; exact h_s) (by rw [co_as_0]; exact (q_same h_s).symm)
set_option maxRecDepth 10000 in
set_option maxHeartbeats 1000000 in
theorem l_Co_countSteps (hG : q_GG g) {hp : List va_E} {a n : Nat} {en : Int32} {s : Nat → Int32} (hn : n ≤ 13) (h_c : hp[a]? = some (o_Co a (nI n) en)) (h_s : hp[a + 1]? = some (a_I 13 s)) : ∀ (k i : Nat), i + k = n → q_J g m_Co_countSteps false (q_R 1 13 0 0) (q_ret (some (.int (co_cs s n))) hp) 4 [some (.ref a), some (.int (co_cs s i)), some (.int (nI i))] [] hp 0 0 false := by
  intro k
  induction k with
  | zero =>
    intro i hi
    have hi : i = n := by omega
    subst hi
    refine q_iload_n d_Co_countSteps_4 rfl ?_
    refine q_aload_n d_Co_countSteps_5 rfl rfl ?_
    refine q_get d_Co_countSteps_6 f_Co_9 h_c rfl ?_
    refine q_icmp_ge (tgt := 30) d_Co_countSteps_9 (by decide) (fun b9 => ?_) (fun b9 => ?_)
    · skip
      refine q_iload_n d_Co_countSteps_30 rfl ?_
      refine q_iret d_Co_countSteps_31 rfl ?_ (Nat.le_of_ble_eq_true rfl) (Nat.le_of_ble_eq_true rfl) (by decide)
      exact ⟨rfl, rfl⟩
    · skip
      exact absurd (nI_le (Nat.le_refl i) (by omega)) b9
  | succ k ih =>
    intro i hi
    have hcl : (nI i).toNatClampNeg = i := nI_clamp (by omega)
    have hin : vp_in (nI i) 13 := vp_in_nI (by omega) (by decide)
    refine q_iload_n d_Co_countSteps_4 rfl ?_
    refine q_aload_n d_Co_countSteps_5 rfl rfl ?_
    refine q_get d_Co_countSteps_6 f_Co_9 h_c rfl ?_
    refine q_icmp_ge (tgt := 30) d_Co_countSteps_9 (by decide) (fun b9 => ?_) (fun b9 => ?_)
    · skip
      exact absurd b9 (nI_ge (show i < n by omega) (by omega))
    · skip
      refine q_iload_n d_Co_countSteps_12 rfl ?_
      refine q_aload_n d_Co_countSteps_13 rfl rfl ?_
      refine q_get d_Co_countSteps_14 f_Co_15 h_c rfl ?_
      refine q_iload_n d_Co_countSteps_17 rfl ?_
      refine q_iald d_Co_countSteps_18 h_s rfl hin ?_
      refine x_callS d_Co_countSteps_19 l_Co_49 s_In_bitCount (c_In_bitCount hG) rfl rfl (Nat.le_of_ble_eq_true rfl) (Nat.le_of_ble_eq_true rfl) (Nat.le_of_ble_eq_true rfl) (Nat.le_of_ble_eq_true rfl) ?_
      refine q_iadd d_Co_countSteps_22 ?_
      refine q_istore_n d_Co_countSteps_23 rfl (by decide) rfl ?_
      refine q_iinc d_Co_countSteps_24 rfl (show _ + Int32.ofInt 1 = _ + 1 from rfl) (by decide) rfl ?_
      refine q_goto (tgt := 4) d_Co_countSteps_27 (by decide) ?_
      rw [nI_1, hcl]
      exact ih (i + 1) (by omega)
set_option maxRecDepth 10000 in
set_option maxHeartbeats 1000000 in
theorem c_Co_countSteps (hG : q_GG g) {hp : List va_E} {a n : Nat} {en : Int32} {s : Nat → Int32} (hn : n ≤ 13) (h_c : hp[a]? = some (o_Co a (nI n) en)) (h_s : hp[a + 1]? = some (a_I 13 s)) : q_C g m_Co_countSteps false (q_R 1 13 0 0) [.ref a] hp (q_ret (some (.int (co_cs s n))) hp) := by
  refine q_C.of hG (by decide) (Nat.le_of_ble_eq_true rfl) ?_
  refine q_iconst (v := 0) d_Co_countSteps_0 (by decide) ?_
  refine q_istore_n d_Co_countSteps_1 rfl (by decide) rfl ?_
  refine q_iconst (v := 0) d_Co_countSteps_2 (by decide) ?_
  refine q_istore_n d_Co_countSteps_3 rfl (by decide) rfl ?_
  exact l_Co_countSteps hG hn h_c h_s n 0 (by omega)
set_option maxRecDepth 10000 in
set_option maxHeartbeats 1000000 in
theorem c_Co_outcome (hG : q_GG g) {hp : List va_E} {a i : Nat} {pc en x z : Int32} {k f : Nat → Int32} (h_c : hp[a]? = some (o_Co a pc en)) (h_k : hp[a + 2]? = some (a_I 13 k)) (h_f : hp[a + 4]? = some (a_I 13 f)) (hi : i < 13) : q_C g m_Co_outcome false (q_R 0 0 0 0) [.ref a, .int (nI i), .int x, .int z] hp (q_ret (some (.int (co_out (k i) (f i) x z))) hp) := by
  refine q_C.of hG (by decide) (Nat.le_of_ble_eq_true rfl) ?_
  have hcl : (nI i).toNatClampNeg = i := nI_clamp (by omega)
  have hin : vp_in (nI i) 13 := vp_in_nI hi (by decide)
  refine q_aload_n d_Co_outcome_0 rfl rfl ?_
  refine q_get d_Co_outcome_1 f_Co_19 h_c rfl ?_
  refine q_iload_n d_Co_outcome_4 rfl ?_
  refine q_iald d_Co_outcome_5 h_k rfl hin ?_
  rw [hcl]
  by_cases k33 : k i = 33
  · refine q_lookup (off := 100) (tgt := 106) d_Co_outcome_6 (by decide) (by rw [k33]; decide) (by decide) ?_
    refine q_iload_n d_Co_outcome_106 rfl ?_
    refine q_aload_n d_Co_outcome_107 rfl rfl ?_
    refine q_get d_Co_outcome_108 f_Co_25 h_c rfl ?_
    refine q_iload_n d_Co_outcome_111 rfl ?_
    refine q_iald d_Co_outcome_112 h_f rfl hin ?_
    refine q_icmp_eq (tgt := 120) d_Co_outcome_113 (by decide) (fun b113 => ?_) (fun b113 => ?_)
    · skip
      try rw [hcl] at b113
      refine q_iconst (v := (-1)) d_Co_outcome_120 (by decide) ?_
      refine q_iret d_Co_outcome_121 rfl ?_ (Nat.le_of_ble_eq_true rfl) (Nat.le_of_ble_eq_true rfl) (by decide)
      exact ⟨by rw [k33, co_out_33] <;> first | rw [if_pos b113] | rw [if_neg b113], rfl⟩
    · skip
      try rw [hcl] at b113
      refine q_iload_n d_Co_outcome_116 rfl ?_
      refine q_goto (tgt := 121) d_Co_outcome_117 (by decide) ?_
      refine q_iret d_Co_outcome_121 rfl ?_ (Nat.le_of_ble_eq_true rfl) (Nat.le_of_ble_eq_true rfl) (by decide)
      exact ⟨by rw [k33, co_out_33] <;> first | rw [if_pos b113] | rw [if_neg b113], rfl⟩
  by_cases k43 : k i = 43
  · refine q_lookup (off := 50) (tgt := 56) d_Co_outcome_6 (by decide) (by rw [k43]; decide) (by decide) ?_
    refine q_iload_n d_Co_outcome_56 rfl ?_
    refine q_iload_n d_Co_outcome_57 rfl ?_
    refine q_iconst (v := 1) d_Co_outcome_58 (by decide) ?_
    refine q_isub d_Co_outcome_59 ?_
    refine q_icmp_ge (tgt := 69) d_Co_outcome_60 (by decide) (fun b60 => ?_) (fun b60 => ?_)
    · skip
      refine q_iconst (v := (-1)) d_Co_outcome_69 (by decide) ?_
      refine q_iret d_Co_outcome_70 rfl ?_ (Nat.le_of_ble_eq_true rfl) (Nat.le_of_ble_eq_true rfl) (by decide)
      exact ⟨by rw [k43, co_out_43] <;> first | rw [if_pos b60] | rw [if_neg b60], rfl⟩
    · skip
      refine q_iload_n d_Co_outcome_63 rfl ?_
      refine q_iconst (v := 1) d_Co_outcome_64 (by decide) ?_
      refine q_iadd d_Co_outcome_65 ?_
      refine q_goto (tgt := 70) d_Co_outcome_66 (by decide) ?_
      refine q_iret d_Co_outcome_70 rfl ?_ (Nat.le_of_ble_eq_true rfl) (Nat.le_of_ble_eq_true rfl) (by decide)
      exact ⟨by rw [k43, co_out_43] <;> first | rw [if_pos b60] | rw [if_neg b60], rfl⟩
  by_cases k45 : k i = 45
  · refine q_lookup (off := 65) (tgt := 71) d_Co_outcome_6 (by decide) (by rw [k45]; decide) (by decide) ?_
    refine q_iload_n d_Co_outcome_71 rfl ?_
    refine q_if_le (tgt := 81) d_Co_outcome_72 (by decide) (fun b72 => ?_) (fun b72 => ?_)
    · skip
      refine q_iconst (v := (-1)) d_Co_outcome_81 (by decide) ?_
      refine q_iret d_Co_outcome_82 rfl ?_ (Nat.le_of_ble_eq_true rfl) (Nat.le_of_ble_eq_true rfl) (by decide)
      exact ⟨by rw [k45, co_out_45] <;> first | rw [if_pos b72] | rw [if_neg b72], rfl⟩
    · skip
      refine q_iload_n d_Co_outcome_75 rfl ?_
      refine q_iconst (v := 1) d_Co_outcome_76 (by decide) ?_
      refine q_isub d_Co_outcome_77 ?_
      refine q_goto (tgt := 82) d_Co_outcome_78 (by decide) ?_
      refine q_iret d_Co_outcome_82 rfl ?_ (Nat.le_of_ble_eq_true rfl) (Nat.le_of_ble_eq_true rfl) (by decide)
      exact ⟨by rw [k45, co_out_45] <;> first | rw [if_pos b72] | rw [if_neg b72], rfl⟩
  by_cases k61 : k i = 61
  · refine q_lookup (off := 77) (tgt := 83) d_Co_outcome_6 (by decide) (by rw [k61]; decide) (by decide) ?_
    refine q_aload_n d_Co_outcome_83 rfl rfl ?_
    refine q_get d_Co_outcome_84 f_Co_25 h_c rfl ?_
    refine q_iload_n d_Co_outcome_87 rfl ?_
    refine q_iald d_Co_outcome_88 h_f rfl hin ?_
    refine q_iret d_Co_outcome_89 rfl ?_ (Nat.le_of_ble_eq_true rfl) (Nat.le_of_ble_eq_true rfl) (by decide)
    exact ⟨by rw [k61, co_out_61] <;> rw [hcl], rfl⟩
  by_cases k63 : k i = 63
  · refine q_lookup (off := 84) (tgt := 90) d_Co_outcome_6 (by decide) (by rw [k63]; decide) (by decide) ?_
    refine q_iload_n d_Co_outcome_90 rfl ?_
    refine q_aload_n d_Co_outcome_91 rfl rfl ?_
    refine q_get d_Co_outcome_92 f_Co_25 h_c rfl ?_
    refine q_iload_n d_Co_outcome_95 rfl ?_
    refine q_iald d_Co_outcome_96 h_f rfl hin ?_
    refine q_icmp_ne (tgt := 104) d_Co_outcome_97 (by decide) (fun b97 => ?_) (fun b97 => ?_)
    · skip
      try rw [hcl] at b97
      refine q_iconst (v := (-1)) d_Co_outcome_104 (by decide) ?_
      refine q_iret d_Co_outcome_105 rfl ?_ (Nat.le_of_ble_eq_true rfl) (Nat.le_of_ble_eq_true rfl) (by decide)
      exact ⟨by rw [k63, co_out_63] <;> first | rw [if_neg b97] | rw [if_pos b97], rfl⟩
    · skip
      try rw [hcl] at b97
      refine q_iload_n d_Co_outcome_100 rfl ?_
      refine q_goto (tgt := 105) d_Co_outcome_101 (by decide) ?_
      refine q_iret d_Co_outcome_105 rfl ?_ (Nat.le_of_ble_eq_true rfl) (Nat.le_of_ble_eq_true rfl) (by decide)
      exact ⟨by rw [k63, co_out_63] <;> first | rw [if_neg b97] | rw [if_pos b97], rfl⟩
  refine q_lookup (off := 116) (tgt := 122) d_Co_outcome_6 (by decide) (by show Op.lookupswitch.offset [(33, 100), (43, 50), (45, 65), (61, 77), (63, 84)] 116 _ = _; rw [lv_osw (a := 33) k33 (by decide), lv_osw (a := 43) k43 (by decide), lv_osw (a := 45) k45 (by decide), lv_osw (a := 61) k61 (by decide), lv_osw (a := 63) k63 (by decide)]; rfl) (by decide) ?_
  refine q_iload_n d_Co_outcome_122 rfl ?_
  refine q_iret d_Co_outcome_123 rfl ?_ (Nat.le_of_ble_eq_true rfl) (Nat.le_of_ble_eq_true rfl) (by decide)
  exact ⟨by simp_all [co_out], rfl⟩
set_option maxRecDepth 10000 in
set_option maxHeartbeats 1000000 in
theorem l_S_nthBit (hG : q_GG g) {hp : List va_E} {n : Nat} {x : Int64} (hn : n < 2 ^ 31) : ∀ (k i : Nat), i + k = n → q_J g m_S_nthBit false (q_R 1 13 0 0) (q_ret (some (.int (s_nb x n))) hp) 5 [some (.long x), none, some (.int (nI n)), some (.long (s_cl x i)), none, some (.int (nI i))] [] hp 0 0 false := by
  intro k
  induction k with
  | zero =>
    intro i hi
    have hi : i = n := by omega
    subst hi
    refine q_iload d_S_nthBit_5 rfl ?_
    refine q_iload_n d_S_nthBit_7 rfl ?_
    refine q_icmp_ge (tgt := 23) d_S_nthBit_8 (by decide) (fun b8 => ?_) (fun b8 => ?_)
    · skip
      refine q_lload_n d_S_nthBit_23 rfl ?_
      refine q_lload_n d_S_nthBit_24 rfl ?_
      refine q_lneg d_S_nthBit_25 ?_
      refine q_land d_S_nthBit_26 ?_
      refine q_lconst (v := 1) d_S_nthBit_27 (by decide) ?_
      refine q_lsub d_S_nthBit_28 ?_
      refine x_callS d_S_nthBit_29 l_S_203 s_Lo_bitCount (c_Lo_bitCount hG) rfl rfl (Nat.le_of_ble_eq_true rfl) (Nat.le_of_ble_eq_true rfl) (Nat.le_of_ble_eq_true rfl) (Nat.le_of_ble_eq_true rfl) ?_
      refine q_iret d_S_nthBit_32 rfl ?_ (Nat.le_of_ble_eq_true rfl) (Nat.le_of_ble_eq_true rfl) (by decide)
      exact ⟨rfl, rfl⟩
    · skip
      exact absurd (nI_le (Nat.le_refl i) hn) b8
  | succ k ih =>
    intro i hi
    refine q_iload d_S_nthBit_5 rfl ?_
    refine q_iload_n d_S_nthBit_7 rfl ?_
    refine q_icmp_ge (tgt := 23) d_S_nthBit_8 (by decide) (fun b8 => ?_) (fun b8 => ?_)
    · skip
      exact absurd b8 (nI_ge (show i < n by omega) hn)
    · skip
      refine q_lload_n d_S_nthBit_11 rfl ?_
      refine q_lload_n d_S_nthBit_12 rfl ?_
      refine q_lconst (v := 1) d_S_nthBit_13 (by decide) ?_
      refine q_lsub d_S_nthBit_14 ?_
      refine q_land d_S_nthBit_15 ?_
      refine q_lstore_n d_S_nthBit_16 rfl (by decide) rfl ?_
      refine q_iinc d_S_nthBit_17 rfl (show _ + Int32.ofInt 1 = _ + 1 from rfl) (by decide) rfl ?_
      refine q_goto (tgt := 5) d_S_nthBit_20 (by decide) ?_
      rw [nI_1]
      exact ih (i + 1) (by omega)
set_option maxRecDepth 10000 in
set_option maxHeartbeats 1000000 in
theorem c_S_nthBit (hG : q_GG g) {hp : List va_E} {n : Nat} {x : Int64} (hn : n < 2 ^ 31) : q_C g m_S_nthBit false (q_R 1 13 0 0) [.long x, .int (nI n)] hp (q_ret (some (.int (s_nb x n))) hp) := by
  refine q_C.of hG (by decide) (Nat.le_of_ble_eq_true rfl) ?_
  refine q_lload_n d_S_nthBit_0 rfl ?_
  refine q_lstore_n d_S_nthBit_1 rfl (by decide) rfl ?_
  refine q_iconst (v := 0) d_S_nthBit_2 (by decide) ?_
  refine q_istore d_S_nthBit_3 (by decide) rfl ?_
  exact l_S_nthBit hG hn n 0 (by omega)
set_option maxRecDepth 10000 in
set_option maxHeartbeats 1000000 in
theorem l_Ta_append {hp : List va_E} {a n L : Nat} {x : Int64} {f : Nat → Int32} (hL : L + n ≤ 100) : ∀ (k i : Nat) (hp0 : List va_E), i + k = n → hp0[a]? = some (o_Ta a (nI L)) → hp0[a + 1]? = some (a_B 100 (ta_ap x L i f)) → hp0 = hp.set (a + 1) (a_B 100 (ta_ap x L i f)) → q_J g m_Ta_append true (q_R 0 0 0 0) (q_ret (some (.int 1)) ((hp.set (a + 1) (a_B 100 (ta_ap x L n f))).set a (o_Ta a (nI (L + n))))) 16 [some (.ref a), some (.int (nI n)), some (.long x), none, some (.int (nI i))] [] hp0 0 0 true := by
  intro k
  induction k with
  | zero =>
    intro i hp0 hi h_t h_b e0
    have hi : i = n := by omega
    subst hi
    refine q_iload d_Ta_append_16 rfl ?_
    refine q_iload_n d_Ta_append_18 rfl ?_
    refine q_icmp_ge (tgt := 49) d_Ta_append_19 (by decide) (fun b19 => ?_) (fun b19 => ?_)
    · skip
      refine q_aload_n d_Ta_append_49 rfl rfl ?_
      refine q_dup d_Ta_append_50 rfl ?_
      refine q_get d_Ta_append_51 f_Ta_15 h_t rfl ?_
      refine q_iload_n d_Ta_append_54 rfl ?_
      refine q_iadd d_Ta_append_55 ?_
      refine x_put d_Ta_append_56 f_Ta_15 h_t (Nat.le_of_ble_eq_true rfl) rfl rfl (fun hp1 e1 h_t => ?_)
      have h_b := q_keep e1 h_b (by omega)
      refine q_iconst (v := 1) d_Ta_append_59 (by decide) ?_
      refine q_zret d_Ta_append_60 rfl (by decide) ?_ (Nat.le_of_ble_eq_true rfl) (Nat.le_of_ble_eq_true rfl) (by decide)
      exact ⟨rfl, by rw [e1, e0, nI_add]; rfl⟩
    · skip
      exact absurd (nI_le (Nat.le_refl i) (by omega)) b19
  | succ k ih =>
    intro i hp0 hi h_t h_b e0
    have hcl : (nI (L + i)).toNatClampNeg = L + i := nI_clamp (by omega)
    have hin : vp_in (nI (L + i)) 100 := vp_in_nI (by omega) (by decide)
    refine q_iload d_Ta_append_16 rfl ?_
    refine q_iload_n d_Ta_append_18 rfl ?_
    refine q_icmp_ge (tgt := 49) d_Ta_append_19 (by decide) (fun b19 => ?_) (fun b19 => ?_)
    · skip
      exact absurd b19 (nI_ge (show i < n by omega) (by omega))
    · skip
      refine q_aload_n d_Ta_append_22 rfl rfl ?_
      refine q_get d_Ta_append_23 f_Ta_9 h_t rfl ?_
      refine q_aload_n d_Ta_append_26 rfl rfl ?_
      refine q_get d_Ta_append_27 f_Ta_15 h_t rfl ?_
      refine q_iload d_Ta_append_30 rfl ?_
      refine q_iadd d_Ta_append_32 ?_
      refine q_lload_n d_Ta_append_33 rfl ?_
      refine q_bipush (v := 8) d_Ta_append_34 (by decide) ?_
      refine q_iload d_Ta_append_36 rfl ?_
      refine q_imul d_Ta_append_38 ?_
      refine q_lushr d_Ta_append_39 ?_
      refine q_l2i d_Ta_append_40 ?_
      refine q_i2b d_Ta_append_41 ?_
      rw [nI_add]
      refine x_bast d_Ta_append_42 h_b rfl hin (fun hp1 e1 h_b => ?_)
      have h_t := q_keep e1 h_t (by omega)
      refine q_iinc d_Ta_append_43 rfl (show _ + Int32.ofInt 1 = _ + 1 from rfl) (by decide) rfl ?_
      refine q_goto (tgt := 16) d_Ta_append_46 (by decide) ?_
      rw [nI_1]
      have hf := ta_ap_s (x := x) (L := L) (f := f) hcl
      have e1 : hp1 = hp0.set (a + 1) (a_B 100 (upd (ta_ap x L i f) (nI (L + i)).toNatClampNeg (ta_by x i))) := e1
      have h_b : hp1[a + 1]? = some (a_B 100 (upd (ta_ap x L i f) (nI (L + i)).toNatClampNeg (ta_by x i))) := h_b
      rw [hf] at e1 h_b
      exact ih (i + 1) hp1 (by omega) h_t h_b (by rw [e1, e0, List.set_set])
set_option maxRecDepth 10000 in
set_option maxHeartbeats 1000000 in
theorem c_Ta_append (hG : q_GG g) {hp : List va_E} {a n L : Nat} {x : Int64} {f : Nat → Int32} (h_t : hp[a]? = some (o_Ta a (nI L))) (h_b : hp[a + 1]? = some (a_B 100 f)) (hL : L + n ≤ 100) : q_C g m_Ta_append true (q_R 0 0 0 0) [.ref a, .int (nI n), .long x] hp (q_ret (some (.int 1)) ((hp.set (a + 1) (a_B 100 (ta_ap x L n f))).set a (o_Ta a (nI (L + n))))) := by
  refine q_C.of hG (by decide) (Nat.le_of_ble_eq_true rfl) ?_
  have hs : (100 : Int32) - nI L = nI (100 - L) := pk_sub (show L ≤ 100 by omega)
  refine q_iload_n d_Ta_append_0 rfl ?_
  refine q_bipush (v := 100) d_Ta_append_1 (by decide) ?_
  refine q_aload_n d_Ta_append_3 rfl rfl ?_
  refine q_get d_Ta_append_4 f_Ta_15 h_t rfl ?_
  refine q_isub d_Ta_append_7 ?_
  refine q_icmp_le (tgt := 13) d_Ta_append_8 (by decide) (fun b8 => ?_) (fun b8 => ?_)
  · skip
    refine q_iconst (v := 0) d_Ta_append_13 (by decide) ?_
    refine q_istore d_Ta_append_14 (by decide) rfl ?_
    refine q_wrote ?_
    exact l_Ta_append hL n 0 hp (by omega) h_t (by rw [ta_ap_0]; exact h_b) (by rw [ta_ap_0]; exact (q_same h_b).symm)
  · skip
    exact absurd (by rw [hs]; exact nI_le (by omega) (by omega)) b8
set_option maxRecDepth 10000 in
set_option maxHeartbeats 1000000 in
theorem c_Ta_append0 (hG : q_GG g) {hp : List va_E} {a n L : Nat} {x : Int64} (h_t : hp[a]? = some (o_Ta a (nI L))) (hL : L ≤ 100) (hn : n < 100) (h : 100 < L + n) : q_C g m_Ta_append true (q_R 0 0 0 0) [.ref a, .int (nI n), .long x] hp (q_ret (some (.int 0)) hp) := by
  refine q_C.of hG (by decide) (Nat.le_of_ble_eq_true rfl) ?_
  have hs : (100 : Int32) - nI L = nI (100 - L) := pk_sub (show L ≤ 100 by omega)
  refine q_iload_n d_Ta_append_0 rfl ?_
  refine q_bipush (v := 100) d_Ta_append_1 (by decide) ?_
  refine q_aload_n d_Ta_append_3 rfl rfl ?_
  refine q_get d_Ta_append_4 f_Ta_15 h_t rfl ?_
  refine q_isub d_Ta_append_7 ?_
  refine q_icmp_le (tgt := 13) d_Ta_append_8 (by decide) (fun b8 => ?_) (fun b8 => ?_)
  · skip
    exact absurd (by rw [← hs]; exact b8) (nI_ge (show 100 - L < n by omega) (by omega))
  · skip
    refine q_iconst (v := 0) d_Ta_append_11 (by decide) ?_
    refine q_zret d_Ta_append_12 rfl (by decide) ?_ (Nat.le_of_ble_eq_true rfl) (Nat.le_of_ble_eq_true rfl) (by decide)
    exact ⟨rfl, rfl⟩
end C3
end
section
/-! ===== lN n to 2^64: shifts, and, or, masks, one bit ===== -/
theorem wb_tb (n : Nat) : (lN n).toBitVec = BitVec.ofNat 64 n := rfl
theorem wb_inj {a b : Int64} (h : a.toBitVec = b.toBitVec) : a = b := Int64.toBitVec_inj.mp h
theorem wb_tn {n : Nat} (h : n < 2 ^ 64) : (lN n).toBitVec.toNat = n := by rw [wb_tb, BitVec.toNat_ofNat, Nat.mod_eq_of_lt h]
theorem wb_of (x : Int64) : ∃ n, n < 2 ^ 64 ∧ x = lN n := ⟨x.toBitVec.toNat, x.toBitVec.isLt, wb_inj (by rw [wb_tb]; simp)⟩
theorem wb_of32 (x : Int32) : ∃ n, n < 2 ^ 32 ∧ x = nI n := ⟨x.toBitVec.toNat, x.toBitVec.isLt, Int32.toBitVec_inj.mp (by show _ = BitVec.ofNat 32 _; simp)⟩
theorem wb_c : ∀ k, k < 64 → ((nI k).toInt64 &&& 63) = lN k := by decide +kernel
theorem wb_cu : ∀ k, k < 64 → ((nI k).toInt64.toUInt64 &&& Int64.toUInt64 63) = UInt64.ofNat k := by decide +kernel
theorem wb_sm : ∀ k, k < 64 → (BitVec.ofNat 64 k).smod 64 = BitVec.ofNat 64 k := by decide +kernel
theorem wb_pw {a b : Nat} (h : a ≤ b) : 2 ^ b = 2 ^ a * 2 ^ (b - a) := by rw [← Nat.pow_add]; congr 1; omega
theorem wb_lt2 {a b : Nat} (h : a < b) : 2 ^ a < 2 ^ b := Nat.pow_lt_pow_right (by decide) h
theorem wb_mod (n : Nat) : lN n = lN (n % 2 ^ 64) := wb_inj (by rw [wb_tb, wb_tb]; apply BitVec.eq_of_toNat_eq; rw [BitVec.toNat_ofNat, BitVec.toNat_ofNat, Nat.mod_mod])
theorem wb_shr {n k : Nat} (hn : n < 2 ^ 64) (hk : k < 64) : ((lN n).toUInt64 >>> ((nI k).toInt64.toUInt64 &&& Int64.toUInt64 63)).toInt64 = lN (n / 2 ^ k) := by
  rw [wb_cu k hk]
  apply wb_inj
  apply BitVec.eq_of_toNat_eq
  show ((lN n).toUInt64 >>> UInt64.ofNat k).toNat = (BitVec.ofNat 64 _).toNat
  have h1 : (UInt64.ofNat k).toNat = k := by
    show (BitVec.ofNat 64 k).toNat = k
    rw [BitVec.toNat_ofNat, Nat.mod_eq_of_lt (by omega)]
  have h2 : (lN n).toUInt64.toNat = n := wb_tn hn
  rw [UInt64.toNat_shiftRight, h1, h2, Nat.mod_eq_of_lt hk, Nat.shiftRight_eq_div_pow, BitVec.toNat_ofNat, Nat.mod_eq_of_lt (Nat.lt_of_le_of_lt (Nat.div_le_self _ _) hn)]
theorem wb_shl (n : Nat) {k : Nat} (hk : k < 64) : lN n <<< ((nI k).toInt64 &&& 63) = lN (n * 2 ^ k) := by
  rw [wb_c k hk]
  apply wb_inj
  rw [Int64.toBitVec_shiftLeft, wb_tb, wb_tb, wb_tb, wb_sm k hk]
  apply BitVec.eq_of_toNat_eq
  rw [BitVec.shiftLeft_eq', BitVec.toNat_shiftLeft, BitVec.toNat_ofNat, BitVec.toNat_ofNat, BitVec.toNat_ofNat, Nat.mod_eq_of_lt (show k < 2 ^ 64 by omega), Nat.shiftLeft_eq, Nat.mul_mod, Nat.mod_mod, ← Nat.mul_mod]
theorem wb_and {a b : Nat} (ha : a < 2 ^ 64) (hb : b < 2 ^ 64) : lN a &&& lN b = lN (a &&& b) := by
  apply wb_inj
  rw [Int64.toBitVec_and, wb_tb, wb_tb, wb_tb]
  apply BitVec.eq_of_toNat_eq
  rw [BitVec.toNat_and, BitVec.toNat_ofNat, BitVec.toNat_ofNat, BitVec.toNat_ofNat, Nat.mod_eq_of_lt ha, Nat.mod_eq_of_lt hb, Nat.mod_eq_of_lt (Nat.and_lt_two_pow _ hb)]
theorem wb_or {a b : Nat} (ha : a < 2 ^ 64) (hb : b < 2 ^ 64) : lN a ||| lN b = lN (a ||| b) := by
  apply wb_inj
  rw [Int64.toBitVec_or, wb_tb, wb_tb, wb_tb]
  apply BitVec.eq_of_toNat_eq
  rw [BitVec.toNat_or, BitVec.toNat_ofNat, BitVec.toNat_ofNat, BitVec.toNat_ofNat, Nat.mod_eq_of_lt ha, Nat.mod_eq_of_lt hb, Nat.mod_eq_of_lt (Nat.or_lt_two_pow ha hb)]
theorem wb_mask {n k : Nat} (hn : n < 2 ^ 64) (hk : k < 64) : lN n &&& lN (2 ^ k - 1) = lN (n % 2 ^ k) := by
  rw [wb_and hn (by have := wb_lt2 hk; omega), Nat.and_two_pow_sub_one_eq_mod]
theorem wb_a1 {n : Nat} (hn : n < 2 ^ 64) : lN n &&& 1 = lN (n % 2) := wb_mask (k := 1) hn (by decide)
theorem wb_bit {n k : Nat} (hn : n < 2 ^ 64) (hk : k < 64) : ((lN n).toUInt64 >>> ((nI k).toInt64.toUInt64 &&& Int64.toUInt64 63)).toInt64 &&& 1 = lN (n / 2 ^ k % 2) := by
  rw [wb_shr hn hk, wb_a1 (Nat.lt_of_le_of_lt (Nat.div_le_self _ _) hn)]
/-! counting bits: the JDK's way of counting them (by bytes) -/
section POP
/-- how many of the lowest n bits are set -/
def pb_cnt : Nat → Nat → Nat
  | 0, _ => 0
  | n + 1, x => x % 2 + pb_cnt n (x / 2)
theorem pb_cnt_add (m n x : Nat) : pb_cnt (m + n) x = pb_cnt m x + pb_cnt n (x / 2 ^ m) := by
  induction m generalizing x with
  | zero => simp [pb_cnt]
  | succ k ih =>
    rw [Nat.succ_add, pb_cnt, pb_cnt, ih, Nat.div_div_eq_div_mul, Nat.pow_succ, Nat.mul_comm (2 ^ k) 2]
    omega
theorem pb_cnt_mod (n x : Nat) : pb_cnt n (x % 2 ^ n) = pb_cnt n x := by
  induction n generalizing x with
  | zero => rfl
  | succ k ih =>
    rw [pb_cnt, pb_cnt]
    have h1 : x % 2 ^ (k + 1) % 2 = x % 2 := by
      rw [Nat.pow_succ, Nat.mul_comm]
      exact Nat.mod_mul_right_mod x 2 (2 ^ k)
    have h2 : x % 2 ^ (k + 1) / 2 = x / 2 % 2 ^ k := by
      rw [Nat.pow_succ, Nat.mul_comm]
      exact Nat.mod_mul_right_div_self x 2 (2 ^ k)
    rw [h1, h2, ih]
theorem pb_split (a m y M : Nat) (ha : a < 256) (hm : m < 256) : (a + 256 * y) &&& (m + 256 * M) = (a &&& m) + 256 * (y &&& M) := by
  have h1 : ((a + 256 * y) &&& (m + 256 * M)) / 2 ^ 8 = y &&& M := by
    rw [Nat.and_div_two_pow]
    congr 1 <;> omega
  have h2 : ((a + 256 * y) &&& (m + 256 * M)) % 2 ^ 8 = a &&& m := by
    rw [Nat.and_mod_two_pow]
    congr 1 <;> omega
  omega
def pb_m (k : Nat) : Nat → Nat
  | 0 => 0
  | n + 1 => k + 256 * pb_m k n
def pb_1 (n x : Nat) : Nat := x - (x / 2 &&& pb_m 85 n)
def pb_2 (n x : Nat) : Nat := (x &&& pb_m 51 n) + (x / 4 &&& pb_m 51 n)
def pb_3 (n x : Nat) : Nat := (x + x / 16) &&& pb_m 15 n
theorem pb_b1 : ∀ a, a < 256 → ∀ c, c < 2 → (a / 2 + 128 * c) &&& 85 = a / 2 &&& 85 ∧ a / 2 &&& 85 ≤ a := by decide +kernel
theorem pb_b2 : ∀ a, a < 256 → ∀ c, c < 4 → (a / 4 + 64 * c) &&& 51 = a / 4 &&& 51 := by decide +kernel
theorem pb_b3 : ∀ a, a < 69 → ∀ c, c < 5 → (a + a / 16 + 16 * c) &&& 15 = (a + a / 16) % 16 := by decide +kernel
/-- what the first two steps make of a byte, and the third -/
theorem pb_by : ∀ a, a < 256 → (((a - (a / 2 &&& 85)) &&& 51) + ((a - (a / 2 &&& 85)) / 4 &&& 51)) < 69 ∧ (((a - (a / 2 &&& 85)) &&& 51) + ((a - (a / 2 &&& 85)) / 4 &&& 51)) % 16 < 5 ∧
    ((((a - (a / 2 &&& 85)) &&& 51) + ((a - (a / 2 &&& 85)) / 4 &&& 51)) + (((a - (a / 2 &&& 85)) &&& 51) + ((a - (a / 2 &&& 85)) / 4 &&& 51)) / 16) % 16 = pb_cnt 8 a ∧ pb_cnt 8 a ≤ 8 := by decide +kernel
theorem pb_s1 (n a y : Nat) (ha : a < 256) (hy : y / 2 &&& pb_m 85 n ≤ y) : pb_1 (n + 1) (a + 256 * y) = (a - (a / 2 &&& 85)) + 256 * pb_1 n y ∧ (a + 256 * y) / 2 &&& pb_m 85 (n + 1) ≤ a + 256 * y := by
  have e : (a + 256 * y) / 2 = (a / 2 + 128 * (y % 2)) + 256 * (y / 2) := by omega
  have h1 := pb_b1 a ha (y % 2) (by omega)
  have e2 : (a + 256 * y) / 2 &&& pb_m 85 (n + 1) = (a / 2 &&& 85) + 256 * (y / 2 &&& pb_m 85 n) := by
    rw [e, show pb_m 85 (n + 1) = 85 + 256 * pb_m 85 n from rfl, pb_split _ _ _ _ (by omega) (by omega), h1.1]
  constructor
  · unfold pb_1
    rw [e2]
    omega
  · rw [e2]
    omega
theorem pb_s2 (n a y : Nat) (ha : a < 256) : pb_2 (n + 1) (a + 256 * y) = ((a &&& 51) + (a / 4 &&& 51)) + 256 * pb_2 n y := by
  have e : (a + 256 * y) / 4 = (a / 4 + 64 * (y % 4)) + 256 * (y / 4) := by omega
  unfold pb_2
  rw [e, show pb_m 51 (n + 1) = 51 + 256 * pb_m 51 n from rfl, pb_split _ _ _ _ ha (by omega), pb_split _ _ _ _ (by omega) (by omega), pb_b2 a ha (y % 4) (by omega)]
  omega
theorem pb_s3 (n a y : Nat) (ha : a < 69) (hy : y % 16 < 5) : pb_3 (n + 1) (a + 256 * y) = (a + a / 16) % 16 + 256 * pb_3 n y := by
  have e : a + 256 * y + (a + 256 * y) / 16 = (a + a / 16 + 16 * (y % 16)) + 256 * (y + y / 16) := by omega
  unfold pb_3
  rw [e, show pb_m 15 (n + 1) = 15 + 256 * pb_m 15 n from rfl, pb_split _ _ _ _ (by omega) (by omega), pb_b3 a ha (y % 16) hy]
/-- each byte holds its own number -/
def pb_E : Nat → Nat → Nat
  | 0, _ => 0
  | n + 1, x => pb_cnt 8 (x % 256) + 256 * pb_E n (x / 256)
theorem pb_all (n : Nat) : ∀ x, x < 256 ^ n → x / 2 &&& pb_m 85 n ≤ x ∧ pb_2 n (pb_1 n x) % 16 < 5 ∧ pb_3 n (pb_2 n (pb_1 n x)) = pb_E n x := by
  induction n with
  | zero =>
    intro x hx
    have : x = 0 := by simpa using hx
    subst this
    decide
  | succ k ih =>
    intro x hx
    have hy : x / 256 < 256 ^ k := by
      rw [Nat.pow_succ] at hx
      exact Nat.div_lt_of_lt_mul (by rw [Nat.mul_comm]; exact hx)
    obtain ⟨h1, h2, h3⟩ := ih (x / 256) hy
    have ha : x % 256 < 256 := Nat.mod_lt _ (by omega)
    have e : x % 256 + 256 * (x / 256) = x := Nat.mod_add_div x 256
    obtain ⟨s1, s1'⟩ := pb_s1 k (x % 256) (x / 256) ha h1
    rw [e] at s1 s1'
    obtain ⟨b1, b2, b3, b4⟩ := pb_by (x % 256) ha
    refine ⟨s1', ?_, ?_⟩
    · rw [s1, pb_s2 _ _ _ (by omega)]
      omega
    · rw [s1, pb_s2 _ _ _ (by omega), pb_s3 _ _ _ b1 h2, h3, b3]
      rfl
theorem pb_c8 (x : Nat) : pb_cnt 8 (x % 256) ≤ 8 := (pb_by (x % 256) (Nat.mod_lt _ (by omega))).2.2.2
theorem pb_64 (x : Nat) : pb_cnt 64 x = pb_cnt 8 (x % 256) + pb_cnt 8 (x / 256 % 256) + pb_cnt 8 (x / 256 / 256 % 256) + pb_cnt 8 (x / 256 / 256 / 256 % 256) + pb_cnt 8 (x / 256 / 256 / 256 / 256 % 256) + pb_cnt 8 (x / 256 / 256 / 256 / 256 / 256 % 256) + pb_cnt 8 (x / 256 / 256 / 256 / 256 / 256 / 256 % 256) + pb_cnt 8 (x / 256 / 256 / 256 / 256 / 256 / 256 / 256 % 256) := by
  have h : ∀ n y, pb_cnt (8 + n) y = pb_cnt 8 (y % 256) + pb_cnt n (y / 256) := fun n y => by
    rw [pb_cnt_add]
    have := pb_cnt_mod 8 y
    rw [← this]
  rw [show 64 = 8 + (8 + (8 + (8 + (8 + (8 + (8 + (8 + 0))))))) from rfl, h, h, h, h, h, h, h, h]
  simp only [pb_cnt]
  omega
/-- the JDK's last steps -/
theorem pb_end (x : Nat) (hx : x < 256 ^ 8) : ∃ z, pb_3 8 (pb_2 8 (pb_1 8 x)) = z ∧ z + z / 256 + (z + z / 256) / 65536 + (z + z / 256 + (z + z / 256) / 65536) / 4294967296 < 2 ^ 63 ∧ (z + z / 256 + (z + z / 256) / 65536 + (z + z / 256 + (z + z / 256) / 65536) / 4294967296) % 128 = pb_cnt 64 x ∧ pb_cnt 64 x ≤ 64 := by
  refine ⟨pb_E 8 x, (pb_all 8 x hx).2.2, ?_⟩
  have c0 := pb_c8 x
  have c1 := pb_c8 (x / 256)
  have c2 := pb_c8 (x / 256 / 256)
  have c3 := pb_c8 (x / 256 / 256 / 256)
  have c4 := pb_c8 (x / 256 / 256 / 256 / 256)
  have c5 := pb_c8 (x / 256 / 256 / 256 / 256 / 256)
  have c6 := pb_c8 (x / 256 / 256 / 256 / 256 / 256 / 256)
  have c7 := pb_c8 (x / 256 / 256 / 256 / 256 / 256 / 256 / 256)
  rw [pb_64]
  simp only [pb_E]
  generalize pb_cnt 8 (x % 256) = a0 at *
  generalize pb_cnt 8 (x / 256 % 256) = a1 at *
  generalize pb_cnt 8 (x / 256 / 256 % 256) = a2 at *
  generalize pb_cnt 8 (x / 256 / 256 / 256 % 256) = a3 at *
  generalize pb_cnt 8 (x / 256 / 256 / 256 / 256 % 256) = a4 at *
  generalize pb_cnt 8 (x / 256 / 256 / 256 / 256 / 256 % 256) = a5 at *
  generalize pb_cnt 8 (x / 256 / 256 / 256 / 256 / 256 / 256 % 256) = a6 at *
  generalize pb_cnt 8 (x / 256 / 256 / 256 / 256 / 256 / 256 / 256 % 256) = a7 at *
  simp only [Nat.mul_zero, Nat.add_zero]
  generalize h7 : a7 = z7 at *
  generalize h6 : a6 + 256 * z7 = z6 at *
  generalize h5 : a5 + 256 * z6 = z5 at *
  generalize h4 : a4 + 256 * z5 = z4 at *
  generalize h3 : a3 + 256 * z4 = z3 at *
  generalize h2 : a2 + 256 * z3 = z2 at *
  generalize h1 : a1 + 256 * z2 = z1 at *
  generalize h0 : a0 + 256 * z1 = z at *
  have d1 : z / 256 = z1 := by omega
  rw [d1]
  have d2 : (z + z1) / 65536 = z2 + z3 := by omega
  rw [d2]
  have d3 : (z + z1 + (z2 + z3)) / 4294967296 = z4 + z5 + z6 + z7 := by omega
  rw [d3]
  refine ⟨?_, ?_, ?_⟩ <;> omega
theorem pb_lu {y : Nat} (hy : y < 2 ^ 64) (k : Nat) (hk : k < 64) : j_lu (lN y) (nI k) = lN (y / 2 ^ k) := wb_shr hy hk
theorem pb_q1 {y : Nat} (hy : y < 2 ^ 64) : j_l1 (lN y) = lN (pb_1 8 y) ∧ pb_1 8 y < 2 ^ 64 := by
  have h := (pb_all 8 y (by simpa using hy)).1
  refine ⟨?_, by unfold pb_1; omega⟩
  unfold j_l1 pb_1
  rw [show j_lu (lN y) 1 = lN (y / 2 ^ 1) from pb_lu hy 1 (by decide), show (6148914691236517205 : Int64) = lN (pb_m 85 8) from by decide +kernel, wb_and (by omega) (by decide), show y / 2 ^ 1 = y / 2 from rfl, lN_sub h]
theorem pb_q2 {y : Nat} (hy : y < 2 ^ 64) : j_l2 (lN y) = lN (pb_2 8 y) ∧ pb_2 8 y < 2 ^ 63 := by
  have a1 : y &&& pb_m 51 8 ≤ pb_m 51 8 := Nat.and_le_right
  have a2 : y / 4 &&& pb_m 51 8 ≤ pb_m 51 8 := Nat.and_le_right
  have e : pb_m 51 8 = 3689348814741910323 := by decide +kernel
  refine ⟨?_, by unfold pb_2; omega⟩
  unfold j_l2 pb_2
  rw [show j_lu (lN y) 2 = lN (y / 2 ^ 2) from pb_lu hy 2 (by decide), show (3689348814741910323 : Int64) = lN (pb_m 51 8) from by decide +kernel, wb_and hy (by decide), wb_and (a := y / 2 ^ 2) (by omega) (by decide), lN_add]
theorem pb_q3 {y : Nat} (hy : y < 2 ^ 63) : j_l3 (lN y) = lN (pb_3 8 y) ∧ pb_3 8 y < 2 ^ 64 := by
  have a1 : (y + y / 16) &&& pb_m 15 8 ≤ pb_m 15 8 := Nat.and_le_right
  have e : pb_m 15 8 = 1085102592571150095 := by decide +kernel
  refine ⟨?_, by unfold pb_3; omega⟩
  unfold j_l3 pb_3
  rw [show j_lu (lN y) 4 = lN (y / 2 ^ 4) from pb_lu (by omega) 4 (by decide), show (1085102592571150095 : Int64) = lN (pb_m 15 8) from by decide +kernel, lN_add, wb_and (by omega) (by decide)]
/-- the JDK's Long.bitCount counts the bits -/
theorem pb_lb {y : Nat} (hy : y < 2 ^ 64) : j_lb (lN y) = nI (pb_cnt 64 y) ∧ pb_cnt 64 y ≤ 64 := by
  obtain ⟨z, hz, hb, hm, hc⟩ := pb_end y (by simpa using hy)
  refine ⟨?_, hc⟩
  obtain ⟨q1, r1⟩ := pb_q1 hy
  obtain ⟨q2, r2⟩ := pb_q2 r1
  obtain ⟨q3, r3⟩ := pb_q3 r2
  unfold j_lb
  rw [q1, q2, q3, hz]
  rw [hz] at r3
  have e4 : j_l4 (lN z) = lN (z + z / 256) := by
    unfold j_l4
    rw [show j_lu (lN z) 8 = lN (z / 2 ^ 8) from pb_lu r3 8 (by decide), lN_add]
  rw [e4]
  have e5 : j_l5 (lN (z + z / 256)) = lN (z + z / 256 + (z + z / 256) / 65536) := by
    unfold j_l5
    rw [show j_lu (lN (z + z / 256)) 16 = lN ((z + z / 256) / 2 ^ 16) from pb_lu (by omega) 16 (by decide), lN_add]
  rw [e5]
  have e6 : j_l6 (lN (z + z / 256 + (z + z / 256) / 65536)) = lN (z + z / 256 + (z + z / 256) / 65536 + (z + z / 256 + (z + z / 256) / 65536) / 4294967296) := by
    unfold j_l6
    rw [show j_lu (lN (z + z / 256 + (z + z / 256) / 65536)) 32 = lN ((z + z / 256 + (z + z / 256) / 65536) / 2 ^ 32) from pb_lu (by omega) 32 (by decide), lN_add]
  rw [e6, lN_i, pk_and _ (m := 127) 7 (by decide)]
  rw [← hm]
  congr 1
  show (BitVec.ofNat 32 _).toNat % 2 ^ 7 = _
  rw [BitVec.toNat_ofNat]
  omega
/-- Integer.bitCount, of 13 bits -/
theorem pb_ib0 : ∀ x, x < 128 → ∀ y, y < 64 → j_ib (nI (64 * x + y)) = nI (pb_cnt 13 (64 * x + y)) := by decide +kernel
theorem pb_ib (x : Nat) (h : x < 8192) : j_ib (nI x) = nI (pb_cnt 13 x) := by
  have := pb_ib0 (x / 64) (by omega) (x % 64) (by omega)
  rw [show 64 * (x / 64) + x % 64 = x by omega] at this
  exact this
end POP
end
