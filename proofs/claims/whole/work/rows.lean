section
/-- a private method of a class that the tables say can be made, by its rows of tables_1 -/
def lw_okq (q : MethodName × Nat) : Prop := (q.1.cls ≠ "java/lang/invoke/MethodHandle" ∧ q.1.cls ≠ "java/lang/invoke/VarHandle") ∧ Cond.instantiable q.1.cls q.2 ∈ tables_1 ∧ Cond.privateMethod q.1 ∈ tables_1 ∧ Cond.instanceMethod q.1 ∈ tables_1
theorem lw_p0 : lw_okq (⟨"RoundnessInstrument$Measurement", "begin", "(I)V"⟩, 5) := ⟨⟨by decide +kernel, by decide +kernel⟩, List.mem_of_getElem? (i := 21) (by decide +kernel), List.mem_of_getElem? (i := 272) (by decide +kernel), List.mem_of_getElem? (i := 273) (by decide +kernel)⟩
theorem lw_p1 : lw_okq (⟨"RoundnessInstrument$Measurement", "isComplete", "()Z"⟩, 5) := ⟨⟨by decide +kernel, by decide +kernel⟩, List.mem_of_getElem? (i := 21) (by decide +kernel), List.mem_of_getElem? (i := 283) (by decide +kernel), List.mem_of_getElem? (i := 284) (by decide +kernel)⟩
theorem lw_p2 : lw_okq (⟨"RoundnessInstrument$Measurement", "append", "(I)V"⟩, 5) := ⟨⟨by decide +kernel, by decide +kernel⟩, List.mem_of_getElem? (i := 21) (by decide +kernel), List.mem_of_getElem? (i := 288) (by decide +kernel), List.mem_of_getElem? (i := 289) (by decide +kernel)⟩
theorem lw_p3 : lw_okq (⟨"RoundnessInstrument$Measurement", "nextPosition", "()I"⟩, 5) := ⟨⟨by decide +kernel, by decide +kernel⟩, List.mem_of_getElem? (i := 21) (by decide +kernel), List.mem_of_getElem? (i := 296) (by decide +kernel), List.mem_of_getElem? (i := 297) (by decide +kernel)⟩
theorem lw_p4 : lw_okq (⟨"RoundnessInstrument$Measurement", "finishedSteps", "()I"⟩, 5) := ⟨⟨by decide +kernel, by decide +kernel⟩, List.mem_of_getElem? (i := 21) (by decide +kernel), List.mem_of_getElem? (i := 300) (by decide +kernel), List.mem_of_getElem? (i := 301) (by decide +kernel)⟩
theorem lw_p5 : lw_okq (⟨"RoundnessInstrument$Measurement", "turnOf", "(I)I"⟩, 5) := ⟨⟨by decide +kernel, by decide +kernel⟩, List.mem_of_getElem? (i := 21) (by decide +kernel), List.mem_of_getElem? (i := 304) (by decide +kernel), List.mem_of_getElem? (i := 305) (by decide +kernel)⟩
theorem lw_p6 : lw_okq (⟨"RoundnessInstrument$Simulation", "readingAt", "(II)I"⟩, 4) := ⟨⟨by decide +kernel, by decide +kernel⟩, List.mem_of_getElem? (i := 47) (by decide +kernel), List.mem_of_getElem? (i := 308) (by decide +kernel), List.mem_of_getElem? (i := 309) (by decide +kernel)⟩
theorem lw_p7 : lw_okq (⟨"RoundnessInstrument$Measurement", "at", "(II)I"⟩, 5) := ⟨⟨by decide +kernel, by decide +kernel⟩, List.mem_of_getElem? (i := 21) (by decide +kernel), List.mem_of_getElem? (i := 348) (by decide +kernel), List.mem_of_getElem? (i := 349) (by decide +kernel)⟩
theorem lw_p8 : lw_okq (⟨"RoundnessInstrument$Measurement", "replaceSpikes", "(II)I"⟩, 5) := ⟨⟨by decide +kernel, by decide +kernel⟩, List.mem_of_getElem? (i := 21) (by decide +kernel), List.mem_of_getElem? (i := 357) (by decide +kernel), List.mem_of_getElem? (i := 358) (by decide +kernel)⟩
theorem lw_p9 : lw_okq (⟨"RoundnessInstrument$Measurement", "partAt", "(I)J"⟩, 5) := ⟨⟨by decide +kernel, by decide +kernel⟩, List.mem_of_getElem? (i := 21) (by decide +kernel), List.mem_of_getElem? (i := 376) (by decide +kernel), List.mem_of_getElem? (i := 377) (by decide +kernel)⟩
theorem lw_p10 : lw_okq (⟨"RoundnessInstrument$Measurement", "sumAt", "(I)J"⟩, 5) := ⟨⟨by decide +kernel, by decide +kernel⟩, List.mem_of_getElem? (i := 21) (by decide +kernel), List.mem_of_getElem? (i := 382) (by decide +kernel), List.mem_of_getElem? (i := 383) (by decide +kernel)⟩
theorem lw_p11 : lw_okq (⟨"RoundnessInstrument$Measurement", "spindleAt", "(I)J"⟩, 5) := ⟨⟨by decide +kernel, by decide +kernel⟩, List.mem_of_getElem? (i := 21) (by decide +kernel), List.mem_of_getElem? (i := 394) (by decide +kernel), List.mem_of_getElem? (i := 395) (by decide +kernel)⟩
theorem lw_p12 : lw_okq (⟨"RoundnessInstrument$Measurement", "greatestResidual", "()J"⟩, 5) := ⟨⟨by decide +kernel, by decide +kernel⟩, List.mem_of_getElem? (i := 21) (by decide +kernel), List.mem_of_getElem? (i := 406) (by decide +kernel), List.mem_of_getElem? (i := 407) (by decide +kernel)⟩
theorem lw_p13 : lw_okq (⟨"RoundnessInstrument", "sourceError", "(II)I"⟩, 8) := ⟨⟨by decide +kernel, by decide +kernel⟩, List.mem_of_getElem? (i := 13) (by decide +kernel), List.mem_of_getElem? (i := 422) (by decide +kernel), List.mem_of_getElem? (i := 423) (by decide +kernel)⟩
theorem lw_p14 : lw_okq (⟨"RoundnessInstrument", "fillNext", "(II)V"⟩, 8) := ⟨⟨by decide +kernel, by decide +kernel⟩, List.mem_of_getElem? (i := 13) (by decide +kernel), List.mem_of_getElem? (i := 426) (by decide +kernel), List.mem_of_getElem? (i := 427) (by decide +kernel)⟩
theorem lw_p15 : lw_okq (⟨"RoundnessInstrument", "sourceAt", "(III)J"⟩, 8) := ⟨⟨by decide +kernel, by decide +kernel⟩, List.mem_of_getElem? (i := 13) (by decide +kernel), List.mem_of_getElem? (i := 430) (by decide +kernel), List.mem_of_getElem? (i := 431) (by decide +kernel)⟩
def lw_privs_1 : List (MethodName × Nat) := [(⟨"RoundnessInstrument$Measurement", "begin", "(I)V"⟩, 5), (⟨"RoundnessInstrument$Measurement", "isComplete", "()Z"⟩, 5), (⟨"RoundnessInstrument$Measurement", "append", "(I)V"⟩, 5), (⟨"RoundnessInstrument$Measurement", "nextPosition", "()I"⟩, 5), (⟨"RoundnessInstrument$Measurement", "finishedSteps", "()I"⟩, 5), (⟨"RoundnessInstrument$Measurement", "turnOf", "(I)I"⟩, 5), (⟨"RoundnessInstrument$Simulation", "readingAt", "(II)I"⟩, 4), (⟨"RoundnessInstrument$Measurement", "at", "(II)I"⟩, 5), (⟨"RoundnessInstrument$Measurement", "replaceSpikes", "(II)I"⟩, 5), (⟨"RoundnessInstrument$Measurement", "partAt", "(I)J"⟩, 5), (⟨"RoundnessInstrument$Measurement", "sumAt", "(I)J"⟩, 5), (⟨"RoundnessInstrument$Measurement", "spindleAt", "(I)J"⟩, 5), (⟨"RoundnessInstrument$Measurement", "greatestResidual", "()J"⟩, 5), (⟨"RoundnessInstrument", "sourceError", "(II)I"⟩, 8), (⟨"RoundnessInstrument", "fillNext", "(II)V"⟩, 8), (⟨"RoundnessInstrument", "sourceAt", "(III)J"⟩, 8)]
theorem lw_r1 : ∀ q ∈ lw_privs_1, lw_okq q := List.forall_mem_cons.mpr ⟨lw_p0, List.forall_mem_cons.mpr ⟨lw_p1, List.forall_mem_cons.mpr ⟨lw_p2, List.forall_mem_cons.mpr ⟨lw_p3, List.forall_mem_cons.mpr ⟨lw_p4, List.forall_mem_cons.mpr ⟨lw_p5, List.forall_mem_cons.mpr ⟨lw_p6, List.forall_mem_cons.mpr ⟨lw_p7, List.forall_mem_cons.mpr ⟨lw_p8, List.forall_mem_cons.mpr ⟨lw_p9, List.forall_mem_cons.mpr ⟨lw_p10, List.forall_mem_cons.mpr ⟨lw_p11, List.forall_mem_cons.mpr ⟨lw_p12, List.forall_mem_cons.mpr ⟨lw_p13, List.forall_mem_cons.mpr ⟨lw_p14, List.forall_mem_cons.mpr ⟨lw_p15, fun _ h => absurd h List.not_mem_nil⟩⟩⟩⟩⟩⟩⟩⟩⟩⟩⟩⟩⟩⟩⟩⟩
theorem lw_p16 : lw_okq (⟨"RoundnessInstrument$Simulation", "profileOf", "(Z)[I"⟩, 4) := ⟨⟨by decide +kernel, by decide +kernel⟩, List.mem_of_getElem? (i := 47) (by decide +kernel), List.mem_of_getElem? (i := 434) (by decide +kernel), List.mem_of_getElem? (i := 435) (by decide +kernel)⟩
theorem lw_p17 : lw_okq (⟨"RoundnessInstrument", "makeNextPresent", "()I"⟩, 8) := ⟨⟨by decide +kernel, by decide +kernel⟩, List.mem_of_getElem? (i := 13) (by decide +kernel), List.mem_of_getElem? (i := 438) (by decide +kernel), List.mem_of_getElem? (i := 439) (by decide +kernel)⟩
theorem lw_p18 : lw_okq (⟨"RoundnessInstrument$History", "append", "([J)Z"⟩, 4) := ⟨⟨by decide +kernel, by decide +kernel⟩, List.mem_of_getElem? (i := 66) (by decide +kernel), List.mem_of_getElem? (i := 442) (by decide +kernel), List.mem_of_getElem? (i := 443) (by decide +kernel)⟩
theorem lw_p19 : lw_okq (⟨"RoundnessInstrument$History", "present", "()[J"⟩, 4) := ⟨⟨by decide +kernel, by decide +kernel⟩, List.mem_of_getElem? (i := 66) (by decide +kernel), List.mem_of_getElem? (i := 446) (by decide +kernel), List.mem_of_getElem? (i := 447) (by decide +kernel)⟩
theorem lw_p20 : lw_okq (⟨"RoundnessInstrument", "isNextTooGreat", "()Z"⟩, 8) := ⟨⟨by decide +kernel, by decide +kernel⟩, List.mem_of_getElem? (i := 13) (by decide +kernel), List.mem_of_getElem? (i := 488) (by decide +kernel), List.mem_of_getElem? (i := 489) (by decide +kernel)⟩
theorem lw_p21 : lw_okq (⟨"RoundnessInstrument$History", "stepBack", "()Z"⟩, 4) := ⟨⟨by decide +kernel, by decide +kernel⟩, List.mem_of_getElem? (i := 66) (by decide +kernel), List.mem_of_getElem? (i := 511) (by decide +kernel), List.mem_of_getElem? (i := 512) (by decide +kernel)⟩
theorem lw_p22 : lw_okq (⟨"RoundnessInstrument$History", "stepForward", "()Z"⟩, 4) := ⟨⟨by decide +kernel, by decide +kernel⟩, List.mem_of_getElem? (i := 66) (by decide +kernel), List.mem_of_getElem? (i := 519) (by decide +kernel), List.mem_of_getElem? (i := 520) (by decide +kernel)⟩
theorem lw_p23 : lw_okq (⟨"RoundnessInstrument", "circleBy", "(I)LRoundnessInstrument$Circle;"⟩, 8) := ⟨⟨by decide +kernel, by decide +kernel⟩, List.mem_of_getElem? (i := 13) (by decide +kernel), List.mem_of_getElem? (i := 545) (by decide +kernel), List.mem_of_getElem? (i := 546) (by decide +kernel)⟩
theorem lw_p24 : lw_okq (⟨"RoundnessInstrument$Circle", "fit", "([JI)V"⟩, 9) := ⟨⟨by decide +kernel, by decide +kernel⟩, List.mem_of_getElem? (i := 129) (by decide +kernel), List.mem_of_getElem? (i := 549) (by decide +kernel), List.mem_of_getElem? (i := 550) (by decide +kernel)⟩
theorem lw_p25 : lw_okq (⟨"RoundnessInstrument$Circle", "search", "()V"⟩, 9) := ⟨⟨by decide +kernel, by decide +kernel⟩, List.mem_of_getElem? (i := 129) (by decide +kernel), List.mem_of_getElem? (i := 556) (by decide +kernel), List.mem_of_getElem? (i := 557) (by decide +kernel)⟩
theorem lw_p26 : lw_okq (⟨"RoundnessInstrument$Circle", "measure", "()V"⟩, 9) := ⟨⟨by decide +kernel, by decide +kernel⟩, List.mem_of_getElem? (i := 129) (by decide +kernel), List.mem_of_getElem? (i := 560) (by decide +kernel), List.mem_of_getElem? (i := 561) (by decide +kernel)⟩
theorem lw_p27 : lw_okq (⟨"RoundnessInstrument$Circle", "valueOf", "(JJ)J"⟩, 9) := ⟨⟨by decide +kernel, by decide +kernel⟩, List.mem_of_getElem? (i := 129) (by decide +kernel), List.mem_of_getElem? (i := 571) (by decide +kernel), List.mem_of_getElem? (i := 572) (by decide +kernel)⟩
theorem lw_p28 : lw_okq (⟨"RoundnessInstrument$Circle", "pickNear", "(J)V"⟩, 9) := ⟨⟨by decide +kernel, by decide +kernel⟩, List.mem_of_getElem? (i := 129) (by decide +kernel), List.mem_of_getElem? (i := 578) (by decide +kernel), List.mem_of_getElem? (i := 579) (by decide +kernel)⟩
theorem lw_p29 : lw_okq (⟨"RoundnessInstrument$Circle", "valueAt", "(JJ)J"⟩, 9) := ⟨⟨by decide +kernel, by decide +kernel⟩, List.mem_of_getElem? (i := 129) (by decide +kernel), List.mem_of_getElem? (i := 587) (by decide +kernel), List.mem_of_getElem? (i := 588) (by decide +kernel)⟩
theorem lw_p30 : lw_okq (⟨"RoundnessInstrument$Circle", "width", "()J"⟩, 9) := ⟨⟨by decide +kernel, by decide +kernel⟩, List.mem_of_getElem? (i := 129) (by decide +kernel), List.mem_of_getElem? (i := 604) (by decide +kernel), List.mem_of_getElem? (i := 605) (by decide +kernel)⟩
theorem lw_p31 : lw_okq (⟨"RoundnessInstrument$Circle", "firstWith", "(J)I"⟩, 9) := ⟨⟨by decide +kernel, by decide +kernel⟩, List.mem_of_getElem? (i := 129) (by decide +kernel), List.mem_of_getElem? (i := 613) (by decide +kernel), List.mem_of_getElem? (i := 614) (by decide +kernel)⟩
def lw_privs_2 : List (MethodName × Nat) := [(⟨"RoundnessInstrument$Simulation", "profileOf", "(Z)[I"⟩, 4), (⟨"RoundnessInstrument", "makeNextPresent", "()I"⟩, 8), (⟨"RoundnessInstrument$History", "append", "([J)Z"⟩, 4), (⟨"RoundnessInstrument$History", "present", "()[J"⟩, 4), (⟨"RoundnessInstrument", "isNextTooGreat", "()Z"⟩, 8), (⟨"RoundnessInstrument$History", "stepBack", "()Z"⟩, 4), (⟨"RoundnessInstrument$History", "stepForward", "()Z"⟩, 4), (⟨"RoundnessInstrument", "circleBy", "(I)LRoundnessInstrument$Circle;"⟩, 8), (⟨"RoundnessInstrument$Circle", "fit", "([JI)V"⟩, 9), (⟨"RoundnessInstrument$Circle", "search", "()V"⟩, 9), (⟨"RoundnessInstrument$Circle", "measure", "()V"⟩, 9), (⟨"RoundnessInstrument$Circle", "valueOf", "(JJ)J"⟩, 9), (⟨"RoundnessInstrument$Circle", "pickNear", "(J)V"⟩, 9), (⟨"RoundnessInstrument$Circle", "valueAt", "(JJ)J"⟩, 9), (⟨"RoundnessInstrument$Circle", "width", "()J"⟩, 9), (⟨"RoundnessInstrument$Circle", "firstWith", "(J)I"⟩, 9)]
theorem lw_r2 : ∀ q ∈ lw_privs_2, lw_okq q := List.forall_mem_cons.mpr ⟨lw_p16, List.forall_mem_cons.mpr ⟨lw_p17, List.forall_mem_cons.mpr ⟨lw_p18, List.forall_mem_cons.mpr ⟨lw_p19, List.forall_mem_cons.mpr ⟨lw_p20, List.forall_mem_cons.mpr ⟨lw_p21, List.forall_mem_cons.mpr ⟨lw_p22, List.forall_mem_cons.mpr ⟨lw_p23, List.forall_mem_cons.mpr ⟨lw_p24, List.forall_mem_cons.mpr ⟨lw_p25, List.forall_mem_cons.mpr ⟨lw_p26, List.forall_mem_cons.mpr ⟨lw_p27, List.forall_mem_cons.mpr ⟨lw_p28, List.forall_mem_cons.mpr ⟨lw_p29, List.forall_mem_cons.mpr ⟨lw_p30, List.forall_mem_cons.mpr ⟨lw_p31, fun _ h => absurd h List.not_mem_nil⟩⟩⟩⟩⟩⟩⟩⟩⟩⟩⟩⟩⟩⟩⟩⟩
theorem lw_p32 : lw_okq (⟨"RoundnessInstrument$Circle", "countDownTo", "(J)I"⟩, 9) := ⟨⟨by decide +kernel, by decide +kernel⟩, List.mem_of_getElem? (i := 129) (by decide +kernel), List.mem_of_getElem? (i := 626) (by decide +kernel), List.mem_of_getElem? (i := 627) (by decide +kernel)⟩
theorem lw_p33 : lw_okq (⟨"RoundnessInstrument$Circle", "leastDepth", "(I)J"⟩, 9) := ⟨⟨by decide +kernel, by decide +kernel⟩, List.mem_of_getElem? (i := 129) (by decide +kernel), List.mem_of_getElem? (i := 634) (by decide +kernel), List.mem_of_getElem? (i := 635) (by decide +kernel)⟩
theorem lw_p34 : lw_okq (⟨"RoundnessInstrument$Traces", "hasHeight", "(I)Z"⟩, 6) := ⟨⟨by decide +kernel, by decide +kernel⟩, List.mem_of_getElem? (i := 91) (by decide +kernel), List.mem_of_getElem? (i := 644) (by decide +kernel), List.mem_of_getElem? (i := 645) (by decide +kernel)⟩
theorem lw_p35 : lw_okq (⟨"RoundnessInstrument$Traces", "append", "([JI)V"⟩, 6) := ⟨⟨by decide +kernel, by decide +kernel⟩, List.mem_of_getElem? (i := 91) (by decide +kernel), List.mem_of_getElem? (i := 649) (by decide +kernel), List.mem_of_getElem? (i := 650) (by decide +kernel)⟩
theorem lw_p36 : lw_okq (⟨"RoundnessInstrument$Traces", "lacks", "(I)Z"⟩, 6) := ⟨⟨by decide +kernel, by decide +kernel⟩, List.mem_of_getElem? (i := 91) (by decide +kernel), List.mem_of_getElem? (i := 663) (by decide +kernel), List.mem_of_getElem? (i := 664) (by decide +kernel)⟩
theorem lw_p37 : lw_okq (⟨"RoundnessInstrument$Traces", "axisAt", "(IZ)J"⟩, 6) := ⟨⟨by decide +kernel, by decide +kernel⟩, List.mem_of_getElem? (i := 91) (by decide +kernel), List.mem_of_getElem? (i := 677) (by decide +kernel), List.mem_of_getElem? (i := 678) (by decide +kernel)⟩
theorem lw_p38 : lw_okq (⟨"RoundnessInstrument$Traces", "cylinderWidth", "()J"⟩, 6) := ⟨⟨by decide +kernel, by decide +kernel⟩, List.mem_of_getElem? (i := 91) (by decide +kernel), List.mem_of_getElem? (i := 686) (by decide +kernel), List.mem_of_getElem? (i := 687) (by decide +kernel)⟩
theorem lw_p39 : lw_okq (⟨"RoundnessInstrument$Traces", "farthest", "()I"⟩, 6) := ⟨⟨by decide +kernel, by decide +kernel⟩, List.mem_of_getElem? (i := 91) (by decide +kernel), List.mem_of_getElem? (i := 700) (by decide +kernel), List.mem_of_getElem? (i := 701) (by decide +kernel)⟩
theorem lw_p40 : lw_okq (⟨"RoundnessInstrument$Traces", "distanceFromAxis", "(I)J"⟩, 6) := ⟨⟨by decide +kernel, by decide +kernel⟩, List.mem_of_getElem? (i := 91) (by decide +kernel), List.mem_of_getElem? (i := 704) (by decide +kernel), List.mem_of_getElem? (i := 705) (by decide +kernel)⟩
theorem lw_p41 : lw_okq (⟨"RoundnessInstrument$Traces", "spreadOfMeans", "()J"⟩, 6) := ⟨⟨by decide +kernel, by decide +kernel⟩, List.mem_of_getElem? (i := 91) (by decide +kernel), List.mem_of_getElem? (i := 713) (by decide +kernel), List.mem_of_getElem? (i := 714) (by decide +kernel)⟩
theorem lw_p42 : lw_okq (⟨"RoundnessInstrument$Traces", "mismatch", "(III)J"⟩, 6) := ⟨⟨by decide +kernel, by decide +kernel⟩, List.mem_of_getElem? (i := 91) (by decide +kernel), List.mem_of_getElem? (i := 721) (by decide +kernel), List.mem_of_getElem? (i := 722) (by decide +kernel)⟩
theorem lw_p43 : lw_okq (⟨"RoundnessInstrument$Traces", "bestMatch", "(II)I"⟩, 6) := ⟨⟨by decide +kernel, by decide +kernel⟩, List.mem_of_getElem? (i := 91) (by decide +kernel), List.mem_of_getElem? (i := 730) (by decide +kernel), List.mem_of_getElem? (i := 731) (by decide +kernel)⟩
theorem lw_p44 : lw_okq (⟨"RoundnessInstrument$Rules", "append", "(IIII)V"⟩, 6) := ⟨⟨by decide +kernel, by decide +kernel⟩, List.mem_of_getElem? (i := 123) (by decide +kernel), List.mem_of_getElem? (i := 739) (by decide +kernel), List.mem_of_getElem? (i := 740) (by decide +kernel)⟩
theorem lw_p45 : lw_okq (⟨"RoundnessInstrument", "valueOfRule", "(I)J"⟩, 8) := ⟨⟨by decide +kernel, by decide +kernel⟩, List.mem_of_getElem? (i := 13) (by decide +kernel), List.mem_of_getElem? (i := 751) (by decide +kernel), List.mem_of_getElem? (i := 752) (by decide +kernel)⟩
theorem lw_p46 : lw_okq (⟨"RoundnessInstrument$Script", "append", "(C)V"⟩, 10) := ⟨⟨by decide +kernel, by decide +kernel⟩, List.mem_of_getElem? (i := 193) (by decide +kernel), List.mem_of_getElem? (i := 763) (by decide +kernel), List.mem_of_getElem? (i := 764) (by decide +kernel)⟩
theorem lw_p47 : lw_okq (⟨"RoundnessInstrument$Script", "parse", "()Z"⟩, 10) := ⟨⟨by decide +kernel, by decide +kernel⟩, List.mem_of_getElem? (i := 193) (by decide +kernel), List.mem_of_getElem? (i := 775) (by decide +kernel), List.mem_of_getElem? (i := 776) (by decide +kernel)⟩
def lw_privs_3 : List (MethodName × Nat) := [(⟨"RoundnessInstrument$Circle", "countDownTo", "(J)I"⟩, 9), (⟨"RoundnessInstrument$Circle", "leastDepth", "(I)J"⟩, 9), (⟨"RoundnessInstrument$Traces", "hasHeight", "(I)Z"⟩, 6), (⟨"RoundnessInstrument$Traces", "append", "([JI)V"⟩, 6), (⟨"RoundnessInstrument$Traces", "lacks", "(I)Z"⟩, 6), (⟨"RoundnessInstrument$Traces", "axisAt", "(IZ)J"⟩, 6), (⟨"RoundnessInstrument$Traces", "cylinderWidth", "()J"⟩, 6), (⟨"RoundnessInstrument$Traces", "farthest", "()I"⟩, 6), (⟨"RoundnessInstrument$Traces", "distanceFromAxis", "(I)J"⟩, 6), (⟨"RoundnessInstrument$Traces", "spreadOfMeans", "()J"⟩, 6), (⟨"RoundnessInstrument$Traces", "mismatch", "(III)J"⟩, 6), (⟨"RoundnessInstrument$Traces", "bestMatch", "(II)I"⟩, 6), (⟨"RoundnessInstrument$Rules", "append", "(IIII)V"⟩, 6), (⟨"RoundnessInstrument", "valueOfRule", "(I)J"⟩, 8), (⟨"RoundnessInstrument$Script", "append", "(C)V"⟩, 10), (⟨"RoundnessInstrument$Script", "parse", "()Z"⟩, 10)]
theorem lw_r3 : ∀ q ∈ lw_privs_3, lw_okq q := List.forall_mem_cons.mpr ⟨lw_p32, List.forall_mem_cons.mpr ⟨lw_p33, List.forall_mem_cons.mpr ⟨lw_p34, List.forall_mem_cons.mpr ⟨lw_p35, List.forall_mem_cons.mpr ⟨lw_p36, List.forall_mem_cons.mpr ⟨lw_p37, List.forall_mem_cons.mpr ⟨lw_p38, List.forall_mem_cons.mpr ⟨lw_p39, List.forall_mem_cons.mpr ⟨lw_p40, List.forall_mem_cons.mpr ⟨lw_p41, List.forall_mem_cons.mpr ⟨lw_p42, List.forall_mem_cons.mpr ⟨lw_p43, List.forall_mem_cons.mpr ⟨lw_p44, List.forall_mem_cons.mpr ⟨lw_p45, List.forall_mem_cons.mpr ⟨lw_p46, List.forall_mem_cons.mpr ⟨lw_p47, fun _ h => absurd h List.not_mem_nil⟩⟩⟩⟩⟩⟩⟩⟩⟩⟩⟩⟩⟩⟩⟩⟩
theorem lw_p48 : lw_okq (⟨"RoundnessInstrument$Script", "parseItem", "()Z"⟩, 10) := ⟨⟨by decide +kernel, by decide +kernel⟩, List.mem_of_getElem? (i := 193) (by decide +kernel), List.mem_of_getElem? (i := 779) (by decide +kernel), List.mem_of_getElem? (i := 780) (by decide +kernel)⟩
theorem lw_p49 : lw_okq (⟨"RoundnessInstrument$Script", "current", "()I"⟩, 10) := ⟨⟨by decide +kernel, by decide +kernel⟩, List.mem_of_getElem? (i := 193) (by decide +kernel), List.mem_of_getElem? (i := 783) (by decide +kernel), List.mem_of_getElem? (i := 784) (by decide +kernel)⟩
theorem lw_p50 : lw_okq (⟨"RoundnessInstrument$Script", "parseLobes", "(I)Z"⟩, 10) := ⟨⟨by decide +kernel, by decide +kernel⟩, List.mem_of_getElem? (i := 193) (by decide +kernel), List.mem_of_getElem? (i := 787) (by decide +kernel), List.mem_of_getElem? (i := 788) (by decide +kernel)⟩
theorem lw_p51 : lw_okq (⟨"RoundnessInstrument$Script", "takeNumber", "(II)Z"⟩, 10) := ⟨⟨by decide +kernel, by decide +kernel⟩, List.mem_of_getElem? (i := 193) (by decide +kernel), List.mem_of_getElem? (i := 791) (by decide +kernel), List.mem_of_getElem? (i := 792) (by decide +kernel)⟩
theorem lw_p52 : lw_okq (⟨"RoundnessInstrument$Script", "isAtDigit", "()Z"⟩, 10) := ⟨⟨by decide +kernel, by decide +kernel⟩, List.mem_of_getElem? (i := 193) (by decide +kernel), List.mem_of_getElem? (i := 795) (by decide +kernel), List.mem_of_getElem? (i := 796) (by decide +kernel)⟩
theorem lw_p53 : lw_okq (⟨"RoundnessInstrument$Script", "fail", "(I)Z"⟩, 10) := ⟨⟨by decide +kernel, by decide +kernel⟩, List.mem_of_getElem? (i := 193) (by decide +kernel), List.mem_of_getElem? (i := 800) (by decide +kernel), List.mem_of_getElem? (i := 801) (by decide +kernel)⟩
theorem lw_p54 : lw_okq (⟨"RoundnessInstrument$Script", "take", "(C)Z"⟩, 10) := ⟨⟨by decide +kernel, by decide +kernel⟩, List.mem_of_getElem? (i := 193) (by decide +kernel), List.mem_of_getElem? (i := 804) (by decide +kernel), List.mem_of_getElem? (i := 805) (by decide +kernel)⟩
theorem lw_p55 : lw_okq (⟨"RoundnessInstrument$Script", "note", "(IIII)V"⟩, 10) := ⟨⟨by decide +kernel, by decide +kernel⟩, List.mem_of_getElem? (i := 193) (by decide +kernel), List.mem_of_getElem? (i := 808) (by decide +kernel), List.mem_of_getElem? (i := 809) (by decide +kernel)⟩
theorem lw_p56 : lw_okq (⟨"RoundnessInstrument$Script", "parseEccentricity", "()Z"⟩, 10) := ⟨⟨by decide +kernel, by decide +kernel⟩, List.mem_of_getElem? (i := 193) (by decide +kernel), List.mem_of_getElem? (i := 812) (by decide +kernel), List.mem_of_getElem? (i := 813) (by decide +kernel)⟩
theorem lw_p57 : lw_okq (⟨"RoundnessInstrument$Script", "parseSteps", "()Z"⟩, 10) := ⟨⟨by decide +kernel, by decide +kernel⟩, List.mem_of_getElem? (i := 193) (by decide +kernel), List.mem_of_getElem? (i := 816) (by decide +kernel), List.mem_of_getElem? (i := 817) (by decide +kernel)⟩
theorem lw_p58 : lw_okq (⟨"RoundnessInstrument$Simulation", "reset", "()V"⟩, 4) := ⟨⟨by decide +kernel, by decide +kernel⟩, List.mem_of_getElem? (i := 47) (by decide +kernel), List.mem_of_getElem? (i := 821) (by decide +kernel), List.mem_of_getElem? (i := 822) (by decide +kernel)⟩
theorem lw_p59 : lw_okq (⟨"RoundnessInstrument$Simulation", "shiftTo", "(II)Z"⟩, 4) := ⟨⟨by decide +kernel, by decide +kernel⟩, List.mem_of_getElem? (i := 47) (by decide +kernel), List.mem_of_getElem? (i := 825) (by decide +kernel), List.mem_of_getElem? (i := 826) (by decide +kernel)⟩
theorem lw_p60 : lw_okq (⟨"RoundnessInstrument", "obey", "(I)V"⟩, 8) := ⟨⟨by decide +kernel, by decide +kernel⟩, List.mem_of_getElem? (i := 13) (by decide +kernel), List.mem_of_getElem? (i := 829) (by decide +kernel), List.mem_of_getElem? (i := 830) (by decide +kernel)⟩
theorem lw_p61 : lw_okq (⟨"RoundnessInstrument$Simulation", "superpose", "(ZIII)Z"⟩, 4) := ⟨⟨by decide +kernel, by decide +kernel⟩, List.mem_of_getElem? (i := 47) (by decide +kernel), List.mem_of_getElem? (i := 834) (by decide +kernel), List.mem_of_getElem? (i := 835) (by decide +kernel)⟩
theorem lw_p62 : lw_okq (⟨"RoundnessInstrumentModel", "isComplete", "()Z"⟩, 30) := ⟨⟨by decide +kernel, by decide +kernel⟩, List.mem_of_getElem? (i := 854) (by decide +kernel), List.mem_of_getElem? (i := 974) (by decide +kernel), List.mem_of_getElem? (i := 975) (by decide +kernel)⟩
theorem lw_p63 : lw_okq (⟨"RoundnessInstrumentModel", "noStep", "(I)Z"⟩, 30) := ⟨⟨by decide +kernel, by decide +kernel⟩, List.mem_of_getElem? (i := 854) (by decide +kernel), List.mem_of_getElem? (i := 992) (by decide +kernel), List.mem_of_getElem? (i := 993) (by decide +kernel)⟩
def lw_privs_4 : List (MethodName × Nat) := [(⟨"RoundnessInstrument$Script", "parseItem", "()Z"⟩, 10), (⟨"RoundnessInstrument$Script", "current", "()I"⟩, 10), (⟨"RoundnessInstrument$Script", "parseLobes", "(I)Z"⟩, 10), (⟨"RoundnessInstrument$Script", "takeNumber", "(II)Z"⟩, 10), (⟨"RoundnessInstrument$Script", "isAtDigit", "()Z"⟩, 10), (⟨"RoundnessInstrument$Script", "fail", "(I)Z"⟩, 10), (⟨"RoundnessInstrument$Script", "take", "(C)Z"⟩, 10), (⟨"RoundnessInstrument$Script", "note", "(IIII)V"⟩, 10), (⟨"RoundnessInstrument$Script", "parseEccentricity", "()Z"⟩, 10), (⟨"RoundnessInstrument$Script", "parseSteps", "()Z"⟩, 10), (⟨"RoundnessInstrument$Simulation", "reset", "()V"⟩, 4), (⟨"RoundnessInstrument$Simulation", "shiftTo", "(II)Z"⟩, 4), (⟨"RoundnessInstrument", "obey", "(I)V"⟩, 8), (⟨"RoundnessInstrument$Simulation", "superpose", "(ZIII)Z"⟩, 4), (⟨"RoundnessInstrumentModel", "isComplete", "()Z"⟩, 30), (⟨"RoundnessInstrumentModel", "noStep", "(I)Z"⟩, 30)]
theorem lw_r4 : ∀ q ∈ lw_privs_4, lw_okq q := List.forall_mem_cons.mpr ⟨lw_p48, List.forall_mem_cons.mpr ⟨lw_p49, List.forall_mem_cons.mpr ⟨lw_p50, List.forall_mem_cons.mpr ⟨lw_p51, List.forall_mem_cons.mpr ⟨lw_p52, List.forall_mem_cons.mpr ⟨lw_p53, List.forall_mem_cons.mpr ⟨lw_p54, List.forall_mem_cons.mpr ⟨lw_p55, List.forall_mem_cons.mpr ⟨lw_p56, List.forall_mem_cons.mpr ⟨lw_p57, List.forall_mem_cons.mpr ⟨lw_p58, List.forall_mem_cons.mpr ⟨lw_p59, List.forall_mem_cons.mpr ⟨lw_p60, List.forall_mem_cons.mpr ⟨lw_p61, List.forall_mem_cons.mpr ⟨lw_p62, List.forall_mem_cons.mpr ⟨lw_p63, fun _ h => absurd h List.not_mem_nil⟩⟩⟩⟩⟩⟩⟩⟩⟩⟩⟩⟩⟩⟩⟩⟩
theorem lw_p64 : lw_okq (⟨"RoundnessInstrumentModel", "isFinished", "(I)Z"⟩, 30) := ⟨⟨by decide +kernel, by decide +kernel⟩, List.mem_of_getElem? (i := 854) (by decide +kernel), List.mem_of_getElem? (i := 1004) (by decide +kernel), List.mem_of_getElem? (i := 1005) (by decide +kernel)⟩
theorem lw_p65 : lw_okq (⟨"RoundnessInstrumentModel", "partAt", "(I)J"⟩, 30) := ⟨⟨by decide +kernel, by decide +kernel⟩, List.mem_of_getElem? (i := 854) (by decide +kernel), List.mem_of_getElem? (i := 1027) (by decide +kernel), List.mem_of_getElem? (i := 1028) (by decide +kernel)⟩
theorem lw_p66 : lw_okq (⟨"RoundnessInstrumentModel", "turned", "(I)I"⟩, 30) := ⟨⟨by decide +kernel, by decide +kernel⟩, List.mem_of_getElem? (i := 854) (by decide +kernel), List.mem_of_getElem? (i := 1031) (by decide +kernel), List.mem_of_getElem? (i := 1032) (by decide +kernel)⟩
theorem lw_p67 : lw_okq (⟨"RoundnessInstrumentModel", "sumAt", "(I)J"⟩, 30) := ⟨⟨by decide +kernel, by decide +kernel⟩, List.mem_of_getElem? (i := 854) (by decide +kernel), List.mem_of_getElem? (i := 1035) (by decide +kernel), List.mem_of_getElem? (i := 1036) (by decide +kernel)⟩
theorem lw_p68 : lw_okq (⟨"RoundnessInstrumentModel", "spindleAt", "(I)J"⟩, 30) := ⟨⟨by decide +kernel, by decide +kernel⟩, List.mem_of_getElem? (i := 854) (by decide +kernel), List.mem_of_getElem? (i := 1044) (by decide +kernel), List.mem_of_getElem? (i := 1045) (by decide +kernel)⟩
theorem lw_p69 : lw_okq (⟨"RoundnessInstrumentModel", "fetches", "(II)I"⟩, 30) := ⟨⟨by decide +kernel, by decide +kernel⟩, List.mem_of_getElem? (i := 854) (by decide +kernel), List.mem_of_getElem? (i := 1069) (by decide +kernel), List.mem_of_getElem? (i := 1070) (by decide +kernel)⟩
theorem lw_p70 : lw_okq (⟨"RoundnessInstrumentModel", "takes", "()I"⟩, 30) := ⟨⟨by decide +kernel, by decide +kernel⟩, List.mem_of_getElem? (i := 854) (by decide +kernel), List.mem_of_getElem? (i := 1074) (by decide +kernel), List.mem_of_getElem? (i := 1075) (by decide +kernel)⟩
theorem lw_p71 : lw_okq (⟨"RoundnessInstrumentModel", "harmonicOf", "(IZ)J"⟩, 30) := ⟨⟨by decide +kernel, by decide +kernel⟩, List.mem_of_getElem? (i := 854) (by decide +kernel), List.mem_of_getElem? (i := 1091) (by decide +kernel), List.mem_of_getElem? (i := 1092) (by decide +kernel)⟩
theorem lw_p72 : lw_okq (⟨"RoundnessInstrumentModel", "harmonicIn", "([JIIZ)J"⟩, 30) := ⟨⟨by decide +kernel, by decide +kernel⟩, List.mem_of_getElem? (i := 854) (by decide +kernel), List.mem_of_getElem? (i := 1095) (by decide +kernel), List.mem_of_getElem? (i := 1096) (by decide +kernel)⟩
theorem lw_p73 : lw_okq (⟨"RoundnessInstrumentModel", "sine", "(I)J"⟩, 30) := ⟨⟨by decide +kernel, by decide +kernel⟩, List.mem_of_getElem? (i := 854) (by decide +kernel), List.mem_of_getElem? (i := 1099) (by decide +kernel), List.mem_of_getElem? (i := 1100) (by decide +kernel)⟩
theorem lw_p74 : lw_okq (⟨"RoundnessInstrumentModel", "cosine", "(I)J"⟩, 30) := ⟨⟨by decide +kernel, by decide +kernel⟩, List.mem_of_getElem? (i := 854) (by decide +kernel), List.mem_of_getElem? (i := 1103) (by decide +kernel), List.mem_of_getElem? (i := 1104) (by decide +kernel)⟩
theorem lw_p75 : lw_okq (⟨"RoundnessInstrumentModel", "keeps", "(II)V"⟩, 30) := ⟨⟨by decide +kernel, by decide +kernel⟩, List.mem_of_getElem? (i := 854) (by decide +kernel), List.mem_of_getElem? (i := 1116) (by decide +kernel), List.mem_of_getElem? (i := 1117) (by decide +kernel)⟩
theorem lw_p76 : lw_okq (⟨"RoundnessInstrumentModel", "isTooFar", "()Z"⟩, 30) := ⟨⟨by decide +kernel, by decide +kernel⟩, List.mem_of_getElem? (i := 854) (by decide +kernel), List.mem_of_getElem? (i := 1124) (by decide +kernel), List.mem_of_getElem? (i := 1125) (by decide +kernel)⟩
theorem lw_p77 : lw_okq (⟨"RoundnessInstrumentModel", "strengthOf", "(I)J"⟩, 30) := ⟨⟨by decide +kernel, by decide +kernel⟩, List.mem_of_getElem? (i := 854) (by decide +kernel), List.mem_of_getElem? (i := 1150) (by decide +kernel), List.mem_of_getElem? (i := 1151) (by decide +kernel)⟩
theorem lw_p78 : lw_okq (⟨"RoundnessInstrumentModel", "findCentre", "([JI)V"⟩, 30) := ⟨⟨by decide +kernel, by decide +kernel⟩, List.mem_of_getElem? (i := 854) (by decide +kernel), List.mem_of_getElem? (i := 1166) (by decide +kernel), List.mem_of_getElem? (i := 1167) (by decide +kernel)⟩
theorem lw_p79 : lw_okq (⟨"RoundnessInstrumentModel", "valueBy", "([JIJJ)J"⟩, 30) := ⟨⟨by decide +kernel, by decide +kernel⟩, List.mem_of_getElem? (i := 854) (by decide +kernel), List.mem_of_getElem? (i := 1170) (by decide +kernel), List.mem_of_getElem? (i := 1171) (by decide +kernel)⟩
def lw_privs_5 : List (MethodName × Nat) := [(⟨"RoundnessInstrumentModel", "isFinished", "(I)Z"⟩, 30), (⟨"RoundnessInstrumentModel", "partAt", "(I)J"⟩, 30), (⟨"RoundnessInstrumentModel", "turned", "(I)I"⟩, 30), (⟨"RoundnessInstrumentModel", "sumAt", "(I)J"⟩, 30), (⟨"RoundnessInstrumentModel", "spindleAt", "(I)J"⟩, 30), (⟨"RoundnessInstrumentModel", "fetches", "(II)I"⟩, 30), (⟨"RoundnessInstrumentModel", "takes", "()I"⟩, 30), (⟨"RoundnessInstrumentModel", "harmonicOf", "(IZ)J"⟩, 30), (⟨"RoundnessInstrumentModel", "harmonicIn", "([JIIZ)J"⟩, 30), (⟨"RoundnessInstrumentModel", "sine", "(I)J"⟩, 30), (⟨"RoundnessInstrumentModel", "cosine", "(I)J"⟩, 30), (⟨"RoundnessInstrumentModel", "keeps", "(II)V"⟩, 30), (⟨"RoundnessInstrumentModel", "isTooFar", "()Z"⟩, 30), (⟨"RoundnessInstrumentModel", "strengthOf", "(I)J"⟩, 30), (⟨"RoundnessInstrumentModel", "findCentre", "([JI)V"⟩, 30), (⟨"RoundnessInstrumentModel", "valueBy", "([JIJJ)J"⟩, 30)]
theorem lw_r5 : ∀ q ∈ lw_privs_5, lw_okq q := List.forall_mem_cons.mpr ⟨lw_p64, List.forall_mem_cons.mpr ⟨lw_p65, List.forall_mem_cons.mpr ⟨lw_p66, List.forall_mem_cons.mpr ⟨lw_p67, List.forall_mem_cons.mpr ⟨lw_p68, List.forall_mem_cons.mpr ⟨lw_p69, List.forall_mem_cons.mpr ⟨lw_p70, List.forall_mem_cons.mpr ⟨lw_p71, List.forall_mem_cons.mpr ⟨lw_p72, List.forall_mem_cons.mpr ⟨lw_p73, List.forall_mem_cons.mpr ⟨lw_p74, List.forall_mem_cons.mpr ⟨lw_p75, List.forall_mem_cons.mpr ⟨lw_p76, List.forall_mem_cons.mpr ⟨lw_p77, List.forall_mem_cons.mpr ⟨lw_p78, List.forall_mem_cons.mpr ⟨lw_p79, fun _ h => absurd h List.not_mem_nil⟩⟩⟩⟩⟩⟩⟩⟩⟩⟩⟩⟩⟩⟩⟩⟩
theorem lw_p80 : lw_okq (⟨"RoundnessInstrumentModel", "findEnds", "([JIJJ)V"⟩, 30) := ⟨⟨by decide +kernel, by decide +kernel⟩, List.mem_of_getElem? (i := 854) (by decide +kernel), List.mem_of_getElem? (i := 1174) (by decide +kernel), List.mem_of_getElem? (i := 1175) (by decide +kernel)⟩
theorem lw_p81 : lw_okq (⟨"RoundnessInstrumentModel", "offAt", "([JIIJJ)J"⟩, 30) := ⟨⟨by decide +kernel, by decide +kernel⟩, List.mem_of_getElem? (i := 854) (by decide +kernel), List.mem_of_getElem? (i := 1178) (by decide +kernel), List.mem_of_getElem? (i := 1179) (by decide +kernel)⟩
theorem lw_p82 : lw_okq (⟨"RoundnessInstrumentModel", "layOff", "(I)V"⟩, 30) := ⟨⟨by decide +kernel, by decide +kernel⟩, List.mem_of_getElem? (i := 854) (by decide +kernel), List.mem_of_getElem? (i := 1190) (by decide +kernel), List.mem_of_getElem? (i := 1191) (by decide +kernel)⟩
theorem lw_p83 : lw_okq (⟨"RoundnessInstrumentModel", "roundnessOf", "([JI)J"⟩, 30) := ⟨⟨by decide +kernel, by decide +kernel⟩, List.mem_of_getElem? (i := 854) (by decide +kernel), List.mem_of_getElem? (i := 1199) (by decide +kernel), List.mem_of_getElem? (i := 1200) (by decide +kernel)⟩
theorem lw_p84 : lw_okq (⟨"RoundnessInstrumentModel", "extremeAt", "(Z)I"⟩, 30) := ⟨⟨by decide +kernel, by decide +kernel⟩, List.mem_of_getElem? (i := 854) (by decide +kernel), List.mem_of_getElem? (i := 1208) (by decide +kernel), List.mem_of_getElem? (i := 1209) (by decide +kernel)⟩
theorem lw_p85 : lw_okq (⟨"RoundnessInstrumentModel", "countTo", "(J)I"⟩, 30) := ⟨⟨by decide +kernel, by decide +kernel⟩, List.mem_of_getElem? (i := 854) (by decide +kernel), List.mem_of_getElem? (i := 1221) (by decide +kernel), List.mem_of_getElem? (i := 1222) (by decide +kernel)⟩
theorem lw_p86 : lw_okq (⟨"RoundnessInstrumentModel", "noTrace", "(I)Z"⟩, 30) := ⟨⟨by decide +kernel, by decide +kernel⟩, List.mem_of_getElem? (i := 854) (by decide +kernel), List.mem_of_getElem? (i := 1245) (by decide +kernel), List.mem_of_getElem? (i := 1246) (by decide +kernel)⟩
theorem lw_p87 : lw_okq (⟨"RoundnessInstrumentModel", "traceHarmonic", "(IIZ)J"⟩, 30) := ⟨⟨by decide +kernel, by decide +kernel⟩, List.mem_of_getElem? (i := 854) (by decide +kernel), List.mem_of_getElem? (i := 1253) (by decide +kernel), List.mem_of_getElem? (i := 1254) (by decide +kernel)⟩
theorem lw_p88 : lw_okq (⟨"RoundnessInstrumentModel", "axisAt", "(IZ)J"⟩, 30) := ⟨⟨by decide +kernel, by decide +kernel⟩, List.mem_of_getElem? (i := 854) (by decide +kernel), List.mem_of_getElem? (i := 1261) (by decide +kernel), List.mem_of_getElem? (i := 1262) (by decide +kernel)⟩
theorem lw_p89 : lw_okq (⟨"RoundnessInstrumentModel", "farOf", "(I)J"⟩, 30) := ⟨⟨by decide +kernel, by decide +kernel⟩, List.mem_of_getElem? (i := 854) (by decide +kernel), List.mem_of_getElem? (i := 1273) (by decide +kernel), List.mem_of_getElem? (i := 1274) (by decide +kernel)⟩
theorem lw_p90 : lw_okq (⟨"RoundnessInstrumentModel", "unlike", "(III)J"⟩, 30) := ⟨⟨by decide +kernel, by decide +kernel⟩, List.mem_of_getElem? (i := 854) (by decide +kernel), List.mem_of_getElem? (i := 1285) (by decide +kernel), List.mem_of_getElem? (i := 1286) (by decide +kernel)⟩
theorem lw_p91 : lw_okq (⟨"RoundnessInstrumentModel", "ruleNow", "(I)J"⟩, 30) := ⟨⟨by decide +kernel, by decide +kernel⟩, List.mem_of_getElem? (i := 854) (by decide +kernel), List.mem_of_getElem? (i := 1305) (by decide +kernel), List.mem_of_getElem? (i := 1306) (by decide +kernel)⟩
theorem lw_p92 : lw_okq (⟨"RoundnessInstrumentModel", "readAll", "(Z)I"⟩, 30) := ⟨⟨by decide +kernel, by decide +kernel⟩, List.mem_of_getElem? (i := 854) (by decide +kernel), List.mem_of_getElem? (i := 1325) (by decide +kernel), List.mem_of_getElem? (i := 1326) (by decide +kernel)⟩
theorem lw_p93 : lw_okq (⟨"RoundnessInstrumentModel", "readItem", "()V"⟩, 30) := ⟨⟨by decide +kernel, by decide +kernel⟩, List.mem_of_getElem? (i := 854) (by decide +kernel), List.mem_of_getElem? (i := 1329) (by decide +kernel), List.mem_of_getElem? (i := 1330) (by decide +kernel)⟩
theorem lw_p94 : lw_okq (⟨"RoundnessInstrumentModel", "isAt", "(C)Z"⟩, 30) := ⟨⟨by decide +kernel, by decide +kernel⟩, List.mem_of_getElem? (i := 854) (by decide +kernel), List.mem_of_getElem? (i := 1333) (by decide +kernel), List.mem_of_getElem? (i := 1334) (by decide +kernel)⟩
theorem lw_p95 : lw_okq (⟨"RoundnessInstrumentModel", "fail", "(I)V"⟩, 30) := ⟨⟨by decide +kernel, by decide +kernel⟩, List.mem_of_getElem? (i := 854) (by decide +kernel), List.mem_of_getElem? (i := 1337) (by decide +kernel), List.mem_of_getElem? (i := 1338) (by decide +kernel)⟩
def lw_privs_6 : List (MethodName × Nat) := [(⟨"RoundnessInstrumentModel", "findEnds", "([JIJJ)V"⟩, 30), (⟨"RoundnessInstrumentModel", "offAt", "([JIIJJ)J"⟩, 30), (⟨"RoundnessInstrumentModel", "layOff", "(I)V"⟩, 30), (⟨"RoundnessInstrumentModel", "roundnessOf", "([JI)J"⟩, 30), (⟨"RoundnessInstrumentModel", "extremeAt", "(Z)I"⟩, 30), (⟨"RoundnessInstrumentModel", "countTo", "(J)I"⟩, 30), (⟨"RoundnessInstrumentModel", "noTrace", "(I)Z"⟩, 30), (⟨"RoundnessInstrumentModel", "traceHarmonic", "(IIZ)J"⟩, 30), (⟨"RoundnessInstrumentModel", "axisAt", "(IZ)J"⟩, 30), (⟨"RoundnessInstrumentModel", "farOf", "(I)J"⟩, 30), (⟨"RoundnessInstrumentModel", "unlike", "(III)J"⟩, 30), (⟨"RoundnessInstrumentModel", "ruleNow", "(I)J"⟩, 30), (⟨"RoundnessInstrumentModel", "readAll", "(Z)I"⟩, 30), (⟨"RoundnessInstrumentModel", "readItem", "()V"⟩, 30), (⟨"RoundnessInstrumentModel", "isAt", "(C)Z"⟩, 30), (⟨"RoundnessInstrumentModel", "fail", "(I)V"⟩, 30)]
theorem lw_r6 : ∀ q ∈ lw_privs_6, lw_okq q := List.forall_mem_cons.mpr ⟨lw_p80, List.forall_mem_cons.mpr ⟨lw_p81, List.forall_mem_cons.mpr ⟨lw_p82, List.forall_mem_cons.mpr ⟨lw_p83, List.forall_mem_cons.mpr ⟨lw_p84, List.forall_mem_cons.mpr ⟨lw_p85, List.forall_mem_cons.mpr ⟨lw_p86, List.forall_mem_cons.mpr ⟨lw_p87, List.forall_mem_cons.mpr ⟨lw_p88, List.forall_mem_cons.mpr ⟨lw_p89, List.forall_mem_cons.mpr ⟨lw_p90, List.forall_mem_cons.mpr ⟨lw_p91, List.forall_mem_cons.mpr ⟨lw_p92, List.forall_mem_cons.mpr ⟨lw_p93, List.forall_mem_cons.mpr ⟨lw_p94, List.forall_mem_cons.mpr ⟨lw_p95, fun _ h => absurd h List.not_mem_nil⟩⟩⟩⟩⟩⟩⟩⟩⟩⟩⟩⟩⟩⟩⟩⟩
theorem lw_p96 : lw_okq (⟨"RoundnessInstrumentModel", "number", "(IIZ)I"⟩, 30) := ⟨⟨by decide +kernel, by decide +kernel⟩, List.mem_of_getElem? (i := 854) (by decide +kernel), List.mem_of_getElem? (i := 1341) (by decide +kernel), List.mem_of_getElem? (i := 1342) (by decide +kernel)⟩
theorem lw_p97 : lw_okq (⟨"RoundnessInstrumentModel", "isDigit", "()Z"⟩, 30) := ⟨⟨by decide +kernel, by decide +kernel⟩, List.mem_of_getElem? (i := 854) (by decide +kernel), List.mem_of_getElem? (i := 1345) (by decide +kernel), List.mem_of_getElem? (i := 1346) (by decide +kernel)⟩
theorem lw_p98 : lw_okq (⟨"RoundnessInstrumentModel", "readPlace", "()V"⟩, 30) := ⟨⟨by decide +kernel, by decide +kernel⟩, List.mem_of_getElem? (i := 854) (by decide +kernel), List.mem_of_getElem? (i := 1350) (by decide +kernel), List.mem_of_getElem? (i := 1351) (by decide +kernel)⟩
theorem lw_p99 : lw_okq (⟨"RoundnessInstrumentModel", "expect", "(C)V"⟩, 30) := ⟨⟨by decide +kernel, by decide +kernel⟩, List.mem_of_getElem? (i := 854) (by decide +kernel), List.mem_of_getElem? (i := 1354) (by decide +kernel), List.mem_of_getElem? (i := 1355) (by decide +kernel)⟩
theorem lw_p100 : lw_okq (⟨"RoundnessInstrumentModel", "readLobes", "(Z)V"⟩, 30) := ⟨⟨by decide +kernel, by decide +kernel⟩, List.mem_of_getElem? (i := 854) (by decide +kernel), List.mem_of_getElem? (i := 1364) (by decide +kernel), List.mem_of_getElem? (i := 1365) (by decide +kernel)⟩
def lw_privs_7 : List (MethodName × Nat) := [(⟨"RoundnessInstrumentModel", "number", "(IIZ)I"⟩, 30), (⟨"RoundnessInstrumentModel", "isDigit", "()Z"⟩, 30), (⟨"RoundnessInstrumentModel", "readPlace", "()V"⟩, 30), (⟨"RoundnessInstrumentModel", "expect", "(C)V"⟩, 30), (⟨"RoundnessInstrumentModel", "readLobes", "(Z)V"⟩, 30)]
theorem lw_r7 : ∀ q ∈ lw_privs_7, lw_okq q := List.forall_mem_cons.mpr ⟨lw_p96, List.forall_mem_cons.mpr ⟨lw_p97, List.forall_mem_cons.mpr ⟨lw_p98, List.forall_mem_cons.mpr ⟨lw_p99, List.forall_mem_cons.mpr ⟨lw_p100, fun _ h => absurd h List.not_mem_nil⟩⟩⟩⟩⟩
def lw_privs : List (MethodName × Nat) := lw_privs_1 ++ (lw_privs_2 ++ (lw_privs_3 ++ (lw_privs_4 ++ (lw_privs_5 ++ (lw_privs_6 ++ (lw_privs_7))))))
def lw_tbl : List Cond := k2_sels lw_privs ++ tables_1
theorem lw_privs_ok : ∀ q ∈ lw_privs, lw_okq q := by
  show ∀ q ∈ lw_privs_1 ++ (lw_privs_2 ++ (lw_privs_3 ++ (lw_privs_4 ++ (lw_privs_5 ++ (lw_privs_6 ++ (lw_privs_7)))))), lw_okq q
  exact List.forall_mem_append.mpr ⟨lw_r1, List.forall_mem_append.mpr ⟨lw_r2, List.forall_mem_append.mpr ⟨lw_r3, List.forall_mem_append.mpr ⟨lw_r4, List.forall_mem_append.mpr ⟨lw_r5, List.forall_mem_append.mpr ⟨lw_r6, lw_r7⟩⟩⟩⟩⟩⟩
/-- the streams that the claim lets the run draw from -/
abbrev lw_cs : List Choice := [Jvm.Choice.named "NaN.bits"]
theorem lw_bits : nanBits ∈ lw_cs := by first | decide | exact List.mem_cons_self | simp [lw_cs, nanBits]

theorem goodIn_r {big : List Cond} (ws : List Cond) (ps : List Nat) (hp : ws = ps.filterMap (fun i => big[i]?)) (h : ws.all goodWord = true) : GoodIn big ws := by
  intro w hw
  have h1 := List.all_eq_true.mp h w hw
  rw [hp] at hw
  obtain ⟨i, -, hi⟩ := List.mem_filterMap.mp hw
  have hm : w ∈ big := by first | exact List.mem_of_getElem? hi | exact List.getElem?_mem hi
  exact ⟨hm, good_of_word h1⟩
theorem goodIn_app {big a b : List Cond} (ha : GoodIn big a) (hb : GoodIn big b) : GoodIn big (a ++ b) := fun w h => (List.mem_append.mp h).elim (ha w) (hb w)
theorem goodIn_ca {big a b : List Cond} {c : Cond} (ha : GoodIn big (c :: a)) (hb : GoodIn big b) : GoodIn big (c :: (a ++ b)) := fun w h => (List.mem_cons.mp h).elim (fun e => ha w (List.mem_cons.mpr (Or.inl e))) (fun h => (List.mem_append.mp h).elim (fun h => ha w (List.mem_cons.mpr (Or.inr h))) (hb w))
theorem goodIn_sub {big ws : List Cond} (hm : ∀ w ∈ ws, w ∈ big) (h : ws.all goodWord = true) : GoodIn big ws := fun w hw => ⟨hm w hw, good_of_word (List.all_eq_true.mp h w hw)⟩

/-- the words that pass through calls -/
def z_tb : List Cond := lw_tbl.filter goodWord
theorem z_tb_in {w : Cond} {i : Nat} (h : lw_tbl[i]? = some w) (hg : goodWord w = true) : w ∈ z_tb := List.mem_filter.mpr ⟨List.mem_of_getElem? h, hg⟩
theorem z_tb_good : GoodIn z_tb z_tb := fun w h => ⟨h, good_of_word (List.mem_filter.mp h).2⟩
theorem z_tb_sub {w : Cond} (h : w ∈ z_tb) : w ∈ lw_tbl := (List.mem_filter.mp h).1
end
section
def RX0 : String := "RoundnessInstrument$Circle"
def TX0 : u_T := fun k => match k with
  | 0 => ("RoundnessInstrument$Circle", "profile", "[J", true)
  | 1 => ("RoundnessInstrument$Circle", "deviations", "[J", true)
  | 2 => ("RoundnessInstrument$Circle", "near", "[I", true)
  | 3 => ("RoundnessInstrument$Circle", "nearCount", "I", false)
  | 4 => ("RoundnessInstrument$Circle", "method", "I", false)
  | 5 => ("RoundnessInstrument$Circle", "x", "J", false)
  | 6 => ("RoundnessInstrument$Circle", "y", "J", false)
  | 7 => ("RoundnessInstrument$Circle", "greatest", "J", false)
  | _ => ("RoundnessInstrument$Circle", "least", "J", false)
def tyX0 : Nat → FieldType := fun k => match k with
  | 0 => .array .long
  | 1 => .array .long
  | 2 => .array .int
  | 3 => .int
  | 4 => .int
  | 5 => .long
  | 6 => .long
  | 7 => .long
  | _ => .long
abbrev wsX00 : List Cond := u_ws RX0 TX0 9
theorem nmX0 : ∀ a, a < 9 → ∀ b, b < 9 → a ≠ b → (TX0 a).2.1 ≠ (TX0 b).2.1 := by decide +kernel
theorem tyX0_ok : ∀ k, k < 9 → parseFieldDescriptor (TX0 k).2.2.1 = some (tyX0 k) := by decide +kernel
abbrev cX0_init : ByteArray := prog_2_method_1_code
def yX0_init : MethodName := ⟨RX0, "<init>", "()V"⟩
abbrev cX0_fit : ByteArray := prog_2_method_2_code
def yX0_fit : MethodName := ⟨RX0, "fit", "([JI)V"⟩
abbrev cX0_search : ByteArray := prog_2_method_3_code
def yX0_search : MethodName := ⟨RX0, "search", "()V"⟩
abbrev cX0_pickNear : ByteArray := prog_2_method_4_code
def yX0_pickNear : MethodName := ⟨RX0, "pickNear", "(J)V"⟩
abbrev cX0_valueAt : ByteArray := prog_2_method_5_code
def yX0_valueAt : MethodName := ⟨RX0, "valueAt", "(JJ)J"⟩
abbrev cX0_valueOf : ByteArray := prog_2_method_6_code
def yX0_valueOf : MethodName := ⟨RX0, "valueOf", "(JJ)J"⟩
abbrev cX0_measure : ByteArray := prog_2_method_7_code
def yX0_measure : MethodName := ⟨RX0, "measure", "()V"⟩
abbrev cX0_width : ByteArray := prog_2_method_8_code
def yX0_width : MethodName := ⟨RX0, "width", "()J"⟩
abbrev cX0_firstWith : ByteArray := prog_2_method_9_code
def yX0_firstWith : MethodName := ⟨RX0, "firstWith", "(J)I"⟩
abbrev cX0_countDownTo : ByteArray := prog_2_method_10_code
def yX0_countDownTo : MethodName := ⟨RX0, "countDownTo", "(J)I"⟩
abbrev cX0_leastDepth : ByteArray := prog_2_method_11_code
def yX0_leastDepth : MethodName := ⟨RX0, "leastDepth", "(I)J"⟩
def RX1 : String := "RoundnessInstrument$History"
def TX1 : u_T := fun k => match k with
  | 0 => ("RoundnessInstrument$History", "ring", "[[J", true)
  | 1 => ("RoundnessInstrument$History", "oldest", "I", false)
  | 2 => ("RoundnessInstrument$History", "undoable", "I", false)
  | _ => ("RoundnessInstrument$History", "redoable", "I", false)
def tyX1 : Nat → FieldType := fun k => match k with
  | 0 => .array (.array .long)
  | 1 => .int
  | 2 => .int
  | _ => .int
abbrev wsX10 : List Cond := u_ws RX1 TX1 4
theorem nmX1 : ∀ a, a < 4 → ∀ b, b < 4 → a ≠ b → (TX1 a).2.1 ≠ (TX1 b).2.1 := by decide +kernel
theorem tyX1_ok : ∀ k, k < 4 → parseFieldDescriptor (TX1 k).2.2.1 = some (tyX1 k) := by decide +kernel
abbrev cX1_init : ByteArray := prog_3_method_1_code
def yX1_init : MethodName := ⟨RX1, "<init>", "()V"⟩
abbrev cX1_present : ByteArray := prog_3_method_2_code
def yX1_present : MethodName := ⟨RX1, "present", "()[J"⟩
abbrev cX1_append : ByteArray := prog_3_method_3_code
def yX1_append : MethodName := ⟨RX1, "append", "([J)Z"⟩
abbrev cX1_stepBack : ByteArray := prog_3_method_4_code
def yX1_stepBack : MethodName := ⟨RX1, "stepBack", "()Z"⟩
abbrev cX1_stepForward : ByteArray := prog_3_method_5_code
def yX1_stepForward : MethodName := ⟨RX1, "stepForward", "()Z"⟩
def RX2 : String := "RoundnessInstrument$Measurement"
def TX2 : u_T := fun k => match k with
  | 0 => ("RoundnessInstrument$Measurement", "readings", "[I", true)
  | 1 => ("RoundnessInstrument$Measurement", "old", "[I", true)
  | 2 => ("RoundnessInstrument$Measurement", "parts", "[J", true)
  | 3 => ("RoundnessInstrument$Measurement", "steps", "I", false)
  | _ => ("RoundnessInstrument$Measurement", "count", "I", false)
def tyX2 : Nat → FieldType := fun k => match k with
  | 0 => .array .int
  | 1 => .array .int
  | 2 => .array .long
  | 3 => .int
  | _ => .int
abbrev wsX20 : List Cond := u_ws RX2 TX2 5
theorem nmX2 : ∀ a, a < 5 → ∀ b, b < 5 → a ≠ b → (TX2 a).2.1 ≠ (TX2 b).2.1 := by decide +kernel
theorem tyX2_ok : ∀ k, k < 5 → parseFieldDescriptor (TX2 k).2.2.1 = some (tyX2 k) := by decide +kernel
abbrev cX2_init : ByteArray := prog_4_method_1_code
def yX2_init : MethodName := ⟨RX2, "<init>", "()V"⟩
abbrev cX2_begin : ByteArray := prog_4_method_2_code
def yX2_begin : MethodName := ⟨RX2, "begin", "(I)V"⟩
abbrev cX2_isComplete : ByteArray := prog_4_method_3_code
def yX2_isComplete : MethodName := ⟨RX2, "isComplete", "()Z"⟩
abbrev cX2_finishedSteps : ByteArray := prog_4_method_4_code
def yX2_finishedSteps : MethodName := ⟨RX2, "finishedSteps", "()I"⟩
abbrev cX2_nextPosition : ByteArray := prog_4_method_5_code
def yX2_nextPosition : MethodName := ⟨RX2, "nextPosition", "()I"⟩
abbrev cX2_turnOf : ByteArray := prog_4_method_6_code
def yX2_turnOf : MethodName := ⟨RX2, "turnOf", "(I)I"⟩
abbrev cX2_append : ByteArray := prog_4_method_7_code
def yX2_append : MethodName := ⟨RX2, "append", "(I)V"⟩
abbrev cX2_at : ByteArray := prog_4_method_8_code
def yX2_at : MethodName := ⟨RX2, "at", "(II)I"⟩
abbrev cX2_replaceSpikes : ByteArray := prog_4_method_9_code
def yX2_replaceSpikes : MethodName := ⟨RX2, "replaceSpikes", "(II)I"⟩
abbrev cX2_sumAt : ByteArray := prog_4_method_10_code
def yX2_sumAt : MethodName := ⟨RX2, "sumAt", "(I)J"⟩
abbrev cX2_spindleAt : ByteArray := prog_4_method_11_code
def yX2_spindleAt : MethodName := ⟨RX2, "spindleAt", "(I)J"⟩
abbrev cX2_partAt : ByteArray := prog_4_method_12_code
def yX2_partAt : MethodName := ⟨RX2, "partAt", "(I)J"⟩
abbrev cX2_greatestResidual : ByteArray := prog_4_method_13_code
def yX2_greatestResidual : MethodName := ⟨RX2, "greatestResidual", "()J"⟩
def RX3 : String := "RoundnessInstrument$Rules"
def TX3 : u_T := fun k => match k with
  | 0 => ("RoundnessInstrument$Rules", "firsts", "[I", true)
  | 1 => ("RoundnessInstrument$Rules", "lasts", "[I", true)
  | 2 => ("RoundnessInstrument$Rules", "methods", "[I", true)
  | 3 => ("RoundnessInstrument$Rules", "limits", "[I", true)
  | 4 => ("RoundnessInstrument$Rules", "circles", "[LRoundnessInstrument$Circle;", true)
  | _ => ("RoundnessInstrument$Rules", "count", "I", false)
def tyX3 : Nat → FieldType := fun k => match k with
  | 0 => .array .int
  | 1 => .array .int
  | 2 => .array .int
  | 3 => .array .int
  | 4 => .array (.object "RoundnessInstrument$Circle")
  | _ => .int
abbrev wsX30 : List Cond := u_ws RX3 TX3 6
theorem nmX3 : ∀ a, a < 6 → ∀ b, b < 6 → a ≠ b → (TX3 a).2.1 ≠ (TX3 b).2.1 := by decide +kernel
theorem tyX3_ok : ∀ k, k < 6 → parseFieldDescriptor (TX3 k).2.2.1 = some (tyX3 k) := by decide +kernel
abbrev cX3_init : ByteArray := prog_5_method_1_code
def yX3_init : MethodName := ⟨RX3, "<init>", "()V"⟩
abbrev cX3_append : ByteArray := prog_5_method_2_code
def yX3_append : MethodName := ⟨RX3, "append", "(IIII)V"⟩
def RX4 : String := "RoundnessInstrument$Script"
def TX4 : u_T := fun k => match k with
  | 0 => ("RoundnessInstrument$Script", "characters", "[C", true)
  | 1 => ("RoundnessInstrument$Script", "kinds", "[I", true)
  | 2 => ("RoundnessInstrument$Script", "firsts", "[I", true)
  | 3 => ("RoundnessInstrument$Script", "seconds", "[I", true)
  | 4 => ("RoundnessInstrument$Script", "thirds", "[I", true)
  | 5 => ("RoundnessInstrument$Script", "length", "I", false)
  | 6 => ("RoundnessInstrument$Script", "cursor", "I", false)
  | 7 => ("RoundnessInstrument$Script", "items", "I", false)
  | 8 => ("RoundnessInstrument$Script", "number", "I", false)
  | _ => ("RoundnessInstrument$Script", "fault", "I", false)
def tyX4 : Nat → FieldType := fun k => match k with
  | 0 => .array .char
  | 1 => .array .int
  | 2 => .array .int
  | 3 => .array .int
  | 4 => .array .int
  | 5 => .int
  | 6 => .int
  | 7 => .int
  | 8 => .int
  | _ => .int
abbrev wsX40 : List Cond := u_ws RX4 TX4 10
theorem nmX4 : ∀ a, a < 10 → ∀ b, b < 10 → a ≠ b → (TX4 a).2.1 ≠ (TX4 b).2.1 := by decide +kernel
theorem tyX4_ok : ∀ k, k < 10 → parseFieldDescriptor (TX4 k).2.2.1 = some (tyX4 k) := by decide +kernel
abbrev cX4_init : ByteArray := prog_6_method_1_code
def yX4_init : MethodName := ⟨RX4, "<init>", "()V"⟩
abbrev cX4_append : ByteArray := prog_6_method_2_code
def yX4_append : MethodName := ⟨RX4, "append", "(C)V"⟩
abbrev cX4_parse : ByteArray := prog_6_method_3_code
def yX4_parse : MethodName := ⟨RX4, "parse", "()Z"⟩
abbrev cX4_parseItem : ByteArray := prog_6_method_4_code
def yX4_parseItem : MethodName := ⟨RX4, "parseItem", "()Z"⟩
abbrev cX4_parseLobes : ByteArray := prog_6_method_5_code
def yX4_parseLobes : MethodName := ⟨RX4, "parseLobes", "(I)Z"⟩
abbrev cX4_parseEccentricity : ByteArray := prog_6_method_6_code
def yX4_parseEccentricity : MethodName := ⟨RX4, "parseEccentricity", "()Z"⟩
abbrev cX4_parseSteps : ByteArray := prog_6_method_7_code
def yX4_parseSteps : MethodName := ⟨RX4, "parseSteps", "()Z"⟩
abbrev cX4_note : ByteArray := prog_6_method_8_code
def yX4_note : MethodName := ⟨RX4, "note", "(IIII)V"⟩
abbrev cX4_takeNumber : ByteArray := prog_6_method_9_code
def yX4_takeNumber : MethodName := ⟨RX4, "takeNumber", "(II)Z"⟩
abbrev cX4_isAtDigit : ByteArray := prog_6_method_10_code
def yX4_isAtDigit : MethodName := ⟨RX4, "isAtDigit", "()Z"⟩
abbrev cX4_take : ByteArray := prog_6_method_11_code
def yX4_take : MethodName := ⟨RX4, "take", "(C)Z"⟩
abbrev cX4_current : ByteArray := prog_6_method_12_code
def yX4_current : MethodName := ⟨RX4, "current", "()I"⟩
abbrev cX4_fail : ByteArray := prog_6_method_13_code
def yX4_fail : MethodName := ⟨RX4, "fail", "(I)Z"⟩
def RX5 : String := "RoundnessInstrument$Simulation"
def TX5 : u_T := fun k => match k with
  | 0 => ("RoundnessInstrument$Simulation", "truePart", "[I", true)
  | 1 => ("RoundnessInstrument$Simulation", "trueSpindle", "[I", true)
  | 2 => ("RoundnessInstrument$Simulation", "eccentricX", "I", false)
  | _ => ("RoundnessInstrument$Simulation", "eccentricY", "I", false)
def tyX5 : Nat → FieldType := fun k => match k with
  | 0 => .array .int
  | 1 => .array .int
  | 2 => .int
  | _ => .int
abbrev wsX50 : List Cond := u_ws RX5 TX5 4
theorem nmX5 : ∀ a, a < 4 → ∀ b, b < 4 → a ≠ b → (TX5 a).2.1 ≠ (TX5 b).2.1 := by decide +kernel
theorem tyX5_ok : ∀ k, k < 4 → parseFieldDescriptor (TX5 k).2.2.1 = some (tyX5 k) := by decide +kernel
abbrev cX5_init : ByteArray := prog_7_method_1_code
def yX5_init : MethodName := ⟨RX5, "<init>", "()V"⟩
abbrev cX5_profileOf : ByteArray := prog_7_method_2_code
def yX5_profileOf : MethodName := ⟨RX5, "profileOf", "(Z)[I"⟩
abbrev cX5_reset : ByteArray := prog_7_method_3_code
def yX5_reset : MethodName := ⟨RX5, "reset", "()V"⟩
abbrev cX5_shiftTo : ByteArray := prog_7_method_4_code
def yX5_shiftTo : MethodName := ⟨RX5, "shiftTo", "(II)Z"⟩
abbrev cX5_superpose : ByteArray := prog_7_method_5_code
def yX5_superpose : MethodName := ⟨RX5, "superpose", "(ZIII)Z"⟩
abbrev cX5_readingAt : ByteArray := prog_7_method_6_code
def yX5_readingAt : MethodName := ⟨RX5, "readingAt", "(II)I"⟩
def RX6 : String := "RoundnessInstrument$Traces"
def TX6 : u_T := fun k => match k with
  | 0 => ("RoundnessInstrument$Traces", "profiles", "[[J", true)
  | 1 => ("RoundnessInstrument$Traces", "heights", "[I", true)
  | 2 => ("RoundnessInstrument$Traces", "xs", "[J", true)
  | 3 => ("RoundnessInstrument$Traces", "ys", "[J", true)
  | 4 => ("RoundnessInstrument$Traces", "means", "[J", true)
  | _ => ("RoundnessInstrument$Traces", "count", "I", false)
def tyX6 : Nat → FieldType := fun k => match k with
  | 0 => .array (.array .long)
  | 1 => .array .int
  | 2 => .array .long
  | 3 => .array .long
  | 4 => .array .long
  | _ => .int
abbrev wsX60 : List Cond := u_ws RX6 TX6 6
theorem nmX6 : ∀ a, a < 6 → ∀ b, b < 6 → a ≠ b → (TX6 a).2.1 ≠ (TX6 b).2.1 := by decide +kernel
theorem tyX6_ok : ∀ k, k < 6 → parseFieldDescriptor (TX6 k).2.2.1 = some (tyX6 k) := by decide +kernel
abbrev cX6_init : ByteArray := prog_8_method_1_code
def yX6_init : MethodName := ⟨RX6, "<init>", "()V"⟩
abbrev cX6_lacks : ByteArray := prog_8_method_2_code
def yX6_lacks : MethodName := ⟨RX6, "lacks", "(I)Z"⟩
abbrev cX6_hasHeight : ByteArray := prog_8_method_3_code
def yX6_hasHeight : MethodName := ⟨RX6, "hasHeight", "(I)Z"⟩
abbrev cX6_append : ByteArray := prog_8_method_4_code
def yX6_append : MethodName := ⟨RX6, "append", "([JI)V"⟩
abbrev cX6_axisAt : ByteArray := prog_8_method_5_code
def yX6_axisAt : MethodName := ⟨RX6, "axisAt", "(IZ)J"⟩
abbrev cX6_cylinderWidth : ByteArray := prog_8_method_6_code
def yX6_cylinderWidth : MethodName := ⟨RX6, "cylinderWidth", "()J"⟩
abbrev cX6_distanceFromAxis : ByteArray := prog_8_method_7_code
def yX6_distanceFromAxis : MethodName := ⟨RX6, "distanceFromAxis", "(I)J"⟩
abbrev cX6_farthest : ByteArray := prog_8_method_8_code
def yX6_farthest : MethodName := ⟨RX6, "farthest", "()I"⟩
abbrev cX6_spreadOfMeans : ByteArray := prog_8_method_9_code
def yX6_spreadOfMeans : MethodName := ⟨RX6, "spreadOfMeans", "()J"⟩
abbrev cX6_mismatch : ByteArray := prog_8_method_10_code
def yX6_mismatch : MethodName := ⟨RX6, "mismatch", "(III)J"⟩
abbrev cX6_bestMatch : ByteArray := prog_8_method_11_code
def yX6_bestMatch : MethodName := ⟨RX6, "bestMatch", "(II)I"⟩
def RX7 : String := "RoundnessInstrument"
def TX7 : u_T := fun k => match k with
  | 0 => ("RoundnessInstrument", "measurement", "LRoundnessInstrument$Measurement;", true)
  | 1 => ("RoundnessInstrument", "simulation", "LRoundnessInstrument$Simulation;", true)
  | 2 => ("RoundnessInstrument", "history", "LRoundnessInstrument$History;", true)
  | 3 => ("RoundnessInstrument", "circles", "[LRoundnessInstrument$Circle;", true)
  | 4 => ("RoundnessInstrument", "traces", "LRoundnessInstrument$Traces;", true)
  | 5 => ("RoundnessInstrument", "rules", "LRoundnessInstrument$Rules;", true)
  | 6 => ("RoundnessInstrument", "script", "LRoundnessInstrument$Script;", true)
  | _ => ("RoundnessInstrument", "next", "[J", true)
def tyX7 : Nat → FieldType := fun k => match k with
  | 0 => .object "RoundnessInstrument$Measurement"
  | 1 => .object "RoundnessInstrument$Simulation"
  | 2 => .object "RoundnessInstrument$History"
  | 3 => .array (.object "RoundnessInstrument$Circle")
  | 4 => .object "RoundnessInstrument$Traces"
  | 5 => .object "RoundnessInstrument$Rules"
  | 6 => .object "RoundnessInstrument$Script"
  | _ => .array .long
abbrev wsX70 : List Cond := u_ws RX7 TX7 8
theorem nmX7 : ∀ a, a < 8 → ∀ b, b < 8 → a ≠ b → (TX7 a).2.1 ≠ (TX7 b).2.1 := by decide +kernel
theorem tyX7_ok : ∀ k, k < 8 → parseFieldDescriptor (TX7 k).2.2.1 = some (tyX7 k) := by decide +kernel
abbrev cX7_init : ByteArray := prog_1_method_1_code
def yX7_init : MethodName := ⟨RX7, "<init>", "()V"⟩
abbrev cX7_setSteps : ByteArray := prog_1_method_2_code
def yX7_setSteps : MethodName := ⟨RX7, "setSteps", "(I)I"⟩
abbrev cX7_read : ByteArray := prog_1_method_3_code
def yX7_read : MethodName := ⟨RX7, "read", "(I)I"⟩
abbrev cX7_simulateStep : ByteArray := prog_1_method_4_code
def yX7_simulateStep : MethodName := ⟨RX7, "simulateStep", "()I"⟩
abbrev cX7_removeReadings : ByteArray := prog_1_method_5_code
def yX7_removeReadings : MethodName := ⟨RX7, "removeReadings", "(I)I"⟩
abbrev cX7_progress : ByteArray := prog_1_method_6_code
def yX7_progress : MethodName := ⟨RX7, "progress", "(I)I"⟩
abbrev cX7_reading : ByteArray := prog_1_method_7_code
def yX7_reading : MethodName := ⟨RX7, "reading", "(II)I"⟩
abbrev cX7_despike : ByteArray := prog_1_method_8_code
def yX7_despike : MethodName := ⟨RX7, "despike", "(II)I"⟩
abbrev cX7_part : ByteArray := prog_1_method_9_code
def yX7_part : MethodName := ⟨RX7, "part", "(I)J"⟩
abbrev cX7_spindle : ByteArray := prog_1_method_10_code
def yX7_spindle : MethodName := ⟨RX7, "spindle", "(I)J"⟩
abbrev cX7_isBlind : ByteArray := prog_1_method_11_code
def yX7_isBlind : MethodName := ⟨RX7, "isBlind", "(I)I"⟩
abbrev cX7_residual : ByteArray := prog_1_method_12_code
def yX7_residual : MethodName := ⟨RX7, "residual", "()J"⟩
abbrev cX7_load : ByteArray := prog_1_method_13_code
def yX7_load : MethodName := ⟨RX7, "load", "(II)I"⟩
abbrev cX7_profile : ByteArray := prog_1_method_14_code
def yX7_profile : MethodName := ⟨RX7, "profile", "(I)J"⟩
abbrev cX7_rotate : ByteArray := prog_1_method_15_code
def yX7_rotate : MethodName := ⟨RX7, "rotate", "(I)I"⟩
abbrev cX7_removeEccentricity : ByteArray := prog_1_method_16_code
def yX7_removeEccentricity : MethodName := ⟨RX7, "removeEccentricity", "()I"⟩
abbrev cX7_keepLobes : ByteArray := prog_1_method_17_code
def yX7_keepLobes : MethodName := ⟨RX7, "keepLobes", "(II)I"⟩
abbrev cX7_subtract : ByteArray := prog_1_method_18_code
def yX7_subtract : MethodName := ⟨RX7, "subtract", "(II)I"⟩
abbrev cX7_vBlock : ByteArray := prog_1_method_19_code
def yX7_vBlock : MethodName := ⟨RX7, "vBlock", "(I)I"⟩
abbrev cX7_isBlindInVBlock : ByteArray := prog_1_method_20_code
def yX7_isBlindInVBlock : MethodName := ⟨RX7, "isBlindInVBlock", "(II)I"⟩
abbrev cX7_undo : ByteArray := prog_1_method_21_code
def yX7_undo : MethodName := ⟨RX7, "undo", "()I"⟩
abbrev cX7_redo : ByteArray := prog_1_method_22_code
def yX7_redo : MethodName := ⟨RX7, "redo", "()I"⟩
abbrev cX7_harmonic : ByteArray := prog_1_method_23_code
def yX7_harmonic : MethodName := ⟨RX7, "harmonic", "(IZ)J"⟩
abbrev cX7_strength : ByteArray := prog_1_method_24_code
def yX7_strength : MethodName := ⟨RX7, "strength", "(I)J"⟩
abbrev cX7_dominant : ByteArray := prog_1_method_25_code
def yX7_dominant : MethodName := ⟨RX7, "dominant", "(I)I"⟩
abbrev cX7_centre : ByteArray := prog_1_method_26_code
def yX7_centre : MethodName := ⟨RX7, "centre", "(IZ)J"⟩
abbrev cX7_deviation : ByteArray := prog_1_method_27_code
def yX7_deviation : MethodName := ⟨RX7, "deviation", "(II)J"⟩
abbrev cX7_roundness : ByteArray := prog_1_method_28_code
def yX7_roundness : MethodName := ⟨RX7, "roundness", "(I)D"⟩
abbrev cX7_extreme : ByteArray := prog_1_method_29_code
def yX7_extreme : MethodName := ⟨RX7, "extreme", "(IZ)I"⟩
abbrev cX7_meanSquare : ByteArray := prog_1_method_30_code
def yX7_meanSquare : MethodName := ⟨RX7, "meanSquare", "()F"⟩
abbrev cX7_materialAt : ByteArray := prog_1_method_31_code
def yX7_materialAt : MethodName := ⟨RX7, "materialAt", "(IJ)I"⟩
abbrev cX7_depthFor : ByteArray := prog_1_method_32_code
def yX7_depthFor : MethodName := ⟨RX7, "depthFor", "(II)J"⟩
abbrev cX7_storeTrace : ByteArray := prog_1_method_33_code
def yX7_storeTrace : MethodName := ⟨RX7, "storeTrace", "(I)I"⟩
abbrev cX7_removeTraces : ByteArray := prog_1_method_34_code
def yX7_removeTraces : MethodName := ⟨RX7, "removeTraces", "(I)I"⟩
abbrev cX7_recall : ByteArray := prog_1_method_35_code
def yX7_recall : MethodName := ⟨RX7, "recall", "(I)I"⟩
abbrev cX7_traceValue : ByteArray := prog_1_method_36_code
def yX7_traceValue : MethodName := ⟨RX7, "traceValue", "(II)J"⟩
abbrev cX7_axis : ByteArray := prog_1_method_37_code
def yX7_axis : MethodName := ⟨RX7, "axis", "(IZ)J"⟩
abbrev cX7_cylindricity : ByteArray := prog_1_method_38_code
def yX7_cylindricity : MethodName := ⟨RX7, "cylindricity", "()D"⟩
abbrev cX7_farthestTrace : ByteArray := prog_1_method_39_code
def yX7_farthestTrace : MethodName := ⟨RX7, "farthestTrace", "()I"⟩
abbrev cX7_taper : ByteArray := prog_1_method_40_code
def yX7_taper : MethodName := ⟨RX7, "taper", "()J"⟩
abbrev cX7_difference : ByteArray := prog_1_method_41_code
def yX7_difference : MethodName := ⟨RX7, "difference", "(III)J"⟩
abbrev cX7_bestRotation : ByteArray := prog_1_method_42_code
def yX7_bestRotation : MethodName := ⟨RX7, "bestRotation", "(II)I"⟩
abbrev cX7_addRule : ByteArray := prog_1_method_43_code
def yX7_addRule : MethodName := ⟨RX7, "addRule", "(IIII)I"⟩
abbrev cX7_clearRules : ByteArray := prog_1_method_44_code
def yX7_clearRules : MethodName := ⟨RX7, "clearRules", "()I"⟩
abbrev cX7_ruleValue : ByteArray := prog_1_method_45_code
def yX7_ruleValue : MethodName := ⟨RX7, "ruleValue", "(I)J"⟩
abbrev cX7_violated : ByteArray := prog_1_method_46_code
def yX7_violated : MethodName := ⟨RX7, "violated", "()I"⟩
abbrev cX7_type : ByteArray := prog_1_method_47_code
def yX7_type : MethodName := ⟨RX7, "type", "(C)I"⟩
abbrev cX7_clearText : ByteArray := prog_1_method_48_code
def yX7_clearText : MethodName := ⟨RX7, "clearText", "()I"⟩
abbrev cX7_readText : ByteArray := prog_1_method_49_code
def yX7_readText : MethodName := ⟨RX7, "readText", "()I"⟩
abbrev cX7_setTrue : ByteArray := prog_1_method_50_code
def yX7_setTrue : MethodName := ⟨RX7, "setTrue", "(ZII)I"⟩
abbrev cX7_addLobes : ByteArray := prog_1_method_51_code
def yX7_addLobes : MethodName := ⟨RX7, "addLobes", "(ZIII)I"⟩
abbrev cX7_setEccentricity : ByteArray := prog_1_method_52_code
def yX7_setEccentricity : MethodName := ⟨RX7, "setEccentricity", "(II)I"⟩
abbrev cX7_sourceError : ByteArray := prog_1_method_53_code
def yX7_sourceError : MethodName := ⟨RX7, "sourceError", "(II)I"⟩
abbrev cX7_fillNext : ByteArray := prog_1_method_54_code
def yX7_fillNext : MethodName := ⟨RX7, "fillNext", "(II)V"⟩
abbrev cX7_sourceAt : ByteArray := prog_1_method_55_code
def yX7_sourceAt : MethodName := ⟨RX7, "sourceAt", "(III)J"⟩
abbrev cX7_isNextTooGreat : ByteArray := prog_1_method_56_code
def yX7_isNextTooGreat : MethodName := ⟨RX7, "isNextTooGreat", "()Z"⟩
abbrev cX7_makeNextPresent : ByteArray := prog_1_method_57_code
def yX7_makeNextPresent : MethodName := ⟨RX7, "makeNextPresent", "()I"⟩
abbrev cX7_circleBy : ByteArray := prog_1_method_58_code
def yX7_circleBy : MethodName := ⟨RX7, "circleBy", "(I)LRoundnessInstrument$Circle;"⟩
abbrev cX7_valueOfRule : ByteArray := prog_1_method_59_code
def yX7_valueOfRule : MethodName := ⟨RX7, "valueOfRule", "(I)J"⟩
abbrev cX7_obey : ByteArray := prog_1_method_60_code
def yX7_obey : MethodName := ⟨RX7, "obey", "(I)V"⟩
abbrev cX7_isOutside : ByteArray := prog_1_method_61_code
def yX7_isOutside : MethodName := ⟨RX7, "isOutside", "(III)Z"⟩
abbrev cX7_isNoPosition : ByteArray := prog_1_method_62_code
def yX7_isNoPosition : MethodName := ⟨RX7, "isNoPosition", "(I)Z"⟩
abbrev cX7_isNoMethod : ByteArray := prog_1_method_63_code
def yX7_isNoMethod : MethodName := ⟨RX7, "isNoMethod", "(I)Z"⟩
abbrev cX7_isNoRange : ByteArray := prog_1_method_64_code
def yX7_isNoRange : MethodName := ⟨RX7, "isNoRange", "(II)Z"⟩
abbrev cX7_isStepCount : ByteArray := prog_1_method_65_code
def yX7_isStepCount : MethodName := ⟨RX7, "isStepCount", "(I)Z"⟩
abbrev cX7_place : ByteArray := prog_1_method_66_code
def yX7_place : MethodName := ⟨RX7, "place", "(I)I"⟩
abbrev cX7_cosine : ByteArray := prog_1_method_67_code
def yX7_cosine : MethodName := ⟨RX7, "cosine", "(I)I"⟩
abbrev cX7_divide : ByteArray := prog_1_method_68_code
def yX7_divide : MethodName := ⟨RX7, "divide", "(JJ)J"⟩
abbrev cX7_clamp : ByteArray := prog_1_method_69_code
def yX7_clamp : MethodName := ⟨RX7, "clamp", "(JI)I"⟩
abbrev cX7_wave : ByteArray := prog_1_method_70_code
def yX7_wave : MethodName := ⟨RX7, "wave", "(JJI)J"⟩
abbrev cX7_coefficient : ByteArray := prog_1_method_71_code
def yX7_coefficient : MethodName := ⟨RX7, "coefficient", "([JIZ)J"⟩
abbrev cX7_isSame : ByteArray := prog_1_method_72_code
def yX7_isSame : MethodName := ⟨RX7, "isSame", "([J[J)Z"⟩
abbrev cX7_strengthOf : ByteArray := prog_1_method_73_code
def yX7_strengthOf : MethodName := ⟨RX7, "strengthOf", "([JI)J"⟩
abbrev cX7_copyLobes : ByteArray := prog_1_method_74_code
def yX7_copyLobes : MethodName := ⟨RX7, "copyLobes", "([JII[J)V"⟩
def RX8 : String := "RoundnessInstrumentModel"
def TX8 : u_T := fun k => match k with
  | 0 => ("RoundnessInstrumentModel", "quarter", "[I", true)
  | 1 => ("RoundnessInstrumentModel", "steps", "I", false)
  | 2 => ("RoundnessInstrumentModel", "readings", "I", false)
  | 3 => ("RoundnessInstrumentModel", "readingOf", "[I", true)
  | 4 => ("RoundnessInstrumentModel", "now", "[J", true)
  | 5 => ("RoundnessInstrumentModel", "aside", "[J", true)
  | 6 => ("RoundnessInstrumentModel", "undone", "[J", true)
  | 7 => ("RoundnessInstrumentModel", "redone", "[J", true)
  | 8 => ("RoundnessInstrumentModel", "undoMany", "I", false)
  | 9 => ("RoundnessInstrumentModel", "redoMany", "I", false)
  | 10 => ("RoundnessInstrumentModel", "centreX", "J", false)
  | 11 => ("RoundnessInstrumentModel", "centreY", "J", false)
  | 12 => ("RoundnessInstrumentModel", "most", "J", false)
  | 13 => ("RoundnessInstrumentModel", "least", "J", false)
  | 14 => ("RoundnessInstrumentModel", "aheadX", "[I", true)
  | 15 => ("RoundnessInstrumentModel", "aheadY", "[I", true)
  | 16 => ("RoundnessInstrumentModel", "offNow", "[J", true)
  | 17 => ("RoundnessInstrumentModel", "traces", "I", false)
  | 18 => ("RoundnessInstrumentModel", "traceOf", "[J", true)
  | 19 => ("RoundnessInstrumentModel", "heightOf", "[I", true)
  | 20 => ("RoundnessInstrumentModel", "rules", "I", false)
  | 21 => ("RoundnessInstrumentModel", "ruleOf", "[I", true)
  | 22 => ("RoundnessInstrumentModel", "typed", "I", false)
  | 23 => ("RoundnessInstrumentModel", "text", "[C", true)
  | 24 => ("RoundnessInstrumentModel", "place", "I", false)
  | 25 => ("RoundnessInstrumentModel", "fault", "I", false)
  | 26 => ("RoundnessInstrumentModel", "isDone", "Z", false)
  | 27 => ("RoundnessInstrumentModel", "truth", "[I", true)
  | 28 => ("RoundnessInstrumentModel", "eccentricX", "I", false)
  | _ => ("RoundnessInstrumentModel", "eccentricY", "I", false)
def tyX8 : Nat → FieldType := fun k => match k with
  | 0 => .array .int
  | 1 => .int
  | 2 => .int
  | 3 => .array .int
  | 4 => .array .long
  | 5 => .array .long
  | 6 => .array .long
  | 7 => .array .long
  | 8 => .int
  | 9 => .int
  | 10 => .long
  | 11 => .long
  | 12 => .long
  | 13 => .long
  | 14 => .array .int
  | 15 => .array .int
  | 16 => .array .long
  | 17 => .int
  | 18 => .array .long
  | 19 => .array .int
  | 20 => .int
  | 21 => .array .int
  | 22 => .int
  | 23 => .array .char
  | 24 => .int
  | 25 => .int
  | 26 => .boolean
  | 27 => .array .int
  | 28 => .int
  | _ => .int
abbrev wsX80 : List Cond := u_ws RX8 TX8 30
theorem nmX8 : ∀ a, a < 30 → ∀ b, b < 30 → a ≠ b → (TX8 a).2.1 ≠ (TX8 b).2.1 := by decide +kernel
theorem tyX8_ok : ∀ k, k < 30 → parseFieldDescriptor (TX8 k).2.2.1 = some (tyX8 k) := by decide +kernel
abbrev cX8_init : ByteArray := prog_10_method_1_code
def yX8_init : MethodName := ⟨RX8, "<init>", "()V"⟩
abbrev cX8_in : ByteArray := prog_10_method_2_code
def yX8_in : MethodName := ⟨RX8, "in", "(JJJ)Z"⟩
abbrev cX8_lost : ByteArray := prog_10_method_3_code
def yX8_lost : MethodName := ⟨RX8, "lost", "()J"⟩
abbrev cX8_down : ByteArray := prog_10_method_4_code
def yX8_down : MethodName := ⟨RX8, "down", "(JJ)J"⟩
abbrev cX8_size : ByteArray := prog_10_method_5_code
def yX8_size : MethodName := ⟨RX8, "size", "(J)J"⟩
abbrev cX8_around : ByteArray := prog_10_method_6_code
def yX8_around : MethodName := ⟨RX8, "around", "(I)I"⟩
abbrev cX8_noPlace : ByteArray := prog_10_method_7_code
def yX8_noPlace : MethodName := ⟨RX8, "noPlace", "(I)Z"⟩
abbrev cX8_cosine : ByteArray := prog_10_method_8_code
def yX8_cosine : MethodName := ⟨RX8, "cosine", "(I)J"⟩
abbrev cX8_sine : ByteArray := prog_10_method_9_code
def yX8_sine : MethodName := ⟨RX8, "sine", "(I)J"⟩
abbrev cX8_isSteps : ByteArray := prog_10_method_10_code
def yX8_isSteps : MethodName := ⟨RX8, "isSteps", "(I)Z"⟩
abbrev cX8_isComplete : ByteArray := prog_10_method_11_code
def yX8_isComplete : MethodName := ⟨RX8, "isComplete", "()Z"⟩
abbrev cX8_noStep : ByteArray := prog_10_method_12_code
def yX8_noStep : MethodName := ⟨RX8, "noStep", "(I)Z"⟩
abbrev cX8_isFinished : ByteArray := prog_10_method_13_code
def yX8_isFinished : MethodName := ⟨RX8, "isFinished", "(I)Z"⟩
abbrev cX8_turned : ByteArray := prog_10_method_14_code
def yX8_turned : MethodName := ⟨RX8, "turned", "(I)I"⟩
abbrev cX8_setSteps : ByteArray := prog_10_method_15_code
def yX8_setSteps : MethodName := ⟨RX8, "setSteps", "(I)I"⟩
abbrev cX8_read : ByteArray := prog_10_method_16_code
def yX8_read : MethodName := ⟨RX8, "read", "(I)I"⟩
abbrev cX8_removeReadings : ByteArray := prog_10_method_17_code
def yX8_removeReadings : MethodName := ⟨RX8, "removeReadings", "(I)I"⟩
abbrev cX8_progress : ByteArray := prog_10_method_18_code
def yX8_progress : MethodName := ⟨RX8, "progress", "(I)I"⟩
abbrev cX8_reading : ByteArray := prog_10_method_19_code
def yX8_reading : MethodName := ⟨RX8, "reading", "(II)I"⟩
abbrev cX8_despike : ByteArray := prog_10_method_20_code
def yX8_despike : MethodName := ⟨RX8, "despike", "(II)I"⟩
abbrev cX8_sumAt : ByteArray := prog_10_method_21_code
def yX8_sumAt : MethodName := ⟨RX8, "sumAt", "(I)J"⟩
abbrev cX8_partAt : ByteArray := prog_10_method_22_code
def yX8_partAt : MethodName := ⟨RX8, "partAt", "(I)J"⟩
abbrev cX8_spindleAt : ByteArray := prog_10_method_23_code
def yX8_spindleAt : MethodName := ⟨RX8, "spindleAt", "(I)J"⟩
abbrev cX8_part : ByteArray := prog_10_method_24_code
def yX8_part : MethodName := ⟨RX8, "part", "(I)J"⟩
abbrev cX8_spindle : ByteArray := prog_10_method_25_code
def yX8_spindle : MethodName := ⟨RX8, "spindle", "(I)J"⟩
abbrev cX8_isBlind : ByteArray := prog_10_method_26_code
def yX8_isBlind : MethodName := ⟨RX8, "isBlind", "(I)I"⟩
abbrev cX8_residual : ByteArray := prog_10_method_27_code
def yX8_residual : MethodName := ⟨RX8, "residual", "()J"⟩
abbrev cX8_takes : ByteArray := prog_10_method_28_code
def yX8_takes : MethodName := ⟨RX8, "takes", "()I"⟩
abbrev cX8_undo : ByteArray := prog_10_method_29_code
def yX8_undo : MethodName := ⟨RX8, "undo", "()I"⟩
abbrev cX8_redo : ByteArray := prog_10_method_30_code
def yX8_redo : MethodName := ⟨RX8, "redo", "()I"⟩
abbrev cX8_fetches : ByteArray := prog_10_method_31_code
def yX8_fetches : MethodName := ⟨RX8, "fetches", "(II)I"⟩
abbrev cX8_load : ByteArray := prog_10_method_32_code
def yX8_load : MethodName := ⟨RX8, "load", "(II)I"⟩
abbrev cX8_profile : ByteArray := prog_10_method_33_code
def yX8_profile : MethodName := ⟨RX8, "profile", "(I)J"⟩
abbrev cX8_rotate : ByteArray := prog_10_method_34_code
def yX8_rotate : MethodName := ⟨RX8, "rotate", "(I)I"⟩
abbrev cX8_removeEccentricity : ByteArray := prog_10_method_35_code
def yX8_removeEccentricity : MethodName := ⟨RX8, "removeEccentricity", "()I"⟩
abbrev cX8_keeps : ByteArray := prog_10_method_36_code
def yX8_keeps : MethodName := ⟨RX8, "keeps", "(II)V"⟩
abbrev cX8_areLobes : ByteArray := prog_10_method_37_code
def yX8_areLobes : MethodName := ⟨RX8, "areLobes", "(II)Z"⟩
abbrev cX8_keepLobes : ByteArray := prog_10_method_38_code
def yX8_keepLobes : MethodName := ⟨RX8, "keepLobes", "(II)I"⟩
abbrev cX8_isTooFar : ByteArray := prog_10_method_39_code
def yX8_isTooFar : MethodName := ⟨RX8, "isTooFar", "()Z"⟩
abbrev cX8_subtract : ByteArray := prog_10_method_40_code
def yX8_subtract : MethodName := ⟨RX8, "subtract", "(II)I"⟩
abbrev cX8_vBlock : ByteArray := prog_10_method_41_code
def yX8_vBlock : MethodName := ⟨RX8, "vBlock", "(I)I"⟩
abbrev cX8_isBlindInVBlock : ByteArray := prog_10_method_42_code
def yX8_isBlindInVBlock : MethodName := ⟨RX8, "isBlindInVBlock", "(II)I"⟩
abbrev cX8_harmonicOf : ByteArray := prog_10_method_43_code
def yX8_harmonicOf : MethodName := ⟨RX8, "harmonicOf", "(IZ)J"⟩
abbrev cX8_harmonicIn : ByteArray := prog_10_method_44_code
def yX8_harmonicIn : MethodName := ⟨RX8, "harmonicIn", "([JIIZ)J"⟩
abbrev cX8_noLobes : ByteArray := prog_10_method_45_code
def yX8_noLobes : MethodName := ⟨RX8, "noLobes", "(I)Z"⟩
abbrev cX8_harmonic : ByteArray := prog_10_method_46_code
def yX8_harmonic : MethodName := ⟨RX8, "harmonic", "(IZ)J"⟩
abbrev cX8_strengthOf : ByteArray := prog_10_method_47_code
def yX8_strengthOf : MethodName := ⟨RX8, "strengthOf", "(I)J"⟩
abbrev cX8_strength : ByteArray := prog_10_method_48_code
def yX8_strength : MethodName := ⟨RX8, "strength", "(I)J"⟩
abbrev cX8_dominant : ByteArray := prog_10_method_49_code
def yX8_dominant : MethodName := ⟨RX8, "dominant", "(I)I"⟩
abbrev cX8_off : ByteArray := prog_10_method_50_code
def yX8_off : MethodName := ⟨RX8, "off", "(JJJJJ)J"⟩
abbrev cX8_offAt : ByteArray := prog_10_method_51_code
def yX8_offAt : MethodName := ⟨RX8, "offAt", "([JIIJJ)J"⟩
abbrev cX8_findEnds : ByteArray := prog_10_method_52_code
def yX8_findEnds : MethodName := ⟨RX8, "findEnds", "([JIJJ)V"⟩
abbrev cX8_valueBy : ByteArray := prog_10_method_53_code
def yX8_valueBy : MethodName := ⟨RX8, "valueBy", "([JIJJ)J"⟩
abbrev cX8_findCentre : ByteArray := prog_10_method_54_code
def yX8_findCentre : MethodName := ⟨RX8, "findCentre", "([JI)V"⟩
abbrev cX8_roundnessOf : ByteArray := prog_10_method_55_code
def yX8_roundnessOf : MethodName := ⟨RX8, "roundnessOf", "([JI)J"⟩
abbrev cX8_noMethod : ByteArray := prog_10_method_56_code
def yX8_noMethod : MethodName := ⟨RX8, "noMethod", "(I)Z"⟩
abbrev cX8_centre : ByteArray := prog_10_method_57_code
def yX8_centre : MethodName := ⟨RX8, "centre", "(IZ)J"⟩
abbrev cX8_layOff : ByteArray := prog_10_method_58_code
def yX8_layOff : MethodName := ⟨RX8, "layOff", "(I)V"⟩
abbrev cX8_deviation : ByteArray := prog_10_method_59_code
def yX8_deviation : MethodName := ⟨RX8, "deviation", "(II)J"⟩
abbrev cX8_roundness : ByteArray := prog_10_method_60_code
def yX8_roundness : MethodName := ⟨RX8, "roundness", "(I)D"⟩
abbrev cX8_extremeAt : ByteArray := prog_10_method_61_code
def yX8_extremeAt : MethodName := ⟨RX8, "extremeAt", "(Z)I"⟩
abbrev cX8_extreme : ByteArray := prog_10_method_62_code
def yX8_extreme : MethodName := ⟨RX8, "extreme", "(IZ)I"⟩
abbrev cX8_meanSquare : ByteArray := prog_10_method_63_code
def yX8_meanSquare : MethodName := ⟨RX8, "meanSquare", "()F"⟩
abbrev cX8_countTo : ByteArray := prog_10_method_64_code
def yX8_countTo : MethodName := ⟨RX8, "countTo", "(J)I"⟩
abbrev cX8_materialAt : ByteArray := prog_10_method_65_code
def yX8_materialAt : MethodName := ⟨RX8, "materialAt", "(IJ)I"⟩
abbrev cX8_depthFor : ByteArray := prog_10_method_66_code
def yX8_depthFor : MethodName := ⟨RX8, "depthFor", "(II)J"⟩
abbrev cX8_noTrace : ByteArray := prog_10_method_67_code
def yX8_noTrace : MethodName := ⟨RX8, "noTrace", "(I)Z"⟩
abbrev cX8_storeTrace : ByteArray := prog_10_method_68_code
def yX8_storeTrace : MethodName := ⟨RX8, "storeTrace", "(I)I"⟩
abbrev cX8_removeTraces : ByteArray := prog_10_method_69_code
def yX8_removeTraces : MethodName := ⟨RX8, "removeTraces", "(I)I"⟩
abbrev cX8_recall : ByteArray := prog_10_method_70_code
def yX8_recall : MethodName := ⟨RX8, "recall", "(I)I"⟩
abbrev cX8_traceHarmonic : ByteArray := prog_10_method_71_code
def yX8_traceHarmonic : MethodName := ⟨RX8, "traceHarmonic", "(IIZ)J"⟩
abbrev cX8_traceValue : ByteArray := prog_10_method_72_code
def yX8_traceValue : MethodName := ⟨RX8, "traceValue", "(II)J"⟩
abbrev cX8_axisAt : ByteArray := prog_10_method_73_code
def yX8_axisAt : MethodName := ⟨RX8, "axisAt", "(IZ)J"⟩
abbrev cX8_axis : ByteArray := prog_10_method_74_code
def yX8_axis : MethodName := ⟨RX8, "axis", "(IZ)J"⟩
abbrev cX8_cylindricity : ByteArray := prog_10_method_75_code
def yX8_cylindricity : MethodName := ⟨RX8, "cylindricity", "()D"⟩
abbrev cX8_farOf : ByteArray := prog_10_method_76_code
def yX8_farOf : MethodName := ⟨RX8, "farOf", "(I)J"⟩
abbrev cX8_farthestTrace : ByteArray := prog_10_method_77_code
def yX8_farthestTrace : MethodName := ⟨RX8, "farthestTrace", "()I"⟩
abbrev cX8_taper : ByteArray := prog_10_method_78_code
def yX8_taper : MethodName := ⟨RX8, "taper", "()J"⟩
abbrev cX8_unlike : ByteArray := prog_10_method_79_code
def yX8_unlike : MethodName := ⟨RX8, "unlike", "(III)J"⟩
abbrev cX8_difference : ByteArray := prog_10_method_80_code
def yX8_difference : MethodName := ⟨RX8, "difference", "(III)J"⟩
abbrev cX8_bestRotation : ByteArray := prog_10_method_81_code
def yX8_bestRotation : MethodName := ⟨RX8, "bestRotation", "(II)I"⟩
abbrev cX8_addRule : ByteArray := prog_10_method_82_code
def yX8_addRule : MethodName := ⟨RX8, "addRule", "(IIII)I"⟩
abbrev cX8_clearRules : ByteArray := prog_10_method_83_code
def yX8_clearRules : MethodName := ⟨RX8, "clearRules", "()I"⟩
abbrev cX8_ruleNow : ByteArray := prog_10_method_84_code
def yX8_ruleNow : MethodName := ⟨RX8, "ruleNow", "(I)J"⟩
abbrev cX8_ruleValue : ByteArray := prog_10_method_85_code
def yX8_ruleValue : MethodName := ⟨RX8, "ruleValue", "(I)J"⟩
abbrev cX8_violated : ByteArray := prog_10_method_86_code
def yX8_violated : MethodName := ⟨RX8, "violated", "()I"⟩
abbrev cX8_type : ByteArray := prog_10_method_87_code
def yX8_type : MethodName := ⟨RX8, "type", "(C)I"⟩
abbrev cX8_clearText : ByteArray := prog_10_method_88_code
def yX8_clearText : MethodName := ⟨RX8, "clearText", "()I"⟩
abbrev cX8_isAt : ByteArray := prog_10_method_89_code
def yX8_isAt : MethodName := ⟨RX8, "isAt", "(C)Z"⟩
abbrev cX8_isDigit : ByteArray := prog_10_method_90_code
def yX8_isDigit : MethodName := ⟨RX8, "isDigit", "()Z"⟩
abbrev cX8_fail : ByteArray := prog_10_method_91_code
def yX8_fail : MethodName := ⟨RX8, "fail", "(I)V"⟩
abbrev cX8_expect : ByteArray := prog_10_method_92_code
def yX8_expect : MethodName := ⟨RX8, "expect", "(C)V"⟩
abbrev cX8_number : ByteArray := prog_10_method_93_code
def yX8_number : MethodName := ⟨RX8, "number", "(IIZ)I"⟩
abbrev cX8_readLobes : ByteArray := prog_10_method_94_code
def yX8_readLobes : MethodName := ⟨RX8, "readLobes", "(Z)V"⟩
abbrev cX8_readPlace : ByteArray := prog_10_method_95_code
def yX8_readPlace : MethodName := ⟨RX8, "readPlace", "()V"⟩
abbrev cX8_readItem : ByteArray := prog_10_method_96_code
def yX8_readItem : MethodName := ⟨RX8, "readItem", "()V"⟩
abbrev cX8_readAll : ByteArray := prog_10_method_97_code
def yX8_readAll : MethodName := ⟨RX8, "readAll", "(Z)I"⟩
abbrev cX8_readText : ByteArray := prog_10_method_98_code
def yX8_readText : MethodName := ⟨RX8, "readText", "()I"⟩
abbrev cX8_kept : ByteArray := prog_10_method_99_code
def yX8_kept : MethodName := ⟨RX8, "kept", "(JI)I"⟩
abbrev cX8_setTrue : ByteArray := prog_10_method_100_code
def yX8_setTrue : MethodName := ⟨RX8, "setTrue", "(ZII)I"⟩
abbrev cX8_addLobes : ByteArray := prog_10_method_101_code
def yX8_addLobes : MethodName := ⟨RX8, "addLobes", "(ZIII)I"⟩
abbrev cX8_setEccentricity : ByteArray := prog_10_method_102_code
def yX8_setEccentricity : MethodName := ⟨RX8, "setEccentricity", "(II)I"⟩
abbrev cX8_simulateStep : ByteArray := prog_10_method_103_code
def yX8_simulateStep : MethodName := ⟨RX8, "simulateStep", "()I"⟩
def RJ9 : String := "java/lang/Math"
def TJ9 : u_T := fun k => match k with
  | _ => ("", "", "", false)
def tyJ9 : Nat → FieldType := fun k => match k with
  | _ => .int
abbrev cJ9_floorDiv_7cf53 : ByteArray := prog_11_method_47_code
def yJ9_floorDiv_7cf53 : MethodName := ⟨RJ9, "floorDiv", "(II)I"⟩
abbrev cJ9_floorDiv_f86c9 : ByteArray := prog_11_method_49_code
def yJ9_floorDiv_f86c9 : MethodName := ⟨RJ9, "floorDiv", "(JJ)J"⟩
abbrev cJ9_floorMod_7cf53 : ByteArray := prog_11_method_50_code
def yJ9_floorMod_7cf53 : MethodName := ⟨RJ9, "floorMod", "(II)I"⟩
abbrev cJ9_abs_0f7a4 : ByteArray := prog_11_method_59_code
def yJ9_abs_0f7a4 : MethodName := ⟨RJ9, "abs", "(I)I"⟩
abbrev cJ9_abs_067f4 : ByteArray := prog_11_method_61_code
def yJ9_abs_067f4 : MethodName := ⟨RJ9, "abs", "(J)J"⟩
abbrev cJ9_max_f86c9 : ByteArray := prog_11_method_66_code
def yJ9_max_f86c9 : MethodName := ⟨RJ9, "max", "(JJ)J"⟩
abbrev cJ9_min_f86c9 : ByteArray := prog_11_method_70_code
def yJ9_min_f86c9 : MethodName := ⟨RJ9, "min", "(JJ)J"⟩
def RJ10 : String := "java/lang/System"
def TJ10 : u_T := fun k => match k with
  | _ => ("", "", "", false)
def tyJ10 : Nat → FieldType := fun k => match k with
  | _ => .int
def RL : String := "RoundnessInstrumentLaw"
abbrev cL_law : ByteArray := code
def yL_law : MethodName := ⟨RL, "law", "([I)Z"⟩
abbrev vwCl : List vw_C := [(RX0, TX0, 9), (RX1, TX1, 4), (RX2, TX2, 5), (RX3, TX3, 6), (RX4, TX4, 10), (RX5, TX5, 4), (RX6, TX6, 6), (RX7, TX7, 8), (RX8, TX8, 30)]
set_option maxRecDepth 100000 in
theorem inX0 : ∀ w ∈ wsX00, w ∈ lw_tbl := by decide +kernel
theorem igX0 : ∀ w ∈ wsX00, w ∈ z_tb := fun w h => List.mem_filter.mpr ⟨inX0 w h, List.all_eq_true.mp (show (wsX00).all goodWord = true by decide +kernel) w h⟩
set_option maxRecDepth 100000 in
theorem inX1 : ∀ w ∈ wsX10, w ∈ lw_tbl := by decide +kernel
theorem igX1 : ∀ w ∈ wsX10, w ∈ z_tb := fun w h => List.mem_filter.mpr ⟨inX1 w h, List.all_eq_true.mp (show (wsX10).all goodWord = true by decide +kernel) w h⟩
set_option maxRecDepth 100000 in
theorem inX2 : ∀ w ∈ wsX20, w ∈ lw_tbl := by decide +kernel
theorem igX2 : ∀ w ∈ wsX20, w ∈ z_tb := fun w h => List.mem_filter.mpr ⟨inX2 w h, List.all_eq_true.mp (show (wsX20).all goodWord = true by decide +kernel) w h⟩
set_option maxRecDepth 100000 in
theorem inX3 : ∀ w ∈ wsX30, w ∈ lw_tbl := by decide +kernel
theorem igX3 : ∀ w ∈ wsX30, w ∈ z_tb := fun w h => List.mem_filter.mpr ⟨inX3 w h, List.all_eq_true.mp (show (wsX30).all goodWord = true by decide +kernel) w h⟩
set_option maxRecDepth 100000 in
theorem inX4 : ∀ w ∈ wsX40, w ∈ lw_tbl := by decide +kernel
theorem igX4 : ∀ w ∈ wsX40, w ∈ z_tb := fun w h => List.mem_filter.mpr ⟨inX4 w h, List.all_eq_true.mp (show (wsX40).all goodWord = true by decide +kernel) w h⟩
set_option maxRecDepth 100000 in
theorem inX5 : ∀ w ∈ wsX50, w ∈ lw_tbl := by decide +kernel
theorem igX5 : ∀ w ∈ wsX50, w ∈ z_tb := fun w h => List.mem_filter.mpr ⟨inX5 w h, List.all_eq_true.mp (show (wsX50).all goodWord = true by decide +kernel) w h⟩
set_option maxRecDepth 100000 in
theorem inX6 : ∀ w ∈ wsX60, w ∈ lw_tbl := by decide +kernel
theorem igX6 : ∀ w ∈ wsX60, w ∈ z_tb := fun w h => List.mem_filter.mpr ⟨inX6 w h, List.all_eq_true.mp (show (wsX60).all goodWord = true by decide +kernel) w h⟩
set_option maxRecDepth 100000 in
theorem inX7 : ∀ w ∈ wsX70, w ∈ lw_tbl := by decide +kernel
theorem igX7 : ∀ w ∈ wsX70, w ∈ z_tb := fun w h => List.mem_filter.mpr ⟨inX7 w h, List.all_eq_true.mp (show (wsX70).all goodWord = true by decide +kernel) w h⟩
set_option maxRecDepth 100000 in
theorem inX8 : ∀ w ∈ wsX80, w ∈ lw_tbl := by decide +kernel
theorem igX8 : ∀ w ∈ wsX80, w ∈ z_tb := fun w h => List.mem_filter.mpr ⟨inX8 w h, List.all_eq_true.mp (show (wsX80).all goodWord = true by decide +kernel) w h⟩
end
section
theorem q0 : Cond.selects RX2 yX2_begin yX2_begin ∈ z_tb := z_tb_in (i := 0) (by decide +kernel) rfl
theorem q1 : Cond.selects RX2 yX2_isComplete yX2_isComplete ∈ z_tb := z_tb_in (i := 1) (by decide +kernel) rfl
theorem q2 : Cond.selects RX2 yX2_append yX2_append ∈ z_tb := z_tb_in (i := 2) (by decide +kernel) rfl
theorem q3 : Cond.selects RX2 yX2_nextPosition yX2_nextPosition ∈ z_tb := z_tb_in (i := 3) (by decide +kernel) rfl
theorem q4 : Cond.selects RX2 yX2_finishedSteps yX2_finishedSteps ∈ z_tb := z_tb_in (i := 4) (by decide +kernel) rfl
theorem q5 : Cond.selects RX2 yX2_turnOf yX2_turnOf ∈ z_tb := z_tb_in (i := 5) (by decide +kernel) rfl
theorem q6 : Cond.selects RX5 yX5_readingAt yX5_readingAt ∈ z_tb := z_tb_in (i := 6) (by decide +kernel) rfl
theorem q7 : Cond.selects RX2 yX2_at yX2_at ∈ z_tb := z_tb_in (i := 7) (by decide +kernel) rfl
theorem q8 : Cond.selects RX2 yX2_replaceSpikes yX2_replaceSpikes ∈ z_tb := z_tb_in (i := 8) (by decide +kernel) rfl
theorem q9 : Cond.selects RX2 yX2_partAt yX2_partAt ∈ z_tb := z_tb_in (i := 9) (by decide +kernel) rfl
theorem q10 : Cond.selects RX2 yX2_sumAt yX2_sumAt ∈ z_tb := z_tb_in (i := 10) (by decide +kernel) rfl
theorem q11 : Cond.selects RX2 yX2_spindleAt yX2_spindleAt ∈ z_tb := z_tb_in (i := 11) (by decide +kernel) rfl
theorem q12 : Cond.selects RX2 yX2_greatestResidual yX2_greatestResidual ∈ z_tb := z_tb_in (i := 12) (by decide +kernel) rfl
theorem q13 : Cond.selects RX7 yX7_sourceError yX7_sourceError ∈ z_tb := z_tb_in (i := 13) (by decide +kernel) rfl
theorem q14 : Cond.selects RX7 yX7_fillNext yX7_fillNext ∈ z_tb := z_tb_in (i := 14) (by decide +kernel) rfl
theorem q15 : Cond.selects RX7 yX7_sourceAt yX7_sourceAt ∈ z_tb := z_tb_in (i := 15) (by decide +kernel) rfl
theorem q16 : Cond.selects RX5 yX5_profileOf yX5_profileOf ∈ z_tb := z_tb_in (i := 16) (by decide +kernel) rfl
theorem q17 : Cond.selects RX7 yX7_makeNextPresent yX7_makeNextPresent ∈ z_tb := z_tb_in (i := 17) (by decide +kernel) rfl
theorem q18 : Cond.selects RX1 yX1_append yX1_append ∈ z_tb := z_tb_in (i := 18) (by decide +kernel) rfl
theorem q19 : Cond.selects RX1 yX1_present yX1_present ∈ z_tb := z_tb_in (i := 19) (by decide +kernel) rfl
theorem q20 : Cond.selects RX7 yX7_isNextTooGreat yX7_isNextTooGreat ∈ z_tb := z_tb_in (i := 20) (by decide +kernel) rfl
theorem q21 : Cond.selects RX1 yX1_stepBack yX1_stepBack ∈ z_tb := z_tb_in (i := 21) (by decide +kernel) rfl
theorem q22 : Cond.selects RX1 yX1_stepForward yX1_stepForward ∈ z_tb := z_tb_in (i := 22) (by decide +kernel) rfl
theorem q23 : Cond.selects RX7 yX7_circleBy yX7_circleBy ∈ z_tb := z_tb_in (i := 23) (by decide +kernel) rfl
theorem q24 : Cond.selects RX0 yX0_fit yX0_fit ∈ z_tb := z_tb_in (i := 24) (by decide +kernel) rfl
theorem q25 : Cond.selects RX0 yX0_search yX0_search ∈ z_tb := z_tb_in (i := 25) (by decide +kernel) rfl
theorem q26 : Cond.selects RX0 yX0_measure yX0_measure ∈ z_tb := z_tb_in (i := 26) (by decide +kernel) rfl
theorem q27 : Cond.selects RX0 yX0_valueOf yX0_valueOf ∈ z_tb := z_tb_in (i := 27) (by decide +kernel) rfl
theorem q28 : Cond.selects RX0 yX0_pickNear yX0_pickNear ∈ z_tb := z_tb_in (i := 28) (by decide +kernel) rfl
theorem q29 : Cond.selects RX0 yX0_valueAt yX0_valueAt ∈ z_tb := z_tb_in (i := 29) (by decide +kernel) rfl
theorem q30 : Cond.selects RX0 yX0_width yX0_width ∈ z_tb := z_tb_in (i := 30) (by decide +kernel) rfl
theorem q31 : Cond.selects RX0 yX0_firstWith yX0_firstWith ∈ z_tb := z_tb_in (i := 31) (by decide +kernel) rfl
theorem q32 : Cond.selects RX0 yX0_countDownTo yX0_countDownTo ∈ z_tb := z_tb_in (i := 32) (by decide +kernel) rfl
theorem q33 : Cond.selects RX0 yX0_leastDepth yX0_leastDepth ∈ z_tb := z_tb_in (i := 33) (by decide +kernel) rfl
theorem q34 : Cond.selects RX6 yX6_hasHeight yX6_hasHeight ∈ z_tb := z_tb_in (i := 34) (by decide +kernel) rfl
theorem q35 : Cond.selects RX6 yX6_append yX6_append ∈ z_tb := z_tb_in (i := 35) (by decide +kernel) rfl
theorem q36 : Cond.selects RX6 yX6_lacks yX6_lacks ∈ z_tb := z_tb_in (i := 36) (by decide +kernel) rfl
theorem q37 : Cond.selects RX6 yX6_axisAt yX6_axisAt ∈ z_tb := z_tb_in (i := 37) (by decide +kernel) rfl
theorem q38 : Cond.selects RX6 yX6_cylinderWidth yX6_cylinderWidth ∈ z_tb := z_tb_in (i := 38) (by decide +kernel) rfl
theorem q39 : Cond.selects RX6 yX6_farthest yX6_farthest ∈ z_tb := z_tb_in (i := 39) (by decide +kernel) rfl
theorem q40 : Cond.selects RX6 yX6_distanceFromAxis yX6_distanceFromAxis ∈ z_tb := z_tb_in (i := 40) (by decide +kernel) rfl
theorem q41 : Cond.selects RX6 yX6_spreadOfMeans yX6_spreadOfMeans ∈ z_tb := z_tb_in (i := 41) (by decide +kernel) rfl
theorem q42 : Cond.selects RX6 yX6_mismatch yX6_mismatch ∈ z_tb := z_tb_in (i := 42) (by decide +kernel) rfl
theorem q43 : Cond.selects RX6 yX6_bestMatch yX6_bestMatch ∈ z_tb := z_tb_in (i := 43) (by decide +kernel) rfl
theorem q44 : Cond.selects RX3 yX3_append yX3_append ∈ z_tb := z_tb_in (i := 44) (by decide +kernel) rfl
theorem q45 : Cond.selects RX7 yX7_valueOfRule yX7_valueOfRule ∈ z_tb := z_tb_in (i := 45) (by decide +kernel) rfl
theorem q46 : Cond.selects RX4 yX4_append yX4_append ∈ z_tb := z_tb_in (i := 46) (by decide +kernel) rfl
theorem q47 : Cond.selects RX4 yX4_parse yX4_parse ∈ z_tb := z_tb_in (i := 47) (by decide +kernel) rfl
theorem q48 : Cond.selects RX4 yX4_parseItem yX4_parseItem ∈ z_tb := z_tb_in (i := 48) (by decide +kernel) rfl
theorem q49 : Cond.selects RX4 yX4_current yX4_current ∈ z_tb := z_tb_in (i := 49) (by decide +kernel) rfl
theorem q50 : Cond.selects RX4 yX4_parseLobes yX4_parseLobes ∈ z_tb := z_tb_in (i := 50) (by decide +kernel) rfl
theorem q51 : Cond.selects RX4 yX4_takeNumber yX4_takeNumber ∈ z_tb := z_tb_in (i := 51) (by decide +kernel) rfl
theorem q52 : Cond.selects RX4 yX4_isAtDigit yX4_isAtDigit ∈ z_tb := z_tb_in (i := 52) (by decide +kernel) rfl
theorem q53 : Cond.selects RX4 yX4_fail yX4_fail ∈ z_tb := z_tb_in (i := 53) (by decide +kernel) rfl
theorem q54 : Cond.selects RX4 yX4_take yX4_take ∈ z_tb := z_tb_in (i := 54) (by decide +kernel) rfl
theorem q55 : Cond.selects RX4 yX4_note yX4_note ∈ z_tb := z_tb_in (i := 55) (by decide +kernel) rfl
theorem q56 : Cond.selects RX4 yX4_parseEccentricity yX4_parseEccentricity ∈ z_tb := z_tb_in (i := 56) (by decide +kernel) rfl
theorem q57 : Cond.selects RX4 yX4_parseSteps yX4_parseSteps ∈ z_tb := z_tb_in (i := 57) (by decide +kernel) rfl
theorem q58 : Cond.selects RX5 yX5_reset yX5_reset ∈ z_tb := z_tb_in (i := 58) (by decide +kernel) rfl
theorem q59 : Cond.selects RX5 yX5_shiftTo yX5_shiftTo ∈ z_tb := z_tb_in (i := 59) (by decide +kernel) rfl
theorem q60 : Cond.selects RX7 yX7_obey yX7_obey ∈ z_tb := z_tb_in (i := 60) (by decide +kernel) rfl
theorem q61 : Cond.selects RX5 yX5_superpose yX5_superpose ∈ z_tb := z_tb_in (i := 61) (by decide +kernel) rfl
theorem q62 : Cond.selects RX8 yX8_isComplete yX8_isComplete ∈ z_tb := z_tb_in (i := 62) (by decide +kernel) rfl
theorem q63 : Cond.selects RX8 yX8_noStep yX8_noStep ∈ z_tb := z_tb_in (i := 63) (by decide +kernel) rfl
theorem q64 : Cond.selects RX8 yX8_isFinished yX8_isFinished ∈ z_tb := z_tb_in (i := 64) (by decide +kernel) rfl
theorem q65 : Cond.selects RX8 yX8_partAt yX8_partAt ∈ z_tb := z_tb_in (i := 65) (by decide +kernel) rfl
theorem q66 : Cond.selects RX8 yX8_turned yX8_turned ∈ z_tb := z_tb_in (i := 66) (by decide +kernel) rfl
theorem q67 : Cond.selects RX8 yX8_sumAt yX8_sumAt ∈ z_tb := z_tb_in (i := 67) (by decide +kernel) rfl
theorem q68 : Cond.selects RX8 yX8_spindleAt yX8_spindleAt ∈ z_tb := z_tb_in (i := 68) (by decide +kernel) rfl
theorem q69 : Cond.selects RX8 yX8_fetches yX8_fetches ∈ z_tb := z_tb_in (i := 69) (by decide +kernel) rfl
theorem q70 : Cond.selects RX8 yX8_takes yX8_takes ∈ z_tb := z_tb_in (i := 70) (by decide +kernel) rfl
theorem q71 : Cond.selects RX8 yX8_harmonicOf yX8_harmonicOf ∈ z_tb := z_tb_in (i := 71) (by decide +kernel) rfl
theorem q72 : Cond.selects RX8 yX8_harmonicIn yX8_harmonicIn ∈ z_tb := z_tb_in (i := 72) (by decide +kernel) rfl
theorem q73 : Cond.selects RX8 yX8_sine yX8_sine ∈ z_tb := z_tb_in (i := 73) (by decide +kernel) rfl
theorem q74 : Cond.selects RX8 yX8_cosine yX8_cosine ∈ z_tb := z_tb_in (i := 74) (by decide +kernel) rfl
theorem q75 : Cond.selects RX8 yX8_keeps yX8_keeps ∈ z_tb := z_tb_in (i := 75) (by decide +kernel) rfl
theorem q76 : Cond.selects RX8 yX8_isTooFar yX8_isTooFar ∈ z_tb := z_tb_in (i := 76) (by decide +kernel) rfl
theorem q77 : Cond.selects RX8 yX8_strengthOf yX8_strengthOf ∈ z_tb := z_tb_in (i := 77) (by decide +kernel) rfl
theorem q78 : Cond.selects RX8 yX8_findCentre yX8_findCentre ∈ z_tb := z_tb_in (i := 78) (by decide +kernel) rfl
theorem q79 : Cond.selects RX8 yX8_valueBy yX8_valueBy ∈ z_tb := z_tb_in (i := 79) (by decide +kernel) rfl
theorem q80 : Cond.selects RX8 yX8_findEnds yX8_findEnds ∈ z_tb := z_tb_in (i := 80) (by decide +kernel) rfl
theorem q81 : Cond.selects RX8 yX8_offAt yX8_offAt ∈ z_tb := z_tb_in (i := 81) (by decide +kernel) rfl
theorem q82 : Cond.selects RX8 yX8_layOff yX8_layOff ∈ z_tb := z_tb_in (i := 82) (by decide +kernel) rfl
theorem q83 : Cond.selects RX8 yX8_roundnessOf yX8_roundnessOf ∈ z_tb := z_tb_in (i := 83) (by decide +kernel) rfl
theorem q84 : Cond.selects RX8 yX8_extremeAt yX8_extremeAt ∈ z_tb := z_tb_in (i := 84) (by decide +kernel) rfl
theorem q85 : Cond.selects RX8 yX8_countTo yX8_countTo ∈ z_tb := z_tb_in (i := 85) (by decide +kernel) rfl
theorem q86 : Cond.selects RX8 yX8_noTrace yX8_noTrace ∈ z_tb := z_tb_in (i := 86) (by decide +kernel) rfl
theorem q87 : Cond.selects RX8 yX8_traceHarmonic yX8_traceHarmonic ∈ z_tb := z_tb_in (i := 87) (by decide +kernel) rfl
theorem q88 : Cond.selects RX8 yX8_axisAt yX8_axisAt ∈ z_tb := z_tb_in (i := 88) (by decide +kernel) rfl
theorem q89 : Cond.selects RX8 yX8_farOf yX8_farOf ∈ z_tb := z_tb_in (i := 89) (by decide +kernel) rfl
theorem q90 : Cond.selects RX8 yX8_unlike yX8_unlike ∈ z_tb := z_tb_in (i := 90) (by decide +kernel) rfl
theorem q91 : Cond.selects RX8 yX8_ruleNow yX8_ruleNow ∈ z_tb := z_tb_in (i := 91) (by decide +kernel) rfl
theorem q92 : Cond.selects RX8 yX8_readAll yX8_readAll ∈ z_tb := z_tb_in (i := 92) (by decide +kernel) rfl
theorem q93 : Cond.selects RX8 yX8_readItem yX8_readItem ∈ z_tb := z_tb_in (i := 93) (by decide +kernel) rfl
theorem q94 : Cond.selects RX8 yX8_isAt yX8_isAt ∈ z_tb := z_tb_in (i := 94) (by decide +kernel) rfl
theorem q95 : Cond.selects RX8 yX8_fail yX8_fail ∈ z_tb := z_tb_in (i := 95) (by decide +kernel) rfl
theorem q96 : Cond.selects RX8 yX8_number yX8_number ∈ z_tb := z_tb_in (i := 96) (by decide +kernel) rfl
theorem q97 : Cond.selects RX8 yX8_isDigit yX8_isDigit ∈ z_tb := z_tb_in (i := 97) (by decide +kernel) rfl
theorem q98 : Cond.selects RX8 yX8_readPlace yX8_readPlace ∈ z_tb := z_tb_in (i := 98) (by decide +kernel) rfl
theorem q99 : Cond.selects RX8 yX8_expect yX8_expect ∈ z_tb := z_tb_in (i := 99) (by decide +kernel) rfl
theorem q100 : Cond.selects RX8 yX8_readLobes yX8_readLobes ∈ z_tb := z_tb_in (i := 100) (by decide +kernel) rfl
theorem q101 : Cond.initialized RL ∈ z_tb := z_tb_in (i := 101) (by decide +kernel) rfl
theorem q102 : Cond.initialized RX7 ∈ z_tb := z_tb_in (i := 102) (by decide +kernel) rfl
theorem q103 : Cond.initialized RX2 ∈ z_tb := z_tb_in (i := 103) (by decide +kernel) rfl
theorem q104 : Cond.initialized RX5 ∈ z_tb := z_tb_in (i := 104) (by decide +kernel) rfl
theorem q105 : Cond.initialized RX1 ∈ z_tb := z_tb_in (i := 105) (by decide +kernel) rfl
theorem q106 : Cond.initialized RX6 ∈ z_tb := z_tb_in (i := 106) (by decide +kernel) rfl
theorem q107 : Cond.initialized RX3 ∈ z_tb := z_tb_in (i := 107) (by decide +kernel) rfl
theorem q108 : Cond.initialized RX0 ∈ z_tb := z_tb_in (i := 108) (by decide +kernel) rfl
theorem q109 : Cond.initialized RX4 ∈ z_tb := z_tb_in (i := 109) (by decide +kernel) rfl
theorem q110 : Cond.initialized RX8 ∈ z_tb := z_tb_in (i := 110) (by decide +kernel) rfl
theorem q111 : Cond.initialized RJ9 ∈ z_tb := z_tb_in (i := 111) (by decide +kernel) rfl
theorem q112 : Cond.initialized RJ10 ∈ z_tb := z_tb_in (i := 112) (by decide +kernel) rfl
theorem q113 : Cond.classLink RL 7 RX7 ∈ z_tb := z_tb_in (i := 113) (by decide +kernel) rfl
theorem q114 : Cond.instantiable RX7 8 ∈ z_tb := z_tb_in (i := 114) (by decide +kernel) rfl
theorem q115 : Cond.methodLink RL 9 yX7_init ∈ z_tb := z_tb_in (i := 115) (by decide +kernel) rfl
theorem q116 : Cond.instanceMethod yX7_init ∈ z_tb := z_tb_in (i := 116) (by decide +kernel) rfl
theorem q117 : Cond.code yX7_init cX7_init 2 none ∈ z_tb := z_tb_in (i := 117) (by decide +kernel) rfl
theorem q121 : Cond.classLink RX7 9 RX2 ∈ z_tb := z_tb_in (i := 121) (by decide +kernel) rfl
theorem q122 : Cond.instantiable RX2 5 ∈ z_tb := z_tb_in (i := 122) (by decide +kernel) rfl
theorem q124 : Cond.instanceMethod yX2_init ∈ z_tb := z_tb_in (i := 124) (by decide +kernel) rfl
theorem q125 : Cond.code yX2_init cX2_init 1 none ∈ z_tb := z_tb_in (i := 125) (by decide +kernel) rfl
theorem q127 : Cond.fieldLink RX2 9 "RoundnessInstrument$Measurement" "readings" "[I" ∈ z_tb := z_tb_in (i := 127) (by decide +kernel) rfl
theorem q128 : Cond.fieldLink RX2 15 "RoundnessInstrument$Measurement" "old" "[I" ∈ z_tb := z_tb_in (i := 128) (by decide +kernel) rfl
theorem q129 : Cond.fieldLink RX2 18 "RoundnessInstrument$Measurement" "parts" "[J" ∈ z_tb := z_tb_in (i := 129) (by decide +kernel) rfl
theorem q130 : Cond.fieldLink RX2 22 "RoundnessInstrument$Measurement" "steps" "I" ∈ z_tb := z_tb_in (i := 130) (by decide +kernel) rfl
theorem q132 : Cond.fieldLink RX2 26 "RoundnessInstrument$Measurement" "count" "I" ∈ z_tb := z_tb_in (i := 132) (by decide +kernel) rfl
theorem q145 : Cond.arrayClass FieldType.int ∈ z_tb := z_tb_in (i := 145) (by decide +kernel) rfl
theorem q146 : Cond.arrayClass FieldType.long ∈ z_tb := z_tb_in (i := 146) (by decide +kernel) rfl
theorem q147 : Cond.classLink RX7 18 RX5 ∈ z_tb := z_tb_in (i := 147) (by decide +kernel) rfl
theorem q148 : Cond.instantiable RX5 4 ∈ z_tb := z_tb_in (i := 148) (by decide +kernel) rfl
theorem q150 : Cond.instanceMethod yX5_init ∈ z_tb := z_tb_in (i := 150) (by decide +kernel) rfl
theorem q151 : Cond.code yX5_init cX5_init 1 none ∈ z_tb := z_tb_in (i := 151) (by decide +kernel) rfl
theorem q153 : Cond.fieldLink RX5 9 "RoundnessInstrument$Simulation" "truePart" "[I" ∈ z_tb := z_tb_in (i := 153) (by decide +kernel) rfl
theorem q154 : Cond.fieldLink RX5 15 "RoundnessInstrument$Simulation" "trueSpindle" "[I" ∈ z_tb := z_tb_in (i := 154) (by decide +kernel) rfl
theorem q155 : Cond.fieldLink RX5 18 "RoundnessInstrument$Simulation" "eccentricX" "I" ∈ z_tb := z_tb_in (i := 155) (by decide +kernel) rfl
theorem q156 : Cond.fieldLink RX5 22 "RoundnessInstrument$Simulation" "eccentricY" "I" ∈ z_tb := z_tb_in (i := 156) (by decide +kernel) rfl
theorem q166 : Cond.classLink RX7 25 RX1 ∈ z_tb := z_tb_in (i := 166) (by decide +kernel) rfl
theorem q167 : Cond.instantiable RX1 4 ∈ z_tb := z_tb_in (i := 167) (by decide +kernel) rfl
theorem q169 : Cond.instanceMethod yX1_init ∈ z_tb := z_tb_in (i := 169) (by decide +kernel) rfl
theorem q170 : Cond.code yX1_init cX1_init 1 none ∈ z_tb := z_tb_in (i := 170) (by decide +kernel) rfl
theorem q172 : Cond.classLink RX1 11 "[[J" ∈ z_tb := z_tb_in (i := 172) (by decide +kernel) rfl
theorem q174 : Cond.fieldLink RX1 13 "RoundnessInstrument$History" "ring" "[[J" ∈ z_tb := z_tb_in (i := 174) (by decide +kernel) rfl
theorem q175 : Cond.fieldLink RX1 16 "RoundnessInstrument$History" "oldest" "I" ∈ z_tb := z_tb_in (i := 175) (by decide +kernel) rfl
theorem q176 : Cond.fieldLink RX1 20 "RoundnessInstrument$History" "undoable" "I" ∈ z_tb := z_tb_in (i := 176) (by decide +kernel) rfl
theorem q178 : Cond.fieldLink RX1 23 "RoundnessInstrument$History" "redoable" "I" ∈ z_tb := z_tb_in (i := 178) (by decide +kernel) rfl
theorem q189 : Cond.classLink RX7 32 RX0 ∈ z_tb := z_tb_in (i := 189) (by decide +kernel) rfl
theorem q191 : Cond.classLink RX7 38 RX6 ∈ z_tb := z_tb_in (i := 191) (by decide +kernel) rfl
theorem q192 : Cond.instantiable RX6 6 ∈ z_tb := z_tb_in (i := 192) (by decide +kernel) rfl
theorem q194 : Cond.instanceMethod yX6_init ∈ z_tb := z_tb_in (i := 194) (by decide +kernel) rfl
theorem q195 : Cond.code yX6_init cX6_init 1 none ∈ z_tb := z_tb_in (i := 195) (by decide +kernel) rfl
theorem q197 : Cond.classLink RX6 11 "[[J" ∈ z_tb := z_tb_in (i := 197) (by decide +kernel) rfl
theorem q198 : Cond.fieldLink RX6 13 "RoundnessInstrument$Traces" "profiles" "[[J" ∈ z_tb := z_tb_in (i := 198) (by decide +kernel) rfl
theorem q200 : Cond.fieldLink RX6 16 "RoundnessInstrument$Traces" "heights" "[I" ∈ z_tb := z_tb_in (i := 200) (by decide +kernel) rfl
theorem q202 : Cond.fieldLink RX6 20 "RoundnessInstrument$Traces" "xs" "[J" ∈ z_tb := z_tb_in (i := 202) (by decide +kernel) rfl
theorem q204 : Cond.fieldLink RX6 24 "RoundnessInstrument$Traces" "ys" "[J" ∈ z_tb := z_tb_in (i := 204) (by decide +kernel) rfl
theorem q206 : Cond.fieldLink RX6 27 "RoundnessInstrument$Traces" "means" "[J" ∈ z_tb := z_tb_in (i := 206) (by decide +kernel) rfl
theorem q208 : Cond.fieldLink RX6 30 "RoundnessInstrument$Traces" "count" "I" ∈ z_tb := z_tb_in (i := 208) (by decide +kernel) rfl
theorem q223 : Cond.classLink RX7 45 RX3 ∈ z_tb := z_tb_in (i := 223) (by decide +kernel) rfl
theorem q224 : Cond.instantiable RX3 6 ∈ z_tb := z_tb_in (i := 224) (by decide +kernel) rfl
theorem q226 : Cond.instanceMethod yX3_init ∈ z_tb := z_tb_in (i := 226) (by decide +kernel) rfl
theorem q227 : Cond.code yX3_init cX3_init 2 none ∈ z_tb := z_tb_in (i := 227) (by decide +kernel) rfl
theorem q229 : Cond.classLink RX3 22 RX0 ∈ z_tb := z_tb_in (i := 229) (by decide +kernel) rfl
theorem q230 : Cond.instantiable RX0 9 ∈ z_tb := z_tb_in (i := 230) (by decide +kernel) rfl
theorem q232 : Cond.instanceMethod yX0_init ∈ z_tb := z_tb_in (i := 232) (by decide +kernel) rfl
theorem q233 : Cond.code yX0_init cX0_init 1 none ∈ z_tb := z_tb_in (i := 233) (by decide +kernel) rfl
theorem q235 : Cond.fieldLink RX0 9 "RoundnessInstrument$Circle" "profile" "[J" ∈ z_tb := z_tb_in (i := 235) (by decide +kernel) rfl
theorem q236 : Cond.fieldLink RX0 15 "RoundnessInstrument$Circle" "deviations" "[J" ∈ z_tb := z_tb_in (i := 236) (by decide +kernel) rfl
theorem q238 : Cond.fieldLink RX0 18 "RoundnessInstrument$Circle" "near" "[I" ∈ z_tb := z_tb_in (i := 238) (by decide +kernel) rfl
theorem q239 : Cond.fieldLink RX0 22 "RoundnessInstrument$Circle" "nearCount" "I" ∈ z_tb := z_tb_in (i := 239) (by decide +kernel) rfl
theorem q240 : Cond.fieldLink RX0 26 "RoundnessInstrument$Circle" "method" "I" ∈ z_tb := z_tb_in (i := 240) (by decide +kernel) rfl
theorem q241 : Cond.fieldLink RX0 29 "RoundnessInstrument$Circle" "x" "J" ∈ z_tb := z_tb_in (i := 241) (by decide +kernel) rfl
theorem q243 : Cond.fieldLink RX0 33 "RoundnessInstrument$Circle" "y" "J" ∈ z_tb := z_tb_in (i := 243) (by decide +kernel) rfl
theorem q245 : Cond.fieldLink RX0 36 "RoundnessInstrument$Circle" "greatest" "J" ∈ z_tb := z_tb_in (i := 245) (by decide +kernel) rfl
theorem q247 : Cond.fieldLink RX0 39 "RoundnessInstrument$Circle" "least" "J" ∈ z_tb := z_tb_in (i := 247) (by decide +kernel) rfl
theorem q268 : Cond.fieldLink RX3 9 "RoundnessInstrument$Rules" "firsts" "[I" ∈ z_tb := z_tb_in (i := 268) (by decide +kernel) rfl
theorem q270 : Cond.fieldLink RX3 13 "RoundnessInstrument$Rules" "lasts" "[I" ∈ z_tb := z_tb_in (i := 270) (by decide +kernel) rfl
theorem q272 : Cond.fieldLink RX3 16 "RoundnessInstrument$Rules" "methods" "[I" ∈ z_tb := z_tb_in (i := 272) (by decide +kernel) rfl
theorem q274 : Cond.fieldLink RX3 19 "RoundnessInstrument$Rules" "limits" "[I" ∈ z_tb := z_tb_in (i := 274) (by decide +kernel) rfl
theorem q276 : Cond.fieldLink RX3 24 "RoundnessInstrument$Rules" "circles" "[LRoundnessInstrument$Circle;" ∈ z_tb := z_tb_in (i := 276) (by decide +kernel) rfl
theorem q278 : Cond.fieldLink RX3 28 "RoundnessInstrument$Rules" "count" "I" ∈ z_tb := z_tb_in (i := 278) (by decide +kernel) rfl
theorem q293 : Cond.classLink RX7 52 RX4 ∈ z_tb := z_tb_in (i := 293) (by decide +kernel) rfl
theorem q294 : Cond.instantiable RX4 10 ∈ z_tb := z_tb_in (i := 294) (by decide +kernel) rfl
theorem q296 : Cond.instanceMethod yX4_init ∈ z_tb := z_tb_in (i := 296) (by decide +kernel) rfl
theorem q297 : Cond.code yX4_init cX4_init 1 none ∈ z_tb := z_tb_in (i := 297) (by decide +kernel) rfl
theorem q299 : Cond.fieldLink RX4 11 "RoundnessInstrument$Script" "characters" "[C" ∈ z_tb := z_tb_in (i := 299) (by decide +kernel) rfl
theorem q300 : Cond.fieldLink RX4 15 "RoundnessInstrument$Script" "kinds" "[I" ∈ z_tb := z_tb_in (i := 300) (by decide +kernel) rfl
theorem q302 : Cond.fieldLink RX4 19 "RoundnessInstrument$Script" "firsts" "[I" ∈ z_tb := z_tb_in (i := 302) (by decide +kernel) rfl
theorem q304 : Cond.fieldLink RX4 22 "RoundnessInstrument$Script" "seconds" "[I" ∈ z_tb := z_tb_in (i := 304) (by decide +kernel) rfl
theorem q306 : Cond.fieldLink RX4 25 "RoundnessInstrument$Script" "thirds" "[I" ∈ z_tb := z_tb_in (i := 306) (by decide +kernel) rfl
theorem q308 : Cond.fieldLink RX4 28 "RoundnessInstrument$Script" "length" "I" ∈ z_tb := z_tb_in (i := 308) (by decide +kernel) rfl
theorem q310 : Cond.fieldLink RX4 32 "RoundnessInstrument$Script" "cursor" "I" ∈ z_tb := z_tb_in (i := 310) (by decide +kernel) rfl
theorem q311 : Cond.fieldLink RX4 35 "RoundnessInstrument$Script" "items" "I" ∈ z_tb := z_tb_in (i := 311) (by decide +kernel) rfl
theorem q313 : Cond.fieldLink RX4 38 "RoundnessInstrument$Script" "number" "I" ∈ z_tb := z_tb_in (i := 313) (by decide +kernel) rfl
theorem q314 : Cond.fieldLink RX4 41 "RoundnessInstrument$Script" "fault" "I" ∈ z_tb := z_tb_in (i := 314) (by decide +kernel) rfl
theorem q337 : Cond.arrayClass FieldType.char ∈ z_tb := z_tb_in (i := 337) (by decide +kernel) rfl
theorem q339 : Cond.fieldLink RX7 12 "RoundnessInstrument" "measurement" "LRoundnessInstrument$Measurement;" ∈ z_tb := z_tb_in (i := 339) (by decide +kernel) rfl
theorem q340 : Cond.fieldLink RX7 21 "RoundnessInstrument" "simulation" "LRoundnessInstrument$Simulation;" ∈ z_tb := z_tb_in (i := 340) (by decide +kernel) rfl
theorem q341 : Cond.fieldLink RX7 28 "RoundnessInstrument" "history" "LRoundnessInstrument$History;" ∈ z_tb := z_tb_in (i := 341) (by decide +kernel) rfl
theorem q342 : Cond.fieldLink RX7 34 "RoundnessInstrument" "circles" "[LRoundnessInstrument$Circle;" ∈ z_tb := z_tb_in (i := 342) (by decide +kernel) rfl
theorem q343 : Cond.fieldLink RX7 41 "RoundnessInstrument" "traces" "LRoundnessInstrument$Traces;" ∈ z_tb := z_tb_in (i := 343) (by decide +kernel) rfl
theorem q344 : Cond.fieldLink RX7 48 "RoundnessInstrument" "rules" "LRoundnessInstrument$Rules;" ∈ z_tb := z_tb_in (i := 344) (by decide +kernel) rfl
theorem q345 : Cond.fieldLink RX7 55 "RoundnessInstrument" "script" "LRoundnessInstrument$Script;" ∈ z_tb := z_tb_in (i := 345) (by decide +kernel) rfl
theorem q346 : Cond.fieldLink RX7 59 "RoundnessInstrument" "next" "[J" ∈ z_tb := z_tb_in (i := 346) (by decide +kernel) rfl
theorem q364 : Cond.methodLink RL 13 yX7_setSteps ∈ z_tb := z_tb_in (i := 364) (by decide +kernel) rfl
theorem q365 : Cond.instanceMethod yX7_setSteps ∈ z_tb := z_tb_in (i := 365) (by decide +kernel) rfl
theorem q366 : Cond.selects RX7 yX7_setSteps yX7_setSteps ∈ z_tb := z_tb_in (i := 366) (by decide +kernel) rfl
theorem q367 : Cond.code yX7_setSteps cX7_setSteps 3 (some FieldType.int) ∈ z_tb := z_tb_in (i := 367) (by decide +kernel) rfl
theorem q368 : Cond.methodLink RX7 64 yX7_isStepCount ∈ z_tb := z_tb_in (i := 368) (by decide +kernel) rfl
theorem q369 : Cond.static yX7_isStepCount ∈ z_tb := z_tb_in (i := 369) (by decide +kernel) rfl
theorem q370 : Cond.code yX7_isStepCount cX7_isStepCount 1 (some FieldType.boolean) ∈ z_tb := z_tb_in (i := 370) (by decide +kernel) rfl
theorem q371 : Cond.constant RX7 68 (-1000001) ∈ z_tb := z_tb_in (i := 371) (by decide +kernel) rfl
theorem q374 : Cond.instanceMethod yX2_begin ∈ z_tb := z_tb_in (i := 374) (by decide +kernel) rfl
theorem q375 : Cond.code yX2_begin cX2_begin 2 none ∈ z_tb := z_tb_in (i := 375) (by decide +kernel) rfl
theorem q376 : Cond.methodLink RL 18 yX7_read ∈ z_tb := z_tb_in (i := 376) (by decide +kernel) rfl
theorem q377 : Cond.instanceMethod yX7_read ∈ z_tb := z_tb_in (i := 377) (by decide +kernel) rfl
theorem q378 : Cond.selects RX7 yX7_read yX7_read ∈ z_tb := z_tb_in (i := 378) (by decide +kernel) rfl
theorem q379 : Cond.code yX7_read cX7_read 2 (some FieldType.int) ∈ z_tb := z_tb_in (i := 379) (by decide +kernel) rfl
theorem q380 : Cond.methodLink RX7 77 yX7_isOutside ∈ z_tb := z_tb_in (i := 380) (by decide +kernel) rfl
theorem q381 : Cond.static yX7_isOutside ∈ z_tb := z_tb_in (i := 381) (by decide +kernel) rfl
theorem q382 : Cond.code yX7_isOutside cX7_isOutside 3 (some FieldType.boolean) ∈ z_tb := z_tb_in (i := 382) (by decide +kernel) rfl
theorem q385 : Cond.instanceMethod yX2_isComplete ∈ z_tb := z_tb_in (i := 385) (by decide +kernel) rfl
theorem q386 : Cond.code yX2_isComplete cX2_isComplete 1 (some FieldType.boolean) ∈ z_tb := z_tb_in (i := 386) (by decide +kernel) rfl
theorem q387 : Cond.constant RX7 85 (-1000002) ∈ z_tb := z_tb_in (i := 387) (by decide +kernel) rfl
theorem q390 : Cond.instanceMethod yX2_append ∈ z_tb := z_tb_in (i := 390) (by decide +kernel) rfl
theorem q391 : Cond.code yX2_append cX2_append 2 none ∈ z_tb := z_tb_in (i := 391) (by decide +kernel) rfl
theorem q392 : Cond.methodLink RL 22 yX7_simulateStep ∈ z_tb := z_tb_in (i := 392) (by decide +kernel) rfl
theorem q393 : Cond.instanceMethod yX7_simulateStep ∈ z_tb := z_tb_in (i := 393) (by decide +kernel) rfl
theorem q394 : Cond.selects RX7 yX7_simulateStep yX7_simulateStep ∈ z_tb := z_tb_in (i := 394) (by decide +kernel) rfl
theorem q395 : Cond.code yX7_simulateStep cX7_simulateStep 3 (some FieldType.int) ∈ z_tb := z_tb_in (i := 395) (by decide +kernel) rfl
theorem q398 : Cond.instanceMethod yX2_nextPosition ∈ z_tb := z_tb_in (i := 398) (by decide +kernel) rfl
theorem q399 : Cond.code yX2_nextPosition cX2_nextPosition 1 (some FieldType.int) ∈ z_tb := z_tb_in (i := 399) (by decide +kernel) rfl
theorem q402 : Cond.instanceMethod yX2_finishedSteps ∈ z_tb := z_tb_in (i := 402) (by decide +kernel) rfl
theorem q403 : Cond.code yX2_finishedSteps cX2_finishedSteps 1 (some FieldType.int) ∈ z_tb := z_tb_in (i := 403) (by decide +kernel) rfl
theorem q406 : Cond.instanceMethod yX2_turnOf ∈ z_tb := z_tb_in (i := 406) (by decide +kernel) rfl
theorem q407 : Cond.code yX2_turnOf cX2_turnOf 2 (some FieldType.int) ∈ z_tb := z_tb_in (i := 407) (by decide +kernel) rfl
theorem q410 : Cond.instanceMethod yX5_readingAt ∈ z_tb := z_tb_in (i := 410) (by decide +kernel) rfl
theorem q411 : Cond.code yX5_readingAt cX5_readingAt 6 (some FieldType.int) ∈ z_tb := z_tb_in (i := 411) (by decide +kernel) rfl
theorem q413 : Cond.static yX7_place ∈ z_tb := z_tb_in (i := 413) (by decide +kernel) rfl
theorem q414 : Cond.code yX7_place cX7_place 1 (some FieldType.int) ∈ z_tb := z_tb_in (i := 414) (by decide +kernel) rfl
theorem q415 : Cond.methodLink RX7 368 yJ9_floorMod_7cf53 ∈ z_tb := z_tb_in (i := 415) (by decide +kernel) rfl
theorem q416 : Cond.static yJ9_floorMod_7cf53 ∈ z_tb := z_tb_in (i := 416) (by decide +kernel) rfl
theorem q417 : Cond.code yJ9_floorMod_7cf53 cJ9_floorMod_7cf53 3 (some FieldType.int) ∈ z_tb := z_tb_in (i := 417) (by decide +kernel) rfl
theorem q419 : Cond.static yX7_wave ∈ z_tb := z_tb_in (i := 419) (by decide +kernel) rfl
theorem q420 : Cond.code yX7_wave cX7_wave 6 (some FieldType.long) ∈ z_tb := z_tb_in (i := 420) (by decide +kernel) rfl
theorem q421 : Cond.fieldLink RX7 371 "RoundnessInstrument" "COSINES" "[I" ∈ z_tb := z_tb_in (i := 421) (by decide +kernel) rfl
theorem q423 : Cond.fieldLink RX7 377 "RoundnessInstrument" "SINES" "[I" ∈ z_tb := z_tb_in (i := 423) (by decide +kernel) rfl
theorem q425 : Cond.constantLong RX7 297 (1000000) ∈ z_tb := z_tb_in (i := 425) (by decide +kernel) rfl
theorem q426 : Cond.methodLink RX7 374 yJ9_floorDiv_f86c9 ∈ z_tb := z_tb_in (i := 426) (by decide +kernel) rfl
theorem q427 : Cond.static yJ9_floorDiv_f86c9 ∈ z_tb := z_tb_in (i := 427) (by decide +kernel) rfl
theorem q428 : Cond.code yJ9_floorDiv_f86c9 cJ9_floorDiv_f86c9 6 (some FieldType.long) ∈ z_tb := z_tb_in (i := 428) (by decide +kernel) rfl
theorem q430 : Cond.static yX7_clamp ∈ z_tb := z_tb_in (i := 430) (by decide +kernel) rfl
theorem q431 : Cond.code yX7_clamp cX7_clamp 3 (some FieldType.int) ∈ z_tb := z_tb_in (i := 431) (by decide +kernel) rfl
theorem q432 : Cond.methodLink RL 27 yX7_removeReadings ∈ z_tb := z_tb_in (i := 432) (by decide +kernel) rfl
theorem q433 : Cond.instanceMethod yX7_removeReadings ∈ z_tb := z_tb_in (i := 433) (by decide +kernel) rfl
theorem q434 : Cond.selects RX7 yX7_removeReadings yX7_removeReadings ∈ z_tb := z_tb_in (i := 434) (by decide +kernel) rfl
theorem q435 : Cond.code yX7_removeReadings cX7_removeReadings 2 (some FieldType.int) ∈ z_tb := z_tb_in (i := 435) (by decide +kernel) rfl
theorem q436 : Cond.methodLink RL 31 yX7_progress ∈ z_tb := z_tb_in (i := 436) (by decide +kernel) rfl
theorem q437 : Cond.instanceMethod yX7_progress ∈ z_tb := z_tb_in (i := 437) (by decide +kernel) rfl
theorem q438 : Cond.selects RX7 yX7_progress yX7_progress ∈ z_tb := z_tb_in (i := 438) (by decide +kernel) rfl
theorem q439 : Cond.code yX7_progress cX7_progress 2 (some FieldType.int) ∈ z_tb := z_tb_in (i := 439) (by decide +kernel) rfl
theorem q440 : Cond.constant RX7 107 (-1000003) ∈ z_tb := z_tb_in (i := 440) (by decide +kernel) rfl
theorem q441 : Cond.methodLink RL 35 yX7_reading ∈ z_tb := z_tb_in (i := 441) (by decide +kernel) rfl
theorem q442 : Cond.instanceMethod yX7_reading ∈ z_tb := z_tb_in (i := 442) (by decide +kernel) rfl
theorem q443 : Cond.selects RX7 yX7_reading yX7_reading ∈ z_tb := z_tb_in (i := 443) (by decide +kernel) rfl
theorem q444 : Cond.code yX7_reading cX7_reading 3 (some FieldType.int) ∈ z_tb := z_tb_in (i := 444) (by decide +kernel) rfl
theorem q445 : Cond.methodLink RX7 108 yX7_isNoPosition ∈ z_tb := z_tb_in (i := 445) (by decide +kernel) rfl
theorem q446 : Cond.static yX7_isNoPosition ∈ z_tb := z_tb_in (i := 446) (by decide +kernel) rfl
theorem q447 : Cond.code yX7_isNoPosition cX7_isNoPosition 1 (some FieldType.boolean) ∈ z_tb := z_tb_in (i := 447) (by decide +kernel) rfl
theorem q450 : Cond.instanceMethod yX2_at ∈ z_tb := z_tb_in (i := 450) (by decide +kernel) rfl
theorem q451 : Cond.code yX2_at cX2_at 3 (some FieldType.int) ∈ z_tb := z_tb_in (i := 451) (by decide +kernel) rfl
theorem q452 : Cond.methodLink RX2 29 yJ9_floorMod_7cf53 ∈ z_tb := z_tb_in (i := 452) (by decide +kernel) rfl
theorem q453 : Cond.methodLink RL 40 yX7_despike ∈ z_tb := z_tb_in (i := 453) (by decide +kernel) rfl
theorem q454 : Cond.instanceMethod yX7_despike ∈ z_tb := z_tb_in (i := 454) (by decide +kernel) rfl
theorem q455 : Cond.selects RX7 yX7_despike yX7_despike ∈ z_tb := z_tb_in (i := 455) (by decide +kernel) rfl
theorem q456 : Cond.code yX7_despike cX7_despike 3 (some FieldType.int) ∈ z_tb := z_tb_in (i := 456) (by decide +kernel) rfl
theorem q459 : Cond.instanceMethod yX2_replaceSpikes ∈ z_tb := z_tb_in (i := 459) (by decide +kernel) rfl
theorem q460 : Cond.code yX2_replaceSpikes cX2_replaceSpikes 7 (some FieldType.int) ∈ z_tb := z_tb_in (i := 460) (by decide +kernel) rfl
theorem q465 : Cond.methodLink RX2 45 yJ9_abs_0f7a4 ∈ z_tb := z_tb_in (i := 465) (by decide +kernel) rfl
theorem q466 : Cond.static yJ9_abs_0f7a4 ∈ z_tb := z_tb_in (i := 466) (by decide +kernel) rfl
theorem q467 : Cond.code yJ9_abs_0f7a4 cJ9_abs_0f7a4 1 (some FieldType.int) ∈ z_tb := z_tb_in (i := 467) (by decide +kernel) rfl
theorem q468 : Cond.methodLink RX2 48 yJ9_floorDiv_7cf53 ∈ z_tb := z_tb_in (i := 468) (by decide +kernel) rfl
theorem q469 : Cond.static yJ9_floorDiv_7cf53 ∈ z_tb := z_tb_in (i := 469) (by decide +kernel) rfl
theorem q470 : Cond.code yJ9_floorDiv_7cf53 cJ9_floorDiv_7cf53 3 (some FieldType.int) ∈ z_tb := z_tb_in (i := 470) (by decide +kernel) rfl
theorem q471 : Cond.methodLink RL 44 yX7_part ∈ z_tb := z_tb_in (i := 471) (by decide +kernel) rfl
theorem q472 : Cond.instanceMethod yX7_part ∈ z_tb := z_tb_in (i := 472) (by decide +kernel) rfl
theorem q473 : Cond.selects RX7 yX7_part yX7_part ∈ z_tb := z_tb_in (i := 473) (by decide +kernel) rfl
theorem q474 : Cond.code yX7_part cX7_part 2 (some FieldType.long) ∈ z_tb := z_tb_in (i := 474) (by decide +kernel) rfl
theorem q475 : Cond.constantLong RX7 117 (-9223372036854775808) ∈ z_tb := z_tb_in (i := 475) (by decide +kernel) rfl
theorem q478 : Cond.instanceMethod yX2_partAt ∈ z_tb := z_tb_in (i := 478) (by decide +kernel) rfl
theorem q479 : Cond.code yX2_partAt cX2_partAt 6 (some FieldType.long) ∈ z_tb := z_tb_in (i := 479) (by decide +kernel) rfl
theorem q480 : Cond.methodLink RX2 64 yX2_turnOf ∈ z_tb := z_tb_in (i := 480) (by decide +kernel) rfl
theorem q481 : Cond.methodLink RX2 51 yX2_at ∈ z_tb := z_tb_in (i := 481) (by decide +kernel) rfl
theorem q482 : Cond.methodLink RX2 56 yX2_sumAt ∈ z_tb := z_tb_in (i := 482) (by decide +kernel) rfl
theorem q484 : Cond.instanceMethod yX2_sumAt ∈ z_tb := z_tb_in (i := 484) (by decide +kernel) rfl
theorem q485 : Cond.code yX2_sumAt cX2_sumAt 5 (some FieldType.long) ∈ z_tb := z_tb_in (i := 485) (by decide +kernel) rfl
theorem q486 : Cond.constantLong RX2 54 (1000000) ∈ z_tb := z_tb_in (i := 486) (by decide +kernel) rfl
theorem q488 : Cond.static yX7_divide ∈ z_tb := z_tb_in (i := 488) (by decide +kernel) rfl
theorem q489 : Cond.code yX7_divide cX7_divide 4 (some FieldType.long) ∈ z_tb := z_tb_in (i := 489) (by decide +kernel) rfl
theorem q490 : Cond.methodLink RL 49 yX7_spindle ∈ z_tb := z_tb_in (i := 490) (by decide +kernel) rfl
theorem q491 : Cond.instanceMethod yX7_spindle ∈ z_tb := z_tb_in (i := 491) (by decide +kernel) rfl
theorem q492 : Cond.selects RX7 yX7_spindle yX7_spindle ∈ z_tb := z_tb_in (i := 492) (by decide +kernel) rfl
theorem q493 : Cond.code yX7_spindle cX7_spindle 2 (some FieldType.long) ∈ z_tb := z_tb_in (i := 493) (by decide +kernel) rfl
theorem q496 : Cond.instanceMethod yX2_spindleAt ∈ z_tb := z_tb_in (i := 496) (by decide +kernel) rfl
theorem q497 : Cond.code yX2_spindleAt cX2_spindleAt 2 (some FieldType.long) ∈ z_tb := z_tb_in (i := 497) (by decide +kernel) rfl
theorem q498 : Cond.methodLink RL 53 yX7_isBlind ∈ z_tb := z_tb_in (i := 498) (by decide +kernel) rfl
theorem q499 : Cond.instanceMethod yX7_isBlind ∈ z_tb := z_tb_in (i := 499) (by decide +kernel) rfl
theorem q500 : Cond.selects RX7 yX7_isBlind yX7_isBlind ∈ z_tb := z_tb_in (i := 500) (by decide +kernel) rfl
theorem q501 : Cond.code yX7_isBlind cX7_isBlind 3 (some FieldType.int) ∈ z_tb := z_tb_in (i := 501) (by decide +kernel) rfl
theorem q502 : Cond.methodLink RL 57 yX7_residual ∈ z_tb := z_tb_in (i := 502) (by decide +kernel) rfl
theorem q503 : Cond.instanceMethod yX7_residual ∈ z_tb := z_tb_in (i := 503) (by decide +kernel) rfl
theorem q504 : Cond.selects RX7 yX7_residual yX7_residual ∈ z_tb := z_tb_in (i := 504) (by decide +kernel) rfl
theorem q505 : Cond.code yX7_residual cX7_residual 1 (some FieldType.long) ∈ z_tb := z_tb_in (i := 505) (by decide +kernel) rfl
theorem q508 : Cond.instanceMethod yX2_greatestResidual ∈ z_tb := z_tb_in (i := 508) (by decide +kernel) rfl
theorem q509 : Cond.code yX2_greatestResidual cX2_greatestResidual 9 (some FieldType.long) ∈ z_tb := z_tb_in (i := 509) (by decide +kernel) rfl
theorem q510 : Cond.methodLink RX2 67 yX2_partAt ∈ z_tb := z_tb_in (i := 510) (by decide +kernel) rfl
theorem q511 : Cond.methodLink RX2 70 yX2_spindleAt ∈ z_tb := z_tb_in (i := 511) (by decide +kernel) rfl
theorem q512 : Cond.methodLink RX2 73 yJ9_abs_067f4 ∈ z_tb := z_tb_in (i := 512) (by decide +kernel) rfl
theorem q513 : Cond.static yJ9_abs_067f4 ∈ z_tb := z_tb_in (i := 513) (by decide +kernel) rfl
theorem q514 : Cond.code yJ9_abs_067f4 cJ9_abs_067f4 2 (some FieldType.long) ∈ z_tb := z_tb_in (i := 514) (by decide +kernel) rfl
theorem q515 : Cond.methodLink RX2 76 yJ9_max_f86c9 ∈ z_tb := z_tb_in (i := 515) (by decide +kernel) rfl
theorem q516 : Cond.static yJ9_max_f86c9 ∈ z_tb := z_tb_in (i := 516) (by decide +kernel) rfl
theorem q517 : Cond.code yJ9_max_f86c9 cJ9_max_f86c9 4 (some FieldType.long) ∈ z_tb := z_tb_in (i := 517) (by decide +kernel) rfl
theorem q518 : Cond.methodLink RL 62 yX7_load ∈ z_tb := z_tb_in (i := 518) (by decide +kernel) rfl
theorem q519 : Cond.instanceMethod yX7_load ∈ z_tb := z_tb_in (i := 519) (by decide +kernel) rfl
theorem q520 : Cond.selects RX7 yX7_load yX7_load ∈ z_tb := z_tb_in (i := 520) (by decide +kernel) rfl
theorem q521 : Cond.code yX7_load cX7_load 4 (some FieldType.int) ∈ z_tb := z_tb_in (i := 521) (by decide +kernel) rfl
theorem q522 : Cond.methodLink RX7 130 yX7_sourceError ∈ z_tb := z_tb_in (i := 522) (by decide +kernel) rfl
theorem q524 : Cond.instanceMethod yX7_sourceError ∈ z_tb := z_tb_in (i := 524) (by decide +kernel) rfl
theorem q525 : Cond.code yX7_sourceError cX7_sourceError 3 (some FieldType.int) ∈ z_tb := z_tb_in (i := 525) (by decide +kernel) rfl
theorem q526 : Cond.methodLink RX7 133 yX7_fillNext ∈ z_tb := z_tb_in (i := 526) (by decide +kernel) rfl
theorem q528 : Cond.instanceMethod yX7_fillNext ∈ z_tb := z_tb_in (i := 528) (by decide +kernel) rfl
theorem q529 : Cond.code yX7_fillNext cX7_fillNext 4 none ∈ z_tb := z_tb_in (i := 529) (by decide +kernel) rfl
theorem q530 : Cond.methodLink RX7 331 yX7_sourceAt ∈ z_tb := z_tb_in (i := 530) (by decide +kernel) rfl
theorem q532 : Cond.instanceMethod yX7_sourceAt ∈ z_tb := z_tb_in (i := 532) (by decide +kernel) rfl
theorem q533 : Cond.code yX7_sourceAt cX7_sourceAt 4 (some FieldType.long) ∈ z_tb := z_tb_in (i := 533) (by decide +kernel) rfl
theorem q536 : Cond.instanceMethod yX5_profileOf ∈ z_tb := z_tb_in (i := 536) (by decide +kernel) rfl
theorem q537 : Cond.code yX5_profileOf cX5_profileOf 2 (some (FieldType.array FieldType.int)) ∈ z_tb := z_tb_in (i := 537) (by decide +kernel) rfl
theorem q538 : Cond.methodLink RX7 137 yX7_makeNextPresent ∈ z_tb := z_tb_in (i := 538) (by decide +kernel) rfl
theorem q540 : Cond.instanceMethod yX7_makeNextPresent ∈ z_tb := z_tb_in (i := 540) (by decide +kernel) rfl
theorem q541 : Cond.code yX7_makeNextPresent cX7_makeNextPresent 1 (some FieldType.int) ∈ z_tb := z_tb_in (i := 541) (by decide +kernel) rfl
theorem q544 : Cond.instanceMethod yX1_append ∈ z_tb := z_tb_in (i := 544) (by decide +kernel) rfl
theorem q545 : Cond.code yX1_append cX1_append 3 (some FieldType.boolean) ∈ z_tb := z_tb_in (i := 545) (by decide +kernel) rfl
theorem q546 : Cond.methodLink RX1 26 yX1_present ∈ z_tb := z_tb_in (i := 546) (by decide +kernel) rfl
theorem q548 : Cond.instanceMethod yX1_present ∈ z_tb := z_tb_in (i := 548) (by decide +kernel) rfl
theorem q549 : Cond.code yX1_present cX1_present 1 (some (FieldType.array FieldType.long)) ∈ z_tb := z_tb_in (i := 549) (by decide +kernel) rfl
theorem q551 : Cond.static yX7_isSame ∈ z_tb := z_tb_in (i := 551) (by decide +kernel) rfl
theorem q552 : Cond.code yX7_isSame cX7_isSame 3 (some FieldType.boolean) ∈ z_tb := z_tb_in (i := 552) (by decide +kernel) rfl
theorem q554 : Cond.methodLink RL 66 yX7_profile ∈ z_tb := z_tb_in (i := 554) (by decide +kernel) rfl
theorem q555 : Cond.instanceMethod yX7_profile ∈ z_tb := z_tb_in (i := 555) (by decide +kernel) rfl
theorem q556 : Cond.selects RX7 yX7_profile yX7_profile ∈ z_tb := z_tb_in (i := 556) (by decide +kernel) rfl
theorem q557 : Cond.code yX7_profile cX7_profile 2 (some FieldType.long) ∈ z_tb := z_tb_in (i := 557) (by decide +kernel) rfl
theorem q559 : Cond.methodLink RL 70 yX7_rotate ∈ z_tb := z_tb_in (i := 559) (by decide +kernel) rfl
theorem q560 : Cond.instanceMethod yX7_rotate ∈ z_tb := z_tb_in (i := 560) (by decide +kernel) rfl
theorem q561 : Cond.selects RX7 yX7_rotate yX7_rotate ∈ z_tb := z_tb_in (i := 561) (by decide +kernel) rfl
theorem q562 : Cond.code yX7_rotate cX7_rotate 4 (some FieldType.int) ∈ z_tb := z_tb_in (i := 562) (by decide +kernel) rfl
theorem q563 : Cond.methodLink RX7 144 yX7_place ∈ z_tb := z_tb_in (i := 563) (by decide +kernel) rfl
theorem q564 : Cond.methodLink RL 74 yX7_removeEccentricity ∈ z_tb := z_tb_in (i := 564) (by decide +kernel) rfl
theorem q565 : Cond.instanceMethod yX7_removeEccentricity ∈ z_tb := z_tb_in (i := 565) (by decide +kernel) rfl
theorem q566 : Cond.selects RX7 yX7_removeEccentricity yX7_removeEccentricity ∈ z_tb := z_tb_in (i := 566) (by decide +kernel) rfl
theorem q567 : Cond.code yX7_removeEccentricity cX7_removeEccentricity 9 (some FieldType.int) ∈ z_tb := z_tb_in (i := 567) (by decide +kernel) rfl
theorem q568 : Cond.methodLink RX7 147 yX7_coefficient ∈ z_tb := z_tb_in (i := 568) (by decide +kernel) rfl
theorem q569 : Cond.static yX7_coefficient ∈ z_tb := z_tb_in (i := 569) (by decide +kernel) rfl
theorem q570 : Cond.code yX7_coefficient cX7_coefficient 7 (some FieldType.long) ∈ z_tb := z_tb_in (i := 570) (by decide +kernel) rfl
theorem q571 : Cond.constantLong RX7 380 (24000000) ∈ z_tb := z_tb_in (i := 571) (by decide +kernel) rfl
theorem q572 : Cond.constantLong RX7 382 (12000000) ∈ z_tb := z_tb_in (i := 572) (by decide +kernel) rfl
theorem q573 : Cond.methodLink RX7 151 yX7_wave ∈ z_tb := z_tb_in (i := 573) (by decide +kernel) rfl
theorem q574 : Cond.methodLink RL 78 yX7_keepLobes ∈ z_tb := z_tb_in (i := 574) (by decide +kernel) rfl
theorem q575 : Cond.instanceMethod yX7_keepLobes ∈ z_tb := z_tb_in (i := 575) (by decide +kernel) rfl
theorem q576 : Cond.selects RX7 yX7_keepLobes yX7_keepLobes ∈ z_tb := z_tb_in (i := 576) (by decide +kernel) rfl
theorem q577 : Cond.code yX7_keepLobes cX7_keepLobes 3 (some FieldType.int) ∈ z_tb := z_tb_in (i := 577) (by decide +kernel) rfl
theorem q578 : Cond.methodLink RX7 155 yX7_isNoRange ∈ z_tb := z_tb_in (i := 578) (by decide +kernel) rfl
theorem q579 : Cond.static yX7_isNoRange ∈ z_tb := z_tb_in (i := 579) (by decide +kernel) rfl
theorem q580 : Cond.code yX7_isNoRange cX7_isNoRange 2 (some FieldType.boolean) ∈ z_tb := z_tb_in (i := 580) (by decide +kernel) rfl
theorem q581 : Cond.methodLink RX7 159 yX7_copyLobes ∈ z_tb := z_tb_in (i := 581) (by decide +kernel) rfl
theorem q582 : Cond.static yX7_copyLobes ∈ z_tb := z_tb_in (i := 582) (by decide +kernel) rfl
theorem q583 : Cond.code yX7_copyLobes cX7_copyLobes 10 none ∈ z_tb := z_tb_in (i := 583) (by decide +kernel) rfl
theorem q584 : Cond.methodLink RL 82 yX7_subtract ∈ z_tb := z_tb_in (i := 584) (by decide +kernel) rfl
theorem q585 : Cond.instanceMethod yX7_subtract ∈ z_tb := z_tb_in (i := 585) (by decide +kernel) rfl
theorem q586 : Cond.selects RX7 yX7_subtract yX7_subtract ∈ z_tb := z_tb_in (i := 586) (by decide +kernel) rfl
theorem q587 : Cond.code yX7_subtract cX7_subtract 6 (some FieldType.int) ∈ z_tb := z_tb_in (i := 587) (by decide +kernel) rfl
theorem q588 : Cond.methodLink RX7 163 yX7_isNextTooGreat ∈ z_tb := z_tb_in (i := 588) (by decide +kernel) rfl
theorem q590 : Cond.instanceMethod yX7_isNextTooGreat ∈ z_tb := z_tb_in (i := 590) (by decide +kernel) rfl
theorem q591 : Cond.code yX7_isNextTooGreat cX7_isNextTooGreat 2 (some FieldType.boolean) ∈ z_tb := z_tb_in (i := 591) (by decide +kernel) rfl
theorem q592 : Cond.methodLink RX7 334 yJ9_abs_067f4 ∈ z_tb := z_tb_in (i := 592) (by decide +kernel) rfl
theorem q593 : Cond.constantLong RX7 340 (40000000000) ∈ z_tb := z_tb_in (i := 593) (by decide +kernel) rfl
theorem q594 : Cond.methodLink RL 86 yX7_vBlock ∈ z_tb := z_tb_in (i := 594) (by decide +kernel) rfl
theorem q595 : Cond.instanceMethod yX7_vBlock ∈ z_tb := z_tb_in (i := 595) (by decide +kernel) rfl
theorem q596 : Cond.selects RX7 yX7_vBlock yX7_vBlock ∈ z_tb := z_tb_in (i := 596) (by decide +kernel) rfl
theorem q597 : Cond.code yX7_vBlock cX7_vBlock 6 (some FieldType.int) ∈ z_tb := z_tb_in (i := 597) (by decide +kernel) rfl
theorem q598 : Cond.constantLong RX7 166 (500000) ∈ z_tb := z_tb_in (i := 598) (by decide +kernel) rfl
theorem q599 : Cond.methodLink RX7 168 yX7_cosine ∈ z_tb := z_tb_in (i := 599) (by decide +kernel) rfl
theorem q600 : Cond.static yX7_cosine ∈ z_tb := z_tb_in (i := 600) (by decide +kernel) rfl
theorem q601 : Cond.code yX7_cosine cX7_cosine 1 (some FieldType.int) ∈ z_tb := z_tb_in (i := 601) (by decide +kernel) rfl
theorem q602 : Cond.methodLink RX7 171 yX7_divide ∈ z_tb := z_tb_in (i := 602) (by decide +kernel) rfl
theorem q603 : Cond.methodLink RL 90 yX7_isBlindInVBlock ∈ z_tb := z_tb_in (i := 603) (by decide +kernel) rfl
theorem q604 : Cond.instanceMethod yX7_isBlindInVBlock ∈ z_tb := z_tb_in (i := 604) (by decide +kernel) rfl
theorem q605 : Cond.selects RX7 yX7_isBlindInVBlock yX7_isBlindInVBlock ∈ z_tb := z_tb_in (i := 605) (by decide +kernel) rfl
theorem q606 : Cond.code yX7_isBlindInVBlock cX7_isBlindInVBlock 4 (some FieldType.int) ∈ z_tb := z_tb_in (i := 606) (by decide +kernel) rfl
theorem q607 : Cond.methodLink RL 94 yX7_undo ∈ z_tb := z_tb_in (i := 607) (by decide +kernel) rfl
theorem q608 : Cond.instanceMethod yX7_undo ∈ z_tb := z_tb_in (i := 608) (by decide +kernel) rfl
theorem q609 : Cond.selects RX7 yX7_undo yX7_undo ∈ z_tb := z_tb_in (i := 609) (by decide +kernel) rfl
theorem q610 : Cond.code yX7_undo cX7_undo 1 (some FieldType.int) ∈ z_tb := z_tb_in (i := 610) (by decide +kernel) rfl
theorem q613 : Cond.instanceMethod yX1_stepBack ∈ z_tb := z_tb_in (i := 613) (by decide +kernel) rfl
theorem q614 : Cond.code yX1_stepBack cX1_stepBack 1 (some FieldType.boolean) ∈ z_tb := z_tb_in (i := 614) (by decide +kernel) rfl
theorem q615 : Cond.methodLink RL 98 yX7_redo ∈ z_tb := z_tb_in (i := 615) (by decide +kernel) rfl
theorem q616 : Cond.instanceMethod yX7_redo ∈ z_tb := z_tb_in (i := 616) (by decide +kernel) rfl
theorem q617 : Cond.selects RX7 yX7_redo yX7_redo ∈ z_tb := z_tb_in (i := 617) (by decide +kernel) rfl
theorem q618 : Cond.code yX7_redo cX7_redo 1 (some FieldType.int) ∈ z_tb := z_tb_in (i := 618) (by decide +kernel) rfl
theorem q621 : Cond.instanceMethod yX1_stepForward ∈ z_tb := z_tb_in (i := 621) (by decide +kernel) rfl
theorem q622 : Cond.code yX1_stepForward cX1_stepForward 1 (some FieldType.boolean) ∈ z_tb := z_tb_in (i := 622) (by decide +kernel) rfl
theorem q623 : Cond.methodLink RL 102 yX7_harmonic ∈ z_tb := z_tb_in (i := 623) (by decide +kernel) rfl
theorem q624 : Cond.instanceMethod yX7_harmonic ∈ z_tb := z_tb_in (i := 624) (by decide +kernel) rfl
theorem q625 : Cond.selects RX7 yX7_harmonic yX7_harmonic ∈ z_tb := z_tb_in (i := 625) (by decide +kernel) rfl
theorem q626 : Cond.code yX7_harmonic cX7_harmonic 3 (some FieldType.long) ∈ z_tb := z_tb_in (i := 626) (by decide +kernel) rfl
theorem q627 : Cond.methodLink RL 107 yX7_strength ∈ z_tb := z_tb_in (i := 627) (by decide +kernel) rfl
theorem q628 : Cond.instanceMethod yX7_strength ∈ z_tb := z_tb_in (i := 628) (by decide +kernel) rfl
theorem q629 : Cond.selects RX7 yX7_strength yX7_strength ∈ z_tb := z_tb_in (i := 629) (by decide +kernel) rfl
theorem q630 : Cond.code yX7_strength cX7_strength 2 (some FieldType.long) ∈ z_tb := z_tb_in (i := 630) (by decide +kernel) rfl
theorem q631 : Cond.methodLink RX7 187 yX7_strengthOf ∈ z_tb := z_tb_in (i := 631) (by decide +kernel) rfl
theorem q632 : Cond.static yX7_strengthOf ∈ z_tb := z_tb_in (i := 632) (by decide +kernel) rfl
theorem q633 : Cond.code yX7_strengthOf cX7_strengthOf 2 (some FieldType.long) ∈ z_tb := z_tb_in (i := 633) (by decide +kernel) rfl
theorem q634 : Cond.methodLink RL 111 yX7_dominant ∈ z_tb := z_tb_in (i := 634) (by decide +kernel) rfl
theorem q635 : Cond.instanceMethod yX7_dominant ∈ z_tb := z_tb_in (i := 635) (by decide +kernel) rfl
theorem q636 : Cond.selects RX7 yX7_dominant yX7_dominant ∈ z_tb := z_tb_in (i := 636) (by decide +kernel) rfl
theorem q637 : Cond.code yX7_dominant cX7_dominant 9 (some FieldType.int) ∈ z_tb := z_tb_in (i := 637) (by decide +kernel) rfl
theorem q638 : Cond.methodLink RL 115 yX7_centre ∈ z_tb := z_tb_in (i := 638) (by decide +kernel) rfl
theorem q639 : Cond.instanceMethod yX7_centre ∈ z_tb := z_tb_in (i := 639) (by decide +kernel) rfl
theorem q640 : Cond.selects RX7 yX7_centre yX7_centre ∈ z_tb := z_tb_in (i := 640) (by decide +kernel) rfl
theorem q641 : Cond.code yX7_centre cX7_centre 4 (some FieldType.long) ∈ z_tb := z_tb_in (i := 641) (by decide +kernel) rfl
theorem q642 : Cond.methodLink RX7 191 yX7_isNoMethod ∈ z_tb := z_tb_in (i := 642) (by decide +kernel) rfl
theorem q643 : Cond.static yX7_isNoMethod ∈ z_tb := z_tb_in (i := 643) (by decide +kernel) rfl
theorem q644 : Cond.code yX7_isNoMethod cX7_isNoMethod 1 (some FieldType.boolean) ∈ z_tb := z_tb_in (i := 644) (by decide +kernel) rfl
theorem q645 : Cond.methodLink RX7 194 yX7_circleBy ∈ z_tb := z_tb_in (i := 645) (by decide +kernel) rfl
theorem q647 : Cond.instanceMethod yX7_circleBy ∈ z_tb := z_tb_in (i := 647) (by decide +kernel) rfl
theorem q648 : Cond.code yX7_circleBy cX7_circleBy 3 (some (FieldType.object "RoundnessInstrument$Circle")) ∈ z_tb := z_tb_in (i := 648) (by decide +kernel) rfl
theorem q651 : Cond.instanceMethod yX0_fit ∈ z_tb := z_tb_in (i := 651) (by decide +kernel) rfl
theorem q652 : Cond.code yX0_fit cX0_fit 3 none ∈ z_tb := z_tb_in (i := 652) (by decide +kernel) rfl
theorem q656 : Cond.methodLink RX0 56 yX0_search ∈ z_tb := z_tb_in (i := 656) (by decide +kernel) rfl
theorem q658 : Cond.instanceMethod yX0_search ∈ z_tb := z_tb_in (i := 658) (by decide +kernel) rfl
theorem q659 : Cond.code yX0_search cX0_search 12 none ∈ z_tb := z_tb_in (i := 659) (by decide +kernel) rfl
theorem q660 : Cond.methodLink RX0 59 yX0_measure ∈ z_tb := z_tb_in (i := 660) (by decide +kernel) rfl
theorem q662 : Cond.instanceMethod yX0_measure ∈ z_tb := z_tb_in (i := 662) (by decide +kernel) rfl
theorem q663 : Cond.code yX0_measure cX0_measure 4 none ∈ z_tb := z_tb_in (i := 663) (by decide +kernel) rfl
theorem q664 : Cond.constantLong RX0 89 (-9223372036854775808) ∈ z_tb := z_tb_in (i := 664) (by decide +kernel) rfl
theorem q665 : Cond.constantLong RX0 91 (9223372036854775807) ∈ z_tb := z_tb_in (i := 665) (by decide +kernel) rfl
theorem q667 : Cond.methodLink RX0 106 yJ9_max_f86c9 ∈ z_tb := z_tb_in (i := 667) (by decide +kernel) rfl
theorem q668 : Cond.methodLink RX0 109 yJ9_min_f86c9 ∈ z_tb := z_tb_in (i := 668) (by decide +kernel) rfl
theorem q669 : Cond.static yJ9_min_f86c9 ∈ z_tb := z_tb_in (i := 669) (by decide +kernel) rfl
theorem q670 : Cond.code yJ9_min_f86c9 cJ9_min_f86c9 4 (some FieldType.long) ∈ z_tb := z_tb_in (i := 670) (by decide +kernel) rfl
theorem q671 : Cond.methodLink RX0 62 yX0_valueOf ∈ z_tb := z_tb_in (i := 671) (by decide +kernel) rfl
theorem q673 : Cond.instanceMethod yX0_valueOf ∈ z_tb := z_tb_in (i := 673) (by decide +kernel) rfl
theorem q674 : Cond.code yX0_valueOf cX0_valueOf 5 (some FieldType.long) ∈ z_tb := z_tb_in (i := 674) (by decide +kernel) rfl
theorem q675 : Cond.constantLong RX0 66 (1073741824) ∈ z_tb := z_tb_in (i := 675) (by decide +kernel) rfl
theorem q676 : Cond.constantLong RX0 68 (1099511627776) ∈ z_tb := z_tb_in (i := 676) (by decide +kernel) rfl
theorem q677 : Cond.constantLong RX0 70 (16) ∈ z_tb := z_tb_in (i := 677) (by decide +kernel) rfl
theorem q678 : Cond.methodLink RX0 72 yX0_pickNear ∈ z_tb := z_tb_in (i := 678) (by decide +kernel) rfl
theorem q680 : Cond.instanceMethod yX0_pickNear ∈ z_tb := z_tb_in (i := 680) (by decide +kernel) rfl
theorem q681 : Cond.code yX0_pickNear cX0_pickNear 6 none ∈ z_tb := z_tb_in (i := 681) (by decide +kernel) rfl
theorem q682 : Cond.constantLong RX0 85 (2) ∈ z_tb := z_tb_in (i := 682) (by decide +kernel) rfl
theorem q683 : Cond.fieldLink RX0 76 "RoundnessInstrument$Circle" "TO_X" "[I" ∈ z_tb := z_tb_in (i := 683) (by decide +kernel) rfl
theorem q685 : Cond.fieldLink RX0 79 "RoundnessInstrument$Circle" "TO_Y" "[I" ∈ z_tb := z_tb_in (i := 685) (by decide +kernel) rfl
theorem q687 : Cond.methodLink RX0 82 yX0_valueAt ∈ z_tb := z_tb_in (i := 687) (by decide +kernel) rfl
theorem q689 : Cond.instanceMethod yX0_valueAt ∈ z_tb := z_tb_in (i := 689) (by decide +kernel) rfl
theorem q690 : Cond.code yX0_valueAt cX0_valueAt 13 (some FieldType.long) ∈ z_tb := z_tb_in (i := 690) (by decide +kernel) rfl
theorem q693 : Cond.constantLong RX0 99 (1000000) ∈ z_tb := z_tb_in (i := 693) (by decide +kernel) rfl
theorem q694 : Cond.methodLink RX0 101 yJ9_floorDiv_f86c9 ∈ z_tb := z_tb_in (i := 694) (by decide +kernel) rfl
theorem q695 : Cond.methodLink RL 119 yX7_deviation ∈ z_tb := z_tb_in (i := 695) (by decide +kernel) rfl
theorem q696 : Cond.instanceMethod yX7_deviation ∈ z_tb := z_tb_in (i := 696) (by decide +kernel) rfl
theorem q697 : Cond.selects RX7 yX7_deviation yX7_deviation ∈ z_tb := z_tb_in (i := 697) (by decide +kernel) rfl
theorem q698 : Cond.code yX7_deviation cX7_deviation 3 (some FieldType.long) ∈ z_tb := z_tb_in (i := 698) (by decide +kernel) rfl
theorem q699 : Cond.methodLink RL 124 yX7_roundness ∈ z_tb := z_tb_in (i := 699) (by decide +kernel) rfl
theorem q700 : Cond.instanceMethod yX7_roundness ∈ z_tb := z_tb_in (i := 700) (by decide +kernel) rfl
theorem q701 : Cond.selects RX7 yX7_roundness yX7_roundness ∈ z_tb := z_tb_in (i := 701) (by decide +kernel) rfl
theorem q702 : Cond.code yX7_roundness cX7_roundness 2 (some FieldType.double) ∈ z_tb := z_tb_in (i := 702) (by decide +kernel) rfl
theorem q703 : Cond.constantDouble RX7 208 (13830554455654793216) ∈ z_tb := z_tb_in (i := 703) (by decide +kernel) rfl
theorem q706 : Cond.instanceMethod yX0_width ∈ z_tb := z_tb_in (i := 706) (by decide +kernel) rfl
theorem q707 : Cond.code yX0_width cX0_width 1 (some FieldType.long) ∈ z_tb := z_tb_in (i := 707) (by decide +kernel) rfl
theorem q708 : Cond.constantDouble RX7 213 (4696837146684686336) ∈ z_tb := z_tb_in (i := 708) (by decide +kernel) rfl
theorem q709 : Cond.methodLink RL 129 yX7_extreme ∈ z_tb := z_tb_in (i := 709) (by decide +kernel) rfl
theorem q710 : Cond.instanceMethod yX7_extreme ∈ z_tb := z_tb_in (i := 710) (by decide +kernel) rfl
theorem q711 : Cond.selects RX7 yX7_extreme yX7_extreme ∈ z_tb := z_tb_in (i := 711) (by decide +kernel) rfl
theorem q712 : Cond.code yX7_extreme cX7_extreme 4 (some FieldType.int) ∈ z_tb := z_tb_in (i := 712) (by decide +kernel) rfl
theorem q715 : Cond.instanceMethod yX0_firstWith ∈ z_tb := z_tb_in (i := 715) (by decide +kernel) rfl
theorem q716 : Cond.code yX0_firstWith cX0_firstWith 4 (some FieldType.int) ∈ z_tb := z_tb_in (i := 716) (by decide +kernel) rfl
theorem q717 : Cond.methodLink RL 134 yX7_meanSquare ∈ z_tb := z_tb_in (i := 717) (by decide +kernel) rfl
theorem q718 : Cond.instanceMethod yX7_meanSquare ∈ z_tb := z_tb_in (i := 718) (by decide +kernel) rfl
theorem q719 : Cond.selects RX7 yX7_meanSquare yX7_meanSquare ∈ z_tb := z_tb_in (i := 719) (by decide +kernel) rfl
theorem q720 : Cond.code yX7_meanSquare cX7_meanSquare 7 (some FieldType.float) ∈ z_tb := z_tb_in (i := 720) (by decide +kernel) rfl
theorem q721 : Cond.constantDouble RX7 225 (4627448617123184640) ∈ z_tb := z_tb_in (i := 721) (by decide +kernel) rfl
theorem q722 : Cond.methodLink RL 141 yX7_materialAt ∈ z_tb := z_tb_in (i := 722) (by decide +kernel) rfl
theorem q723 : Cond.instanceMethod yX7_materialAt ∈ z_tb := z_tb_in (i := 723) (by decide +kernel) rfl
theorem q724 : Cond.selects RX7 yX7_materialAt yX7_materialAt ∈ z_tb := z_tb_in (i := 724) (by decide +kernel) rfl
theorem q725 : Cond.code yX7_materialAt cX7_materialAt 4 (some FieldType.int) ∈ z_tb := z_tb_in (i := 725) (by decide +kernel) rfl
theorem q728 : Cond.instanceMethod yX0_countDownTo ∈ z_tb := z_tb_in (i := 728) (by decide +kernel) rfl
theorem q729 : Cond.code yX0_countDownTo cX0_countDownTo 5 (some FieldType.int) ∈ z_tb := z_tb_in (i := 729) (by decide +kernel) rfl
theorem q730 : Cond.methodLink RL 146 yX7_depthFor ∈ z_tb := z_tb_in (i := 730) (by decide +kernel) rfl
theorem q731 : Cond.instanceMethod yX7_depthFor ∈ z_tb := z_tb_in (i := 731) (by decide +kernel) rfl
theorem q732 : Cond.selects RX7 yX7_depthFor yX7_depthFor ∈ z_tb := z_tb_in (i := 732) (by decide +kernel) rfl
theorem q733 : Cond.code yX7_depthFor cX7_depthFor 3 (some FieldType.long) ∈ z_tb := z_tb_in (i := 733) (by decide +kernel) rfl
theorem q736 : Cond.instanceMethod yX0_leastDepth ∈ z_tb := z_tb_in (i := 736) (by decide +kernel) rfl
theorem q737 : Cond.code yX0_leastDepth cX0_leastDepth 7 (some FieldType.long) ∈ z_tb := z_tb_in (i := 737) (by decide +kernel) rfl
theorem q738 : Cond.methodLink RX0 116 yX0_width ∈ z_tb := z_tb_in (i := 738) (by decide +kernel) rfl
theorem q739 : Cond.methodLink RX0 120 yX0_countDownTo ∈ z_tb := z_tb_in (i := 739) (by decide +kernel) rfl
theorem q740 : Cond.methodLink RL 150 yX7_storeTrace ∈ z_tb := z_tb_in (i := 740) (by decide +kernel) rfl
theorem q741 : Cond.instanceMethod yX7_storeTrace ∈ z_tb := z_tb_in (i := 741) (by decide +kernel) rfl
theorem q742 : Cond.selects RX7 yX7_storeTrace yX7_storeTrace ∈ z_tb := z_tb_in (i := 742) (by decide +kernel) rfl
theorem q743 : Cond.code yX7_storeTrace cX7_storeTrace 2 (some FieldType.int) ∈ z_tb := z_tb_in (i := 743) (by decide +kernel) rfl
theorem q746 : Cond.instanceMethod yX6_hasHeight ∈ z_tb := z_tb_in (i := 746) (by decide +kernel) rfl
theorem q747 : Cond.code yX6_hasHeight cX6_hasHeight 3 (some FieldType.boolean) ∈ z_tb := z_tb_in (i := 747) (by decide +kernel) rfl
theorem q748 : Cond.constant RX7 237 (-1000004) ∈ z_tb := z_tb_in (i := 748) (by decide +kernel) rfl
theorem q751 : Cond.instanceMethod yX6_append ∈ z_tb := z_tb_in (i := 751) (by decide +kernel) rfl
theorem q752 : Cond.code yX6_append cX6_append 3 none ∈ z_tb := z_tb_in (i := 752) (by decide +kernel) rfl
theorem q755 : Cond.methodLink RL 154 yX7_removeTraces ∈ z_tb := z_tb_in (i := 755) (by decide +kernel) rfl
theorem q756 : Cond.instanceMethod yX7_removeTraces ∈ z_tb := z_tb_in (i := 756) (by decide +kernel) rfl
theorem q757 : Cond.selects RX7 yX7_removeTraces yX7_removeTraces ∈ z_tb := z_tb_in (i := 757) (by decide +kernel) rfl
theorem q758 : Cond.code yX7_removeTraces cX7_removeTraces 2 (some FieldType.int) ∈ z_tb := z_tb_in (i := 758) (by decide +kernel) rfl
theorem q759 : Cond.methodLink RL 158 yX7_recall ∈ z_tb := z_tb_in (i := 759) (by decide +kernel) rfl
theorem q760 : Cond.instanceMethod yX7_recall ∈ z_tb := z_tb_in (i := 760) (by decide +kernel) rfl
theorem q761 : Cond.selects RX7 yX7_recall yX7_recall ∈ z_tb := z_tb_in (i := 761) (by decide +kernel) rfl
theorem q762 : Cond.code yX7_recall cX7_recall 2 (some FieldType.int) ∈ z_tb := z_tb_in (i := 762) (by decide +kernel) rfl
theorem q765 : Cond.instanceMethod yX6_lacks ∈ z_tb := z_tb_in (i := 765) (by decide +kernel) rfl
theorem q766 : Cond.code yX6_lacks cX6_lacks 2 (some FieldType.boolean) ∈ z_tb := z_tb_in (i := 766) (by decide +kernel) rfl
theorem q769 : Cond.methodLink RL 162 yX7_traceValue ∈ z_tb := z_tb_in (i := 769) (by decide +kernel) rfl
theorem q770 : Cond.instanceMethod yX7_traceValue ∈ z_tb := z_tb_in (i := 770) (by decide +kernel) rfl
theorem q771 : Cond.selects RX7 yX7_traceValue yX7_traceValue ∈ z_tb := z_tb_in (i := 771) (by decide +kernel) rfl
theorem q772 : Cond.code yX7_traceValue cX7_traceValue 3 (some FieldType.long) ∈ z_tb := z_tb_in (i := 772) (by decide +kernel) rfl
theorem q773 : Cond.methodLink RL 166 yX7_axis ∈ z_tb := z_tb_in (i := 773) (by decide +kernel) rfl
theorem q774 : Cond.instanceMethod yX7_axis ∈ z_tb := z_tb_in (i := 774) (by decide +kernel) rfl
theorem q775 : Cond.selects RX7 yX7_axis yX7_axis ∈ z_tb := z_tb_in (i := 775) (by decide +kernel) rfl
theorem q776 : Cond.code yX7_axis cX7_axis 3 (some FieldType.long) ∈ z_tb := z_tb_in (i := 776) (by decide +kernel) rfl
theorem q779 : Cond.instanceMethod yX6_axisAt ∈ z_tb := z_tb_in (i := 779) (by decide +kernel) rfl
theorem q780 : Cond.code yX6_axisAt cX6_axisAt 15 (some FieldType.long) ∈ z_tb := z_tb_in (i := 780) (by decide +kernel) rfl
theorem q782 : Cond.methodLink RL 170 yX7_cylindricity ∈ z_tb := z_tb_in (i := 782) (by decide +kernel) rfl
theorem q783 : Cond.instanceMethod yX7_cylindricity ∈ z_tb := z_tb_in (i := 783) (by decide +kernel) rfl
theorem q784 : Cond.selects RX7 yX7_cylindricity yX7_cylindricity ∈ z_tb := z_tb_in (i := 784) (by decide +kernel) rfl
theorem q785 : Cond.code yX7_cylindricity cX7_cylindricity 1 (some FieldType.double) ∈ z_tb := z_tb_in (i := 785) (by decide +kernel) rfl
theorem q788 : Cond.instanceMethod yX6_cylinderWidth ∈ z_tb := z_tb_in (i := 788) (by decide +kernel) rfl
theorem q789 : Cond.code yX6_cylinderWidth cX6_cylinderWidth 13 (some FieldType.long) ∈ z_tb := z_tb_in (i := 789) (by decide +kernel) rfl
theorem q790 : Cond.constantLong RX6 54 (-9223372036854775808) ∈ z_tb := z_tb_in (i := 790) (by decide +kernel) rfl
theorem q791 : Cond.constantLong RX6 56 (9223372036854775807) ∈ z_tb := z_tb_in (i := 791) (by decide +kernel) rfl
theorem q792 : Cond.methodLink RX6 58 yX6_axisAt ∈ z_tb := z_tb_in (i := 792) (by decide +kernel) rfl
theorem q794 : Cond.methodLink RX6 66 yJ9_max_f86c9 ∈ z_tb := z_tb_in (i := 794) (by decide +kernel) rfl
theorem q795 : Cond.methodLink RX6 71 yJ9_min_f86c9 ∈ z_tb := z_tb_in (i := 795) (by decide +kernel) rfl
theorem q796 : Cond.methodLink RL 175 yX7_farthestTrace ∈ z_tb := z_tb_in (i := 796) (by decide +kernel) rfl
theorem q797 : Cond.instanceMethod yX7_farthestTrace ∈ z_tb := z_tb_in (i := 797) (by decide +kernel) rfl
theorem q798 : Cond.selects RX7 yX7_farthestTrace yX7_farthestTrace ∈ z_tb := z_tb_in (i := 798) (by decide +kernel) rfl
theorem q799 : Cond.code yX7_farthestTrace cX7_farthestTrace 1 (some FieldType.int) ∈ z_tb := z_tb_in (i := 799) (by decide +kernel) rfl
theorem q802 : Cond.instanceMethod yX6_farthest ∈ z_tb := z_tb_in (i := 802) (by decide +kernel) rfl
theorem q803 : Cond.code yX6_farthest cX6_farthest 7 (some FieldType.int) ∈ z_tb := z_tb_in (i := 803) (by decide +kernel) rfl
theorem q804 : Cond.methodLink RX6 78 yX6_distanceFromAxis ∈ z_tb := z_tb_in (i := 804) (by decide +kernel) rfl
theorem q806 : Cond.instanceMethod yX6_distanceFromAxis ∈ z_tb := z_tb_in (i := 806) (by decide +kernel) rfl
theorem q807 : Cond.code yX6_distanceFromAxis cX6_distanceFromAxis 3 (some FieldType.long) ∈ z_tb := z_tb_in (i := 807) (by decide +kernel) rfl
theorem q808 : Cond.methodLink RX6 74 yJ9_abs_067f4 ∈ z_tb := z_tb_in (i := 808) (by decide +kernel) rfl
theorem q809 : Cond.methodLink RL 179 yX7_taper ∈ z_tb := z_tb_in (i := 809) (by decide +kernel) rfl
theorem q810 : Cond.instanceMethod yX7_taper ∈ z_tb := z_tb_in (i := 810) (by decide +kernel) rfl
theorem q811 : Cond.selects RX7 yX7_taper yX7_taper ∈ z_tb := z_tb_in (i := 811) (by decide +kernel) rfl
theorem q812 : Cond.code yX7_taper cX7_taper 1 (some FieldType.long) ∈ z_tb := z_tb_in (i := 812) (by decide +kernel) rfl
theorem q815 : Cond.instanceMethod yX6_spreadOfMeans ∈ z_tb := z_tb_in (i := 815) (by decide +kernel) rfl
theorem q816 : Cond.code yX6_spreadOfMeans cX6_spreadOfMeans 6 (some FieldType.long) ∈ z_tb := z_tb_in (i := 816) (by decide +kernel) rfl
theorem q817 : Cond.methodLink RL 183 yX7_difference ∈ z_tb := z_tb_in (i := 817) (by decide +kernel) rfl
theorem q818 : Cond.instanceMethod yX7_difference ∈ z_tb := z_tb_in (i := 818) (by decide +kernel) rfl
theorem q819 : Cond.selects RX7 yX7_difference yX7_difference ∈ z_tb := z_tb_in (i := 819) (by decide +kernel) rfl
theorem q820 : Cond.code yX7_difference cX7_difference 4 (some FieldType.long) ∈ z_tb := z_tb_in (i := 820) (by decide +kernel) rfl
theorem q823 : Cond.instanceMethod yX6_mismatch ∈ z_tb := z_tb_in (i := 823) (by decide +kernel) rfl
theorem q824 : Cond.code yX6_mismatch cX6_mismatch 7 (some FieldType.long) ∈ z_tb := z_tb_in (i := 824) (by decide +kernel) rfl
theorem q826 : Cond.methodLink RL 188 yX7_bestRotation ∈ z_tb := z_tb_in (i := 826) (by decide +kernel) rfl
theorem q827 : Cond.instanceMethod yX7_bestRotation ∈ z_tb := z_tb_in (i := 827) (by decide +kernel) rfl
theorem q828 : Cond.selects RX7 yX7_bestRotation yX7_bestRotation ∈ z_tb := z_tb_in (i := 828) (by decide +kernel) rfl
theorem q829 : Cond.code yX7_bestRotation cX7_bestRotation 3 (some FieldType.int) ∈ z_tb := z_tb_in (i := 829) (by decide +kernel) rfl
theorem q832 : Cond.instanceMethod yX6_bestMatch ∈ z_tb := z_tb_in (i := 832) (by decide +kernel) rfl
theorem q833 : Cond.code yX6_bestMatch cX6_bestMatch 9 (some FieldType.int) ∈ z_tb := z_tb_in (i := 833) (by decide +kernel) rfl
theorem q834 : Cond.methodLink RX6 86 yX6_mismatch ∈ z_tb := z_tb_in (i := 834) (by decide +kernel) rfl
theorem q835 : Cond.methodLink RL 192 yX7_addRule ∈ z_tb := z_tb_in (i := 835) (by decide +kernel) rfl
theorem q836 : Cond.instanceMethod yX7_addRule ∈ z_tb := z_tb_in (i := 836) (by decide +kernel) rfl
theorem q837 : Cond.selects RX7 yX7_addRule yX7_addRule ∈ z_tb := z_tb_in (i := 837) (by decide +kernel) rfl
theorem q838 : Cond.code yX7_addRule cX7_addRule 5 (some FieldType.int) ∈ z_tb := z_tb_in (i := 838) (by decide +kernel) rfl
theorem q841 : Cond.instanceMethod yX3_append ∈ z_tb := z_tb_in (i := 841) (by decide +kernel) rfl
theorem q842 : Cond.code yX3_append cX3_append 5 none ∈ z_tb := z_tb_in (i := 842) (by decide +kernel) rfl
theorem q843 : Cond.methodLink RL 197 yX7_clearRules ∈ z_tb := z_tb_in (i := 843) (by decide +kernel) rfl
theorem q844 : Cond.instanceMethod yX7_clearRules ∈ z_tb := z_tb_in (i := 844) (by decide +kernel) rfl
theorem q845 : Cond.selects RX7 yX7_clearRules yX7_clearRules ∈ z_tb := z_tb_in (i := 845) (by decide +kernel) rfl
theorem q846 : Cond.code yX7_clearRules cX7_clearRules 2 (some FieldType.int) ∈ z_tb := z_tb_in (i := 846) (by decide +kernel) rfl
theorem q847 : Cond.methodLink RL 201 yX7_ruleValue ∈ z_tb := z_tb_in (i := 847) (by decide +kernel) rfl
theorem q848 : Cond.instanceMethod yX7_ruleValue ∈ z_tb := z_tb_in (i := 848) (by decide +kernel) rfl
theorem q849 : Cond.selects RX7 yX7_ruleValue yX7_ruleValue ∈ z_tb := z_tb_in (i := 849) (by decide +kernel) rfl
theorem q850 : Cond.code yX7_ruleValue cX7_ruleValue 2 (some FieldType.long) ∈ z_tb := z_tb_in (i := 850) (by decide +kernel) rfl
theorem q851 : Cond.methodLink RX7 291 yX7_valueOfRule ∈ z_tb := z_tb_in (i := 851) (by decide +kernel) rfl
theorem q853 : Cond.instanceMethod yX7_valueOfRule ∈ z_tb := z_tb_in (i := 853) (by decide +kernel) rfl
theorem q854 : Cond.code yX7_valueOfRule cX7_valueOfRule 3 (some FieldType.long) ∈ z_tb := z_tb_in (i := 854) (by decide +kernel) rfl
theorem q855 : Cond.methodLink RL 205 yX7_violated ∈ z_tb := z_tb_in (i := 855) (by decide +kernel) rfl
theorem q856 : Cond.instanceMethod yX7_violated ∈ z_tb := z_tb_in (i := 856) (by decide +kernel) rfl
theorem q857 : Cond.selects RX7 yX7_violated yX7_violated ∈ z_tb := z_tb_in (i := 857) (by decide +kernel) rfl
theorem q858 : Cond.code yX7_violated cX7_violated 3 (some FieldType.int) ∈ z_tb := z_tb_in (i := 858) (by decide +kernel) rfl
theorem q859 : Cond.methodLink RL 209 yX7_type ∈ z_tb := z_tb_in (i := 859) (by decide +kernel) rfl
theorem q860 : Cond.instanceMethod yX7_type ∈ z_tb := z_tb_in (i := 860) (by decide +kernel) rfl
theorem q861 : Cond.selects RX7 yX7_type yX7_type ∈ z_tb := z_tb_in (i := 861) (by decide +kernel) rfl
theorem q862 : Cond.code yX7_type cX7_type 2 (some FieldType.int) ∈ z_tb := z_tb_in (i := 862) (by decide +kernel) rfl
theorem q865 : Cond.instanceMethod yX4_append ∈ z_tb := z_tb_in (i := 865) (by decide +kernel) rfl
theorem q866 : Cond.code yX4_append cX4_append 2 none ∈ z_tb := z_tb_in (i := 866) (by decide +kernel) rfl
theorem q867 : Cond.methodLink RL 214 yX7_clearText ∈ z_tb := z_tb_in (i := 867) (by decide +kernel) rfl
theorem q868 : Cond.instanceMethod yX7_clearText ∈ z_tb := z_tb_in (i := 868) (by decide +kernel) rfl
theorem q869 : Cond.selects RX7 yX7_clearText yX7_clearText ∈ z_tb := z_tb_in (i := 869) (by decide +kernel) rfl
theorem q870 : Cond.code yX7_clearText cX7_clearText 2 (some FieldType.int) ∈ z_tb := z_tb_in (i := 870) (by decide +kernel) rfl
theorem q871 : Cond.methodLink RL 218 yX7_readText ∈ z_tb := z_tb_in (i := 871) (by decide +kernel) rfl
theorem q872 : Cond.instanceMethod yX7_readText ∈ z_tb := z_tb_in (i := 872) (by decide +kernel) rfl
theorem q873 : Cond.selects RX7 yX7_readText yX7_readText ∈ z_tb := z_tb_in (i := 873) (by decide +kernel) rfl
theorem q874 : Cond.code yX7_readText cX7_readText 2 (some FieldType.int) ∈ z_tb := z_tb_in (i := 874) (by decide +kernel) rfl
theorem q877 : Cond.instanceMethod yX4_parse ∈ z_tb := z_tb_in (i := 877) (by decide +kernel) rfl
theorem q878 : Cond.code yX4_parse cX4_parse 2 (some FieldType.boolean) ∈ z_tb := z_tb_in (i := 878) (by decide +kernel) rfl
theorem q879 : Cond.methodLink RX4 44 yX4_parseItem ∈ z_tb := z_tb_in (i := 879) (by decide +kernel) rfl
theorem q881 : Cond.instanceMethod yX4_parseItem ∈ z_tb := z_tb_in (i := 881) (by decide +kernel) rfl
theorem q882 : Cond.code yX4_parseItem cX4_parseItem 2 (some FieldType.boolean) ∈ z_tb := z_tb_in (i := 882) (by decide +kernel) rfl
theorem q883 : Cond.methodLink RX4 56 yX4_current ∈ z_tb := z_tb_in (i := 883) (by decide +kernel) rfl
theorem q885 : Cond.instanceMethod yX4_current ∈ z_tb := z_tb_in (i := 885) (by decide +kernel) rfl
theorem q886 : Cond.code yX4_current cX4_current 1 (some FieldType.int) ∈ z_tb := z_tb_in (i := 886) (by decide +kernel) rfl
theorem q887 : Cond.methodLink RX4 60 yX4_parseLobes ∈ z_tb := z_tb_in (i := 887) (by decide +kernel) rfl
theorem q889 : Cond.instanceMethod yX4_parseLobes ∈ z_tb := z_tb_in (i := 889) (by decide +kernel) rfl
theorem q890 : Cond.code yX4_parseLobes cX4_parseLobes 5 (some FieldType.boolean) ∈ z_tb := z_tb_in (i := 890) (by decide +kernel) rfl
theorem q891 : Cond.methodLink RX4 69 yX4_takeNumber ∈ z_tb := z_tb_in (i := 891) (by decide +kernel) rfl
theorem q893 : Cond.instanceMethod yX4_takeNumber ∈ z_tb := z_tb_in (i := 893) (by decide +kernel) rfl
theorem q894 : Cond.code yX4_takeNumber cX4_takeNumber 7 (some FieldType.boolean) ∈ z_tb := z_tb_in (i := 894) (by decide +kernel) rfl
theorem q895 : Cond.methodLink RX4 80 yX4_isAtDigit ∈ z_tb := z_tb_in (i := 895) (by decide +kernel) rfl
theorem q897 : Cond.instanceMethod yX4_isAtDigit ∈ z_tb := z_tb_in (i := 897) (by decide +kernel) rfl
theorem q898 : Cond.code yX4_isAtDigit cX4_isAtDigit 1 (some FieldType.boolean) ∈ z_tb := z_tb_in (i := 898) (by decide +kernel) rfl
theorem q900 : Cond.methodLink RX4 52 yX4_fail ∈ z_tb := z_tb_in (i := 900) (by decide +kernel) rfl
theorem q902 : Cond.instanceMethod yX4_fail ∈ z_tb := z_tb_in (i := 902) (by decide +kernel) rfl
theorem q903 : Cond.code yX4_fail cX4_fail 2 (some FieldType.boolean) ∈ z_tb := z_tb_in (i := 903) (by decide +kernel) rfl
theorem q904 : Cond.methodLink RX4 48 yX4_take ∈ z_tb := z_tb_in (i := 904) (by decide +kernel) rfl
theorem q906 : Cond.instanceMethod yX4_take ∈ z_tb := z_tb_in (i := 906) (by decide +kernel) rfl
theorem q907 : Cond.code yX4_take cX4_take 2 (some FieldType.boolean) ∈ z_tb := z_tb_in (i := 907) (by decide +kernel) rfl
theorem q908 : Cond.methodLink RX4 73 yX4_note ∈ z_tb := z_tb_in (i := 908) (by decide +kernel) rfl
theorem q910 : Cond.instanceMethod yX4_note ∈ z_tb := z_tb_in (i := 910) (by decide +kernel) rfl
theorem q911 : Cond.code yX4_note cX4_note 5 none ∈ z_tb := z_tb_in (i := 911) (by decide +kernel) rfl
theorem q912 : Cond.methodLink RX4 63 yX4_parseEccentricity ∈ z_tb := z_tb_in (i := 912) (by decide +kernel) rfl
theorem q914 : Cond.instanceMethod yX4_parseEccentricity ∈ z_tb := z_tb_in (i := 914) (by decide +kernel) rfl
theorem q915 : Cond.code yX4_parseEccentricity cX4_parseEccentricity 2 (some FieldType.boolean) ∈ z_tb := z_tb_in (i := 915) (by decide +kernel) rfl
theorem q916 : Cond.methodLink RX4 66 yX4_parseSteps ∈ z_tb := z_tb_in (i := 916) (by decide +kernel) rfl
theorem q918 : Cond.instanceMethod yX4_parseSteps ∈ z_tb := z_tb_in (i := 918) (by decide +kernel) rfl
theorem q919 : Cond.code yX4_parseSteps cX4_parseSteps 2 (some FieldType.boolean) ∈ z_tb := z_tb_in (i := 919) (by decide +kernel) rfl
theorem q923 : Cond.instanceMethod yX5_reset ∈ z_tb := z_tb_in (i := 923) (by decide +kernel) rfl
theorem q924 : Cond.code yX5_reset cX5_reset 2 none ∈ z_tb := z_tb_in (i := 924) (by decide +kernel) rfl
theorem q925 : Cond.methodLink RX5 25 yX5_shiftTo ∈ z_tb := z_tb_in (i := 925) (by decide +kernel) rfl
theorem q927 : Cond.instanceMethod yX5_shiftTo ∈ z_tb := z_tb_in (i := 927) (by decide +kernel) rfl
theorem q928 : Cond.code yX5_shiftTo cX5_shiftTo 4 (some FieldType.boolean) ∈ z_tb := z_tb_in (i := 928) (by decide +kernel) rfl
theorem q929 : Cond.methodLink RX7 317 yX7_obey ∈ z_tb := z_tb_in (i := 929) (by decide +kernel) rfl
theorem q931 : Cond.instanceMethod yX7_obey ∈ z_tb := z_tb_in (i := 931) (by decide +kernel) rfl
theorem q932 : Cond.code yX7_obey cX7_obey 4 none ∈ z_tb := z_tb_in (i := 932) (by decide +kernel) rfl
theorem q936 : Cond.instanceMethod yX5_superpose ∈ z_tb := z_tb_in (i := 936) (by decide +kernel) rfl
theorem q937 : Cond.code yX5_superpose cX5_superpose 11 (some FieldType.boolean) ∈ z_tb := z_tb_in (i := 937) (by decide +kernel) rfl
theorem q938 : Cond.methodLink RX5 29 yX5_profileOf ∈ z_tb := z_tb_in (i := 938) (by decide +kernel) rfl
theorem q940 : Cond.constantLong RX5 37 (1000000) ∈ z_tb := z_tb_in (i := 940) (by decide +kernel) rfl
theorem q941 : Cond.methodLink RX5 39 yJ9_floorDiv_f86c9 ∈ z_tb := z_tb_in (i := 941) (by decide +kernel) rfl
theorem q942 : Cond.methodLink RL 222 yX7_setTrue ∈ z_tb := z_tb_in (i := 942) (by decide +kernel) rfl
theorem q943 : Cond.instanceMethod yX7_setTrue ∈ z_tb := z_tb_in (i := 943) (by decide +kernel) rfl
theorem q944 : Cond.selects RX7 yX7_setTrue yX7_setTrue ∈ z_tb := z_tb_in (i := 944) (by decide +kernel) rfl
theorem q945 : Cond.code yX7_setTrue cX7_setTrue 6 (some FieldType.int) ∈ z_tb := z_tb_in (i := 945) (by decide +kernel) rfl
theorem q946 : Cond.methodLink RL 227 yX7_addLobes ∈ z_tb := z_tb_in (i := 946) (by decide +kernel) rfl
theorem q947 : Cond.instanceMethod yX7_addLobes ∈ z_tb := z_tb_in (i := 947) (by decide +kernel) rfl
theorem q948 : Cond.selects RX7 yX7_addLobes yX7_addLobes ∈ z_tb := z_tb_in (i := 948) (by decide +kernel) rfl
theorem q949 : Cond.code yX7_addLobes cX7_addLobes 5 (some FieldType.int) ∈ z_tb := z_tb_in (i := 949) (by decide +kernel) rfl
theorem q950 : Cond.methodLink RL 232 yX7_setEccentricity ∈ z_tb := z_tb_in (i := 950) (by decide +kernel) rfl
theorem q951 : Cond.instanceMethod yX7_setEccentricity ∈ z_tb := z_tb_in (i := 951) (by decide +kernel) rfl
theorem q952 : Cond.selects RX7 yX7_setEccentricity yX7_setEccentricity ∈ z_tb := z_tb_in (i := 952) (by decide +kernel) rfl
theorem q953 : Cond.code yX7_setEccentricity cX7_setEccentricity 3 (some FieldType.int) ∈ z_tb := z_tb_in (i := 953) (by decide +kernel) rfl
theorem q954 : Cond.classLink RL 10 RX8 ∈ z_tb := z_tb_in (i := 954) (by decide +kernel) rfl
theorem q955 : Cond.instantiable RX8 30 ∈ z_tb := z_tb_in (i := 955) (by decide +kernel) rfl
theorem q956 : Cond.methodLink RL 12 yX8_init ∈ z_tb := z_tb_in (i := 956) (by decide +kernel) rfl
theorem q957 : Cond.instanceMethod yX8_init ∈ z_tb := z_tb_in (i := 957) (by decide +kernel) rfl
theorem q958 : Cond.code yX8_init cX8_init 1 none ∈ z_tb := z_tb_in (i := 958) (by decide +kernel) rfl
theorem q960 : Cond.constant RX8 7 (1000000) ∈ z_tb := z_tb_in (i := 960) (by decide +kernel) rfl
theorem q961 : Cond.constant RX8 8 (965926) ∈ z_tb := z_tb_in (i := 961) (by decide +kernel) rfl
theorem q962 : Cond.constant RX8 9 (866025) ∈ z_tb := z_tb_in (i := 962) (by decide +kernel) rfl
theorem q963 : Cond.constant RX8 10 (707107) ∈ z_tb := z_tb_in (i := 963) (by decide +kernel) rfl
theorem q964 : Cond.constant RX8 11 (500000) ∈ z_tb := z_tb_in (i := 964) (by decide +kernel) rfl
theorem q965 : Cond.constant RX8 12 (258819) ∈ z_tb := z_tb_in (i := 965) (by decide +kernel) rfl
theorem q966 : Cond.fieldLink RX8 13 "RoundnessInstrumentModel" "quarter" "[I" ∈ z_tb := z_tb_in (i := 966) (by decide +kernel) rfl
theorem q967 : Cond.fieldLink RX8 60 "RoundnessInstrumentModel" "steps" "I" ∈ z_tb := z_tb_in (i := 967) (by decide +kernel) rfl
theorem q968 : Cond.fieldLink RX8 80 "RoundnessInstrumentModel" "readings" "I" ∈ z_tb := z_tb_in (i := 968) (by decide +kernel) rfl
theorem q969 : Cond.fieldLink RX8 19 "RoundnessInstrumentModel" "readingOf" "[I" ∈ z_tb := z_tb_in (i := 969) (by decide +kernel) rfl
theorem q970 : Cond.fieldLink RX8 22 "RoundnessInstrumentModel" "now" "[J" ∈ z_tb := z_tb_in (i := 970) (by decide +kernel) rfl
theorem q971 : Cond.fieldLink RX8 26 "RoundnessInstrumentModel" "aside" "[J" ∈ z_tb := z_tb_in (i := 971) (by decide +kernel) rfl
theorem q972 : Cond.fieldLink RX8 29 "RoundnessInstrumentModel" "undone" "[J" ∈ z_tb := z_tb_in (i := 972) (by decide +kernel) rfl
theorem q973 : Cond.fieldLink RX8 32 "RoundnessInstrumentModel" "redone" "[J" ∈ z_tb := z_tb_in (i := 973) (by decide +kernel) rfl
theorem q974 : Cond.fieldLink RX8 139 "RoundnessInstrumentModel" "undoMany" "I" ∈ z_tb := z_tb_in (i := 974) (by decide +kernel) rfl
theorem q975 : Cond.fieldLink RX8 142 "RoundnessInstrumentModel" "redoMany" "I" ∈ z_tb := z_tb_in (i := 975) (by decide +kernel) rfl
theorem q976 : Cond.fieldLink RX8 214 "RoundnessInstrumentModel" "centreX" "J" ∈ z_tb := z_tb_in (i := 976) (by decide +kernel) rfl
theorem q977 : Cond.fieldLink RX8 217 "RoundnessInstrumentModel" "centreY" "J" ∈ z_tb := z_tb_in (i := 977) (by decide +kernel) rfl
theorem q978 : Cond.fieldLink RX8 203 "RoundnessInstrumentModel" "most" "J" ∈ z_tb := z_tb_in (i := 978) (by decide +kernel) rfl
theorem q979 : Cond.fieldLink RX8 207 "RoundnessInstrumentModel" "least" "J" ∈ z_tb := z_tb_in (i := 979) (by decide +kernel) rfl
theorem q980 : Cond.fieldLink RX8 35 "RoundnessInstrumentModel" "aheadX" "[I" ∈ z_tb := z_tb_in (i := 980) (by decide +kernel) rfl
theorem q981 : Cond.fieldLink RX8 38 "RoundnessInstrumentModel" "aheadY" "[I" ∈ z_tb := z_tb_in (i := 981) (by decide +kernel) rfl
theorem q982 : Cond.fieldLink RX8 41 "RoundnessInstrumentModel" "offNow" "[J" ∈ z_tb := z_tb_in (i := 982) (by decide +kernel) rfl
theorem q983 : Cond.fieldLink RX8 261 "RoundnessInstrumentModel" "traces" "I" ∈ z_tb := z_tb_in (i := 983) (by decide +kernel) rfl
theorem q984 : Cond.fieldLink RX8 44 "RoundnessInstrumentModel" "traceOf" "[J" ∈ z_tb := z_tb_in (i := 984) (by decide +kernel) rfl
theorem q985 : Cond.fieldLink RX8 47 "RoundnessInstrumentModel" "heightOf" "[I" ∈ z_tb := z_tb_in (i := 985) (by decide +kernel) rfl
theorem q986 : Cond.fieldLink RX8 284 "RoundnessInstrumentModel" "rules" "I" ∈ z_tb := z_tb_in (i := 986) (by decide +kernel) rfl
theorem q987 : Cond.fieldLink RX8 50 "RoundnessInstrumentModel" "ruleOf" "[I" ∈ z_tb := z_tb_in (i := 987) (by decide +kernel) rfl
theorem q988 : Cond.fieldLink RX8 290 "RoundnessInstrumentModel" "typed" "I" ∈ z_tb := z_tb_in (i := 988) (by decide +kernel) rfl
theorem q989 : Cond.fieldLink RX8 53 "RoundnessInstrumentModel" "text" "[C" ∈ z_tb := z_tb_in (i := 989) (by decide +kernel) rfl
theorem q990 : Cond.fieldLink RX8 293 "RoundnessInstrumentModel" "place" "I" ∈ z_tb := z_tb_in (i := 990) (by decide +kernel) rfl
theorem q991 : Cond.fieldLink RX8 296 "RoundnessInstrumentModel" "fault" "I" ∈ z_tb := z_tb_in (i := 991) (by decide +kernel) rfl
theorem q992 : Cond.fieldLink RX8 317 "RoundnessInstrumentModel" "isDone" "Z" ∈ z_tb := z_tb_in (i := 992) (by decide +kernel) rfl
theorem q993 : Cond.fieldLink RX8 57 "RoundnessInstrumentModel" "truth" "[I" ∈ z_tb := z_tb_in (i := 993) (by decide +kernel) rfl
theorem q994 : Cond.fieldLink RX8 344 "RoundnessInstrumentModel" "eccentricX" "I" ∈ z_tb := z_tb_in (i := 994) (by decide +kernel) rfl
theorem q995 : Cond.fieldLink RX8 347 "RoundnessInstrumentModel" "eccentricY" "I" ∈ z_tb := z_tb_in (i := 995) (by decide +kernel) rfl
theorem q1057 : Cond.methodLink RL 17 yX8_setSteps ∈ z_tb := z_tb_in (i := 1057) (by decide +kernel) rfl
theorem q1058 : Cond.instanceMethod yX8_setSteps ∈ z_tb := z_tb_in (i := 1058) (by decide +kernel) rfl
theorem q1059 : Cond.selects RX8 yX8_setSteps yX8_setSteps ∈ z_tb := z_tb_in (i := 1059) (by decide +kernel) rfl
theorem q1060 : Cond.code yX8_setSteps cX8_setSteps 3 (some FieldType.int) ∈ z_tb := z_tb_in (i := 1060) (by decide +kernel) rfl
theorem q1061 : Cond.methodLink RX8 83 yX8_isSteps ∈ z_tb := z_tb_in (i := 1061) (by decide +kernel) rfl
theorem q1062 : Cond.static yX8_isSteps ∈ z_tb := z_tb_in (i := 1062) (by decide +kernel) rfl
theorem q1063 : Cond.code yX8_isSteps cX8_isSteps 1 (some FieldType.boolean) ∈ z_tb := z_tb_in (i := 1063) (by decide +kernel) rfl
theorem q1064 : Cond.constant RX8 87 (-1000001) ∈ z_tb := z_tb_in (i := 1064) (by decide +kernel) rfl
theorem q1065 : Cond.methodLink RL 21 yX8_read ∈ z_tb := z_tb_in (i := 1065) (by decide +kernel) rfl
theorem q1066 : Cond.instanceMethod yX8_read ∈ z_tb := z_tb_in (i := 1066) (by decide +kernel) rfl
theorem q1067 : Cond.selects RX8 yX8_read yX8_read ∈ z_tb := z_tb_in (i := 1067) (by decide +kernel) rfl
theorem q1068 : Cond.code yX8_read cX8_read 2 (some FieldType.int) ∈ z_tb := z_tb_in (i := 1068) (by decide +kernel) rfl
theorem q1069 : Cond.constantLong RX8 88 (-10000) ∈ z_tb := z_tb_in (i := 1069) (by decide +kernel) rfl
theorem q1070 : Cond.constantLong RX8 90 (10000) ∈ z_tb := z_tb_in (i := 1070) (by decide +kernel) rfl
theorem q1071 : Cond.methodLink RX8 68 yX8_in ∈ z_tb := z_tb_in (i := 1071) (by decide +kernel) rfl
theorem q1072 : Cond.static yX8_in ∈ z_tb := z_tb_in (i := 1072) (by decide +kernel) rfl
theorem q1073 : Cond.code yX8_in cX8_in 6 (some FieldType.boolean) ∈ z_tb := z_tb_in (i := 1073) (by decide +kernel) rfl
theorem q1074 : Cond.methodLink RX8 92 yX8_isComplete ∈ z_tb := z_tb_in (i := 1074) (by decide +kernel) rfl
theorem q1076 : Cond.instanceMethod yX8_isComplete ∈ z_tb := z_tb_in (i := 1076) (by decide +kernel) rfl
theorem q1077 : Cond.code yX8_isComplete cX8_isComplete 1 (some FieldType.boolean) ∈ z_tb := z_tb_in (i := 1077) (by decide +kernel) rfl
theorem q1078 : Cond.constant RX8 96 (-1000002) ∈ z_tb := z_tb_in (i := 1078) (by decide +kernel) rfl
theorem q1079 : Cond.methodLink RL 30 yX8_removeReadings ∈ z_tb := z_tb_in (i := 1079) (by decide +kernel) rfl
theorem q1080 : Cond.instanceMethod yX8_removeReadings ∈ z_tb := z_tb_in (i := 1080) (by decide +kernel) rfl
theorem q1081 : Cond.selects RX8 yX8_removeReadings yX8_removeReadings ∈ z_tb := z_tb_in (i := 1081) (by decide +kernel) rfl
theorem q1082 : Cond.code yX8_removeReadings cX8_removeReadings 2 (some FieldType.int) ∈ z_tb := z_tb_in (i := 1082) (by decide +kernel) rfl
theorem q1083 : Cond.methodLink RL 34 yX8_progress ∈ z_tb := z_tb_in (i := 1083) (by decide +kernel) rfl
theorem q1084 : Cond.instanceMethod yX8_progress ∈ z_tb := z_tb_in (i := 1084) (by decide +kernel) rfl
theorem q1085 : Cond.selects RX8 yX8_progress yX8_progress ∈ z_tb := z_tb_in (i := 1085) (by decide +kernel) rfl
theorem q1086 : Cond.code yX8_progress cX8_progress 2 (some FieldType.int) ∈ z_tb := z_tb_in (i := 1086) (by decide +kernel) rfl
theorem q1087 : Cond.constant RX8 97 (-1000003) ∈ z_tb := z_tb_in (i := 1087) (by decide +kernel) rfl
theorem q1088 : Cond.methodLink RL 39 yX8_reading ∈ z_tb := z_tb_in (i := 1088) (by decide +kernel) rfl
theorem q1089 : Cond.instanceMethod yX8_reading ∈ z_tb := z_tb_in (i := 1089) (by decide +kernel) rfl
theorem q1090 : Cond.selects RX8 yX8_reading yX8_reading ∈ z_tb := z_tb_in (i := 1090) (by decide +kernel) rfl
theorem q1091 : Cond.code yX8_reading cX8_reading 4 (some FieldType.int) ∈ z_tb := z_tb_in (i := 1091) (by decide +kernel) rfl
theorem q1092 : Cond.methodLink RX8 98 yX8_noStep ∈ z_tb := z_tb_in (i := 1092) (by decide +kernel) rfl
theorem q1094 : Cond.instanceMethod yX8_noStep ∈ z_tb := z_tb_in (i := 1094) (by decide +kernel) rfl
theorem q1095 : Cond.code yX8_noStep cX8_noStep 2 (some FieldType.boolean) ∈ z_tb := z_tb_in (i := 1095) (by decide +kernel) rfl
theorem q1096 : Cond.methodLink RX8 101 yX8_noPlace ∈ z_tb := z_tb_in (i := 1096) (by decide +kernel) rfl
theorem q1097 : Cond.static yX8_noPlace ∈ z_tb := z_tb_in (i := 1097) (by decide +kernel) rfl
theorem q1098 : Cond.code yX8_noPlace cX8_noPlace 1 (some FieldType.boolean) ∈ z_tb := z_tb_in (i := 1098) (by decide +kernel) rfl
theorem q1099 : Cond.constantLong RX8 66 (23) ∈ z_tb := z_tb_in (i := 1099) (by decide +kernel) rfl
theorem q1100 : Cond.methodLink RL 43 yX8_despike ∈ z_tb := z_tb_in (i := 1100) (by decide +kernel) rfl
theorem q1101 : Cond.instanceMethod yX8_despike ∈ z_tb := z_tb_in (i := 1101) (by decide +kernel) rfl
theorem q1102 : Cond.selects RX8 yX8_despike yX8_despike ∈ z_tb := z_tb_in (i := 1102) (by decide +kernel) rfl
theorem q1103 : Cond.code yX8_despike cX8_despike 7 (some FieldType.int) ∈ z_tb := z_tb_in (i := 1103) (by decide +kernel) rfl
theorem q1104 : Cond.methodLink RX8 104 yX8_isFinished ∈ z_tb := z_tb_in (i := 1104) (by decide +kernel) rfl
theorem q1106 : Cond.instanceMethod yX8_isFinished ∈ z_tb := z_tb_in (i := 1106) (by decide +kernel) rfl
theorem q1107 : Cond.code yX8_isFinished cX8_isFinished 2 (some FieldType.boolean) ∈ z_tb := z_tb_in (i := 1107) (by decide +kernel) rfl
theorem q1108 : Cond.constantLong RX8 107 (20000) ∈ z_tb := z_tb_in (i := 1108) (by decide +kernel) rfl
theorem q1109 : Cond.methodLink RX8 72 yX8_around ∈ z_tb := z_tb_in (i := 1109) (by decide +kernel) rfl
theorem q1110 : Cond.static yX8_around ∈ z_tb := z_tb_in (i := 1110) (by decide +kernel) rfl
theorem q1111 : Cond.code yX8_around cX8_around 2 (some FieldType.int) ∈ z_tb := z_tb_in (i := 1111) (by decide +kernel) rfl
theorem q1112 : Cond.constantLong RX8 109 (2) ∈ z_tb := z_tb_in (i := 1112) (by decide +kernel) rfl
theorem q1113 : Cond.methodLink RX8 111 yX8_size ∈ z_tb := z_tb_in (i := 1113) (by decide +kernel) rfl
theorem q1114 : Cond.static yX8_size ∈ z_tb := z_tb_in (i := 1114) (by decide +kernel) rfl
theorem q1115 : Cond.code yX8_size cX8_size 2 (some FieldType.long) ∈ z_tb := z_tb_in (i := 1115) (by decide +kernel) rfl
theorem q1116 : Cond.methodLink RX8 115 yX8_down ∈ z_tb := z_tb_in (i := 1116) (by decide +kernel) rfl
theorem q1117 : Cond.static yX8_down ∈ z_tb := z_tb_in (i := 1117) (by decide +kernel) rfl
theorem q1118 : Cond.code yX8_down cX8_down 6 (some FieldType.long) ∈ z_tb := z_tb_in (i := 1118) (by decide +kernel) rfl
theorem q1119 : Cond.methodLink RL 48 yX8_part ∈ z_tb := z_tb_in (i := 1119) (by decide +kernel) rfl
theorem q1120 : Cond.instanceMethod yX8_part ∈ z_tb := z_tb_in (i := 1120) (by decide +kernel) rfl
theorem q1121 : Cond.selects RX8 yX8_part yX8_part ∈ z_tb := z_tb_in (i := 1121) (by decide +kernel) rfl
theorem q1122 : Cond.code yX8_part cX8_part 2 (some FieldType.long) ∈ z_tb := z_tb_in (i := 1122) (by decide +kernel) rfl
theorem q1123 : Cond.methodLink RX8 127 yX8_lost ∈ z_tb := z_tb_in (i := 1123) (by decide +kernel) rfl
theorem q1124 : Cond.static yX8_lost ∈ z_tb := z_tb_in (i := 1124) (by decide +kernel) rfl
theorem q1125 : Cond.code yX8_lost cX8_lost 0 (some FieldType.long) ∈ z_tb := z_tb_in (i := 1125) (by decide +kernel) rfl
theorem q1126 : Cond.constantLong RX8 64 (-9223372036854775808) ∈ z_tb := z_tb_in (i := 1126) (by decide +kernel) rfl
theorem q1127 : Cond.methodLink RX8 131 yX8_partAt ∈ z_tb := z_tb_in (i := 1127) (by decide +kernel) rfl
theorem q1129 : Cond.instanceMethod yX8_partAt ∈ z_tb := z_tb_in (i := 1129) (by decide +kernel) rfl
theorem q1130 : Cond.code yX8_partAt cX8_partAt 6 (some FieldType.long) ∈ z_tb := z_tb_in (i := 1130) (by decide +kernel) rfl
theorem q1131 : Cond.methodLink RX8 119 yX8_turned ∈ z_tb := z_tb_in (i := 1131) (by decide +kernel) rfl
theorem q1133 : Cond.instanceMethod yX8_turned ∈ z_tb := z_tb_in (i := 1133) (by decide +kernel) rfl
theorem q1134 : Cond.code yX8_turned cX8_turned 2 (some FieldType.int) ∈ z_tb := z_tb_in (i := 1134) (by decide +kernel) rfl
theorem q1135 : Cond.methodLink RX8 122 yX8_sumAt ∈ z_tb := z_tb_in (i := 1135) (by decide +kernel) rfl
theorem q1137 : Cond.instanceMethod yX8_sumAt ∈ z_tb := z_tb_in (i := 1137) (by decide +kernel) rfl
theorem q1138 : Cond.code yX8_sumAt cX8_sumAt 5 (some FieldType.long) ∈ z_tb := z_tb_in (i := 1138) (by decide +kernel) rfl
theorem q1139 : Cond.constantLong RX8 125 (1000000) ∈ z_tb := z_tb_in (i := 1139) (by decide +kernel) rfl
theorem q1140 : Cond.methodLink RL 52 yX8_spindle ∈ z_tb := z_tb_in (i := 1140) (by decide +kernel) rfl
theorem q1141 : Cond.instanceMethod yX8_spindle ∈ z_tb := z_tb_in (i := 1141) (by decide +kernel) rfl
theorem q1142 : Cond.selects RX8 yX8_spindle yX8_spindle ∈ z_tb := z_tb_in (i := 1142) (by decide +kernel) rfl
theorem q1143 : Cond.code yX8_spindle cX8_spindle 2 (some FieldType.long) ∈ z_tb := z_tb_in (i := 1143) (by decide +kernel) rfl
theorem q1144 : Cond.methodLink RX8 134 yX8_spindleAt ∈ z_tb := z_tb_in (i := 1144) (by decide +kernel) rfl
theorem q1146 : Cond.instanceMethod yX8_spindleAt ∈ z_tb := z_tb_in (i := 1146) (by decide +kernel) rfl
theorem q1147 : Cond.code yX8_spindleAt cX8_spindleAt 2 (some FieldType.long) ∈ z_tb := z_tb_in (i := 1147) (by decide +kernel) rfl
theorem q1148 : Cond.methodLink RL 56 yX8_isBlind ∈ z_tb := z_tb_in (i := 1148) (by decide +kernel) rfl
theorem q1149 : Cond.instanceMethod yX8_isBlind ∈ z_tb := z_tb_in (i := 1149) (by decide +kernel) rfl
theorem q1150 : Cond.selects RX8 yX8_isBlind yX8_isBlind ∈ z_tb := z_tb_in (i := 1150) (by decide +kernel) rfl
theorem q1151 : Cond.code yX8_isBlind cX8_isBlind 2 (some FieldType.int) ∈ z_tb := z_tb_in (i := 1151) (by decide +kernel) rfl
theorem q1152 : Cond.constantLong RX8 137 (12) ∈ z_tb := z_tb_in (i := 1152) (by decide +kernel) rfl
theorem q1153 : Cond.methodLink RL 61 yX8_residual ∈ z_tb := z_tb_in (i := 1153) (by decide +kernel) rfl
theorem q1154 : Cond.instanceMethod yX8_residual ∈ z_tb := z_tb_in (i := 1154) (by decide +kernel) rfl
theorem q1155 : Cond.selects RX8 yX8_residual yX8_residual ∈ z_tb := z_tb_in (i := 1155) (by decide +kernel) rfl
theorem q1156 : Cond.code yX8_residual cX8_residual 7 (some FieldType.long) ∈ z_tb := z_tb_in (i := 1156) (by decide +kernel) rfl
theorem q1157 : Cond.methodLink RL 97 yX8_undo ∈ z_tb := z_tb_in (i := 1157) (by decide +kernel) rfl
theorem q1158 : Cond.instanceMethod yX8_undo ∈ z_tb := z_tb_in (i := 1158) (by decide +kernel) rfl
theorem q1159 : Cond.selects RX8 yX8_undo yX8_undo ∈ z_tb := z_tb_in (i := 1159) (by decide +kernel) rfl
theorem q1160 : Cond.code yX8_undo cX8_undo 2 (some FieldType.int) ∈ z_tb := z_tb_in (i := 1160) (by decide +kernel) rfl
theorem q1161 : Cond.methodLink RL 101 yX8_redo ∈ z_tb := z_tb_in (i := 1161) (by decide +kernel) rfl
theorem q1162 : Cond.instanceMethod yX8_redo ∈ z_tb := z_tb_in (i := 1162) (by decide +kernel) rfl
theorem q1163 : Cond.selects RX8 yX8_redo yX8_redo ∈ z_tb := z_tb_in (i := 1163) (by decide +kernel) rfl
theorem q1164 : Cond.code yX8_redo cX8_redo 2 (some FieldType.int) ∈ z_tb := z_tb_in (i := 1164) (by decide +kernel) rfl
theorem q1165 : Cond.methodLink RL 65 yX8_load ∈ z_tb := z_tb_in (i := 1165) (by decide +kernel) rfl
theorem q1166 : Cond.instanceMethod yX8_load ∈ z_tb := z_tb_in (i := 1166) (by decide +kernel) rfl
theorem q1167 : Cond.selects RX8 yX8_load yX8_load ∈ z_tb := z_tb_in (i := 1167) (by decide +kernel) rfl
theorem q1168 : Cond.code yX8_load cX8_load 4 (some FieldType.int) ∈ z_tb := z_tb_in (i := 1168) (by decide +kernel) rfl
theorem q1169 : Cond.methodLink RX8 147 yX8_fetches ∈ z_tb := z_tb_in (i := 1169) (by decide +kernel) rfl
theorem q1171 : Cond.instanceMethod yX8_fetches ∈ z_tb := z_tb_in (i := 1171) (by decide +kernel) rfl
theorem q1172 : Cond.code yX8_fetches cX8_fetches 4 (some FieldType.int) ∈ z_tb := z_tb_in (i := 1172) (by decide +kernel) rfl
theorem q1173 : Cond.constantLong RX8 145 (4) ∈ z_tb := z_tb_in (i := 1173) (by decide +kernel) rfl
theorem q1174 : Cond.methodLink RX8 151 yX8_takes ∈ z_tb := z_tb_in (i := 1174) (by decide +kernel) rfl
theorem q1176 : Cond.instanceMethod yX8_takes ∈ z_tb := z_tb_in (i := 1176) (by decide +kernel) rfl
theorem q1177 : Cond.code yX8_takes cX8_takes 3 (some FieldType.int) ∈ z_tb := z_tb_in (i := 1177) (by decide +kernel) rfl
theorem q1178 : Cond.methodLink RL 69 yX8_profile ∈ z_tb := z_tb_in (i := 1178) (by decide +kernel) rfl
theorem q1179 : Cond.instanceMethod yX8_profile ∈ z_tb := z_tb_in (i := 1179) (by decide +kernel) rfl
theorem q1180 : Cond.selects RX8 yX8_profile yX8_profile ∈ z_tb := z_tb_in (i := 1180) (by decide +kernel) rfl
theorem q1181 : Cond.code yX8_profile cX8_profile 2 (some FieldType.long) ∈ z_tb := z_tb_in (i := 1181) (by decide +kernel) rfl
theorem q1182 : Cond.methodLink RL 73 yX8_rotate ∈ z_tb := z_tb_in (i := 1182) (by decide +kernel) rfl
theorem q1183 : Cond.instanceMethod yX8_rotate ∈ z_tb := z_tb_in (i := 1183) (by decide +kernel) rfl
theorem q1184 : Cond.selects RX8 yX8_rotate yX8_rotate ∈ z_tb := z_tb_in (i := 1184) (by decide +kernel) rfl
theorem q1185 : Cond.code yX8_rotate cX8_rotate 3 (some FieldType.int) ∈ z_tb := z_tb_in (i := 1185) (by decide +kernel) rfl
theorem q1186 : Cond.constantLong RX8 155 (-23) ∈ z_tb := z_tb_in (i := 1186) (by decide +kernel) rfl
theorem q1187 : Cond.methodLink RL 77 yX8_removeEccentricity ∈ z_tb := z_tb_in (i := 1187) (by decide +kernel) rfl
theorem q1188 : Cond.instanceMethod yX8_removeEccentricity ∈ z_tb := z_tb_in (i := 1188) (by decide +kernel) rfl
theorem q1189 : Cond.selects RX8 yX8_removeEccentricity yX8_removeEccentricity ∈ z_tb := z_tb_in (i := 1189) (by decide +kernel) rfl
theorem q1190 : Cond.code yX8_removeEccentricity cX8_removeEccentricity 8 (some FieldType.int) ∈ z_tb := z_tb_in (i := 1190) (by decide +kernel) rfl
theorem q1191 : Cond.methodLink RX8 157 yX8_harmonicOf ∈ z_tb := z_tb_in (i := 1191) (by decide +kernel) rfl
theorem q1193 : Cond.instanceMethod yX8_harmonicOf ∈ z_tb := z_tb_in (i := 1193) (by decide +kernel) rfl
theorem q1194 : Cond.code yX8_harmonicOf cX8_harmonicOf 3 (some FieldType.long) ∈ z_tb := z_tb_in (i := 1194) (by decide +kernel) rfl
theorem q1195 : Cond.methodLink RX8 181 yX8_harmonicIn ∈ z_tb := z_tb_in (i := 1195) (by decide +kernel) rfl
theorem q1197 : Cond.instanceMethod yX8_harmonicIn ∈ z_tb := z_tb_in (i := 1197) (by decide +kernel) rfl
theorem q1198 : Cond.code yX8_harmonicIn cX8_harmonicIn 8 (some FieldType.long) ∈ z_tb := z_tb_in (i := 1198) (by decide +kernel) rfl
theorem q1199 : Cond.methodLink RX8 161 yX8_sine ∈ z_tb := z_tb_in (i := 1199) (by decide +kernel) rfl
theorem q1201 : Cond.instanceMethod yX8_sine ∈ z_tb := z_tb_in (i := 1201) (by decide +kernel) rfl
theorem q1202 : Cond.code yX8_sine cX8_sine 2 (some FieldType.long) ∈ z_tb := z_tb_in (i := 1202) (by decide +kernel) rfl
theorem q1203 : Cond.methodLink RX8 76 yX8_cosine ∈ z_tb := z_tb_in (i := 1203) (by decide +kernel) rfl
theorem q1205 : Cond.instanceMethod yX8_cosine ∈ z_tb := z_tb_in (i := 1205) (by decide +kernel) rfl
theorem q1206 : Cond.code yX8_cosine cX8_cosine 3 (some FieldType.long) ∈ z_tb := z_tb_in (i := 1206) (by decide +kernel) rfl
theorem q1207 : Cond.constantLong RX8 185 (24000000) ∈ z_tb := z_tb_in (i := 1207) (by decide +kernel) rfl
theorem q1208 : Cond.constantLong RX8 187 (12000000) ∈ z_tb := z_tb_in (i := 1208) (by decide +kernel) rfl
theorem q1209 : Cond.methodLink RL 81 yX8_keepLobes ∈ z_tb := z_tb_in (i := 1209) (by decide +kernel) rfl
theorem q1210 : Cond.instanceMethod yX8_keepLobes ∈ z_tb := z_tb_in (i := 1210) (by decide +kernel) rfl
theorem q1211 : Cond.selects RX8 yX8_keepLobes yX8_keepLobes ∈ z_tb := z_tb_in (i := 1211) (by decide +kernel) rfl
theorem q1212 : Cond.code yX8_keepLobes cX8_keepLobes 3 (some FieldType.int) ∈ z_tb := z_tb_in (i := 1212) (by decide +kernel) rfl
theorem q1213 : Cond.methodLink RX8 164 yX8_areLobes ∈ z_tb := z_tb_in (i := 1213) (by decide +kernel) rfl
theorem q1214 : Cond.static yX8_areLobes ∈ z_tb := z_tb_in (i := 1214) (by decide +kernel) rfl
theorem q1215 : Cond.code yX8_areLobes cX8_areLobes 2 (some FieldType.boolean) ∈ z_tb := z_tb_in (i := 1215) (by decide +kernel) rfl
theorem q1216 : Cond.methodLink RX8 168 yX8_keeps ∈ z_tb := z_tb_in (i := 1216) (by decide +kernel) rfl
theorem q1218 : Cond.instanceMethod yX8_keeps ∈ z_tb := z_tb_in (i := 1218) (by decide +kernel) rfl
theorem q1219 : Cond.code yX8_keeps cX8_keeps 9 none ∈ z_tb := z_tb_in (i := 1219) (by decide +kernel) rfl
theorem q1220 : Cond.methodLink RL 85 yX8_subtract ∈ z_tb := z_tb_in (i := 1220) (by decide +kernel) rfl
theorem q1221 : Cond.instanceMethod yX8_subtract ∈ z_tb := z_tb_in (i := 1221) (by decide +kernel) rfl
theorem q1222 : Cond.selects RX8 yX8_subtract yX8_subtract ∈ z_tb := z_tb_in (i := 1222) (by decide +kernel) rfl
theorem q1223 : Cond.code yX8_subtract cX8_subtract 5 (some FieldType.int) ∈ z_tb := z_tb_in (i := 1223) (by decide +kernel) rfl
theorem q1224 : Cond.methodLink RX8 174 yX8_isTooFar ∈ z_tb := z_tb_in (i := 1224) (by decide +kernel) rfl
theorem q1226 : Cond.instanceMethod yX8_isTooFar ∈ z_tb := z_tb_in (i := 1226) (by decide +kernel) rfl
theorem q1227 : Cond.code yX8_isTooFar cX8_isTooFar 2 (some FieldType.boolean) ∈ z_tb := z_tb_in (i := 1227) (by decide +kernel) rfl
theorem q1228 : Cond.constantLong RX8 172 (40000000000) ∈ z_tb := z_tb_in (i := 1228) (by decide +kernel) rfl
theorem q1229 : Cond.methodLink RL 89 yX8_vBlock ∈ z_tb := z_tb_in (i := 1229) (by decide +kernel) rfl
theorem q1230 : Cond.instanceMethod yX8_vBlock ∈ z_tb := z_tb_in (i := 1230) (by decide +kernel) rfl
theorem q1231 : Cond.selects RX8 yX8_vBlock yX8_vBlock ∈ z_tb := z_tb_in (i := 1231) (by decide +kernel) rfl
theorem q1232 : Cond.code yX8_vBlock cX8_vBlock 3 (some FieldType.int) ∈ z_tb := z_tb_in (i := 1232) (by decide +kernel) rfl
theorem q1233 : Cond.constantLong RX8 177 (5) ∈ z_tb := z_tb_in (i := 1233) (by decide +kernel) rfl
theorem q1234 : Cond.constantLong RX8 179 (500000) ∈ z_tb := z_tb_in (i := 1234) (by decide +kernel) rfl
theorem q1235 : Cond.methodLink RL 93 yX8_isBlindInVBlock ∈ z_tb := z_tb_in (i := 1235) (by decide +kernel) rfl
theorem q1236 : Cond.instanceMethod yX8_isBlindInVBlock ∈ z_tb := z_tb_in (i := 1236) (by decide +kernel) rfl
theorem q1237 : Cond.selects RX8 yX8_isBlindInVBlock yX8_isBlindInVBlock ∈ z_tb := z_tb_in (i := 1237) (by decide +kernel) rfl
theorem q1238 : Cond.code yX8_isBlindInVBlock cX8_isBlindInVBlock 5 (some FieldType.int) ∈ z_tb := z_tb_in (i := 1238) (by decide +kernel) rfl
theorem q1239 : Cond.methodLink RL 106 yX8_harmonic ∈ z_tb := z_tb_in (i := 1239) (by decide +kernel) rfl
theorem q1240 : Cond.instanceMethod yX8_harmonic ∈ z_tb := z_tb_in (i := 1240) (by decide +kernel) rfl
theorem q1241 : Cond.selects RX8 yX8_harmonic yX8_harmonic ∈ z_tb := z_tb_in (i := 1241) (by decide +kernel) rfl
theorem q1242 : Cond.code yX8_harmonic cX8_harmonic 3 (some FieldType.long) ∈ z_tb := z_tb_in (i := 1242) (by decide +kernel) rfl
theorem q1243 : Cond.methodLink RX8 189 yX8_noLobes ∈ z_tb := z_tb_in (i := 1243) (by decide +kernel) rfl
theorem q1244 : Cond.static yX8_noLobes ∈ z_tb := z_tb_in (i := 1244) (by decide +kernel) rfl
theorem q1245 : Cond.code yX8_noLobes cX8_noLobes 1 (some FieldType.boolean) ∈ z_tb := z_tb_in (i := 1245) (by decide +kernel) rfl
theorem q1246 : Cond.methodLink RL 110 yX8_strength ∈ z_tb := z_tb_in (i := 1246) (by decide +kernel) rfl
theorem q1247 : Cond.instanceMethod yX8_strength ∈ z_tb := z_tb_in (i := 1247) (by decide +kernel) rfl
theorem q1248 : Cond.selects RX8 yX8_strength yX8_strength ∈ z_tb := z_tb_in (i := 1248) (by decide +kernel) rfl
theorem q1249 : Cond.code yX8_strength cX8_strength 2 (some FieldType.long) ∈ z_tb := z_tb_in (i := 1249) (by decide +kernel) rfl
theorem q1250 : Cond.methodLink RX8 192 yX8_strengthOf ∈ z_tb := z_tb_in (i := 1250) (by decide +kernel) rfl
theorem q1252 : Cond.instanceMethod yX8_strengthOf ∈ z_tb := z_tb_in (i := 1252) (by decide +kernel) rfl
theorem q1253 : Cond.code yX8_strengthOf cX8_strengthOf 2 (some FieldType.long) ∈ z_tb := z_tb_in (i := 1253) (by decide +kernel) rfl
theorem q1254 : Cond.methodLink RL 114 yX8_dominant ∈ z_tb := z_tb_in (i := 1254) (by decide +kernel) rfl
theorem q1255 : Cond.instanceMethod yX8_dominant ∈ z_tb := z_tb_in (i := 1255) (by decide +kernel) rfl
theorem q1256 : Cond.selects RX8 yX8_dominant yX8_dominant ∈ z_tb := z_tb_in (i := 1256) (by decide +kernel) rfl
theorem q1257 : Cond.code yX8_dominant cX8_dominant 4 (some FieldType.int) ∈ z_tb := z_tb_in (i := 1257) (by decide +kernel) rfl
theorem q1258 : Cond.methodLink RL 118 yX8_centre ∈ z_tb := z_tb_in (i := 1258) (by decide +kernel) rfl
theorem q1259 : Cond.instanceMethod yX8_centre ∈ z_tb := z_tb_in (i := 1259) (by decide +kernel) rfl
theorem q1260 : Cond.selects RX8 yX8_centre yX8_centre ∈ z_tb := z_tb_in (i := 1260) (by decide +kernel) rfl
theorem q1261 : Cond.code yX8_centre cX8_centre 3 (some FieldType.long) ∈ z_tb := z_tb_in (i := 1261) (by decide +kernel) rfl
theorem q1262 : Cond.methodLink RX8 232 yX8_noMethod ∈ z_tb := z_tb_in (i := 1262) (by decide +kernel) rfl
theorem q1263 : Cond.static yX8_noMethod ∈ z_tb := z_tb_in (i := 1263) (by decide +kernel) rfl
theorem q1264 : Cond.code yX8_noMethod cX8_noMethod 1 (some FieldType.boolean) ∈ z_tb := z_tb_in (i := 1264) (by decide +kernel) rfl
theorem q1265 : Cond.constantLong RX8 230 (3) ∈ z_tb := z_tb_in (i := 1265) (by decide +kernel) rfl
theorem q1266 : Cond.methodLink RX8 226 yX8_findCentre ∈ z_tb := z_tb_in (i := 1266) (by decide +kernel) rfl
theorem q1268 : Cond.instanceMethod yX8_findCentre ∈ z_tb := z_tb_in (i := 1268) (by decide +kernel) rfl
theorem q1269 : Cond.code yX8_findCentre cX8_findCentre 13 none ∈ z_tb := z_tb_in (i := 1269) (by decide +kernel) rfl
theorem q1270 : Cond.methodLink RX8 220 yX8_valueBy ∈ z_tb := z_tb_in (i := 1270) (by decide +kernel) rfl
theorem q1272 : Cond.instanceMethod yX8_valueBy ∈ z_tb := z_tb_in (i := 1272) (by decide +kernel) rfl
theorem q1273 : Cond.code yX8_valueBy cX8_valueBy 7 (some FieldType.long) ∈ z_tb := z_tb_in (i := 1273) (by decide +kernel) rfl
theorem q1274 : Cond.methodLink RX8 210 yX8_findEnds ∈ z_tb := z_tb_in (i := 1274) (by decide +kernel) rfl
theorem q1276 : Cond.instanceMethod yX8_findEnds ∈ z_tb := z_tb_in (i := 1276) (by decide +kernel) rfl
theorem q1277 : Cond.code yX8_findEnds cX8_findEnds 10 none ∈ z_tb := z_tb_in (i := 1277) (by decide +kernel) rfl
theorem q1278 : Cond.methodLink RX8 199 yX8_offAt ∈ z_tb := z_tb_in (i := 1278) (by decide +kernel) rfl
theorem q1280 : Cond.instanceMethod yX8_offAt ∈ z_tb := z_tb_in (i := 1280) (by decide +kernel) rfl
theorem q1281 : Cond.code yX8_offAt cX8_offAt 8 (some FieldType.long) ∈ z_tb := z_tb_in (i := 1281) (by decide +kernel) rfl
theorem q1282 : Cond.methodLink RX8 195 yX8_off ∈ z_tb := z_tb_in (i := 1282) (by decide +kernel) rfl
theorem q1283 : Cond.static yX8_off ∈ z_tb := z_tb_in (i := 1283) (by decide +kernel) rfl
theorem q1284 : Cond.code yX8_off cX8_off 10 (some FieldType.long) ∈ z_tb := z_tb_in (i := 1284) (by decide +kernel) rfl
theorem q1285 : Cond.constantLong RX8 224 (1073741824) ∈ z_tb := z_tb_in (i := 1285) (by decide +kernel) rfl
theorem q1286 : Cond.methodLink RL 123 yX8_deviation ∈ z_tb := z_tb_in (i := 1286) (by decide +kernel) rfl
theorem q1287 : Cond.instanceMethod yX8_deviation ∈ z_tb := z_tb_in (i := 1287) (by decide +kernel) rfl
theorem q1288 : Cond.selects RX8 yX8_deviation yX8_deviation ∈ z_tb := z_tb_in (i := 1288) (by decide +kernel) rfl
theorem q1289 : Cond.code yX8_deviation cX8_deviation 3 (some FieldType.long) ∈ z_tb := z_tb_in (i := 1289) (by decide +kernel) rfl
theorem q1290 : Cond.methodLink RX8 235 yX8_layOff ∈ z_tb := z_tb_in (i := 1290) (by decide +kernel) rfl
theorem q1292 : Cond.instanceMethod yX8_layOff ∈ z_tb := z_tb_in (i := 1292) (by decide +kernel) rfl
theorem q1293 : Cond.code yX8_layOff cX8_layOff 3 none ∈ z_tb := z_tb_in (i := 1293) (by decide +kernel) rfl
theorem q1294 : Cond.methodLink RL 128 yX8_roundness ∈ z_tb := z_tb_in (i := 1294) (by decide +kernel) rfl
theorem q1295 : Cond.instanceMethod yX8_roundness ∈ z_tb := z_tb_in (i := 1295) (by decide +kernel) rfl
theorem q1296 : Cond.selects RX8 yX8_roundness yX8_roundness ∈ z_tb := z_tb_in (i := 1296) (by decide +kernel) rfl
theorem q1297 : Cond.code yX8_roundness cX8_roundness 2 (some FieldType.double) ∈ z_tb := z_tb_in (i := 1297) (by decide +kernel) rfl
theorem q1298 : Cond.constantDouble RX8 239 (13830554455654793216) ∈ z_tb := z_tb_in (i := 1298) (by decide +kernel) rfl
theorem q1299 : Cond.methodLink RX8 241 yX8_roundnessOf ∈ z_tb := z_tb_in (i := 1299) (by decide +kernel) rfl
theorem q1301 : Cond.instanceMethod yX8_roundnessOf ∈ z_tb := z_tb_in (i := 1301) (by decide +kernel) rfl
theorem q1302 : Cond.code yX8_roundnessOf cX8_roundnessOf 3 (some FieldType.long) ∈ z_tb := z_tb_in (i := 1302) (by decide +kernel) rfl
theorem q1303 : Cond.constantDouble RX8 245 (4696837146684686336) ∈ z_tb := z_tb_in (i := 1303) (by decide +kernel) rfl
theorem q1304 : Cond.methodLink RL 133 yX8_extreme ∈ z_tb := z_tb_in (i := 1304) (by decide +kernel) rfl
theorem q1305 : Cond.instanceMethod yX8_extreme ∈ z_tb := z_tb_in (i := 1305) (by decide +kernel) rfl
theorem q1306 : Cond.selects RX8 yX8_extreme yX8_extreme ∈ z_tb := z_tb_in (i := 1306) (by decide +kernel) rfl
theorem q1307 : Cond.code yX8_extreme cX8_extreme 3 (some FieldType.int) ∈ z_tb := z_tb_in (i := 1307) (by decide +kernel) rfl
theorem q1308 : Cond.methodLink RX8 247 yX8_extremeAt ∈ z_tb := z_tb_in (i := 1308) (by decide +kernel) rfl
theorem q1310 : Cond.instanceMethod yX8_extremeAt ∈ z_tb := z_tb_in (i := 1310) (by decide +kernel) rfl
theorem q1311 : Cond.code yX8_extremeAt cX8_extremeAt 4 (some FieldType.int) ∈ z_tb := z_tb_in (i := 1311) (by decide +kernel) rfl
theorem q1312 : Cond.methodLink RL 138 yX8_meanSquare ∈ z_tb := z_tb_in (i := 1312) (by decide +kernel) rfl
theorem q1313 : Cond.instanceMethod yX8_meanSquare ∈ z_tb := z_tb_in (i := 1313) (by decide +kernel) rfl
theorem q1314 : Cond.selects RX8 yX8_meanSquare yX8_meanSquare ∈ z_tb := z_tb_in (i := 1314) (by decide +kernel) rfl
theorem q1315 : Cond.code yX8_meanSquare cX8_meanSquare 6 (some FieldType.float) ∈ z_tb := z_tb_in (i := 1315) (by decide +kernel) rfl
theorem q1316 : Cond.constantDouble RX8 251 (4627448617123184640) ∈ z_tb := z_tb_in (i := 1316) (by decide +kernel) rfl
theorem q1317 : Cond.methodLink RL 145 yX8_materialAt ∈ z_tb := z_tb_in (i := 1317) (by decide +kernel) rfl
theorem q1318 : Cond.instanceMethod yX8_materialAt ∈ z_tb := z_tb_in (i := 1318) (by decide +kernel) rfl
theorem q1319 : Cond.selects RX8 yX8_materialAt yX8_materialAt ∈ z_tb := z_tb_in (i := 1319) (by decide +kernel) rfl
theorem q1320 : Cond.code yX8_materialAt cX8_materialAt 4 (some FieldType.int) ∈ z_tb := z_tb_in (i := 1320) (by decide +kernel) rfl
theorem q1321 : Cond.methodLink RX8 253 yX8_countTo ∈ z_tb := z_tb_in (i := 1321) (by decide +kernel) rfl
theorem q1323 : Cond.instanceMethod yX8_countTo ∈ z_tb := z_tb_in (i := 1323) (by decide +kernel) rfl
theorem q1324 : Cond.code yX8_countTo cX8_countTo 7 (some FieldType.int) ∈ z_tb := z_tb_in (i := 1324) (by decide +kernel) rfl
theorem q1325 : Cond.methodLink RL 149 yX8_depthFor ∈ z_tb := z_tb_in (i := 1325) (by decide +kernel) rfl
theorem q1326 : Cond.instanceMethod yX8_depthFor ∈ z_tb := z_tb_in (i := 1326) (by decide +kernel) rfl
theorem q1327 : Cond.selects RX8 yX8_depthFor yX8_depthFor ∈ z_tb := z_tb_in (i := 1327) (by decide +kernel) rfl
theorem q1328 : Cond.code yX8_depthFor cX8_depthFor 10 (some FieldType.long) ∈ z_tb := z_tb_in (i := 1328) (by decide +kernel) rfl
theorem q1329 : Cond.constantLong RX8 257 (24) ∈ z_tb := z_tb_in (i := 1329) (by decide +kernel) rfl
theorem q1330 : Cond.constantLong RX8 259 (-1) ∈ z_tb := z_tb_in (i := 1330) (by decide +kernel) rfl
theorem q1331 : Cond.methodLink RL 153 yX8_storeTrace ∈ z_tb := z_tb_in (i := 1331) (by decide +kernel) rfl
theorem q1332 : Cond.instanceMethod yX8_storeTrace ∈ z_tb := z_tb_in (i := 1332) (by decide +kernel) rfl
theorem q1333 : Cond.selects RX8 yX8_storeTrace yX8_storeTrace ∈ z_tb := z_tb_in (i := 1333) (by decide +kernel) rfl
theorem q1334 : Cond.code yX8_storeTrace cX8_storeTrace 3 (some FieldType.int) ∈ z_tb := z_tb_in (i := 1334) (by decide +kernel) rfl
theorem q1335 : Cond.constantLong RX8 264 (100) ∈ z_tb := z_tb_in (i := 1335) (by decide +kernel) rfl
theorem q1336 : Cond.constant RX8 266 (-1000004) ∈ z_tb := z_tb_in (i := 1336) (by decide +kernel) rfl
theorem q1337 : Cond.methodLink RL 157 yX8_removeTraces ∈ z_tb := z_tb_in (i := 1337) (by decide +kernel) rfl
theorem q1338 : Cond.instanceMethod yX8_removeTraces ∈ z_tb := z_tb_in (i := 1338) (by decide +kernel) rfl
theorem q1339 : Cond.selects RX8 yX8_removeTraces yX8_removeTraces ∈ z_tb := z_tb_in (i := 1339) (by decide +kernel) rfl
theorem q1340 : Cond.code yX8_removeTraces cX8_removeTraces 2 (some FieldType.int) ∈ z_tb := z_tb_in (i := 1340) (by decide +kernel) rfl
theorem q1341 : Cond.methodLink RL 161 yX8_recall ∈ z_tb := z_tb_in (i := 1341) (by decide +kernel) rfl
theorem q1342 : Cond.instanceMethod yX8_recall ∈ z_tb := z_tb_in (i := 1342) (by decide +kernel) rfl
theorem q1343 : Cond.selects RX8 yX8_recall yX8_recall ∈ z_tb := z_tb_in (i := 1343) (by decide +kernel) rfl
theorem q1344 : Cond.code yX8_recall cX8_recall 3 (some FieldType.int) ∈ z_tb := z_tb_in (i := 1344) (by decide +kernel) rfl
theorem q1345 : Cond.methodLink RX8 267 yX8_noTrace ∈ z_tb := z_tb_in (i := 1345) (by decide +kernel) rfl
theorem q1347 : Cond.instanceMethod yX8_noTrace ∈ z_tb := z_tb_in (i := 1347) (by decide +kernel) rfl
theorem q1348 : Cond.code yX8_noTrace cX8_noTrace 2 (some FieldType.boolean) ∈ z_tb := z_tb_in (i := 1348) (by decide +kernel) rfl
theorem q1349 : Cond.methodLink RL 165 yX8_traceValue ∈ z_tb := z_tb_in (i := 1349) (by decide +kernel) rfl
theorem q1350 : Cond.instanceMethod yX8_traceValue ∈ z_tb := z_tb_in (i := 1350) (by decide +kernel) rfl
theorem q1351 : Cond.selects RX8 yX8_traceValue yX8_traceValue ∈ z_tb := z_tb_in (i := 1351) (by decide +kernel) rfl
theorem q1352 : Cond.code yX8_traceValue cX8_traceValue 3 (some FieldType.long) ∈ z_tb := z_tb_in (i := 1352) (by decide +kernel) rfl
theorem q1353 : Cond.methodLink RX8 270 yX8_traceHarmonic ∈ z_tb := z_tb_in (i := 1353) (by decide +kernel) rfl
theorem q1355 : Cond.instanceMethod yX8_traceHarmonic ∈ z_tb := z_tb_in (i := 1355) (by decide +kernel) rfl
theorem q1356 : Cond.code yX8_traceHarmonic cX8_traceHarmonic 4 (some FieldType.long) ∈ z_tb := z_tb_in (i := 1356) (by decide +kernel) rfl
theorem q1357 : Cond.methodLink RL 169 yX8_axis ∈ z_tb := z_tb_in (i := 1357) (by decide +kernel) rfl
theorem q1358 : Cond.instanceMethod yX8_axis ∈ z_tb := z_tb_in (i := 1358) (by decide +kernel) rfl
theorem q1359 : Cond.selects RX8 yX8_axis yX8_axis ∈ z_tb := z_tb_in (i := 1359) (by decide +kernel) rfl
theorem q1360 : Cond.code yX8_axis cX8_axis 3 (some FieldType.long) ∈ z_tb := z_tb_in (i := 1360) (by decide +kernel) rfl
theorem q1361 : Cond.methodLink RX8 274 yX8_axisAt ∈ z_tb := z_tb_in (i := 1361) (by decide +kernel) rfl
theorem q1363 : Cond.instanceMethod yX8_axisAt ∈ z_tb := z_tb_in (i := 1363) (by decide +kernel) rfl
theorem q1364 : Cond.code yX8_axisAt cX8_axisAt 14 (some FieldType.long) ∈ z_tb := z_tb_in (i := 1364) (by decide +kernel) rfl
theorem q1365 : Cond.methodLink RL 174 yX8_cylindricity ∈ z_tb := z_tb_in (i := 1365) (by decide +kernel) rfl
theorem q1366 : Cond.instanceMethod yX8_cylindricity ∈ z_tb := z_tb_in (i := 1366) (by decide +kernel) rfl
theorem q1367 : Cond.selects RX8 yX8_cylindricity yX8_cylindricity ∈ z_tb := z_tb_in (i := 1367) (by decide +kernel) rfl
theorem q1368 : Cond.code yX8_cylindricity cX8_cylindricity 6 (some FieldType.double) ∈ z_tb := z_tb_in (i := 1368) (by decide +kernel) rfl
theorem q1369 : Cond.methodLink RL 178 yX8_farthestTrace ∈ z_tb := z_tb_in (i := 1369) (by decide +kernel) rfl
theorem q1370 : Cond.instanceMethod yX8_farthestTrace ∈ z_tb := z_tb_in (i := 1370) (by decide +kernel) rfl
theorem q1371 : Cond.selects RX8 yX8_farthestTrace yX8_farthestTrace ∈ z_tb := z_tb_in (i := 1371) (by decide +kernel) rfl
theorem q1372 : Cond.code yX8_farthestTrace cX8_farthestTrace 3 (some FieldType.int) ∈ z_tb := z_tb_in (i := 1372) (by decide +kernel) rfl
theorem q1373 : Cond.methodLink RX8 277 yX8_farOf ∈ z_tb := z_tb_in (i := 1373) (by decide +kernel) rfl
theorem q1375 : Cond.instanceMethod yX8_farOf ∈ z_tb := z_tb_in (i := 1375) (by decide +kernel) rfl
theorem q1376 : Cond.code yX8_farOf cX8_farOf 2 (some FieldType.long) ∈ z_tb := z_tb_in (i := 1376) (by decide +kernel) rfl
theorem q1377 : Cond.methodLink RL 182 yX8_taper ∈ z_tb := z_tb_in (i := 1377) (by decide +kernel) rfl
theorem q1378 : Cond.instanceMethod yX8_taper ∈ z_tb := z_tb_in (i := 1378) (by decide +kernel) rfl
theorem q1379 : Cond.selects RX8 yX8_taper yX8_taper ∈ z_tb := z_tb_in (i := 1379) (by decide +kernel) rfl
theorem q1380 : Cond.code yX8_taper cX8_taper 8 (some FieldType.long) ∈ z_tb := z_tb_in (i := 1380) (by decide +kernel) rfl
theorem q1381 : Cond.methodLink RL 187 yX8_difference ∈ z_tb := z_tb_in (i := 1381) (by decide +kernel) rfl
theorem q1382 : Cond.instanceMethod yX8_difference ∈ z_tb := z_tb_in (i := 1382) (by decide +kernel) rfl
theorem q1383 : Cond.selects RX8 yX8_difference yX8_difference ∈ z_tb := z_tb_in (i := 1383) (by decide +kernel) rfl
theorem q1384 : Cond.code yX8_difference cX8_difference 4 (some FieldType.long) ∈ z_tb := z_tb_in (i := 1384) (by decide +kernel) rfl
theorem q1385 : Cond.methodLink RX8 280 yX8_unlike ∈ z_tb := z_tb_in (i := 1385) (by decide +kernel) rfl
theorem q1387 : Cond.instanceMethod yX8_unlike ∈ z_tb := z_tb_in (i := 1387) (by decide +kernel) rfl
theorem q1388 : Cond.code yX8_unlike cX8_unlike 7 (some FieldType.long) ∈ z_tb := z_tb_in (i := 1388) (by decide +kernel) rfl
theorem q1389 : Cond.methodLink RL 191 yX8_bestRotation ∈ z_tb := z_tb_in (i := 1389) (by decide +kernel) rfl
theorem q1390 : Cond.instanceMethod yX8_bestRotation ∈ z_tb := z_tb_in (i := 1390) (by decide +kernel) rfl
theorem q1391 : Cond.selects RX8 yX8_bestRotation yX8_bestRotation ∈ z_tb := z_tb_in (i := 1391) (by decide +kernel) rfl
theorem q1392 : Cond.code yX8_bestRotation cX8_bestRotation 5 (some FieldType.int) ∈ z_tb := z_tb_in (i := 1392) (by decide +kernel) rfl
theorem q1393 : Cond.methodLink RL 196 yX8_addRule ∈ z_tb := z_tb_in (i := 1393) (by decide +kernel) rfl
theorem q1394 : Cond.instanceMethod yX8_addRule ∈ z_tb := z_tb_in (i := 1394) (by decide +kernel) rfl
theorem q1395 : Cond.selects RX8 yX8_addRule yX8_addRule ∈ z_tb := z_tb_in (i := 1395) (by decide +kernel) rfl
theorem q1396 : Cond.code yX8_addRule cX8_addRule 5 (some FieldType.int) ∈ z_tb := z_tb_in (i := 1396) (by decide +kernel) rfl
theorem q1397 : Cond.methodLink RL 200 yX8_clearRules ∈ z_tb := z_tb_in (i := 1397) (by decide +kernel) rfl
theorem q1398 : Cond.instanceMethod yX8_clearRules ∈ z_tb := z_tb_in (i := 1398) (by decide +kernel) rfl
theorem q1399 : Cond.selects RX8 yX8_clearRules yX8_clearRules ∈ z_tb := z_tb_in (i := 1399) (by decide +kernel) rfl
theorem q1400 : Cond.code yX8_clearRules cX8_clearRules 2 (some FieldType.int) ∈ z_tb := z_tb_in (i := 1400) (by decide +kernel) rfl
theorem q1401 : Cond.methodLink RL 204 yX8_ruleValue ∈ z_tb := z_tb_in (i := 1401) (by decide +kernel) rfl
theorem q1402 : Cond.instanceMethod yX8_ruleValue ∈ z_tb := z_tb_in (i := 1402) (by decide +kernel) rfl
theorem q1403 : Cond.selects RX8 yX8_ruleValue yX8_ruleValue ∈ z_tb := z_tb_in (i := 1403) (by decide +kernel) rfl
theorem q1404 : Cond.code yX8_ruleValue cX8_ruleValue 2 (some FieldType.long) ∈ z_tb := z_tb_in (i := 1404) (by decide +kernel) rfl
theorem q1405 : Cond.methodLink RX8 287 yX8_ruleNow ∈ z_tb := z_tb_in (i := 1405) (by decide +kernel) rfl
theorem q1407 : Cond.instanceMethod yX8_ruleNow ∈ z_tb := z_tb_in (i := 1407) (by decide +kernel) rfl
theorem q1408 : Cond.code yX8_ruleNow cX8_ruleNow 2 (some FieldType.long) ∈ z_tb := z_tb_in (i := 1408) (by decide +kernel) rfl
theorem q1409 : Cond.methodLink RL 208 yX8_violated ∈ z_tb := z_tb_in (i := 1409) (by decide +kernel) rfl
theorem q1410 : Cond.instanceMethod yX8_violated ∈ z_tb := z_tb_in (i := 1410) (by decide +kernel) rfl
theorem q1411 : Cond.selects RX8 yX8_violated yX8_violated ∈ z_tb := z_tb_in (i := 1411) (by decide +kernel) rfl
theorem q1412 : Cond.code yX8_violated cX8_violated 3 (some FieldType.int) ∈ z_tb := z_tb_in (i := 1412) (by decide +kernel) rfl
theorem q1413 : Cond.methodLink RL 213 yX8_type ∈ z_tb := z_tb_in (i := 1413) (by decide +kernel) rfl
theorem q1414 : Cond.instanceMethod yX8_type ∈ z_tb := z_tb_in (i := 1414) (by decide +kernel) rfl
theorem q1415 : Cond.selects RX8 yX8_type yX8_type ∈ z_tb := z_tb_in (i := 1415) (by decide +kernel) rfl
theorem q1416 : Cond.code yX8_type cX8_type 2 (some FieldType.int) ∈ z_tb := z_tb_in (i := 1416) (by decide +kernel) rfl
theorem q1417 : Cond.methodLink RL 217 yX8_clearText ∈ z_tb := z_tb_in (i := 1417) (by decide +kernel) rfl
theorem q1418 : Cond.instanceMethod yX8_clearText ∈ z_tb := z_tb_in (i := 1418) (by decide +kernel) rfl
theorem q1419 : Cond.selects RX8 yX8_clearText yX8_clearText ∈ z_tb := z_tb_in (i := 1419) (by decide +kernel) rfl
theorem q1420 : Cond.code yX8_clearText cX8_clearText 2 (some FieldType.int) ∈ z_tb := z_tb_in (i := 1420) (by decide +kernel) rfl
theorem q1421 : Cond.methodLink RL 221 yX8_readText ∈ z_tb := z_tb_in (i := 1421) (by decide +kernel) rfl
theorem q1422 : Cond.instanceMethod yX8_readText ∈ z_tb := z_tb_in (i := 1422) (by decide +kernel) rfl
theorem q1423 : Cond.selects RX8 yX8_readText yX8_readText ∈ z_tb := z_tb_in (i := 1423) (by decide +kernel) rfl
theorem q1424 : Cond.code yX8_readText cX8_readText 2 (some FieldType.int) ∈ z_tb := z_tb_in (i := 1424) (by decide +kernel) rfl
theorem q1425 : Cond.methodLink RX8 341 yX8_readAll ∈ z_tb := z_tb_in (i := 1425) (by decide +kernel) rfl
theorem q1427 : Cond.instanceMethod yX8_readAll ∈ z_tb := z_tb_in (i := 1427) (by decide +kernel) rfl
theorem q1428 : Cond.code yX8_readAll cX8_readAll 4 (some FieldType.int) ∈ z_tb := z_tb_in (i := 1428) (by decide +kernel) rfl
theorem q1429 : Cond.methodLink RX8 338 yX8_readItem ∈ z_tb := z_tb_in (i := 1429) (by decide +kernel) rfl
theorem q1431 : Cond.instanceMethod yX8_readItem ∈ z_tb := z_tb_in (i := 1431) (by decide +kernel) rfl
theorem q1432 : Cond.code yX8_readItem cX8_readItem 6 none ∈ z_tb := z_tb_in (i := 1432) (by decide +kernel) rfl
theorem q1433 : Cond.methodLink RX8 299 yX8_isAt ∈ z_tb := z_tb_in (i := 1433) (by decide +kernel) rfl
theorem q1435 : Cond.instanceMethod yX8_isAt ∈ z_tb := z_tb_in (i := 1435) (by decide +kernel) rfl
theorem q1436 : Cond.code yX8_isAt cX8_isAt 2 (some FieldType.boolean) ∈ z_tb := z_tb_in (i := 1436) (by decide +kernel) rfl
theorem q1437 : Cond.methodLink RX8 303 yX8_fail ∈ z_tb := z_tb_in (i := 1437) (by decide +kernel) rfl
theorem q1439 : Cond.instanceMethod yX8_fail ∈ z_tb := z_tb_in (i := 1439) (by decide +kernel) rfl
theorem q1440 : Cond.code yX8_fail cX8_fail 2 none ∈ z_tb := z_tb_in (i := 1440) (by decide +kernel) rfl
theorem q1441 : Cond.methodLink RX8 309 yX8_number ∈ z_tb := z_tb_in (i := 1441) (by decide +kernel) rfl
theorem q1443 : Cond.instanceMethod yX8_number ∈ z_tb := z_tb_in (i := 1443) (by decide +kernel) rfl
theorem q1444 : Cond.code yX8_number cX8_number 8 (some FieldType.int) ∈ z_tb := z_tb_in (i := 1444) (by decide +kernel) rfl
theorem q1445 : Cond.methodLink RX8 306 yX8_isDigit ∈ z_tb := z_tb_in (i := 1445) (by decide +kernel) rfl
theorem q1447 : Cond.instanceMethod yX8_isDigit ∈ z_tb := z_tb_in (i := 1447) (by decide +kernel) rfl
theorem q1448 : Cond.code yX8_isDigit cX8_isDigit 1 (some FieldType.boolean) ∈ z_tb := z_tb_in (i := 1448) (by decide +kernel) rfl
theorem q1449 : Cond.methodLink RX8 328 yX8_setSteps ∈ z_tb := z_tb_in (i := 1449) (by decide +kernel) rfl
theorem q1450 : Cond.methodLink RX8 331 yX8_readPlace ∈ z_tb := z_tb_in (i := 1450) (by decide +kernel) rfl
theorem q1452 : Cond.instanceMethod yX8_readPlace ∈ z_tb := z_tb_in (i := 1452) (by decide +kernel) rfl
theorem q1453 : Cond.code yX8_readPlace cX8_readPlace 3 none ∈ z_tb := z_tb_in (i := 1453) (by decide +kernel) rfl
theorem q1454 : Cond.methodLink RX8 313 yX8_expect ∈ z_tb := z_tb_in (i := 1454) (by decide +kernel) rfl
theorem q1456 : Cond.instanceMethod yX8_expect ∈ z_tb := z_tb_in (i := 1456) (by decide +kernel) rfl
theorem q1457 : Cond.code yX8_expect cX8_expect 2 none ∈ z_tb := z_tb_in (i := 1457) (by decide +kernel) rfl
theorem q1458 : Cond.methodLink RX8 325 yX8_setEccentricity ∈ z_tb := z_tb_in (i := 1458) (by decide +kernel) rfl
theorem q1459 : Cond.instanceMethod yX8_setEccentricity ∈ z_tb := z_tb_in (i := 1459) (by decide +kernel) rfl
theorem q1460 : Cond.selects RX8 yX8_setEccentricity yX8_setEccentricity ∈ z_tb := z_tb_in (i := 1460) (by decide +kernel) rfl
theorem q1461 : Cond.code yX8_setEccentricity cX8_setEccentricity 4 (some FieldType.int) ∈ z_tb := z_tb_in (i := 1461) (by decide +kernel) rfl
theorem q1462 : Cond.constantLong RX8 350 (-5000) ∈ z_tb := z_tb_in (i := 1462) (by decide +kernel) rfl
theorem q1463 : Cond.constantLong RX8 352 (5000) ∈ z_tb := z_tb_in (i := 1463) (by decide +kernel) rfl
theorem q1464 : Cond.methodLink RX8 334 yX8_readLobes ∈ z_tb := z_tb_in (i := 1464) (by decide +kernel) rfl
theorem q1466 : Cond.instanceMethod yX8_readLobes ∈ z_tb := z_tb_in (i := 1466) (by decide +kernel) rfl
theorem q1467 : Cond.code yX8_readLobes cX8_readLobes 5 none ∈ z_tb := z_tb_in (i := 1467) (by decide +kernel) rfl
theorem q1468 : Cond.methodLink RX8 321 yX8_addLobes ∈ z_tb := z_tb_in (i := 1468) (by decide +kernel) rfl
theorem q1469 : Cond.instanceMethod yX8_addLobes ∈ z_tb := z_tb_in (i := 1469) (by decide +kernel) rfl
theorem q1470 : Cond.selects RX8 yX8_addLobes yX8_addLobes ∈ z_tb := z_tb_in (i := 1470) (by decide +kernel) rfl
theorem q1471 : Cond.code yX8_addLobes cX8_addLobes 9 (some FieldType.int) ∈ z_tb := z_tb_in (i := 1471) (by decide +kernel) rfl
theorem q1472 : Cond.constantLong RX8 354 (-1000) ∈ z_tb := z_tb_in (i := 1472) (by decide +kernel) rfl
theorem q1473 : Cond.constantLong RX8 356 (1000) ∈ z_tb := z_tb_in (i := 1473) (by decide +kernel) rfl
theorem q1474 : Cond.methodLink RX8 358 yX8_kept ∈ z_tb := z_tb_in (i := 1474) (by decide +kernel) rfl
theorem q1475 : Cond.static yX8_kept ∈ z_tb := z_tb_in (i := 1475) (by decide +kernel) rfl
theorem q1476 : Cond.code yX8_kept cX8_kept 3 (some FieldType.int) ∈ z_tb := z_tb_in (i := 1476) (by decide +kernel) rfl
theorem q1477 : Cond.methodLink RL 226 yX8_setTrue ∈ z_tb := z_tb_in (i := 1477) (by decide +kernel) rfl
theorem q1478 : Cond.instanceMethod yX8_setTrue ∈ z_tb := z_tb_in (i := 1478) (by decide +kernel) rfl
theorem q1479 : Cond.selects RX8 yX8_setTrue yX8_setTrue ∈ z_tb := z_tb_in (i := 1479) (by decide +kernel) rfl
theorem q1480 : Cond.code yX8_setTrue cX8_setTrue 6 (some FieldType.int) ∈ z_tb := z_tb_in (i := 1480) (by decide +kernel) rfl
theorem q1481 : Cond.methodLink RL 231 yX8_addLobes ∈ z_tb := z_tb_in (i := 1481) (by decide +kernel) rfl
theorem q1482 : Cond.methodLink RL 235 yX8_setEccentricity ∈ z_tb := z_tb_in (i := 1482) (by decide +kernel) rfl
theorem q1483 : Cond.methodLink RL 26 yX8_simulateStep ∈ z_tb := z_tb_in (i := 1483) (by decide +kernel) rfl
theorem q1484 : Cond.instanceMethod yX8_simulateStep ∈ z_tb := z_tb_in (i := 1484) (by decide +kernel) rfl
theorem q1485 : Cond.selects RX8 yX8_simulateStep yX8_simulateStep ∈ z_tb := z_tb_in (i := 1485) (by decide +kernel) rfl
theorem q1486 : Cond.code yX8_simulateStep cX8_simulateStep 6 (some FieldType.int) ∈ z_tb := z_tb_in (i := 1486) (by decide +kernel) rfl
theorem q1487 : Cond.constantLong RL 139 (4294967295) ∈ z_tb := z_tb_in (i := 1487) (by decide +kernel) rfl
end
section
/-! THE STORE: the system's cells, numbered; two functions hold the ints and the longs of each cell. -/
/-- ints (and chars), longs: cell, slot -/
abbrev z_St : Type := (Nat → Nat → Int32) × (Nat → Nat → Int64)
/-- addresses of the cells; numbers of the classes and slots; classes of arrays; addresses of the tables; the first address of ours -/
abbrev z_Gl : Type := (Nat → Nat) × (Nat → ClassId) × (Nat → Nat → Nat) × (Nat → ClassId) × (Nat → Nat) × Nat
def z_ad (G : z_Gl) : Nat → Nat := G.1
def z_dd (G : z_Gl) : va_G := (G.2.1, G.2.2.1)
def z_ca (G : z_Gl) : Nat → ClassId := G.2.2.2.1
def z_ta (G : z_Gl) : Nat → Nat := G.2.2.2.2.1
def z_lo (G : z_Gl) : Nat := G.2.2.2.2.2
def z_A (G : z_Gl) : Nat → Prop := fun q => z_lo G ≤ q
abbrev z_tys (G : z_Gl) : List (ClassId × FieldType) := [(z_ca G 0, .int), (z_ca G 1, .long), (z_ca G 2, .char), (z_ca G 3, .object RX0), (z_ca G 4, .array .long)]
/-- kind (0 object, 1 int[], 2 long[], 3 char[], 4 Circle[], 5 long[][]) and class or length of each cell -/
def z_lay : List (Nat × Nat) := [
  (0, 7),
  (0, 2), (1, 288), (1, 24), (2, 24),
  (0, 5), (1, 24), (1, 24),
  (0, 1), (5, 21),
  (2, 24), (2, 24), (2, 24), (2, 24), (2, 24), (2, 24), (2, 24), (2, 24), (2, 24), (2, 24), (2, 24), (2, 24), (2, 24), (2, 24), (2, 24), (2, 24), (2, 24), (2, 24), (2, 24), (2, 24), (2, 24),
  (4, 4),
  (0, 6), (5, 6), (2, 24), (2, 24), (2, 24), (2, 24), (2, 24), (2, 24), (1, 6), (2, 6), (2, 6), (2, 6),
  (0, 3), (1, 8), (1, 8), (1, 8), (1, 8), (4, 8),
  (0, 0), (2, 24), (2, 24), (1, 24), (0, 0), (2, 24), (2, 24), (1, 24), (0, 0), (2, 24), (2, 24), (1, 24), (0, 0), (2, 24), (2, 24), (1, 24),
  (0, 0), (2, 24), (2, 24), (1, 24), (0, 0), (2, 24), (2, 24), (1, 24), (0, 0), (2, 24), (2, 24), (1, 24), (0, 0), (2, 24), (2, 24), (1, 24),
  (0, 4), (3, 200), (1, 67), (1, 67), (1, 67), (1, 67),
  (2, 24),
  (0, 0), (2, 24), (2, 24), (1, 24), (0, 0), (2, 24), (2, 24), (1, 24), (0, 0), (2, 24), (2, 24), (1, 24), (0, 0), (2, 24), (2, 24), (1, 24),
  (0, 8), (1, 7), (1, 288), (2, 24), (2, 24), (2, 480), (2, 480), (1, 8), (1, 8), (2, 24), (2, 144), (1, 6), (1, 32), (3, 200), (1, 48)]
def z_kd (i : Nat) : Nat := (z_lay.getD i (9, 0)).1
def z_sz (i : Nat) : Nat := (z_lay.getD i (9, 0)).2
/-- the cell that place j of a cell of references holds -/
def z_rf (i j : Nat) : Nat := if i = 9 then 10 + j else if i = 31 then 89 + 4 * j else if i = 33 then 34 + j else 50 + 4 * j
/-- the values of an object's fields -/
def z_fl (G : z_Gl) (i : Nat) (f : Nat → Int32) (g : Nat → Int64) (c : Nat) : List Value := match c with
  | 0 => [.ref (z_ad G (i + 1)), .ref (z_ad G (i + 2)), .ref (z_ad G (i + 3)), .int (f 3), .int (f 4), .long (g 5), .long (g 6), .long (g 7), .long (g 8)]
  | 1 => [.ref (z_ad G 9), .int (f 1), .int (f 2), .int (f 3)]
  | 2 => [.ref (z_ad G 2), .ref (z_ad G 3), .ref (z_ad G 4), .int (f 3), .int (f 4)]
  | 3 => [.ref (z_ad G 45), .ref (z_ad G 46), .ref (z_ad G 47), .ref (z_ad G 48), .ref (z_ad G 49), .int (f 5)]
  | 4 => [.ref (z_ad G 83), .ref (z_ad G 84), .ref (z_ad G 85), .ref (z_ad G 86), .ref (z_ad G 87), .int (f 5), .int (f 6), .int (f 7), .int (f 8), .int (f 9)]
  | 5 => [.ref (z_ad G 6), .ref (z_ad G 7), .int (f 2), .int (f 3)]
  | 6 => [.ref (z_ad G 33), .ref (z_ad G 40), .ref (z_ad G 41), .ref (z_ad G 42), .ref (z_ad G 43), .int (f 5)]
  | 7 => [.ref (z_ad G 1), .ref (z_ad G 5), .ref (z_ad G 8), .ref (z_ad G 31), .ref (z_ad G 32), .ref (z_ad G 44), .ref (z_ad G 82), .ref (z_ad G 88)]
  | _ => [.ref (z_ad G 106), .int (f 1), .int (f 2), .ref (z_ad G 107), .ref (z_ad G 108), .ref (z_ad G 109), .ref (z_ad G 110), .ref (z_ad G 111), .int (f 8), .int (f 9), .long (g 10), .long (g 11), .long (g 12), .long (g 13), .ref (z_ad G 112), .ref (z_ad G 113), .ref (z_ad G 114), .int (f 17), .ref (z_ad G 115), .ref (z_ad G 116), .int (f 20), .ref (z_ad G 117), .int (f 22), .ref (z_ad G 118), .int (f 24), .int (f 25), .int (f 26), .ref (z_ad G 119), .int (f 28), .int (f 29)]
/-- what a cell holds, given its ints and longs -/
def z_E (G : z_Gl) (i : Nat) (f : Nat → Int32) (g : Nat → Int64) : va_E := match z_kd i with
  | 0 => .inr (z_sz i, z_fl G i f g (z_sz i))
  | 1 => .inl (z_ca G 0, z_sz i, .inl f)
  | 2 => .inl (z_ca G 1, z_sz i, .inr (.inl g))
  | 3 => .inl (z_ca G 2, z_sz i, .inl f)
  | 4 => .inl (z_ca G 3, z_sz i, .inr (.inr (.inr (.inr (fun j => some (z_ad G (z_rf i j)))))))
  | _ => .inl (z_ca G 4, z_sz i, .inr (.inr (.inr (.inr (fun j => some (z_ad G (z_rf i j)))))))
theorem z_E0 {G : z_Gl} {i c : Nat} {f : Nat → Int32} {g : Nat → Int64} (h : z_kd i = 0) (hc : z_sz i = c) : z_E G i f g = .inr (c, z_fl G i f g c) := by unfold z_E; rw [h, hc]; rfl
theorem z_E1 {G : z_Gl} {i n : Nat} {f : Nat → Int32} {g : Nat → Int64} (h : z_kd i = 1) (hc : z_sz i = n) : z_E G i f g = .inl (z_ca G 0, n, .inl f) := by unfold z_E; rw [h, hc]; rfl
theorem z_E2 {G : z_Gl} {i n : Nat} {f : Nat → Int32} {g : Nat → Int64} (h : z_kd i = 2) (hc : z_sz i = n) : z_E G i f g = .inl (z_ca G 1, n, .inr (.inl g)) := by unfold z_E; rw [h, hc]; rfl
theorem z_E3 {G : z_Gl} {i n : Nat} {f : Nat → Int32} {g : Nat → Int64} (h : z_kd i = 3) (hc : z_sz i = n) : z_E G i f g = .inl (z_ca G 2, n, .inl f) := by unfold z_E; rw [h, hc]; rfl
theorem z_E4 {G : z_Gl} {i n : Nat} {f : Nat → Int32} {g : Nat → Int64} (h : z_kd i = 4) (hc : z_sz i = n) : z_E G i f g = .inl (z_ca G 3, n, .inr (.inr (.inr (.inr (fun j => some (z_ad G (z_rf i j))))))) := by unfold z_E; rw [h, hc]; rfl
theorem z_E5 {G : z_Gl} {i n : Nat} {f : Nat → Int32} {g : Nat → Int64} (h : z_kd i = 5) (hc : z_sz i = n) : z_E G i f g = .inl (z_ca G 4, n, .inr (.inr (.inr (.inr (fun j => some (z_ad G (z_rf i j))))))) := by unfold z_E; rw [h, hc]; rfl
theorem z_kd_lt {i k : Nat} (h : z_kd i = k) (hk : k < 9) : i < 120 := by
  rcases Nat.lt_or_ge i 120 with q | q
  · exact q
  · have : z_kd i = 9 := by
      unfold z_kd
      rw [List.getD_eq_getElem?_getD, List.getElem?_eq_none (by show 120 ≤ i; exact q)]
      rfl
    omega
/-- the world -/
def z_W (G : z_Gl) (σ : z_St) : va_W := (List.range 120).map (fun i => (z_ad G i, z_E G i (σ.1 i) (σ.2 i)))
theorem z_W_at {G : z_Gl} {σ : z_St} {i : Nat} (h : i < 120) : (z_W G σ)[i]? = some (z_ad G i, z_E G i (σ.1 i) (σ.2 i)) := by
  unfold z_W
  rw [List.getElem?_map, List.getElem?_range h]
  rfl
/-- a place of a cell of ints, of longs, a whole cell -/
def z_ui (σ : z_St) (i j : Nat) (x : Int32) : z_St := (fun a => if a = i then upd (σ.1 a) j x else σ.1 a, σ.2)
def z_ul (σ : z_St) (i j : Nat) (x : Int64) : z_St := (σ.1, fun a => if a = i then vp_updL (σ.2 a) j x else σ.2 a)
def z_uI (σ : z_St) (i : Nat) (f : Nat → Int32) : z_St := (fun a => if a = i then f else σ.1 a, σ.2)
def z_uL (σ : z_St) (i : Nat) (f : Nat → Int64) : z_St := (σ.1, fun a => if a = i then f else σ.2 a)
theorem z_W_set {G : z_Gl} {σ σ' : z_St} {i : Nat} {e : va_E} (he : z_E G i (σ'.1 i) (σ'.2 i) = e) (h1 : ∀ a, a ≠ i → σ'.1 a = σ.1 a) (h2 : ∀ a, a ≠ i → σ'.2 a = σ.2 a) : (z_W G σ).set i (z_ad G i, e) = z_W G σ' := by
  subst he
  apply List.ext_getElem?
  intro k
  rw [List.getElem?_set]
  unfold z_W
  rw [List.getElem?_map, List.getElem?_map, List.length_map, List.length_range]
  by_cases hk : k < 120
  · rw [List.getElem?_range hk]
    by_cases e : i = k
    · subst e
      simp [hk]
    · have e' : k ≠ i := fun z => e z.symm
      simp [e, h1 k e', h2 k e']
  · have hn : (List.range 120)[k]? = none := List.getElem?_eq_none (by rw [List.length_range]; omega)
    rw [hn]
    by_cases e : i = k
    · subst e
      simp [hk]
    · simp [e]
/-- the cells are apart, and ours -/
def z_wf (G : z_Gl) : Prop := (∀ i j, i < 120 → j < 120 → z_ad G i = z_ad G j → i = j) ∧ ∀ i, i < 120 → z_lo G ≤ z_ad G i
theorem z_wf.D {G : z_Gl} (h : z_wf G) (σ : z_St) : va_D (z_A G) (z_W G σ) := by
  have key : ∀ (k : Nat) (q : Nat × va_E), (z_W G σ)[k]? = some q → k < 120 ∧ q.1 = z_ad G k := by
    intro k q hq
    by_cases hk : k < 120
    · rw [z_W_at hk] at hq
      cases hq
      exact ⟨hk, rfl⟩
    · unfold z_W at hq
      rw [List.getElem?_map, List.getElem?_eq_none (by rw [List.length_range]; omega)] at hq
      cases hq
  refine ⟨fun i j p q hi hj hpq => ?_, fun k q hq => ?_⟩
  · obtain ⟨a1, a2⟩ := key i p hi
    obtain ⟨b1, b2⟩ := key j q hj
    exact h.1 i j a1 b1 (by rw [← a2, ← b2]; exact hpq)
  · obtain ⟨a1, a2⟩ := key k q hq
    show z_lo G ≤ q.1
    rw [a2]
    exact h.2 k a1
/-- the tables of the class: cosines, sines, and the eight ways -/
def z_cosL : List Int32 := [1000000, 965926, 866025, 707107, 500000, 258819, 0, -258819, -500000, -707107, -866025, -965926, -1000000, -965926, -866025, -707107, -500000, -258819, 0, 258819, 500000, 707107, 866025, 965926]
def z_sinL : List Int32 := [0, 258819, 500000, 707107, 866025, 965926, 1000000, 965926, 866025, 707107, 500000, 258819, 0, -258819, -500000, -707107, -866025, -965926, -1000000, -965926, -866025, -707107, -500000, -258819]
def z_toxL : List Int32 := [1, 1, 0, -1, -1, -1, 0, 1]
def z_toyL : List Int32 := [0, 1, 1, 1, 0, -1, -1, -1]
def z_cos (k : Nat) : Int32 := z_cosL.getD k 0
def z_sin (k : Nat) : Int32 := z_sinL.getD k 0
def z_tox (k : Nat) : Int32 := z_toxL.getD k 0
def z_toy (k : Nat) : Int32 := z_toyL.getD k 0
def z_tv (t : Nat) : Nat → Int32 := match t with
  | 0 => z_cos
  | 1 => z_sin
  | 2 => z_tox
  | _ => z_toy
def z_tN (t : Nat) : Nat := if t < 2 then 24 else 8
def z_tC (t : Nat) : String := if t < 2 then RX7 else RX0
def z_tn (t : Nat) : String := match t with
  | 0 => "COSINES"
  | 1 => "SINES"
  | 2 => "TO_X"
  | _ => "TO_Y"
/-- links of nest mates -/
def z_nm : List (String × Nat × MethodName) := [(RX7, 11, yX2_init), (RX7, 20, yX5_init), (RX7, 27, yX1_init), (RX7, 40, yX6_init), (RX7, 47, yX3_init), (RX3, 32, yX0_init), (RX7, 54, yX4_init), (RX7, 63, yX0_init), (RX7, 73, yX2_begin), (RX7, 81, yX2_isComplete), (RX7, 86, yX2_append), (RX7, 89, yX2_nextPosition), (RX7, 93, yX2_finishedSteps), (RX7, 96, yX2_turnOf), (RX7, 100, yX5_readingAt), (RX5, 49, yX7_place), (RX5, 52, yX7_wave), (RX5, 45, yX7_clamp), (RX7, 111, yX2_at), (RX7, 114, yX2_replaceSpikes), (RX2, 41, yX7_place), (RX7, 119, yX2_partAt), (RX2, 60, yX7_divide), (RX7, 123, yX2_spindleAt), (RX7, 126, yX2_greatestResidual), (RX7, 320, yX5_profileOf), (RX7, 342, yX1_append), (RX1, 30, yX7_isSame), (RX7, 140, yX1_present), (RX7, 175, yX1_stepBack), (RX7, 181, yX1_stepForward), (RX7, 345, yX0_fit), (RX0, 42, yX7_isSame), (RX0, 52, yX7_coefficient), (RX0, 112, yX7_wave), (RX7, 210, yX0_width), (RX7, 221, yX0_firstWith), (RX7, 227, yX0_countDownTo), (RX7, 230, yX0_leastDepth), (RX7, 233, yX6_hasHeight), (RX7, 238, yX6_append), (RX6, 44, yX7_coefficient), (RX7, 241, yX6_lacks), (RX6, 34, yX7_isOutside), (RX7, 267, yX6_axisAt), (RX6, 48, yX7_divide), (RX7, 271, yX6_cylinderWidth), (RX6, 62, yX7_wave), (RX7, 274, yX6_farthest), (RX7, 277, yX6_spreadOfMeans), (RX7, 280, yX6_mismatch), (RX6, 82, yX7_place), (RX7, 284, yX6_bestMatch), (RX7, 288, yX3_append), (RX7, 302, yX4_append), (RX7, 305, yX4_parse), (RX4, 83, yX7_isOutside), (RX4, 77, yX7_isStepCount), (RX7, 311, yX5_reset), (RX7, 328, yX5_shiftTo), (RX7, 324, yX5_superpose), (RX5, 33, yX7_cosine)]
def z_nf : List (String × Nat × String × String × String) := [(RX7, 104, "RoundnessInstrument$Measurement", "steps", "I"), (RX7, 69, "RoundnessInstrument$Measurement", "count", "I"), (RX7, 178, "RoundnessInstrument$History", "undoable", "I"), (RX7, 184, "RoundnessInstrument$History", "redoable", "I"), (RX7, 244, "RoundnessInstrument$Traces", "profiles", "[[J"), (RX7, 254, "RoundnessInstrument$Traces", "heights", "[I"), (RX7, 258, "RoundnessInstrument$Traces", "xs", "[J"), (RX7, 261, "RoundnessInstrument$Traces", "ys", "[J"), (RX7, 264, "RoundnessInstrument$Traces", "means", "[J"), (RX7, 236, "RoundnessInstrument$Traces", "count", "I"), (RX7, 205, "RoundnessInstrument$Circle", "deviations", "[J"), (RX7, 202, "RoundnessInstrument$Circle", "x", "J"), (RX7, 198, "RoundnessInstrument$Circle", "y", "J"), (RX7, 215, "RoundnessInstrument$Circle", "greatest", "J"), (RX7, 218, "RoundnessInstrument$Circle", "least", "J"), (RX7, 348, "RoundnessInstrument$Rules", "firsts", "[I"), (RX7, 351, "RoundnessInstrument$Rules", "lasts", "[I"), (RX7, 355, "RoundnessInstrument$Rules", "methods", "[I"), (RX7, 294, "RoundnessInstrument$Rules", "limits", "[I"), (RX7, 354, "RoundnessInstrument$Rules", "circles", "[LRoundnessInstrument$Circle;"), (RX7, 287, "RoundnessInstrument$Rules", "count", "I"), (RX7, 362, "RoundnessInstrument$Script", "kinds", "[I"), (RX7, 358, "RoundnessInstrument$Script", "firsts", "[I"), (RX7, 359, "RoundnessInstrument$Script", "seconds", "[I"), (RX7, 365, "RoundnessInstrument$Script", "thirds", "[I"), (RX7, 299, "RoundnessInstrument$Script", "length", "I"), (RX7, 314, "RoundnessInstrument$Script", "items", "I"), (RX7, 308, "RoundnessInstrument$Script", "fault", "I"), (RX0, 93, "RoundnessInstrument", "COSINES", "[I"), (RX0, 96, "RoundnessInstrument", "SINES", "[I")]
def z_N (U : State) : Prop := (∀ q ∈ z_nm, va_Nw (.methodLinkNest q.1 q.2.1 q.2.2 RX7) U) ∧ ∀ q ∈ z_nf, va_Nw (.fieldLinkNest q.1 q.2.1 q.2.2.1 q.2.2.2.1 q.2.2.2.2 RX7) U
theorem z_N.warm {s U : State} (h : z_N s) (hW : s.WarmedH U.vm) : z_N U := ⟨fun q hq => va_Nw.warmM hW (h.1 q hq), fun q hq => va_Nw.warmF hW (h.2 q hq)⟩
theorem z_N.same {s U : State} (h : z_N s) (hv : s.vm = U.vm) : z_N U := ⟨fun q hq => va_Nw.same rfl hv (h.1 q hq), fun q hq => va_Nw.same rfl hv (h.2 q hq)⟩
/-- what is known of a state beside the store -/
def z_U (G : z_Gl) (U : State) : Prop := va_K (z_dd G) vwCl (z_tys G) U ∧ z_wf G ∧ (∀ t, t < 4 → va_Z (z_tC t) (z_tn t) "[I" (.ref (z_ta G t)) (z_A G) U U.heap ∧ va_T .int (z_ta G t) (z_tN t) (fun j => .int (z_tv t j)) (z_A G) U U.heap) ∧ z_N U
theorem z_U.go {G : z_Gl} {s U : State} {H : Heap} {locs : List Loc} (h : z_U G s) (hS : va_S (z_A G) s.heap H locs) (hU : U.heap = H) (hW : s.WarmedH U.vm) : z_U G U := by
  obtain ⟨h1, h2, h3, h4⟩ := h
  have hk : ∀ a : Nat, a < s.heap.size → ¬ z_A G a → U.heap[a]? = s.heap[a]? := fun a ha hn => by rw [hU]; exact hS.2.1 a ha hn
  exact ⟨va_K.moved hW.alike h1, h2, fun t ht => ⟨((h3 t ht).1.moved hW.alike).kept hk, ((h3 t ht).2.moved hW.alike).kept hk⟩, h4.warm hW⟩
def z_P (G : z_Gl) (σ : z_St) (H : Heap) : Prop := va_P (z_dd G) vwCl (z_W G σ) H
def z_PW (G : z_Gl) (av : List Value) (σ : z_St) : Array Value → State → Prop := fun v U => v = av.toArray ∧ z_P G σ U.heap ∧ z_U G U
def z_QW (G : z_Gl) (post : Option Value → z_St → Prop) : Array Value → State → Outcome → State → Prop := fun _ st oc t => (∃ (v : Option Value) (σ : z_St), oc = .returned v ∧ post v σ ∧ z_P G σ t.heap) ∧ va_F (z_A G) st t
theorem z_PW.blind {G : z_Gl} {av : List Value} {σ : z_St} : FrameBlind (z_PW G av σ) := fun a U g mk q => by
  obtain ⟨q0, q1, q2, q3, q4, q5⟩ := q
  exact ⟨q0, q1, va_K.moved (u := U) (U := U.calling g mk a) (Vm.Alike.refl U.vm) q2, q3, fun t ht => ⟨(q4 t ht).1.moved (u := U) (U := U.calling g mk a) (Vm.Alike.refl U.vm), (q4 t ht).2.moved (u := U) (U := U.calling g mk a) (Vm.Alike.refl U.vm)⟩, q5.same rfl⟩
/-- A METHOD'S CONTRACT over the store -/
def z_M (l : Launch) (G : z_Gl) (y : MethodName) (cc : ByteArray) (n : Nat) (ret : Option FieldType) (rm : Room) (av : List Value) (σ : z_St) (post : Option Value → z_St → Prop) : Prop := Met l y (.code y cc n ret :: z_tb) rm (z_PW G av σ) (z_QW G post) 0 0 (z_A G)
/-- THE JUDGEMENT: from here, with this store, these locals, this stack, the machine comes to Q -/
def z_V (p : Program) (l : Launch) (e : Env) (R : Room) (s : State) (m : MethodId) (args : Array Value) (below : List Frame) (meth : Method) (c : Code) (G : z_Gl) (ce sl : Nat) (Q : State → Prop) (nL pc : Nat) (lv : List (Nat × Value)) (st : List Value) (σ : z_St) : Prop :=
  ∀ (H : Heap) (locs : List Loc) (ls : Array Slot), z_P G σ H → va_S (z_A G) s.heap H locs → lv_has ls nL lv → W p l e R s m args below meth c H locs ce sl Q (F0 m pc ls st)
/-- what holds in a method's body -/
def z_C (p : Program) (s : State) (m : MethodId) (args : Array Value) (meth : Method) (c : Code) (G : z_Gl) (cc : ByteArray) (nL : Nat) (own : String) (ret : Option FieldType) : Prop :=
  p.tables.exec = Jvm.exec ∧ c.code = cc ∧ c.maxLocals = nL ∧ s.vm.findClass own = some m.cls ∧ (∀ w ∈ z_tb, w.before args s = true) ∧ z_U G s ∧ meth.sig.returnType = ret ∧ meth.locks = false
/-- a contract out of its body -/
theorem z_M.of {l : Launch} {G : z_Gl} {y : MethodName} {cc : ByteArray} {n : Nat} {ret : Option FieldType} {rm : Room} {av : List Value} {σ : z_St} {post : Option Value → z_St → Prop} (hy : plainName y.cls = true) (hn : (lg_sl av).length ≤ n)
    (body : ∀ (p : Program) (e : Env) (s : State) (m : MethodId) (below : List Frame) (meth : Method) (c : Code), z_C p s m av.toArray meth c G cc n y.cls ret → z_V p l e rm s m av.toArray below meth c G 0 0 (MQ below (z_QW G post) av.toArray s 0 0 (z_A G)) n 0 (lv_args 0 av) [] σ) : z_M l G y cc n ret rm av σ post := by
  refine Met.ofW (cc := cc) (maxL := n) (ret := ret) hy rfl ?_
  intro p e s m args below meth c s₁ B hml hv
  obtain ⟨rfl, hP, hU⟩ := hv
  have hts := atoms_spec (ws := .code y cc n ret :: z_tb) B.pre
  have hown : s.vm.findClass y.cls = some m.cls := findClass_of_methodNamed B.named
  rw [lg_entry_eq]
  exact body p e s m below meth c ⟨B.exec, B.bytes, hml, hown, fun w h => hts w (List.mem_cons_of_mem _ h), hU, B.returns, B.notSynchronized⟩ s.heap [] _ hP va_S.rf (lv_entry av hn)
end
section
section ZR
variable {p : Program} {l : Launch} {e : Env} {R : Room} {s : State} {m : MethodId} {args : Array Value} {below : List Frame} {meth : Method} {c : Code} {G : z_Gl} {ce sl : Nat} {Q : State → Prop} {nL : Nat} {lv : List (Nat × Value)} {st : List Value} {σ : z_St} {cc : ByteArray} {own : String} {ret : Option FieldType}
theorem z_iconst (pc : Nat) (C : z_C p s m args meth c G cc nL own ret) {n : Int} (hd : decode cc pc = .ok (.iconst n, 1))  (v : Int32) (hv : Int32.ofInt n = v) (k : z_V p l e R s m args below meth c G ce sl Q nL (pc + 1) lv (.int v :: st) σ) : z_V p l e R s m args below meth c G ce sl Q nL pc lv (st) σ := fun H locs ls h1 h2 h3 => lv_iconst C.1 C.2.1 hd hv (k H locs ls h1 h2 h3)
theorem z_bipush (pc : Nat) (C : z_C p s m args meth c G cc nL own ret) {n : Int} (hd : decode cc pc = .ok (.bipush n, 2))  (v : Int32) (hv : (Int8.ofInt n).toInt32 = v) (k : z_V p l e R s m args below meth c G ce sl Q nL (pc + 2) lv (.int v :: st) σ) : z_V p l e R s m args below meth c G ce sl Q nL pc lv (st) σ := fun H locs ls h1 h2 h3 => lv_bipush C.1 C.2.1 hd hv (k H locs ls h1 h2 h3)
theorem z_sipush (pc : Nat) (C : z_C p s m args meth c G cc nL own ret) {n : Int} (hd : decode cc pc = .ok (.sipush n, 3))  (v : Int32) (hv : (Int16.ofInt n).toInt32 = v) (k : z_V p l e R s m args below meth c G ce sl Q nL (pc + 3) lv (.int v :: st) σ) : z_V p l e R s m args below meth c G ce sl Q nL pc lv (st) σ := fun H locs ls h1 h2 h3 => lv_sipush C.1 C.2.1 hd hv (k H locs ls h1 h2 h3)
theorem z_lconst (pc : Nat) (C : z_C p s m args meth c G cc nL own ret) {n : Fin 2} (hd : decode cc pc = .ok (.lconst n, 1))  (v : Int64) (hv : Int64.ofNat (n : Nat) = v) (k : z_V p l e R s m args below meth c G ce sl Q nL (pc + 1) lv (.long v :: st) σ) : z_V p l e R s m args below meth c G ce sl Q nL pc lv (st) σ := fun H locs ls h1 h2 h3 => lv_lconst C.1 C.2.1 hd hv (k H locs ls h1 h2 h3)
theorem z_ldc (pc : Nat) (C : z_C p s m args meth c G cc nL own ret) {i : Nat} {v : Int32} (hd : decode cc pc = .ok (.ldc i, 2))   (hq : Cond.constant own i v ∈ z_tb) (k : z_V p l e R s m args below meth c G ce sl Q nL (pc + 2) lv (.int v :: st) σ) : z_V p l e R s m args below meth c G ce sl Q nL pc lv (st) σ := fun H locs ls h1 h2 h3 => lv_ldc C.1 C.2.1 C.2.2.2.1 (C.2.2.2.2.1 _ hq) hd (k H locs ls h1 h2 h3)
theorem z_ldcw (pc : Nat) (C : z_C p s m args meth c G cc nL own ret) {i : Nat} {v : Int32} (hd : decode cc pc = .ok (.ldc_w i, 3))   (hq : Cond.constant own i v ∈ z_tb) (k : z_V p l e R s m args below meth c G ce sl Q nL (pc + 3) lv (.int v :: st) σ) : z_V p l e R s m args below meth c G ce sl Q nL pc lv (st) σ := fun H locs ls h1 h2 h3 => lv_ldcw C.1 C.2.1 C.2.2.2.1 (C.2.2.2.2.1 _ hq) hd (k H locs ls h1 h2 h3)
theorem z_ldc2 (pc : Nat) (C : z_C p s m args meth c G cc nL own ret) {i : Nat} {v : Int64} (hd : decode cc pc = .ok (.ldc2_w i, 3))   (hq : Cond.constantLong own i v ∈ z_tb) (k : z_V p l e R s m args below meth c G ce sl Q nL (pc + 3) lv (.long v :: st) σ) : z_V p l e R s m args below meth c G ce sl Q nL pc lv (st) σ := fun H locs ls h1 h2 h3 => lv_ldc2 C.1 C.2.1 C.2.2.2.1 (C.2.2.2.2.1 _ hq) hd (k H locs ls h1 h2 h3)
theorem z_ldc2d (pc : Nat) (C : z_C p s m args meth c G cc nL own ret) {i : Nat} {v : UInt64} (hd : decode cc pc = .ok (.ldc2_w i, 3))   (hq : Cond.constantDouble own i v ∈ z_tb) (k : z_V p l e R s m args below meth c G ce sl Q nL (pc + 3) lv (.double v :: st) σ) : z_V p l e R s m args below meth c G ce sl Q nL pc lv (st) σ := fun H locs ls h1 h2 h3 => lv_ldc2d C.1 C.2.1 C.2.2.2.1 (C.2.2.2.2.1 _ hq) hd (k H locs ls h1 h2 h3)
theorem z_iload_n (pc : Nat) (C : z_C p s m args meth c G cc nL own ret) {i : Fin 4} {x : Int32} (hd : decode cc pc = .ok (.iload_n i, 1)) (j : Nat)   (hl : lv[j]? = some ((i : Nat), .int x)) (k : z_V p l e R s m args below meth c G ce sl Q nL (pc + 1) lv (.int x :: st) σ) : z_V p l e R s m args below meth c G ce sl Q nL pc lv (st) σ := fun H locs ls h1 h2 h3 => lv_iload_n C.1 C.2.1 hd rfl (lv_at h3 j hl) (k H locs ls h1 h2 h3)
theorem z_iload (pc : Nat) (C : z_C p s m args meth c G cc nL own ret) {i : Nat} {x : Int32} (hd : decode cc pc = .ok (.iload i, 2)) (j : Nat)   (hl : lv[j]? = some (i, .int x)) (k : z_V p l e R s m args below meth c G ce sl Q nL (pc + 2) lv (.int x :: st) σ) : z_V p l e R s m args below meth c G ce sl Q nL pc lv (st) σ := fun H locs ls h1 h2 h3 => lv_iload C.1 C.2.1 hd (lv_at h3 j hl) (k H locs ls h1 h2 h3)
theorem z_istore_n (pc : Nat) (C : z_C p s m args meth c G cc nL own ret) {i : Fin 4} {x : Int32} (hd : decode cc pc = .ok (.istore_n i, 1)) (lv1 : List (Nat × Value))   (hn : (i : Nat) < nL) (hl : ((i : Nat), Value.int x) :: lv.filter (fun q => !(q.1 == (i : Nat)) && !(q.1 + 1 == (i : Nat) && q.2.category == 2)) = lv1) (k : z_V p l e R s m args below meth c G ce sl Q nL (pc + 1) lv1 (st) σ) : z_V p l e R s m args below meth c G ce sl Q nL pc lv (.int x :: st) σ := fun H locs ls h1 h2 h3 => lv_istore_n C.1 C.2.1 hd rfl h3 hn hl (fun ls1 g => k H locs ls1 h1 h2 g)
theorem z_istore (pc : Nat) (C : z_C p s m args meth c G cc nL own ret) {i : Nat} {x : Int32} (hd : decode cc pc = .ok (.istore i, 2)) (lv1 : List (Nat × Value))   (hn : (i : Nat) < nL) (hl : ((i : Nat), Value.int x) :: lv.filter (fun q => !(q.1 == (i : Nat)) && !(q.1 + 1 == (i : Nat) && q.2.category == 2)) = lv1) (k : z_V p l e R s m args below meth c G ce sl Q nL (pc + 2) lv1 (st) σ) : z_V p l e R s m args below meth c G ce sl Q nL pc lv (.int x :: st) σ := fun H locs ls h1 h2 h3 => lv_istore C.1 C.2.1 hd h3 hn hl (fun ls1 g => k H locs ls1 h1 h2 g)
theorem z_lload_n (pc : Nat) (C : z_C p s m args meth c G cc nL own ret) {i : Fin 4} {x : Int64} (hd : decode cc pc = .ok (.lload_n i, 1)) (j : Nat)   (hl : lv[j]? = some ((i : Nat), .long x)) (k : z_V p l e R s m args below meth c G ce sl Q nL (pc + 1) lv (.long x :: st) σ) : z_V p l e R s m args below meth c G ce sl Q nL pc lv (st) σ := fun H locs ls h1 h2 h3 => lv_lload_n C.1 C.2.1 hd rfl (lv_at h3 j hl) (k H locs ls h1 h2 h3)
theorem z_lload (pc : Nat) (C : z_C p s m args meth c G cc nL own ret) {i : Nat} {x : Int64} (hd : decode cc pc = .ok (.lload i, 2)) (j : Nat)   (hl : lv[j]? = some (i, .long x)) (k : z_V p l e R s m args below meth c G ce sl Q nL (pc + 2) lv (.long x :: st) σ) : z_V p l e R s m args below meth c G ce sl Q nL pc lv (st) σ := fun H locs ls h1 h2 h3 => lv_lload C.1 C.2.1 hd (lv_at h3 j hl) (k H locs ls h1 h2 h3)
theorem z_lstore_n (pc : Nat) (C : z_C p s m args meth c G cc nL own ret) {i : Fin 4} {x : Int64} (hd : decode cc pc = .ok (.lstore_n i, 1)) (lv1 : List (Nat × Value))   (hn : (i : Nat) + 1 < nL) (hl : ((i : Nat), Value.long x) :: lv.filter (fun q => !(q.1 == (i : Nat)) && (!(q.1 == (i : Nat) + 1) && !(q.1 + 1 == (i : Nat) && q.2.category == 2))) = lv1) (k : z_V p l e R s m args below meth c G ce sl Q nL (pc + 1) lv1 (st) σ) : z_V p l e R s m args below meth c G ce sl Q nL pc lv (.long x :: st) σ := fun H locs ls h1 h2 h3 => lv_lstore_n C.1 C.2.1 hd rfl h3 hn hl (fun ls1 g => k H locs ls1 h1 h2 g)
theorem z_lstore (pc : Nat) (C : z_C p s m args meth c G cc nL own ret) {i : Nat} {x : Int64} (hd : decode cc pc = .ok (.lstore i, 2)) (lv1 : List (Nat × Value))   (hn : (i : Nat) + 1 < nL) (hl : ((i : Nat), Value.long x) :: lv.filter (fun q => !(q.1 == (i : Nat)) && (!(q.1 == (i : Nat) + 1) && !(q.1 + 1 == (i : Nat) && q.2.category == 2))) = lv1) (k : z_V p l e R s m args below meth c G ce sl Q nL (pc + 2) lv1 (st) σ) : z_V p l e R s m args below meth c G ce sl Q nL pc lv (.long x :: st) σ := fun H locs ls h1 h2 h3 => lv_lstore C.1 C.2.1 hd h3 hn hl (fun ls1 g => k H locs ls1 h1 h2 g)
theorem z_aload_n (pc : Nat) (C : z_C p s m args meth c G cc nL own ret) {i : Fin 4} {x : Nat} (hd : decode cc pc = .ok (.aload_n i, 1)) (j : Nat)   (hl : lv[j]? = some ((i : Nat), .ref x)) (k : z_V p l e R s m args below meth c G ce sl Q nL (pc + 1) lv (.ref x :: st) σ) : z_V p l e R s m args below meth c G ce sl Q nL pc lv (st) σ := fun H locs ls h1 h2 h3 => lv_aload_n C.1 C.2.1 hd rfl (lv_at h3 j hl) (k H locs ls h1 h2 h3)
theorem z_aload (pc : Nat) (C : z_C p s m args meth c G cc nL own ret) {i : Nat} {x : Nat} (hd : decode cc pc = .ok (.aload i, 2)) (j : Nat)   (hl : lv[j]? = some (i, .ref x)) (k : z_V p l e R s m args below meth c G ce sl Q nL (pc + 2) lv (.ref x :: st) σ) : z_V p l e R s m args below meth c G ce sl Q nL pc lv (st) σ := fun H locs ls h1 h2 h3 => lv_aload C.1 C.2.1 hd (lv_at h3 j hl) (k H locs ls h1 h2 h3)
theorem z_astore_n (pc : Nat) (C : z_C p s m args meth c G cc nL own ret) {i : Fin 4} {x : Nat} (hd : decode cc pc = .ok (.astore_n i, 1)) (lv1 : List (Nat × Value))   (hn : (i : Nat) < nL) (hl : ((i : Nat), Value.ref x) :: lv.filter (fun q => !(q.1 == (i : Nat)) && !(q.1 + 1 == (i : Nat) && q.2.category == 2)) = lv1) (k : z_V p l e R s m args below meth c G ce sl Q nL (pc + 1) lv1 (st) σ) : z_V p l e R s m args below meth c G ce sl Q nL pc lv (.ref x :: st) σ := fun H locs ls h1 h2 h3 => lv_astore_n C.1 C.2.1 hd rfl h3 hn hl (fun ls1 g => k H locs ls1 h1 h2 g)
theorem z_astore (pc : Nat) (C : z_C p s m args meth c G cc nL own ret) {i : Nat} {x : Nat} (hd : decode cc pc = .ok (.astore i, 2)) (lv1 : List (Nat × Value))   (hn : (i : Nat) < nL) (hl : ((i : Nat), Value.ref x) :: lv.filter (fun q => !(q.1 == (i : Nat)) && !(q.1 + 1 == (i : Nat) && q.2.category == 2)) = lv1) (k : z_V p l e R s m args below meth c G ce sl Q nL (pc + 2) lv1 (st) σ) : z_V p l e R s m args below meth c G ce sl Q nL pc lv (.ref x :: st) σ := fun H locs ls h1 h2 h3 => lv_astore C.1 C.2.1 hd h3 hn hl (fun ls1 g => k H locs ls1 h1 h2 g)
theorem z_dload_n (pc : Nat) (C : z_C p s m args meth c G cc nL own ret) {i : Fin 4} {x : UInt64} (hd : decode cc pc = .ok (.dload_n i, 1)) (j : Nat)   (hl : lv[j]? = some ((i : Nat), .double x)) (k : z_V p l e R s m args below meth c G ce sl Q nL (pc + 1) lv (.double x :: st) σ) : z_V p l e R s m args below meth c G ce sl Q nL pc lv (st) σ := fun H locs ls h1 h2 h3 => lv_dload_n C.1 C.2.1 hd rfl (lv_at h3 j hl) (k H locs ls h1 h2 h3)
theorem z_dload (pc : Nat) (C : z_C p s m args meth c G cc nL own ret) {i : Nat} {x : UInt64} (hd : decode cc pc = .ok (.dload i, 2)) (j : Nat)   (hl : lv[j]? = some (i, .double x)) (k : z_V p l e R s m args below meth c G ce sl Q nL (pc + 2) lv (.double x :: st) σ) : z_V p l e R s m args below meth c G ce sl Q nL pc lv (st) σ := fun H locs ls h1 h2 h3 => lv_dload C.1 C.2.1 hd (lv_at h3 j hl) (k H locs ls h1 h2 h3)
theorem z_dstore_n (pc : Nat) (C : z_C p s m args meth c G cc nL own ret) {i : Fin 4} {x : UInt64} (hd : decode cc pc = .ok (.dstore_n i, 1)) (lv1 : List (Nat × Value))   (hn : (i : Nat) + 1 < nL) (hl : ((i : Nat), Value.double x) :: lv.filter (fun q => !(q.1 == (i : Nat)) && (!(q.1 == (i : Nat) + 1) && !(q.1 + 1 == (i : Nat) && q.2.category == 2))) = lv1) (k : z_V p l e R s m args below meth c G ce sl Q nL (pc + 1) lv1 (st) σ) : z_V p l e R s m args below meth c G ce sl Q nL pc lv (.double x :: st) σ := fun H locs ls h1 h2 h3 => lv_dstore_n C.1 C.2.1 hd rfl h3 hn hl (fun ls1 g => k H locs ls1 h1 h2 g)
theorem z_dstore (pc : Nat) (C : z_C p s m args meth c G cc nL own ret) {i : Nat} {x : UInt64} (hd : decode cc pc = .ok (.dstore i, 2)) (lv1 : List (Nat × Value))   (hn : (i : Nat) + 1 < nL) (hl : ((i : Nat), Value.double x) :: lv.filter (fun q => !(q.1 == (i : Nat)) && (!(q.1 == (i : Nat) + 1) && !(q.1 + 1 == (i : Nat) && q.2.category == 2))) = lv1) (k : z_V p l e R s m args below meth c G ce sl Q nL (pc + 2) lv1 (st) σ) : z_V p l e R s m args below meth c G ce sl Q nL pc lv (.double x :: st) σ := fun H locs ls h1 h2 h3 => lv_dstore C.1 C.2.1 hd h3 hn hl (fun ls1 g => k H locs ls1 h1 h2 g)
theorem z_iinc (pc : Nat) (C : z_C p s m args meth c G cc nL own ret) {i : Nat} {n : Int} {x : Int32} (hd : decode cc pc = .ok (.iinc i n, 3)) (j : Nat) (lv1 : List (Nat × Value))    (hj : lv[j]? = some (i, .int x)) (hn : i < nL) (hl : (i, Value.int (x + Int32.ofInt n)) :: lv.filter (fun q => !(q.1 == i) && !(q.1 + 1 == i && q.2.category == 2)) = lv1) (k : z_V p l e R s m args below meth c G ce sl Q nL (pc + 3) lv1 (st) σ) : z_V p l e R s m args below meth c G ce sl Q nL pc lv (st) σ := fun H locs ls h1 h2 h3 => lv_iinc C.1 C.2.1 hd h3 hj rfl hn hl (fun ls1 g => k H locs ls1 h1 h2 g)
theorem z_dup (pc : Nat) (C : z_C p s m args meth c G cc nL own ret) {v : Value} (hd : decode cc pc = .ok (.dup, 1))  (hc : v.category = 1) (k : z_V p l e R s m args below meth c G ce sl Q nL (pc + 1) lv (v :: v :: st) σ) : z_V p l e R s m args below meth c G ce sl Q nL pc lv (v :: st) σ := fun H locs ls h1 h2 h3 => lv_dup C.1 C.2.1 hd hc (k H locs ls h1 h2 h3)
theorem z_pop (pc : Nat) (C : z_C p s m args meth c G cc nL own ret) {v : Value} (hd : decode cc pc = .ok (.pop, 1))  (hc : v.category = 1) (k : z_V p l e R s m args below meth c G ce sl Q nL (pc + 1) lv (st) σ) : z_V p l e R s m args below meth c G ce sl Q nL pc lv (v :: st) σ := fun H locs ls h1 h2 h3 => lv_pop C.1 C.2.1 hd hc (k H locs ls h1 h2 h3)
theorem z_iadd (pc : Nat) (C : z_C p s m args meth c G cc nL own ret) {x y : Int32} (hd : decode cc pc = .ok (.iadd, 1))  (k : z_V p l e R s m args below meth c G ce sl Q nL (pc + 1) lv (.int (x + y) :: st) σ) : z_V p l e R s m args below meth c G ce sl Q nL pc lv (.int y :: .int x :: st) σ := fun H locs ls h1 h2 h3 => lv_iadd C.1 C.2.1 hd (k H locs ls h1 h2 h3)
theorem z_isub (pc : Nat) (C : z_C p s m args meth c G cc nL own ret) {x y : Int32} (hd : decode cc pc = .ok (.isub, 1))  (k : z_V p l e R s m args below meth c G ce sl Q nL (pc + 1) lv (.int (x - y) :: st) σ) : z_V p l e R s m args below meth c G ce sl Q nL pc lv (.int y :: .int x :: st) σ := fun H locs ls h1 h2 h3 => lv_isub C.1 C.2.1 hd (k H locs ls h1 h2 h3)
theorem z_imul (pc : Nat) (C : z_C p s m args meth c G cc nL own ret) {x y : Int32} (hd : decode cc pc = .ok (.imul, 1))  (k : z_V p l e R s m args below meth c G ce sl Q nL (pc + 1) lv (.int (x * y) :: st) σ) : z_V p l e R s m args below meth c G ce sl Q nL pc lv (.int y :: .int x :: st) σ := fun H locs ls h1 h2 h3 => lv_imul C.1 C.2.1 hd (k H locs ls h1 h2 h3)
theorem z_ixor (pc : Nat) (C : z_C p s m args meth c G cc nL own ret) {x y : Int32} (hd : decode cc pc = .ok (.ixor, 1))  (k : z_V p l e R s m args below meth c G ce sl Q nL (pc + 1) lv (.int (x ^^^ y) :: st) σ) : z_V p l e R s m args below meth c G ce sl Q nL pc lv (.int y :: .int x :: st) σ := fun H locs ls h1 h2 h3 => lv_ixor C.1 C.2.1 hd (k H locs ls h1 h2 h3)
theorem z_ior (pc : Nat) (C : z_C p s m args meth c G cc nL own ret) {x y : Int32} (hd : decode cc pc = .ok (.ior, 1))  (k : z_V p l e R s m args below meth c G ce sl Q nL (pc + 1) lv (.int (x ||| y) :: st) σ) : z_V p l e R s m args below meth c G ce sl Q nL pc lv (.int y :: .int x :: st) σ := fun H locs ls h1 h2 h3 => lv_ior C.1 C.2.1 hd (k H locs ls h1 h2 h3)
theorem z_iand (pc : Nat) (C : z_C p s m args meth c G cc nL own ret) {x y : Int32} (hd : decode cc pc = .ok (.iand, 1))  (k : z_V p l e R s m args below meth c G ce sl Q nL (pc + 1) lv (.int (x &&& y) :: st) σ) : z_V p l e R s m args below meth c G ce sl Q nL pc lv (.int y :: .int x :: st) σ := fun H locs ls h1 h2 h3 => lv_iand C.1 C.2.1 hd (k H locs ls h1 h2 h3)
theorem z_idiv (pc : Nat) (C : z_C p s m args meth c G cc nL own ret) {x y : Int32} (hd : decode cc pc = .ok (.idiv, 1))  (hne : ¬ y = 0) (k : z_V p l e R s m args below meth c G ce sl Q nL (pc + 1) lv (.int (x / y) :: st) σ) : z_V p l e R s m args below meth c G ce sl Q nL pc lv (.int y :: .int x :: st) σ := fun H locs ls h1 h2 h3 => lv_idiv C.1 C.2.1 hd hne (k H locs ls h1 h2 h3)
theorem z_irem (pc : Nat) (C : z_C p s m args meth c G cc nL own ret) {x y : Int32} (hd : decode cc pc = .ok (.irem, 1))  (hne : ¬ y = 0) (k : z_V p l e R s m args below meth c G ce sl Q nL (pc + 1) lv (.int (x - x / y * y) :: st) σ) : z_V p l e R s m args below meth c G ce sl Q nL pc lv (.int y :: .int x :: st) σ := fun H locs ls h1 h2 h3 => lv_irem C.1 C.2.1 hd hne (k H locs ls h1 h2 h3)
theorem z_ineg (pc : Nat) (C : z_C p s m args meth c G cc nL own ret) {x : Int32} (hd : decode cc pc = .ok (.ineg, 1))  (k : z_V p l e R s m args below meth c G ce sl Q nL (pc + 1) lv (.int (-x) :: st) σ) : z_V p l e R s m args below meth c G ce sl Q nL pc lv (.int x :: st) σ := fun H locs ls h1 h2 h3 => lv_ineg C.1 C.2.1 hd (k H locs ls h1 h2 h3)
theorem z_ladd (pc : Nat) (C : z_C p s m args meth c G cc nL own ret) {x y : Int64} (hd : decode cc pc = .ok (.ladd, 1))  (k : z_V p l e R s m args below meth c G ce sl Q nL (pc + 1) lv (.long (x + y) :: st) σ) : z_V p l e R s m args below meth c G ce sl Q nL pc lv (.long y :: .long x :: st) σ := fun H locs ls h1 h2 h3 => lv_ladd C.1 C.2.1 hd (k H locs ls h1 h2 h3)
theorem z_lsub (pc : Nat) (C : z_C p s m args meth c G cc nL own ret) {x y : Int64} (hd : decode cc pc = .ok (.lsub, 1))  (k : z_V p l e R s m args below meth c G ce sl Q nL (pc + 1) lv (.long (x - y) :: st) σ) : z_V p l e R s m args below meth c G ce sl Q nL pc lv (.long y :: .long x :: st) σ := fun H locs ls h1 h2 h3 => lv_lsub C.1 C.2.1 hd (k H locs ls h1 h2 h3)
theorem z_lmul (pc : Nat) (C : z_C p s m args meth c G cc nL own ret) {x y : Int64} (hd : decode cc pc = .ok (.lmul, 1))  (k : z_V p l e R s m args below meth c G ce sl Q nL (pc + 1) lv (.long (x * y) :: st) σ) : z_V p l e R s m args below meth c G ce sl Q nL pc lv (.long y :: .long x :: st) σ := fun H locs ls h1 h2 h3 => lv_lmul C.1 C.2.1 hd (k H locs ls h1 h2 h3)
theorem z_lxor (pc : Nat) (C : z_C p s m args meth c G cc nL own ret) {x y : Int64} (hd : decode cc pc = .ok (.lxor, 1))  (k : z_V p l e R s m args below meth c G ce sl Q nL (pc + 1) lv (.long (x ^^^ y) :: st) σ) : z_V p l e R s m args below meth c G ce sl Q nL pc lv (.long y :: .long x :: st) σ := fun H locs ls h1 h2 h3 => lv_lxor C.1 C.2.1 hd (k H locs ls h1 h2 h3)
theorem z_lor (pc : Nat) (C : z_C p s m args meth c G cc nL own ret) {x y : Int64} (hd : decode cc pc = .ok (.lor, 1))  (k : z_V p l e R s m args below meth c G ce sl Q nL (pc + 1) lv (.long (x ||| y) :: st) σ) : z_V p l e R s m args below meth c G ce sl Q nL pc lv (.long y :: .long x :: st) σ := fun H locs ls h1 h2 h3 => lv_lor C.1 C.2.1 hd (k H locs ls h1 h2 h3)
theorem z_land (pc : Nat) (C : z_C p s m args meth c G cc nL own ret) {x y : Int64} (hd : decode cc pc = .ok (.land, 1))  (k : z_V p l e R s m args below meth c G ce sl Q nL (pc + 1) lv (.long (x &&& y) :: st) σ) : z_V p l e R s m args below meth c G ce sl Q nL pc lv (.long y :: .long x :: st) σ := fun H locs ls h1 h2 h3 => lv_land C.1 C.2.1 hd (k H locs ls h1 h2 h3)
theorem z_ldiv (pc : Nat) (C : z_C p s m args meth c G cc nL own ret) {x y : Int64} (hd : decode cc pc = .ok (.ldiv, 1))  (hne : ¬ y = 0) (k : z_V p l e R s m args below meth c G ce sl Q nL (pc + 1) lv (.long (x / y) :: st) σ) : z_V p l e R s m args below meth c G ce sl Q nL pc lv (.long y :: .long x :: st) σ := fun H locs ls h1 h2 h3 => lv_ldiv C.1 C.2.1 hd hne (k H locs ls h1 h2 h3)
theorem z_lneg (pc : Nat) (C : z_C p s m args meth c G cc nL own ret) {x : Int64} (hd : decode cc pc = .ok (.lneg, 1))  (k : z_V p l e R s m args below meth c G ce sl Q nL (pc + 1) lv (.long (-x) :: st) σ) : z_V p l e R s m args below meth c G ce sl Q nL pc lv (.long x :: st) σ := fun H locs ls h1 h2 h3 => lv_lneg C.1 C.2.1 hd (k H locs ls h1 h2 h3)
theorem z_i2l (pc : Nat) (C : z_C p s m args meth c G cc nL own ret) {x : Int32} (hd : decode cc pc = .ok (.i2l, 1))  (k : z_V p l e R s m args below meth c G ce sl Q nL (pc + 1) lv (.long x.toInt64 :: st) σ) : z_V p l e R s m args below meth c G ce sl Q nL pc lv (.int x :: st) σ := fun H locs ls h1 h2 h3 => lv_i2l C.1 C.2.1 hd rfl (k H locs ls h1 h2 h3)
theorem z_l2i (pc : Nat) (C : z_C p s m args meth c G cc nL own ret) {x : Int64} (hd : decode cc pc = .ok (.l2i, 1))  (k : z_V p l e R s m args below meth c G ce sl Q nL (pc + 1) lv (.int x.toInt32 :: st) σ) : z_V p l e R s m args below meth c G ce sl Q nL pc lv (.long x :: st) σ := fun H locs ls h1 h2 h3 => lv_l2i C.1 C.2.1 hd rfl (k H locs ls h1 h2 h3)
theorem z_i2c (pc : Nat) (C : z_C p s m args meth c G cc nL own ret) {x : Int32} (hd : decode cc pc = .ok (.i2c, 1))  (k : z_V p l e R s m args below meth c G ce sl Q nL (pc + 1) lv (.int (x.toUInt32 % 65536).toInt32 :: st) σ) : z_V p l e R s m args below meth c G ce sl Q nL pc lv (.int x :: st) σ := fun H locs ls h1 h2 h3 => lv_i2c C.1 C.2.1 hd rfl (k H locs ls h1 h2 h3)
theorem z_l2d (pc : Nat) (C : z_C p s m args meth c G cc nL own ret) {x : Int64} (hd : decode cc pc = .ok (.l2d, 1))  (k : z_V p l e R s m args below meth c G ce sl Q nL (pc + 1) lv (.double (FP.l2d x) :: st) σ) : z_V p l e R s m args below meth c G ce sl Q nL pc lv (.long x :: st) σ := fun H locs ls h1 h2 h3 => lv_l2d C.1 C.2.1 hd (k H locs ls h1 h2 h3)
theorem z_lshl (pc : Nat) (C : z_C p s m args meth c G cc nL own ret) {x : Int64} {y : Int32} (hd : decode cc pc = .ok (.lshl, 1))   (k : z_V p l e R s m args below meth c G ce sl Q nL (pc + 1) lv (.long (x <<< (y.toInt64 &&& 63)) :: st) σ) : z_V p l e R s m args below meth c G ce sl Q nL pc lv (.int y :: .long x :: st) σ := fun H locs ls h1 h2 h3 => lv_lshl C.1 C.2.1 hd rfl (k H locs ls h1 h2 h3)
theorem z_ishl (pc : Nat) (C : z_C p s m args meth c G cc nL own ret) {x y : Int32} (hd : decode cc pc = .ok (.ishl, 1))  (k : z_V p l e R s m args below meth c G ce sl Q nL (pc + 1) lv (.int (x <<< (y &&& 31)) :: st) σ) : z_V p l e R s m args below meth c G ce sl Q nL pc lv (.int y :: .int x :: st) σ := fun H locs ls h1 h2 h3 => lv_ishl C.1 C.2.1 hd (k H locs ls h1 h2 h3)
theorem z_if_eq (pc : Nat) (C : z_C p s m args meth c G cc nL own ret) {x : Int32} (tgt : Nat) {off : Int} (hd : decode cc pc = .ok (.ifCond .eq off, 3)) (ht : (pc : Int) + off = (tgt : Int)) (kt : (x = 0) → z_V p l e R s m args below meth c G ce sl Q nL tgt lv st σ) (kf : ¬ (x = 0) → z_V p l e R s m args below meth c G ce sl Q nL (pc + 3) lv st σ) : z_V p l e R s m args below meth c G ce sl Q nL pc lv (.int x :: st) σ := fun H locs ls h1 h2 h3 => lv_if_eq C.1 C.2.1 hd ht (fun q => kt q H locs ls h1 h2 h3) (fun q => kf q H locs ls h1 h2 h3)
theorem z_if_lt (pc : Nat) (C : z_C p s m args meth c G cc nL own ret) {x : Int32} (tgt : Nat) {off : Int} (hd : decode cc pc = .ok (.ifCond .lt off, 3)) (ht : (pc : Int) + off = (tgt : Int)) (kt : (x < 0) → z_V p l e R s m args below meth c G ce sl Q nL tgt lv st σ) (kf : ¬ (x < 0) → z_V p l e R s m args below meth c G ce sl Q nL (pc + 3) lv st σ) : z_V p l e R s m args below meth c G ce sl Q nL pc lv (.int x :: st) σ := fun H locs ls h1 h2 h3 => lv_if_lt C.1 C.2.1 hd ht (fun q => kt q H locs ls h1 h2 h3) (fun q => kf q H locs ls h1 h2 h3)
theorem z_if_ge (pc : Nat) (C : z_C p s m args meth c G cc nL own ret) {x : Int32} (tgt : Nat) {off : Int} (hd : decode cc pc = .ok (.ifCond .ge off, 3)) (ht : (pc : Int) + off = (tgt : Int)) (kt : (0 ≤ x) → z_V p l e R s m args below meth c G ce sl Q nL tgt lv st σ) (kf : ¬ (0 ≤ x) → z_V p l e R s m args below meth c G ce sl Q nL (pc + 3) lv st σ) : z_V p l e R s m args below meth c G ce sl Q nL pc lv (.int x :: st) σ := fun H locs ls h1 h2 h3 => lv_if_ge C.1 C.2.1 hd ht (fun q => kt q H locs ls h1 h2 h3) (fun q => kf q H locs ls h1 h2 h3)
theorem z_if_gt (pc : Nat) (C : z_C p s m args meth c G cc nL own ret) {x : Int32} (tgt : Nat) {off : Int} (hd : decode cc pc = .ok (.ifCond .gt off, 3)) (ht : (pc : Int) + off = (tgt : Int)) (kt : (0 < x) → z_V p l e R s m args below meth c G ce sl Q nL tgt lv st σ) (kf : ¬ (0 < x) → z_V p l e R s m args below meth c G ce sl Q nL (pc + 3) lv st σ) : z_V p l e R s m args below meth c G ce sl Q nL pc lv (.int x :: st) σ := fun H locs ls h1 h2 h3 => lv_if_gt C.1 C.2.1 hd ht (fun q => kt q H locs ls h1 h2 h3) (fun q => kf q H locs ls h1 h2 h3)
theorem z_if_le (pc : Nat) (C : z_C p s m args meth c G cc nL own ret) {x : Int32} (tgt : Nat) {off : Int} (hd : decode cc pc = .ok (.ifCond .le off, 3)) (ht : (pc : Int) + off = (tgt : Int)) (kt : (x ≤ 0) → z_V p l e R s m args below meth c G ce sl Q nL tgt lv st σ) (kf : ¬ (x ≤ 0) → z_V p l e R s m args below meth c G ce sl Q nL (pc + 3) lv st σ) : z_V p l e R s m args below meth c G ce sl Q nL pc lv (.int x :: st) σ := fun H locs ls h1 h2 h3 => lv_if_le C.1 C.2.1 hd ht (fun q => kt q H locs ls h1 h2 h3) (fun q => kf q H locs ls h1 h2 h3)
theorem z_icmp_eq (pc : Nat) (C : z_C p s m args meth c G cc nL own ret) {x y : Int32} (tgt : Nat) {off : Int} (hd : decode cc pc = .ok (.if_icmp .eq off, 3)) (ht : (pc : Int) + off = (tgt : Int)) (kt : (x = y) → z_V p l e R s m args below meth c G ce sl Q nL tgt lv st σ) (kf : ¬ (x = y) → z_V p l e R s m args below meth c G ce sl Q nL (pc + 3) lv st σ) : z_V p l e R s m args below meth c G ce sl Q nL pc lv (.int y :: .int x :: st) σ := fun H locs ls h1 h2 h3 => lv_icmp_eq C.1 C.2.1 hd ht (fun q => kt q H locs ls h1 h2 h3) (fun q => kf q H locs ls h1 h2 h3)
theorem z_icmp_lt (pc : Nat) (C : z_C p s m args meth c G cc nL own ret) {x y : Int32} (tgt : Nat) {off : Int} (hd : decode cc pc = .ok (.if_icmp .lt off, 3)) (ht : (pc : Int) + off = (tgt : Int)) (kt : (x < y) → z_V p l e R s m args below meth c G ce sl Q nL tgt lv st σ) (kf : ¬ (x < y) → z_V p l e R s m args below meth c G ce sl Q nL (pc + 3) lv st σ) : z_V p l e R s m args below meth c G ce sl Q nL pc lv (.int y :: .int x :: st) σ := fun H locs ls h1 h2 h3 => lv_icmp_lt C.1 C.2.1 hd ht (fun q => kt q H locs ls h1 h2 h3) (fun q => kf q H locs ls h1 h2 h3)
theorem z_icmp_ge (pc : Nat) (C : z_C p s m args meth c G cc nL own ret) {x y : Int32} (tgt : Nat) {off : Int} (hd : decode cc pc = .ok (.if_icmp .ge off, 3)) (ht : (pc : Int) + off = (tgt : Int)) (kt : (y ≤ x) → z_V p l e R s m args below meth c G ce sl Q nL tgt lv st σ) (kf : ¬ (y ≤ x) → z_V p l e R s m args below meth c G ce sl Q nL (pc + 3) lv st σ) : z_V p l e R s m args below meth c G ce sl Q nL pc lv (.int y :: .int x :: st) σ := fun H locs ls h1 h2 h3 => lv_icmp_ge C.1 C.2.1 hd ht (fun q => kt q H locs ls h1 h2 h3) (fun q => kf q H locs ls h1 h2 h3)
theorem z_icmp_gt (pc : Nat) (C : z_C p s m args meth c G cc nL own ret) {x y : Int32} (tgt : Nat) {off : Int} (hd : decode cc pc = .ok (.if_icmp .gt off, 3)) (ht : (pc : Int) + off = (tgt : Int)) (kt : (y < x) → z_V p l e R s m args below meth c G ce sl Q nL tgt lv st σ) (kf : ¬ (y < x) → z_V p l e R s m args below meth c G ce sl Q nL (pc + 3) lv st σ) : z_V p l e R s m args below meth c G ce sl Q nL pc lv (.int y :: .int x :: st) σ := fun H locs ls h1 h2 h3 => lv_icmp_gt C.1 C.2.1 hd ht (fun q => kt q H locs ls h1 h2 h3) (fun q => kf q H locs ls h1 h2 h3)
theorem z_icmp_le (pc : Nat) (C : z_C p s m args meth c G cc nL own ret) {x y : Int32} (tgt : Nat) {off : Int} (hd : decode cc pc = .ok (.if_icmp .le off, 3)) (ht : (pc : Int) + off = (tgt : Int)) (kt : (x ≤ y) → z_V p l e R s m args below meth c G ce sl Q nL tgt lv st σ) (kf : ¬ (x ≤ y) → z_V p l e R s m args below meth c G ce sl Q nL (pc + 3) lv st σ) : z_V p l e R s m args below meth c G ce sl Q nL pc lv (.int y :: .int x :: st) σ := fun H locs ls h1 h2 h3 => lv_icmp_le C.1 C.2.1 hd ht (fun q => kt q H locs ls h1 h2 h3) (fun q => kf q H locs ls h1 h2 h3)
theorem z_if_ne (pc : Nat) (C : z_C p s m args meth c G cc nL own ret) {x : Int32} (tgt : Nat) {off : Int} (hd : decode cc pc = .ok (.ifCond .ne off, 3)) (ht : (pc : Int) + off = (tgt : Int)) (kt : ¬ (x = 0) → z_V p l e R s m args below meth c G ce sl Q nL tgt lv st σ) (kf : (x = 0) → z_V p l e R s m args below meth c G ce sl Q nL (pc + 3) lv st σ) : z_V p l e R s m args below meth c G ce sl Q nL pc lv (.int x :: st) σ := fun H locs ls h1 h2 h3 => lv_if_ne C.1 C.2.1 hd ht (fun q => kt q H locs ls h1 h2 h3) (fun q => kf q H locs ls h1 h2 h3)
theorem z_icmp_ne (pc : Nat) (C : z_C p s m args meth c G cc nL own ret) {x y : Int32} (tgt : Nat) {off : Int} (hd : decode cc pc = .ok (.if_icmp .ne off, 3)) (ht : (pc : Int) + off = (tgt : Int)) (kt : ¬ (x = y) → z_V p l e R s m args below meth c G ce sl Q nL tgt lv st σ) (kf : (x = y) → z_V p l e R s m args below meth c G ce sl Q nL (pc + 3) lv st σ) : z_V p l e R s m args below meth c G ce sl Q nL pc lv (.int y :: .int x :: st) σ := fun H locs ls h1 h2 h3 => lv_icmp_ne C.1 C.2.1 hd ht (fun q => kt q H locs ls h1 h2 h3) (fun q => kf q H locs ls h1 h2 h3)
theorem z_lcmp (pc : Nat) (C : z_C p s m args meth c G cc nL own ret) {x y : Int64} (hd : decode cc pc = .ok (.lcmp, 1))  (k : z_V p l e R s m args below meth c G ce sl Q nL (pc + 1) lv (.int (lg_cmp x y) :: st) σ) : z_V p l e R s m args below meth c G ce sl Q nL pc lv (.long y :: .long x :: st) σ := fun H locs ls h1 h2 h3 => W.lcmp C.1 C.2.1 hd (k H locs ls h1 h2 h3)
theorem z_lcmp_lt (pc : Nat) (C : z_C p s m args meth c G cc nL own ret) {x y : Int64} (tgt : Nat) {off : Int} (hd0 : decode cc pc = .ok (.lcmp, 1)) (hd : decode cc (pc + 1) = .ok (.ifCond .lt off, 3)) (ht : (pc : Int) + 1 + off = (tgt : Int)) (kt : (x < y) → z_V p l e R s m args below meth c G ce sl Q nL tgt lv st σ) (kf : ¬ (x < y) → z_V p l e R s m args below meth c G ce sl Q nL (pc + 4) lv st σ) : z_V p l e R s m args below meth c G ce sl Q nL pc lv (.long y :: .long x :: st) σ := z_lcmp pc C hd0 (z_if_lt (pc + 1) C tgt hd (by rw [← ht]; omega) (fun q => kt ((lg_cmp_lt x y).mp q)) (fun q => kf (fun z => q ((lg_cmp_lt x y).mpr z))))
theorem z_lcmp_ge (pc : Nat) (C : z_C p s m args meth c G cc nL own ret) {x y : Int64} (tgt : Nat) {off : Int} (hd0 : decode cc pc = .ok (.lcmp, 1)) (hd : decode cc (pc + 1) = .ok (.ifCond .ge off, 3)) (ht : (pc : Int) + 1 + off = (tgt : Int)) (kt : (y ≤ x) → z_V p l e R s m args below meth c G ce sl Q nL tgt lv st σ) (kf : ¬ (y ≤ x) → z_V p l e R s m args below meth c G ce sl Q nL (pc + 4) lv st σ) : z_V p l e R s m args below meth c G ce sl Q nL pc lv (.long y :: .long x :: st) σ := z_lcmp pc C hd0 (z_if_ge (pc + 1) C tgt hd (by rw [← ht]; omega) (fun q => kt ((lg_cmp_ge x y).mp q)) (fun q => kf (fun z => q ((lg_cmp_ge x y).mpr z))))
theorem z_lcmp_gt (pc : Nat) (C : z_C p s m args meth c G cc nL own ret) {x y : Int64} (tgt : Nat) {off : Int} (hd0 : decode cc pc = .ok (.lcmp, 1)) (hd : decode cc (pc + 1) = .ok (.ifCond .gt off, 3)) (ht : (pc : Int) + 1 + off = (tgt : Int)) (kt : (y < x) → z_V p l e R s m args below meth c G ce sl Q nL tgt lv st σ) (kf : ¬ (y < x) → z_V p l e R s m args below meth c G ce sl Q nL (pc + 4) lv st σ) : z_V p l e R s m args below meth c G ce sl Q nL pc lv (.long y :: .long x :: st) σ := z_lcmp pc C hd0 (z_if_gt (pc + 1) C tgt hd (by rw [← ht]; omega) (fun q => kt ((lg_cmp_gt x y).mp q)) (fun q => kf (fun z => q ((lg_cmp_gt x y).mpr z))))
theorem z_lcmp_le (pc : Nat) (C : z_C p s m args meth c G cc nL own ret) {x y : Int64} (tgt : Nat) {off : Int} (hd0 : decode cc pc = .ok (.lcmp, 1)) (hd : decode cc (pc + 1) = .ok (.ifCond .le off, 3)) (ht : (pc : Int) + 1 + off = (tgt : Int)) (kt : (x ≤ y) → z_V p l e R s m args below meth c G ce sl Q nL tgt lv st σ) (kf : ¬ (x ≤ y) → z_V p l e R s m args below meth c G ce sl Q nL (pc + 4) lv st σ) : z_V p l e R s m args below meth c G ce sl Q nL pc lv (.long y :: .long x :: st) σ := z_lcmp pc C hd0 (z_if_le (pc + 1) C tgt hd (by rw [← ht]; omega) (fun q => kt ((lg_cmp_le x y).mp q)) (fun q => kf (fun z => q ((lg_cmp_le x y).mpr z))))
theorem z_lcmp_eq (pc : Nat) (C : z_C p s m args meth c G cc nL own ret) {x y : Int64} (tgt : Nat) {off : Int} (hd0 : decode cc pc = .ok (.lcmp, 1)) (hd : decode cc (pc + 1) = .ok (.ifCond .eq off, 3)) (ht : (pc : Int) + 1 + off = (tgt : Int)) (kt : (x = y) → z_V p l e R s m args below meth c G ce sl Q nL tgt lv st σ) (kf : ¬ (x = y) → z_V p l e R s m args below meth c G ce sl Q nL (pc + 4) lv st σ) : z_V p l e R s m args below meth c G ce sl Q nL pc lv (.long y :: .long x :: st) σ := z_lcmp pc C hd0 (z_if_eq (pc + 1) C tgt hd (by rw [← ht]; omega) (fun q => kt ((lg_cmp_eq x y).mp q)) (fun q => kf (fun z => q ((lg_cmp_eq x y).mpr z))))
theorem z_lcmp_ne (pc : Nat) (C : z_C p s m args meth c G cc nL own ret) {x y : Int64} (tgt : Nat) {off : Int} (hd0 : decode cc pc = .ok (.lcmp, 1)) (hd : decode cc (pc + 1) = .ok (.ifCond .ne off, 3)) (ht : (pc : Int) + 1 + off = (tgt : Int)) (kt : ¬ (x = y) → z_V p l e R s m args below meth c G ce sl Q nL tgt lv st σ) (kf : (x = y) → z_V p l e R s m args below meth c G ce sl Q nL (pc + 4) lv st σ) : z_V p l e R s m args below meth c G ce sl Q nL pc lv (.long y :: .long x :: st) σ := z_lcmp pc C hd0 (z_if_ne (pc + 1) C tgt hd (by rw [← ht]; omega) (fun q => kt (fun z => q ((lg_cmp_eq x y).mpr z))) (fun q => kf ((lg_cmp_eq x y).mp q)))
theorem z_goto (pc : Nat) (C : z_C p s m args meth c G cc nL own ret) (tgt : Nat) {off : Int} (hd : decode cc pc = .ok (.goto off, 3)) (ht : (pc : Int) + off = (tgt : Int)) (k : z_V p l e R s m args below meth c G ce sl Q nL tgt lv st σ) : z_V p l e R s m args below meth c G ce sl Q nL pc lv st σ := fun H locs ls h1 h2 h3 => lv_goto C.1 C.2.1 hd ht (k H locs ls h1 h2 h3)
theorem z_tabIn (pc : Nat) (C : z_C p s m args meth c G cc nL own ret) {x : Int32} (tgt : Nat) {dflt lo hi off : Int} {offs : Array Int} {len : Nat} (hd : decode cc pc = .ok (.tableswitch dflt lo hi offs, len)) (h1 : ¬ x.toInt < lo) (h2 : ¬ hi < x.toInt) (ho : offs[(x.toInt - lo).toNat]? = some off) (ht : (pc : Int) + off = (tgt : Int)) (k : z_V p l e R s m args below meth c G ce sl Q nL tgt lv st σ) : z_V p l e R s m args below meth c G ce sl Q nL pc lv (.int x :: st) σ := fun H locs ls g1 g2 g3 => lv_tableIn C.1 C.2.1 hd h1 h2 ho ht (k H locs ls g1 g2 g3)
theorem z_tabOut (pc : Nat) (C : z_C p s m args meth c G cc nL own ret) {x : Int32} (tgt : Nat) {dflt lo hi : Int} {offs : Array Int} {len : Nat} (hd : decode cc pc = .ok (.tableswitch dflt lo hi offs, len)) (h : x.toInt < lo ∨ hi < x.toInt) (ht : (pc : Int) + dflt = (tgt : Int)) (k : z_V p l e R s m args below meth c G ce sl Q nL tgt lv st σ) : z_V p l e R s m args below meth c G ce sl Q nL pc lv (.int x :: st) σ := fun H locs ls g1 g2 g3 => lv_tableOut C.1 C.2.1 hd h ht (k H locs ls g1 g2 g3)
theorem z_look (pc : Nat) (C : z_C p s m args meth c G cc nL own ret) {x : Int32} (tgt : Nat) {dflt off : Int} {ps : Array (Int × Int)} {len : Nat} (hd : decode cc pc = .ok (.lookupswitch dflt ps, len)) (hp : (ps.toList.zip (ps.toList.drop 1)).all (fun (a, next) => a.1 < next.1) = true) (ho : Op.lookupswitch.offset ps.toList dflt x.toInt = off) (ht : (pc : Int) + off = (tgt : Int)) (k : z_V p l e R s m args below meth c G ce sl Q nL tgt lv st σ) : z_V p l e R s m args below meth c G ce sl Q nL pc lv (.int x :: st) σ := fun H locs ls g1 g2 g3 => lv_lookup C.1 C.2.1 hd hp ho ht (k H locs ls g1 g2 g3)
/-- what the tables say of a class of ours -/
def z_D (ci : Nat) (Cn : String) (T : u_T) (N : Nat) (ty : Nat → FieldType) : Prop := vwCl[ci]? = some (Cn, T, N) ∧ (∀ w ∈ u_ws Cn T N, w ∈ z_tb) ∧ (∀ k, k < N → parseFieldDescriptor (T k).2.2.1 = some (ty k)) ∧ ∀ a, a < N → ∀ b, b < N → a ≠ b → (T a).2.1 ≠ (T b).2.1
theorem z_hsame {s : State} {a b d : String} : ∀ x, s.fieldFound? a b d = some x → s.fieldFound? a b d = some x := fun _ h => h
theorem z_getf (pc : Nat) (C : z_C p s m args meth c G cc nL own ret) (i : Nat) {ci : Nat} {Cn : String} {T : u_T} {N : Nat} {ty : Nat → FieldType} (hD : z_D ci Cn T N ty) (hi : z_kd i = 0 ∧ z_sz i = ci) (f : Nat) (hf : f < N) {idx : Nat} (hl : Cond.fieldLink own idx (T f).1 (T f).2.1 (T f).2.2.1 ∈ z_tb) (v : Value) (hv : (z_fl G i (σ.1 i) (σ.2 i) ci)[f]? = some v) (hd : decode cc pc = .ok (.getfield idx, 3)) (k : z_V p l e R s m args below meth c G ce sl Q nL (pc + 3) lv (v :: st) σ) : z_V p l e R s m args below meth c G ce sl Q nL pc lv (.ref (z_ad G i) :: st) σ := fun H locs ls h1 h2 h3 =>
  va_get C.1 C.2.1 (C.2.2.2.2.1) hD.2.1 C.2.2.2.1 C.2.2.2.2.2.1.1 h1 i ((z_W_at (z_kd_lt hi.1 (by decide))).trans (by rw [z_E0 hi.1 hi.2])) hD.1 f hf (C.2.2.2.2.1 _ hl) z_hsame hv hd (k H locs ls h1 h2 h3)
theorem z_getfN (pc : Nat) (C : z_C p s m args meth c G cc nL own ret) (i : Nat) {ci : Nat} {Cn : String} {T : u_T} {N : Nat} {ty : Nat → FieldType} (hD : z_D ci Cn T N ty) (hi : z_kd i = 0 ∧ z_sz i = ci) (f : Nat) (hf : f < N) {idx : Nat} (hl : (own, idx, (T f).1, (T f).2.1, (T f).2.2.1) ∈ z_nf) (v : Value) (hv : (z_fl G i (σ.1 i) (σ.2 i) ci)[f]? = some v) (hd : decode cc pc = .ok (.getfield idx, 3)) (k : z_V p l e R s m args below meth c G ce sl Q nL (pc + 3) lv (v :: st) σ) : z_V p l e R s m args below meth c G ce sl Q nL pc lv (.ref (z_ad G i) :: st) σ := fun H locs ls h1 h2 h3 =>
  va_getN (host := RX7) C.1 C.2.1 (C.2.2.2.2.1) hD.2.1 C.2.2.2.1 C.2.2.2.2.2.1.1 h1 i ((z_W_at (z_kd_lt hi.1 (by decide))).trans (by rw [z_E0 hi.1 hi.2])) hD.1 f hf (va_Nw.use rfl (C.2.2.2.2.2.1.2.2.2.2 _ hl)) z_hsame hv hd (k H locs ls h1 h2 h3)
theorem z_puti (pc : Nat) (C : z_C p s m args meth c G cc nL own ret) (i : Nat) {ci : Nat} {Cn : String} {T : u_T} {N : Nat} {ty : Nat → FieldType} (hD : z_D ci Cn T N ty) (hi : z_kd i = 0 ∧ z_sz i = ci) (f : Nat) (hf : f < N) {idx : Nat} (hl : Cond.fieldLink own idx (T f).1 (T f).2.1 (T f).2.2.1 ∈ z_tb) (hfin : (T f).2.2.2 = false) {x : Int32} (hn : narrow (ty f) (.int x) = .int x) (hfit : fits (ty f) (.int x) = true) (hs : f < (z_fl G i (σ.1 i) (σ.2 i) ci).length ∧ (z_fl G i (σ.1 i) (σ.2 i) ci).set f (.int x) = z_fl G i (upd (σ.1 i) f x) (σ.2 i) ci) (hd : decode cc pc = .ok (.putfield idx, 3)) (k : z_V p l e R s m args below meth c G ce sl Q nL (pc + 3) lv st (z_ui σ i f x)) : z_V p l e R s m args below meth c G ce sl Q nL pc lv (.int x :: .ref (z_ad G i) :: st) σ := fun H locs ls h1 h2 h3 => by
  have hw : (z_W G σ).set i (z_ad G i, .inr (ci, (z_fl G i (σ.1 i) (σ.2 i) ci).set f (.int x))) = z_W G (z_ui σ i f x) := by
    refine z_W_set ?_ (fun a ha => if_neg ha) (fun _ _ => rfl)
    rw [hs.2, z_E0 hi.1 hi.2]
    show Sum.inr (ci, z_fl G i (if i = i then upd (σ.1 i) f x else σ.1 i) (σ.2 i) ci) = _
    rw [if_pos rfl]
  refine va_put C.1 C.2.1 (C.2.2.2.2.1) hD.2.1 ty hD.2.2.1 hD.2.2.2 C.2.2.2.1 C.2.2.2.2.2.1.1 h1 (C.2.2.2.2.2.1.2.1.D σ) h2 i ((z_W_at (z_kd_lt hi.1 (by decide))).trans (by rw [z_E0 hi.1 hi.2])) hD.1 f hf (C.2.2.2.2.1 _ hl) z_hsame hfin (hD.2.2.1 f hf) hn hfit hs.1 hd (fun H1 locs1 g1 g2 g3 => ?_)
  rw [hw] at g1
  exact k H1 locs1 ls g1 g3 h3
theorem z_putl (pc : Nat) (C : z_C p s m args meth c G cc nL own ret) (i : Nat) {ci : Nat} {Cn : String} {T : u_T} {N : Nat} {ty : Nat → FieldType} (hD : z_D ci Cn T N ty) (hi : z_kd i = 0 ∧ z_sz i = ci) (f : Nat) (hf : f < N) {idx : Nat} (hl : Cond.fieldLink own idx (T f).1 (T f).2.1 (T f).2.2.1 ∈ z_tb) (hfin : (T f).2.2.2 = false) {x : Int64} (hn : narrow (ty f) (.long x) = .long x) (hfit : fits (ty f) (.long x) = true) (hs : f < (z_fl G i (σ.1 i) (σ.2 i) ci).length ∧ (z_fl G i (σ.1 i) (σ.2 i) ci).set f (.long x) = z_fl G i (σ.1 i) (vp_updL (σ.2 i) f x) ci) (hd : decode cc pc = .ok (.putfield idx, 3)) (k : z_V p l e R s m args below meth c G ce sl Q nL (pc + 3) lv st (z_ul σ i f x)) : z_V p l e R s m args below meth c G ce sl Q nL pc lv (.long x :: .ref (z_ad G i) :: st) σ := fun H locs ls h1 h2 h3 => by
  have hw : (z_W G σ).set i (z_ad G i, .inr (ci, (z_fl G i (σ.1 i) (σ.2 i) ci).set f (.long x))) = z_W G (z_ul σ i f x) := by
    refine z_W_set ?_ (fun _ _ => rfl) (fun a ha => if_neg ha)
    rw [hs.2, z_E0 hi.1 hi.2]
    show Sum.inr (ci, z_fl G i (σ.1 i) (if i = i then vp_updL (σ.2 i) f x else σ.2 i) ci) = _
    rw [if_pos rfl]
  refine va_put C.1 C.2.1 (C.2.2.2.2.1) hD.2.1 ty hD.2.2.1 hD.2.2.2 C.2.2.2.1 C.2.2.2.2.2.1.1 h1 (C.2.2.2.2.2.1.2.1.D σ) h2 i ((z_W_at (z_kd_lt hi.1 (by decide))).trans (by rw [z_E0 hi.1 hi.2])) hD.1 f hf (C.2.2.2.2.1 _ hl) z_hsame hfin (hD.2.2.1 f hf) hn hfit hs.1 hd (fun H1 locs1 g1 g2 g3 => ?_)
  rw [hw] at g1
  exact k H1 locs1 ls g1 g3 h3
theorem z_putiN (pc : Nat) (C : z_C p s m args meth c G cc nL own ret) (i : Nat) {ci : Nat} {Cn : String} {T : u_T} {N : Nat} {ty : Nat → FieldType} (hD : z_D ci Cn T N ty) (hi : z_kd i = 0 ∧ z_sz i = ci) (f : Nat) (hf : f < N) {idx : Nat} (hl : (own, idx, (T f).1, (T f).2.1, (T f).2.2.1) ∈ z_nf) (hfin : (T f).2.2.2 = false) {x : Int32} (hn : narrow (ty f) (.int x) = .int x) (hfit : fits (ty f) (.int x) = true) (hs : f < (z_fl G i (σ.1 i) (σ.2 i) ci).length ∧ (z_fl G i (σ.1 i) (σ.2 i) ci).set f (.int x) = z_fl G i (upd (σ.1 i) f x) (σ.2 i) ci) (hd : decode cc pc = .ok (.putfield idx, 3)) (k : z_V p l e R s m args below meth c G ce sl Q nL (pc + 3) lv st (z_ui σ i f x)) : z_V p l e R s m args below meth c G ce sl Q nL pc lv (.int x :: .ref (z_ad G i) :: st) σ := fun H locs ls h1 h2 h3 => by
  have hw : (z_W G σ).set i (z_ad G i, .inr (ci, (z_fl G i (σ.1 i) (σ.2 i) ci).set f (.int x))) = z_W G (z_ui σ i f x) := by
    refine z_W_set ?_ (fun a ha => if_neg ha) (fun _ _ => rfl)
    rw [hs.2, z_E0 hi.1 hi.2]
    show Sum.inr (ci, z_fl G i (if i = i then upd (σ.1 i) f x else σ.1 i) (σ.2 i) ci) = _
    rw [if_pos rfl]
  refine va_putN (host := RX7) C.1 C.2.1 (C.2.2.2.2.1) hD.2.1 ty hD.2.2.1 hD.2.2.2 C.2.2.2.1 C.2.2.2.2.2.1.1 h1 (C.2.2.2.2.2.1.2.1.D σ) h2 i ((z_W_at (z_kd_lt hi.1 (by decide))).trans (by rw [z_E0 hi.1 hi.2])) hD.1 f hf (va_Nw.use rfl (C.2.2.2.2.2.1.2.2.2.2 _ hl)) z_hsame hfin (hD.2.2.1 f hf) hn hfit hs.1 hd (fun H1 locs1 g1 g2 g3 => ?_)
  rw [hw] at g1
  exact k H1 locs1 ls g1 g3 h3
theorem z_iald (pc : Nat) (C : z_C p s m args meth c G cc nL own ret) (i : Nat) {n : Nat} (hi : z_kd i = 1 ∧ z_sz i = n) {x : Int32} (hin : vp_in x n) (hd : decode cc pc = .ok (.iaload, 1)) (k : z_V p l e R s m args below meth c G ce sl Q nL (pc + 1) lv (.int (σ.1 i x.toNatClampNeg) :: st) σ) : z_V p l e R s m args below meth c G ce sl Q nL pc lv (.int x :: .ref (z_ad G i) :: st) σ := fun H locs ls h1 h2 h3 =>
  va_iald C.1 C.2.1 C.2.2.2.2.2.1.1 h1 i 0 ((z_W_at (z_kd_lt hi.1 (by decide))).trans (by rw [z_E1 hi.1 hi.2])) rfl hin hd (k H locs ls h1 h2 h3)
theorem z_lald (pc : Nat) (C : z_C p s m args meth c G cc nL own ret) (i : Nat) {n : Nat} (hi : z_kd i = 2 ∧ z_sz i = n) {x : Int32} (hin : vp_in x n) (hd : decode cc pc = .ok (.laload, 1)) (k : z_V p l e R s m args below meth c G ce sl Q nL (pc + 1) lv (.long (σ.2 i x.toNatClampNeg) :: st) σ) : z_V p l e R s m args below meth c G ce sl Q nL pc lv (.int x :: .ref (z_ad G i) :: st) σ := fun H locs ls h1 h2 h3 =>
  va_lald C.1 C.2.1 C.2.2.2.2.2.1.1 h1 i 1 ((z_W_at (z_kd_lt hi.1 (by decide))).trans (by rw [z_E2 hi.1 hi.2])) rfl hin hd (k H locs ls h1 h2 h3)
theorem z_cald (pc : Nat) (C : z_C p s m args meth c G cc nL own ret) (i : Nat) {n : Nat} (hi : z_kd i = 3 ∧ z_sz i = n) {x : Int32} (hin : vp_in x n) (hd : decode cc pc = .ok (.caload, 1)) (k : z_V p l e R s m args below meth c G ce sl Q nL (pc + 1) lv (.int (σ.1 i x.toNatClampNeg) :: st) σ) : z_V p l e R s m args below meth c G ce sl Q nL pc lv (.int x :: .ref (z_ad G i) :: st) σ := fun H locs ls h1 h2 h3 =>
  va_cald C.1 C.2.1 C.2.2.2.2.2.1.1 h1 i 2 ((z_W_at (z_kd_lt hi.1 (by decide))).trans (by rw [z_E3 hi.1 hi.2])) rfl hin hd (k H locs ls h1 h2 h3)
theorem z_aald (pc : Nat) (C : z_C p s m args meth c G cc nL own ret) (i : Nat) {n : Nat} (hi : (z_kd i = 4 ∨ z_kd i = 5) ∧ z_sz i = n) {x : Int32} (hin : vp_in x n) (hd : decode cc pc = .ok (.aaload, 1)) (k : z_V p l e R s m args below meth c G ce sl Q nL (pc + 1) lv (.ref (z_ad G (z_rf i x.toNatClampNeg)) :: st) σ) : z_V p l e R s m args below meth c G ce sl Q nL pc lv (.int x :: .ref (z_ad G i) :: st) σ := fun H locs ls h1 h2 h3 => by
  have hlt : x.toNatClampNeg < n := Nat.not_le.mp fun q => hin (Or.inr q)
  have hK := C.2.2.2.2.2.1.1
  rcases hi with ⟨h4 | h5, hn⟩
  · have ha := h1 i _ ((z_W_at (z_kd_lt h4 (by decide))).trans (by rw [z_E4 h4 hn]))
    exact W.aald (v := .ref (z_ad G (z_rf i x.toNatClampNeg))) (ty := .object RX0) C.1 C.2.1 ha ((hK.2 3 _ rfl).1 n (fun j => va_rf (some (z_ad G (z_rf i j))))) rfl (fun q => by cases q) (by show ¬ (x < 0 ∨ (arrV _ _ _).slots.size ≤ _); rw [arrV_size]; exact hin) (by show (arrV _ _ _).slots[_]? = _; rw [arrV_read _ _ hlt]; rfl) rfl rfl hd (k H locs ls h1 h2 h3)
  · have ha := h1 i _ ((z_W_at (z_kd_lt h5 (by decide))).trans (by rw [z_E5 h5 hn]))
    exact W.aald (v := .ref (z_ad G (z_rf i x.toNatClampNeg))) (ty := .array .long) C.1 C.2.1 ha ((hK.2 4 _ rfl).1 n (fun j => va_rf (some (z_ad G (z_rf i j))))) rfl (fun q => by cases q) (by show ¬ (x < 0 ∨ (arrV _ _ _).slots.size ≤ _); rw [arrV_size]; exact hin) (by show (arrV _ _ _).slots[_]? = _; rw [arrV_read _ _ hlt]; rfl) rfl rfl hd (k H locs ls h1 h2 h3)
theorem z_iast (pc : Nat) (C : z_C p s m args meth c G cc nL own ret) (i : Nat) {n : Nat} (hi : z_kd i = 1 ∧ z_sz i = n) {x v : Int32} (hin : vp_in x n) (hd : decode cc pc = .ok (.iastore, 1)) (k : z_V p l e R s m args below meth c G ce sl Q nL (pc + 1) lv st (z_ui σ i x.toNatClampNeg v)) : z_V p l e R s m args below meth c G ce sl Q nL pc lv (.int v :: .int x :: .ref (z_ad G i) :: st) σ := fun H locs ls h1 h2 h3 => by
  refine va_iast C.1 C.2.1 C.2.2.2.2.2.1.1 h1 (C.2.2.2.2.2.1.2.1.D σ) h2 i 0 ((z_W_at (z_kd_lt hi.1 (by decide))).trans (by rw [z_E1 hi.1 hi.2])) rfl hin hd (fun H1 locs1 g1 g2 g3 => ?_)
  have hw : (z_W G σ).set i (z_ad G i, .inl (z_ca G 0, n, .inl (upd (σ.1 i) x.toNatClampNeg v))) = z_W G (z_ui σ i x.toNatClampNeg v) := by
    refine z_W_set ?_ (fun a ha => if_neg ha) (fun _ _ => rfl)
    rw [z_E1 hi.1 hi.2]
    show Sum.inl (_, n, Sum.inl (if i = i then upd (σ.1 i) x.toNatClampNeg v else σ.1 i)) = _
    rw [if_pos rfl]
  rw [hw] at g1
  exact k H1 locs1 ls g1 g3 h3
theorem z_last (pc : Nat) (C : z_C p s m args meth c G cc nL own ret) (i : Nat) {n : Nat} (hi : z_kd i = 2 ∧ z_sz i = n) {x : Int32} {v : Int64} (hin : vp_in x n) (hd : decode cc pc = .ok (.lastore, 1)) (k : z_V p l e R s m args below meth c G ce sl Q nL (pc + 1) lv st (z_ul σ i x.toNatClampNeg v)) : z_V p l e R s m args below meth c G ce sl Q nL pc lv (.long v :: .int x :: .ref (z_ad G i) :: st) σ := fun H locs ls h1 h2 h3 => by
  refine va_last C.1 C.2.1 C.2.2.2.2.2.1.1 h1 (C.2.2.2.2.2.1.2.1.D σ) h2 i 1 ((z_W_at (z_kd_lt hi.1 (by decide))).trans (by rw [z_E2 hi.1 hi.2])) rfl hin hd (fun H1 locs1 g1 g2 g3 => ?_)
  have hw : (z_W G σ).set i (z_ad G i, .inl (z_ca G 1, n, .inr (.inl (vp_updL (σ.2 i) x.toNatClampNeg v)))) = z_W G (z_ul σ i x.toNatClampNeg v) := by
    refine z_W_set ?_ (fun _ _ => rfl) (fun a ha => if_neg ha)
    rw [z_E2 hi.1 hi.2]
    show Sum.inl (_, n, Sum.inr (Sum.inl (if i = i then vp_updL (σ.2 i) x.toNatClampNeg v else σ.2 i))) = _
    rw [if_pos rfl]
  rw [hw] at g1
  exact k H1 locs1 ls g1 g3 h3
theorem z_cast (pc : Nat) (C : z_C p s m args meth c G cc nL own ret) (i : Nat) {n : Nat} (hi : z_kd i = 3 ∧ z_sz i = n) {x v : Int32} (hin : vp_in x n) (hd : decode cc pc = .ok (.castore, 1)) (k : z_V p l e R s m args below meth c G ce sl Q nL (pc + 1) lv st (z_ui σ i x.toNatClampNeg (vp_nar .char v))) : z_V p l e R s m args below meth c G ce sl Q nL pc lv (.int v :: .int x :: .ref (z_ad G i) :: st) σ := fun H locs ls h1 h2 h3 => by
  refine va_cast C.1 C.2.1 C.2.2.2.2.2.1.1 h1 (C.2.2.2.2.2.1.2.1.D σ) h2 i 2 ((z_W_at (z_kd_lt hi.1 (by decide))).trans (by rw [z_E3 hi.1 hi.2])) rfl hin hd (fun H1 locs1 g1 g2 g3 => ?_)
  have hw : (z_W G σ).set i (z_ad G i, .inl (z_ca G 2, n, .inl (upd (σ.1 i) x.toNatClampNeg (vp_nar .char v)))) = z_W G (z_ui σ i x.toNatClampNeg (vp_nar .char v)) := by
    refine z_W_set ?_ (fun a ha => if_neg ha) (fun _ _ => rfl)
    rw [z_E3 hi.1 hi.2]
    show Sum.inl (_, n, Sum.inl (if i = i then upd (σ.1 i) x.toNatClampNeg (vp_nar .char v) else σ.1 i)) = _
    rw [if_pos rfl]
  rw [hw] at g1
  exact k H1 locs1 ls g1 g3 h3
/-- the length of a row of ints, of chars -/
theorem z_alen (pc : Nat) (C : z_C p s m args meth c G cc nL own ret) (i : Nat) {n : Nat} (hi : z_kd i = 1 ∧ z_sz i = n) (hd : decode cc pc = .ok (.arraylength, 1)) (k : z_V p l e R s m args below meth c G ce sl Q nL (pc + 1) lv (.int (Int32.ofNat n) :: st) σ) : z_V p l e R s m args below meth c G ce sl Q nL pc lv (.ref (z_ad G i) :: st) σ := fun H locs ls h1 h2 h3 =>
  va_alen C.1 C.2.1 C.2.2.2.2.2.1.1 h1 i 0 ((z_W_at (z_kd_lt hi.1 (by decide))).trans (by rw [z_E1 hi.1 hi.2])) rfl rfl hd (k H locs ls h1 h2 h3)
/-- the tables -/
theorem z_gets (pc : Nat) (C : z_C p s m args meth c G cc nL own ret) (t : Nat) (ht : t < 4) {idx : Nat} (hl : Cond.fieldLink own idx (z_tC t) (z_tn t) "[I" ∈ z_tb) (hd : decode cc pc = .ok (.getstatic idx, 3)) (k : z_V p l e R s m args below meth c G ce sl Q nL (pc + 3) lv (.ref (z_ta G t) :: st) σ) : z_V p l e R s m args below meth c G ce sl Q nL pc lv st σ := fun H locs ls h1 h2 h3 =>
  va_gets C.1 C.2.1 (C.2.2.2.2.2.1.2.2.1 t ht).1 h2 C.2.2.2.1 (C.2.2.2.2.1 _ hl) z_hsame hd (k H locs ls h1 h2 h3)
theorem z_getsN (pc : Nat) (C : z_C p s m args meth c G cc nL own ret) (t : Nat) (ht : t < 4) {idx : Nat} (hl : (own, idx, z_tC t, z_tn t, "[I") ∈ z_nf) (hd : decode cc pc = .ok (.getstatic idx, 3)) (k : z_V p l e R s m args below meth c G ce sl Q nL (pc + 3) lv (.ref (z_ta G t) :: st) σ) : z_V p l e R s m args below meth c G ce sl Q nL pc lv st σ := fun H locs ls h1 h2 h3 =>
  va_getsN (host := RX7) C.1 C.2.1 (C.2.2.2.2.2.1.2.2.1 t ht).1 h2 C.2.2.2.1 (va_Nw.use rfl (C.2.2.2.2.2.1.2.2.2.2 _ hl)) z_hsame hd (k H locs ls h1 h2 h3)
theorem z_tald (pc : Nat) (C : z_C p s m args meth c G cc nL own ret) (t : Nat) (ht : t < 4) {x : Int32} (hin : vp_in x (z_tN t)) (hd : decode cc pc = .ok (.iaload, 1)) (k : z_V p l e R s m args below meth c G ce sl Q nL (pc + 1) lv (.int (z_tv t x.toNatClampNeg) :: st) σ) : z_V p l e R s m args below meth c G ce sl Q nL pc lv (.int x :: .ref (z_ta G t) :: st) σ := fun H locs ls h1 h2 h3 =>
  va_ti C.1 C.2.1 (C.2.2.2.2.2.1.2.2.1 t ht).2 h2 hin rfl hd (k H locs ls h1 h2 h3)
theorem z_tlen (pc : Nat) (C : z_C p s m args meth c G cc nL own ret) (t : Nat) (ht : t < 4) (hd : decode cc pc = .ok (.arraylength, 1)) (k : z_V p l e R s m args below meth c G ce sl Q nL (pc + 1) lv (.int (Int32.ofNat (z_tN t)) :: st) σ) : z_V p l e R s m args below meth c G ce sl Q nL pc lv (.ref (z_ta G t) :: st) σ := fun H locs ls h1 h2 h3 =>
  va_tlen C.1 C.2.1 (C.2.2.2.2.2.1.2.2.1 t ht).2 h2 rfl hd (k H locs ls h1 h2 h3)
/-- the ends -/
theorem z_end {post : Option Value → z_St → Prop} {v : Option Value} {H : Heap} {locs : List Loc} (h : post v σ) (h1 : z_P G σ H) (h2 : va_S (z_A G) s.heap H locs) : ∀ t : State, t.heap = H → s.WarmedH t.vm → z_QW G post args s (.returned v) t := fun t ht hW => ⟨⟨v, σ, rfl, h, by rw [ht]; exact h1⟩, h2.F ht⟩
theorem z_iret {post : Option Value → z_St → Prop} (pc : Nat) (C : z_C p s m args meth c G cc nL own (some .int)) {x : Int32} (hd : decode cc pc = .ok (.ireturn, 1)) (h : post (some (.int x)) σ) : z_V p l e R s m args below meth c G ce sl (MQ below (z_QW G post) args s ce sl (z_A G)) nL pc lv [.int x] σ := fun H locs ls h1 h2 h3 =>
  W.iret C.1 C.2.1 C.2.2.2.2.2.2.1 (z_end h h1 h2) h2.2.2 hd C.2.2.2.2.2.2.2
theorem z_zret {post : Option Value → z_St → Prop} (pc : Nat) (C : z_C p s m args meth c G cc nL own (some .boolean)) {x : Int32} (hn : narrow .boolean (.int x) = .int x) (hd : decode cc pc = .ok (.ireturn, 1)) (h : post (some (.int x)) σ) : z_V p l e R s m args below meth c G ce sl (MQ below (z_QW G post) args s ce sl (z_A G)) nL pc lv [.int x] σ := fun H locs ls h1 h2 h3 =>
  W.zret C.1 C.2.1 C.2.2.2.2.2.2.1 hn (z_end h h1 h2) h2.2.2 hd C.2.2.2.2.2.2.2
theorem z_lret {post : Option Value → z_St → Prop} (pc : Nat) (C : z_C p s m args meth c G cc nL own (some .long)) {x : Int64} (hd : decode cc pc = .ok (.lreturn, 1)) (h : post (some (.long x)) σ) : z_V p l e R s m args below meth c G ce sl (MQ below (z_QW G post) args s ce sl (z_A G)) nL pc lv [.long x] σ := fun H locs ls h1 h2 h3 =>
  W.lret C.1 C.2.1 C.2.2.2.2.2.2.1 (z_end h h1 h2) h2.2.2 hd C.2.2.2.2.2.2.2
theorem z_aret {post : Option Value → z_St → Prop} (pc : Nat) {rt : FieldType} (hrt : (∃ n, rt = .object n) ∨ ∃ t, rt = .array t) (C : z_C p s m args meth c G cc nL own (some rt)) {x : Nat} (hd : decode cc pc = .ok (.areturn, 1)) (h : post (some (.ref x)) σ) : z_V p l e R s m args below meth c G ce sl (MQ below (z_QW G post) args s ce sl (z_A G)) nL pc lv [.ref x] σ := fun H locs ls h1 h2 h3 =>
  W.aret C.1 C.2.1 C.2.2.2.2.2.2.1 hrt (Or.inr ⟨x, rfl⟩) (z_end h h1 h2) h2.2.2 hd C.2.2.2.2.2.2.2
theorem z_vret {post : Option Value → z_St → Prop} (pc : Nat) (C : z_C p s m args meth c G cc nL own none) (hd : decode cc pc = .ok (.return_, 1)) (h : post none σ) : z_V p l e R s m args below meth c G ce sl (MQ below (z_QW G post) args s ce sl (z_A G)) nL pc lv [] σ := fun H locs ls h1 h2 h3 =>
  W.vret C.1 C.2.1 C.2.2.2.2.2.2.1 (z_end h h1 h2) h2.2.2 hd C.2.2.2.2.2.2.2
/-- calls -/
theorem z_call {pc : Nat} {st0 rest : List Value} {a : Array Value} {post : Option Value → z_St → Prop} (hr : ∀ (H : Heap) (locs : List Loc) (ls : Array Slot), z_P G σ H → va_S (z_A G) s.heap H locs → lv_has ls nL lv → va_Run p l e R s m args below meth c H locs ce sl 0 0 (F0 m pc ls st0) rest (z_QW G post a) (z_A G)) (k : ∀ (v : Option Value) (σ1 : z_St), post v σ1 → z_V p l e R s m args below meth c G ce sl Q nL (pc + 3) lv (v.toList ++ rest) σ1) : z_V p l e R s m args below meth c G ce sl Q nL pc lv st0 σ := by
  intro H locs ls h1 h2 h3 T hT X
  obtain ⟨v, st₀, t, T', L, h0, X', hL, e1, e2, ⟨⟨v', σ', hv, hp, hP'⟩, hz, hk⟩, st⟩ := hr H locs ls h1 h2 h3 T hT X
  cases hv
  rw [h0] at hz hk
  obtain ⟨t2, a1, b1⟩ := k v σ' hp T'.heap (locs ++ L) ls (by rw [e1]; exact hP')
    ⟨Nat.le_trans h2.1 (by rw [e1]; exact hz), fun q g1 g2 => by rw [e1, hk q (Nat.lt_of_lt_of_le g1 h2.1) g2]; exact h2.2.1 q g1 g2, fun q hq => by
      rcases List.mem_append.mp hq with h | h
      · exact h2.2.2 q h
      · exact hL q h⟩ h3 T' rfl X'
  exact ⟨t2, st t2 a1, b1⟩
/-- what the tables say of a method -/
def z_K (y : MethodName) (b : ByteArray) (n : Nat) (rt : Option FieldType) (na : Nat) : Prop := Cond.initialized y.cls ∈ z_tb ∧ Cond.code y b n rt ∈ z_tb ∧ (y.cls ≠ "java/lang/invoke/MethodHandle" ∧ y.cls ≠ "java/lang/invoke/VarHandle" ∧ (parseMethodDescriptor y.desc).map (fun d => d.parameters.length) = some na)
def z_KV (y : MethodName) (b : ByteArray) (n : Nat) (rt : Option FieldType) (na : Nat) : Prop := (Cond.instanceMethod y ∈ z_tb ∧ Cond.selects y.cls y y ∈ z_tb) ∧ z_K y b n rt na
def z_KS (y : MethodName) (b : ByteArray) (n : Nat) (rt : Option FieldType) (na : Nat) : Prop := Cond.static y ∈ z_tb ∧ z_K y b n rt na
theorem z_goodM {y : MethodName} {b : ByteArray} {n : Nat} {rt : Option FieldType} {ws : List Cond} (hc : Cond.code y b n rt ∈ z_tb) (h : ∀ w ∈ ws, w ∈ z_tb) : GoodIn z_tb (ws ++ (Cond.code y b n rt :: z_tb)) := by
  intro w hw
  have hm : w ∈ z_tb := by
    rcases List.mem_append.mp hw with q | q
    · exact h w q
    · rcases List.mem_cons.mp q with q | q
      · rw [q]; exact hc
      · exact q
  exact z_tb_good w hm
theorem z_callV (pc : Nat) (C : z_C p s m args meth c G cc nL own ret) (a : Nat) {q : vw_C} (ha : z_kd a = 0 ∧ vwCl[z_sz a]? = some q) {y : MethodName} (hq : q.1 = y.cls) {b : ByteArray} {n idx na : Nat} {rt : Option FieldType} {rm : Room} {As rest : List Value} {post : Option Value → z_St → Prop} (hM : z_M l G y b n rt rm (.ref (z_ad G a) :: As) σ post) (hk : z_KV y b n rt na) (hl : Cond.methodLink own idx y ∈ z_tb) (hrm : rm.cells = 0 ∧ rm.slots = 0) (hR : rm.frames + 1 ≤ R.frames ∧ 8 + (n + 11) + rm.locals ≤ R.locals) (hn : As.length = na) (hW : (rest.map fun v => v.category).sum ≤ 8) (hcs : ce ≤ R.cells ∧ sl ≤ R.slots) {st0 : List Value} (hst : st0 = As.reverse ++ .ref (z_ad G a) :: rest) (hd : decode cc pc = .ok (.invokevirtual idx, 3)) (k : ∀ (v : Option Value) (σ1 : z_St), post v σ1 → z_V p l e R s m args below meth c G ce sl Q nL (pc + 3) lv (v.toList ++ rest) σ1) : z_V p l e R s m args below meth c G ce sl Q nL pc lv st0 σ := by
  subst hst
  refine z_call (a := (Value.ref (z_ad G a) :: As).toArray) (fun H locs ls h1 h2 h3 => ?_) k
  refine va_runV (C := y.cls) ⟨C.1, C.2.1, C.2.2.1, C.2.2.2.1, C.2.2.2.2.1⟩ hM (cwV na C.2.2.2.2.1 (z_goodM hk.2.2.1 (fun w hw => ?_)) rfl hrm.1 hrm.2 ⟨rfl, hk.2.2.2.1, hk.2.2.2.2⟩ hR) ⟨z_PW.blind, ?_, fun U hU hW1 => ⟨rfl, by rw [hU]; exact h1, C.2.2.2.2.2.1.go h2 hU hW1⟩⟩ rfl hn h3.1 rfl (lv_room hW) hd ⟨hcs.1, hcs.2⟩
  · simp only [List.mem_cons, List.not_mem_nil, or_false] at hw
    rcases hw with rfl | rfl | rfl | rfl
    · exact hl
    · exact hk.1.1
    · exact hk.1.2
    · exact hk.2.1
  · have h := va_recv C.2.2.2.2.2.1.1 h1 ha.2 ((z_W_at (z_kd_lt ha.1 (by decide))).trans (by rw [z_E0 ha.1 rfl]))
    rw [hq] at h
    exact h
theorem z_callS (pc : Nat) (C : z_C p s m args meth c G cc nL own ret) {y : MethodName} {b : ByteArray} {n idx na : Nat} {rt : Option FieldType} {rm : Room} {As rest : List Value} {post : Option Value → z_St → Prop} (hM : z_M l G y b n rt rm As σ post) (hk : z_KS y b n rt na) (hl : Cond.methodLink own idx y ∈ z_tb) (hrm : rm.cells = 0 ∧ rm.slots = 0) (hR : rm.frames + 1 ≤ R.frames ∧ 8 + (n + 11) + rm.locals ≤ R.locals) (hn : As.length = na) (hW : (rest.map fun v => v.category).sum ≤ 8) (hcs : ce ≤ R.cells ∧ sl ≤ R.slots) {st0 : List Value} (hst : st0 = As.reverse ++ rest) (hd : decode cc pc = .ok (.invokestatic idx, 3)) (k : ∀ (v : Option Value) (σ1 : z_St), post v σ1 → z_V p l e R s m args below meth c G ce sl Q nL (pc + 3) lv (v.toList ++ rest) σ1) : z_V p l e R s m args below meth c G ce sl Q nL pc lv st0 σ := by
  subst hst
  refine z_call (a := As.toArray) (fun H locs ls h1 h2 h3 => ?_) k
  refine va_runS ⟨C.1, C.2.1, C.2.2.1, C.2.2.2.1, C.2.2.2.2.1⟩ hM (va_cwS na C.2.2.2.2.1 (z_goodM hk.2.2.1 (fun w hw => ?_)) rfl hrm.1 hrm.2 hk.2.2.2 hR) ⟨z_PW.blind, fun U hU hW1 => ⟨rfl, by rw [hU]; exact h1, C.2.2.2.2.2.1.go h2 hU hW1⟩⟩ rfl hn h3.1 rfl (lv_room hW) hd ⟨hcs.1, hcs.2⟩
  simp only [List.mem_cons, List.not_mem_nil, or_false] at hw
  rcases hw with rfl | rfl | rfl
  · exact hl
  · exact hk.1
  · exact hk.2.1
theorem z_callVN (pc : Nat) (C : z_C p s m args meth c G cc nL own ret) (a : Nat) {q : vw_C} (ha : z_kd a = 0 ∧ vwCl[z_sz a]? = some q) {y : MethodName} (hq : q.1 = y.cls) {b : ByteArray} {n idx na : Nat} {rt : Option FieldType} {rm : Room} {As rest : List Value} {post : Option Value → z_St → Prop} (hM : z_M l G y b n rt rm (.ref (z_ad G a) :: As) σ post) (hk : z_KV y b n rt na) (hl : (own, idx, y) ∈ z_nm) (hrm : rm.cells = 0 ∧ rm.slots = 0) (hR : rm.frames + 1 ≤ R.frames ∧ 8 + (n + 11) + rm.locals ≤ R.locals) (hn : As.length = na) (hW : (rest.map fun v => v.category).sum ≤ 8) (hcs : ce ≤ R.cells ∧ sl ≤ R.slots) {st0 : List Value} (hst : st0 = As.reverse ++ .ref (z_ad G a) :: rest) (hd : decode cc pc = .ok (.invokevirtual idx, 3)) (k : ∀ (v : Option Value) (σ1 : z_St), post v σ1 → z_V p l e R s m args below meth c G ce sl Q nL (pc + 3) lv (v.toList ++ rest) σ1) : z_V p l e R s m args below meth c G ce sl Q nL pc lv st0 σ := by
  subst hst
  refine z_call (a := (Value.ref (z_ad G a) :: As).toArray) (fun H locs ls h1 h2 h3 => ?_) k
  have ht := C.2.2.2.2.1
  refine va_runVN (C := y.cls) (host := RX7) (Ts := z_tb) ⟨C.1, C.2.1, C.2.2.1, C.2.2.2.1, ht⟩ hM ⟨va_cnB na ht (fun w hw => z_goodM (ws := []) hk.2.2.1 (fun _ h => absurd h List.not_mem_nil) w hw) rfl hrm.1 hrm.2 (C.2.2.2.2.2.1.2.2.2.1 _ hl) (ht _ hk.2.1) hk.2.2.2 hR, ht _ hk.1.1, ht _ hk.1.2⟩ ⟨z_PW.blind, ?_, fun U hU hW1 => ⟨rfl, by rw [hU]; exact h1, C.2.2.2.2.2.1.go h2 hU hW1⟩⟩ rfl hn h3.1 rfl (lv_room hW) hd ⟨hcs.1, hcs.2⟩
  have h := va_recv C.2.2.2.2.2.1.1 h1 ha.2 ((z_W_at (z_kd_lt ha.1 (by decide))).trans (by rw [z_E0 ha.1 rfl]))
  rw [hq] at h
  exact h
theorem z_callSN (pc : Nat) (C : z_C p s m args meth c G cc nL own ret) {y : MethodName} {b : ByteArray} {n idx na : Nat} {rt : Option FieldType} {rm : Room} {As rest : List Value} {post : Option Value → z_St → Prop} (hM : z_M l G y b n rt rm As σ post) (hk : z_KS y b n rt na) (hl : (own, idx, y) ∈ z_nm) (hrm : rm.cells = 0 ∧ rm.slots = 0) (hR : rm.frames + 1 ≤ R.frames ∧ 8 + (n + 11) + rm.locals ≤ R.locals) (hn : As.length = na) (hW : (rest.map fun v => v.category).sum ≤ 8) (hcs : ce ≤ R.cells ∧ sl ≤ R.slots) {st0 : List Value} (hst : st0 = As.reverse ++ rest) (hd : decode cc pc = .ok (.invokestatic idx, 3)) (k : ∀ (v : Option Value) (σ1 : z_St), post v σ1 → z_V p l e R s m args below meth c G ce sl Q nL (pc + 3) lv (v.toList ++ rest) σ1) : z_V p l e R s m args below meth c G ce sl Q nL pc lv st0 σ := by
  subst hst
  refine z_call (a := As.toArray) (fun H locs ls h1 h2 h3 => ?_) k
  have ht := C.2.2.2.2.1
  exact va_runSN (host := RX7) (Ts := z_tb) ⟨C.1, C.2.1, C.2.2.1, C.2.2.2.1, ht⟩ hM ⟨va_cnB na ht (fun w hw => z_goodM (ws := []) hk.2.2.1 (fun _ h => absurd h List.not_mem_nil) w hw) rfl hrm.1 hrm.2 (C.2.2.2.2.2.1.2.2.2.1 _ hl) (ht _ hk.2.1) hk.2.2.2 hR, ht _ hk.1, trivial⟩ ⟨z_PW.blind, fun U hU hW1 => ⟨rfl, by rw [hU]; exact h1, C.2.2.2.2.2.1.go h2 hU hW1⟩⟩ rfl hn h3.1 rfl (lv_room hW) hd ⟨hcs.1, hcs.2⟩
/-- another name for the store, the locals, the stack -/
theorem z_cv {pc : Nat} {lv1 : List (Nat × Value)} {st1 : List Value} {σ1 : z_St} (h1 : lv = lv1) (h2 : st = st1) (h3 : σ = σ1) (k : z_V p l e R s m args below meth c G ce sl Q nL pc lv1 st1 σ1) : z_V p l e R s m args below meth c G ce sl Q nL pc lv st σ := by
  rw [h1, h2, h3]; exact k
/-- fewer locals, in another order -/
theorem z_sub {pc : Nat} {lv1 : List (Nat × Value)} (ks : List Nat) (h : lv_pick lv ks = lv1) (k : z_V p l e R s m args below meth c G ce sl Q nL pc lv1 st σ) : z_V p l e R s m args below meth c G ce sl Q nL pc lv st σ := fun H locs ls h1 h2 h3 => k H locs ls h1 h2 (lv_sub h3 ks h)

end ZR
end
section
/-- a boolean answer -/
def z_bo (P : Prop) [Decidable P] : Int32 := if P then 1 else 0
theorem z_bo_t {P : Prop} [Decidable P] (h : P) : (1 : Int32) = z_bo P := (if_pos h).symm
theorem z_bo_f {P : Prop} [Decidable P] (h : ¬ P) : (0 : Int32) = z_bo P := (if_neg h).symm
theorem z_bo_0 {P : Prop} [Decidable P] : z_bo P = 0 ↔ ¬ P := by unfold z_bo; by_cases h : P <;> simp [h]
theorem z_bo_nar {P : Prop} [Decidable P] : narrow .boolean (.int (z_bo P)) = .int (z_bo P) := by unfold z_bo; by_cases h : P <;> simp [h] <;> rfl
theorem z_bo_c {P P2 : Prop} [Decidable P] [Decidable P2] (h : P ↔ P2) : z_bo P = z_bo P2 := by unfold z_bo; by_cases h1 : P <;> simp [h1, ← h]
abbrev z_p1 (x : Value) (σ1 : z_St) : Option Value → z_St → Prop := fun v σ => v = some x ∧ σ = σ1
abbrev z_p0 (σ1 : z_St) : Option Value → z_St → Prop := fun v σ => v = none ∧ σ = σ1
abbrev z_rm (f n : Nat) : Room := { frames := f, cells := 0, slots := 0, locals := n }
section ZR
variable {p : Program} {l : Launch} {e : Env} {R : Room} {s : State} {m : MethodId} {args : Array Value} {below : List Frame} {meth : Method} {c : Code} {G : z_Gl} {ce sl : Nat} {Q : State → Prop} {nL : Nat} {lv : List (Nat × Value)} {st : List Value} {σ : z_St} {cc : ByteArray} {own : String} {ret : Option FieldType}
theorem z_k1 {pc : Nat} {x : Value} {σ1 : z_St} (k : z_V p l e R s m args below meth c G ce sl Q nL pc lv (x :: st) σ1) : ∀ (v : Option Value) (σ2 : z_St), z_p1 x σ1 v σ2 → z_V p l e R s m args below meth c G ce sl Q nL pc lv (v.toList ++ st) σ2 := by rintro _ _ ⟨rfl, rfl⟩; exact k
theorem z_k0 {pc : Nat} {σ1 : z_St} (k : z_V p l e R s m args below meth c G ce sl Q nL pc lv st σ1) : ∀ (v : Option Value) (σ2 : z_St), z_p0 σ1 v σ2 → z_V p l e R s m args below meth c G ce sl Q nL pc lv (v.toList ++ st) σ2 := by rintro _ _ ⟨rfl, rfl⟩; exact k
theorem z_iaddN (pc : Nat) (C : z_C p s m args meth c G cc nL own ret) {x y : Int32} (a b : Nat) (hx : x = nI a) (hy : y = nI b) (hd : decode cc pc = .ok (.iadd, 1)) (k : z_V p l e R s m args below meth c G ce sl Q nL (pc + 1) lv (.int (nI (a + b)) :: st) σ) : z_V p l e R s m args below meth c G ce sl Q nL pc lv (.int y :: .int x :: st) σ := z_iadd pc C hd (by rw [hx, hy, nI_add]; exact k)
theorem z_imulN (pc : Nat) (C : z_C p s m args meth c G cc nL own ret) {x y : Int32} (a b : Nat) (hx : x = nI a) (hy : y = nI b) (hd : decode cc pc = .ok (.imul, 1)) (k : z_V p l e R s m args below meth c G ce sl Q nL (pc + 1) lv (.int (nI (a * b)) :: st) σ) : z_V p l e R s m args below meth c G ce sl Q nL pc lv (.int y :: .int x :: st) σ := z_imul pc C hd (by rw [hx, hy, pk_mul]; exact k)
theorem z_isubN (pc : Nat) (C : z_C p s m args meth c G cc nL own ret) {x y : Int32} (a b : Nat) (hx : x = nI a) (hy : y = nI b) (hba : b ≤ a) (hd : decode cc pc = .ok (.isub, 1)) (k : z_V p l e R s m args below meth c G ce sl Q nL (pc + 1) lv (.int (nI (a - b)) :: st) σ) : z_V p l e R s m args below meth c G ce sl Q nL pc lv (.int y :: .int x :: st) σ := z_isub pc C hd (by rw [hx, hy, pk_sub hba]; exact k)
theorem z_idivN (pc : Nat) (C : z_C p s m args meth c G cc nL own ret) {x y : Int32} (a b : Nat) (hx : x = nI a) (hy : y = nI b) (ha : a < 2 ^ 31) (h0 : 0 < b) (hb : b < 2 ^ 31) (hd : decode cc pc = .ok (.idiv, 1)) (k : z_V p l e R s m args below meth c G ce sl Q nL (pc + 1) lv (.int (nI (a / b)) :: st) σ) : z_V p l e R s m args below meth c G ce sl Q nL pc lv (.int y :: .int x :: st) σ := z_idiv pc C hd (by rw [hy]; exact nI_ne0 h0 hb) (by rw [hx, hy, pk_div ha h0 hb]; exact k)
theorem z_iremN (pc : Nat) (C : z_C p s m args meth c G cc nL own ret) {x y : Int32} (a b : Nat) (hx : x = nI a) (hy : y = nI b) (ha : a < 2 ^ 31) (h0 : 0 < b) (hb : b < 2 ^ 31) (hd : decode cc pc = .ok (.irem, 1)) (k : z_V p l e R s m args below meth c G ce sl Q nL (pc + 1) lv (.int (nI (a % b)) :: st) σ) : z_V p l e R s m args below meth c G ce sl Q nL pc lv (.int y :: .int x :: st) σ := z_irem pc C hd (by rw [hy]; exact nI_ne0 h0 hb) (by rw [hx, hy, pk_rem ha h0 hb]; exact k)
theorem z_iincN (pc : Nat) (C : z_C p s m args meth c G cc nL own ret) (j : Nat) (a : Nat) (lv1 : List (Nat × Value)) {i : Nat} {x : Int32} (hj : lv[j]? = some (i, .int x)) (hx : x = nI a) (hn : i < nL) (hl : (i, Value.int (nI (a + 1))) :: lv.filter (fun q => !(q.1 == i) && !(q.1 + 1 == i && q.2.category == 2)) = lv1) (hd : decode cc pc = .ok (.iinc i 1, 3)) (k : z_V p l e R s m args below meth c G ce sl Q nL (pc + 3) lv1 st σ) : z_V p l e R s m args below meth c G ce sl Q nL pc lv st σ := z_iinc pc C hd j lv1 hj hn (by rw [hx, ← hl]; show (i, Value.int (nI a + 1)) :: _ = _; rw [nI_1]) k
theorem z_icmp_eqN (pc : Nat) (C : z_C p s m args meth c G cc nL own ret) {x y : Int32} (a b : Nat) (hx : x = nI a) (hy : y = nI b) (ha : a < 2 ^ 31) (hb : b < 2 ^ 31) (tgt : Nat) {off : Int} (hd : decode cc pc = .ok (.if_icmp .eq off, 3)) (ht : (pc : Int) + off = (tgt : Int)) (kt : (a = b) → z_V p l e R s m args below meth c G ce sl Q nL tgt lv st σ) (kf : (a ≠ b) → z_V p l e R s m args below meth c G ce sl Q nL (pc + 3) lv st σ) : z_V p l e R s m args below meth c G ce sl Q nL pc lv (.int y :: .int x :: st) σ := by
  subst hx; subst hy
  exact z_icmp_eq pc C tgt hd ht (fun q => kt ((nI_eq ha hb).mp q)) (fun q => kf (fun z => q ((nI_eq ha hb).mpr z)))
theorem z_icmp_ltN (pc : Nat) (C : z_C p s m args meth c G cc nL own ret) {x y : Int32} (a b : Nat) (hx : x = nI a) (hy : y = nI b) (ha : a < 2 ^ 31) (hb : b < 2 ^ 31) (tgt : Nat) {off : Int} (hd : decode cc pc = .ok (.if_icmp .lt off, 3)) (ht : (pc : Int) + off = (tgt : Int)) (kt : (a < b) → z_V p l e R s m args below meth c G ce sl Q nL tgt lv st σ) (kf : (b ≤ a) → z_V p l e R s m args below meth c G ce sl Q nL (pc + 3) lv st σ) : z_V p l e R s m args below meth c G ce sl Q nL pc lv (.int y :: .int x :: st) σ := by
  subst hx; subst hy
  exact z_icmp_lt pc C tgt hd ht (fun q => kt ((nI_ltI ha hb).mp q)) (fun q => kf (Nat.not_lt.mp (fun z => q ((nI_ltI ha hb).mpr z))))
theorem z_icmp_geN (pc : Nat) (C : z_C p s m args meth c G cc nL own ret) {x y : Int32} (a b : Nat) (hx : x = nI a) (hy : y = nI b) (ha : a < 2 ^ 31) (hb : b < 2 ^ 31) (tgt : Nat) {off : Int} (hd : decode cc pc = .ok (.if_icmp .ge off, 3)) (ht : (pc : Int) + off = (tgt : Int)) (kt : (b ≤ a) → z_V p l e R s m args below meth c G ce sl Q nL tgt lv st σ) (kf : (a < b) → z_V p l e R s m args below meth c G ce sl Q nL (pc + 3) lv st σ) : z_V p l e R s m args below meth c G ce sl Q nL pc lv (.int y :: .int x :: st) σ := by
  subst hx; subst hy
  exact z_icmp_ge pc C tgt hd ht (fun q => kt ((nI_leI hb ha).mp q)) (fun q => kf (Nat.not_le.mp (fun z => q ((nI_leI hb ha).mpr z))))
theorem z_icmp_gtN (pc : Nat) (C : z_C p s m args meth c G cc nL own ret) {x y : Int32} (a b : Nat) (hx : x = nI a) (hy : y = nI b) (ha : a < 2 ^ 31) (hb : b < 2 ^ 31) (tgt : Nat) {off : Int} (hd : decode cc pc = .ok (.if_icmp .gt off, 3)) (ht : (pc : Int) + off = (tgt : Int)) (kt : (b < a) → z_V p l e R s m args below meth c G ce sl Q nL tgt lv st σ) (kf : (a ≤ b) → z_V p l e R s m args below meth c G ce sl Q nL (pc + 3) lv st σ) : z_V p l e R s m args below meth c G ce sl Q nL pc lv (.int y :: .int x :: st) σ := by
  subst hx; subst hy
  exact z_icmp_gt pc C tgt hd ht (fun q => kt ((nI_ltI hb ha).mp q)) (fun q => kf (Nat.not_lt.mp (fun z => q ((nI_ltI hb ha).mpr z))))
theorem z_icmp_leN (pc : Nat) (C : z_C p s m args meth c G cc nL own ret) {x y : Int32} (a b : Nat) (hx : x = nI a) (hy : y = nI b) (ha : a < 2 ^ 31) (hb : b < 2 ^ 31) (tgt : Nat) {off : Int} (hd : decode cc pc = .ok (.if_icmp .le off, 3)) (ht : (pc : Int) + off = (tgt : Int)) (kt : (a ≤ b) → z_V p l e R s m args below meth c G ce sl Q nL tgt lv st σ) (kf : (b < a) → z_V p l e R s m args below meth c G ce sl Q nL (pc + 3) lv st σ) : z_V p l e R s m args below meth c G ce sl Q nL pc lv (.int y :: .int x :: st) σ := by
  subst hx; subst hy
  exact z_icmp_le pc C tgt hd ht (fun q => kt ((nI_leI ha hb).mp q)) (fun q => kf (Nat.not_le.mp (fun z => q ((nI_leI ha hb).mpr z))))
theorem z_icmp_neN (pc : Nat) (C : z_C p s m args meth c G cc nL own ret) {x y : Int32} (a b : Nat) (hx : x = nI a) (hy : y = nI b) (ha : a < 2 ^ 31) (hb : b < 2 ^ 31) (tgt : Nat) {off : Int} (hd : decode cc pc = .ok (.if_icmp .ne off, 3)) (ht : (pc : Int) + off = (tgt : Int)) (kt : (a ≠ b) → z_V p l e R s m args below meth c G ce sl Q nL tgt lv st σ) (kf : (a = b) → z_V p l e R s m args below meth c G ce sl Q nL (pc + 3) lv st σ) : z_V p l e R s m args below meth c G ce sl Q nL pc lv (.int y :: .int x :: st) σ := by
  subst hx; subst hy
  exact z_icmp_ne pc C tgt hd ht (fun q => kt (fun z => q ((nI_eq ha hb).mpr z))) (fun q => kf ((nI_eq ha hb).mp q))
theorem z_if_eqb (pc : Nat) (C : z_C p s m args meth c G cc nL own ret) {P : Prop} [Decidable P] (tgt : Nat) {off : Int} (hd : decode cc pc = .ok (.ifCond .eq off, 3)) (ht : (pc : Int) + off = (tgt : Int)) (kt : ¬ (P) → z_V p l e R s m args below meth c G ce sl Q nL tgt lv st σ) (kf : (P) → z_V p l e R s m args below meth c G ce sl Q nL (pc + 3) lv st σ) : z_V p l e R s m args below meth c G ce sl Q nL pc lv (.int (z_bo P) :: st) σ := z_if_eq pc C tgt hd ht (fun q => kt (z_bo_0.mp q)) (fun q => kf (Decidable.not_not.mp (fun z => q (z_bo_0.mpr z))))
theorem z_if_neb (pc : Nat) (C : z_C p s m args meth c G cc nL own ret) {P : Prop} [Decidable P] (tgt : Nat) {off : Int} (hd : decode cc pc = .ok (.ifCond .ne off, 3)) (ht : (pc : Int) + off = (tgt : Int)) (kt : (P) → z_V p l e R s m args below meth c G ce sl Q nL tgt lv st σ) (kf : ¬ (P) → z_V p l e R s m args below meth c G ce sl Q nL (pc + 3) lv st σ) : z_V p l e R s m args below meth c G ce sl Q nL pc lv (.int (z_bo P) :: st) σ := z_if_ne pc C tgt hd ht (fun q => kt (Decidable.not_not.mp (fun z => q (z_bo_0.mpr z)))) (fun q => kf (z_bo_0.mp q))
theorem z_ialdN (pc : Nat) (C : z_C p s m args meth c G cc nL own ret) (i : Nat) {n : Nat} (hi : z_kd i = 1 ∧ z_sz i = n) {x : Int32} (j : Nat) (hx : x = nI j) (hj : j < n) (hn : n < 2 ^ 31) (hd : decode cc pc = .ok (.iaload, 1)) (k : z_V p l e R s m args below meth c G ce sl Q nL (pc + 1) lv (.int (σ.1 i j) :: st) σ) : z_V p l e R s m args below meth c G ce sl Q nL pc lv (.int x :: .ref (z_ad G i) :: st) σ := by
  subst hx
  refine z_iald pc C i hi (vp_in_nI hj hn) hd ?_
  rw [nI_clamp (Nat.lt_trans hj hn)]
  exact k
theorem z_laldN (pc : Nat) (C : z_C p s m args meth c G cc nL own ret) (i : Nat) {n : Nat} (hi : z_kd i = 2 ∧ z_sz i = n) {x : Int32} (j : Nat) (hx : x = nI j) (hj : j < n) (hn : n < 2 ^ 31) (hd : decode cc pc = .ok (.laload, 1)) (k : z_V p l e R s m args below meth c G ce sl Q nL (pc + 1) lv (.long (σ.2 i j) :: st) σ) : z_V p l e R s m args below meth c G ce sl Q nL pc lv (.int x :: .ref (z_ad G i) :: st) σ := by
  subst hx
  refine z_lald pc C i hi (vp_in_nI hj hn) hd ?_
  rw [nI_clamp (Nat.lt_trans hj hn)]
  exact k
theorem z_caldN (pc : Nat) (C : z_C p s m args meth c G cc nL own ret) (i : Nat) {n : Nat} (hi : z_kd i = 3 ∧ z_sz i = n) {x : Int32} (j : Nat) (hx : x = nI j) (hj : j < n) (hn : n < 2 ^ 31) (hd : decode cc pc = .ok (.caload, 1)) (k : z_V p l e R s m args below meth c G ce sl Q nL (pc + 1) lv (.int (σ.1 i j) :: st) σ) : z_V p l e R s m args below meth c G ce sl Q nL pc lv (.int x :: .ref (z_ad G i) :: st) σ := by
  subst hx
  refine z_cald pc C i hi (vp_in_nI hj hn) hd ?_
  rw [nI_clamp (Nat.lt_trans hj hn)]
  exact k
theorem z_aaldN (pc : Nat) (C : z_C p s m args meth c G cc nL own ret) (i : Nat) {n : Nat} (hi : (z_kd i = 4 ∨ z_kd i = 5) ∧ z_sz i = n) {x : Int32} (j r : Nat) (hx : x = nI j) (hj : j < n) (hn : n < 2 ^ 31) (hr : z_rf i j = r) (hd : decode cc pc = .ok (.aaload, 1)) (k : z_V p l e R s m args below meth c G ce sl Q nL (pc + 1) lv (.ref (z_ad G r) :: st) σ) : z_V p l e R s m args below meth c G ce sl Q nL pc lv (.int x :: .ref (z_ad G i) :: st) σ := by
  subst hx
  refine z_aald pc C i hi (vp_in_nI hj hn) hd ?_
  rw [nI_clamp (Nat.lt_trans hj hn), hr]
  exact k
theorem z_iastN (pc : Nat) (C : z_C p s m args meth c G cc nL own ret) (i : Nat) {n : Nat} (hi : z_kd i = 1 ∧ z_sz i = n) {x v : Int32} (j : Nat) (hx : x = nI j) (hj : j < n) (hn : n < 2 ^ 31) (hd : decode cc pc = .ok (.iastore, 1)) (k : z_V p l e R s m args below meth c G ce sl Q nL (pc + 1) lv st (z_ui σ i j v)) : z_V p l e R s m args below meth c G ce sl Q nL pc lv (.int v :: .int x :: .ref (z_ad G i) :: st) σ := by
  subst hx
  refine z_iast pc C i hi (vp_in_nI hj hn) hd ?_
  rw [nI_clamp (Nat.lt_trans hj hn)]
  exact k
theorem z_lastN (pc : Nat) (C : z_C p s m args meth c G cc nL own ret) (i : Nat) {n : Nat} (hi : z_kd i = 2 ∧ z_sz i = n) {x : Int32} {v : Int64} (j : Nat) (hx : x = nI j) (hj : j < n) (hn : n < 2 ^ 31) (hd : decode cc pc = .ok (.lastore, 1)) (k : z_V p l e R s m args below meth c G ce sl Q nL (pc + 1) lv st (z_ul σ i j v)) : z_V p l e R s m args below meth c G ce sl Q nL pc lv (.long v :: .int x :: .ref (z_ad G i) :: st) σ := by
  subst hx
  refine z_last pc C i hi (vp_in_nI hj hn) hd ?_
  rw [nI_clamp (Nat.lt_trans hj hn)]
  exact k
theorem z_castN (pc : Nat) (C : z_C p s m args meth c G cc nL own ret) (i : Nat) {n : Nat} (hi : z_kd i = 3 ∧ z_sz i = n) {x v : Int32} (j : Nat) (hx : x = nI j) (hj : j < n) (hn : n < 2 ^ 31) (hd : decode cc pc = .ok (.castore, 1)) (k : z_V p l e R s m args below meth c G ce sl Q nL (pc + 1) lv st (z_ui σ i j (vp_nar .char v))) : z_V p l e R s m args below meth c G ce sl Q nL pc lv (.int v :: .int x :: .ref (z_ad G i) :: st) σ := by
  subst hx
  refine z_cast pc C i hi (vp_in_nI hj hn) hd ?_
  rw [nI_clamp (Nat.lt_trans hj hn)]
  exact k
theorem z_taldN (pc : Nat) (C : z_C p s m args meth c G cc nL own ret) (t : Nat) (ht : t < 4) {x : Int32} (j : Nat) (hx : x = nI j) (hj : j < z_tN t) (hd : decode cc pc = .ok (.iaload, 1)) (k : z_V p l e R s m args below meth c G ce sl Q nL (pc + 1) lv (.int (z_tv t j) :: st) σ) : z_V p l e R s m args below meth c G ce sl Q nL pc lv (.int x :: .ref (z_ta G t) :: st) σ := by
  subst hx
  have hb : z_tN t < 2 ^ 31 := by unfold z_tN; split <;> decide
  refine z_tald pc C t ht (vp_in_nI hj hb) hd ?_
  rw [nI_clamp (Nat.lt_trans hj hb)]
  exact k
end ZR
theorem z_dX0 : z_D 0 RX0 TX0 9 tyX0 := ⟨rfl, igX0, tyX0_ok, nmX0⟩
theorem z_dX1 : z_D 1 RX1 TX1 4 tyX1 := ⟨rfl, igX1, tyX1_ok, nmX1⟩
theorem z_dX2 : z_D 2 RX2 TX2 5 tyX2 := ⟨rfl, igX2, tyX2_ok, nmX2⟩
theorem z_dX3 : z_D 3 RX3 TX3 6 tyX3 := ⟨rfl, igX3, tyX3_ok, nmX3⟩
theorem z_dX4 : z_D 4 RX4 TX4 10 tyX4 := ⟨rfl, igX4, tyX4_ok, nmX4⟩
theorem z_dX5 : z_D 5 RX5 TX5 4 tyX5 := ⟨rfl, igX5, tyX5_ok, nmX5⟩
theorem z_dX6 : z_D 6 RX6 TX6 6 tyX6 := ⟨rfl, igX6, tyX6_ok, nmX6⟩
theorem z_dX7 : z_D 7 RX7 TX7 8 tyX7 := ⟨rfl, igX7, tyX7_ok, nmX7⟩
theorem z_dX8 : z_D 8 RX8 TX8 30 tyX8 := ⟨rfl, igX8, tyX8_ok, nmX8⟩
/-- the cells of the circles -/
def z_cs : List Nat := [50, 54, 58, 62, 66, 70, 74, 78, 89, 93, 97, 101]
def z_iC (b : Nat) : Prop := b ∈ z_cs
theorem z_iC_all : ∀ b ∈ z_cs, (z_kd b = 0 ∧ z_sz b = 0) ∧ (z_kd (b + 1) = 2 ∧ z_sz (b + 1) = 24) ∧ (z_kd (b + 2) = 2 ∧ z_sz (b + 2) = 24) ∧ (z_kd (b + 3) = 1 ∧ z_sz (b + 3) = 24) := by decide
theorem z_cC {b : Nat} (h : z_iC b) : z_kd b = 0 ∧ z_sz b = 0 := (z_iC_all b h).1
theorem z_cP {b : Nat} (h : z_iC b) : z_kd (b + 1) = 2 ∧ z_sz (b + 1) = 24 := (z_iC_all b h).2.1
theorem z_cV {b : Nat} (h : z_iC b) : z_kd (b + 2) = 2 ∧ z_sz (b + 2) = 24 := (z_iC_all b h).2.2.1
theorem z_cN {b : Nat} (h : z_iC b) : z_kd (b + 3) = 1 ∧ z_sz (b + 3) = 24 := (z_iC_all b h).2.2.2
theorem z_iC_m : ∀ k, k < 4 → z_iC (89 + 4 * k) := by unfold z_iC; decide
theorem z_iC_r : ∀ k, k < 8 → z_iC (50 + 4 * k) := by unfold z_iC; decide
theorem z_rgK : ∀ k, k < 21 → z_kd (10 + k) = 2 ∧ z_sz (10 + k) = 24 := by decide
theorem z_trK : ∀ k, k < 6 → z_kd (34 + k) = 2 ∧ z_sz (34 + k) = 24 := by decide
theorem k_X7_setSteps : z_KV yX7_setSteps cX7_setSteps 3 (some FieldType.int) 1 := ⟨⟨q365, q366⟩, q102, q367, ⟨by decide +kernel, by decide +kernel, by decide +kernel⟩⟩
theorem k_X7_isStepCount : z_KS yX7_isStepCount cX7_isStepCount 1 (some FieldType.boolean) 1 := ⟨q369, q102, q370, ⟨by decide +kernel, by decide +kernel, by decide +kernel⟩⟩
theorem k_X2_begin : z_KV yX2_begin cX2_begin 2 none 1 := ⟨⟨q374, q0⟩, q103, q375, ⟨by decide +kernel, by decide +kernel, by decide +kernel⟩⟩
theorem k_X7_read : z_KV yX7_read cX7_read 2 (some FieldType.int) 1 := ⟨⟨q377, q378⟩, q102, q379, ⟨by decide +kernel, by decide +kernel, by decide +kernel⟩⟩
theorem k_X7_isOutside : z_KS yX7_isOutside cX7_isOutside 3 (some FieldType.boolean) 3 := ⟨q381, q102, q382, ⟨by decide +kernel, by decide +kernel, by decide +kernel⟩⟩
theorem k_X2_isComplete : z_KV yX2_isComplete cX2_isComplete 1 (some FieldType.boolean) 0 := ⟨⟨q385, q1⟩, q103, q386, ⟨by decide +kernel, by decide +kernel, by decide +kernel⟩⟩
theorem k_X2_append : z_KV yX2_append cX2_append 2 none 1 := ⟨⟨q390, q2⟩, q103, q391, ⟨by decide +kernel, by decide +kernel, by decide +kernel⟩⟩
theorem k_X7_simulateStep : z_KV yX7_simulateStep cX7_simulateStep 3 (some FieldType.int) 0 := ⟨⟨q393, q394⟩, q102, q395, ⟨by decide +kernel, by decide +kernel, by decide +kernel⟩⟩
theorem k_X2_nextPosition : z_KV yX2_nextPosition cX2_nextPosition 1 (some FieldType.int) 0 := ⟨⟨q398, q3⟩, q103, q399, ⟨by decide +kernel, by decide +kernel, by decide +kernel⟩⟩
theorem k_X2_finishedSteps : z_KV yX2_finishedSteps cX2_finishedSteps 1 (some FieldType.int) 0 := ⟨⟨q402, q4⟩, q103, q403, ⟨by decide +kernel, by decide +kernel, by decide +kernel⟩⟩
theorem k_X2_turnOf : z_KV yX2_turnOf cX2_turnOf 2 (some FieldType.int) 1 := ⟨⟨q406, q5⟩, q103, q407, ⟨by decide +kernel, by decide +kernel, by decide +kernel⟩⟩
theorem k_X5_readingAt : z_KV yX5_readingAt cX5_readingAt 6 (some FieldType.int) 2 := ⟨⟨q410, q6⟩, q104, q411, ⟨by decide +kernel, by decide +kernel, by decide +kernel⟩⟩
theorem k_X7_place : z_KS yX7_place cX7_place 1 (some FieldType.int) 1 := ⟨q413, q102, q414, ⟨by decide +kernel, by decide +kernel, by decide +kernel⟩⟩
theorem k_J9_floorMod_7cf53 : z_KS yJ9_floorMod_7cf53 cJ9_floorMod_7cf53 3 (some FieldType.int) 2 := ⟨q416, q111, q417, ⟨by decide +kernel, by decide +kernel, by decide +kernel⟩⟩
theorem k_X7_wave : z_KS yX7_wave cX7_wave 6 (some FieldType.long) 3 := ⟨q419, q102, q420, ⟨by decide +kernel, by decide +kernel, by decide +kernel⟩⟩
theorem k_J9_floorDiv_f86c9 : z_KS yJ9_floorDiv_f86c9 cJ9_floorDiv_f86c9 6 (some FieldType.long) 2 := ⟨q427, q111, q428, ⟨by decide +kernel, by decide +kernel, by decide +kernel⟩⟩
theorem k_X7_clamp : z_KS yX7_clamp cX7_clamp 3 (some FieldType.int) 2 := ⟨q430, q102, q431, ⟨by decide +kernel, by decide +kernel, by decide +kernel⟩⟩
theorem k_X7_removeReadings : z_KV yX7_removeReadings cX7_removeReadings 2 (some FieldType.int) 1 := ⟨⟨q433, q434⟩, q102, q435, ⟨by decide +kernel, by decide +kernel, by decide +kernel⟩⟩
theorem k_X7_progress : z_KV yX7_progress cX7_progress 2 (some FieldType.int) 1 := ⟨⟨q437, q438⟩, q102, q439, ⟨by decide +kernel, by decide +kernel, by decide +kernel⟩⟩
theorem k_X7_reading : z_KV yX7_reading cX7_reading 3 (some FieldType.int) 2 := ⟨⟨q442, q443⟩, q102, q444, ⟨by decide +kernel, by decide +kernel, by decide +kernel⟩⟩
theorem k_X7_isNoPosition : z_KS yX7_isNoPosition cX7_isNoPosition 1 (some FieldType.boolean) 1 := ⟨q446, q102, q447, ⟨by decide +kernel, by decide +kernel, by decide +kernel⟩⟩
theorem k_X2_at : z_KV yX2_at cX2_at 3 (some FieldType.int) 2 := ⟨⟨q450, q7⟩, q103, q451, ⟨by decide +kernel, by decide +kernel, by decide +kernel⟩⟩
theorem k_X7_despike : z_KV yX7_despike cX7_despike 3 (some FieldType.int) 2 := ⟨⟨q454, q455⟩, q102, q456, ⟨by decide +kernel, by decide +kernel, by decide +kernel⟩⟩
theorem k_X2_replaceSpikes : z_KV yX2_replaceSpikes cX2_replaceSpikes 7 (some FieldType.int) 2 := ⟨⟨q459, q8⟩, q103, q460, ⟨by decide +kernel, by decide +kernel, by decide +kernel⟩⟩
theorem k_J9_abs_0f7a4 : z_KS yJ9_abs_0f7a4 cJ9_abs_0f7a4 1 (some FieldType.int) 1 := ⟨q466, q111, q467, ⟨by decide +kernel, by decide +kernel, by decide +kernel⟩⟩
theorem k_J9_floorDiv_7cf53 : z_KS yJ9_floorDiv_7cf53 cJ9_floorDiv_7cf53 3 (some FieldType.int) 2 := ⟨q469, q111, q470, ⟨by decide +kernel, by decide +kernel, by decide +kernel⟩⟩
theorem k_X7_part : z_KV yX7_part cX7_part 2 (some FieldType.long) 1 := ⟨⟨q472, q473⟩, q102, q474, ⟨by decide +kernel, by decide +kernel, by decide +kernel⟩⟩
theorem k_X2_partAt : z_KV yX2_partAt cX2_partAt 6 (some FieldType.long) 1 := ⟨⟨q478, q9⟩, q103, q479, ⟨by decide +kernel, by decide +kernel, by decide +kernel⟩⟩
theorem k_X2_sumAt : z_KV yX2_sumAt cX2_sumAt 5 (some FieldType.long) 1 := ⟨⟨q484, q10⟩, q103, q485, ⟨by decide +kernel, by decide +kernel, by decide +kernel⟩⟩
theorem k_X7_divide : z_KS yX7_divide cX7_divide 4 (some FieldType.long) 2 := ⟨q488, q102, q489, ⟨by decide +kernel, by decide +kernel, by decide +kernel⟩⟩
theorem k_X7_spindle : z_KV yX7_spindle cX7_spindle 2 (some FieldType.long) 1 := ⟨⟨q491, q492⟩, q102, q493, ⟨by decide +kernel, by decide +kernel, by decide +kernel⟩⟩
theorem k_X2_spindleAt : z_KV yX2_spindleAt cX2_spindleAt 2 (some FieldType.long) 1 := ⟨⟨q496, q11⟩, q103, q497, ⟨by decide +kernel, by decide +kernel, by decide +kernel⟩⟩
theorem k_X7_isBlind : z_KV yX7_isBlind cX7_isBlind 3 (some FieldType.int) 1 := ⟨⟨q499, q500⟩, q102, q501, ⟨by decide +kernel, by decide +kernel, by decide +kernel⟩⟩
theorem k_X7_residual : z_KV yX7_residual cX7_residual 1 (some FieldType.long) 0 := ⟨⟨q503, q504⟩, q102, q505, ⟨by decide +kernel, by decide +kernel, by decide +kernel⟩⟩
theorem k_X2_greatestResidual : z_KV yX2_greatestResidual cX2_greatestResidual 9 (some FieldType.long) 0 := ⟨⟨q508, q12⟩, q103, q509, ⟨by decide +kernel, by decide +kernel, by decide +kernel⟩⟩
theorem k_J9_abs_067f4 : z_KS yJ9_abs_067f4 cJ9_abs_067f4 2 (some FieldType.long) 1 := ⟨q513, q111, q514, ⟨by decide +kernel, by decide +kernel, by decide +kernel⟩⟩
theorem k_J9_max_f86c9 : z_KS yJ9_max_f86c9 cJ9_max_f86c9 4 (some FieldType.long) 2 := ⟨q516, q111, q517, ⟨by decide +kernel, by decide +kernel, by decide +kernel⟩⟩
theorem k_X7_load : z_KV yX7_load cX7_load 4 (some FieldType.int) 2 := ⟨⟨q519, q520⟩, q102, q521, ⟨by decide +kernel, by decide +kernel, by decide +kernel⟩⟩
theorem k_X7_sourceError : z_KV yX7_sourceError cX7_sourceError 3 (some FieldType.int) 2 := ⟨⟨q524, q13⟩, q102, q525, ⟨by decide +kernel, by decide +kernel, by decide +kernel⟩⟩
theorem k_X7_fillNext : z_KV yX7_fillNext cX7_fillNext 4 none 2 := ⟨⟨q528, q14⟩, q102, q529, ⟨by decide +kernel, by decide +kernel, by decide +kernel⟩⟩
theorem k_X7_sourceAt : z_KV yX7_sourceAt cX7_sourceAt 4 (some FieldType.long) 3 := ⟨⟨q532, q15⟩, q102, q533, ⟨by decide +kernel, by decide +kernel, by decide +kernel⟩⟩
theorem k_X5_profileOf : z_KV yX5_profileOf cX5_profileOf 2 (some (FieldType.array FieldType.int)) 1 := ⟨⟨q536, q16⟩, q104, q537, ⟨by decide +kernel, by decide +kernel, by decide +kernel⟩⟩
theorem k_X7_makeNextPresent : z_KV yX7_makeNextPresent cX7_makeNextPresent 1 (some FieldType.int) 0 := ⟨⟨q540, q17⟩, q102, q541, ⟨by decide +kernel, by decide +kernel, by decide +kernel⟩⟩
theorem k_X1_append : z_KV yX1_append cX1_append 3 (some FieldType.boolean) 1 := ⟨⟨q544, q18⟩, q105, q545, ⟨by decide +kernel, by decide +kernel, by decide +kernel⟩⟩
theorem k_X1_present : z_KV yX1_present cX1_present 1 (some (FieldType.array FieldType.long)) 0 := ⟨⟨q548, q19⟩, q105, q549, ⟨by decide +kernel, by decide +kernel, by decide +kernel⟩⟩
theorem k_X7_isSame : z_KS yX7_isSame cX7_isSame 3 (some FieldType.boolean) 2 := ⟨q551, q102, q552, ⟨by decide +kernel, by decide +kernel, by decide +kernel⟩⟩
theorem k_X7_profile : z_KV yX7_profile cX7_profile 2 (some FieldType.long) 1 := ⟨⟨q555, q556⟩, q102, q557, ⟨by decide +kernel, by decide +kernel, by decide +kernel⟩⟩
theorem k_X7_rotate : z_KV yX7_rotate cX7_rotate 4 (some FieldType.int) 1 := ⟨⟨q560, q561⟩, q102, q562, ⟨by decide +kernel, by decide +kernel, by decide +kernel⟩⟩
theorem k_X7_removeEccentricity : z_KV yX7_removeEccentricity cX7_removeEccentricity 9 (some FieldType.int) 0 := ⟨⟨q565, q566⟩, q102, q567, ⟨by decide +kernel, by decide +kernel, by decide +kernel⟩⟩
theorem k_X7_coefficient : z_KS yX7_coefficient cX7_coefficient 7 (some FieldType.long) 3 := ⟨q569, q102, q570, ⟨by decide +kernel, by decide +kernel, by decide +kernel⟩⟩
theorem k_X7_keepLobes : z_KV yX7_keepLobes cX7_keepLobes 3 (some FieldType.int) 2 := ⟨⟨q575, q576⟩, q102, q577, ⟨by decide +kernel, by decide +kernel, by decide +kernel⟩⟩
theorem k_X7_isNoRange : z_KS yX7_isNoRange cX7_isNoRange 2 (some FieldType.boolean) 2 := ⟨q579, q102, q580, ⟨by decide +kernel, by decide +kernel, by decide +kernel⟩⟩
theorem k_X7_copyLobes : z_KS yX7_copyLobes cX7_copyLobes 10 none 4 := ⟨q582, q102, q583, ⟨by decide +kernel, by decide +kernel, by decide +kernel⟩⟩
theorem k_X7_subtract : z_KV yX7_subtract cX7_subtract 6 (some FieldType.int) 2 := ⟨⟨q585, q586⟩, q102, q587, ⟨by decide +kernel, by decide +kernel, by decide +kernel⟩⟩
theorem k_X7_isNextTooGreat : z_KV yX7_isNextTooGreat cX7_isNextTooGreat 2 (some FieldType.boolean) 0 := ⟨⟨q590, q20⟩, q102, q591, ⟨by decide +kernel, by decide +kernel, by decide +kernel⟩⟩
theorem k_X7_vBlock : z_KV yX7_vBlock cX7_vBlock 6 (some FieldType.int) 1 := ⟨⟨q595, q596⟩, q102, q597, ⟨by decide +kernel, by decide +kernel, by decide +kernel⟩⟩
theorem k_X7_cosine : z_KS yX7_cosine cX7_cosine 1 (some FieldType.int) 1 := ⟨q600, q102, q601, ⟨by decide +kernel, by decide +kernel, by decide +kernel⟩⟩
theorem k_X7_isBlindInVBlock : z_KV yX7_isBlindInVBlock cX7_isBlindInVBlock 4 (some FieldType.int) 2 := ⟨⟨q604, q605⟩, q102, q606, ⟨by decide +kernel, by decide +kernel, by decide +kernel⟩⟩
theorem k_X7_undo : z_KV yX7_undo cX7_undo 1 (some FieldType.int) 0 := ⟨⟨q608, q609⟩, q102, q610, ⟨by decide +kernel, by decide +kernel, by decide +kernel⟩⟩
theorem k_X1_stepBack : z_KV yX1_stepBack cX1_stepBack 1 (some FieldType.boolean) 0 := ⟨⟨q613, q21⟩, q105, q614, ⟨by decide +kernel, by decide +kernel, by decide +kernel⟩⟩
theorem k_X7_redo : z_KV yX7_redo cX7_redo 1 (some FieldType.int) 0 := ⟨⟨q616, q617⟩, q102, q618, ⟨by decide +kernel, by decide +kernel, by decide +kernel⟩⟩
theorem k_X1_stepForward : z_KV yX1_stepForward cX1_stepForward 1 (some FieldType.boolean) 0 := ⟨⟨q621, q22⟩, q105, q622, ⟨by decide +kernel, by decide +kernel, by decide +kernel⟩⟩
theorem k_X7_harmonic : z_KV yX7_harmonic cX7_harmonic 3 (some FieldType.long) 2 := ⟨⟨q624, q625⟩, q102, q626, ⟨by decide +kernel, by decide +kernel, by decide +kernel⟩⟩
theorem k_X7_strength : z_KV yX7_strength cX7_strength 2 (some FieldType.long) 1 := ⟨⟨q628, q629⟩, q102, q630, ⟨by decide +kernel, by decide +kernel, by decide +kernel⟩⟩
theorem k_X7_strengthOf : z_KS yX7_strengthOf cX7_strengthOf 2 (some FieldType.long) 2 := ⟨q632, q102, q633, ⟨by decide +kernel, by decide +kernel, by decide +kernel⟩⟩
theorem k_X7_dominant : z_KV yX7_dominant cX7_dominant 9 (some FieldType.int) 1 := ⟨⟨q635, q636⟩, q102, q637, ⟨by decide +kernel, by decide +kernel, by decide +kernel⟩⟩
theorem k_X7_centre : z_KV yX7_centre cX7_centre 4 (some FieldType.long) 2 := ⟨⟨q639, q640⟩, q102, q641, ⟨by decide +kernel, by decide +kernel, by decide +kernel⟩⟩
theorem k_X7_isNoMethod : z_KS yX7_isNoMethod cX7_isNoMethod 1 (some FieldType.boolean) 1 := ⟨q643, q102, q644, ⟨by decide +kernel, by decide +kernel, by decide +kernel⟩⟩
theorem k_X7_circleBy : z_KV yX7_circleBy cX7_circleBy 3 (some (FieldType.object "RoundnessInstrument$Circle")) 1 := ⟨⟨q647, q23⟩, q102, q648, ⟨by decide +kernel, by decide +kernel, by decide +kernel⟩⟩
theorem k_X0_fit : z_KV yX0_fit cX0_fit 3 none 2 := ⟨⟨q651, q24⟩, q108, q652, ⟨by decide +kernel, by decide +kernel, by decide +kernel⟩⟩
theorem k_X0_search : z_KV yX0_search cX0_search 12 none 0 := ⟨⟨q658, q25⟩, q108, q659, ⟨by decide +kernel, by decide +kernel, by decide +kernel⟩⟩
theorem k_X0_measure : z_KV yX0_measure cX0_measure 4 none 0 := ⟨⟨q662, q26⟩, q108, q663, ⟨by decide +kernel, by decide +kernel, by decide +kernel⟩⟩
theorem k_J9_min_f86c9 : z_KS yJ9_min_f86c9 cJ9_min_f86c9 4 (some FieldType.long) 2 := ⟨q669, q111, q670, ⟨by decide +kernel, by decide +kernel, by decide +kernel⟩⟩
theorem k_X0_valueOf : z_KV yX0_valueOf cX0_valueOf 5 (some FieldType.long) 2 := ⟨⟨q673, q27⟩, q108, q674, ⟨by decide +kernel, by decide +kernel, by decide +kernel⟩⟩
theorem k_X0_pickNear : z_KV yX0_pickNear cX0_pickNear 6 none 1 := ⟨⟨q680, q28⟩, q108, q681, ⟨by decide +kernel, by decide +kernel, by decide +kernel⟩⟩
theorem k_X0_valueAt : z_KV yX0_valueAt cX0_valueAt 13 (some FieldType.long) 2 := ⟨⟨q689, q29⟩, q108, q690, ⟨by decide +kernel, by decide +kernel, by decide +kernel⟩⟩
theorem k_X7_deviation : z_KV yX7_deviation cX7_deviation 3 (some FieldType.long) 2 := ⟨⟨q696, q697⟩, q102, q698, ⟨by decide +kernel, by decide +kernel, by decide +kernel⟩⟩
theorem k_X7_roundness : z_KV yX7_roundness cX7_roundness 2 (some FieldType.double) 1 := ⟨⟨q700, q701⟩, q102, q702, ⟨by decide +kernel, by decide +kernel, by decide +kernel⟩⟩
theorem k_X0_width : z_KV yX0_width cX0_width 1 (some FieldType.long) 0 := ⟨⟨q706, q30⟩, q108, q707, ⟨by decide +kernel, by decide +kernel, by decide +kernel⟩⟩
theorem k_X7_extreme : z_KV yX7_extreme cX7_extreme 4 (some FieldType.int) 2 := ⟨⟨q710, q711⟩, q102, q712, ⟨by decide +kernel, by decide +kernel, by decide +kernel⟩⟩
theorem k_X0_firstWith : z_KV yX0_firstWith cX0_firstWith 4 (some FieldType.int) 1 := ⟨⟨q715, q31⟩, q108, q716, ⟨by decide +kernel, by decide +kernel, by decide +kernel⟩⟩
theorem k_X7_meanSquare : z_KV yX7_meanSquare cX7_meanSquare 7 (some FieldType.float) 0 := ⟨⟨q718, q719⟩, q102, q720, ⟨by decide +kernel, by decide +kernel, by decide +kernel⟩⟩
theorem k_X7_materialAt : z_KV yX7_materialAt cX7_materialAt 4 (some FieldType.int) 2 := ⟨⟨q723, q724⟩, q102, q725, ⟨by decide +kernel, by decide +kernel, by decide +kernel⟩⟩
theorem k_X0_countDownTo : z_KV yX0_countDownTo cX0_countDownTo 5 (some FieldType.int) 1 := ⟨⟨q728, q32⟩, q108, q729, ⟨by decide +kernel, by decide +kernel, by decide +kernel⟩⟩
theorem k_X7_depthFor : z_KV yX7_depthFor cX7_depthFor 3 (some FieldType.long) 2 := ⟨⟨q731, q732⟩, q102, q733, ⟨by decide +kernel, by decide +kernel, by decide +kernel⟩⟩
theorem k_X0_leastDepth : z_KV yX0_leastDepth cX0_leastDepth 7 (some FieldType.long) 1 := ⟨⟨q736, q33⟩, q108, q737, ⟨by decide +kernel, by decide +kernel, by decide +kernel⟩⟩
theorem k_X7_storeTrace : z_KV yX7_storeTrace cX7_storeTrace 2 (some FieldType.int) 1 := ⟨⟨q741, q742⟩, q102, q743, ⟨by decide +kernel, by decide +kernel, by decide +kernel⟩⟩
theorem k_X6_hasHeight : z_KV yX6_hasHeight cX6_hasHeight 3 (some FieldType.boolean) 1 := ⟨⟨q746, q34⟩, q106, q747, ⟨by decide +kernel, by decide +kernel, by decide +kernel⟩⟩
theorem k_X6_append : z_KV yX6_append cX6_append 3 none 2 := ⟨⟨q751, q35⟩, q106, q752, ⟨by decide +kernel, by decide +kernel, by decide +kernel⟩⟩
theorem k_X7_removeTraces : z_KV yX7_removeTraces cX7_removeTraces 2 (some FieldType.int) 1 := ⟨⟨q756, q757⟩, q102, q758, ⟨by decide +kernel, by decide +kernel, by decide +kernel⟩⟩
theorem k_X7_recall : z_KV yX7_recall cX7_recall 2 (some FieldType.int) 1 := ⟨⟨q760, q761⟩, q102, q762, ⟨by decide +kernel, by decide +kernel, by decide +kernel⟩⟩
theorem k_X6_lacks : z_KV yX6_lacks cX6_lacks 2 (some FieldType.boolean) 1 := ⟨⟨q765, q36⟩, q106, q766, ⟨by decide +kernel, by decide +kernel, by decide +kernel⟩⟩
theorem k_X7_traceValue : z_KV yX7_traceValue cX7_traceValue 3 (some FieldType.long) 2 := ⟨⟨q770, q771⟩, q102, q772, ⟨by decide +kernel, by decide +kernel, by decide +kernel⟩⟩
theorem k_X7_axis : z_KV yX7_axis cX7_axis 3 (some FieldType.long) 2 := ⟨⟨q774, q775⟩, q102, q776, ⟨by decide +kernel, by decide +kernel, by decide +kernel⟩⟩
theorem k_X6_axisAt : z_KV yX6_axisAt cX6_axisAt 15 (some FieldType.long) 2 := ⟨⟨q779, q37⟩, q106, q780, ⟨by decide +kernel, by decide +kernel, by decide +kernel⟩⟩
theorem k_X7_cylindricity : z_KV yX7_cylindricity cX7_cylindricity 1 (some FieldType.double) 0 := ⟨⟨q783, q784⟩, q102, q785, ⟨by decide +kernel, by decide +kernel, by decide +kernel⟩⟩
theorem k_X6_cylinderWidth : z_KV yX6_cylinderWidth cX6_cylinderWidth 13 (some FieldType.long) 0 := ⟨⟨q788, q38⟩, q106, q789, ⟨by decide +kernel, by decide +kernel, by decide +kernel⟩⟩
theorem k_X7_farthestTrace : z_KV yX7_farthestTrace cX7_farthestTrace 1 (some FieldType.int) 0 := ⟨⟨q797, q798⟩, q102, q799, ⟨by decide +kernel, by decide +kernel, by decide +kernel⟩⟩
theorem k_X6_farthest : z_KV yX6_farthest cX6_farthest 7 (some FieldType.int) 0 := ⟨⟨q802, q39⟩, q106, q803, ⟨by decide +kernel, by decide +kernel, by decide +kernel⟩⟩
theorem k_X6_distanceFromAxis : z_KV yX6_distanceFromAxis cX6_distanceFromAxis 3 (some FieldType.long) 1 := ⟨⟨q806, q40⟩, q106, q807, ⟨by decide +kernel, by decide +kernel, by decide +kernel⟩⟩
theorem k_X7_taper : z_KV yX7_taper cX7_taper 1 (some FieldType.long) 0 := ⟨⟨q810, q811⟩, q102, q812, ⟨by decide +kernel, by decide +kernel, by decide +kernel⟩⟩
theorem k_X6_spreadOfMeans : z_KV yX6_spreadOfMeans cX6_spreadOfMeans 6 (some FieldType.long) 0 := ⟨⟨q815, q41⟩, q106, q816, ⟨by decide +kernel, by decide +kernel, by decide +kernel⟩⟩
theorem k_X7_difference : z_KV yX7_difference cX7_difference 4 (some FieldType.long) 3 := ⟨⟨q818, q819⟩, q102, q820, ⟨by decide +kernel, by decide +kernel, by decide +kernel⟩⟩
theorem k_X6_mismatch : z_KV yX6_mismatch cX6_mismatch 7 (some FieldType.long) 3 := ⟨⟨q823, q42⟩, q106, q824, ⟨by decide +kernel, by decide +kernel, by decide +kernel⟩⟩
theorem k_X7_bestRotation : z_KV yX7_bestRotation cX7_bestRotation 3 (some FieldType.int) 2 := ⟨⟨q827, q828⟩, q102, q829, ⟨by decide +kernel, by decide +kernel, by decide +kernel⟩⟩
theorem k_X6_bestMatch : z_KV yX6_bestMatch cX6_bestMatch 9 (some FieldType.int) 2 := ⟨⟨q832, q43⟩, q106, q833, ⟨by decide +kernel, by decide +kernel, by decide +kernel⟩⟩
theorem k_X7_addRule : z_KV yX7_addRule cX7_addRule 5 (some FieldType.int) 4 := ⟨⟨q836, q837⟩, q102, q838, ⟨by decide +kernel, by decide +kernel, by decide +kernel⟩⟩
theorem k_X3_append : z_KV yX3_append cX3_append 5 none 4 := ⟨⟨q841, q44⟩, q107, q842, ⟨by decide +kernel, by decide +kernel, by decide +kernel⟩⟩
theorem k_X7_clearRules : z_KV yX7_clearRules cX7_clearRules 2 (some FieldType.int) 0 := ⟨⟨q844, q845⟩, q102, q846, ⟨by decide +kernel, by decide +kernel, by decide +kernel⟩⟩
theorem k_X7_ruleValue : z_KV yX7_ruleValue cX7_ruleValue 2 (some FieldType.long) 1 := ⟨⟨q848, q849⟩, q102, q850, ⟨by decide +kernel, by decide +kernel, by decide +kernel⟩⟩
theorem k_X7_valueOfRule : z_KV yX7_valueOfRule cX7_valueOfRule 3 (some FieldType.long) 1 := ⟨⟨q853, q45⟩, q102, q854, ⟨by decide +kernel, by decide +kernel, by decide +kernel⟩⟩
theorem k_X7_violated : z_KV yX7_violated cX7_violated 3 (some FieldType.int) 0 := ⟨⟨q856, q857⟩, q102, q858, ⟨by decide +kernel, by decide +kernel, by decide +kernel⟩⟩
theorem k_X7_type : z_KV yX7_type cX7_type 2 (some FieldType.int) 1 := ⟨⟨q860, q861⟩, q102, q862, ⟨by decide +kernel, by decide +kernel, by decide +kernel⟩⟩
theorem k_X4_append : z_KV yX4_append cX4_append 2 none 1 := ⟨⟨q865, q46⟩, q109, q866, ⟨by decide +kernel, by decide +kernel, by decide +kernel⟩⟩
theorem k_X7_clearText : z_KV yX7_clearText cX7_clearText 2 (some FieldType.int) 0 := ⟨⟨q868, q869⟩, q102, q870, ⟨by decide +kernel, by decide +kernel, by decide +kernel⟩⟩
theorem k_X7_readText : z_KV yX7_readText cX7_readText 2 (some FieldType.int) 0 := ⟨⟨q872, q873⟩, q102, q874, ⟨by decide +kernel, by decide +kernel, by decide +kernel⟩⟩
theorem k_X4_parse : z_KV yX4_parse cX4_parse 2 (some FieldType.boolean) 0 := ⟨⟨q877, q47⟩, q109, q878, ⟨by decide +kernel, by decide +kernel, by decide +kernel⟩⟩
theorem k_X4_parseItem : z_KV yX4_parseItem cX4_parseItem 2 (some FieldType.boolean) 0 := ⟨⟨q881, q48⟩, q109, q882, ⟨by decide +kernel, by decide +kernel, by decide +kernel⟩⟩
theorem k_X4_current : z_KV yX4_current cX4_current 1 (some FieldType.int) 0 := ⟨⟨q885, q49⟩, q109, q886, ⟨by decide +kernel, by decide +kernel, by decide +kernel⟩⟩
theorem k_X4_parseLobes : z_KV yX4_parseLobes cX4_parseLobes 5 (some FieldType.boolean) 1 := ⟨⟨q889, q50⟩, q109, q890, ⟨by decide +kernel, by decide +kernel, by decide +kernel⟩⟩
theorem k_X4_takeNumber : z_KV yX4_takeNumber cX4_takeNumber 7 (some FieldType.boolean) 2 := ⟨⟨q893, q51⟩, q109, q894, ⟨by decide +kernel, by decide +kernel, by decide +kernel⟩⟩
theorem k_X4_isAtDigit : z_KV yX4_isAtDigit cX4_isAtDigit 1 (some FieldType.boolean) 0 := ⟨⟨q897, q52⟩, q109, q898, ⟨by decide +kernel, by decide +kernel, by decide +kernel⟩⟩
theorem k_X4_fail : z_KV yX4_fail cX4_fail 2 (some FieldType.boolean) 1 := ⟨⟨q902, q53⟩, q109, q903, ⟨by decide +kernel, by decide +kernel, by decide +kernel⟩⟩
theorem k_X4_take : z_KV yX4_take cX4_take 2 (some FieldType.boolean) 1 := ⟨⟨q906, q54⟩, q109, q907, ⟨by decide +kernel, by decide +kernel, by decide +kernel⟩⟩
theorem k_X4_note : z_KV yX4_note cX4_note 5 none 4 := ⟨⟨q910, q55⟩, q109, q911, ⟨by decide +kernel, by decide +kernel, by decide +kernel⟩⟩
theorem k_X4_parseEccentricity : z_KV yX4_parseEccentricity cX4_parseEccentricity 2 (some FieldType.boolean) 0 := ⟨⟨q914, q56⟩, q109, q915, ⟨by decide +kernel, by decide +kernel, by decide +kernel⟩⟩
theorem k_X4_parseSteps : z_KV yX4_parseSteps cX4_parseSteps 2 (some FieldType.boolean) 0 := ⟨⟨q918, q57⟩, q109, q919, ⟨by decide +kernel, by decide +kernel, by decide +kernel⟩⟩
theorem k_X5_reset : z_KV yX5_reset cX5_reset 2 none 0 := ⟨⟨q923, q58⟩, q104, q924, ⟨by decide +kernel, by decide +kernel, by decide +kernel⟩⟩
theorem k_X5_shiftTo : z_KV yX5_shiftTo cX5_shiftTo 4 (some FieldType.boolean) 2 := ⟨⟨q927, q59⟩, q104, q928, ⟨by decide +kernel, by decide +kernel, by decide +kernel⟩⟩
theorem k_X7_obey : z_KV yX7_obey cX7_obey 4 none 1 := ⟨⟨q931, q60⟩, q102, q932, ⟨by decide +kernel, by decide +kernel, by decide +kernel⟩⟩
theorem k_X5_superpose : z_KV yX5_superpose cX5_superpose 11 (some FieldType.boolean) 4 := ⟨⟨q936, q61⟩, q104, q937, ⟨by decide +kernel, by decide +kernel, by decide +kernel⟩⟩
theorem k_X7_setTrue : z_KV yX7_setTrue cX7_setTrue 6 (some FieldType.int) 3 := ⟨⟨q943, q944⟩, q102, q945, ⟨by decide +kernel, by decide +kernel, by decide +kernel⟩⟩
theorem k_X7_addLobes : z_KV yX7_addLobes cX7_addLobes 5 (some FieldType.int) 4 := ⟨⟨q947, q948⟩, q102, q949, ⟨by decide +kernel, by decide +kernel, by decide +kernel⟩⟩
theorem k_X7_setEccentricity : z_KV yX7_setEccentricity cX7_setEccentricity 3 (some FieldType.int) 2 := ⟨⟨q951, q952⟩, q102, q953, ⟨by decide +kernel, by decide +kernel, by decide +kernel⟩⟩
theorem k_X8_setSteps : z_KV yX8_setSteps cX8_setSteps 3 (some FieldType.int) 1 := ⟨⟨q1058, q1059⟩, q110, q1060, ⟨by decide +kernel, by decide +kernel, by decide +kernel⟩⟩
theorem k_X8_isSteps : z_KS yX8_isSteps cX8_isSteps 1 (some FieldType.boolean) 1 := ⟨q1062, q110, q1063, ⟨by decide +kernel, by decide +kernel, by decide +kernel⟩⟩
theorem k_X8_read : z_KV yX8_read cX8_read 2 (some FieldType.int) 1 := ⟨⟨q1066, q1067⟩, q110, q1068, ⟨by decide +kernel, by decide +kernel, by decide +kernel⟩⟩
theorem k_X8_in : z_KS yX8_in cX8_in 6 (some FieldType.boolean) 3 := ⟨q1072, q110, q1073, ⟨by decide +kernel, by decide +kernel, by decide +kernel⟩⟩
theorem k_X8_isComplete : z_KV yX8_isComplete cX8_isComplete 1 (some FieldType.boolean) 0 := ⟨⟨q1076, q62⟩, q110, q1077, ⟨by decide +kernel, by decide +kernel, by decide +kernel⟩⟩
theorem k_X8_removeReadings : z_KV yX8_removeReadings cX8_removeReadings 2 (some FieldType.int) 1 := ⟨⟨q1080, q1081⟩, q110, q1082, ⟨by decide +kernel, by decide +kernel, by decide +kernel⟩⟩
theorem k_X8_progress : z_KV yX8_progress cX8_progress 2 (some FieldType.int) 1 := ⟨⟨q1084, q1085⟩, q110, q1086, ⟨by decide +kernel, by decide +kernel, by decide +kernel⟩⟩
theorem k_X8_reading : z_KV yX8_reading cX8_reading 4 (some FieldType.int) 2 := ⟨⟨q1089, q1090⟩, q110, q1091, ⟨by decide +kernel, by decide +kernel, by decide +kernel⟩⟩
theorem k_X8_noStep : z_KV yX8_noStep cX8_noStep 2 (some FieldType.boolean) 1 := ⟨⟨q1094, q63⟩, q110, q1095, ⟨by decide +kernel, by decide +kernel, by decide +kernel⟩⟩
theorem k_X8_noPlace : z_KS yX8_noPlace cX8_noPlace 1 (some FieldType.boolean) 1 := ⟨q1097, q110, q1098, ⟨by decide +kernel, by decide +kernel, by decide +kernel⟩⟩
theorem k_X8_despike : z_KV yX8_despike cX8_despike 7 (some FieldType.int) 2 := ⟨⟨q1101, q1102⟩, q110, q1103, ⟨by decide +kernel, by decide +kernel, by decide +kernel⟩⟩
theorem k_X8_isFinished : z_KV yX8_isFinished cX8_isFinished 2 (some FieldType.boolean) 1 := ⟨⟨q1106, q64⟩, q110, q1107, ⟨by decide +kernel, by decide +kernel, by decide +kernel⟩⟩
theorem k_X8_around : z_KS yX8_around cX8_around 2 (some FieldType.int) 1 := ⟨q1110, q110, q1111, ⟨by decide +kernel, by decide +kernel, by decide +kernel⟩⟩
theorem k_X8_size : z_KS yX8_size cX8_size 2 (some FieldType.long) 1 := ⟨q1114, q110, q1115, ⟨by decide +kernel, by decide +kernel, by decide +kernel⟩⟩
theorem k_X8_down : z_KS yX8_down cX8_down 6 (some FieldType.long) 2 := ⟨q1117, q110, q1118, ⟨by decide +kernel, by decide +kernel, by decide +kernel⟩⟩
theorem k_X8_part : z_KV yX8_part cX8_part 2 (some FieldType.long) 1 := ⟨⟨q1120, q1121⟩, q110, q1122, ⟨by decide +kernel, by decide +kernel, by decide +kernel⟩⟩
theorem k_X8_lost : z_KS yX8_lost cX8_lost 0 (some FieldType.long) 0 := ⟨q1124, q110, q1125, ⟨by decide +kernel, by decide +kernel, by decide +kernel⟩⟩
theorem k_X8_partAt : z_KV yX8_partAt cX8_partAt 6 (some FieldType.long) 1 := ⟨⟨q1129, q65⟩, q110, q1130, ⟨by decide +kernel, by decide +kernel, by decide +kernel⟩⟩
theorem k_X8_turned : z_KV yX8_turned cX8_turned 2 (some FieldType.int) 1 := ⟨⟨q1133, q66⟩, q110, q1134, ⟨by decide +kernel, by decide +kernel, by decide +kernel⟩⟩
theorem k_X8_sumAt : z_KV yX8_sumAt cX8_sumAt 5 (some FieldType.long) 1 := ⟨⟨q1137, q67⟩, q110, q1138, ⟨by decide +kernel, by decide +kernel, by decide +kernel⟩⟩
theorem k_X8_spindle : z_KV yX8_spindle cX8_spindle 2 (some FieldType.long) 1 := ⟨⟨q1141, q1142⟩, q110, q1143, ⟨by decide +kernel, by decide +kernel, by decide +kernel⟩⟩
theorem k_X8_spindleAt : z_KV yX8_spindleAt cX8_spindleAt 2 (some FieldType.long) 1 := ⟨⟨q1146, q68⟩, q110, q1147, ⟨by decide +kernel, by decide +kernel, by decide +kernel⟩⟩
theorem k_X8_isBlind : z_KV yX8_isBlind cX8_isBlind 2 (some FieldType.int) 1 := ⟨⟨q1149, q1150⟩, q110, q1151, ⟨by decide +kernel, by decide +kernel, by decide +kernel⟩⟩
theorem k_X8_residual : z_KV yX8_residual cX8_residual 7 (some FieldType.long) 0 := ⟨⟨q1154, q1155⟩, q110, q1156, ⟨by decide +kernel, by decide +kernel, by decide +kernel⟩⟩
theorem k_X8_undo : z_KV yX8_undo cX8_undo 2 (some FieldType.int) 0 := ⟨⟨q1158, q1159⟩, q110, q1160, ⟨by decide +kernel, by decide +kernel, by decide +kernel⟩⟩
theorem k_X8_redo : z_KV yX8_redo cX8_redo 2 (some FieldType.int) 0 := ⟨⟨q1162, q1163⟩, q110, q1164, ⟨by decide +kernel, by decide +kernel, by decide +kernel⟩⟩
theorem k_X8_load : z_KV yX8_load cX8_load 4 (some FieldType.int) 2 := ⟨⟨q1166, q1167⟩, q110, q1168, ⟨by decide +kernel, by decide +kernel, by decide +kernel⟩⟩
theorem k_X8_fetches : z_KV yX8_fetches cX8_fetches 4 (some FieldType.int) 2 := ⟨⟨q1171, q69⟩, q110, q1172, ⟨by decide +kernel, by decide +kernel, by decide +kernel⟩⟩
theorem k_X8_takes : z_KV yX8_takes cX8_takes 3 (some FieldType.int) 0 := ⟨⟨q1176, q70⟩, q110, q1177, ⟨by decide +kernel, by decide +kernel, by decide +kernel⟩⟩
theorem k_X8_profile : z_KV yX8_profile cX8_profile 2 (some FieldType.long) 1 := ⟨⟨q1179, q1180⟩, q110, q1181, ⟨by decide +kernel, by decide +kernel, by decide +kernel⟩⟩
theorem k_X8_rotate : z_KV yX8_rotate cX8_rotate 3 (some FieldType.int) 1 := ⟨⟨q1183, q1184⟩, q110, q1185, ⟨by decide +kernel, by decide +kernel, by decide +kernel⟩⟩
theorem k_X8_removeEccentricity : z_KV yX8_removeEccentricity cX8_removeEccentricity 8 (some FieldType.int) 0 := ⟨⟨q1188, q1189⟩, q110, q1190, ⟨by decide +kernel, by decide +kernel, by decide +kernel⟩⟩
theorem k_X8_harmonicOf : z_KV yX8_harmonicOf cX8_harmonicOf 3 (some FieldType.long) 2 := ⟨⟨q1193, q71⟩, q110, q1194, ⟨by decide +kernel, by decide +kernel, by decide +kernel⟩⟩
theorem k_X8_harmonicIn : z_KV yX8_harmonicIn cX8_harmonicIn 8 (some FieldType.long) 4 := ⟨⟨q1197, q72⟩, q110, q1198, ⟨by decide +kernel, by decide +kernel, by decide +kernel⟩⟩
theorem k_X8_sine : z_KV yX8_sine cX8_sine 2 (some FieldType.long) 1 := ⟨⟨q1201, q73⟩, q110, q1202, ⟨by decide +kernel, by decide +kernel, by decide +kernel⟩⟩
theorem k_X8_cosine : z_KV yX8_cosine cX8_cosine 3 (some FieldType.long) 1 := ⟨⟨q1205, q74⟩, q110, q1206, ⟨by decide +kernel, by decide +kernel, by decide +kernel⟩⟩
theorem k_X8_keepLobes : z_KV yX8_keepLobes cX8_keepLobes 3 (some FieldType.int) 2 := ⟨⟨q1210, q1211⟩, q110, q1212, ⟨by decide +kernel, by decide +kernel, by decide +kernel⟩⟩
theorem k_X8_areLobes : z_KS yX8_areLobes cX8_areLobes 2 (some FieldType.boolean) 2 := ⟨q1214, q110, q1215, ⟨by decide +kernel, by decide +kernel, by decide +kernel⟩⟩
theorem k_X8_keeps : z_KV yX8_keeps cX8_keeps 9 none 2 := ⟨⟨q1218, q75⟩, q110, q1219, ⟨by decide +kernel, by decide +kernel, by decide +kernel⟩⟩
theorem k_X8_subtract : z_KV yX8_subtract cX8_subtract 5 (some FieldType.int) 2 := ⟨⟨q1221, q1222⟩, q110, q1223, ⟨by decide +kernel, by decide +kernel, by decide +kernel⟩⟩
theorem k_X8_isTooFar : z_KV yX8_isTooFar cX8_isTooFar 2 (some FieldType.boolean) 0 := ⟨⟨q1226, q76⟩, q110, q1227, ⟨by decide +kernel, by decide +kernel, by decide +kernel⟩⟩
theorem k_X8_vBlock : z_KV yX8_vBlock cX8_vBlock 3 (some FieldType.int) 1 := ⟨⟨q1230, q1231⟩, q110, q1232, ⟨by decide +kernel, by decide +kernel, by decide +kernel⟩⟩
theorem k_X8_isBlindInVBlock : z_KV yX8_isBlindInVBlock cX8_isBlindInVBlock 5 (some FieldType.int) 2 := ⟨⟨q1236, q1237⟩, q110, q1238, ⟨by decide +kernel, by decide +kernel, by decide +kernel⟩⟩
theorem k_X8_harmonic : z_KV yX8_harmonic cX8_harmonic 3 (some FieldType.long) 2 := ⟨⟨q1240, q1241⟩, q110, q1242, ⟨by decide +kernel, by decide +kernel, by decide +kernel⟩⟩
theorem k_X8_noLobes : z_KS yX8_noLobes cX8_noLobes 1 (some FieldType.boolean) 1 := ⟨q1244, q110, q1245, ⟨by decide +kernel, by decide +kernel, by decide +kernel⟩⟩
theorem k_X8_strength : z_KV yX8_strength cX8_strength 2 (some FieldType.long) 1 := ⟨⟨q1247, q1248⟩, q110, q1249, ⟨by decide +kernel, by decide +kernel, by decide +kernel⟩⟩
theorem k_X8_strengthOf : z_KV yX8_strengthOf cX8_strengthOf 2 (some FieldType.long) 1 := ⟨⟨q1252, q77⟩, q110, q1253, ⟨by decide +kernel, by decide +kernel, by decide +kernel⟩⟩
theorem k_X8_dominant : z_KV yX8_dominant cX8_dominant 4 (some FieldType.int) 1 := ⟨⟨q1255, q1256⟩, q110, q1257, ⟨by decide +kernel, by decide +kernel, by decide +kernel⟩⟩
theorem k_X8_centre : z_KV yX8_centre cX8_centre 3 (some FieldType.long) 2 := ⟨⟨q1259, q1260⟩, q110, q1261, ⟨by decide +kernel, by decide +kernel, by decide +kernel⟩⟩
theorem k_X8_noMethod : z_KS yX8_noMethod cX8_noMethod 1 (some FieldType.boolean) 1 := ⟨q1263, q110, q1264, ⟨by decide +kernel, by decide +kernel, by decide +kernel⟩⟩
theorem k_X8_findCentre : z_KV yX8_findCentre cX8_findCentre 13 none 2 := ⟨⟨q1268, q78⟩, q110, q1269, ⟨by decide +kernel, by decide +kernel, by decide +kernel⟩⟩
theorem k_X8_valueBy : z_KV yX8_valueBy cX8_valueBy 7 (some FieldType.long) 4 := ⟨⟨q1272, q79⟩, q110, q1273, ⟨by decide +kernel, by decide +kernel, by decide +kernel⟩⟩
theorem k_X8_findEnds : z_KV yX8_findEnds cX8_findEnds 10 none 4 := ⟨⟨q1276, q80⟩, q110, q1277, ⟨by decide +kernel, by decide +kernel, by decide +kernel⟩⟩
theorem k_X8_offAt : z_KV yX8_offAt cX8_offAt 8 (some FieldType.long) 5 := ⟨⟨q1280, q81⟩, q110, q1281, ⟨by decide +kernel, by decide +kernel, by decide +kernel⟩⟩
theorem k_X8_off : z_KS yX8_off cX8_off 10 (some FieldType.long) 5 := ⟨q1283, q110, q1284, ⟨by decide +kernel, by decide +kernel, by decide +kernel⟩⟩
theorem k_X8_deviation : z_KV yX8_deviation cX8_deviation 3 (some FieldType.long) 2 := ⟨⟨q1287, q1288⟩, q110, q1289, ⟨by decide +kernel, by decide +kernel, by decide +kernel⟩⟩
theorem k_X8_layOff : z_KV yX8_layOff cX8_layOff 3 none 1 := ⟨⟨q1292, q82⟩, q110, q1293, ⟨by decide +kernel, by decide +kernel, by decide +kernel⟩⟩
theorem k_X8_roundness : z_KV yX8_roundness cX8_roundness 2 (some FieldType.double) 1 := ⟨⟨q1295, q1296⟩, q110, q1297, ⟨by decide +kernel, by decide +kernel, by decide +kernel⟩⟩
theorem k_X8_roundnessOf : z_KV yX8_roundnessOf cX8_roundnessOf 3 (some FieldType.long) 2 := ⟨⟨q1301, q83⟩, q110, q1302, ⟨by decide +kernel, by decide +kernel, by decide +kernel⟩⟩
theorem k_X8_extreme : z_KV yX8_extreme cX8_extreme 3 (some FieldType.int) 2 := ⟨⟨q1305, q1306⟩, q110, q1307, ⟨by decide +kernel, by decide +kernel, by decide +kernel⟩⟩
theorem k_X8_extremeAt : z_KV yX8_extremeAt cX8_extremeAt 4 (some FieldType.int) 1 := ⟨⟨q1310, q84⟩, q110, q1311, ⟨by decide +kernel, by decide +kernel, by decide +kernel⟩⟩
theorem k_X8_meanSquare : z_KV yX8_meanSquare cX8_meanSquare 6 (some FieldType.float) 0 := ⟨⟨q1313, q1314⟩, q110, q1315, ⟨by decide +kernel, by decide +kernel, by decide +kernel⟩⟩
theorem k_X8_materialAt : z_KV yX8_materialAt cX8_materialAt 4 (some FieldType.int) 2 := ⟨⟨q1318, q1319⟩, q110, q1320, ⟨by decide +kernel, by decide +kernel, by decide +kernel⟩⟩
theorem k_X8_countTo : z_KV yX8_countTo cX8_countTo 7 (some FieldType.int) 1 := ⟨⟨q1323, q85⟩, q110, q1324, ⟨by decide +kernel, by decide +kernel, by decide +kernel⟩⟩
theorem k_X8_depthFor : z_KV yX8_depthFor cX8_depthFor 10 (some FieldType.long) 2 := ⟨⟨q1326, q1327⟩, q110, q1328, ⟨by decide +kernel, by decide +kernel, by decide +kernel⟩⟩
theorem k_X8_storeTrace : z_KV yX8_storeTrace cX8_storeTrace 3 (some FieldType.int) 1 := ⟨⟨q1332, q1333⟩, q110, q1334, ⟨by decide +kernel, by decide +kernel, by decide +kernel⟩⟩
theorem k_X8_removeTraces : z_KV yX8_removeTraces cX8_removeTraces 2 (some FieldType.int) 1 := ⟨⟨q1338, q1339⟩, q110, q1340, ⟨by decide +kernel, by decide +kernel, by decide +kernel⟩⟩
theorem k_X8_recall : z_KV yX8_recall cX8_recall 3 (some FieldType.int) 1 := ⟨⟨q1342, q1343⟩, q110, q1344, ⟨by decide +kernel, by decide +kernel, by decide +kernel⟩⟩
theorem k_X8_noTrace : z_KV yX8_noTrace cX8_noTrace 2 (some FieldType.boolean) 1 := ⟨⟨q1347, q86⟩, q110, q1348, ⟨by decide +kernel, by decide +kernel, by decide +kernel⟩⟩
theorem k_X8_traceValue : z_KV yX8_traceValue cX8_traceValue 3 (some FieldType.long) 2 := ⟨⟨q1350, q1351⟩, q110, q1352, ⟨by decide +kernel, by decide +kernel, by decide +kernel⟩⟩
theorem k_X8_traceHarmonic : z_KV yX8_traceHarmonic cX8_traceHarmonic 4 (some FieldType.long) 3 := ⟨⟨q1355, q87⟩, q110, q1356, ⟨by decide +kernel, by decide +kernel, by decide +kernel⟩⟩
theorem k_X8_axis : z_KV yX8_axis cX8_axis 3 (some FieldType.long) 2 := ⟨⟨q1358, q1359⟩, q110, q1360, ⟨by decide +kernel, by decide +kernel, by decide +kernel⟩⟩
theorem k_X8_axisAt : z_KV yX8_axisAt cX8_axisAt 14 (some FieldType.long) 2 := ⟨⟨q1363, q88⟩, q110, q1364, ⟨by decide +kernel, by decide +kernel, by decide +kernel⟩⟩
theorem k_X8_cylindricity : z_KV yX8_cylindricity cX8_cylindricity 6 (some FieldType.double) 0 := ⟨⟨q1366, q1367⟩, q110, q1368, ⟨by decide +kernel, by decide +kernel, by decide +kernel⟩⟩
theorem k_X8_farthestTrace : z_KV yX8_farthestTrace cX8_farthestTrace 3 (some FieldType.int) 0 := ⟨⟨q1370, q1371⟩, q110, q1372, ⟨by decide +kernel, by decide +kernel, by decide +kernel⟩⟩
theorem k_X8_farOf : z_KV yX8_farOf cX8_farOf 2 (some FieldType.long) 1 := ⟨⟨q1375, q89⟩, q110, q1376, ⟨by decide +kernel, by decide +kernel, by decide +kernel⟩⟩
theorem k_X8_taper : z_KV yX8_taper cX8_taper 8 (some FieldType.long) 0 := ⟨⟨q1378, q1379⟩, q110, q1380, ⟨by decide +kernel, by decide +kernel, by decide +kernel⟩⟩
theorem k_X8_difference : z_KV yX8_difference cX8_difference 4 (some FieldType.long) 3 := ⟨⟨q1382, q1383⟩, q110, q1384, ⟨by decide +kernel, by decide +kernel, by decide +kernel⟩⟩
theorem k_X8_unlike : z_KV yX8_unlike cX8_unlike 7 (some FieldType.long) 3 := ⟨⟨q1387, q90⟩, q110, q1388, ⟨by decide +kernel, by decide +kernel, by decide +kernel⟩⟩
theorem k_X8_bestRotation : z_KV yX8_bestRotation cX8_bestRotation 5 (some FieldType.int) 2 := ⟨⟨q1390, q1391⟩, q110, q1392, ⟨by decide +kernel, by decide +kernel, by decide +kernel⟩⟩
theorem k_X8_addRule : z_KV yX8_addRule cX8_addRule 5 (some FieldType.int) 4 := ⟨⟨q1394, q1395⟩, q110, q1396, ⟨by decide +kernel, by decide +kernel, by decide +kernel⟩⟩
theorem k_X8_clearRules : z_KV yX8_clearRules cX8_clearRules 2 (some FieldType.int) 0 := ⟨⟨q1398, q1399⟩, q110, q1400, ⟨by decide +kernel, by decide +kernel, by decide +kernel⟩⟩
theorem k_X8_ruleValue : z_KV yX8_ruleValue cX8_ruleValue 2 (some FieldType.long) 1 := ⟨⟨q1402, q1403⟩, q110, q1404, ⟨by decide +kernel, by decide +kernel, by decide +kernel⟩⟩
theorem k_X8_ruleNow : z_KV yX8_ruleNow cX8_ruleNow 2 (some FieldType.long) 1 := ⟨⟨q1407, q91⟩, q110, q1408, ⟨by decide +kernel, by decide +kernel, by decide +kernel⟩⟩
theorem k_X8_violated : z_KV yX8_violated cX8_violated 3 (some FieldType.int) 0 := ⟨⟨q1410, q1411⟩, q110, q1412, ⟨by decide +kernel, by decide +kernel, by decide +kernel⟩⟩
theorem k_X8_type : z_KV yX8_type cX8_type 2 (some FieldType.int) 1 := ⟨⟨q1414, q1415⟩, q110, q1416, ⟨by decide +kernel, by decide +kernel, by decide +kernel⟩⟩
theorem k_X8_clearText : z_KV yX8_clearText cX8_clearText 2 (some FieldType.int) 0 := ⟨⟨q1418, q1419⟩, q110, q1420, ⟨by decide +kernel, by decide +kernel, by decide +kernel⟩⟩
theorem k_X8_readText : z_KV yX8_readText cX8_readText 2 (some FieldType.int) 0 := ⟨⟨q1422, q1423⟩, q110, q1424, ⟨by decide +kernel, by decide +kernel, by decide +kernel⟩⟩
theorem k_X8_readAll : z_KV yX8_readAll cX8_readAll 4 (some FieldType.int) 1 := ⟨⟨q1427, q92⟩, q110, q1428, ⟨by decide +kernel, by decide +kernel, by decide +kernel⟩⟩
theorem k_X8_readItem : z_KV yX8_readItem cX8_readItem 6 none 0 := ⟨⟨q1431, q93⟩, q110, q1432, ⟨by decide +kernel, by decide +kernel, by decide +kernel⟩⟩
theorem k_X8_isAt : z_KV yX8_isAt cX8_isAt 2 (some FieldType.boolean) 1 := ⟨⟨q1435, q94⟩, q110, q1436, ⟨by decide +kernel, by decide +kernel, by decide +kernel⟩⟩
theorem k_X8_fail : z_KV yX8_fail cX8_fail 2 none 1 := ⟨⟨q1439, q95⟩, q110, q1440, ⟨by decide +kernel, by decide +kernel, by decide +kernel⟩⟩
theorem k_X8_number : z_KV yX8_number cX8_number 8 (some FieldType.int) 3 := ⟨⟨q1443, q96⟩, q110, q1444, ⟨by decide +kernel, by decide +kernel, by decide +kernel⟩⟩
theorem k_X8_isDigit : z_KV yX8_isDigit cX8_isDigit 1 (some FieldType.boolean) 0 := ⟨⟨q1447, q97⟩, q110, q1448, ⟨by decide +kernel, by decide +kernel, by decide +kernel⟩⟩
theorem k_X8_readPlace : z_KV yX8_readPlace cX8_readPlace 3 none 0 := ⟨⟨q1452, q98⟩, q110, q1453, ⟨by decide +kernel, by decide +kernel, by decide +kernel⟩⟩
theorem k_X8_expect : z_KV yX8_expect cX8_expect 2 none 1 := ⟨⟨q1456, q99⟩, q110, q1457, ⟨by decide +kernel, by decide +kernel, by decide +kernel⟩⟩
theorem k_X8_setEccentricity : z_KV yX8_setEccentricity cX8_setEccentricity 4 (some FieldType.int) 2 := ⟨⟨q1459, q1460⟩, q110, q1461, ⟨by decide +kernel, by decide +kernel, by decide +kernel⟩⟩
theorem k_X8_readLobes : z_KV yX8_readLobes cX8_readLobes 5 none 1 := ⟨⟨q1466, q100⟩, q110, q1467, ⟨by decide +kernel, by decide +kernel, by decide +kernel⟩⟩
theorem k_X8_addLobes : z_KV yX8_addLobes cX8_addLobes 9 (some FieldType.int) 4 := ⟨⟨q1469, q1470⟩, q110, q1471, ⟨by decide +kernel, by decide +kernel, by decide +kernel⟩⟩
theorem k_X8_kept : z_KS yX8_kept cX8_kept 3 (some FieldType.int) 2 := ⟨q1475, q110, q1476, ⟨by decide +kernel, by decide +kernel, by decide +kernel⟩⟩
theorem k_X8_setTrue : z_KV yX8_setTrue cX8_setTrue 6 (some FieldType.int) 3 := ⟨⟨q1478, q1479⟩, q110, q1480, ⟨by decide +kernel, by decide +kernel, by decide +kernel⟩⟩
theorem k_X8_simulateStep : z_KV yX8_simulateStep cX8_simulateStep 6 (some FieldType.int) 0 := ⟨⟨q1484, q1485⟩, q110, q1486, ⟨by decide +kernel, by decide +kernel, by decide +kernel⟩⟩
end
section
theorem q461 : Cond.methodLink RX2 35 arraycopyName ∈ z_tb := z_tb_in (i := 461) (by decide +kernel) rfl
theorem q553 : Cond.methodLink RX1 34 arraycopyName ∈ z_tb := z_tb_in (i := 553) (by decide +kernel) rfl
theorem q654 : Cond.methodLink RX0 46 arraycopyName ∈ z_tb := z_tb_in (i := 654) (by decide +kernel) rfl
theorem q753 : Cond.methodLink RX6 38 arraycopyName ∈ z_tb := z_tb_in (i := 753) (by decide +kernel) rfl
theorem q768 : Cond.methodLink RX7 248 arraycopyName ∈ z_tb := z_tb_in (i := 768) (by decide +kernel) rfl
theorem q462 : Cond.static arraycopyName ∈ z_tb := z_tb_in (i := 462) (by decide +kernel) rfl
theorem q463 : Cond.native arraycopyName ∈ z_tb := z_tb_in (i := 463) (by decide +kernel) rfl
theorem z_q112 : Cond.initialized "java/lang/System" ∈ z_tb := z_tb_in (i := 112) (by decide +kernel) rfl
section ZR
variable {p : Program} {l : Launch} {e : Env} {R : Room} {s : State} {m : MethodId} {args : Array Value} {below : List Frame} {meth : Method} {c : Code} {G : z_Gl} {ce sl : Nat} {Q : State → Prop} {nL : Nat} {lv : List (Nat × Value)} {st : List Value} {σ : z_St} {cc : ByteArray} {own : String} {ret : Option FieldType}
/-- System.arraycopy between rows of longs (i to j) -/
theorem z_cpyl (pc : Nat) (C : z_C p s m args meth c G cc nL own ret) (i j : Nat) {n0 n1 : Nat} (hi : z_kd i = 2 ∧ z_sz i = n0) (hj : z_kd j = 2 ∧ z_sz j = n1) {idx : Nat} (hl : Cond.methodLink own idx arraycopyName ∈ z_tb) {sp dp n : Int32} (a b w : Nat) (h1 : sp = nI a) (h2 : dp = nI b) (h3 : n = nI w) (h4 : a + w ≤ n0) (h5 : b + w ≤ n1) (hb0 : n0 < 2 ^ 31) (hb1 : n1 < 2 ^ 31) (hfr : 1 ≤ R.frames) (hlo : (st.map fun v => v.category).sum + 30 ≤ R.locals) (hd : decode cc pc = .ok (.invokestatic idx, 3)) (k : z_V p l e R s m args below meth c G ce sl Q nL (pc + 3) lv st (z_uL σ j (va_cpy (σ.2 i) (σ.2 j) a b w))) : z_V p l e R s m args below meth c G ce sl Q nL pc lv (.int n :: .int dp :: .ref (z_ad G j) :: .int sp :: .ref (z_ad G i) :: st) σ := fun H locs ls g1 g2 g3 => by
  subst h1; subst h2; subst h3
  have ht := C.2.2.2.2.1
  have e1 : (nI a).toNatClampNeg = a := nI_clamp (by omega)
  have e2 : (nI b).toNatClampNeg = b := nI_clamp (by omega)
  have e3 : (nI w).toNatClampNeg = w := nI_clamp (by omega)
  refine va_copyl C.1 C.2.1 (by rw [C.2.2.1, g3.1]) C.2.2.2.1 (ht _ hl) (ht _ q463) (ht _ q462) (ht _ z_q112) C.2.2.2.2.2.1.1 g1 (C.2.2.2.2.2.1.2.1.D σ) g2 i j 1 1 ((z_W_at (z_kd_lt hi.1 (by decide))).trans (by rw [z_E2 hi.1 hi.2])) ((z_W_at (z_kd_lt hj.1 (by decide))).trans (by rw [z_E2 hj.1 hj.2])) rfl rfl rfl (nI_pos (by omega)) (nI_pos (by omega)) (nI_pos (by omega)) (by rw [e1, e3]; exact h4) (by rw [e2, e3]; exact h5) (fun _ _ => rfl) hfr (Nat.le_trans (Nat.add_le_add_left (show nativeFrameWords "java/lang/System" "arraycopy" 5 + 11 ≤ 30 by decide) _) hlo) hd (fun H1 locs1 f1 f2 f3 => ?_)
  rw [e1, e2, e3] at f1
  have hw : (z_W G σ).set j (z_ad G j, .inl (z_ca G 1, n1, .inr (.inl (va_cpy (σ.2 i) (σ.2 j) a b w)))) = z_W G (z_uL σ j (va_cpy (σ.2 i) (σ.2 j) a b w)) := by
    refine z_W_set ?_ (fun _ _ => rfl) (fun x hx => if_neg hx)
    rw [z_E2 hj.1 hj.2]
    show Sum.inl (_, n1, Sum.inr (Sum.inl (if j = j then va_cpy (σ.2 i) (σ.2 j) a b w else σ.2 j))) = _
    rw [if_pos rfl]
  rw [hw] at f1
  exact k H1 locs1 ls f1 f3 g3
theorem z_cpyi (pc : Nat) (C : z_C p s m args meth c G cc nL own ret) (i j : Nat) {n0 n1 : Nat} (hi : z_kd i = 1 ∧ z_sz i = n0) (hj : z_kd j = 1 ∧ z_sz j = n1) {idx : Nat} (hl : Cond.methodLink own idx arraycopyName ∈ z_tb) {sp dp n : Int32} (a b w : Nat) (h1 : sp = nI a) (h2 : dp = nI b) (h3 : n = nI w) (h4 : a + w ≤ n0) (h5 : b + w ≤ n1) (hb0 : n0 < 2 ^ 31) (hb1 : n1 < 2 ^ 31) (hfr : 1 ≤ R.frames) (hlo : (st.map fun v => v.category).sum + 30 ≤ R.locals) (hd : decode cc pc = .ok (.invokestatic idx, 3)) (k : z_V p l e R s m args below meth c G ce sl Q nL (pc + 3) lv st (z_uI σ j (va_cpy (σ.1 i) (σ.1 j) a b w))) : z_V p l e R s m args below meth c G ce sl Q nL pc lv (.int n :: .int dp :: .ref (z_ad G j) :: .int sp :: .ref (z_ad G i) :: st) σ := fun H locs ls g1 g2 g3 => by
  subst h1; subst h2; subst h3
  have ht := C.2.2.2.2.1
  have e1 : (nI a).toNatClampNeg = a := nI_clamp (by omega)
  have e2 : (nI b).toNatClampNeg = b := nI_clamp (by omega)
  have e3 : (nI w).toNatClampNeg = w := nI_clamp (by omega)
  refine va_copyi C.1 C.2.1 (by rw [C.2.2.1, g3.1]) C.2.2.2.1 (ht _ hl) (ht _ q463) (ht _ q462) (ht _ z_q112) C.2.2.2.2.2.1.1 g1 (C.2.2.2.2.2.1.2.1.D σ) g2 i j 0 0 ((z_W_at (z_kd_lt hi.1 (by decide))).trans (by rw [z_E1 hi.1 hi.2])) ((z_W_at (z_kd_lt hj.1 (by decide))).trans (by rw [z_E1 hj.1 hj.2])) rfl rfl rfl (nI_pos (by omega)) (nI_pos (by omega)) (nI_pos (by omega)) (by rw [e1, e3]; exact h4) (by rw [e2, e3]; exact h5) (fun _ _ => rfl) hfr (Nat.le_trans (Nat.add_le_add_left (show nativeFrameWords "java/lang/System" "arraycopy" 5 + 11 ≤ 30 by decide) _) hlo) hd (fun H1 locs1 f1 f2 f3 => ?_)
  rw [e1, e2, e3] at f1
  have hw : (z_W G σ).set j (z_ad G j, .inl (z_ca G 0, n1, .inl (va_cpy (σ.1 i) (σ.1 j) a b w))) = z_W G (z_uI σ j (va_cpy (σ.1 i) (σ.1 j) a b w)) := by
    refine z_W_set ?_ (fun x hx => if_neg hx) (fun _ _ => rfl)
    rw [z_E1 hj.1 hj.2]
    show Sum.inl (_, n1, Sum.inl (if j = j then va_cpy (σ.1 i) (σ.1 j) a b w else σ.1 j)) = _
    rw [if_pos rfl]
  rw [hw] at f1
  exact k H1 locs1 ls f1 f3 g3
/-- loops -/
theorem z_lp1 {A : Type} {pc : Nat} (I : A → Prop) (μ : A → Nat) (LV : A → List (Nat × Value)) (S : A → z_St) (body : ∀ a, I a → (∀ b, I b → μ b < μ a → z_V p l e R s m args below meth c G ce sl Q nL pc (LV b) st (S b)) → z_V p l e R s m args below meth c G ce sl Q nL pc (LV a) st (S a)) (a : A) (h : I a) : z_V p l e R s m args below meth c G ce sl Q nL pc (LV a) st (S a) := by
  have key : ∀ n a, μ a < n → I a → z_V p l e R s m args below meth c G ce sl Q nL pc (LV a) st (S a) := by
    intro n
    induction n with
    | zero => intro a h1; exact absurd h1 (Nat.not_lt_zero _)
    | succ n ih => exact fun a h1 h2 => body a h2 (fun b h3 h4 => ih b (by omega) h3)
  exact key (μ a + 1) a (Nat.lt_succ_self _) h
theorem z_lp2 {A B : Type} {pc : Nat} (I : A → B → Prop) (μ : A → B → Nat) (LV : A → B → List (Nat × Value)) (S : A → B → z_St) (body : ∀ a b, I a b → (∀ a1 b1, I a1 b1 → μ a1 b1 < μ a b → z_V p l e R s m args below meth c G ce sl Q nL pc (LV a1 b1) st (S a1 b1)) → z_V p l e R s m args below meth c G ce sl Q nL pc (LV a b) st (S a b)) (a : A) (b : B) (h : I a b) : z_V p l e R s m args below meth c G ce sl Q nL pc (LV a b) st (S a b) :=
  z_lp1 (A := A × B) (fun q => I q.1 q.2) (fun q => μ q.1 q.2) (fun q => LV q.1 q.2) (fun q => S q.1 q.2) (fun q hq ih => body q.1 q.2 hq (fun a1 b1 => ih (a1, b1))) (a, b) h
theorem z_lp3 {A B D : Type} {pc : Nat} (I : A → B → D → Prop) (μ : A → B → D → Nat) (LV : A → B → D → List (Nat × Value)) (S : A → B → D → z_St) (body : ∀ a b d, I a b d → (∀ a1 b1 d1, I a1 b1 d1 → μ a1 b1 d1 < μ a b d → z_V p l e R s m args below meth c G ce sl Q nL pc (LV a1 b1 d1) st (S a1 b1 d1)) → z_V p l e R s m args below meth c G ce sl Q nL pc (LV a b d) st (S a b d)) (a : A) (b : B) (d : D) (h : I a b d) : z_V p l e R s m args below meth c G ce sl Q nL pc (LV a b d) st (S a b d) :=
  z_lp1 (A := A × B × D) (fun q => I q.1 q.2.1 q.2.2) (fun q => μ q.1 q.2.1 q.2.2) (fun q => LV q.1 q.2.1 q.2.2) (fun q => S q.1 q.2.1 q.2.2) (fun q hq ih => body q.1 q.2.1 q.2.2 hq (fun a1 b1 d1 => ih (a1, b1, d1))) (a, b, d) h
theorem z_lp4 {A B D E2 : Type} {pc : Nat} (I : A → B → D → E2 → Prop) (μ : A → B → D → E2 → Nat) (LV : A → B → D → E2 → List (Nat × Value)) (S : A → B → D → E2 → z_St) (body : ∀ a b d e2, I a b d e2 → (∀ a1 b1 d1 e1, I a1 b1 d1 e1 → μ a1 b1 d1 e1 < μ a b d e2 → z_V p l e R s m args below meth c G ce sl Q nL pc (LV a1 b1 d1 e1) st (S a1 b1 d1 e1)) → z_V p l e R s m args below meth c G ce sl Q nL pc (LV a b d e2) st (S a b d e2)) (a : A) (b : B) (d : D) (e2 : E2) (h : I a b d e2) : z_V p l e R s m args below meth c G ce sl Q nL pc (LV a b d e2) st (S a b d e2) :=
  z_lp1 (A := A × B × D × E2) (fun q => I q.1 q.2.1 q.2.2.1 q.2.2.2) (fun q => μ q.1 q.2.1 q.2.2.1 q.2.2.2) (fun q => LV q.1 q.2.1 q.2.2.1 q.2.2.2) (fun q => S q.1 q.2.1 q.2.2.1 q.2.2.2) (fun q hq ih => body q.1 q.2.1 q.2.2.1 q.2.2.2 hq (fun a1 b1 d1 e1 => ih (a1, b1, d1, e1))) (a, b, d, e2) h
end ZR
/-- the first k places of F, behind them f -/
def z_fil {α : Type} (F f : Nat → α) (k : Nat) : Nat → α := fun j => if j < k then F j else f j
theorem z_fil_0 {α : Type} (F f : Nat → α) : z_fil F f 0 = f := by funext j; simp [z_fil]
theorem z_uL_same (σ : z_St) (i : Nat) : z_uL σ i (σ.2 i) = σ := by
  unfold z_uL
  refine Prod.ext rfl ?_
  funext a
  by_cases h : a = i
  · subst h; simp
  · simp [h]
theorem z_uI_same (σ : z_St) (i : Nat) : z_uI σ i (σ.1 i) = σ := by
  unfold z_uI
  refine Prod.ext ?_ rfl
  funext a
  by_cases h : a = i
  · subst h; simp
  · simp [h]
theorem z_fil0L (σ : z_St) (i : Nat) (F : Nat → Int64) : σ = z_uL σ i (z_fil F (σ.2 i) 0) := by rw [z_fil_0, z_uL_same]
theorem z_fil0I (σ : z_St) (i : Nat) (F : Nat → Int32) : σ = z_uI σ i (z_fil F (σ.1 i) 0) := by rw [z_fil_0, z_uI_same]
theorem z_filSL (σ : z_St) (i k : Nat) (F f : Nat → Int64) {x : Int64} (hx : x = F k) : z_ul (z_uL σ i (z_fil F f k)) i k x = z_uL σ i (z_fil F f (k + 1)) := by
  unfold z_ul z_uL
  refine Prod.ext rfl ?_
  funext a
  by_cases h : a = i
  · subst h
    simp only [if_true]
    funext j
    unfold vp_updL z_fil
    by_cases hj : j = k
    · subst hj; simp [hx]
    · by_cases h2 : j < k
      · simp [hj, h2, Nat.lt_succ_of_lt h2]
      · simp [hj, h2, show ¬ j < k + 1 by omega]
  · simp [h]
theorem z_filSI (σ : z_St) (i k : Nat) (F f : Nat → Int32) {x : Int32} (hx : x = F k) : z_ui (z_uI σ i (z_fil F f k)) i k x = z_uI σ i (z_fil F f (k + 1)) := by
  unfold z_ui z_uI
  refine Prod.ext ?_ rfl
  funext a
  by_cases h : a = i
  · subst h
    simp only [if_true]
    funext j
    unfold upd z_fil
    by_cases hj : j = k
    · subst hj; simp [hx]
    · by_cases h2 : j < k
      · simp [hj, h2, Nat.lt_succ_of_lt h2]
      · simp [hj, h2, show ¬ j < k + 1 by omega]
  · simp [h]
theorem z_fil_lt {α : Type} {F f : Nat → α} {k j : Nat} (h : j < k) : z_fil F f k j = F j := if_pos h
theorem z_fil_ge {α : Type} {F f : Nat → α} {k j : Nat} (h : k ≤ j) : z_fil F f k j = f j := if_neg (Nat.not_lt.mpr h)
/-- reading back -/
theorem z_ul2 {σ : z_St} {i j : Nat} {x : Int64} {a b : Nat} : (z_ul σ i j x).2 a b = if a = i then (if b = j then x else σ.2 i b) else σ.2 a b := by
  unfold z_ul vp_updL
  by_cases h : a = i
  · subst h; simp
  · simp [h]
theorem z_ui1 {σ : z_St} {i j : Nat} {x : Int32} {a b : Nat} : (z_ui σ i j x).1 a b = if a = i then (if b = j then x else σ.1 i b) else σ.1 a b := by
  unfold z_ui upd
  by_cases h : a = i
  · subst h; simp
  · simp [h]
theorem z_ul1 {σ : z_St} {i j : Nat} {x : Int64} : (z_ul σ i j x).1 = σ.1 := rfl
theorem z_ui2 {σ : z_St} {i j : Nat} {x : Int32} : (z_ui σ i j x).2 = σ.2 := rfl
theorem z_uL1 {σ : z_St} {i : Nat} {f : Nat → Int64} : (z_uL σ i f).1 = σ.1 := rfl
theorem z_uI2 {σ : z_St} {i : Nat} {f : Nat → Int32} : (z_uI σ i f).2 = σ.2 := rfl
theorem z_uL2 {σ : z_St} {i : Nat} {f : Nat → Int64} {a : Nat} : (z_uL σ i f).2 a = if a = i then f else σ.2 a := rfl
theorem z_uI1 {σ : z_St} {i : Nat} {f : Nat → Int32} {a : Nat} : (z_uI σ i f).1 a = if a = i then f else σ.1 a := rfl
end
section
/-! plain facts on numbers and arrays, to paste: each family by itself; over the kit's rows on nI and upd -/
/-! ===== order of ints, in all its forms, and through longs ===== -/
theorem fa_lt (a b : Int32) : a < b ↔ a.toInt < b.toInt := Int32.lt_iff_toInt_lt
theorem fa_le (a b : Int32) : a ≤ b ↔ a.toInt ≤ b.toInt := Int32.le_iff_toInt_le
theorem fa_eq (a b : Int32) : a = b ↔ a.toInt = b.toInt := Int32.toInt_inj.symm
theorem fa_lt64 (a b : Int64) : a < b ↔ a.toInt < b.toInt := Int64.lt_iff_toInt_lt
theorem fa_le64 (a b : Int64) : a ≤ b ↔ a.toInt ≤ b.toInt := Int64.le_iff_toInt_le
theorem fa_eq64 (a b : Int64) : a = b ↔ a.toInt = b.toInt := Int64.toInt_inj.symm
/-- a comparison of two ints taken as longs -/
theorem fa_wide_lt (a b : Int32) : a.toInt64 < b.toInt64 ↔ a < b := by rw [fa_lt64, fa_lt, Int32.toInt_toInt64, Int32.toInt_toInt64]
theorem fa_wide_le (a b : Int32) : a.toInt64 ≤ b.toInt64 ↔ a ≤ b := by rw [fa_le64, fa_le, Int32.toInt_toInt64, Int32.toInt_toInt64]
theorem fa_wide_eq (a b : Int32) : a.toInt64 = b.toInt64 ↔ a = b := by rw [fa_eq64, fa_eq, Int32.toInt_toInt64, Int32.toInt_toInt64]
/-- one strict comparison gives all the others -/
theorem fa_of_lt {a b : Int32} (h : a < b) : a ≤ b ∧ ¬ b ≤ a ∧ ¬ b < a ∧ a ≠ b ∧ b ≠ a := by
  rw [fa_lt] at h
  refine ⟨?_, ?_, ?_, ?_, ?_⟩
  · rw [fa_le]; omega
  · rw [fa_le]; omega
  · rw [fa_lt]; omega
  · intro e; rw [fa_eq] at e; omega
  · intro e; rw [fa_eq] at e; omega
theorem fa_of_nlt {a b : Int32} (h : ¬ a < b) : b ≤ a := by
  rw [fa_lt] at h
  rw [fa_le]
  omega
theorem fa_of_nle {a b : Int32} (h : ¬ a ≤ b) : b < a := by
  rw [fa_le] at h
  rw [fa_lt]
  omega
theorem fa_le_ne {a b : Int32} (h : a ≤ b) (h2 : a ≠ b) : a < b := by
  rw [fa_le] at h
  rw [fa_lt]
  have h3 : a.toInt ≠ b.toInt := fun e => h2 ((fa_eq a b).mpr e)
  omega
theorem fa_three (a b : Int32) : a < b ∨ a = b ∨ b < a := by
  rw [fa_lt, fa_lt, fa_eq]
  omega
theorem fa_trans {a b c : Int32} (h : a < b) (h2 : b ≤ c) : a < c := by
  rw [fa_lt] at *
  rw [fa_le] at h2
  omega
/-! ===== small literals as numbers ===== -/
theorem fa_lit (n : Nat) : (OfNat.ofNat n : Int32) = nI n := rfl
theorem fa_litL (n : Nat) : (OfNat.ofNat n : Int64) = lN n := rfl
/-! ===== bits of a number: 'or', masks, one bit ===== -/
theorem fa_and (a b : Nat) : nI a &&& nI b = nI (a &&& b) := by
  apply Int32.toBitVec_inj.1
  show BitVec.ofNat 32 a &&& BitVec.ofNat 32 b = BitVec.ofNat 32 (a &&& b)
  apply BitVec.eq_of_getLsbD_eq
  intro i hi
  simp [hi]
theorem fa_or (a b : Nat) : nI a ||| nI b = nI (a ||| b) := by
  apply Int32.toBitVec_inj.1
  show BitVec.ofNat 32 a ||| BitVec.ofNat 32 b = BitVec.ofNat 32 (a ||| b)
  apply BitVec.eq_of_getLsbD_eq
  intro i hi
  simp [hi]
/-- a remainder by a power of two, as a mask -/
theorem fa_mask (n k : Nat) : nI n &&& nI (2 ^ k - 1) = nI (n % 2 ^ k) := by rw [fa_and, Nat.and_two_pow_sub_one_eq_mod]
/-- 'or' of a high part and a low one that don't meet is their sum -/
theorem fa_or_sum {a k : Nat} (b : Nat) (h : a < 2 ^ k) : nI (2 ^ k * b) ||| nI a = nI (2 ^ k * b + a) := by rw [fa_or, Nat.two_pow_add_eq_or_of_lt h]
/-- one bit, by 'and' with a power of two -/
theorem fa_bit {n j : Nat} (hj : j < 31) : nI n &&& nI (2 ^ j) = 0 ↔ n.testBit j = false := by
  have h2 : (2 : Nat) ^ j < 2 ^ 31 := Nat.pow_lt_pow_right (by decide) hj
  have hle : n &&& 2 ^ j ≤ 2 ^ j := Nat.and_le_right
  have e : n &&& 2 ^ j = 0 ↔ n.testBit j = false := by
    constructor
    · intro h
      have h1 : (n &&& 2 ^ j).testBit j = false := by rw [h]; simp
      rw [Nat.testBit_and] at h1
      first | simpa using h1 | simpa [Nat.testBit_two_pow_self] using h1 | simpa [Nat.testBit_two_pow] using h1
    · intro h
      apply Nat.eq_of_testBit_eq
      intro i
      rw [Nat.testBit_and]
      by_cases hi : j = i
      · subst hi; simp [h]
      · first | (simp [Nat.testBit_two_pow, hi]; done) | (simp [Nat.testBit_two_pow_of_ne hi]; done)
  rw [fa_and]
  constructor
  · intro h
    apply e.mp
    rcases Nat.eq_zero_or_pos (n &&& 2 ^ j) with z | z
    · exact z
    · exact absurd h (nI_ne0 z (Nat.lt_of_le_of_lt hle h2))
  · intro h
    rw [e.mpr h]; exact nI_0
/-- a remainder by a power of two of a number that isn't negative, as Java divides -/
theorem fa_rem {a k : Nat} (ha : a < 2 ^ 31) (hk : k < 31) : nI a - nI a / nI (2 ^ k) * nI (2 ^ k) = nI (a % 2 ^ k) := pk_rem ha (Nat.two_pow_pos k) (Nat.pow_lt_pow_right (by decide) hk)
/-! ===== cuts to a byte, a short ===== -/
theorem fa_byte_xor (x y : Int32) : (x ^^^ y).toInt8 = x.toInt8 ^^^ y.toInt8 := by
  apply Int8.toBitVec_inj.1
  apply BitVec.eq_of_getLsbD_eq
  intro i hi
  first | (simp [hi]; done) | (simp [hi, BitVec.getLsbD_setWidth, BitVec.getLsbD_signExtend]; done)
theorem fa_short_xor (x y : Int32) : (x ^^^ y).toInt16 = x.toInt16 ^^^ y.toInt16 := by
  apply Int16.toBitVec_inj.1
  apply BitVec.eq_of_getLsbD_eq
  intro i hi
  first | (simp [hi]; done) | (simp [hi, BitVec.getLsbD_setWidth, BitVec.getLsbD_signExtend]; done)
/-- the cut to a byte sees the low byte alone -/
theorem fa_byte_low (x : Int32) : (x &&& 255).toInt8 = x.toInt8 := by
  apply Int8.toBitVec_inj.1
  apply BitVec.eq_of_getLsbD_eq
  intro i hi
  have h2 : (255 : Int32).toBitVec.getLsbD i = true := by
    have : ∀ j : Fin 8, (255 : Int32).toBitVec.getLsbD j.val = true := by decide +kernel
    exact this ⟨i, hi⟩
  have h4 : (x &&& 255).toBitVec.getLsbD i = x.toBitVec.getLsbD i := by
    show (x.toBitVec &&& (255 : Int32).toBitVec).getLsbD i = _
    rw [BitVec.getLsbD_and, h2, Bool.and_true]
  have h3 : i < 32 := by omega
  first
    | (show (((x &&& 255).toBitVec).signExtend 8).getLsbD i = (x.toBitVec.signExtend 8).getLsbD i; rw [BitVec.getLsbD_signExtend, BitVec.getLsbD_signExtend, if_pos h3, if_pos h3, h4])
    | (show (((x &&& 255).toBitVec).setWidth 8).getLsbD i = (x.toBitVec.setWidth 8).getLsbD i; rw [BitVec.getLsbD_setWidth, BitVec.getLsbD_setWidth, h4])
    | (simp [hi, h3, h4]; done)
theorem fa_short_low (x : Int32) : (x &&& 65535).toInt16 = x.toInt16 := by
  apply Int16.toBitVec_inj.1
  apply BitVec.eq_of_getLsbD_eq
  intro i hi
  have h2 : (65535 : Int32).toBitVec.getLsbD i = true := by
    have : ∀ j : Fin 16, (65535 : Int32).toBitVec.getLsbD j.val = true := by decide +kernel
    exact this ⟨i, hi⟩
  have h4 : (x &&& 65535).toBitVec.getLsbD i = x.toBitVec.getLsbD i := by
    show (x.toBitVec &&& (65535 : Int32).toBitVec).getLsbD i = _
    rw [BitVec.getLsbD_and, h2, Bool.and_true]
  have h3 : i < 32 := by omega
  first
    | (show (((x &&& 65535).toBitVec).signExtend 16).getLsbD i = (x.toBitVec.signExtend 16).getLsbD i; rw [BitVec.getLsbD_signExtend, BitVec.getLsbD_signExtend, if_pos h3, if_pos h3, h4])
    | (show (((x &&& 65535).toBitVec).setWidth 16).getLsbD i = (x.toBitVec.setWidth 16).getLsbD i; rw [BitVec.getLsbD_setWidth, BitVec.getLsbD_setWidth, h4])
    | (simp [hi, h3, h4]; done)
/-- a small number is its own byte, its own short -/
theorem fa_byte_small {n : Nat} (h : n < 128) : (nI n).toInt8.toInt32 = nI n := by
  have : ∀ j : Fin 128, (nI j.val).toInt8.toInt32 = nI j.val := by decide +kernel
  exact this ⟨n, h⟩
/-! ===== absolute difference ===== -/
theorem fa_absdiff {a b : Nat} (ha : a < 2 ^ 31) (hb : b < 2 ^ 31) : (if nI a < nI b then nI b - nI a else nI a - nI b) = nI (if a < b then b - a else a - b) := by
  by_cases h : a < b
  · rw [if_pos (nI_lt h hb), if_pos h]
    exact pk_sub (Nat.le_of_lt h)
  · rw [if_neg (nI_nlt (Nat.le_of_not_lt h) ha), if_neg h]
    exact pk_sub (Nat.le_of_not_lt h)
/-! ===== an array behind i stores, a conditional store, a row copied ===== -/
/-- f where k < i, what stood there else -/
def fa_fill {α : Type} (f g : Nat → α) (i : Nat) : Nat → α := fun k => if k < i then f k else g k
theorem fa_fill_0 {α : Type} (f g : Nat → α) : fa_fill f g 0 = g := funext fun k => if_neg (Nat.not_lt_zero k)
theorem fa_fill_in {α : Type} {f g : Nat → α} {i k : Nat} (h : k < i) : fa_fill f g i k = f k := if_pos h
theorem fa_fill_out {α : Type} {f g : Nat → α} {i k : Nat} (h : i ≤ k) : fa_fill f g i k = g k := if_neg (Nat.not_lt.mpr h)
theorem fa_fill_succ (f g : Nat → Int32) (i : Nat) : upd (fa_fill f g i) i (f i) = fa_fill f g (i + 1) := by
  funext k
  by_cases e : k = i
  · subst e
    rw [pk_us]
    exact (if_pos (Nat.lt_succ_self k)).symm
  · rw [pk_un e]
    by_cases h : k < i
    · rw [fa_fill_in h, fa_fill_in (Nat.lt_succ_of_lt h)]
    · rw [fa_fill_out (Nat.le_of_not_lt h), fa_fill_out (by omega)]
/-- a store that changes nothing -/
theorem fa_upd_same {f : Nat → Int32} {i : Nat} {x : Int32} (h : f i = x) : upd f i x = f := by
  funext k
  by_cases e : k = i
  · subst e
    rw [pk_us, h]
  · rw [pk_un e]
/-- a store under a condition, told as one -/
theorem fa_upd_if (c : Prop) [Decidable c] (f : Nat → Int32) (i : Nat) (x : Int32) : (if c then upd f i x else f) = upd f i (if c then x else f i) := by
  by_cases h : c
  · rw [if_pos h, if_pos h]
  · rw [if_neg h, if_neg h, fa_upd_same rfl]
/-- two stores at one place, at two -/
theorem fa_upd_twice (f : Nat → Int32) (i : Nat) (x y : Int32) : upd (upd f i x) i y = upd f i y := by
  funext k
  by_cases e : k = i
  · subst e
    rw [pk_us, pk_us]
  · rw [pk_un e, pk_un e, pk_un e]
theorem fa_upd_swap (f : Nat → Int32) {i j : Nat} (h : i ≠ j) (x y : Int32) : upd (upd f i x) j y = upd (upd f j y) i x := by
  funext k
  by_cases e : k = i
  · subst e
    rw [pk_un h, pk_us, pk_us]
  · by_cases e2 : k = j
    · subst e2
      rw [pk_us, pk_un e, pk_us]
    · rw [pk_un e2, pk_un e, pk_un e, pk_un e2]
/-! ===== the first index with a property; a count ===== -/
/-- the first k < n with p k, n if there is none -/
def fa_first (p : Nat → Bool) : Nat → Nat
  | 0 => 0
  | n + 1 => if fa_first p n < n then fa_first p n else if p n then n else n + 1
theorem fa_first_le (p : Nat → Bool) : ∀ n, fa_first p n ≤ n
  | 0 => Nat.le_refl 0
  | n + 1 => by
    have ih := fa_first_le p n
    unfold fa_first
    split
    · omega
    · split
      · omega
      · omega
theorem fa_first_no (p : Nat → Bool) : ∀ n k, k < fa_first p n → p k = false
  | 0, k, h => absurd h (Nat.not_lt_zero k)
  | n + 1, k, h => by
    have ih := fa_first_no p n
    have hl := fa_first_le p n
    unfold fa_first at h
    split at h
    · exact ih k h
    · rename_i h1
      split at h
      · exact ih k (by omega)
      · rename_i h2
        by_cases e : k = n
        · subst e
          exact Bool.eq_false_iff.mpr h2
        · exact ih k (by omega)
theorem fa_first_yes (p : Nat → Bool) : ∀ n, fa_first p n < n → p (fa_first p n) = true
  | 0, h => absurd h (Nat.not_lt_zero _)
  | n + 1, h => by
    have ih := fa_first_yes p n
    have hl := fa_first_le p n
    unfold fa_first at h ⊢
    split at h
    · rename_i h1
      rw [if_pos h1]
      exact ih h1
    · rename_i h1
      rw [if_neg h1]
      split at h
      · rename_i h2
        rw [if_pos h2]
        exact h2
      · omega
/-- how many k < n have p k -/
def fa_cnt (p : Nat → Bool) : Nat → Nat
  | 0 => 0
  | n + 1 => fa_cnt p n + if p n then 1 else 0
theorem fa_cnt_le (p : Nat → Bool) : ∀ n, fa_cnt p n ≤ n
  | 0 => Nat.le_refl 0
  | n + 1 => by
    have ih := fa_cnt_le p n
    unfold fa_cnt
    split
    · omega
    · omega
theorem fa_cnt_yes {p : Nat → Bool} {n : Nat} (h : p n = true) : fa_cnt p (n + 1) = fa_cnt p n + 1 := by rw [fa_cnt, if_pos h]
theorem fa_cnt_no {p : Nat → Bool} {n : Nat} (h : p n = false) : fa_cnt p (n + 1) = fa_cnt p n := by rw [fa_cnt, if_neg (by rw [h]; decide)]; rfl
theorem fa_cnt_cong {p q : Nat → Bool} : ∀ {n : Nat}, (∀ k, k < n → p k = q k) → fa_cnt p n = fa_cnt q n
  | 0, _ => rfl
  | n + 1, h => by rw [fa_cnt, fa_cnt, fa_cnt_cong (fun k hk => h k (Nat.lt_succ_of_lt hk)), h n (Nat.lt_succ_self n)]
/-! ===== an answer carried into a post; a branch on a boolean answer ===== -/
theorem fa_post {α : Type} {P : α → Prop} {x y : α} (h : x = y) (hp : P y) : P x := h ▸ hp
theorem fa_post2 {α β : Type} {P : α → β → Prop} {x y : α} {u v : β} (h : x = y) (h2 : u = v) (hp : P y v) : P x u := h ▸ h2 ▸ hp
theorem fa_bool {r : Int32} {b : Bool} (h : r = if b then 1 else 0) : (r = 0 ↔ b = false) ∧ (¬ r = 0 ↔ b = true) := by
  subst h
  cases b
  · exact ⟨⟨fun _ => rfl, fun _ => rfl⟩, ⟨fun h => absurd rfl h, fun h => absurd h (by decide)⟩⟩
  · exact ⟨⟨fun h => absurd h (by decide), fun h => absurd h (by decide)⟩, ⟨fun _ => rfl, fun _ => by decide⟩⟩
/-- a boolean's narrowing changes nothing -/
theorem fa_bool_and {r : Int32} (h : r = 0 ∨ r = 1) : r &&& 1 = r := by
  rcases h with rfl | rfl
  · decide
  · decide
theorem fa_bool_prop {c : Prop} [Decidable c] {r : Int32} (h : r = if c then 1 else 0) : (r = 0 ↔ ¬ c) ∧ (¬ r = 0 ↔ c) := by
  subst h
  by_cases hc : c
  · rw [if_pos hc]
    exact ⟨⟨fun h => absurd h (by decide), fun h => absurd hc h⟩, ⟨fun _ => hc, fun _ => by decide⟩⟩
  · rw [if_neg hc]
    exact ⟨⟨fun _ => hc, fun _ => rfl⟩, ⟨fun h => absurd rfl h, fun h => absurd h hc⟩⟩
/-! plain facts to paste, each family by itself; over the kit's nI, lN and upd -/
/-! ===== drawers: more things than places ===== -/
theorem fb_holes : ∀ (m n : Nat) (f : Nat → Nat), (∀ i, i < n → f i < m) → (∀ i j, i < j → j < n → f i ≠ f j) → n ≤ m := by
  intro m
  induction m with
  | zero =>
    intro n f h1 _
    rcases Nat.eq_zero_or_pos n with h | h
    · omega
    · exact absurd (h1 0 h) (Nat.not_lt_zero _)
  | succ m ih =>
    intro n f h1 h2
    by_cases hx : ∃ i, i < n ∧ f i = m
    · obtain ⟨a, ha, hfa⟩ := hx
      have hg := ih (n - 1) (fun i => if i < a then f i else f (i + 1)) (by
        intro i hi
        by_cases q : i < a
        · simp only [if_pos q]
          have b1 := h1 i (by omega)
          have b2 := h2 i a q ha
          omega
        · simp only [if_neg q]
          have b1 := h1 (i + 1) (by omega)
          have b2 := h2 a (i + 1) (by omega) (by omega)
          omega) (by
        intro i j hij hj
        by_cases q : i < a
        · by_cases r : j < a
          · simp only [if_pos q, if_pos r]
            exact h2 i j hij (by omega)
          · simp only [if_pos q, if_neg r]
            exact h2 i (j + 1) (by omega) (by omega)
        · have r : ¬ j < a := by omega
          simp only [if_neg q, if_neg r]
          exact h2 (i + 1) (j + 1) (by omega) (by omega))
      omega
    · have hg := ih n f (fun i hi => by
        have b1 := h1 i hi
        have b2 : f i ≠ m := fun e => hx ⟨i, hi, e⟩
        omega) h2
      omega
/-- two of them in one place -/
theorem fb_twice {m n : Nat} {f : Nat → Nat} (h : ∀ i, i < n → f i < m) (hm : m < n) : ∃ i j, i < j ∧ j < n ∧ f i = f j := by
  refine Classical.byContradiction fun hx => ?_
  have := fb_holes m n f h (fun i j hij hj e => hx ⟨i, j, hij, hj, e⟩)
  omega
/-- as many as places, none twice: each place is taken -/
theorem fb_onto {n : Nat} {f : Nat → Nat} (h : ∀ i, i < n → f i < n) (h2 : ∀ i j, i < j → j < n → f i ≠ f j) {y : Nat} (hy : y < n) : ∃ i, i < n ∧ f i = y := by
  refine Classical.byContradiction fun hx => ?_
  have hne : ∀ i, i < n → f i ≠ y := fun i hi e => hx ⟨i, hi, e⟩
  have := fb_holes (n - 1) n (fun i => if f i < y then f i else f i - 1) (by
    intro i hi
    have b1 := h i hi
    have b2 := hne i hi
    by_cases q : f i < y
    · simp only [if_pos q]; omega
    · simp only [if_neg q]; omega) (by
    intro i j hij hj
    have b1 := hne i (by omega)
    have b2 := hne j hj
    have b3 := h2 i j hij hj
    by_cases q : f i < y
    · by_cases r : f j < y
      · simp only [if_pos q, if_pos r]; exact b3
      · simp only [if_pos q, if_neg r]; omega
    · by_cases r : f j < y
      · simp only [if_neg q, if_pos r]; omega
      · simp only [if_neg q, if_neg r]; omega)
  omega
/-! ===== how many places have a property ===== -/
def fb_ct (p : Nat → Bool) : Nat → Nat
  | 0 => 0
  | n + 1 => fb_ct p n + (if p n then 1 else 0)
theorem fb_ct_succ (p : Nat → Bool) (n : Nat) : fb_ct p (n + 1) = fb_ct p n + (if p n then 1 else 0) := rfl
theorem fb_ct_le (p : Nat → Bool) : ∀ n, fb_ct p n ≤ n
  | 0 => Nat.le_refl _
  | n + 1 => by
    have h := fb_ct_le p n
    rw [fb_ct_succ]
    split <;> omega
theorem fb_ct_step (p : Nat → Bool) (m : Nat) : ∀ n, fb_ct p m ≤ fb_ct p (m + n)
  | 0 => Nat.le_refl _
  | n + 1 => by
    have h := fb_ct_step p m n
    show fb_ct p m ≤ fb_ct p (m + n + 1)
    rw [fb_ct_succ]
    omega
theorem fb_ct_mono (p : Nat → Bool) {m n : Nat} (h : m ≤ n) : fb_ct p m ≤ fb_ct p n := by
  have := fb_ct_step p m (n - m)
  rwa [Nat.add_sub_cancel' h] at this
theorem fb_ct_cong {p q : Nat → Bool} : ∀ {n : Nat}, (∀ k, k < n → p k = q k) → fb_ct p n = fb_ct q n
  | 0, _ => rfl
  | n + 1, h => by
    rw [fb_ct_succ, fb_ct_succ, fb_ct_cong (fun k hk => h k (by omega)), h n (by omega)]
/-- one place changed -/
theorem fb_ct_out (p : Nat → Bool) (b : Bool) {i n : Nat} (h : n ≤ i) : fb_ct (fun k => if k = i then b else p k) n = fb_ct p n :=
  fb_ct_cong fun k hk => if_neg (by omega)
theorem fb_ct_upd (p : Nat → Bool) (b : Bool) {i : Nat} : ∀ {n : Nat}, i < n → fb_ct (fun k => if k = i then b else p k) n + (if p i then 1 else 0) = fb_ct p n + (if b then 1 else 0)
  | 0, h => absurd h (Nat.not_lt_zero i)
  | n + 1, h => by
    rw [fb_ct_succ, fb_ct_succ]
    rcases Nat.lt_or_ge i n with q | q
    · have := fb_ct_upd p b q
      have e : (if n = i then b else p n) = p n := if_neg (by omega)
      rw [e]
      omega
    · have e : i = n := by omega
      subst e
      rw [fb_ct_out p b (Nat.le_refl _)]
      simp only [if_true]
      omega
theorem fb_ct_sub {p q : Nat → Bool} : ∀ {n : Nat}, (∀ k, k < n → p k = true → q k = true) → fb_ct p n ≤ fb_ct q n
  | 0, _ => Nat.le_refl _
  | n + 1, h => by
    have h1 := fb_ct_sub (n := n) (p := p) (q := q) (fun k hk => h k (by omega))
    have h2 := h n (by omega)
    rw [fb_ct_succ, fb_ct_succ]
    cases hp : p n <;> cases hq : q n <;> simp_all <;> omega
theorem fb_ct_or {p q : Nat → Bool} : ∀ {n : Nat}, (∀ k, k < n → ¬ (p k = true ∧ q k = true)) → fb_ct (fun k => p k || q k) n = fb_ct p n + fb_ct q n
  | 0, _ => rfl
  | n + 1, h => by
    have h1 := fb_ct_or (n := n) (p := p) (q := q) (fun k hk => h k (by omega))
    have h2 := h n (by omega)
    rw [fb_ct_succ, fb_ct_succ, fb_ct_succ, h1]
    cases hp : p n <;> cases hq : q n <;> simp_all <;> omega
theorem fb_ct_not (p : Nat → Bool) : ∀ n, fb_ct p n + fb_ct (fun k => !p k) n = n
  | 0 => rfl
  | n + 1 => by
    have h := fb_ct_not p n
    rw [fb_ct_succ, fb_ct_succ]
    cases p n <;> simp <;> omega
theorem fb_ct_split (p : Nat → Bool) (m : Nat) : ∀ n, fb_ct p (m + n) = fb_ct p m + fb_ct (fun k => p (m + k)) n
  | 0 => rfl
  | n + 1 => by
    have h := fb_ct_split p m n
    show fb_ct p (m + n + 1) = _
    rw [fb_ct_succ, fb_ct_succ, h, Nat.add_assoc]
theorem fb_ct_zero {p : Nat → Bool} : ∀ {n : Nat}, fb_ct p n = 0 ↔ ∀ k, k < n → p k = false
  | 0 => ⟨fun _ k hk => absurd hk (Nat.not_lt_zero k), fun _ => rfl⟩
  | n + 1 => by
    have h := fb_ct_zero (p := p) (n := n)
    rw [fb_ct_succ]
    constructor
    · intro e k hk
      have e1 : fb_ct p n = 0 := by omega
      rcases Nat.lt_or_ge k n with q | q
      · exact h.mp e1 k q
      · have ek : k = n := by omega
        subst ek
        cases hp : p k
        · rfl
        · simp [hp] at e
    · intro a
      rw [h.mpr (fun k hk => a k (by omega)), a n (by omega)]
      rfl
theorem fb_ct_pos {p : Nat → Bool} {n : Nat} : 0 < fb_ct p n ↔ ∃ k, k < n ∧ p k = true := by
  constructor
  · intro h
    refine Classical.byContradiction fun hx => ?_
    have := fb_ct_zero.mpr (fun k hk => by
      cases hp : p k
      · rfl
      · exact absurd ⟨k, hk, hp⟩ hx : ∀ k, k < n → p k = false)
    omega
  · rintro ⟨k, hk, hp⟩
    rcases Nat.eq_zero_or_pos (fb_ct p n) with e | e
    · have := fb_ct_zero.mp e k hk
      rw [this] at hp
      cases hp
    · exact e
theorem fb_ct_all {p : Nat → Bool} {n : Nat} : fb_ct p n = n ↔ ∀ k, k < n → p k = true := by
  have h := fb_ct_not p n
  constructor
  · intro e k hk
    have z : fb_ct (fun k => !p k) n = 0 := by omega
    have := fb_ct_zero.mp z k hk
    cases hp : p k
    · simp [hp] at this
    · rfl
  · intro a
    have z : fb_ct (fun k => !p k) n = 0 := fb_ct_zero.mpr (fun k hk => by simp [a k hk])
    omega
/-- the k-th place with the property -/
theorem fb_ct_kth {p : Nat → Bool} {k : Nat} : ∀ {n : Nat}, k < fb_ct p n → ∃ i, i < n ∧ p i = true ∧ fb_ct p i = k
  | 0, h => absurd h (Nat.not_lt_zero k)
  | n + 1, h => by
    rcases Nat.lt_or_ge k (fb_ct p n) with q | q
    · obtain ⟨i, h1, h2⟩ := fb_ct_kth q
      exact ⟨i, by omega, h2⟩
    · rw [fb_ct_succ] at h
      cases hp : p n
      · simp [hp] at h; omega
      · simp [hp] at h
        exact ⟨n, by omega, hp, by omega⟩
theorem fb_ct_kth_one {p : Nat → Bool} {i j : Nat} (hi : p i = true) (hj : p j = true) (e : fb_ct p i = fb_ct p j) : i = j := by
  have key : ∀ a b : Nat, a < b → p a = true → fb_ct p a < fb_ct p b := by
    intro a b hab ha
    have h := fb_ct_mono p (show a + 1 ≤ b from hab)
    rw [fb_ct_succ, ha] at h
    simp at h
    omega
  rcases Nat.lt_trichotomy i j with q | q | q
  · have := key i j q hi; omega
  · exact q
  · have := key j i q hj; omega
/-! ===== sums over a range: one place changed, parts, bounds ===== -/
def fb_sm (f : Nat → Nat) : Nat → Nat
  | 0 => 0
  | n + 1 => fb_sm f n + f n
theorem fb_sm_succ (f : Nat → Nat) (n : Nat) : fb_sm f (n + 1) = fb_sm f n + f n := rfl
theorem fb_sm_cong {f g : Nat → Nat} : ∀ {n : Nat}, (∀ k, k < n → f k = g k) → fb_sm f n = fb_sm g n
  | 0, _ => rfl
  | n + 1, h => by rw [fb_sm_succ, fb_sm_succ, fb_sm_cong (fun k hk => h k (by omega)), h n (by omega)]
theorem fb_sm_out (f : Nat → Nat) (v : Nat) {i n : Nat} (h : n ≤ i) : fb_sm (fun k => if k = i then v else f k) n = fb_sm f n :=
  fb_sm_cong fun k hk => if_neg (by omega)
theorem fb_sm_upd (f : Nat → Nat) (v : Nat) {i : Nat} : ∀ {n : Nat}, i < n → fb_sm (fun k => if k = i then v else f k) n + f i = fb_sm f n + v
  | 0, h => absurd h (Nat.not_lt_zero i)
  | n + 1, h => by
    rw [fb_sm_succ, fb_sm_succ]
    rcases Nat.lt_or_ge i n with q | q
    · have := fb_sm_upd f v q
      have e : (if n = i then v else f n) = f n := if_neg (by omega)
      rw [e]
      omega
    · have e : i = n := by omega
      subst e
      rw [fb_sm_out f v (Nat.le_refl _)]
      simp only [if_true]
      omega
theorem fb_sm_add (f g : Nat → Nat) : ∀ n, fb_sm (fun k => f k + g k) n = fb_sm f n + fb_sm g n
  | 0 => rfl
  | n + 1 => by
    have h := fb_sm_add f g n
    rw [fb_sm_succ, fb_sm_succ, fb_sm_succ, h]
    omega
theorem fb_sm_le {f g : Nat → Nat} : ∀ {n : Nat}, (∀ k, k < n → f k ≤ g k) → fb_sm f n ≤ fb_sm g n
  | 0, _ => Nat.le_refl _
  | n + 1, h => by
    have h1 := fb_sm_le (n := n) (f := f) (g := g) (fun k hk => h k (by omega))
    have h2 := h n (by omega)
    rw [fb_sm_succ, fb_sm_succ]
    omega
theorem fb_sm_const (c : Nat) : ∀ n, fb_sm (fun _ => c) n = n * c
  | 0 => by rw [Nat.zero_mul]; rfl
  | n + 1 => by rw [fb_sm_succ, fb_sm_const c n, Nat.succ_mul]
theorem fb_sm_bound {f : Nat → Nat} {c n : Nat} (h : ∀ k, k < n → f k ≤ c) : fb_sm f n ≤ n * c := by
  rw [← fb_sm_const c n]
  exact fb_sm_le h
theorem fb_sm_mono (f : Nat → Nat) (m : Nat) : ∀ n, fb_sm f m ≤ fb_sm f (m + n)
  | 0 => Nat.le_refl _
  | n + 1 => by
    have h := fb_sm_mono f m n
    show fb_sm f m ≤ fb_sm f (m + n + 1)
    rw [fb_sm_succ]
    omega
theorem fb_sm_part (f : Nat → Nat) {i n : Nat} (h : i < n) : fb_sm f i + f i ≤ fb_sm f n := by
  have := fb_sm_mono f (i + 1) (n - (i + 1))
  rw [fb_sm_succ, show i + 1 + (n - (i + 1)) = n by omega] at this
  exact this
theorem fb_sm_split (f : Nat → Nat) (m : Nat) : ∀ n, fb_sm f (m + n) = fb_sm f m + fb_sm (fun k => f (m + k)) n
  | 0 => rfl
  | n + 1 => by
    have h := fb_sm_split f m n
    show fb_sm f (m + n + 1) = _
    rw [fb_sm_succ, fb_sm_succ, h, Nat.add_assoc]
theorem fb_sm_zero {f : Nat → Nat} {n : Nat} (h : fb_sm f n = 0) : ∀ k, k < n → f k = 0 := fun k hk => by
  have := fb_sm_part f hk
  omega
/-- the same over whole numbers -/
def fb_si (f : Nat → Int) : Nat → Int
  | 0 => 0
  | n + 1 => fb_si f n + f n
theorem fb_si_succ (f : Nat → Int) (n : Nat) : fb_si f (n + 1) = fb_si f n + f n := rfl
theorem fb_si_cong {f g : Nat → Int} : ∀ {n : Nat}, (∀ k, k < n → f k = g k) → fb_si f n = fb_si g n
  | 0, _ => rfl
  | n + 1, h => by rw [fb_si_succ, fb_si_succ, fb_si_cong (fun k hk => h k (by omega)), h n (by omega)]
theorem fb_si_out (f : Nat → Int) (v : Int) {i n : Nat} (h : n ≤ i) : fb_si (fun k => if k = i then v else f k) n = fb_si f n :=
  fb_si_cong fun k hk => if_neg (by omega)
theorem fb_si_upd (f : Nat → Int) (v : Int) {i : Nat} : ∀ {n : Nat}, i < n → fb_si (fun k => if k = i then v else f k) n = fb_si f n - f i + v
  | 0, h => absurd h (Nat.not_lt_zero i)
  | n + 1, h => by
    rw [fb_si_succ, fb_si_succ]
    rcases Nat.lt_or_ge i n with q | q
    · have := fb_si_upd f v q
      have e : (if n = i then v else f n) = f n := if_neg (by omega)
      rw [e]
      omega
    · have e : i = n := by omega
      subst e
      rw [fb_si_out f v (Nat.le_refl _)]
      simp only [if_true]
      omega
theorem fb_si_add (f g : Nat → Int) : ∀ n, fb_si (fun k => f k + g k) n = fb_si f n + fb_si g n
  | 0 => rfl
  | n + 1 => by
    have h := fb_si_add f g n
    rw [fb_si_succ, fb_si_succ, fb_si_succ, h]
    omega
theorem fb_si_sub (f g : Nat → Int) : ∀ n, fb_si (fun k => f k - g k) n = fb_si f n - fb_si g n
  | 0 => rfl
  | n + 1 => by
    have h := fb_si_sub f g n
    rw [fb_si_succ, fb_si_succ, fb_si_succ, h]
    omega
theorem fb_si_mul (c : Int) (f : Nat → Int) : ∀ n, fb_si (fun k => c * f k) n = c * fb_si f n
  | 0 => (Int.mul_zero c).symm
  | n + 1 => by
    have h := fb_si_mul c f n
    rw [fb_si_succ, fb_si_succ, h, Int.mul_add]
theorem fb_si_split (f : Nat → Int) (m : Nat) : ∀ n, fb_si f (m + n) = fb_si f m + fb_si (fun k => f (m + k)) n
  | 0 => (Int.add_zero _).symm
  | n + 1 => by
    have h := fb_si_split f m n
    show fb_si f (m + n + 1) = _
    rw [fb_si_succ, fb_si_succ, h, Int.add_assoc]
theorem fb_si_nat (f : Nat → Nat) : ∀ n, fb_si (fun k => (f k : Int)) n = (fb_sm f n : Int)
  | 0 => rfl
  | n + 1 => by
    have h := fb_si_nat f n
    rw [fb_si_succ, fb_sm_succ, h]
    omega
theorem fb_si_bound {f : Nat → Int} {c : Int} (hc : 0 ≤ c) : ∀ {n : Nat}, (∀ k, k < n → -c ≤ f k ∧ f k ≤ c) → -(n * c) ≤ fb_si f n ∧ fb_si f n ≤ n * c
  | 0, _ => by simp [fb_si]
  | n + 1, h => by
    have h1 := fb_si_bound (n := n) (f := f) hc (fun k hk => h k (by omega))
    have h2 := h n (by omega)
    have e : ((n + 1 : Nat) : Int) * c = n * c + c := by rw [Int.natCast_add, Int.add_mul]; simp
    rw [fb_si_succ, e]
    omega
/-! ===== bits of a long that isn't negative ===== -/
theorem fb_andL (a b : Nat) : lN a &&& lN b = lN (a &&& b) := by
  apply Int64.toBitVec_inj.1
  show BitVec.ofNat 64 a &&& BitVec.ofNat 64 b = BitVec.ofNat 64 (a &&& b)
  apply BitVec.eq_of_getLsbD_eq
  intro i hi
  simp [hi]
theorem fb_orL (a b : Nat) : lN a ||| lN b = lN (a ||| b) := by
  apply Int64.toBitVec_inj.1
  show BitVec.ofNat 64 a ||| BitVec.ofNat 64 b = BitVec.ofNat 64 (a ||| b)
  apply BitVec.eq_of_getLsbD_eq
  intro i hi
  simp [hi]
theorem fb_xorL (a b : Nat) : lN a ^^^ lN b = lN (a ^^^ b) := by
  apply Int64.toBitVec_inj.1
  show BitVec.ofNat 64 a ^^^ BitVec.ofNat 64 b = BitVec.ofNat 64 (a ^^^ b)
  apply BitVec.eq_of_getLsbD_eq
  intro i hi
  simp [hi]
theorem fb_xorI (a b : Nat) : nI a ^^^ nI b = nI (a ^^^ b) := by
  apply Int32.toBitVec_inj.1
  show BitVec.ofNat 32 a ^^^ BitVec.ofNat 32 b = BitVec.ofNat 32 (a ^^^ b)
  apply BitVec.eq_of_getLsbD_eq
  intro i hi
  simp [hi]
theorem fb_maskL (n k : Nat) : lN n &&& lN (2 ^ k - 1) = lN (n % 2 ^ k) := by rw [fb_andL, Nat.and_two_pow_sub_one_eq_mod]
theorem fb_or_sumL {a k : Nat} (b : Nat) (h : a < 2 ^ k) : lN (2 ^ k * b) ||| lN a = lN (2 ^ k * b + a) := by rw [fb_orL, Nat.two_pow_add_eq_or_of_lt h]
theorem fb_lN_inj {a b : Nat} (ha : a < 2 ^ 63) (hb : b < 2 ^ 63) : lN a = lN b ↔ a = b := by
  constructor
  · intro h
    have h1 : (BitVec.ofNat 64 a).toNat = (BitVec.ofNat 64 b).toNat := congrArg (fun x : Int64 => x.toBitVec.toNat) h
    rw [BitVec.toNat_ofNat, BitVec.toNat_ofNat, Nat.mod_eq_of_lt (by omega), Nat.mod_eq_of_lt (by omega)] at h1
    exact h1
  · rintro rfl; rfl
theorem fb_bit_nat (n j : Nat) : n &&& 2 ^ j = 0 ↔ n.testBit j = false := by
  constructor
  · intro h
    have h1 : (n &&& 2 ^ j).testBit j = false := by rw [h]; simp
    rw [Nat.testBit_and] at h1
    simpa using h1
  · intro h
    apply Nat.eq_of_testBit_eq
    intro i
    rw [Nat.testBit_and]
    by_cases hi : j = i
    · subst hi; simp [h]
    · first | (simp [Nat.testBit_two_pow, hi]; done) | (simp [Nat.testBit_two_pow_of_ne hi]; done)
/-- one bit of a long -/
theorem fb_bitL {n j : Nat} (hj : j < 63) : lN n &&& lN (2 ^ j) = 0 ↔ n.testBit j = false := by
  have h2 : (2 : Nat) ^ j < 2 ^ 63 := Nat.pow_lt_pow_right (by decide) hj
  have hle : n &&& 2 ^ j ≤ 2 ^ j := Nat.and_le_right
  rw [fb_andL, ← fb_bit_nat, show (0 : Int64) = lN 0 from rfl]
  exact fb_lN_inj (by omega) (by decide)
/-- a bit set, a bit taken off -/
theorem fb_bit_set (n j i : Nat) : (n ||| 2 ^ j).testBit i = (n.testBit i || decide (i = j)) := by
  rw [Nat.testBit_or]
  by_cases h : j = i
  · subst h; simp
  · have h2 : ¬ i = j := fun e => h e.symm
    first | (simp [Nat.testBit_two_pow, h, h2]; done) | (simp [Nat.testBit_two_pow_of_ne h, h2]; done)
theorem fb_bit_flip (n j i : Nat) : (n ^^^ 2 ^ j).testBit i = (n.testBit i ^^ decide (i = j)) := by
  rw [Nat.testBit_xor]
  by_cases h : j = i
  · subst h; simp
  · have h2 : ¬ i = j := fun e => h e.symm
    first | (simp [Nat.testBit_two_pow, h, h2]; done) | (simp [Nat.testBit_two_pow_of_ne h, h2]; done)
/-! ===== a stretch of an array written over by a function ===== -/
def fb_put {α : Type} (f g : Nat → α) (a n : Nat) : Nat → α := fun k => if a ≤ k ∧ k < a + n then g (k - a) else f k
theorem fb_put_0 {α : Type} (f g : Nat → α) (a : Nat) : fb_put f g a 0 = f := funext fun k => if_neg (by omega)
theorem fb_put_in {α : Type} {f g : Nat → α} {a n k : Nat} (h1 : a ≤ k) (h2 : k < a + n) : fb_put f g a n k = g (k - a) := if_pos ⟨h1, h2⟩
theorem fb_put_out {α : Type} {f g : Nat → α} {a n k : Nat} (h : k < a ∨ a + n ≤ k) : fb_put f g a n k = f k := if_neg (by omega)
theorem fb_put_succ (f g : Nat → Int32) (a n : Nat) : upd (fb_put f g a n) (a + n) (g n) = fb_put f g a (n + 1) := by
  funext k
  by_cases h : k = a + n
  · subst h
    simp [upd, fb_put]
  · by_cases h1 : a ≤ k ∧ k < a + n
    · have h2 : a ≤ k ∧ k < a + (n + 1) := by omega
      simp only [upd, fb_put, if_neg h, if_pos h1, if_pos h2]
    · have h2 : ¬ (a ≤ k ∧ k < a + (n + 1)) := by omega
      simp only [upd, fb_put, if_neg h, if_neg h1, if_neg h2]
/-- .. from the far end down -/
theorem fb_put_down (f g : Nat → Int32) {a n m : Nat} (h : m < n) : upd (fb_put f (fun k => g (k + (m + 1))) (a + (m + 1)) (n - (m + 1))) (a + m) (g m) = fb_put f (fun k => g (k + m)) (a + m) (n - m) := by
  funext k
  by_cases h0 : k = a + m
  · subst h0
    simp only [upd, if_true]
    rw [fb_put_in (by omega) (by omega)]
    exact congrArg g (by omega)
  · simp only [upd, if_neg h0]
    by_cases h1 : a + (m + 1) ≤ k ∧ k < a + (m + 1) + (n - (m + 1))
    · rw [fb_put_in h1.1 h1.2, fb_put_in (by omega) (by omega)]
      exact congrArg g (by omega)
    · rw [fb_put_out (by omega), fb_put_out (by omega)]
theorem fb_put_cong {α : Type} {f f2 g g2 : Nat → α} {a n : Nat} (hf : ∀ k, (k < a ∨ a + n ≤ k) → f k = f2 k) (hg : ∀ k, k < n → g k = g2 k) : fb_put f g a n = fb_put f2 g2 a n := by
  funext k
  by_cases h : a ≤ k ∧ k < a + n
  · rw [fb_put_in h.1 h.2, fb_put_in h.1 h.2, hg _ (by omega)]
  · rw [fb_put_out (by omega), fb_put_out (by omega), hf _ (by omega)]
/-! ===== the least, the first, the best so far; that there is one alone ===== -/
theorem fb_first {p : Nat → Prop} [DecidablePred p] : ∀ {n : Nat}, (∃ i, i < n ∧ p i) → ∃ i, i < n ∧ p i ∧ ∀ j, j < i → ¬ p j
  | 0, h => by obtain ⟨i, hi, -⟩ := h; exact absurd hi (Nat.not_lt_zero i)
  | n + 1, h => by
    by_cases q : ∃ i, i < n ∧ p i
    · obtain ⟨i, h1, h2⟩ := fb_first q
      exact ⟨i, by omega, h2⟩
    · obtain ⟨i, h1, h2⟩ := h
      have e : i = n := by
        rcases Nat.lt_or_ge i n with r | r
        · exact absurd ⟨i, r, h2⟩ q
        · omega
      subst e
      exact ⟨i, by omega, h2, fun j hj hp => q ⟨j, hj, hp⟩⟩
theorem fb_first_one {p : Nat → Prop} {i j : Nat} (hi : p i) (hi2 : ∀ k, k < i → ¬ p k) (hj : p j) (hj2 : ∀ k, k < j → ¬ p k) : i = j := by
  rcases Nat.lt_trichotomy i j with q | q | q
  · exact absurd hi (hj2 i q)
  · exact q
  · exact absurd hj (hi2 j q)
theorem fb_last {p : Nat → Prop} [DecidablePred p] : ∀ {n : Nat}, (∃ i, i < n ∧ p i) → ∃ i, i < n ∧ p i ∧ ∀ j, i < j → j < n → ¬ p j
  | 0, h => by obtain ⟨i, hi, -⟩ := h; exact absurd hi (Nat.not_lt_zero i)
  | n + 1, h => by
    by_cases q : p n
    · exact ⟨n, by omega, q, fun j h1 h2 => by omega⟩
    · obtain ⟨i, h1, h2⟩ := h
      have hi : i < n := by
        rcases Nat.lt_or_ge i n with r | r
        · exact r
        · have e : i = n := by omega
          subst e
          exact absurd h2 q
      obtain ⟨i2, a1, a2, a3⟩ := fb_last (n := n) ⟨i, hi, h2⟩
      refine ⟨i2, by omega, a2, fun j b1 b2 => ?_⟩
      rcases Nat.lt_or_ge j n with r | r
      · exact a3 j b1 r
      · have e : j = n := by omega
        subst e
        exact q
/-- the first greatest -/
theorem fb_best (f : Nat → Int) : ∀ {n : Nat}, 0 < n → ∃ i, i < n ∧ (∀ j, j < n → f j ≤ f i) ∧ ∀ j, j < i → f j < f i
  | 0, h => absurd h (Nat.lt_irrefl 0)
  | 1, _ => ⟨0, by omega, fun j hj => by have e : j = 0 := by omega
                                         subst e; exact Int.le_refl _, fun j hj => absurd hj (Nat.not_lt_zero j)⟩
  | n + 2, _ => by
    obtain ⟨i, h1, h2, h3⟩ := fb_best f (n := n + 1) (by omega)
    by_cases q : f i < f (n + 1)
    · refine ⟨n + 1, by omega, fun j hj => ?_, fun j hj => ?_⟩
      · rcases Nat.lt_or_ge j (n + 1) with r | r
        · have := h2 j r; omega
        · have e : j = n + 1 := by omega
          subst e; exact Int.le_refl _
      · have := h2 j hj; omega
    · refine ⟨i, by omega, fun j hj => ?_, h3⟩
      rcases Nat.lt_or_ge j (n + 1) with r | r
      · exact h2 j r
      · have e : j = n + 1 := by omega
        subst e; omega
theorem fb_best_one {f : Nat → Int} {n i j : Nat} (hi : i < n) (hi2 : ∀ k, k < n → f k ≤ f i) (hi3 : ∀ k, k < i → f k < f i) (hj : j < n) (hj2 : ∀ k, k < n → f k ≤ f j) (hj3 : ∀ k, k < j → f k < f j) : i = j := by
  rcases Nat.lt_trichotomy i j with q | q | q
  · have a := hj3 i q
    have b := hi2 j hj
    omega
  · exact q
  · have a := hi3 j q
    have b := hj2 i hi
    omega
/-- the first least -/
theorem fb_low (f : Nat → Int) {n : Nat} (h : 0 < n) : ∃ i, i < n ∧ (∀ j, j < n → f i ≤ f j) ∧ ∀ j, j < i → f i < f j := by
  obtain ⟨i, h1, h2, h3⟩ := fb_best (fun k => -f k) h
  exact ⟨i, h1, fun j hj => by have := h2 j hj; omega, fun j hj => by have := h3 j hj; omega⟩
/-! ===== signed ints as whole numbers, within bounds ===== -/
theorem fb_rng (x : Int32) : -2147483648 ≤ x.toInt ∧ x.toInt < 2147483648 := by
  have h1 := Int32.le_toInt x
  have h2 := Int32.toInt_lt x
  omega
theorem fb_bmod {z : Int} (h1 : -2147483648 ≤ z) (h2 : z < 2147483648) : z.bmod (2 ^ 32) = z := by
  rw [Int.bmod_eq_of_le (by omega) (by omega)]
theorem fb_addI {x y : Int32} (h1 : -2147483648 ≤ x.toInt + y.toInt) (h2 : x.toInt + y.toInt < 2147483648) : (x + y).toInt = x.toInt + y.toInt := by
  rw [Int32.toInt_add, fb_bmod h1 h2]
theorem fb_subI {x y : Int32} (h1 : -2147483648 ≤ x.toInt - y.toInt) (h2 : x.toInt - y.toInt < 2147483648) : (x - y).toInt = x.toInt - y.toInt := by
  rw [Int32.toInt_sub, fb_bmod h1 h2]
theorem fb_mulI {x y : Int32} (h1 : -2147483648 ≤ x.toInt * y.toInt) (h2 : x.toInt * y.toInt < 2147483648) : (x * y).toInt = x.toInt * y.toInt := by
  rw [Int32.toInt_mul, fb_bmod h1 h2]
theorem fb_negI {x : Int32} (h : x.toInt ≠ -2147483648) : (-x).toInt = -x.toInt := by
  have := fb_rng x
  rw [Int32.toInt_neg, fb_bmod (by omega) (by omega)]
theorem fb_ofI {z : Int} (h1 : -2147483648 ≤ z) (h2 : z < 2147483648) : (Int32.ofInt z).toInt = z := by
  rw [Int32.toInt_ofInt, fb_bmod h1 h2]
theorem fb_asI (x : Int32) : Int32.ofInt x.toInt = x := Int32.ofInt_toInt x
theorem fb_rngL (x : Int64) : -9223372036854775808 ≤ x.toInt ∧ x.toInt < 9223372036854775808 := by
  have h1 := Int64.le_toInt x
  have h2 := Int64.toInt_lt x
  omega
theorem fb_bmodL {z : Int} (h1 : -9223372036854775808 ≤ z) (h2 : z < 9223372036854775808) : z.bmod (2 ^ 64) = z := by
  rw [Int.bmod_eq_of_le (by omega) (by omega)]
theorem fb_addL {x y : Int64} (h1 : -9223372036854775808 ≤ x.toInt + y.toInt) (h2 : x.toInt + y.toInt < 9223372036854775808) : (x + y).toInt = x.toInt + y.toInt := by
  rw [Int64.toInt_add, fb_bmodL h1 h2]
theorem fb_subL {x y : Int64} (h1 : -9223372036854775808 ≤ x.toInt - y.toInt) (h2 : x.toInt - y.toInt < 9223372036854775808) : (x - y).toInt = x.toInt - y.toInt := by
  rw [Int64.toInt_sub, fb_bmodL h1 h2]
theorem fb_mulL {x y : Int64} (h1 : -9223372036854775808 ≤ x.toInt * y.toInt) (h2 : x.toInt * y.toInt < 9223372036854775808) : (x * y).toInt = x.toInt * y.toInt := by
  rw [Int64.toInt_mul, fb_bmodL h1 h2]
/-! ===== cuts of what is narrow already ===== -/
theorem fb_byte {x : Int32} (h1 : -128 ≤ x.toInt) (h2 : x.toInt < 128) : x.toInt8.toInt32 = x := by
  apply Int32.toInt_inj.1
  rw [Int8.toInt_toInt32, Int32.toInt_toInt8, Int.bmod_eq_of_le (by omega) (by omega)]
theorem fb_short {x : Int32} (h1 : -32768 ≤ x.toInt) (h2 : x.toInt < 32768) : x.toInt16.toInt32 = x := by
  apply Int32.toInt_inj.1
  rw [Int16.toInt_toInt32, Int32.toInt_toInt16, Int.bmod_eq_of_le (by omega) (by omega)]
theorem fb_byte_rng (x : Int32) : -128 ≤ x.toInt8.toInt32.toInt ∧ x.toInt8.toInt32.toInt < 128 := by
  rw [Int8.toInt_toInt32]
  have h1 := Int8.le_toInt x.toInt8
  have h2 := Int8.toInt_lt x.toInt8
  omega
theorem fb_short_rng (x : Int32) : -32768 ≤ x.toInt16.toInt32.toInt ∧ x.toInt16.toInt32.toInt < 32768 := by
  rw [Int16.toInt_toInt32]
  have h1 := Int16.le_toInt x.toInt16
  have h2 := Int16.toInt_lt x.toInt16
  omega
theorem fb_byte_twice (x : Int32) : x.toInt8.toInt32.toInt8.toInt32 = x.toInt8.toInt32 := fb_byte (fb_byte_rng x).1 (fb_byte_rng x).2
theorem fb_short_twice (x : Int32) : x.toInt16.toInt32.toInt16.toInt32 = x.toInt16.toInt32 := fb_short (fb_short_rng x).1 (fb_short_rng x).2
theorem fb_char {n : Nat} (h : n < 65536) : (nI n).toUInt32.toUInt16.toUInt32.toInt32 = nI n := by
  apply Int32.toBitVec_inj.1
  apply BitVec.eq_of_toNat_eq
  have e1 : (nI n).toBitVec.toNat = n := by
    show (BitVec.ofNat 32 n).toNat = n
    rw [BitVec.toNat_ofNat, Nat.mod_eq_of_lt (by omega)]
  have e2 : ((nI n).toUInt32.toUInt16.toUInt32).toNat = n := by
    rw [UInt16.toNat_toUInt32, UInt32.toNat_toUInt16]
    show (nI n).toBitVec.toNat % 2 ^ 16 = n
    rw [e1, Nat.mod_eq_of_lt (by omega)]
  rw [e1]
  exact e2
end
section
/-! PURE: floor division, remainders, tables, harmonics -/
/-- a / b, rounded down -/
def z_fd (a b : Int64) : Int64 := Int64.ofInt (a.toInt / b.toInt)
/-- the place modulo 24 -/
def z_pm (x : Int32) : Nat := (x.toInt % 24).toNat
theorem z_pm_lt (x : Int32) : z_pm x < 24 := by unfold z_pm; omega
theorem z_pm_n {n : Nat} (h : n < 2 ^ 31) : z_pm (nI n) = n % 24 := by unfold z_pm; rw [nI_toInt h]; omega
theorem z_pos64 {b : Int64} (h : 0 < b) : 0 < b.toInt := by
  have := Int64.lt_iff_toInt_lt.mp h
  simpa using this
theorem z_nn64 {a : Int64} : 0 ≤ a ↔ 0 ≤ a.toInt := by
  rw [Int64.le_iff_toInt_le]
  simp
theorem z_nn32 {a : Int32} : 0 ≤ a ↔ 0 ≤ a.toInt := by
  rw [Int32.le_iff_toInt_le]
  simp
theorem z_tdiv_rng (a b : Int) (hb : 0 < b) : (0 ≤ a → 0 ≤ a.tdiv b ∧ a.tdiv b ≤ a ∧ a.tdiv b = a / b) ∧ (a < 0 → a ≤ a.tdiv b ∧ a.tdiv b ≤ 0 ∧ a.tdiv b = -((-a) / b)) := by
  constructor
  · intro h
    have e := Int.tdiv_eq_ediv_of_nonneg (b := b) h
    have h1 := Int.ediv_nonneg h (Int.le_of_lt hb)
    have h2 := Int.ediv_le_self b h
    omega
  · intro h
    have e : a.tdiv b = -((-a) / b) := by
      have e1 : a.tdiv b = -((-a).tdiv b) := by rw [Int.neg_tdiv, Int.neg_neg]
      rw [e1, Int.tdiv_eq_ediv_of_nonneg (by omega)]
    have h1 := Int.ediv_nonneg (show 0 ≤ -a by omega) (Int.le_of_lt hb)
    have h2 := Int.ediv_le_self b (show 0 ≤ -a by omega)
    omega
theorem z_div_t {a b : Int64} (hb : 0 < b) : (a / b).toInt = a.toInt.tdiv b.toInt := Int64.toInt_div_of_ne_right a b (by
  intro e; rw [e] at hb; exact absurd hb (by decide))
theorem z_fd_t {a b : Int64} (hb : 0 < b) : (z_fd a b).toInt = a.toInt / b.toInt := by
  unfold z_fd
  have h0 := z_pos64 hb
  have h1 := fb_rngL a
  have h3 : a.toInt / b.toInt ≤ 9223372036854775807 := by
    rcases Int.le_total 0 a.toInt with h | h
    · have := Int.ediv_le_self b.toInt h
      omega
    · have := Int.ediv_nonpos_of_nonpos_of_neg h h0
      omega
  have h4 : -9223372036854775808 ≤ a.toInt / b.toInt := by
    refine Int.le_ediv_of_mul_le h0 ?_
    have : (-9223372036854775808 : Int) * b.toInt ≤ -9223372036854775808 := by
      have h5 : (1 : Int) ≤ b.toInt := h0
      have := Int.mul_le_mul_of_nonneg_left h5 (show (0 : Int) ≤ 9223372036854775808 by decide)
      omega
    omega
  exact Int64.toInt_ofInt_of_le (by simpa using h4) (by omega)
/-- what the quotient is, by the sign -/
theorem z_fd_q {a b : Int64} (hb : 0 < b) : (0 ≤ a → a / b = z_fd a b) ∧ (a < 0 → a / b * b = a → a / b = z_fd a b) ∧ (a < 0 → ¬ a / b * b = a → a / b - 1 = z_fd a b) ∧ (a < 0 → (a < a / b * b ↔ ¬ a / b * b = a)) := by
  have h0 := z_pos64 hb
  have h1 := fb_rngL a
  have hq := z_div_t (a := a) hb
  have hf := z_fd_t (a := a) hb
  have hr := z_tdiv_rng a.toInt b.toInt h0
  have hd := Int.mul_ediv_add_emod a.toInt b.toInt
  have hm0 := Int.emod_nonneg a.toInt (show b.toInt ≠ 0 by omega)
  have hm1 := Int.emod_lt_of_pos a.toInt h0
  have hd2 := Int.mul_ediv_add_emod (-a.toInt) b.toInt
  have hn0 := Int.emod_nonneg (-a.toInt) (show b.toInt ≠ 0 by omega)
  have hn1 := Int.emod_lt_of_pos (-a.toInt) h0
  have key : a < 0 → (a / b * b).toInt = -(b.toInt * (-a.toInt / b.toInt)) := by
    intro h
    have hlt : a.toInt < 0 := by
      have := Int64.lt_iff_toInt_lt.mp h
      simpa using this
    have e : (a / b).toInt * b.toInt = -(b.toInt * (-a.toInt / b.toInt)) := by
      rw [hq, (hr.2 hlt).2.2, Int.neg_mul, Int.mul_comm]
    have hp := Int.mul_nonneg (Int.le_of_lt h0) (Int.ediv_nonneg (show 0 ≤ -a.toInt by omega) (Int.le_of_lt h0))
    rw [← e]
    exact fb_mulL (by rw [e]; omega) (by rw [e]; omega)
  refine ⟨fun h => ?_, fun h h2 => ?_, fun h h2 => ?_, fun h => ?_⟩
  · rw [fa_eq64, hq, hf]
    exact (hr.1 (z_nn64.mp h)).2.2
  · have hlt : a.toInt < 0 := by
      have := Int64.lt_iff_toInt_lt.mp h
      simpa using this
    have h3 := key h
    rw [h2] at h3
    have e1 := (hr.2 hlt).2.2
    rw [fa_eq64, hq, hf, e1]
    have hz : -a.toInt % b.toInt = 0 := by omega
    have e2 : a.toInt = -(-a.toInt / b.toInt) * b.toInt := by
      rw [Int.neg_mul, Int.mul_comm]; omega
    rw [e2, Int.mul_ediv_cancel _ (show b.toInt ≠ 0 by omega), ← e2]
  · have hlt : a.toInt < 0 := by
      have := Int64.lt_iff_toInt_lt.mp h
      simpa using this
    have h3 := key h
    have hne : ¬ -a.toInt % b.toInt = 0 := by
      intro z
      apply h2
      rw [fa_eq64, h3]
      omega
    have e1 := (hr.2 hlt).2.2
    have hk0 := Int.ediv_nonneg (show 0 ≤ -a.toInt by omega) (Int.le_of_lt h0)
    have hk1 := Int.mul_le_mul_of_nonneg_right (show (1 : Int) ≤ b.toInt from h0) hk0
    have e3 : (a / b - 1).toInt = (a / b).toInt - 1 := by
      exact fb_subL (x := a / b) (y := 1) (by rw [hq, e1]; show _ ≤ _ - (1 : Int); omega) (by rw [hq, e1]; show _ - (1 : Int) < _; omega)
    rw [fa_eq64, e3, hq, hf, e1]
    refine (((Int.ediv_emod_unique h0 (r := b.toInt - -a.toInt % b.toInt) (q := -(-a.toInt / b.toInt) - 1)).mpr ⟨?_, by omega, by omega⟩).1).symm
    rw [Int.mul_sub, Int.mul_neg, Int.mul_one]
    omega
  · have h3 := key h
    rw [fa_lt64, fa_eq64, h3]
    omega
theorem z_msb64 (x : Int64) : (0 ≤ x) ↔ x.toBitVec.msb = false := by
  rw [z_nn64, BitVec.msb_eq_toInt]
  simp
theorem z_msb32 (x : Int32) : (0 ≤ x) ↔ x.toBitVec.msb = false := by
  rw [z_nn32, BitVec.msb_eq_toInt]
  simp
theorem z_xs64 {a b : Int64} (hb : 0 < b) : 0 ≤ a ^^^ b ↔ 0 ≤ a := by
  rw [z_msb64, z_msb64, Int64.toBitVec_xor, BitVec.msb_xor]
  have : b.toBitVec.msb = false := (z_msb64 b).mp (by rw [z_nn64]; have := z_pos64 hb; omega)
  rw [this]; simp
theorem z_xs32 {a b : Int32} (hb : 0 ≤ b) : 0 ≤ a ^^^ b ↔ 0 ≤ a := by
  rw [z_msb32, z_msb32, Int32.toBitVec_xor, BitVec.msb_xor]
  have : b.toBitVec.msb = false := (z_msb32 b).mp hb
  rw [this]; simp
theorem z_lt0_64 {a : Int64} (h : ¬ 0 ≤ a) : a < 0 := Int64.not_le.mp h
/-- the leaves of floorDiv -/
theorem z_fd_1 {a b : Int64} (hb : 0 < b) (h : 0 ≤ a ^^^ b) : a / b = z_fd a b := (z_fd_q hb).1 ((z_xs64 hb).mp h)
theorem z_fd_2 {a b : Int64} (hb : 0 < b) (h : ¬ 0 ≤ a ^^^ b) (h2 : a / b * b = a) : a / b = z_fd a b := (z_fd_q hb).2.1 (z_lt0_64 (fun z => h ((z_xs64 hb).mpr z))) h2
theorem z_fd_3 {a b : Int64} (hb : 0 < b) (h : ¬ 0 ≤ a ^^^ b) (h2 : ¬ a / b * b = a) : a / b - 1 = z_fd a b := (z_fd_q hb).2.2.1 (z_lt0_64 (fun z => h ((z_xs64 hb).mpr z))) h2
/-- the leaves of down -/
theorem z_dn_1 {a b : Int64} (hb : 0 < b) (h : a < a / b * b) : a / b - 1 = z_fd a b := by
  by_cases h0 : 0 ≤ a
  · exfalso
    have h2 := z_pos64 hb
    have hr := (z_tdiv_rng a.toInt b.toInt h2).1 (z_nn64.mp h0)
    have h3 := Int.mul_ediv_add_emod a.toInt b.toInt
    have h4 := Int.emod_nonneg a.toInt (show b.toInt ≠ 0 by omega)
    have h1 := fb_rngL a
    have e : (a / b).toInt * b.toInt = b.toInt * (a.toInt / b.toInt) := by rw [z_div_t hb, hr.2.2, Int.mul_comm]
    have h5 : 0 ≤ b.toInt * (a.toInt / b.toInt) := Int.mul_nonneg (by omega) (by omega)
    have e2 : (a / b * b).toInt = (a / b).toInt * b.toInt := fb_mulL (by rw [e]; omega) (by rw [e]; omega)
    rw [fa_lt64, e2, e] at h
    omega
  · have h1 := z_lt0_64 h0
    exact (z_fd_q hb).2.2.1 h1 (((z_fd_q hb).2.2.2 h1).mp h)
theorem z_dn_2 {a b : Int64} (hb : 0 < b) (h : ¬ a < a / b * b) : a / b = z_fd a b := by
  by_cases h0 : 0 ≤ a
  · exact (z_fd_q hb).1 h0
  · have h1 := z_lt0_64 h0
    exact (z_fd_q hb).2.1 h1 (Decidable.not_not.mp (fun z => h (((z_fd_q hb).2.2.2 h1).mpr z)))
/-- remainders by 24 -/
theorem z_rem_t (x : Int32) : (x - x / nI 24 * nI 24).toInt = x.toInt - x.toInt.tdiv 24 * 24 ∧ (0 ≤ x.toInt → x.toInt.tdiv 24 = x.toInt / 24) ∧ (x.toInt < 0 → x.toInt.tdiv 24 = -(-x.toInt / 24)) := by
  have h1 := fb_rng x
  have hr := z_tdiv_rng x.toInt 24 (by decide)
  have e24 : (nI 24).toInt = 24 := rfl
  have hq : (x / nI 24).toInt = x.toInt.tdiv 24 := Int32.toInt_div_of_ne_right x (nI 24) (by decide)
  have hb : x.toInt.tdiv 24 * 24 ≤ 2147483647 ∧ -2147483648 ≤ x.toInt.tdiv 24 * 24 ∧ -24 < x.toInt - x.toInt.tdiv 24 * 24 ∧ x.toInt - x.toInt.tdiv 24 * 24 < 24 := by
    rcases Int.le_total 0 x.toInt with h | h
    · have := hr.1 h; omega
    · rcases Int.lt_or_eq_of_le h with h | h
      · have := hr.2 h; omega
      · have := hr.1 (by omega); omega
  have hm : (x / nI 24 * nI 24).toInt = x.toInt.tdiv 24 * 24 := by
    rw [fb_mulI (by rw [hq, e24]; omega) (by rw [hq, e24]; omega), hq, e24]
  refine ⟨?_, fun h => (hr.1 h).2.2, fun h => (hr.2 h).2.2⟩
  rw [fb_subI (by rw [hm]; omega) (by rw [hm]; omega), hm]
theorem z_pm_t (x : Int32) : (nI (z_pm x)).toInt = x.toInt % 24 := by
  rw [nI_toInt (Nat.lt_trans (z_pm_lt x) (by decide))]
  unfold z_pm
  omega
theorem z_add24 {r : Int32} (h1 : -24 < r.toInt) (h2 : r.toInt < 24) : (r + nI 24).toInt = r.toInt + 24 := fb_addI (y := nI 24) (by show _ ≤ _ + (24 : Int); omega) (by show _ + (24 : Int) < _; omega)
theorem z_fm_1 {x : Int32} (h : 0 ≤ x ^^^ nI 24) : x - x / nI 24 * nI 24 = nI (z_pm x) := by
  have h0 := z_nn32.mp ((z_xs32 (by decide)).mp h)
  obtain ⟨e1, e2, -⟩ := z_rem_t x
  rw [fa_eq, e1, z_pm_t, e2 h0]
  omega
theorem z_fm_2 {x : Int32} (h : ¬ 0 ≤ x ^^^ nI 24) (h2 : x - x / nI 24 * nI 24 = 0) : x - x / nI 24 * nI 24 = nI (z_pm x) := by
  have h0 : x.toInt < 0 := by
    exact Int.not_le.mp (fun z => h ((z_xs32 (a := x) (b := nI 24) (by decide)).mpr (z_nn32.mpr z)))
  obtain ⟨e1, -, e2⟩ := z_rem_t x
  have h3 : (x - x / nI 24 * nI 24).toInt = 0 := by rw [h2]; rfl
  rw [fa_eq, z_pm_t]
  rw [e1, e2 h0] at h3 ⊢
  omega
theorem z_fm_3 {x : Int32} (h : ¬ 0 ≤ x ^^^ nI 24) (h2 : ¬ x - x / nI 24 * nI 24 = 0) : x - x / nI 24 * nI 24 + nI 24 = nI (z_pm x) := by
  have h0 : x.toInt < 0 := by
    exact Int.not_le.mp (fun z => h ((z_xs32 (a := x) (b := nI 24) (by decide)).mpr (z_nn32.mpr z)))
  obtain ⟨e1, -, e2⟩ := z_rem_t x
  have h3 : ¬ (x - x / nI 24 * nI 24).toInt = 0 := fun z => h2 (by rw [fa_eq, z]; rfl)
  rw [e1, e2 h0] at h3
  rw [fa_eq, z_pm_t, z_add24 (by rw [e1, e2 h0]; omega) (by rw [e1, e2 h0]; omega), e1, e2 h0]
  omega
theorem z_ar_1 {x : Int32} (h : x - x / nI 24 * nI 24 < 0) : x - x / nI 24 * nI 24 + nI 24 = nI (z_pm x) := by
  have h' := Int32.lt_iff_toInt_lt.mp h
  obtain ⟨e1, e2, e3⟩ := z_rem_t x
  rw [e1] at h'
  have h' : x.toInt - x.toInt.tdiv 24 * 24 < 0 := h'
  have h0 : x.toInt < 0 := by
    rcases Int.lt_or_le x.toInt 0 with q | q
    · exact q
    · rw [e2 q] at h'; omega
  rw [e3 h0] at h'
  rw [fa_eq, z_pm_t, z_add24 (by rw [e1, e3 h0]; omega) (by rw [e1, e3 h0]; omega), e1, e3 h0]
  omega
theorem z_ar_2 {x : Int32} (h : ¬ x - x / nI 24 * nI 24 < 0) : x - x / nI 24 * nI 24 = nI (z_pm x) := by
  have h' : 0 ≤ (x - x / nI 24 * nI 24).toInt := z_nn32.mp (Int32.not_lt.mp h)
  obtain ⟨e1, e2, e3⟩ := z_rem_t x
  rw [e1] at h'
  rw [fa_eq, z_pm_t, e1]
  rcases Int.lt_or_le x.toInt 0 with q | q
  · rw [e3 q] at h' ⊢; omega
  · rw [e2 q] at h' ⊢; omega
/-- absolute value, greater, smaller -/
def z_ab (x : Int64) : Int64 := if x < 0 then -x else x
def z_mx (a b : Int64) : Int64 := if a < b then b else a
def z_mn (a b : Int64) : Int64 := if b < a then b else a
/-- a wave: (a c(k) + b s(k)) / 1000000 -/
def z_wv (a b : Int64) (k : Nat) : Int64 := z_fd (a * (z_cos k).toInt64 + b * (z_sin k).toInt64) 1000000
/-- the sum of z(j) c(h j), or s(h j), over j < k -/
def z_sm (z : Nat → Int64) (t h : Nat) : Nat → Int64
  | 0 => 0
  | k + 1 => z_sm z t h k + z k * (z_tv t (h * k % 24)).toInt64
def z_dv (h : Nat) : Int64 := if h = 0 ∨ h = 12 then 24000000 else 12000000
def z_cf (z : Nat → Int64) (t h : Nat) : Int64 := z_fd (z_sm z t h 24) (z_dv h)
/-- strength -/
def z_sg (z : Nat → Int64) (h : Nat) : Int64 := z_ab (z_cf z 0 h) + z_ab (z_cf z 1 h)
/-- lobes first to first + n - 1, at k -/
def z_kl (z : Nat → Int64) (first : Nat) : Nat → Nat → Int64
  | 0, _ => 0
  | n + 1, k => z_kl z first n k + z_wv (z_cf z 0 (first + n)) (z_cf z 1 (first + n)) ((first + n) * k % 24)
end
section
/-! Methods of java.lang.Math: a walk without store, over 'AtOv' -/
def z_JQ (below : List Frame) (args : Array Value) (s : State) (Qf : Array Value → State → Outcome → State → Prop) : State → Prop := fun t => t.status = .running ∧ ∃ o, Ended t below o ∧ Qf args s o t
theorem z_Mov {l : Launch} {y : MethodName} {ws' : List Cond} {rm : Room} {Pc : Array Value → State → Prop} {Qf : Array Value → State → Outcome → State → Prop} {cc : ByteArray} {maxL : Nat} {ret : Option FieldType}
    (hrow : ∀ p : Program, NativeRow.find? p.tables.natives y.cls y.name y.desc = none)
    (body : ∀ p e s m args below meth c s₁, BodyLooseOv p (headSpec (.code y cc maxL ret :: ws') rm) cc maxL ret e s m args below meth c s₁ → Pc args s → ∃ t, Steps p.tables e below (s₁.setTop (entryFrame m args maxL)) t ∧ z_JQ below args s Qf t) : MetFree l y (headSpec (.code y cc maxL ret :: ws') rm) Pc (fun _ _ _ _ _ => True) Qf := by
  intro p e ha hc hk s m args below hf happ hP _
  obtain ⟨hrun, hable, halone, hname, hhears, hinit, hroom, hpre⟩ := (Spec.appliesLoose_iff hf).mp happ
  obtain ⟨meth, c, hmeth, hcode, hbytes, hlocals, hret, hlocks, -⟩ := Cond.code_spec hname (atoms_spec (ws := .code y cc maxL ret :: ws') hpre _ List.mem_cons_self)
  have hcur := State.cur_lt_of_frames hf
  have hf1 : (s.setFrames (.java (entryFrame m args maxL) :: below)).frames = .java (entryFrame m args maxL) :: below := State.frames_setFrames _ hcur
  have ht1 := State.topJava?_of_frames hf1
  have hown : ∀ f : JFrame, f.method = m → overridden p.tables e ((s.setFrames (.java (entryFrame m args maxL) :: below)).setTop f) f = none := by
    intro f hfm
    obtain ⟨k', hk', hn⟩ := className_of_methodNamed hname
    obtain ⟨hmn, hmd⟩ := name_of_methodNamed hname hmeth
    have hx' : k'.methods[m.idx]? = some meth := by simpa [Vm.method?, hk'] using hmeth
    refine overridden_noRow _ _ (k := k') (x := meth) (by rw [hfm]; exact hk') (by rw [hfm]; exact hx') ?_
    rw [hn, hmn, hmd]
    exact hrow p
  have hAt : AtOv p.tables e (s.setFrames (.java (entryFrame m args maxL) :: below)) m c below :=
    ⟨by rw [ht1]; rfl, ⟨[], by rw [hf1]; rfl⟩, hrun, by simpa using hable, by simpa using halone, by rw [State.code?_eq]; simp [State.setFrames, hmeth, hcode], hown⟩
  obtain ⟨s₂, hs, hr, o, he, hp⟩ := body p e s m args below meth c _ ⟨by cases p <;> rfl, hf, hhears, hpre, hmeth, hret, hlocks, hbytes, rfl, hAt⟩ hP
  have hstep : (stepThread p.tables e s).1 = (s.setFrames (.java (entryFrame m args maxL) :: below)).setTop (entryFrame m args maxL) := by
    have hfull : e.platform.stackFull (s.setFrames below).me (s.setFrames below).frames c.maxLocals = false := by
      obtain ⟨-, h1, -, h2⟩ := State.hasRoom_stack hroom
      rw [hf, List.length_cons] at h1
      rw [State.localsInUse_invoking hf hmeth hcode] at h2
      have hw := stackUse_le_stackWeight below
      rw [State.frames_setFrames _ hcur]
      exact Platform.stackFull_eq_false (by rw [State.stackLimits_setFrames]; omega) (by rw [State.stackLimits_setFrames]; omega)
    rw [stepThread_invoking hf, (doInvoke_java (s := s.setFrames below) (e := e) (meth := meth) (code := c) hmeth hcode hlocks hfull).1, State.setTop_self ht1]
    simp only [State.pushFrame, State.frames_setFrames _ hcur, State.setFrames_setFrames, hlocals, entryFrame]
  obtain ⟨n, hn, hw⟩ := Steps.head (tb := p.tables) (e := e) ⟨hrun, hable, halone⟩ ⟨[.invoking m args], hf, by simp, by simp⟩ (hstep ▸ hs)
  exact ⟨n, o, hw, hn ▸ hr, hn ▸ he, hn ▸ hp⟩
def z_J (p : Program) (e : Env) (below : List Frame) (s1 : State) (m : MethodId) (Q : State → Prop) (nL pc : Nat) (lv : List (Nat × Value)) (st : List Value) : Prop := ∀ ls : Array Slot, lv_has ls nL lv → ∃ t, Steps p.tables e below (s1.setTop (F0 m pc ls st)) t ∧ Q t
section ZJ
variable {p : Program} {S : Spec} {cc : ByteArray} {nL : Nat} {ret : Option FieldType} {e : Env} {s : State} {m : MethodId} {args : Array Value} {below : List Frame} {meth : Method} {c : Code} {s1 : State} {Q : State → Prop} {lv : List (Nat × Value)} {st : List Value} {G : z_Gl} {σ : z_St}
theorem j_iconst (pc : Nat) (C : BodyLooseOv p S cc nL ret e s m args below meth c s1) {n : Int} (hd : decode cc pc = .ok (.iconst n, 1)) (v : Int32) (hv : Int32.ofInt n = v) (k : z_J p e below s1 m Q nL (pc + 1) lv (.int v :: st)) : z_J p e below s1 m Q nL pc lv (st) := fun ls h => by
  obtain ⟨t, a, b⟩ := k ls h
  refine ⟨t, ?_, b⟩
  refine Steps.instrAtOv (c := c) (by simpa using C.here) ?_
  simp [jvm, wpRun, exec, C.here.top, C.exec, C.bytes, hd, hv]
  exact a
theorem j_lconst (pc : Nat) (C : BodyLooseOv p S cc nL ret e s m args below meth c s1) {n : Fin 2} (hd : decode cc pc = .ok (.lconst n, 1)) (v : Int64) (hv : Int64.ofNat (n : Nat) = v) (k : z_J p e below s1 m Q nL (pc + 1) lv (.long v :: st)) : z_J p e below s1 m Q nL pc lv (st) := fun ls h => by
  subst hv
  obtain ⟨t, a, b⟩ := k ls h
  refine ⟨t, ?_, b⟩
  refine Steps.instrAtOv (c := c) (by simpa using C.here) ?_
  simp [jvm, wpRun, exec, C.here.top, C.exec, C.bytes, hd]
  exact a
theorem j_iload_n (pc : Nat) (C : BodyLooseOv p S cc nL ret e s m args below meth c s1) {i : Fin 4} {x : Int32} (hd : decode cc pc = .ok (.iload_n i, 1)) (j : Nat) (hl : lv[j]? = some ((i : Nat), .int x)) (k : z_J p e below s1 m Q nL (pc + 1) lv (.int x :: st)) : z_J p e below s1 m Q nL pc lv (st) := fun ls h => by
  have h0 := lv_at h j hl
  obtain ⟨t, a, b⟩ := k ls h
  refine ⟨t, ?_, b⟩
  refine Steps.instrAtOv (c := c) (by simpa using C.here) ?_
  simp [jvm, wpRun, exec, C.here.top, C.exec, C.bytes, hd, h0]
  exact a
theorem j_lload_n (pc : Nat) (C : BodyLooseOv p S cc nL ret e s m args below meth c s1) {i : Fin 4} {x : Int64} (hd : decode cc pc = .ok (.lload_n i, 1)) (j : Nat) (hl : lv[j]? = some ((i : Nat), .long x)) (k : z_J p e below s1 m Q nL (pc + 1) lv (.long x :: st)) : z_J p e below s1 m Q nL pc lv (st) := fun ls h => by
  have h0 := lv_at h j hl
  obtain ⟨t, a, b⟩ := k ls h
  refine ⟨t, ?_, b⟩
  refine Steps.instrAtOv (c := c) (by simpa using C.here) ?_
  simp [jvm, wpRun, exec, C.here.top, C.exec, C.bytes, hd, h0]
  exact a
theorem j_lload (pc : Nat) (C : BodyLooseOv p S cc nL ret e s m args below meth c s1) {i : Nat} {x : Int64} (hd : decode cc pc = .ok (.lload i, 2)) (j : Nat) (hl : lv[j]? = some (i, .long x)) (k : z_J p e below s1 m Q nL (pc + 2) lv (.long x :: st)) : z_J p e below s1 m Q nL pc lv (st) := fun ls h => by
  have h0 := lv_at h j hl
  obtain ⟨t, a, b⟩ := k ls h
  refine ⟨t, ?_, b⟩
  refine Steps.instrAtOv (c := c) (by simpa using C.here) ?_
  simp [jvm, wpRun, exec, C.here.top, C.exec, C.bytes, hd, h0]
  exact a
theorem j_iadd (pc : Nat) (C : BodyLooseOv p S cc nL ret e s m args below meth c s1) {x y : Int32} (hd : decode cc pc = .ok (.iadd, 1))  (k : z_J p e below s1 m Q nL (pc + 1) lv (.int (x + y) :: st)) : z_J p e below s1 m Q nL pc lv (.int y :: .int x :: st) := fun ls h => by
  obtain ⟨t, a, b⟩ := k ls h
  refine ⟨t, ?_, b⟩
  refine Steps.instrAtOv (c := c) (by simpa using C.here) ?_
  simp [jvm, wpRun, exec, C.here.top, C.exec, C.bytes, hd]
  exact a
theorem j_isub (pc : Nat) (C : BodyLooseOv p S cc nL ret e s m args below meth c s1) {x y : Int32} (hd : decode cc pc = .ok (.isub, 1))  (k : z_J p e below s1 m Q nL (pc + 1) lv (.int (x - y) :: st)) : z_J p e below s1 m Q nL pc lv (.int y :: .int x :: st) := fun ls h => by
  obtain ⟨t, a, b⟩ := k ls h
  refine ⟨t, ?_, b⟩
  refine Steps.instrAtOv (c := c) (by simpa using C.here) ?_
  simp [jvm, wpRun, exec, C.here.top, C.exec, C.bytes, hd]
  exact a
theorem j_imul (pc : Nat) (C : BodyLooseOv p S cc nL ret e s m args below meth c s1) {x y : Int32} (hd : decode cc pc = .ok (.imul, 1))  (k : z_J p e below s1 m Q nL (pc + 1) lv (.int (x * y) :: st)) : z_J p e below s1 m Q nL pc lv (.int y :: .int x :: st) := fun ls h => by
  obtain ⟨t, a, b⟩ := k ls h
  refine ⟨t, ?_, b⟩
  refine Steps.instrAtOv (c := c) (by simpa using C.here) ?_
  simp [jvm, wpRun, exec, C.here.top, C.exec, C.bytes, hd]
  exact a
theorem j_ixor (pc : Nat) (C : BodyLooseOv p S cc nL ret e s m args below meth c s1) {x y : Int32} (hd : decode cc pc = .ok (.ixor, 1))  (k : z_J p e below s1 m Q nL (pc + 1) lv (.int (x ^^^ y) :: st)) : z_J p e below s1 m Q nL pc lv (.int y :: .int x :: st) := fun ls h => by
  obtain ⟨t, a, b⟩ := k ls h
  refine ⟨t, ?_, b⟩
  refine Steps.instrAtOv (c := c) (by simpa using C.here) ?_
  simp [jvm, wpRun, exec, C.here.top, C.exec, C.bytes, hd]
  exact a
theorem j_idiv (pc : Nat) (C : BodyLooseOv p S cc nL ret e s m args below meth c s1) {x y : Int32} (hd : decode cc pc = .ok (.idiv, 1)) (hne : ¬ y = 0) (k : z_J p e below s1 m Q nL (pc + 1) lv (.int (x / y) :: st)) : z_J p e below s1 m Q nL pc lv (.int y :: .int x :: st) := fun ls h => by
  obtain ⟨t, a, b⟩ := k ls h
  refine ⟨t, ?_, b⟩
  refine Steps.instrAtOv (c := c) (by simpa using C.here) ?_
  simp [jvm, wpRun, exec, C.here.top, C.exec, C.bytes, hd, hne]
  exact a
theorem j_irem (pc : Nat) (C : BodyLooseOv p S cc nL ret e s m args below meth c s1) {x y : Int32} (hd : decode cc pc = .ok (.irem, 1)) (hne : ¬ y = 0) (k : z_J p e below s1 m Q nL (pc + 1) lv (.int (x - x / y * y) :: st)) : z_J p e below s1 m Q nL pc lv (.int y :: .int x :: st) := fun ls h => by
  obtain ⟨t, a, b⟩ := k ls h
  refine ⟨t, ?_, b⟩
  refine Steps.instrAtOv (c := c) (by simpa using C.here) ?_
  simp [jvm, wpRun, exec, C.here.top, C.exec, C.bytes, hd, hne]
  exact a
theorem j_ladd (pc : Nat) (C : BodyLooseOv p S cc nL ret e s m args below meth c s1) {x y : Int64} (hd : decode cc pc = .ok (.ladd, 1))  (k : z_J p e below s1 m Q nL (pc + 1) lv (.long (x + y) :: st)) : z_J p e below s1 m Q nL pc lv (.long y :: .long x :: st) := fun ls h => by
  obtain ⟨t, a, b⟩ := k ls h
  refine ⟨t, ?_, b⟩
  refine Steps.instrAtOv (c := c) (by simpa using C.here) ?_
  simp [jvm, wpRun, exec, C.here.top, C.exec, C.bytes, hd]
  exact a
theorem j_lsub (pc : Nat) (C : BodyLooseOv p S cc nL ret e s m args below meth c s1) {x y : Int64} (hd : decode cc pc = .ok (.lsub, 1))  (k : z_J p e below s1 m Q nL (pc + 1) lv (.long (x - y) :: st)) : z_J p e below s1 m Q nL pc lv (.long y :: .long x :: st) := fun ls h => by
  obtain ⟨t, a, b⟩ := k ls h
  refine ⟨t, ?_, b⟩
  refine Steps.instrAtOv (c := c) (by simpa using C.here) ?_
  simp [jvm, wpRun, exec, C.here.top, C.exec, C.bytes, hd]
  exact a
theorem j_lmul (pc : Nat) (C : BodyLooseOv p S cc nL ret e s m args below meth c s1) {x y : Int64} (hd : decode cc pc = .ok (.lmul, 1))  (k : z_J p e below s1 m Q nL (pc + 1) lv (.long (x * y) :: st)) : z_J p e below s1 m Q nL pc lv (.long y :: .long x :: st) := fun ls h => by
  obtain ⟨t, a, b⟩ := k ls h
  refine ⟨t, ?_, b⟩
  refine Steps.instrAtOv (c := c) (by simpa using C.here) ?_
  simp [jvm, wpRun, exec, C.here.top, C.exec, C.bytes, hd]
  exact a
theorem j_lxor (pc : Nat) (C : BodyLooseOv p S cc nL ret e s m args below meth c s1) {x y : Int64} (hd : decode cc pc = .ok (.lxor, 1))  (k : z_J p e below s1 m Q nL (pc + 1) lv (.long (x ^^^ y) :: st)) : z_J p e below s1 m Q nL pc lv (.long y :: .long x :: st) := fun ls h => by
  obtain ⟨t, a, b⟩ := k ls h
  refine ⟨t, ?_, b⟩
  refine Steps.instrAtOv (c := c) (by simpa using C.here) ?_
  simp [jvm, wpRun, exec, C.here.top, C.exec, C.bytes, hd]
  exact a
theorem j_ldiv (pc : Nat) (C : BodyLooseOv p S cc nL ret e s m args below meth c s1) {x y : Int64} (hd : decode cc pc = .ok (.ldiv, 1)) (hne : ¬ y = 0) (k : z_J p e below s1 m Q nL (pc + 1) lv (.long (x / y) :: st)) : z_J p e below s1 m Q nL pc lv (.long y :: .long x :: st) := fun ls h => by
  obtain ⟨t, a, b⟩ := k ls h
  refine ⟨t, ?_, b⟩
  refine Steps.instrAtOv (c := c) (by simpa using C.here) ?_
  simp [jvm, wpRun, exec, C.here.top, C.exec, C.bytes, hd, hne]
  exact a
theorem j_ineg (pc : Nat) (C : BodyLooseOv p S cc nL ret e s m args below meth c s1) {x : Int32} (hd : decode cc pc = .ok (.ineg, 1))  (k : z_J p e below s1 m Q nL (pc + 1) lv (.int (-x) :: st)) : z_J p e below s1 m Q nL pc lv (.int x :: st) := fun ls h => by
  obtain ⟨t, a, b⟩ := k ls h
  refine ⟨t, ?_, b⟩
  refine Steps.instrAtOv (c := c) (by simpa using C.here) ?_
  simp [jvm, wpRun, exec, C.here.top, C.exec, C.bytes, hd]
  exact a
theorem j_lneg (pc : Nat) (C : BodyLooseOv p S cc nL ret e s m args below meth c s1) {x : Int64} (hd : decode cc pc = .ok (.lneg, 1))  (k : z_J p e below s1 m Q nL (pc + 1) lv (.long (-x) :: st)) : z_J p e below s1 m Q nL pc lv (.long x :: st) := fun ls h => by
  obtain ⟨t, a, b⟩ := k ls h
  refine ⟨t, ?_, b⟩
  refine Steps.instrAtOv (c := c) (by simpa using C.here) ?_
  simp [jvm, wpRun, exec, C.here.top, C.exec, C.bytes, hd]
  exact a
theorem j_istore_n (pc : Nat) (C : BodyLooseOv p S cc nL ret e s m args below meth c s1) {i : Fin 4} {x : Int32} (hd : decode cc pc = .ok (.istore_n i, 1)) (lv1 : List (Nat × Value)) (hn : (i : Nat) < nL) (hl : ((i : Nat), Value.int x) :: lv.filter (fun q => !(q.1 == (i : Nat)) && !(q.1 + 1 == (i : Nat) && q.2.category == 2)) = lv1) (k : z_J p e below s1 m Q nL (pc + 1) lv1 st) : z_J p e below s1 m Q nL pc lv (.int x :: st) := fun ls h => by
  obtain ⟨ls', e', h'⟩ := lv_store1 (v := .int x) h hn rfl
  obtain ⟨t, a, b⟩ := k ls' (hl ▸ h')
  refine ⟨t, ?_, b⟩
  refine Steps.instrAtOv (c := c) (by simpa using C.here) ?_
  simp [jvm, wpRun, exec, C.here.top, ↓top_set C.here.top, C.exec, C.bytes, hd, e']
  exact a
theorem j_lstore (pc : Nat) (C : BodyLooseOv p S cc nL ret e s m args below meth c s1) {i : Nat} {x : Int64} (hd : decode cc pc = .ok (.lstore i, 2)) (lv1 : List (Nat × Value)) (hn : (i : Nat) + 1 < nL) (hl : ((i : Nat), Value.long x) :: lv.filter (fun q => !(q.1 == (i : Nat)) && (!(q.1 == (i : Nat) + 1) && !(q.1 + 1 == (i : Nat) && q.2.category == 2))) = lv1) (k : z_J p e below s1 m Q nL (pc + 2) lv1 st) : z_J p e below s1 m Q nL pc lv (.long x :: st) := fun ls h => by
  obtain ⟨ls', e', h'⟩ := lv_store2 (v := .long x) h hn rfl
  obtain ⟨t, a, b⟩ := k ls' (hl ▸ h')
  refine ⟨t, ?_, b⟩
  refine Steps.instrAtOv (c := c) (by simpa using C.here) ?_
  simp [jvm, wpRun, exec, C.here.top, ↓top_set C.here.top, C.exec, C.bytes, hd, e']
  exact a
theorem j_goto (pc : Nat) (C : BodyLooseOv p S cc nL ret e s m args below meth c s1) (tgt : Nat) {off : Int} (hd : decode cc pc = .ok (.goto off, 3)) (ht : (pc : Int) + off = (tgt : Int)) (k : z_J p e below s1 m Q nL tgt lv st) : z_J p e below s1 m Q nL pc lv st := fun ls h => by
  obtain ⟨t, a, b⟩ := k ls h
  refine ⟨t, ?_, b⟩
  refine Steps.instrAtOv (c := c) (by simpa using C.here) ?_
  simp [jvm, wpRun, exec, C.here.top, C.exec, C.bytes, hd, ht]
  exact a
theorem j_if_eq (pc : Nat) (C : BodyLooseOv p S cc nL ret e s m args below meth c s1) {x : Int32} (tgt : Nat) {off : Int} (hd : decode cc pc = .ok (.ifCond .eq off, 3)) (ht : (pc : Int) + off = (tgt : Int)) (kt : (x = 0) → z_J p e below s1 m Q nL tgt lv st) (kf : ¬ (x = 0) → z_J p e below s1 m Q nL (pc + 3) lv st) : z_J p e below s1 m Q nL pc lv (.int x :: st) := fun ls h => by
  by_cases hP : (x = 0)
  · obtain ⟨t, a, b⟩ := kt hP ls h
    refine ⟨t, ?_, b⟩
    refine Steps.instrAtOv (c := c) (by simpa using C.here) ?_
    simp [jvm, wpRun, exec, C.here.top, C.exec, C.bytes, hd, ht, Op.ifCond.holds, hP]
    exact a
  · obtain ⟨t, a, b⟩ := kf hP ls h
    refine ⟨t, ?_, b⟩
    refine Steps.instrAtOv (c := c) (by simpa using C.here) ?_
    simp [jvm, wpRun, exec, C.here.top, C.exec, C.bytes, hd, Op.ifCond.holds, hP]
    exact a
theorem j_if_lt (pc : Nat) (C : BodyLooseOv p S cc nL ret e s m args below meth c s1) {x : Int32} (tgt : Nat) {off : Int} (hd : decode cc pc = .ok (.ifCond .lt off, 3)) (ht : (pc : Int) + off = (tgt : Int)) (kt : (x < 0) → z_J p e below s1 m Q nL tgt lv st) (kf : ¬ (x < 0) → z_J p e below s1 m Q nL (pc + 3) lv st) : z_J p e below s1 m Q nL pc lv (.int x :: st) := fun ls h => by
  by_cases hP : (x < 0)
  · obtain ⟨t, a, b⟩ := kt hP ls h
    refine ⟨t, ?_, b⟩
    refine Steps.instrAtOv (c := c) (by simpa using C.here) ?_
    simp [jvm, wpRun, exec, C.here.top, C.exec, C.bytes, hd, ht, Op.ifCond.holds, hP]
    exact a
  · obtain ⟨t, a, b⟩ := kf hP ls h
    refine ⟨t, ?_, b⟩
    refine Steps.instrAtOv (c := c) (by simpa using C.here) ?_
    simp [jvm, wpRun, exec, C.here.top, C.exec, C.bytes, hd, Op.ifCond.holds, hP]
    exact a
theorem j_if_ge (pc : Nat) (C : BodyLooseOv p S cc nL ret e s m args below meth c s1) {x : Int32} (tgt : Nat) {off : Int} (hd : decode cc pc = .ok (.ifCond .ge off, 3)) (ht : (pc : Int) + off = (tgt : Int)) (kt : (0 ≤ x) → z_J p e below s1 m Q nL tgt lv st) (kf : ¬ (0 ≤ x) → z_J p e below s1 m Q nL (pc + 3) lv st) : z_J p e below s1 m Q nL pc lv (.int x :: st) := fun ls h => by
  by_cases hP : (0 ≤ x)
  · obtain ⟨t, a, b⟩ := kt hP ls h
    refine ⟨t, ?_, b⟩
    refine Steps.instrAtOv (c := c) (by simpa using C.here) ?_
    simp [jvm, wpRun, exec, C.here.top, C.exec, C.bytes, hd, ht, Op.ifCond.holds, hP]
    exact a
  · obtain ⟨t, a, b⟩ := kf hP ls h
    refine ⟨t, ?_, b⟩
    refine Steps.instrAtOv (c := c) (by simpa using C.here) ?_
    simp [jvm, wpRun, exec, C.here.top, C.exec, C.bytes, hd, Op.ifCond.holds, hP]
    exact a
theorem j_if_gt (pc : Nat) (C : BodyLooseOv p S cc nL ret e s m args below meth c s1) {x : Int32} (tgt : Nat) {off : Int} (hd : decode cc pc = .ok (.ifCond .gt off, 3)) (ht : (pc : Int) + off = (tgt : Int)) (kt : (0 < x) → z_J p e below s1 m Q nL tgt lv st) (kf : ¬ (0 < x) → z_J p e below s1 m Q nL (pc + 3) lv st) : z_J p e below s1 m Q nL pc lv (.int x :: st) := fun ls h => by
  by_cases hP : (0 < x)
  · obtain ⟨t, a, b⟩ := kt hP ls h
    refine ⟨t, ?_, b⟩
    refine Steps.instrAtOv (c := c) (by simpa using C.here) ?_
    simp [jvm, wpRun, exec, C.here.top, C.exec, C.bytes, hd, ht, Op.ifCond.holds, hP]
    exact a
  · obtain ⟨t, a, b⟩ := kf hP ls h
    refine ⟨t, ?_, b⟩
    refine Steps.instrAtOv (c := c) (by simpa using C.here) ?_
    simp [jvm, wpRun, exec, C.here.top, C.exec, C.bytes, hd, Op.ifCond.holds, hP]
    exact a
theorem j_if_le (pc : Nat) (C : BodyLooseOv p S cc nL ret e s m args below meth c s1) {x : Int32} (tgt : Nat) {off : Int} (hd : decode cc pc = .ok (.ifCond .le off, 3)) (ht : (pc : Int) + off = (tgt : Int)) (kt : (x ≤ 0) → z_J p e below s1 m Q nL tgt lv st) (kf : ¬ (x ≤ 0) → z_J p e below s1 m Q nL (pc + 3) lv st) : z_J p e below s1 m Q nL pc lv (.int x :: st) := fun ls h => by
  by_cases hP : (x ≤ 0)
  · obtain ⟨t, a, b⟩ := kt hP ls h
    refine ⟨t, ?_, b⟩
    refine Steps.instrAtOv (c := c) (by simpa using C.here) ?_
    simp [jvm, wpRun, exec, C.here.top, C.exec, C.bytes, hd, ht, Op.ifCond.holds, hP]
    exact a
  · obtain ⟨t, a, b⟩ := kf hP ls h
    refine ⟨t, ?_, b⟩
    refine Steps.instrAtOv (c := c) (by simpa using C.here) ?_
    simp [jvm, wpRun, exec, C.here.top, C.exec, C.bytes, hd, Op.ifCond.holds, hP]
    exact a
theorem j_icmp_eq (pc : Nat) (C : BodyLooseOv p S cc nL ret e s m args below meth c s1) {x y : Int32} (tgt : Nat) {off : Int} (hd : decode cc pc = .ok (.if_icmp .eq off, 3)) (ht : (pc : Int) + off = (tgt : Int)) (kt : (x = y) → z_J p e below s1 m Q nL tgt lv st) (kf : ¬ (x = y) → z_J p e below s1 m Q nL (pc + 3) lv st) : z_J p e below s1 m Q nL pc lv (.int y :: .int x :: st) := fun ls h => by
  by_cases hP : (x = y)
  · obtain ⟨t, a, b⟩ := kt hP ls h
    refine ⟨t, ?_, b⟩
    refine Steps.instrAtOv (c := c) (by simpa using C.here) ?_
    simp [jvm, wpRun, exec, C.here.top, C.exec, C.bytes, hd, ht, Op.if_icmp.holds, hP]
    exact a
  · obtain ⟨t, a, b⟩ := kf hP ls h
    refine ⟨t, ?_, b⟩
    refine Steps.instrAtOv (c := c) (by simpa using C.here) ?_
    simp [jvm, wpRun, exec, C.here.top, C.exec, C.bytes, hd, Op.if_icmp.holds, hP]
    exact a
theorem j_lcmp (pc : Nat) (C : BodyLooseOv p S cc nL ret e s m args below meth c s1) {x y : Int64} (hd : decode cc pc = .ok (.lcmp, 1)) (k : z_J p e below s1 m Q nL (pc + 1) lv (.int (lg_cmp x y) :: st)) : z_J p e below s1 m Q nL pc lv (.long y :: .long x :: st) := fun ls h => by
  obtain ⟨t, a, b⟩ := k ls h
  refine ⟨t, ?_, b⟩
  by_cases h1 : y < x
  · have e1 : lg_cmp x y = 1 := by simp [lg_cmp, h1]
    rw [e1] at a
    refine Steps.instrAtOv (c := c) (by simpa using C.here) ?_
    simp [jvm, wpRun, exec, C.here.top, C.exec, C.bytes, hd, h1]
    exact a
  · by_cases h2 : x = y
    · subst h2
      have e1 : lg_cmp x x = 0 := by simp [lg_cmp]
      rw [e1] at a
      refine Steps.instrAtOv (c := c) (by simpa using C.here) ?_
      simp [jvm, wpRun, exec, C.here.top, C.exec, C.bytes, hd]
      exact a
    · have e1 : lg_cmp x y = -1 := by simp [lg_cmp, h1, h2]
      rw [e1] at a
      refine Steps.instrAtOv (c := c) (by simpa using C.here) ?_
      simp [jvm, wpRun, exec, C.here.top, C.exec, C.bytes, hd, h1, h2]
      exact a
theorem j_lcmp_lt (pc : Nat) (C : BodyLooseOv p S cc nL ret e s m args below meth c s1) {x y : Int64} (tgt : Nat) {off : Int} (hd0 : decode cc pc = .ok (.lcmp, 1)) (hd : decode cc (pc + 1) = .ok (.ifCond .lt off, 3)) (ht : (pc : Int) + 1 + off = (tgt : Int)) (kt : (x < y) → z_J p e below s1 m Q nL tgt lv st) (kf : ¬ (x < y) → z_J p e below s1 m Q nL (pc + 4) lv st) : z_J p e below s1 m Q nL pc lv (.long y :: .long x :: st) := j_lcmp pc C hd0 (j_if_lt (pc + 1) C tgt hd (by rw [← ht]; omega) (fun q => kt ((lg_cmp_lt x y).mp q)) (fun q => kf (fun z => q ((lg_cmp_lt x y).mpr z))))
theorem j_lcmp_ge (pc : Nat) (C : BodyLooseOv p S cc nL ret e s m args below meth c s1) {x y : Int64} (tgt : Nat) {off : Int} (hd0 : decode cc pc = .ok (.lcmp, 1)) (hd : decode cc (pc + 1) = .ok (.ifCond .ge off, 3)) (ht : (pc : Int) + 1 + off = (tgt : Int)) (kt : (y ≤ x) → z_J p e below s1 m Q nL tgt lv st) (kf : ¬ (y ≤ x) → z_J p e below s1 m Q nL (pc + 4) lv st) : z_J p e below s1 m Q nL pc lv (.long y :: .long x :: st) := j_lcmp pc C hd0 (j_if_ge (pc + 1) C tgt hd (by rw [← ht]; omega) (fun q => kt ((lg_cmp_ge x y).mp q)) (fun q => kf (fun z => q ((lg_cmp_ge x y).mpr z))))
theorem j_lcmp_gt (pc : Nat) (C : BodyLooseOv p S cc nL ret e s m args below meth c s1) {x y : Int64} (tgt : Nat) {off : Int} (hd0 : decode cc pc = .ok (.lcmp, 1)) (hd : decode cc (pc + 1) = .ok (.ifCond .gt off, 3)) (ht : (pc : Int) + 1 + off = (tgt : Int)) (kt : (y < x) → z_J p e below s1 m Q nL tgt lv st) (kf : ¬ (y < x) → z_J p e below s1 m Q nL (pc + 4) lv st) : z_J p e below s1 m Q nL pc lv (.long y :: .long x :: st) := j_lcmp pc C hd0 (j_if_gt (pc + 1) C tgt hd (by rw [← ht]; omega) (fun q => kt ((lg_cmp_gt x y).mp q)) (fun q => kf (fun z => q ((lg_cmp_gt x y).mpr z))))
theorem j_lcmp_le (pc : Nat) (C : BodyLooseOv p S cc nL ret e s m args below meth c s1) {x y : Int64} (tgt : Nat) {off : Int} (hd0 : decode cc pc = .ok (.lcmp, 1)) (hd : decode cc (pc + 1) = .ok (.ifCond .le off, 3)) (ht : (pc : Int) + 1 + off = (tgt : Int)) (kt : (x ≤ y) → z_J p e below s1 m Q nL tgt lv st) (kf : ¬ (x ≤ y) → z_J p e below s1 m Q nL (pc + 4) lv st) : z_J p e below s1 m Q nL pc lv (.long y :: .long x :: st) := j_lcmp pc C hd0 (j_if_le (pc + 1) C tgt hd (by rw [← ht]; omega) (fun q => kt ((lg_cmp_le x y).mp q)) (fun q => kf (fun z => q ((lg_cmp_le x y).mpr z))))
theorem j_lcmp_eq (pc : Nat) (C : BodyLooseOv p S cc nL ret e s m args below meth c s1) {x y : Int64} (tgt : Nat) {off : Int} (hd0 : decode cc pc = .ok (.lcmp, 1)) (hd : decode cc (pc + 1) = .ok (.ifCond .eq off, 3)) (ht : (pc : Int) + 1 + off = (tgt : Int)) (kt : (x = y) → z_J p e below s1 m Q nL tgt lv st) (kf : ¬ (x = y) → z_J p e below s1 m Q nL (pc + 4) lv st) : z_J p e below s1 m Q nL pc lv (.long y :: .long x :: st) := j_lcmp pc C hd0 (j_if_eq (pc + 1) C tgt hd (by rw [← ht]; omega) (fun q => kt ((lg_cmp_eq x y).mp q)) (fun q => kf (fun z => q ((lg_cmp_eq x y).mpr z))))
theorem j_sub {pc : Nat} {lv1 : List (Nat × Value)} (ks : List Nat) (h : lv_pick lv ks = lv1) (k : z_J p e below s1 m Q nL pc lv1 st) : z_J p e below s1 m Q nL pc lv st := fun ls h3 => k ls (lv_sub h3 ks h)
theorem j_iret {post : Option Value → z_St → Prop} (pc : Nat) (C : BodyLooseOv p S cc nL (some .int) e s m args below meth c s1) (hP : z_P G σ s.heap) {x : Int32} (hd : decode cc pc = .ok (.ireturn, 1)) (h : post (some (.int x)) σ) : z_J p e below s1 m (z_JQ below args s (fun a st o t => z_QW G post a st o t ∧ ∃ L, FrameEnd st o t L 0 0 ∧ ∀ q ∈ L, z_A G q.base)) nL pc lv [.int x] := fun ls _ => by
  obtain ⟨fs, hfs⟩ := handOver_isSome (s := s1) (some (.int x)) C.hears₁
  have hh : (s1.setFrames fs).heap = s.heap := by rw [C.back]; rfl
  obtain ⟨q, hq, -⟩ := State.frames_cons C.frames
  refine ⟨s1.setFrames fs, ?_, C.here.running, .returned (some (.int x)), C.ended hfs (by intro h; cases h), ⟨⟨_, σ, rfl, h, by rw [hh]; exact hP⟩, by rw [hh]; exact Nat.le_refl _, fun _ _ _ => by rw [hh]⟩, [], ⟨⟨_, rfl⟩, ?_, ?_⟩, fun _ z => by cases z⟩
  · refine Steps.instrAtOv (c := c) (by simpa using C.here) ?_
    simp [jvm, wpRun, exec, C.here.top, C.exec, C.bytes, hd, C.method₁, C.returns, narrow]
    intro acts
    rw [ret_to C.frames₁ C.method₁ C.notSynchronized rfl rfl hfs]
    exact Steps.refl _
  · rw [C.back]; exact State.WarmedH.refl s
  · rw [C.back]; exact (State.sameButNew.refl s hq).setFrames fs C.cur
theorem j_lret {post : Option Value → z_St → Prop} (pc : Nat) (C : BodyLooseOv p S cc nL (some .long) e s m args below meth c s1) (hP : z_P G σ s.heap) {x : Int64} (hd : decode cc pc = .ok (.lreturn, 1)) (h : post (some (.long x)) σ) : z_J p e below s1 m (z_JQ below args s (fun a st o t => z_QW G post a st o t ∧ ∃ L, FrameEnd st o t L 0 0 ∧ ∀ q ∈ L, z_A G q.base)) nL pc lv [.long x] := fun ls _ => by
  obtain ⟨fs, hfs⟩ := handOver_isSome (s := s1) (some (.long x)) C.hears₁
  have hh : (s1.setFrames fs).heap = s.heap := by rw [C.back]; rfl
  obtain ⟨q, hq, -⟩ := State.frames_cons C.frames
  refine ⟨s1.setFrames fs, ?_, C.here.running, .returned (some (.long x)), C.ended hfs (by intro h; cases h), ⟨⟨_, σ, rfl, h, by rw [hh]; exact hP⟩, by rw [hh]; exact Nat.le_refl _, fun _ _ _ => by rw [hh]⟩, [], ⟨⟨_, rfl⟩, ?_, ?_⟩, fun _ z => by cases z⟩
  · refine Steps.instrAtOv (c := c) (by simpa using C.here) ?_
    simp [jvm, wpRun, exec, C.here.top, C.exec, C.bytes, hd, C.method₁, C.returns, narrow]
    intro acts
    rw [ret_to C.frames₁ C.method₁ C.notSynchronized rfl rfl hfs]
    exact Steps.refl _
  · rw [C.back]; exact State.WarmedH.refl s
  · rw [C.back]; exact (State.sameButNew.refl s hq).setFrames fs C.cur
theorem z_Mj.of {l : Launch} {y : MethodName} {n : Nat} {rm : Room} {av : List Value} {post : Option Value → z_St → Prop} (hrow0 : (NativeRow.find? natives y.cls y.name y.desc).isNone = true) (hn : (lg_sl av).length ≤ n)
    (body : ∀ (p : Program) (S : Spec) (e : Env) (s : State) (m : MethodId) (below : List Frame) (meth : Method) (c : Code) (s1 : State), BodyLooseOv p S cc n ret e s m av.toArray below meth c s1 → z_P G σ s.heap → z_J p e below s1 m (z_JQ below av.toArray s (fun a st o t => z_QW G post a st o t ∧ ∃ L, FrameEnd st o t L 0 0 ∧ ∀ q ∈ L, z_A G q.base)) n 0 (lv_args 0 av) []) : z_M l G y cc n ret rm av σ post := by
  unfold z_M Met
  refine z_Mov (fun p => by cases p <;> exact Option.isNone_iff_eq_none.mp hrow0) ?_
  intro p e s m args below meth c s1 B hv
  obtain ⟨rfl, hP, -⟩ := hv
  rw [lg_entry_eq]
  exact body p _ e s m below meth c s1 B hP _ (lv_entry av hn)
end ZJ
end
section
section ZR
variable {p : Program} {l : Launch} {e : Env} {R : Room} {s : State} {m : MethodId} {args : Array Value} {below : List Frame} {meth : Method} {c : Code} {G : z_Gl} {ce sl : Nat} {Q : State → Prop} {nL : Nat} {lv : List (Nat × Value)} {st : List Value} {σ : z_St} {cc : ByteArray} {own : String} {ret : Option FieldType}
theorem z_dup2 (pc : Nat) (C : z_C p s m args meth c G cc nL own ret) {v u : Value} (hd : decode cc pc = .ok (.dup2, 1)) (hc : v.category = 1) (hc2 : u.category = 1) (k : z_V p l e R s m args below meth c G ce sl Q nL (pc + 1) lv (v :: u :: v :: u :: st) σ) : z_V p l e R s m args below meth c G ce sl Q nL pc lv (v :: u :: st) σ := fun H locs ls h1 h2 h3 => lv_dup2_11 C.1 C.2.1 hd hc hc2 (k H locs ls h1 h2 h3)
end ZR
theorem z_ci {a b : Int32} (h : a = b) : some (Value.int a) = some (Value.int b) := by rw [h]
theorem z_cl {a b : Int64} (h : a = b) : some (Value.long a) = some (Value.long b) := by rw [h]
theorem z_nI0 {t : Nat} (h : t < 2 ^ 31) : nI t = 0 ↔ t = 0 := nI_eq (a := t) (b := 0) h (by decide)
theorem z_pm_s {a b : Nat} (ha : a < 2 ^ 30) (hb : b < 2 ^ 30) : z_pm (nI a - nI b) = (a + (24 - b % 24)) % 24 := by
  unfold z_pm
  rw [pk_sub_toInt ha hb]
  omega
theorem z_cf_1 {z : Nat → Int64} {t h : Nat} (q : h = 0 ∨ h = 12) : z_fd (z_sm z t h 24) 24000000 = z_cf z t h := by unfold z_cf z_dv; rw [if_pos q]
theorem z_cf_2 {z : Nat → Int64} {t h : Nat} (q1 : ¬ h = 0) (q2 : ¬ h = 12) : z_fd (z_sm z t h 24) 12000000 = z_cf z t h := by unfold z_cf z_dv; rw [if_neg (by omega)]
theorem z_ab_1 {x : Int64} (h : 0 ≤ x) : x = z_ab x := by unfold z_ab; rw [if_neg (Int64.not_lt.mpr h)]
theorem z_ab_2 {x : Int64} (h : ¬ 0 ≤ x) : -x = z_ab x := by unfold z_ab; rw [if_pos (Int64.not_le.mp h)]
theorem z_mix (σ : z_St) (q : Nat) (A B f : Nat → Int64) : z_uL σ q (z_fil A (z_fil B f 24) 24) = z_uL σ q (z_fil A f 24) := by
  congr 1
  funext j
  by_cases h : j < 24
  · rw [z_fil_lt h, z_fil_lt h]
  · rw [z_fil_ge (Nat.not_lt.mp h), z_fil_ge (Nat.not_lt.mp h), z_fil_ge (Nat.not_lt.mp h)]
abbrev z_eq24 (f g : Nat → Int64) : Prop := ∀ j, j < 24 → f j = g j
def z_cla (x : Int64) (m : Int32) : Int32 := if m.toInt64 < x then m else if x < (-m).toInt64 then -m else x.toInt32
theorem dJ9_floorMod_7cf53_0 : decode cJ9_floorMod_7cf53 0 = .ok (.iload_n 0, 1) := by decide +kernel
theorem dJ9_floorMod_7cf53_1 : decode cJ9_floorMod_7cf53 1 = .ok (.iload_n 1, 1) := by decide +kernel
theorem dJ9_floorMod_7cf53_2 : decode cJ9_floorMod_7cf53 2 = .ok (.irem, 1) := by decide +kernel
theorem dJ9_floorMod_7cf53_3 : decode cJ9_floorMod_7cf53 3 = .ok (.istore_n 2, 1) := by decide +kernel
theorem dJ9_floorMod_7cf53_4 : decode cJ9_floorMod_7cf53 4 = .ok (.iload_n 0, 1) := by decide +kernel
theorem dJ9_floorMod_7cf53_5 : decode cJ9_floorMod_7cf53 5 = .ok (.iload_n 1, 1) := by decide +kernel
theorem dJ9_floorMod_7cf53_6 : decode cJ9_floorMod_7cf53 6 = .ok (.ixor, 1) := by decide +kernel
theorem dJ9_floorMod_7cf53_7 : decode cJ9_floorMod_7cf53 7 = .ok (.ifCond .ge 11, 3) := by decide +kernel
theorem dJ9_floorMod_7cf53_10 : decode cJ9_floorMod_7cf53 10 = .ok (.iload_n 2, 1) := by decide +kernel
theorem dJ9_floorMod_7cf53_11 : decode cJ9_floorMod_7cf53 11 = .ok (.ifCond .eq 7, 3) := by decide +kernel
theorem dJ9_floorMod_7cf53_14 : decode cJ9_floorMod_7cf53 14 = .ok (.iload_n 2, 1) := by decide +kernel
theorem dJ9_floorMod_7cf53_15 : decode cJ9_floorMod_7cf53 15 = .ok (.iload_n 1, 1) := by decide +kernel
theorem dJ9_floorMod_7cf53_16 : decode cJ9_floorMod_7cf53 16 = .ok (.iadd, 1) := by decide +kernel
theorem dJ9_floorMod_7cf53_17 : decode cJ9_floorMod_7cf53 17 = .ok (.ireturn, 1) := by decide +kernel
theorem dJ9_floorMod_7cf53_18 : decode cJ9_floorMod_7cf53 18 = .ok (.iload_n 2, 1) := by decide +kernel
theorem dJ9_floorMod_7cf53_19 : decode cJ9_floorMod_7cf53 19 = .ok (.ireturn, 1) := by decide +kernel
set_option maxRecDepth 100000 in
set_option maxHeartbeats 4000000 in
theorem m_J9_floorMod_7cf53 {l : Launch} {G : z_Gl} {σ : z_St} (x : Int32) : z_M l G yJ9_floorMod_7cf53 cJ9_floorMod_7cf53 3 (some .int) (z_rm 0 0) [.int x, .int (nI 24)] σ (z_p1 (.int (nI (z_pm x))) σ) := by
  refine z_Mj.of (by decide +kernel) (Nat.le_of_ble_eq_true rfl) (fun p S e s m below meth c s1 C hP => ?_)
  refine j_sub [0, 1] (lv1 := [(0, .int x), (1, .int (nI 24))]) rfl ?_
  refine j_iload_n 0 C dJ9_floorMod_7cf53_0 0 rfl ?_
  refine j_iload_n 1 C dJ9_floorMod_7cf53_1 1 rfl ?_
  refine j_irem 2 C dJ9_floorMod_7cf53_2 (by decide) ?_
  refine j_istore_n 3 C dJ9_floorMod_7cf53_3 [(2, .int (x - x / (nI 24) * (nI 24))), (0, .int x), (1, .int (nI 24))] (by decide) rfl ?_
  refine j_iload_n 4 C dJ9_floorMod_7cf53_4 1 rfl ?_
  refine j_iload_n 5 C dJ9_floorMod_7cf53_5 2 rfl ?_
  refine j_ixor 6 C dJ9_floorMod_7cf53_6 ?_
  refine j_if_ge 7 C 18 dJ9_floorMod_7cf53_7 (by decide) (fun c7 => ?_) (fun c7 => ?_)
  · skip
    refine j_iload_n 18 C dJ9_floorMod_7cf53_18 0 rfl ?_
    refine j_iret 19 C hP dJ9_floorMod_7cf53_19 ?_
    first | exact ⟨z_ci (z_fm_1 c7), rfl⟩ | exact ⟨z_ci (z_fm_2 c7 c11), rfl⟩
  · skip
    refine j_iload_n 10 C dJ9_floorMod_7cf53_10 0 rfl ?_
    refine j_if_eq 11 C 18 dJ9_floorMod_7cf53_11 (by decide) (fun c11 => ?_) (fun c11 => ?_)
    · skip
      refine j_iload_n 18 C dJ9_floorMod_7cf53_18 0 rfl ?_
      refine j_iret 19 C hP dJ9_floorMod_7cf53_19 ?_
      first | exact ⟨z_ci (z_fm_1 c7), rfl⟩ | exact ⟨z_ci (z_fm_2 c7 c11), rfl⟩
    · skip
      refine j_iload_n 14 C dJ9_floorMod_7cf53_14 0 rfl ?_
      refine j_iload_n 15 C dJ9_floorMod_7cf53_15 2 rfl ?_
      refine j_iadd 16 C dJ9_floorMod_7cf53_16 ?_
      refine j_iret 17 C hP dJ9_floorMod_7cf53_17 ?_
      exact ⟨z_ci (z_fm_3 c7 c11), rfl⟩
theorem dJ9_floorDiv_f86c9_0 : decode cJ9_floorDiv_f86c9 0 = .ok (.lload_n 0, 1) := by decide +kernel
theorem dJ9_floorDiv_f86c9_1 : decode cJ9_floorDiv_f86c9 1 = .ok (.lload_n 2, 1) := by decide +kernel
theorem dJ9_floorDiv_f86c9_2 : decode cJ9_floorDiv_f86c9 2 = .ok (.ldiv, 1) := by decide +kernel
theorem dJ9_floorDiv_f86c9_3 : decode cJ9_floorDiv_f86c9 3 = .ok (.lstore 4, 2) := by decide +kernel
theorem dJ9_floorDiv_f86c9_5 : decode cJ9_floorDiv_f86c9 5 = .ok (.lload_n 0, 1) := by decide +kernel
theorem dJ9_floorDiv_f86c9_6 : decode cJ9_floorDiv_f86c9 6 = .ok (.lload_n 2, 1) := by decide +kernel
theorem dJ9_floorDiv_f86c9_7 : decode cJ9_floorDiv_f86c9 7 = .ok (.lxor, 1) := by decide +kernel
theorem dJ9_floorDiv_f86c9_8 : decode cJ9_floorDiv_f86c9 8 = .ok (.lconst 0, 1) := by decide +kernel
theorem dJ9_floorDiv_f86c9_9 : decode cJ9_floorDiv_f86c9 9 = .ok (.lcmp, 1) := by decide +kernel
theorem dJ9_floorDiv_f86c9_10 : decode cJ9_floorDiv_f86c9 10 = .ok (.ifCond .ge 17, 3) := by decide +kernel
theorem dJ9_floorDiv_f86c9_13 : decode cJ9_floorDiv_f86c9 13 = .ok (.lload 4, 2) := by decide +kernel
theorem dJ9_floorDiv_f86c9_15 : decode cJ9_floorDiv_f86c9 15 = .ok (.lload_n 2, 1) := by decide +kernel
theorem dJ9_floorDiv_f86c9_16 : decode cJ9_floorDiv_f86c9 16 = .ok (.lmul, 1) := by decide +kernel
theorem dJ9_floorDiv_f86c9_17 : decode cJ9_floorDiv_f86c9 17 = .ok (.lload_n 0, 1) := by decide +kernel
theorem dJ9_floorDiv_f86c9_18 : decode cJ9_floorDiv_f86c9 18 = .ok (.lcmp, 1) := by decide +kernel
theorem dJ9_floorDiv_f86c9_19 : decode cJ9_floorDiv_f86c9 19 = .ok (.ifCond .eq 8, 3) := by decide +kernel
theorem dJ9_floorDiv_f86c9_22 : decode cJ9_floorDiv_f86c9 22 = .ok (.lload 4, 2) := by decide +kernel
theorem dJ9_floorDiv_f86c9_24 : decode cJ9_floorDiv_f86c9 24 = .ok (.lconst 1, 1) := by decide +kernel
theorem dJ9_floorDiv_f86c9_25 : decode cJ9_floorDiv_f86c9 25 = .ok (.lsub, 1) := by decide +kernel
theorem dJ9_floorDiv_f86c9_26 : decode cJ9_floorDiv_f86c9 26 = .ok (.lreturn, 1) := by decide +kernel
theorem dJ9_floorDiv_f86c9_27 : decode cJ9_floorDiv_f86c9 27 = .ok (.lload 4, 2) := by decide +kernel
theorem dJ9_floorDiv_f86c9_29 : decode cJ9_floorDiv_f86c9 29 = .ok (.lreturn, 1) := by decide +kernel
set_option maxRecDepth 100000 in
set_option maxHeartbeats 4000000 in
theorem m_J9_floorDiv_f86c9 {l : Launch} {G : z_Gl} {σ : z_St} (a b : Int64) (hb : 0 < b) : z_M l G yJ9_floorDiv_f86c9 cJ9_floorDiv_f86c9 6 (some .long) (z_rm 0 0) [.long a, .long b] σ (z_p1 (.long (z_fd a b)) σ) := by
  refine z_Mj.of (by decide +kernel) (Nat.le_of_ble_eq_true rfl) (fun p S e s m below meth c s1 C hP => ?_)
  refine j_sub [0, 1] (lv1 := [(0, .long a), (2, .long b)]) rfl ?_
  refine j_lload_n 0 C dJ9_floorDiv_f86c9_0 0 rfl ?_
  refine j_lload_n 1 C dJ9_floorDiv_f86c9_1 1 rfl ?_
  refine j_ldiv 2 C dJ9_floorDiv_f86c9_2 (fun z => absurd hb (by rw [z]; decide)) ?_
  refine j_lstore 3 C dJ9_floorDiv_f86c9_3 [(4, .long (a / b)), (0, .long a), (2, .long b)] (by decide) rfl ?_
  refine j_lload_n 5 C dJ9_floorDiv_f86c9_5 1 rfl ?_
  refine j_lload_n 6 C dJ9_floorDiv_f86c9_6 2 rfl ?_
  refine j_lxor 7 C dJ9_floorDiv_f86c9_7 ?_
  refine j_lconst 8 C dJ9_floorDiv_f86c9_8 0 rfl ?_
  refine j_lcmp_ge 9 C 27 dJ9_floorDiv_f86c9_9 dJ9_floorDiv_f86c9_10 (by decide) (fun c9 => ?_) (fun c9 => ?_)
  · skip
    refine j_lload 27 C dJ9_floorDiv_f86c9_27 0 rfl ?_
    refine j_lret 29 C hP dJ9_floorDiv_f86c9_29 ?_
    first | exact ⟨z_cl (z_fd_1 hb c9), rfl⟩ | exact ⟨z_cl (z_fd_2 hb c9 c18), rfl⟩
  · skip
    refine j_lload 13 C dJ9_floorDiv_f86c9_13 0 rfl ?_
    refine j_lload_n 15 C dJ9_floorDiv_f86c9_15 2 rfl ?_
    refine j_lmul 16 C dJ9_floorDiv_f86c9_16 ?_
    refine j_lload_n 17 C dJ9_floorDiv_f86c9_17 1 rfl ?_
    refine j_lcmp_eq 18 C 27 dJ9_floorDiv_f86c9_18 dJ9_floorDiv_f86c9_19 (by decide) (fun c18 => ?_) (fun c18 => ?_)
    · skip
      refine j_lload 27 C dJ9_floorDiv_f86c9_27 0 rfl ?_
      refine j_lret 29 C hP dJ9_floorDiv_f86c9_29 ?_
      first | exact ⟨z_cl (z_fd_1 hb c9), rfl⟩ | exact ⟨z_cl (z_fd_2 hb c9 c18), rfl⟩
    · skip
      refine j_lload 22 C dJ9_floorDiv_f86c9_22 0 rfl ?_
      refine j_lconst 24 C dJ9_floorDiv_f86c9_24 1 rfl ?_
      refine j_lsub 25 C dJ9_floorDiv_f86c9_25 ?_
      refine j_lret 26 C hP dJ9_floorDiv_f86c9_26 ?_
      exact ⟨z_cl (z_fd_3 hb c9 c18), rfl⟩
theorem dJ9_abs_067f4_0 : decode cJ9_abs_067f4 0 = .ok (.lload_n 0, 1) := by decide +kernel
theorem dJ9_abs_067f4_1 : decode cJ9_abs_067f4 1 = .ok (.lconst 0, 1) := by decide +kernel
theorem dJ9_abs_067f4_2 : decode cJ9_abs_067f4 2 = .ok (.lcmp, 1) := by decide +kernel
theorem dJ9_abs_067f4_3 : decode cJ9_abs_067f4 3 = .ok (.ifCond .ge 8, 3) := by decide +kernel
theorem dJ9_abs_067f4_6 : decode cJ9_abs_067f4 6 = .ok (.lload_n 0, 1) := by decide +kernel
theorem dJ9_abs_067f4_7 : decode cJ9_abs_067f4 7 = .ok (.lneg, 1) := by decide +kernel
theorem dJ9_abs_067f4_8 : decode cJ9_abs_067f4 8 = .ok (.goto 4, 3) := by decide +kernel
theorem dJ9_abs_067f4_11 : decode cJ9_abs_067f4 11 = .ok (.lload_n 0, 1) := by decide +kernel
theorem dJ9_abs_067f4_12 : decode cJ9_abs_067f4 12 = .ok (.lreturn, 1) := by decide +kernel
set_option maxRecDepth 100000 in
set_option maxHeartbeats 4000000 in
theorem m_J9_abs_067f4 {l : Launch} {G : z_Gl} {σ : z_St} (x : Int64) : z_M l G yJ9_abs_067f4 cJ9_abs_067f4 2 (some .long) (z_rm 0 0) [.long x] σ (z_p1 (.long (z_ab x)) σ) := by
  refine z_Mj.of (by decide +kernel) (Nat.le_of_ble_eq_true rfl) (fun p S e s m below meth c s1 C hP => ?_)
  refine j_sub [0] (lv1 := [(0, .long x)]) rfl ?_
  refine j_lload_n 0 C dJ9_abs_067f4_0 0 rfl ?_
  refine j_lconst 1 C dJ9_abs_067f4_1 0 rfl ?_
  refine j_lcmp_ge 2 C 11 dJ9_abs_067f4_2 dJ9_abs_067f4_3 (by decide) (fun c2 => ?_) (fun c2 => ?_)
  · skip
    refine j_lload_n 11 C dJ9_abs_067f4_11 0 rfl ?_
    refine j_lret 12 C hP dJ9_abs_067f4_12 ?_
    first | exact ⟨z_cl (z_ab_1 c2), rfl⟩ | exact ⟨z_cl (z_ab_2 c2), rfl⟩
  · skip
    refine j_lload_n 6 C dJ9_abs_067f4_6 0 rfl ?_
    refine j_lneg 7 C dJ9_abs_067f4_7 ?_
    refine j_goto 8 C 12 dJ9_abs_067f4_8 (by decide) ?_
    refine j_lret 12 C hP dJ9_abs_067f4_12 ?_
    first | exact ⟨z_cl (z_ab_1 c2), rfl⟩ | exact ⟨z_cl (z_ab_2 c2), rfl⟩
theorem dJ9_max_f86c9_0 : decode cJ9_max_f86c9 0 = .ok (.lload_n 0, 1) := by decide +kernel
theorem dJ9_max_f86c9_1 : decode cJ9_max_f86c9 1 = .ok (.lload_n 2, 1) := by decide +kernel
theorem dJ9_max_f86c9_2 : decode cJ9_max_f86c9 2 = .ok (.lcmp, 1) := by decide +kernel
theorem dJ9_max_f86c9_3 : decode cJ9_max_f86c9 3 = .ok (.ifCond .lt 7, 3) := by decide +kernel
theorem dJ9_max_f86c9_6 : decode cJ9_max_f86c9 6 = .ok (.lload_n 0, 1) := by decide +kernel
theorem dJ9_max_f86c9_7 : decode cJ9_max_f86c9 7 = .ok (.goto 4, 3) := by decide +kernel
theorem dJ9_max_f86c9_10 : decode cJ9_max_f86c9 10 = .ok (.lload_n 2, 1) := by decide +kernel
theorem dJ9_max_f86c9_11 : decode cJ9_max_f86c9 11 = .ok (.lreturn, 1) := by decide +kernel
set_option maxRecDepth 100000 in
set_option maxHeartbeats 4000000 in
theorem m_J9_max_f86c9 {l : Launch} {G : z_Gl} {σ : z_St} (a b : Int64) : z_M l G yJ9_max_f86c9 cJ9_max_f86c9 4 (some .long) (z_rm 0 0) [.long a, .long b] σ (z_p1 (.long (z_mx a b)) σ) := by
  refine z_Mj.of (by decide +kernel) (Nat.le_of_ble_eq_true rfl) (fun p S e s m below meth c s1 C hP => ?_)
  refine j_sub [0, 1] (lv1 := [(0, .long a), (2, .long b)]) rfl ?_
  refine j_lload_n 0 C dJ9_max_f86c9_0 0 rfl ?_
  refine j_lload_n 1 C dJ9_max_f86c9_1 1 rfl ?_
  refine j_lcmp_lt 2 C 10 dJ9_max_f86c9_2 dJ9_max_f86c9_3 (by decide) (fun c2 => ?_) (fun c2 => ?_)
  · skip
    refine j_lload_n 10 C dJ9_max_f86c9_10 1 rfl ?_
    refine j_lret 11 C hP dJ9_max_f86c9_11 ?_
    first | exact ⟨z_cl (if_pos c2).symm, rfl⟩ | exact ⟨z_cl (if_neg c2).symm, rfl⟩
  · skip
    refine j_lload_n 6 C dJ9_max_f86c9_6 0 rfl ?_
    refine j_goto 7 C 11 dJ9_max_f86c9_7 (by decide) ?_
    refine j_lret 11 C hP dJ9_max_f86c9_11 ?_
    first | exact ⟨z_cl (if_pos c2).symm, rfl⟩ | exact ⟨z_cl (if_neg c2).symm, rfl⟩
theorem dJ9_min_f86c9_0 : decode cJ9_min_f86c9 0 = .ok (.lload_n 0, 1) := by decide +kernel
theorem dJ9_min_f86c9_1 : decode cJ9_min_f86c9 1 = .ok (.lload_n 2, 1) := by decide +kernel
theorem dJ9_min_f86c9_2 : decode cJ9_min_f86c9 2 = .ok (.lcmp, 1) := by decide +kernel
theorem dJ9_min_f86c9_3 : decode cJ9_min_f86c9 3 = .ok (.ifCond .gt 7, 3) := by decide +kernel
theorem dJ9_min_f86c9_6 : decode cJ9_min_f86c9 6 = .ok (.lload_n 0, 1) := by decide +kernel
theorem dJ9_min_f86c9_7 : decode cJ9_min_f86c9 7 = .ok (.goto 4, 3) := by decide +kernel
theorem dJ9_min_f86c9_10 : decode cJ9_min_f86c9 10 = .ok (.lload_n 2, 1) := by decide +kernel
theorem dJ9_min_f86c9_11 : decode cJ9_min_f86c9 11 = .ok (.lreturn, 1) := by decide +kernel
set_option maxRecDepth 100000 in
set_option maxHeartbeats 4000000 in
theorem m_J9_min_f86c9 {l : Launch} {G : z_Gl} {σ : z_St} (a b : Int64) : z_M l G yJ9_min_f86c9 cJ9_min_f86c9 4 (some .long) (z_rm 0 0) [.long a, .long b] σ (z_p1 (.long (z_mn a b)) σ) := by
  refine z_Mj.of (by decide +kernel) (Nat.le_of_ble_eq_true rfl) (fun p S e s m below meth c s1 C hP => ?_)
  refine j_sub [0, 1] (lv1 := [(0, .long a), (2, .long b)]) rfl ?_
  refine j_lload_n 0 C dJ9_min_f86c9_0 0 rfl ?_
  refine j_lload_n 1 C dJ9_min_f86c9_1 1 rfl ?_
  refine j_lcmp_gt 2 C 10 dJ9_min_f86c9_2 dJ9_min_f86c9_3 (by decide) (fun c2 => ?_) (fun c2 => ?_)
  · skip
    refine j_lload_n 10 C dJ9_min_f86c9_10 1 rfl ?_
    refine j_lret 11 C hP dJ9_min_f86c9_11 ?_
    first | exact ⟨z_cl (if_pos c2).symm, rfl⟩ | exact ⟨z_cl (if_neg c2).symm, rfl⟩
  · skip
    refine j_lload_n 6 C dJ9_min_f86c9_6 0 rfl ?_
    refine j_goto 7 C 11 dJ9_min_f86c9_7 (by decide) ?_
    refine j_lret 11 C hP dJ9_min_f86c9_11 ?_
    first | exact ⟨z_cl (if_pos c2).symm, rfl⟩ | exact ⟨z_cl (if_neg c2).symm, rfl⟩
theorem dX7_isOutside_0 : decode cX7_isOutside 0 = .ok (.iload_n 0, 1) := by decide +kernel
theorem dX7_isOutside_1 : decode cX7_isOutside 1 = .ok (.iload_n 1, 1) := by decide +kernel
theorem dX7_isOutside_2 : decode cX7_isOutside 2 = .ok (.if_icmp .lt 8, 3) := by decide +kernel
theorem dX7_isOutside_5 : decode cX7_isOutside 5 = .ok (.iload_n 0, 1) := by decide +kernel
theorem dX7_isOutside_6 : decode cX7_isOutside 6 = .ok (.iload_n 2, 1) := by decide +kernel
theorem dX7_isOutside_7 : decode cX7_isOutside 7 = .ok (.if_icmp .le 7, 3) := by decide +kernel
theorem dX7_isOutside_10 : decode cX7_isOutside 10 = .ok (.iconst 1, 1) := by decide +kernel
theorem dX7_isOutside_11 : decode cX7_isOutside 11 = .ok (.goto 4, 3) := by decide +kernel
theorem dX7_isOutside_14 : decode cX7_isOutside 14 = .ok (.iconst 0, 1) := by decide +kernel
theorem dX7_isOutside_15 : decode cX7_isOutside 15 = .ok (.ireturn, 1) := by decide +kernel
set_option maxRecDepth 100000 in
set_option maxHeartbeats 4000000 in
theorem m_X7_isOutside {l : Launch} {G : z_Gl} {σ : z_St} (x a b : Int32) : z_M l G yX7_isOutside cX7_isOutside 3 (some .boolean) (z_rm 0 0) [.int x, .int a, .int b] σ (z_p1 (.int (z_bo (x < a ∨ b < x))) σ) := by
  refine z_M.of (by decide) (Nat.le_of_ble_eq_true rfl) (fun p e s m below meth c C => ?_)
  refine z_sub [0, 1, 2] (lv1 := [(0, .int x), (1, .int a), (2, .int b)]) rfl ?_
  refine z_iload_n 0 C dX7_isOutside_0 0 rfl ?_
  refine z_iload_n 1 C dX7_isOutside_1 1 rfl ?_
  refine z_icmp_lt 2 C 10 dX7_isOutside_2 (by decide) (fun c2 => ?_) (fun c2 => ?_)
  · skip
    refine z_iconst 10 C dX7_isOutside_10 (nI 1) rfl ?_
    refine z_goto 11 C 15 dX7_isOutside_11 (by decide) ?_
    refine z_zret 15 C (rfl) dX7_isOutside_15 ?_
    first | exact ⟨z_ci (z_bo_t (Or.inl c2)), rfl⟩ | exact ⟨z_ci (z_bo_f (fun z => z.elim c2 (Int32.not_lt.mpr c7))), rfl⟩ | exact ⟨z_ci (z_bo_t (Or.inr (Int32.not_le.mp c7))), rfl⟩
  · skip
    refine z_iload_n 5 C dX7_isOutside_5 0 rfl ?_
    refine z_iload_n 6 C dX7_isOutside_6 2 rfl ?_
    refine z_icmp_le 7 C 14 dX7_isOutside_7 (by decide) (fun c7 => ?_) (fun c7 => ?_)
    · skip
      refine z_iconst 14 C dX7_isOutside_14 (nI 0) rfl ?_
      refine z_zret 15 C (rfl) dX7_isOutside_15 ?_
      first | exact ⟨z_ci (z_bo_t (Or.inl c2)), rfl⟩ | exact ⟨z_ci (z_bo_f (fun z => z.elim c2 (Int32.not_lt.mpr c7))), rfl⟩ | exact ⟨z_ci (z_bo_t (Or.inr (Int32.not_le.mp c7))), rfl⟩
    · skip
      refine z_iconst 10 C dX7_isOutside_10 (nI 1) rfl ?_
      refine z_goto 11 C 15 dX7_isOutside_11 (by decide) ?_
      refine z_zret 15 C (rfl) dX7_isOutside_15 ?_
      first | exact ⟨z_ci (z_bo_t (Or.inl c2)), rfl⟩ | exact ⟨z_ci (z_bo_f (fun z => z.elim c2 (Int32.not_lt.mpr c7))), rfl⟩ | exact ⟨z_ci (z_bo_t (Or.inr (Int32.not_le.mp c7))), rfl⟩
theorem dX7_isNoPosition_0 : decode cX7_isNoPosition 0 = .ok (.iload_n 0, 1) := by decide +kernel
theorem dX7_isNoPosition_1 : decode cX7_isNoPosition 1 = .ok (.iconst 0, 1) := by decide +kernel
theorem dX7_isNoPosition_2 : decode cX7_isNoPosition 2 = .ok (.bipush 23, 2) := by decide +kernel
theorem dX7_isNoPosition_4 : decode cX7_isNoPosition 4 = .ok (.invokestatic 77, 3) := by decide +kernel
theorem dX7_isNoPosition_7 : decode cX7_isNoPosition 7 = .ok (.ireturn, 1) := by decide +kernel
set_option maxRecDepth 100000 in
set_option maxHeartbeats 4000000 in
theorem m_X7_isNoPosition {l : Launch} {G : z_Gl} {σ : z_St} (x : Int32) : z_M l G yX7_isNoPosition cX7_isNoPosition 1 (some .boolean) (z_rm 1 22) [.int x] σ (z_p1 (.int (z_bo (x < nI 0 ∨ nI 23 < x))) σ) := by
  refine z_M.of (by decide) (Nat.le_of_ble_eq_true rfl) (fun p e s m below meth c C => ?_)
  refine z_sub [0] (lv1 := [(0, .int x)]) rfl ?_
  refine z_iload_n 0 C dX7_isNoPosition_0 0 rfl ?_
  refine z_iconst 1 C dX7_isNoPosition_1 (nI 0) rfl ?_
  refine z_bipush 2 C dX7_isNoPosition_2 (nI 23) rfl ?_
  refine z_callS 4 C (As := [.int x, .int (nI 0), .int (nI 23)]) (rest := []) (m_X7_isOutside x (nI 0) (nI 23)) k_X7_isOutside q380 ⟨rfl, rfl⟩ ⟨Nat.le_of_ble_eq_true rfl, Nat.le_of_ble_eq_true rfl⟩ rfl (Nat.le_of_ble_eq_true rfl) ⟨Nat.le_of_ble_eq_true rfl, Nat.le_of_ble_eq_true rfl⟩ rfl dX7_isNoPosition_4 (z_k1 ?_)
  refine z_zret 7 C (z_bo_nar) dX7_isNoPosition_7 ?_
  exact ⟨rfl, rfl⟩
theorem dX7_isNoMethod_0 : decode cX7_isNoMethod 0 = .ok (.iload_n 0, 1) := by decide +kernel
theorem dX7_isNoMethod_1 : decode cX7_isNoMethod 1 = .ok (.iconst 0, 1) := by decide +kernel
theorem dX7_isNoMethod_2 : decode cX7_isNoMethod 2 = .ok (.iconst 3, 1) := by decide +kernel
theorem dX7_isNoMethod_3 : decode cX7_isNoMethod 3 = .ok (.invokestatic 77, 3) := by decide +kernel
theorem dX7_isNoMethod_6 : decode cX7_isNoMethod 6 = .ok (.ireturn, 1) := by decide +kernel
set_option maxRecDepth 100000 in
set_option maxHeartbeats 4000000 in
theorem m_X7_isNoMethod {l : Launch} {G : z_Gl} {σ : z_St} (x : Int32) : z_M l G yX7_isNoMethod cX7_isNoMethod 1 (some .boolean) (z_rm 1 22) [.int x] σ (z_p1 (.int (z_bo (x < nI 0 ∨ nI 3 < x))) σ) := by
  refine z_M.of (by decide) (Nat.le_of_ble_eq_true rfl) (fun p e s m below meth c C => ?_)
  refine z_sub [0] (lv1 := [(0, .int x)]) rfl ?_
  refine z_iload_n 0 C dX7_isNoMethod_0 0 rfl ?_
  refine z_iconst 1 C dX7_isNoMethod_1 (nI 0) rfl ?_
  refine z_iconst 2 C dX7_isNoMethod_2 (nI 3) rfl ?_
  refine z_callS 3 C (As := [.int x, .int (nI 0), .int (nI 3)]) (rest := []) (m_X7_isOutside x (nI 0) (nI 3)) k_X7_isOutside q380 ⟨rfl, rfl⟩ ⟨Nat.le_of_ble_eq_true rfl, Nat.le_of_ble_eq_true rfl⟩ rfl (Nat.le_of_ble_eq_true rfl) ⟨Nat.le_of_ble_eq_true rfl, Nat.le_of_ble_eq_true rfl⟩ rfl dX7_isNoMethod_3 (z_k1 ?_)
  refine z_zret 6 C (z_bo_nar) dX7_isNoMethod_6 ?_
  exact ⟨rfl, rfl⟩
theorem dX7_isNoRange_0 : decode cX7_isNoRange 0 = .ok (.iload_n 0, 1) := by decide +kernel
theorem dX7_isNoRange_1 : decode cX7_isNoRange 1 = .ok (.ifCond .lt 14, 3) := by decide +kernel
theorem dX7_isNoRange_4 : decode cX7_isNoRange 4 = .ok (.iload_n 0, 1) := by decide +kernel
theorem dX7_isNoRange_5 : decode cX7_isNoRange 5 = .ok (.iload_n 1, 1) := by decide +kernel
theorem dX7_isNoRange_6 : decode cX7_isNoRange 6 = .ok (.if_icmp .gt 9, 3) := by decide +kernel
theorem dX7_isNoRange_9 : decode cX7_isNoRange 9 = .ok (.iload_n 1, 1) := by decide +kernel
theorem dX7_isNoRange_10 : decode cX7_isNoRange 10 = .ok (.bipush 12, 2) := by decide +kernel
theorem dX7_isNoRange_12 : decode cX7_isNoRange 12 = .ok (.if_icmp .le 7, 3) := by decide +kernel
theorem dX7_isNoRange_15 : decode cX7_isNoRange 15 = .ok (.iconst 1, 1) := by decide +kernel
theorem dX7_isNoRange_16 : decode cX7_isNoRange 16 = .ok (.goto 4, 3) := by decide +kernel
theorem dX7_isNoRange_19 : decode cX7_isNoRange 19 = .ok (.iconst 0, 1) := by decide +kernel
theorem dX7_isNoRange_20 : decode cX7_isNoRange 20 = .ok (.ireturn, 1) := by decide +kernel
set_option maxRecDepth 100000 in
set_option maxHeartbeats 4000000 in
theorem m_X7_isNoRange {l : Launch} {G : z_Gl} {σ : z_St} (a b : Int32) : z_M l G yX7_isNoRange cX7_isNoRange 2 (some .boolean) (z_rm 0 0) [.int a, .int b] σ (z_p1 (.int (z_bo (a < 0 ∨ b < a ∨ nI 12 < b))) σ) := by
  refine z_M.of (by decide) (Nat.le_of_ble_eq_true rfl) (fun p e s m below meth c C => ?_)
  refine z_sub [0, 1] (lv1 := [(0, .int a), (1, .int b)]) rfl ?_
  refine z_iload_n 0 C dX7_isNoRange_0 0 rfl ?_
  refine z_if_lt 1 C 15 dX7_isNoRange_1 (by decide) (fun c1 => ?_) (fun c1 => ?_)
  · skip
    refine z_iconst 15 C dX7_isNoRange_15 (nI 1) rfl ?_
    refine z_goto 16 C 20 dX7_isNoRange_16 (by decide) ?_
    refine z_zret 20 C (rfl) dX7_isNoRange_20 ?_
    first | exact ⟨z_ci (z_bo_t (Or.inl c1)), rfl⟩ | exact ⟨z_ci (z_bo_t (Or.inr (Or.inl c6))), rfl⟩ | exact ⟨z_ci (z_bo_t (Or.inr (Or.inr (Int32.not_le.mp c12)))), rfl⟩ | exact ⟨z_ci (z_bo_f (fun z => z.elim c1 (fun z => z.elim c6 (Int32.not_lt.mpr c12)))), rfl⟩
  · skip
    refine z_iload_n 4 C dX7_isNoRange_4 0 rfl ?_
    refine z_iload_n 5 C dX7_isNoRange_5 1 rfl ?_
    refine z_icmp_gt 6 C 15 dX7_isNoRange_6 (by decide) (fun c6 => ?_) (fun c6 => ?_)
    · skip
      refine z_iconst 15 C dX7_isNoRange_15 (nI 1) rfl ?_
      refine z_goto 16 C 20 dX7_isNoRange_16 (by decide) ?_
      refine z_zret 20 C (rfl) dX7_isNoRange_20 ?_
      first | exact ⟨z_ci (z_bo_t (Or.inl c1)), rfl⟩ | exact ⟨z_ci (z_bo_t (Or.inr (Or.inl c6))), rfl⟩ | exact ⟨z_ci (z_bo_t (Or.inr (Or.inr (Int32.not_le.mp c12)))), rfl⟩ | exact ⟨z_ci (z_bo_f (fun z => z.elim c1 (fun z => z.elim c6 (Int32.not_lt.mpr c12)))), rfl⟩
    · skip
      refine z_iload_n 9 C dX7_isNoRange_9 1 rfl ?_
      refine z_bipush 10 C dX7_isNoRange_10 (nI 12) rfl ?_
      refine z_icmp_le 12 C 19 dX7_isNoRange_12 (by decide) (fun c12 => ?_) (fun c12 => ?_)
      · skip
        refine z_iconst 19 C dX7_isNoRange_19 (nI 0) rfl ?_
        refine z_zret 20 C (rfl) dX7_isNoRange_20 ?_
        first | exact ⟨z_ci (z_bo_t (Or.inl c1)), rfl⟩ | exact ⟨z_ci (z_bo_t (Or.inr (Or.inl c6))), rfl⟩ | exact ⟨z_ci (z_bo_t (Or.inr (Or.inr (Int32.not_le.mp c12)))), rfl⟩ | exact ⟨z_ci (z_bo_f (fun z => z.elim c1 (fun z => z.elim c6 (Int32.not_lt.mpr c12)))), rfl⟩
      · skip
        refine z_iconst 15 C dX7_isNoRange_15 (nI 1) rfl ?_
        refine z_goto 16 C 20 dX7_isNoRange_16 (by decide) ?_
        refine z_zret 20 C (rfl) dX7_isNoRange_20 ?_
        first | exact ⟨z_ci (z_bo_t (Or.inl c1)), rfl⟩ | exact ⟨z_ci (z_bo_t (Or.inr (Or.inl c6))), rfl⟩ | exact ⟨z_ci (z_bo_t (Or.inr (Or.inr (Int32.not_le.mp c12)))), rfl⟩ | exact ⟨z_ci (z_bo_f (fun z => z.elim c1 (fun z => z.elim c6 (Int32.not_lt.mpr c12)))), rfl⟩
theorem dX7_isStepCount_0 : decode cX7_isStepCount 0 = .ok (.iload_n 0, 1) := by decide +kernel
theorem dX7_isStepCount_1 : decode cX7_isStepCount 1 = .ok (.iconst 2, 1) := by decide +kernel
theorem dX7_isStepCount_2 : decode cX7_isStepCount 2 = .ok (.if_icmp .eq 31, 3) := by decide +kernel
theorem dX7_isStepCount_5 : decode cX7_isStepCount 5 = .ok (.iload_n 0, 1) := by decide +kernel
theorem dX7_isStepCount_6 : decode cX7_isStepCount 6 = .ok (.iconst 3, 1) := by decide +kernel
theorem dX7_isStepCount_7 : decode cX7_isStepCount 7 = .ok (.if_icmp .eq 26, 3) := by decide +kernel
theorem dX7_isStepCount_10 : decode cX7_isStepCount 10 = .ok (.iload_n 0, 1) := by decide +kernel
theorem dX7_isStepCount_11 : decode cX7_isStepCount 11 = .ok (.iconst 4, 1) := by decide +kernel
theorem dX7_isStepCount_12 : decode cX7_isStepCount 12 = .ok (.if_icmp .eq 21, 3) := by decide +kernel
theorem dX7_isStepCount_15 : decode cX7_isStepCount 15 = .ok (.iload_n 0, 1) := by decide +kernel
theorem dX7_isStepCount_16 : decode cX7_isStepCount 16 = .ok (.bipush 6, 2) := by decide +kernel
theorem dX7_isStepCount_18 : decode cX7_isStepCount 18 = .ok (.if_icmp .eq 15, 3) := by decide +kernel
theorem dX7_isStepCount_21 : decode cX7_isStepCount 21 = .ok (.iload_n 0, 1) := by decide +kernel
theorem dX7_isStepCount_22 : decode cX7_isStepCount 22 = .ok (.bipush 8, 2) := by decide +kernel
theorem dX7_isStepCount_24 : decode cX7_isStepCount 24 = .ok (.if_icmp .eq 9, 3) := by decide +kernel
theorem dX7_isStepCount_27 : decode cX7_isStepCount 27 = .ok (.iload_n 0, 1) := by decide +kernel
theorem dX7_isStepCount_28 : decode cX7_isStepCount 28 = .ok (.bipush 12, 2) := by decide +kernel
theorem dX7_isStepCount_30 : decode cX7_isStepCount 30 = .ok (.if_icmp .ne 7, 3) := by decide +kernel
theorem dX7_isStepCount_33 : decode cX7_isStepCount 33 = .ok (.iconst 1, 1) := by decide +kernel
theorem dX7_isStepCount_34 : decode cX7_isStepCount 34 = .ok (.goto 4, 3) := by decide +kernel
theorem dX7_isStepCount_37 : decode cX7_isStepCount 37 = .ok (.iconst 0, 1) := by decide +kernel
theorem dX7_isStepCount_38 : decode cX7_isStepCount 38 = .ok (.ireturn, 1) := by decide +kernel
set_option maxRecDepth 100000 in
set_option maxHeartbeats 4000000 in
theorem m_X7_isStepCount {l : Launch} {G : z_Gl} {σ : z_St} (x : Int32) : z_M l G yX7_isStepCount cX7_isStepCount 1 (some .boolean) (z_rm 0 0) [.int x] σ (z_p1 (.int (z_bo (x = nI 2 ∨ x = nI 3 ∨ x = nI 4 ∨ x = nI 6 ∨ x = nI 8 ∨ x = nI 12))) σ) := by
  refine z_M.of (by decide) (Nat.le_of_ble_eq_true rfl) (fun p e s m below meth c C => ?_)
  refine z_sub [0] (lv1 := [(0, .int x)]) rfl ?_
  refine z_iload_n 0 C dX7_isStepCount_0 0 rfl ?_
  refine z_iconst 1 C dX7_isStepCount_1 (nI 2) rfl ?_
  refine z_icmp_eq 2 C 33 dX7_isStepCount_2 (by decide) (fun c2 => ?_) (fun c2 => ?_)
  · skip
    refine z_iconst 33 C dX7_isStepCount_33 (nI 1) rfl ?_
    refine z_goto 34 C 38 dX7_isStepCount_34 (by decide) ?_
    refine z_zret 38 C (rfl) dX7_isStepCount_38 ?_
    first | exact ⟨z_ci (z_bo_t (Or.inl c2)), rfl⟩ | exact ⟨z_ci (z_bo_t (Or.inr (Or.inl c7))), rfl⟩ | exact ⟨z_ci (z_bo_t (Or.inr (Or.inr (Or.inl c12)))), rfl⟩ | exact ⟨z_ci (z_bo_t (Or.inr (Or.inr (Or.inr (Or.inl c18))))), rfl⟩ | exact ⟨z_ci (z_bo_t (Or.inr (Or.inr (Or.inr (Or.inr (Or.inl c24)))))), rfl⟩ | exact ⟨z_ci (z_bo_f (fun z => z.elim c2 (fun z => z.elim c7 (fun z => z.elim c12 (fun z => z.elim c18 (fun z => z.elim c24 c30)))))), rfl⟩ | exact ⟨z_ci (z_bo_t (Or.inr (Or.inr (Or.inr (Or.inr (Or.inr c30)))))), rfl⟩
  · skip
    refine z_iload_n 5 C dX7_isStepCount_5 0 rfl ?_
    refine z_iconst 6 C dX7_isStepCount_6 (nI 3) rfl ?_
    refine z_icmp_eq 7 C 33 dX7_isStepCount_7 (by decide) (fun c7 => ?_) (fun c7 => ?_)
    · skip
      refine z_iconst 33 C dX7_isStepCount_33 (nI 1) rfl ?_
      refine z_goto 34 C 38 dX7_isStepCount_34 (by decide) ?_
      refine z_zret 38 C (rfl) dX7_isStepCount_38 ?_
      first | exact ⟨z_ci (z_bo_t (Or.inl c2)), rfl⟩ | exact ⟨z_ci (z_bo_t (Or.inr (Or.inl c7))), rfl⟩ | exact ⟨z_ci (z_bo_t (Or.inr (Or.inr (Or.inl c12)))), rfl⟩ | exact ⟨z_ci (z_bo_t (Or.inr (Or.inr (Or.inr (Or.inl c18))))), rfl⟩ | exact ⟨z_ci (z_bo_t (Or.inr (Or.inr (Or.inr (Or.inr (Or.inl c24)))))), rfl⟩ | exact ⟨z_ci (z_bo_f (fun z => z.elim c2 (fun z => z.elim c7 (fun z => z.elim c12 (fun z => z.elim c18 (fun z => z.elim c24 c30)))))), rfl⟩ | exact ⟨z_ci (z_bo_t (Or.inr (Or.inr (Or.inr (Or.inr (Or.inr c30)))))), rfl⟩
    · skip
      refine z_iload_n 10 C dX7_isStepCount_10 0 rfl ?_
      refine z_iconst 11 C dX7_isStepCount_11 (nI 4) rfl ?_
      refine z_icmp_eq 12 C 33 dX7_isStepCount_12 (by decide) (fun c12 => ?_) (fun c12 => ?_)
      · skip
        refine z_iconst 33 C dX7_isStepCount_33 (nI 1) rfl ?_
        refine z_goto 34 C 38 dX7_isStepCount_34 (by decide) ?_
        refine z_zret 38 C (rfl) dX7_isStepCount_38 ?_
        first | exact ⟨z_ci (z_bo_t (Or.inl c2)), rfl⟩ | exact ⟨z_ci (z_bo_t (Or.inr (Or.inl c7))), rfl⟩ | exact ⟨z_ci (z_bo_t (Or.inr (Or.inr (Or.inl c12)))), rfl⟩ | exact ⟨z_ci (z_bo_t (Or.inr (Or.inr (Or.inr (Or.inl c18))))), rfl⟩ | exact ⟨z_ci (z_bo_t (Or.inr (Or.inr (Or.inr (Or.inr (Or.inl c24)))))), rfl⟩ | exact ⟨z_ci (z_bo_f (fun z => z.elim c2 (fun z => z.elim c7 (fun z => z.elim c12 (fun z => z.elim c18 (fun z => z.elim c24 c30)))))), rfl⟩ | exact ⟨z_ci (z_bo_t (Or.inr (Or.inr (Or.inr (Or.inr (Or.inr c30)))))), rfl⟩
      · skip
        refine z_iload_n 15 C dX7_isStepCount_15 0 rfl ?_
        refine z_bipush 16 C dX7_isStepCount_16 (nI 6) rfl ?_
        refine z_icmp_eq 18 C 33 dX7_isStepCount_18 (by decide) (fun c18 => ?_) (fun c18 => ?_)
        · skip
          refine z_iconst 33 C dX7_isStepCount_33 (nI 1) rfl ?_
          refine z_goto 34 C 38 dX7_isStepCount_34 (by decide) ?_
          refine z_zret 38 C (rfl) dX7_isStepCount_38 ?_
          first | exact ⟨z_ci (z_bo_t (Or.inl c2)), rfl⟩ | exact ⟨z_ci (z_bo_t (Or.inr (Or.inl c7))), rfl⟩ | exact ⟨z_ci (z_bo_t (Or.inr (Or.inr (Or.inl c12)))), rfl⟩ | exact ⟨z_ci (z_bo_t (Or.inr (Or.inr (Or.inr (Or.inl c18))))), rfl⟩ | exact ⟨z_ci (z_bo_t (Or.inr (Or.inr (Or.inr (Or.inr (Or.inl c24)))))), rfl⟩ | exact ⟨z_ci (z_bo_f (fun z => z.elim c2 (fun z => z.elim c7 (fun z => z.elim c12 (fun z => z.elim c18 (fun z => z.elim c24 c30)))))), rfl⟩ | exact ⟨z_ci (z_bo_t (Or.inr (Or.inr (Or.inr (Or.inr (Or.inr c30)))))), rfl⟩
        · skip
          refine z_iload_n 21 C dX7_isStepCount_21 0 rfl ?_
          refine z_bipush 22 C dX7_isStepCount_22 (nI 8) rfl ?_
          refine z_icmp_eq 24 C 33 dX7_isStepCount_24 (by decide) (fun c24 => ?_) (fun c24 => ?_)
          · skip
            refine z_iconst 33 C dX7_isStepCount_33 (nI 1) rfl ?_
            refine z_goto 34 C 38 dX7_isStepCount_34 (by decide) ?_
            refine z_zret 38 C (rfl) dX7_isStepCount_38 ?_
            first | exact ⟨z_ci (z_bo_t (Or.inl c2)), rfl⟩ | exact ⟨z_ci (z_bo_t (Or.inr (Or.inl c7))), rfl⟩ | exact ⟨z_ci (z_bo_t (Or.inr (Or.inr (Or.inl c12)))), rfl⟩ | exact ⟨z_ci (z_bo_t (Or.inr (Or.inr (Or.inr (Or.inl c18))))), rfl⟩ | exact ⟨z_ci (z_bo_t (Or.inr (Or.inr (Or.inr (Or.inr (Or.inl c24)))))), rfl⟩ | exact ⟨z_ci (z_bo_f (fun z => z.elim c2 (fun z => z.elim c7 (fun z => z.elim c12 (fun z => z.elim c18 (fun z => z.elim c24 c30)))))), rfl⟩ | exact ⟨z_ci (z_bo_t (Or.inr (Or.inr (Or.inr (Or.inr (Or.inr c30)))))), rfl⟩
          · skip
            refine z_iload_n 27 C dX7_isStepCount_27 0 rfl ?_
            refine z_bipush 28 C dX7_isStepCount_28 (nI 12) rfl ?_
            refine z_icmp_ne 30 C 37 dX7_isStepCount_30 (by decide) (fun c30 => ?_) (fun c30 => ?_)
            · skip
              refine z_iconst 37 C dX7_isStepCount_37 (nI 0) rfl ?_
              refine z_zret 38 C (rfl) dX7_isStepCount_38 ?_
              first | exact ⟨z_ci (z_bo_t (Or.inl c2)), rfl⟩ | exact ⟨z_ci (z_bo_t (Or.inr (Or.inl c7))), rfl⟩ | exact ⟨z_ci (z_bo_t (Or.inr (Or.inr (Or.inl c12)))), rfl⟩ | exact ⟨z_ci (z_bo_t (Or.inr (Or.inr (Or.inr (Or.inl c18))))), rfl⟩ | exact ⟨z_ci (z_bo_t (Or.inr (Or.inr (Or.inr (Or.inr (Or.inl c24)))))), rfl⟩ | exact ⟨z_ci (z_bo_f (fun z => z.elim c2 (fun z => z.elim c7 (fun z => z.elim c12 (fun z => z.elim c18 (fun z => z.elim c24 c30)))))), rfl⟩ | exact ⟨z_ci (z_bo_t (Or.inr (Or.inr (Or.inr (Or.inr (Or.inr c30)))))), rfl⟩
            · skip
              refine z_iconst 33 C dX7_isStepCount_33 (nI 1) rfl ?_
              refine z_goto 34 C 38 dX7_isStepCount_34 (by decide) ?_
              refine z_zret 38 C (rfl) dX7_isStepCount_38 ?_
              first | exact ⟨z_ci (z_bo_t (Or.inl c2)), rfl⟩ | exact ⟨z_ci (z_bo_t (Or.inr (Or.inl c7))), rfl⟩ | exact ⟨z_ci (z_bo_t (Or.inr (Or.inr (Or.inl c12)))), rfl⟩ | exact ⟨z_ci (z_bo_t (Or.inr (Or.inr (Or.inr (Or.inl c18))))), rfl⟩ | exact ⟨z_ci (z_bo_t (Or.inr (Or.inr (Or.inr (Or.inr (Or.inl c24)))))), rfl⟩ | exact ⟨z_ci (z_bo_f (fun z => z.elim c2 (fun z => z.elim c7 (fun z => z.elim c12 (fun z => z.elim c18 (fun z => z.elim c24 c30)))))), rfl⟩ | exact ⟨z_ci (z_bo_t (Or.inr (Or.inr (Or.inr (Or.inr (Or.inr c30)))))), rfl⟩
theorem dX7_place_0 : decode cX7_place 0 = .ok (.iload_n 0, 1) := by decide +kernel
theorem dX7_place_1 : decode cX7_place 1 = .ok (.bipush 24, 2) := by decide +kernel
theorem dX7_place_3 : decode cX7_place 3 = .ok (.invokestatic 368, 3) := by decide +kernel
theorem dX7_place_6 : decode cX7_place 6 = .ok (.ireturn, 1) := by decide +kernel
set_option maxRecDepth 100000 in
set_option maxHeartbeats 4000000 in
theorem m_X7_place {l : Launch} {G : z_Gl} {σ : z_St} (x : Int32) : z_M l G yX7_place cX7_place 1 (some .int) (z_rm 1 22) [.int x] σ (z_p1 (.int (nI (z_pm x))) σ) := by
  refine z_M.of (by decide) (Nat.le_of_ble_eq_true rfl) (fun p e s m below meth c C => ?_)
  refine z_sub [0] (lv1 := [(0, .int x)]) rfl ?_
  refine z_iload_n 0 C dX7_place_0 0 rfl ?_
  refine z_bipush 1 C dX7_place_1 (nI 24) rfl ?_
  refine z_callS 3 C (As := [.int x, .int (nI 24)]) (rest := []) (m_J9_floorMod_7cf53 x) k_J9_floorMod_7cf53 q415 ⟨rfl, rfl⟩ ⟨Nat.le_of_ble_eq_true rfl, Nat.le_of_ble_eq_true rfl⟩ rfl (Nat.le_of_ble_eq_true rfl) ⟨Nat.le_of_ble_eq_true rfl, Nat.le_of_ble_eq_true rfl⟩ rfl dX7_place_3 (z_k1 ?_)
  refine z_iret 6 C dX7_place_6 ?_
  exact ⟨rfl, rfl⟩
theorem m_X7_place_n {l : Launch} {G : z_Gl} {σ : z_St} (n : Nat) (hn : n < 2 ^ 31) : z_M l G yX7_place cX7_place 1 (some .int) (z_rm 1 22) [.int (nI n)] σ (z_p1 (.int (nI (n % 24))) σ) := by
  have h := m_X7_place (l := l) (G := G) (σ := σ) (nI n)
  rw [z_pm_n hn] at h
  exact h
theorem m_X7_place_d {l : Launch} {G : z_Gl} {σ : z_St} (a b : Nat) (ha : a < 2 ^ 30) (hb : b < 2 ^ 30) : z_M l G yX7_place cX7_place 1 (some .int) (z_rm 1 22) [.int (nI a - nI b)] σ (z_p1 (.int (nI ((a + (24 - b % 24)) % 24))) σ) := by
  have h := m_X7_place (l := l) (G := G) (σ := σ) (nI a - nI b)
  rw [z_pm_s ha hb] at h
  exact h
theorem dX7_cosine_0 : decode cX7_cosine 0 = .ok (.getstatic 371, 3) := by decide +kernel
theorem dX7_cosine_3 : decode cX7_cosine 3 = .ok (.iload_n 0, 1) := by decide +kernel
theorem dX7_cosine_4 : decode cX7_cosine 4 = .ok (.invokestatic 144, 3) := by decide +kernel
theorem dX7_cosine_7 : decode cX7_cosine 7 = .ok (.iaload, 1) := by decide +kernel
theorem dX7_cosine_8 : decode cX7_cosine 8 = .ok (.ireturn, 1) := by decide +kernel
set_option maxRecDepth 100000 in
set_option maxHeartbeats 4000000 in
theorem m_X7_cosine {l : Launch} {G : z_Gl} {σ : z_St} (x : Int32) : z_M l G yX7_cosine cX7_cosine 1 (some .int) (z_rm 2 42) [.int x] σ (z_p1 (.int (z_tv 0 (z_pm x))) σ) := by
  refine z_M.of (by decide) (Nat.le_of_ble_eq_true rfl) (fun p e s m below meth c C => ?_)
  refine z_sub [0] (lv1 := [(0, .int x)]) rfl ?_
  refine z_gets 0 C 0 (by decide) q421 dX7_cosine_0 ?_
  refine z_iload_n 3 C dX7_cosine_3 0 rfl ?_
  refine z_callS 4 C (As := [.int x]) (rest := [.ref (z_ta G 0)]) (m_X7_place x) k_X7_place q563 ⟨rfl, rfl⟩ ⟨Nat.le_of_ble_eq_true rfl, Nat.le_of_ble_eq_true rfl⟩ rfl (Nat.le_of_ble_eq_true rfl) ⟨Nat.le_of_ble_eq_true rfl, Nat.le_of_ble_eq_true rfl⟩ rfl dX7_cosine_4 (z_k1 ?_)
  refine z_taldN 7 C 0 (by decide) (z_pm x) rfl (show _ < 24 from (z_pm_lt x)) dX7_cosine_7 ?_
  refine z_iret 8 C dX7_cosine_8 ?_
  exact ⟨rfl, rfl⟩
theorem m_X7_cosine_n {l : Launch} {G : z_Gl} {σ : z_St} (n : Nat) (hn : n < 2 ^ 31) : z_M l G yX7_cosine cX7_cosine 1 (some .int) (z_rm 2 42) [.int (nI n)] σ (z_p1 (.int (z_tv 0 (n % 24))) σ) := by
  have h := m_X7_cosine (l := l) (G := G) (σ := σ) (nI n)
  rw [z_pm_n hn] at h
  exact h
theorem dX7_divide_0 : decode cX7_divide 0 = .ok (.lload_n 2, 1) := by decide +kernel
theorem dX7_divide_1 : decode cX7_divide 1 = .ok (.lconst 0, 1) := by decide +kernel
theorem dX7_divide_2 : decode cX7_divide 2 = .ok (.lcmp, 1) := by decide +kernel
theorem dX7_divide_3 : decode cX7_divide 3 = .ok (.ifCond .ne 7, 3) := by decide +kernel
theorem dX7_divide_10 : decode cX7_divide 10 = .ok (.lload_n 0, 1) := by decide +kernel
theorem dX7_divide_11 : decode cX7_divide 11 = .ok (.lload_n 2, 1) := by decide +kernel
theorem dX7_divide_12 : decode cX7_divide 12 = .ok (.invokestatic 374, 3) := by decide +kernel
theorem dX7_divide_15 : decode cX7_divide 15 = .ok (.lreturn, 1) := by decide +kernel
set_option maxRecDepth 100000 in
set_option maxHeartbeats 4000000 in
theorem m_X7_divide {l : Launch} {G : z_Gl} {σ : z_St} (a b : Int64) (hb : 0 < b) : z_M l G yX7_divide cX7_divide 4 (some .long) (z_rm 1 25) [.long a, .long b] σ (z_p1 (.long (z_fd a b)) σ) := by
  refine z_M.of (by decide) (Nat.le_of_ble_eq_true rfl) (fun p e s m below meth c C => ?_)
  refine z_sub [0, 1] (lv1 := [(0, .long a), (2, .long b)]) rfl ?_
  refine z_lload_n 0 C dX7_divide_0 1 rfl ?_
  refine z_lconst 1 C dX7_divide_1 0 rfl ?_
  refine z_lcmp_ne 2 C 10 dX7_divide_2 dX7_divide_3 (by decide) (fun c2 => ?_) (fun c2 => ?_)
  · skip
    refine z_lload_n 10 C dX7_divide_10 0 rfl ?_
    refine z_lload_n 11 C dX7_divide_11 1 rfl ?_
    refine z_callS 12 C (As := [.long a, .long b]) (rest := []) (m_J9_floorDiv_f86c9 a b (hb)) k_J9_floorDiv_f86c9 q426 ⟨rfl, rfl⟩ ⟨Nat.le_of_ble_eq_true rfl, Nat.le_of_ble_eq_true rfl⟩ rfl (Nat.le_of_ble_eq_true rfl) ⟨Nat.le_of_ble_eq_true rfl, Nat.le_of_ble_eq_true rfl⟩ rfl dX7_divide_12 (z_k1 ?_)
    refine z_lret 15 C dX7_divide_15 ?_
    exact ⟨rfl, rfl⟩
  · skip
    exact absurd c2 (fun z => absurd hb (by rw [z]; decide))
theorem dX7_clamp_0 : decode cX7_clamp 0 = .ok (.lload_n 0, 1) := by decide +kernel
theorem dX7_clamp_1 : decode cX7_clamp 1 = .ok (.iload_n 2, 1) := by decide +kernel
theorem dX7_clamp_2 : decode cX7_clamp 2 = .ok (.i2l, 1) := by decide +kernel
theorem dX7_clamp_3 : decode cX7_clamp 3 = .ok (.lcmp, 1) := by decide +kernel
theorem dX7_clamp_4 : decode cX7_clamp 4 = .ok (.ifCond .le 5, 3) := by decide +kernel
theorem dX7_clamp_7 : decode cX7_clamp 7 = .ok (.iload_n 2, 1) := by decide +kernel
theorem dX7_clamp_8 : decode cX7_clamp 8 = .ok (.ireturn, 1) := by decide +kernel
theorem dX7_clamp_9 : decode cX7_clamp 9 = .ok (.lload_n 0, 1) := by decide +kernel
theorem dX7_clamp_10 : decode cX7_clamp 10 = .ok (.iload_n 2, 1) := by decide +kernel
theorem dX7_clamp_11 : decode cX7_clamp 11 = .ok (.ineg, 1) := by decide +kernel
theorem dX7_clamp_12 : decode cX7_clamp 12 = .ok (.i2l, 1) := by decide +kernel
theorem dX7_clamp_13 : decode cX7_clamp 13 = .ok (.lcmp, 1) := by decide +kernel
theorem dX7_clamp_14 : decode cX7_clamp 14 = .ok (.ifCond .ge 8, 3) := by decide +kernel
theorem dX7_clamp_17 : decode cX7_clamp 17 = .ok (.iload_n 2, 1) := by decide +kernel
theorem dX7_clamp_18 : decode cX7_clamp 18 = .ok (.ineg, 1) := by decide +kernel
theorem dX7_clamp_19 : decode cX7_clamp 19 = .ok (.goto 5, 3) := by decide +kernel
theorem dX7_clamp_22 : decode cX7_clamp 22 = .ok (.lload_n 0, 1) := by decide +kernel
theorem dX7_clamp_23 : decode cX7_clamp 23 = .ok (.l2i, 1) := by decide +kernel
theorem dX7_clamp_24 : decode cX7_clamp 24 = .ok (.ireturn, 1) := by decide +kernel
set_option maxRecDepth 100000 in
set_option maxHeartbeats 4000000 in
theorem m_X7_clamp {l : Launch} {G : z_Gl} {σ : z_St} (x : Int64) (b : Int32) : z_M l G yX7_clamp cX7_clamp 3 (some .int) (z_rm 0 0) [.long x, .int b] σ (z_p1 (.int (z_cla x b)) σ) := by
  refine z_M.of (by decide) (Nat.le_of_ble_eq_true rfl) (fun p e s m below meth c C => ?_)
  refine z_sub [0, 1] (lv1 := [(0, .long x), (2, .int b)]) rfl ?_
  refine z_lload_n 0 C dX7_clamp_0 0 rfl ?_
  refine z_iload_n 1 C dX7_clamp_1 1 rfl ?_
  refine z_i2l 2 C dX7_clamp_2 ?_
  refine z_lcmp_le 3 C 9 dX7_clamp_3 dX7_clamp_4 (by decide) (fun c3 => ?_) (fun c3 => ?_)
  · skip
    refine z_lload_n 9 C dX7_clamp_9 0 rfl ?_
    refine z_iload_n 10 C dX7_clamp_10 1 rfl ?_
    refine z_ineg 11 C dX7_clamp_11 ?_
    refine z_i2l 12 C dX7_clamp_12 ?_
    refine z_lcmp_ge 13 C 22 dX7_clamp_13 dX7_clamp_14 (by decide) (fun c13 => ?_) (fun c13 => ?_)
    · skip
      refine z_lload_n 22 C dX7_clamp_22 0 rfl ?_
      refine z_l2i 23 C dX7_clamp_23 ?_
      refine z_iret 24 C dX7_clamp_24 ?_
      first | exact ⟨z_ci (by unfold z_cla; rw [if_neg (Int64.not_lt.mpr c3), if_pos (Int64.not_le.mp c13)]), rfl⟩ | exact ⟨z_ci (by unfold z_cla; rw [if_neg (Int64.not_lt.mpr c3), if_neg (Int64.not_lt.mpr c13)]), rfl⟩
    · skip
      refine z_iload_n 17 C dX7_clamp_17 1 rfl ?_
      refine z_ineg 18 C dX7_clamp_18 ?_
      refine z_goto 19 C 24 dX7_clamp_19 (by decide) ?_
      refine z_iret 24 C dX7_clamp_24 ?_
      first | exact ⟨z_ci (by unfold z_cla; rw [if_neg (Int64.not_lt.mpr c3), if_pos (Int64.not_le.mp c13)]), rfl⟩ | exact ⟨z_ci (by unfold z_cla; rw [if_neg (Int64.not_lt.mpr c3), if_neg (Int64.not_lt.mpr c13)]), rfl⟩
  · skip
    refine z_iload_n 7 C dX7_clamp_7 1 rfl ?_
    refine z_iret 8 C dX7_clamp_8 ?_
    exact ⟨z_ci (by unfold z_cla; rw [if_pos (Int64.not_le.mp c3)]), rfl⟩
theorem dX7_wave_0 : decode cX7_wave 0 = .ok (.iload 4, 2) := by decide +kernel
theorem dX7_wave_2 : decode cX7_wave 2 = .ok (.bipush 24, 2) := by decide +kernel
theorem dX7_wave_4 : decode cX7_wave 4 = .ok (.invokestatic 368, 3) := by decide +kernel
theorem dX7_wave_7 : decode cX7_wave 7 = .ok (.istore 5, 2) := by decide +kernel
theorem dX7_wave_9 : decode cX7_wave 9 = .ok (.lload_n 0, 1) := by decide +kernel
theorem dX7_wave_10 : decode cX7_wave 10 = .ok (.getstatic 371, 3) := by decide +kernel
theorem dX7_wave_13 : decode cX7_wave 13 = .ok (.iload 5, 2) := by decide +kernel
theorem dX7_wave_15 : decode cX7_wave 15 = .ok (.iaload, 1) := by decide +kernel
theorem dX7_wave_16 : decode cX7_wave 16 = .ok (.i2l, 1) := by decide +kernel
theorem dX7_wave_17 : decode cX7_wave 17 = .ok (.lmul, 1) := by decide +kernel
theorem dX7_wave_18 : decode cX7_wave 18 = .ok (.lload_n 2, 1) := by decide +kernel
theorem dX7_wave_19 : decode cX7_wave 19 = .ok (.getstatic 377, 3) := by decide +kernel
theorem dX7_wave_22 : decode cX7_wave 22 = .ok (.iload 5, 2) := by decide +kernel
theorem dX7_wave_24 : decode cX7_wave 24 = .ok (.iaload, 1) := by decide +kernel
theorem dX7_wave_25 : decode cX7_wave 25 = .ok (.i2l, 1) := by decide +kernel
theorem dX7_wave_26 : decode cX7_wave 26 = .ok (.lmul, 1) := by decide +kernel
theorem dX7_wave_27 : decode cX7_wave 27 = .ok (.ladd, 1) := by decide +kernel
theorem dX7_wave_28 : decode cX7_wave 28 = .ok (.ldc2_w 297, 3) := by decide +kernel
theorem dX7_wave_31 : decode cX7_wave 31 = .ok (.invokestatic 374, 3) := by decide +kernel
theorem dX7_wave_34 : decode cX7_wave 34 = .ok (.lreturn, 1) := by decide +kernel
set_option maxRecDepth 100000 in
set_option maxHeartbeats 4000000 in
theorem m_X7_wave {l : Launch} {G : z_Gl} {σ : z_St} (a b : Int64) (x : Int32) : z_M l G yX7_wave cX7_wave 6 (some .long) (z_rm 1 25) [.long a, .long b, .int x] σ (z_p1 (.long (z_wv a b (z_pm x))) σ) := by
  refine z_M.of (by decide) (Nat.le_of_ble_eq_true rfl) (fun p e s m below meth c C => ?_)
  refine z_sub [0, 1, 2] (lv1 := [(0, .long a), (2, .long b), (4, .int x)]) rfl ?_
  refine z_iload 0 C dX7_wave_0 2 rfl ?_
  refine z_bipush 2 C dX7_wave_2 (nI 24) rfl ?_
  refine z_callS 4 C (As := [.int x, .int (nI 24)]) (rest := []) (m_J9_floorMod_7cf53 x) k_J9_floorMod_7cf53 q415 ⟨rfl, rfl⟩ ⟨Nat.le_of_ble_eq_true rfl, Nat.le_of_ble_eq_true rfl⟩ rfl (Nat.le_of_ble_eq_true rfl) ⟨Nat.le_of_ble_eq_true rfl, Nat.le_of_ble_eq_true rfl⟩ rfl dX7_wave_4 (z_k1 ?_)
  refine z_istore 7 C dX7_wave_7 [(5, .int (nI (z_pm x))), (0, .long a), (2, .long b), (4, .int x)] (by decide) rfl ?_
  refine z_lload_n 9 C dX7_wave_9 1 rfl ?_
  refine z_gets 10 C 0 (by decide) q421 dX7_wave_10 ?_
  refine z_iload 13 C dX7_wave_13 0 rfl ?_
  refine z_taldN 15 C 0 (by decide) (z_pm x) rfl (show _ < 24 from (z_pm_lt x)) dX7_wave_15 ?_
  refine z_i2l 16 C dX7_wave_16 ?_
  refine z_lmul 17 C dX7_wave_17 ?_
  refine z_lload_n 18 C dX7_wave_18 2 rfl ?_
  refine z_gets 19 C 1 (by decide) q423 dX7_wave_19 ?_
  refine z_iload 22 C dX7_wave_22 0 rfl ?_
  refine z_taldN 24 C 1 (by decide) (z_pm x) rfl (show _ < 24 from (z_pm_lt x)) dX7_wave_24 ?_
  refine z_i2l 25 C dX7_wave_25 ?_
  refine z_lmul 26 C dX7_wave_26 ?_
  refine z_ladd 27 C dX7_wave_27 ?_
  refine z_ldc2 28 C dX7_wave_28 q425 ?_
  refine z_callS 31 C (As := [.long ((a * (Int32.toInt64 (z_tv 0 (z_pm x)))) + (b * (Int32.toInt64 (z_tv 1 (z_pm x))))), .long 1000000]) (rest := []) (m_J9_floorDiv_f86c9 ((a * (Int32.toInt64 (z_tv 0 (z_pm x)))) + (b * (Int32.toInt64 (z_tv 1 (z_pm x))))) 1000000 (by decide)) k_J9_floorDiv_f86c9 q426 ⟨rfl, rfl⟩ ⟨Nat.le_of_ble_eq_true rfl, Nat.le_of_ble_eq_true rfl⟩ rfl (Nat.le_of_ble_eq_true rfl) ⟨Nat.le_of_ble_eq_true rfl, Nat.le_of_ble_eq_true rfl⟩ rfl dX7_wave_31 (z_k1 ?_)
  refine z_lret 34 C dX7_wave_34 ?_
  exact ⟨rfl, rfl⟩
theorem m_X7_wave_n {l : Launch} {G : z_Gl} {σ : z_St} (a b : Int64) (n : Nat) (hn : n < 2 ^ 31) : z_M l G yX7_wave cX7_wave 6 (some .long) (z_rm 1 25) [.long a, .long b, .int (nI n)] σ (z_p1 (.long (z_wv a b (n % 24))) σ) := by
  have h := m_X7_wave (l := l) (G := G) (σ := σ) a b (nI n)
  rw [z_pm_n hn] at h
  exact h
theorem dX7_coefficient_0 : decode cX7_coefficient 0 = .ok (.iload_n 2, 1) := by decide +kernel
theorem dX7_coefficient_1 : decode cX7_coefficient 1 = .ok (.ifCond .eq 9, 3) := by decide +kernel
theorem dX7_coefficient_4 : decode cX7_coefficient 4 = .ok (.getstatic 377, 3) := by decide +kernel
theorem dX7_coefficient_7 : decode cX7_coefficient 7 = .ok (.goto 6, 3) := by decide +kernel
theorem dX7_coefficient_10 : decode cX7_coefficient 10 = .ok (.getstatic 371, 3) := by decide +kernel
theorem dX7_coefficient_13 : decode cX7_coefficient 13 = .ok (.astore_n 3, 1) := by decide +kernel
theorem dX7_coefficient_14 : decode cX7_coefficient 14 = .ok (.lconst 0, 1) := by decide +kernel
theorem dX7_coefficient_15 : decode cX7_coefficient 15 = .ok (.lstore 4, 2) := by decide +kernel
theorem dX7_coefficient_17 : decode cX7_coefficient 17 = .ok (.iconst 0, 1) := by decide +kernel
theorem dX7_coefficient_18 : decode cX7_coefficient 18 = .ok (.istore 6, 2) := by decide +kernel
theorem dX7_coefficient_20 : decode cX7_coefficient 20 = .ok (.iload 6, 2) := by decide +kernel
theorem dX7_coefficient_22 : decode cX7_coefficient 22 = .ok (.bipush 24, 2) := by decide +kernel
theorem dX7_coefficient_24 : decode cX7_coefficient 24 = .ok (.if_icmp .ge 29, 3) := by decide +kernel
theorem dX7_coefficient_27 : decode cX7_coefficient 27 = .ok (.lload 4, 2) := by decide +kernel
theorem dX7_coefficient_29 : decode cX7_coefficient 29 = .ok (.aload_n 0, 1) := by decide +kernel
theorem dX7_coefficient_30 : decode cX7_coefficient 30 = .ok (.iload 6, 2) := by decide +kernel
theorem dX7_coefficient_32 : decode cX7_coefficient 32 = .ok (.laload, 1) := by decide +kernel
theorem dX7_coefficient_33 : decode cX7_coefficient 33 = .ok (.aload_n 3, 1) := by decide +kernel
theorem dX7_coefficient_34 : decode cX7_coefficient 34 = .ok (.iload_n 1, 1) := by decide +kernel
theorem dX7_coefficient_35 : decode cX7_coefficient 35 = .ok (.iload 6, 2) := by decide +kernel
theorem dX7_coefficient_37 : decode cX7_coefficient 37 = .ok (.imul, 1) := by decide +kernel
theorem dX7_coefficient_38 : decode cX7_coefficient 38 = .ok (.invokestatic 144, 3) := by decide +kernel
theorem dX7_coefficient_41 : decode cX7_coefficient 41 = .ok (.iaload, 1) := by decide +kernel
theorem dX7_coefficient_42 : decode cX7_coefficient 42 = .ok (.i2l, 1) := by decide +kernel
theorem dX7_coefficient_43 : decode cX7_coefficient 43 = .ok (.lmul, 1) := by decide +kernel
theorem dX7_coefficient_44 : decode cX7_coefficient 44 = .ok (.ladd, 1) := by decide +kernel
theorem dX7_coefficient_45 : decode cX7_coefficient 45 = .ok (.lstore 4, 2) := by decide +kernel
theorem dX7_coefficient_47 : decode cX7_coefficient 47 = .ok (.iinc 6 1, 3) := by decide +kernel
theorem dX7_coefficient_50 : decode cX7_coefficient 50 = .ok (.goto (-30), 3) := by decide +kernel
theorem dX7_coefficient_53 : decode cX7_coefficient 53 = .ok (.lload 4, 2) := by decide +kernel
theorem dX7_coefficient_55 : decode cX7_coefficient 55 = .ok (.iload_n 1, 1) := by decide +kernel
theorem dX7_coefficient_56 : decode cX7_coefficient 56 = .ok (.ifCond .eq 9, 3) := by decide +kernel
theorem dX7_coefficient_59 : decode cX7_coefficient 59 = .ok (.iload_n 1, 1) := by decide +kernel
theorem dX7_coefficient_60 : decode cX7_coefficient 60 = .ok (.bipush 12, 2) := by decide +kernel
theorem dX7_coefficient_62 : decode cX7_coefficient 62 = .ok (.if_icmp .ne 9, 3) := by decide +kernel
theorem dX7_coefficient_65 : decode cX7_coefficient 65 = .ok (.ldc2_w 380, 3) := by decide +kernel
theorem dX7_coefficient_68 : decode cX7_coefficient 68 = .ok (.goto 6, 3) := by decide +kernel
theorem dX7_coefficient_71 : decode cX7_coefficient 71 = .ok (.ldc2_w 382, 3) := by decide +kernel
theorem dX7_coefficient_74 : decode cX7_coefficient 74 = .ok (.invokestatic 374, 3) := by decide +kernel
theorem dX7_coefficient_77 : decode cX7_coefficient 77 = .ok (.lreturn, 1) := by decide +kernel
set_option maxRecDepth 100000 in
set_option maxHeartbeats 4000000 in
theorem m_X7_coefficient {l : Launch} {G : z_Gl} {σ : z_St} (r h t : Nat) (hr : z_kd r = 2 ∧ z_sz r = 24) (hh : h ≤ 12) (ht : t < 2) : z_M l G yX7_coefficient cX7_coefficient 7 (some .long) (z_rm 2 42) [.ref (z_ad G r), .int (nI h), .int (nI t)] σ (z_p1 (.long (z_cf (σ.2 r) t h)) σ) := by
  refine z_M.of (by decide) (Nat.le_of_ble_eq_true rfl) (fun p e s m below meth c C => ?_)
  refine z_sub [0, 1, 2] (lv1 := [(0, .ref (z_ad G r)), (1, .int (nI h)), (2, .int (nI t))]) rfl ?_
  refine z_iload_n 0 C dX7_coefficient_0 2 rfl ?_
  refine z_if_eq 1 C 10 dX7_coefficient_1 (by decide) (fun c1 => ?_) (fun c1 => ?_)
  · skip
    have et : t = 0 := (z_nI0 (by omega)).mp c1
    subst et
    refine z_gets 10 C 0 (by decide) q421 dX7_coefficient_10 ?_
    refine z_astore_n 13 C dX7_coefficient_13 [(3, .ref (z_ta G 0)), (0, .ref (z_ad G r)), (1, .int (nI h)), (2, .int (nI 0))] (by decide) rfl ?_
    refine z_lconst 14 C dX7_coefficient_14 0 rfl ?_
    refine z_lstore 15 C dX7_coefficient_15 [(4, .long 0), (3, .ref (z_ta G 0)), (0, .ref (z_ad G r)), (1, .int (nI h)), (2, .int (nI 0))] (by decide) rfl ?_
    refine z_iconst 17 C dX7_coefficient_17 (nI 0) rfl ?_
    refine z_istore 18 C dX7_coefficient_18 [(6, .int (nI 0)), (4, .long 0), (3, .ref (z_ta G 0)), (0, .ref (z_ad G r)), (1, .int (nI h)), (2, .int (nI 0))] (by decide) rfl ?_
    refine z_sub [3, 4, 5, 2, 1, 0] (lv1 := [(0, .ref (z_ad G r)), (1, .int (nI h)), (2, .int (nI 0)), (3, .ref (z_ta G 0)), (4, .long 0), (6, .int (nI 0))]) rfl ?_
    refine z_cv (lv1 := [(0, .ref (z_ad G r)), (1, .int (nI h)), (2, .int (nI 0)), (3, .ref (z_ta G 0)), (4, .long (z_sm (σ.2 r) 0 h 0)), (6, .int (nI 0))]) (st1 := []) (σ1 := σ) rfl rfl rfl ?_
    refine z_lp1 (fun (k : Nat) => k ≤ 24) (fun (k : Nat) => 24 - k) (fun (k : Nat) => [(0, .ref (z_ad G r)), (1, .int (nI h)), (2, .int (nI 0)), (3, .ref (z_ta G 0)), (4, .long (z_sm (σ.2 r) 0 h k)), (6, .int (nI k))]) (fun (k : Nat) => σ) (fun k hi_20 ih_20 => ?_) 0 (by omega)
    try dsimp only
    refine z_iload 20 C dX7_coefficient_20 5 rfl ?_
    refine z_bipush 22 C dX7_coefficient_22 (nI 24) rfl ?_
    refine z_icmp_geN 24 C k 24 rfl rfl (by omega) (by omega) 53 dX7_coefficient_24 (by decide) (fun c24 => ?_) (fun c24 => ?_)
    · skip
      have ek : k = 24 := by omega
      subst ek
      refine z_lload 53 C dX7_coefficient_53 4 rfl ?_
      refine z_iload_n 55 C dX7_coefficient_55 1 rfl ?_
      refine z_if_eq 56 C 65 dX7_coefficient_56 (by decide) (fun c56 => ?_) (fun c56 => ?_)
      · skip
        refine z_ldc2 65 C dX7_coefficient_65 q571 ?_
        refine z_goto 68 C 74 dX7_coefficient_68 (by decide) ?_
        refine z_callS 74 C (As := [.long (z_sm (σ.2 r) 0 h 24), .long 24000000]) (rest := []) (m_J9_floorDiv_f86c9 (z_sm (σ.2 r) 0 h 24) 24000000 (by decide)) k_J9_floorDiv_f86c9 q426 ⟨rfl, rfl⟩ ⟨Nat.le_of_ble_eq_true rfl, Nat.le_of_ble_eq_true rfl⟩ rfl (Nat.le_of_ble_eq_true rfl) ⟨Nat.le_of_ble_eq_true rfl, Nat.le_of_ble_eq_true rfl⟩ rfl dX7_coefficient_74 (z_k1 ?_)
        refine z_lret 77 C dX7_coefficient_77 ?_
        first | exact ⟨z_cl (z_cf_1 (Or.inl ((z_nI0 (by omega)).mp c56))), rfl⟩ | exact ⟨z_cl (z_cf_1 (Or.inr c62)), rfl⟩ | exact ⟨z_cl (z_cf_2 (fun z => c56 ((z_nI0 (by omega)).mpr z)) c62), rfl⟩
      · skip
        refine z_iload_n 59 C dX7_coefficient_59 1 rfl ?_
        refine z_bipush 60 C dX7_coefficient_60 (nI 12) rfl ?_
        refine z_icmp_neN 62 C h 12 rfl rfl (by omega) (by omega) 71 dX7_coefficient_62 (by decide) (fun c62 => ?_) (fun c62 => ?_)
        · skip
          refine z_ldc2 71 C dX7_coefficient_71 q572 ?_
          refine z_callS 74 C (As := [.long (z_sm (σ.2 r) 0 h 24), .long 12000000]) (rest := []) (m_J9_floorDiv_f86c9 (z_sm (σ.2 r) 0 h 24) 12000000 (by decide)) k_J9_floorDiv_f86c9 q426 ⟨rfl, rfl⟩ ⟨Nat.le_of_ble_eq_true rfl, Nat.le_of_ble_eq_true rfl⟩ rfl (Nat.le_of_ble_eq_true rfl) ⟨Nat.le_of_ble_eq_true rfl, Nat.le_of_ble_eq_true rfl⟩ rfl dX7_coefficient_74 (z_k1 ?_)
          refine z_lret 77 C dX7_coefficient_77 ?_
          first | exact ⟨z_cl (z_cf_1 (Or.inl ((z_nI0 (by omega)).mp c56))), rfl⟩ | exact ⟨z_cl (z_cf_1 (Or.inr c62)), rfl⟩ | exact ⟨z_cl (z_cf_2 (fun z => c56 ((z_nI0 (by omega)).mpr z)) c62), rfl⟩
        · skip
          refine z_ldc2 65 C dX7_coefficient_65 q571 ?_
          refine z_goto 68 C 74 dX7_coefficient_68 (by decide) ?_
          refine z_callS 74 C (As := [.long (z_sm (σ.2 r) 0 h 24), .long 24000000]) (rest := []) (m_J9_floorDiv_f86c9 (z_sm (σ.2 r) 0 h 24) 24000000 (by decide)) k_J9_floorDiv_f86c9 q426 ⟨rfl, rfl⟩ ⟨Nat.le_of_ble_eq_true rfl, Nat.le_of_ble_eq_true rfl⟩ rfl (Nat.le_of_ble_eq_true rfl) ⟨Nat.le_of_ble_eq_true rfl, Nat.le_of_ble_eq_true rfl⟩ rfl dX7_coefficient_74 (z_k1 ?_)
          refine z_lret 77 C dX7_coefficient_77 ?_
          first | exact ⟨z_cl (z_cf_1 (Or.inl ((z_nI0 (by omega)).mp c56))), rfl⟩ | exact ⟨z_cl (z_cf_1 (Or.inr c62)), rfl⟩ | exact ⟨z_cl (z_cf_2 (fun z => c56 ((z_nI0 (by omega)).mpr z)) c62), rfl⟩
    · skip
      refine z_lload 27 C dX7_coefficient_27 4 rfl ?_
      refine z_aload_n 29 C dX7_coefficient_29 0 rfl ?_
      refine z_iload 30 C dX7_coefficient_30 5 rfl ?_
      refine z_laldN 32 C r (n := 24) (hr) k rfl (by omega) (by decide) dX7_coefficient_32 ?_
      refine z_aload_n 33 C dX7_coefficient_33 3 rfl ?_
      refine z_iload_n 34 C dX7_coefficient_34 1 rfl ?_
      refine z_iload 35 C dX7_coefficient_35 5 rfl ?_
      refine z_imulN 37 C h k rfl rfl dX7_coefficient_37 ?_
      have hhk : h * k ≤ 12 * 24 := Nat.mul_le_mul hh (by omega)
      refine z_callS 38 C (As := [.int (nI (h * k))]) (rest := [.ref (z_ta G 0), .long (σ.2 r k), .long (z_sm (σ.2 r) 0 h k)]) (m_X7_place_n (h * k) (by omega)) k_X7_place q563 ⟨rfl, rfl⟩ ⟨Nat.le_of_ble_eq_true rfl, Nat.le_of_ble_eq_true rfl⟩ rfl (Nat.le_of_ble_eq_true rfl) ⟨Nat.le_of_ble_eq_true rfl, Nat.le_of_ble_eq_true rfl⟩ rfl dX7_coefficient_38 (z_k1 ?_)
      refine z_taldN 41 C 0 (by decide) ((h * k) % 24) rfl (show _ < 24 from (by omega)) dX7_coefficient_41 ?_
      refine z_i2l 42 C dX7_coefficient_42 ?_
      refine z_lmul 43 C dX7_coefficient_43 ?_
      refine z_ladd 44 C dX7_coefficient_44 ?_
      refine z_lstore 45 C dX7_coefficient_45 [(4, .long ((z_sm (σ.2 r) 0 h k) + ((σ.2 r k) * (Int32.toInt64 (z_tv 0 ((h * k) % 24)))))), (0, .ref (z_ad G r)), (1, .int (nI h)), (2, .int (nI 0)), (3, .ref (z_ta G 0)), (6, .int (nI k))] (by decide) rfl ?_
      refine z_iincN 47 C 5 k [(6, .int (nI (k + 1))), (4, .long ((z_sm (σ.2 r) 0 h k) + ((σ.2 r k) * (Int32.toInt64 (z_tv 0 ((h * k) % 24)))))), (0, .ref (z_ad G r)), (1, .int (nI h)), (2, .int (nI 0)), (3, .ref (z_ta G 0))] rfl rfl (by decide) rfl dX7_coefficient_47 ?_
      refine z_goto 50 C 20 dX7_coefficient_50 (by decide) ?_
      refine z_sub [2, 3, 4, 5, 1, 0] (lv1 := [(0, .ref (z_ad G r)), (1, .int (nI h)), (2, .int (nI 0)), (3, .ref (z_ta G 0)), (4, .long ((z_sm (σ.2 r) 0 h k) + ((σ.2 r k) * (Int32.toInt64 (z_tv 0 ((h * k) % 24)))))), (6, .int (nI (k + 1)))]) rfl ?_
      refine z_cv (lv1 := [(0, .ref (z_ad G r)), (1, .int (nI h)), (2, .int (nI 0)), (3, .ref (z_ta G 0)), (4, .long (z_sm (σ.2 r) 0 h (k + 1))), (6, .int (nI (k + 1)))]) (st1 := []) (σ1 := σ) rfl rfl rfl ?_
      exact ih_20 (k + 1) (by omega) (by omega)
  · skip
    have et : t = 1 := by
      have : ¬ t = 0 := fun z => c1 ((z_nI0 (t := t) (by omega)).mpr z)
      omega
    subst et
    refine z_gets 4 C 1 (by decide) q423 dX7_coefficient_4 ?_
    refine z_goto 7 C 13 dX7_coefficient_7 (by decide) ?_
    refine z_astore_n 13 C dX7_coefficient_13 [(3, .ref (z_ta G 1)), (0, .ref (z_ad G r)), (1, .int (nI h)), (2, .int (nI 1))] (by decide) rfl ?_
    refine z_lconst 14 C dX7_coefficient_14 0 rfl ?_
    refine z_lstore 15 C dX7_coefficient_15 [(4, .long 0), (3, .ref (z_ta G 1)), (0, .ref (z_ad G r)), (1, .int (nI h)), (2, .int (nI 1))] (by decide) rfl ?_
    refine z_iconst 17 C dX7_coefficient_17 (nI 0) rfl ?_
    refine z_istore 18 C dX7_coefficient_18 [(6, .int (nI 0)), (4, .long 0), (3, .ref (z_ta G 1)), (0, .ref (z_ad G r)), (1, .int (nI h)), (2, .int (nI 1))] (by decide) rfl ?_
    refine z_sub [3, 4, 5, 2, 1, 0] (lv1 := [(0, .ref (z_ad G r)), (1, .int (nI h)), (2, .int (nI 1)), (3, .ref (z_ta G 1)), (4, .long 0), (6, .int (nI 0))]) rfl ?_
    refine z_cv (lv1 := [(0, .ref (z_ad G r)), (1, .int (nI h)), (2, .int (nI 1)), (3, .ref (z_ta G 1)), (4, .long (z_sm (σ.2 r) 1 h 0)), (6, .int (nI 0))]) (st1 := []) (σ1 := σ) rfl rfl rfl ?_
    refine z_lp1 (fun (k : Nat) => k ≤ 24) (fun (k : Nat) => 24 - k) (fun (k : Nat) => [(0, .ref (z_ad G r)), (1, .int (nI h)), (2, .int (nI 1)), (3, .ref (z_ta G 1)), (4, .long (z_sm (σ.2 r) 1 h k)), (6, .int (nI k))]) (fun (k : Nat) => σ) (fun k hi_20 ih_20 => ?_) 0 (by omega)
    try dsimp only
    refine z_iload 20 C dX7_coefficient_20 5 rfl ?_
    refine z_bipush 22 C dX7_coefficient_22 (nI 24) rfl ?_
    refine z_icmp_geN 24 C k 24 rfl rfl (by omega) (by omega) 53 dX7_coefficient_24 (by decide) (fun c24 => ?_) (fun c24 => ?_)
    · skip
      have ek : k = 24 := by omega
      subst ek
      refine z_lload 53 C dX7_coefficient_53 4 rfl ?_
      refine z_iload_n 55 C dX7_coefficient_55 1 rfl ?_
      refine z_if_eq 56 C 65 dX7_coefficient_56 (by decide) (fun c56 => ?_) (fun c56 => ?_)
      · skip
        refine z_ldc2 65 C dX7_coefficient_65 q571 ?_
        refine z_goto 68 C 74 dX7_coefficient_68 (by decide) ?_
        refine z_callS 74 C (As := [.long (z_sm (σ.2 r) 1 h 24), .long 24000000]) (rest := []) (m_J9_floorDiv_f86c9 (z_sm (σ.2 r) 1 h 24) 24000000 (by decide)) k_J9_floorDiv_f86c9 q426 ⟨rfl, rfl⟩ ⟨Nat.le_of_ble_eq_true rfl, Nat.le_of_ble_eq_true rfl⟩ rfl (Nat.le_of_ble_eq_true rfl) ⟨Nat.le_of_ble_eq_true rfl, Nat.le_of_ble_eq_true rfl⟩ rfl dX7_coefficient_74 (z_k1 ?_)
        refine z_lret 77 C dX7_coefficient_77 ?_
        first | exact ⟨z_cl (z_cf_1 (Or.inl ((z_nI0 (by omega)).mp c56))), rfl⟩ | exact ⟨z_cl (z_cf_1 (Or.inr c62)), rfl⟩ | exact ⟨z_cl (z_cf_2 (fun z => c56 ((z_nI0 (by omega)).mpr z)) c62), rfl⟩
      · skip
        refine z_iload_n 59 C dX7_coefficient_59 1 rfl ?_
        refine z_bipush 60 C dX7_coefficient_60 (nI 12) rfl ?_
        refine z_icmp_neN 62 C h 12 rfl rfl (by omega) (by omega) 71 dX7_coefficient_62 (by decide) (fun c62 => ?_) (fun c62 => ?_)
        · skip
          refine z_ldc2 71 C dX7_coefficient_71 q572 ?_
          refine z_callS 74 C (As := [.long (z_sm (σ.2 r) 1 h 24), .long 12000000]) (rest := []) (m_J9_floorDiv_f86c9 (z_sm (σ.2 r) 1 h 24) 12000000 (by decide)) k_J9_floorDiv_f86c9 q426 ⟨rfl, rfl⟩ ⟨Nat.le_of_ble_eq_true rfl, Nat.le_of_ble_eq_true rfl⟩ rfl (Nat.le_of_ble_eq_true rfl) ⟨Nat.le_of_ble_eq_true rfl, Nat.le_of_ble_eq_true rfl⟩ rfl dX7_coefficient_74 (z_k1 ?_)
          refine z_lret 77 C dX7_coefficient_77 ?_
          first | exact ⟨z_cl (z_cf_1 (Or.inl ((z_nI0 (by omega)).mp c56))), rfl⟩ | exact ⟨z_cl (z_cf_1 (Or.inr c62)), rfl⟩ | exact ⟨z_cl (z_cf_2 (fun z => c56 ((z_nI0 (by omega)).mpr z)) c62), rfl⟩
        · skip
          refine z_ldc2 65 C dX7_coefficient_65 q571 ?_
          refine z_goto 68 C 74 dX7_coefficient_68 (by decide) ?_
          refine z_callS 74 C (As := [.long (z_sm (σ.2 r) 1 h 24), .long 24000000]) (rest := []) (m_J9_floorDiv_f86c9 (z_sm (σ.2 r) 1 h 24) 24000000 (by decide)) k_J9_floorDiv_f86c9 q426 ⟨rfl, rfl⟩ ⟨Nat.le_of_ble_eq_true rfl, Nat.le_of_ble_eq_true rfl⟩ rfl (Nat.le_of_ble_eq_true rfl) ⟨Nat.le_of_ble_eq_true rfl, Nat.le_of_ble_eq_true rfl⟩ rfl dX7_coefficient_74 (z_k1 ?_)
          refine z_lret 77 C dX7_coefficient_77 ?_
          first | exact ⟨z_cl (z_cf_1 (Or.inl ((z_nI0 (by omega)).mp c56))), rfl⟩ | exact ⟨z_cl (z_cf_1 (Or.inr c62)), rfl⟩ | exact ⟨z_cl (z_cf_2 (fun z => c56 ((z_nI0 (by omega)).mpr z)) c62), rfl⟩
    · skip
      refine z_lload 27 C dX7_coefficient_27 4 rfl ?_
      refine z_aload_n 29 C dX7_coefficient_29 0 rfl ?_
      refine z_iload 30 C dX7_coefficient_30 5 rfl ?_
      refine z_laldN 32 C r (n := 24) (hr) k rfl (by omega) (by decide) dX7_coefficient_32 ?_
      refine z_aload_n 33 C dX7_coefficient_33 3 rfl ?_
      refine z_iload_n 34 C dX7_coefficient_34 1 rfl ?_
      refine z_iload 35 C dX7_coefficient_35 5 rfl ?_
      refine z_imulN 37 C h k rfl rfl dX7_coefficient_37 ?_
      have hhk : h * k ≤ 12 * 24 := Nat.mul_le_mul hh (by omega)
      refine z_callS 38 C (As := [.int (nI (h * k))]) (rest := [.ref (z_ta G 1), .long (σ.2 r k), .long (z_sm (σ.2 r) 1 h k)]) (m_X7_place_n (h * k) (by omega)) k_X7_place q563 ⟨rfl, rfl⟩ ⟨Nat.le_of_ble_eq_true rfl, Nat.le_of_ble_eq_true rfl⟩ rfl (Nat.le_of_ble_eq_true rfl) ⟨Nat.le_of_ble_eq_true rfl, Nat.le_of_ble_eq_true rfl⟩ rfl dX7_coefficient_38 (z_k1 ?_)
      refine z_taldN 41 C 1 (by decide) ((h * k) % 24) rfl (show _ < 24 from (by omega)) dX7_coefficient_41 ?_
      refine z_i2l 42 C dX7_coefficient_42 ?_
      refine z_lmul 43 C dX7_coefficient_43 ?_
      refine z_ladd 44 C dX7_coefficient_44 ?_
      refine z_lstore 45 C dX7_coefficient_45 [(4, .long ((z_sm (σ.2 r) 1 h k) + ((σ.2 r k) * (Int32.toInt64 (z_tv 1 ((h * k) % 24)))))), (0, .ref (z_ad G r)), (1, .int (nI h)), (2, .int (nI 1)), (3, .ref (z_ta G 1)), (6, .int (nI k))] (by decide) rfl ?_
      refine z_iincN 47 C 5 k [(6, .int (nI (k + 1))), (4, .long ((z_sm (σ.2 r) 1 h k) + ((σ.2 r k) * (Int32.toInt64 (z_tv 1 ((h * k) % 24)))))), (0, .ref (z_ad G r)), (1, .int (nI h)), (2, .int (nI 1)), (3, .ref (z_ta G 1))] rfl rfl (by decide) rfl dX7_coefficient_47 ?_
      refine z_goto 50 C 20 dX7_coefficient_50 (by decide) ?_
      refine z_sub [2, 3, 4, 5, 1, 0] (lv1 := [(0, .ref (z_ad G r)), (1, .int (nI h)), (2, .int (nI 1)), (3, .ref (z_ta G 1)), (4, .long ((z_sm (σ.2 r) 1 h k) + ((σ.2 r k) * (Int32.toInt64 (z_tv 1 ((h * k) % 24)))))), (6, .int (nI (k + 1)))]) rfl ?_
      refine z_cv (lv1 := [(0, .ref (z_ad G r)), (1, .int (nI h)), (2, .int (nI 1)), (3, .ref (z_ta G 1)), (4, .long (z_sm (σ.2 r) 1 h (k + 1))), (6, .int (nI (k + 1)))]) (st1 := []) (σ1 := σ) rfl rfl rfl ?_
      exact ih_20 (k + 1) (by omega) (by omega)
theorem dX7_isSame_0 : decode cX7_isSame 0 = .ok (.iconst 0, 1) := by decide +kernel
theorem dX7_isSame_1 : decode cX7_isSame 1 = .ok (.istore_n 2, 1) := by decide +kernel
theorem dX7_isSame_2 : decode cX7_isSame 2 = .ok (.iload_n 2, 1) := by decide +kernel
theorem dX7_isSame_3 : decode cX7_isSame 3 = .ok (.bipush 24, 2) := by decide +kernel
theorem dX7_isSame_5 : decode cX7_isSame 5 = .ok (.if_icmp .ge 21, 3) := by decide +kernel
theorem dX7_isSame_8 : decode cX7_isSame 8 = .ok (.aload_n 0, 1) := by decide +kernel
theorem dX7_isSame_9 : decode cX7_isSame 9 = .ok (.iload_n 2, 1) := by decide +kernel
theorem dX7_isSame_10 : decode cX7_isSame 10 = .ok (.laload, 1) := by decide +kernel
theorem dX7_isSame_11 : decode cX7_isSame 11 = .ok (.aload_n 1, 1) := by decide +kernel
theorem dX7_isSame_12 : decode cX7_isSame 12 = .ok (.iload_n 2, 1) := by decide +kernel
theorem dX7_isSame_13 : decode cX7_isSame 13 = .ok (.laload, 1) := by decide +kernel
theorem dX7_isSame_14 : decode cX7_isSame 14 = .ok (.lcmp, 1) := by decide +kernel
theorem dX7_isSame_15 : decode cX7_isSame 15 = .ok (.ifCond .eq 5, 3) := by decide +kernel
theorem dX7_isSame_18 : decode cX7_isSame 18 = .ok (.iconst 0, 1) := by decide +kernel
theorem dX7_isSame_19 : decode cX7_isSame 19 = .ok (.ireturn, 1) := by decide +kernel
theorem dX7_isSame_20 : decode cX7_isSame 20 = .ok (.iinc 2 1, 3) := by decide +kernel
theorem dX7_isSame_23 : decode cX7_isSame 23 = .ok (.goto (-21), 3) := by decide +kernel
theorem dX7_isSame_26 : decode cX7_isSame 26 = .ok (.iconst 1, 1) := by decide +kernel
theorem dX7_isSame_27 : decode cX7_isSame 27 = .ok (.ireturn, 1) := by decide +kernel
set_option maxRecDepth 100000 in
set_option maxHeartbeats 4000000 in
theorem m_X7_isSame {l : Launch} {G : z_Gl} {σ : z_St} (r q : Nat) (hr : z_kd r = 2 ∧ z_sz r = 24) (hq : z_kd q = 2 ∧ z_sz q = 24) : z_M l G yX7_isSame cX7_isSame 3 (some .boolean) (z_rm 0 0) [.ref (z_ad G r), .ref (z_ad G q)] σ (z_p1 (.int (z_bo (z_eq24 (σ.2 r) (σ.2 q)))) σ) := by
  refine z_M.of (by decide) (Nat.le_of_ble_eq_true rfl) (fun p e s m below meth c C => ?_)
  refine z_sub [0, 1] (lv1 := [(0, .ref (z_ad G r)), (1, .ref (z_ad G q))]) rfl ?_
  refine z_iconst 0 C dX7_isSame_0 (nI 0) rfl ?_
  refine z_istore_n 1 C dX7_isSame_1 [(2, .int (nI 0)), (0, .ref (z_ad G r)), (1, .ref (z_ad G q))] (by decide) rfl ?_
  refine z_sub [1, 2, 0] (lv1 := [(0, .ref (z_ad G r)), (1, .ref (z_ad G q)), (2, .int (nI 0))]) rfl ?_
  refine z_cv (lv1 := [(0, .ref (z_ad G r)), (1, .ref (z_ad G q)), (2, .int (nI 0))]) (st1 := []) (σ1 := σ) rfl rfl rfl ?_
  refine z_lp1 (fun (k : Nat) => k ≤ 24 ∧ ∀ j, j < k → σ.2 r j = σ.2 q j) (fun (k : Nat) => 24 - k) (fun (k : Nat) => [(0, .ref (z_ad G r)), (1, .ref (z_ad G q)), (2, .int (nI k))]) (fun (k : Nat) => σ) (fun k hi_2 ih_2 => ?_) 0 (⟨by omega, fun j h => absurd h (Nat.not_lt_zero j)⟩)
  try dsimp only
  obtain ⟨hk, hj⟩ := hi_2
  refine z_iload_n 2 C dX7_isSame_2 2 rfl ?_
  refine z_bipush 3 C dX7_isSame_3 (nI 24) rfl ?_
  refine z_icmp_geN 5 C k 24 rfl rfl (by omega) (by omega) 26 dX7_isSame_5 (by decide) (fun c5 => ?_) (fun c5 => ?_)
  · skip
    have ek : k = 24 := by omega
    subst ek
    refine z_iconst 26 C dX7_isSame_26 (nI 1) rfl ?_
    refine z_zret 27 C (rfl) dX7_isSame_27 ?_
    exact ⟨z_ci (z_bo_t hj), rfl⟩
  · skip
    refine z_aload_n 8 C dX7_isSame_8 0 rfl ?_
    refine z_iload_n 9 C dX7_isSame_9 2 rfl ?_
    refine z_laldN 10 C r (n := 24) (hr) k rfl (by omega) (by decide) dX7_isSame_10 ?_
    refine z_aload_n 11 C dX7_isSame_11 1 rfl ?_
    refine z_iload_n 12 C dX7_isSame_12 2 rfl ?_
    refine z_laldN 13 C q (n := 24) (hq) k rfl (by omega) (by decide) dX7_isSame_13 ?_
    refine z_lcmp_eq 14 C 20 dX7_isSame_14 dX7_isSame_15 (by decide) (fun c14 => ?_) (fun c14 => ?_)
    · skip
      refine z_iincN 20 C 2 k [(2, .int (nI (k + 1))), (0, .ref (z_ad G r)), (1, .ref (z_ad G q))] rfl rfl (by decide) rfl dX7_isSame_20 ?_
      refine z_goto 23 C 2 dX7_isSame_23 (by decide) ?_
      refine z_sub [1, 2, 0] (lv1 := [(0, .ref (z_ad G r)), (1, .ref (z_ad G q)), (2, .int (nI (k + 1)))]) rfl ?_
      refine z_cv (lv1 := [(0, .ref (z_ad G r)), (1, .ref (z_ad G q)), (2, .int (nI (k + 1)))]) (st1 := []) (σ1 := σ) rfl rfl rfl ?_
      exact ih_2 (k + 1) (⟨by omega, lt_s hj c14⟩) (by omega)
    · skip
      refine z_iconst 18 C dX7_isSame_18 (nI 0) rfl ?_
      refine z_zret 19 C (rfl) dX7_isSame_19 ?_
      exact ⟨z_ci (z_bo_f (fun z => c14 (z k c5))), rfl⟩
theorem dX7_strengthOf_0 : decode cX7_strengthOf 0 = .ok (.aload_n 0, 1) := by decide +kernel
theorem dX7_strengthOf_1 : decode cX7_strengthOf 1 = .ok (.iload_n 1, 1) := by decide +kernel
theorem dX7_strengthOf_2 : decode cX7_strengthOf 2 = .ok (.iconst 0, 1) := by decide +kernel
theorem dX7_strengthOf_3 : decode cX7_strengthOf 3 = .ok (.invokestatic 147, 3) := by decide +kernel
theorem dX7_strengthOf_6 : decode cX7_strengthOf 6 = .ok (.invokestatic 334, 3) := by decide +kernel
theorem dX7_strengthOf_9 : decode cX7_strengthOf 9 = .ok (.aload_n 0, 1) := by decide +kernel
theorem dX7_strengthOf_10 : decode cX7_strengthOf 10 = .ok (.iload_n 1, 1) := by decide +kernel
theorem dX7_strengthOf_11 : decode cX7_strengthOf 11 = .ok (.iconst 1, 1) := by decide +kernel
theorem dX7_strengthOf_12 : decode cX7_strengthOf 12 = .ok (.invokestatic 147, 3) := by decide +kernel
theorem dX7_strengthOf_15 : decode cX7_strengthOf 15 = .ok (.invokestatic 334, 3) := by decide +kernel
theorem dX7_strengthOf_18 : decode cX7_strengthOf 18 = .ok (.ladd, 1) := by decide +kernel
theorem dX7_strengthOf_19 : decode cX7_strengthOf 19 = .ok (.lreturn, 1) := by decide +kernel
set_option maxRecDepth 100000 in
set_option maxHeartbeats 4000000 in
theorem m_X7_strengthOf {l : Launch} {G : z_Gl} {σ : z_St} (r h : Nat) (hr : z_kd r = 2 ∧ z_sz r = 24) (hh : h ≤ 12) : z_M l G yX7_strengthOf cX7_strengthOf 2 (some .long) (z_rm 3 68) [.ref (z_ad G r), .int (nI h)] σ (z_p1 (.long (z_sg (σ.2 r) h)) σ) := by
  refine z_M.of (by decide) (Nat.le_of_ble_eq_true rfl) (fun p e s m below meth c C => ?_)
  refine z_sub [0, 1] (lv1 := [(0, .ref (z_ad G r)), (1, .int (nI h))]) rfl ?_
  refine z_aload_n 0 C dX7_strengthOf_0 0 rfl ?_
  refine z_iload_n 1 C dX7_strengthOf_1 1 rfl ?_
  refine z_iconst 2 C dX7_strengthOf_2 (nI 0) rfl ?_
  refine z_callS 3 C (As := [.ref (z_ad G r), .int (nI h), .int (nI 0)]) (rest := []) (m_X7_coefficient r h 0 (hr) (by omega) (by omega)) k_X7_coefficient q568 ⟨rfl, rfl⟩ ⟨Nat.le_of_ble_eq_true rfl, Nat.le_of_ble_eq_true rfl⟩ rfl (Nat.le_of_ble_eq_true rfl) ⟨Nat.le_of_ble_eq_true rfl, Nat.le_of_ble_eq_true rfl⟩ rfl dX7_strengthOf_3 (z_k1 ?_)
  refine z_callS 6 C (As := [.long (z_cf (σ.2 r) 0 h)]) (rest := []) (m_J9_abs_067f4 (z_cf (σ.2 r) 0 h)) k_J9_abs_067f4 q592 ⟨rfl, rfl⟩ ⟨Nat.le_of_ble_eq_true rfl, Nat.le_of_ble_eq_true rfl⟩ rfl (Nat.le_of_ble_eq_true rfl) ⟨Nat.le_of_ble_eq_true rfl, Nat.le_of_ble_eq_true rfl⟩ rfl dX7_strengthOf_6 (z_k1 ?_)
  refine z_aload_n 9 C dX7_strengthOf_9 0 rfl ?_
  refine z_iload_n 10 C dX7_strengthOf_10 1 rfl ?_
  refine z_iconst 11 C dX7_strengthOf_11 (nI 1) rfl ?_
  refine z_callS 12 C (As := [.ref (z_ad G r), .int (nI h), .int (nI 1)]) (rest := [.long (z_ab (z_cf (σ.2 r) 0 h))]) (m_X7_coefficient r h 1 (hr) (by omega) (by omega)) k_X7_coefficient q568 ⟨rfl, rfl⟩ ⟨Nat.le_of_ble_eq_true rfl, Nat.le_of_ble_eq_true rfl⟩ rfl (Nat.le_of_ble_eq_true rfl) ⟨Nat.le_of_ble_eq_true rfl, Nat.le_of_ble_eq_true rfl⟩ rfl dX7_strengthOf_12 (z_k1 ?_)
  refine z_callS 15 C (As := [.long (z_cf (σ.2 r) 1 h)]) (rest := [.long (z_ab (z_cf (σ.2 r) 0 h))]) (m_J9_abs_067f4 (z_cf (σ.2 r) 1 h)) k_J9_abs_067f4 q592 ⟨rfl, rfl⟩ ⟨Nat.le_of_ble_eq_true rfl, Nat.le_of_ble_eq_true rfl⟩ rfl (Nat.le_of_ble_eq_true rfl) ⟨Nat.le_of_ble_eq_true rfl, Nat.le_of_ble_eq_true rfl⟩ rfl dX7_strengthOf_15 (z_k1 ?_)
  refine z_ladd 18 C dX7_strengthOf_18 ?_
  refine z_lret 19 C dX7_strengthOf_19 ?_
  exact ⟨rfl, rfl⟩
theorem dX7_copyLobes_0 : decode cX7_copyLobes 0 = .ok (.iconst 0, 1) := by decide +kernel
theorem dX7_copyLobes_1 : decode cX7_copyLobes 1 = .ok (.istore 4, 2) := by decide +kernel
theorem dX7_copyLobes_3 : decode cX7_copyLobes 3 = .ok (.iload 4, 2) := by decide +kernel
theorem dX7_copyLobes_5 : decode cX7_copyLobes 5 = .ok (.bipush 24, 2) := by decide +kernel
theorem dX7_copyLobes_7 : decode cX7_copyLobes 7 = .ok (.if_icmp .ge 14, 3) := by decide +kernel
theorem dX7_copyLobes_10 : decode cX7_copyLobes 10 = .ok (.aload_n 3, 1) := by decide +kernel
theorem dX7_copyLobes_11 : decode cX7_copyLobes 11 = .ok (.iload 4, 2) := by decide +kernel
theorem dX7_copyLobes_13 : decode cX7_copyLobes 13 = .ok (.lconst 0, 1) := by decide +kernel
theorem dX7_copyLobes_14 : decode cX7_copyLobes 14 = .ok (.lastore, 1) := by decide +kernel
theorem dX7_copyLobes_15 : decode cX7_copyLobes 15 = .ok (.iinc 4 1, 3) := by decide +kernel
theorem dX7_copyLobes_18 : decode cX7_copyLobes 18 = .ok (.goto (-15), 3) := by decide +kernel
theorem dX7_copyLobes_21 : decode cX7_copyLobes 21 = .ok (.iload_n 1, 1) := by decide +kernel
theorem dX7_copyLobes_22 : decode cX7_copyLobes 22 = .ok (.istore 4, 2) := by decide +kernel
theorem dX7_copyLobes_24 : decode cX7_copyLobes 24 = .ok (.iload 4, 2) := by decide +kernel
theorem dX7_copyLobes_26 : decode cX7_copyLobes 26 = .ok (.iload_n 2, 1) := by decide +kernel
theorem dX7_copyLobes_27 : decode cX7_copyLobes 27 = .ok (.if_icmp .gt 62, 3) := by decide +kernel
theorem dX7_copyLobes_30 : decode cX7_copyLobes 30 = .ok (.aload_n 0, 1) := by decide +kernel
theorem dX7_copyLobes_31 : decode cX7_copyLobes 31 = .ok (.iload 4, 2) := by decide +kernel
theorem dX7_copyLobes_33 : decode cX7_copyLobes 33 = .ok (.iconst 0, 1) := by decide +kernel
theorem dX7_copyLobes_34 : decode cX7_copyLobes 34 = .ok (.invokestatic 147, 3) := by decide +kernel
theorem dX7_copyLobes_37 : decode cX7_copyLobes 37 = .ok (.lstore 5, 2) := by decide +kernel
theorem dX7_copyLobes_39 : decode cX7_copyLobes 39 = .ok (.aload_n 0, 1) := by decide +kernel
theorem dX7_copyLobes_40 : decode cX7_copyLobes 40 = .ok (.iload 4, 2) := by decide +kernel
theorem dX7_copyLobes_42 : decode cX7_copyLobes 42 = .ok (.iconst 1, 1) := by decide +kernel
theorem dX7_copyLobes_43 : decode cX7_copyLobes 43 = .ok (.invokestatic 147, 3) := by decide +kernel
theorem dX7_copyLobes_46 : decode cX7_copyLobes 46 = .ok (.lstore 7, 2) := by decide +kernel
theorem dX7_copyLobes_48 : decode cX7_copyLobes 48 = .ok (.iconst 0, 1) := by decide +kernel
theorem dX7_copyLobes_49 : decode cX7_copyLobes 49 = .ok (.istore 9, 2) := by decide +kernel
theorem dX7_copyLobes_51 : decode cX7_copyLobes 51 = .ok (.iload 9, 2) := by decide +kernel
theorem dX7_copyLobes_53 : decode cX7_copyLobes 53 = .ok (.bipush 24, 2) := by decide +kernel
theorem dX7_copyLobes_55 : decode cX7_copyLobes 55 = .ok (.if_icmp .ge 28, 3) := by decide +kernel
theorem dX7_copyLobes_58 : decode cX7_copyLobes 58 = .ok (.aload_n 3, 1) := by decide +kernel
theorem dX7_copyLobes_59 : decode cX7_copyLobes 59 = .ok (.iload 9, 2) := by decide +kernel
theorem dX7_copyLobes_61 : decode cX7_copyLobes 61 = .ok (.dup2, 1) := by decide +kernel
theorem dX7_copyLobes_62 : decode cX7_copyLobes 62 = .ok (.laload, 1) := by decide +kernel
theorem dX7_copyLobes_63 : decode cX7_copyLobes 63 = .ok (.lload 5, 2) := by decide +kernel
theorem dX7_copyLobes_65 : decode cX7_copyLobes 65 = .ok (.lload 7, 2) := by decide +kernel
theorem dX7_copyLobes_67 : decode cX7_copyLobes 67 = .ok (.iload 4, 2) := by decide +kernel
theorem dX7_copyLobes_69 : decode cX7_copyLobes 69 = .ok (.iload 9, 2) := by decide +kernel
theorem dX7_copyLobes_71 : decode cX7_copyLobes 71 = .ok (.imul, 1) := by decide +kernel
theorem dX7_copyLobes_72 : decode cX7_copyLobes 72 = .ok (.invokestatic 151, 3) := by decide +kernel
theorem dX7_copyLobes_75 : decode cX7_copyLobes 75 = .ok (.ladd, 1) := by decide +kernel
theorem dX7_copyLobes_76 : decode cX7_copyLobes 76 = .ok (.lastore, 1) := by decide +kernel
theorem dX7_copyLobes_77 : decode cX7_copyLobes 77 = .ok (.iinc 9 1, 3) := by decide +kernel
theorem dX7_copyLobes_80 : decode cX7_copyLobes 80 = .ok (.goto (-29), 3) := by decide +kernel
theorem dX7_copyLobes_83 : decode cX7_copyLobes 83 = .ok (.iinc 4 1, 3) := by decide +kernel
theorem dX7_copyLobes_86 : decode cX7_copyLobes 86 = .ok (.goto (-62), 3) := by decide +kernel
theorem dX7_copyLobes_89 : decode cX7_copyLobes 89 = .ok (.return_, 1) := by decide +kernel
set_option maxRecDepth 100000 in
set_option maxHeartbeats 4000000 in
theorem m_X7_copyLobes {l : Launch} {G : z_Gl} {σ : z_St} (r f g q : Nat) (hr : z_kd r = 2 ∧ z_sz r = 24) (hq : z_kd q = 2 ∧ z_sz q = 24) (hne : ¬ r = q) (hfg : f ≤ g) (hg : g ≤ 12) : z_M l G yX7_copyLobes cX7_copyLobes 10 none (z_rm 3 68) [.ref (z_ad G r), .int (nI f), .int (nI g), .ref (z_ad G q)] σ (z_p0 (z_uL σ q (z_fil (z_kl (σ.2 r) f (g + 1 - f)) (σ.2 q) 24))) := by
  refine z_M.of (by decide) (Nat.le_of_ble_eq_true rfl) (fun p e s m below meth c C => ?_)
  refine z_sub [0, 1, 2, 3] (lv1 := [(0, .ref (z_ad G r)), (1, .int (nI f)), (2, .int (nI g)), (3, .ref (z_ad G q))]) rfl ?_
  refine z_iconst 0 C dX7_copyLobes_0 (nI 0) rfl ?_
  refine z_istore 1 C dX7_copyLobes_1 [(4, .int (nI 0)), (0, .ref (z_ad G r)), (1, .int (nI f)), (2, .int (nI g)), (3, .ref (z_ad G q))] (by decide) rfl ?_
  refine z_sub [1, 2, 3, 4, 0] (lv1 := [(0, .ref (z_ad G r)), (1, .int (nI f)), (2, .int (nI g)), (3, .ref (z_ad G q)), (4, .int (nI 0))]) rfl ?_
  refine z_cv (lv1 := [(0, .ref (z_ad G r)), (1, .int (nI f)), (2, .int (nI g)), (3, .ref (z_ad G q)), (4, .int (nI 0))]) (st1 := []) (σ1 := z_uL σ q (z_fil (fun _ => 0) (σ.2 q) 0)) rfl rfl (z_fil0L σ q _) ?_
  refine z_lp1 (fun (k : Nat) => k ≤ 24) (fun (k : Nat) => 24 - k) (fun (k : Nat) => [(0, .ref (z_ad G r)), (1, .int (nI f)), (2, .int (nI g)), (3, .ref (z_ad G q)), (4, .int (nI k))]) (fun (k : Nat) => z_uL σ q (z_fil (fun _ => 0) (σ.2 q) k)) (fun k hi_3 ih_3 => ?_) 0 (by omega)
  try dsimp only
  refine z_iload 3 C dX7_copyLobes_3 4 rfl ?_
  refine z_bipush 5 C dX7_copyLobes_5 (nI 24) rfl ?_
  refine z_icmp_geN 7 C k 24 rfl rfl (by omega) (by omega) 21 dX7_copyLobes_7 (by decide) (fun c7 => ?_) (fun c7 => ?_)
  · skip
    have ek : k = 24 := by omega
    subst ek
    refine z_iload_n 21 C dX7_copyLobes_21 1 rfl ?_
    refine z_istore 22 C dX7_copyLobes_22 [(4, .int (nI f)), (0, .ref (z_ad G r)), (1, .int (nI f)), (2, .int (nI g)), (3, .ref (z_ad G q))] (by decide) rfl ?_
    refine z_sub [1, 2, 3, 4, 0] (lv1 := [(0, .ref (z_ad G r)), (1, .int (nI f)), (2, .int (nI g)), (3, .ref (z_ad G q)), (4, .int (nI f))]) rfl ?_
    refine z_cv (lv1 := [(0, .ref (z_ad G r)), (1, .int (nI f)), (2, .int (nI g)), (3, .ref (z_ad G q)), (4, .int (nI (f + 0)))]) (st1 := []) (σ1 := z_uL σ q (z_fil (z_kl (σ.2 r) f 0) (σ.2 q) 24)) rfl rfl rfl ?_
    refine z_lp1 (fun (d : Nat) => f + d ≤ g + 1) (fun (d : Nat) => g + 1 - (f + d)) (fun (d : Nat) => [(0, .ref (z_ad G r)), (1, .int (nI f)), (2, .int (nI g)), (3, .ref (z_ad G q)), (4, .int (nI (f + d)))]) (fun (d : Nat) => z_uL σ q (z_fil (z_kl (σ.2 r) f d) (σ.2 q) 24)) (fun d hi_24 ih_24 => ?_) 0 (by omega)
    try dsimp only
    refine z_iload 24 C dX7_copyLobes_24 4 rfl ?_
    refine z_iload_n 26 C dX7_copyLobes_26 2 rfl ?_
    refine z_icmp_gtN 27 C (f + d) g rfl rfl (by omega) (by omega) 89 dX7_copyLobes_27 (by decide) (fun c27 => ?_) (fun c27 => ?_)
    · skip
      have ed : g + 1 - f = d := by omega
      rw [ed]
      refine z_vret 89 C dX7_copyLobes_89 ?_
      exact ⟨rfl, rfl⟩
    · skip
      refine z_aload_n 30 C dX7_copyLobes_30 0 rfl ?_
      refine z_iload 31 C dX7_copyLobes_31 4 rfl ?_
      refine z_iconst 33 C dX7_copyLobes_33 (nI 0) rfl ?_
      refine z_callS 34 C (As := [.ref (z_ad G r), .int (nI (f + d)), .int (nI 0)]) (rest := []) (m_X7_coefficient (σ := z_uL σ q (z_fil (z_kl (σ.2 r) f d) (σ.2 q) 24)) r (f + d) 0 (hr) (by omega) (by omega)) k_X7_coefficient q568 ⟨rfl, rfl⟩ ⟨Nat.le_of_ble_eq_true rfl, Nat.le_of_ble_eq_true rfl⟩ rfl (Nat.le_of_ble_eq_true rfl) ⟨Nat.le_of_ble_eq_true rfl, Nat.le_of_ble_eq_true rfl⟩ rfl dX7_copyLobes_34 (z_k1 ?_)
      refine z_cv (lv1 := [(0, .ref (z_ad G r)), (1, .int (nI f)), (2, .int (nI g)), (3, .ref (z_ad G q)), (4, .int (nI (f + d)))]) (st1 := [.long (z_cf (σ.2 r) 0 (f + d))]) (σ1 := z_uL σ q (z_fil (z_kl (σ.2 r) f d) (σ.2 q) 24)) rfl (by rw [z_uL2, if_neg hne]) rfl ?_
      refine z_lstore 37 C dX7_copyLobes_37 [(5, .long (z_cf (σ.2 r) 0 (f + d))), (0, .ref (z_ad G r)), (1, .int (nI f)), (2, .int (nI g)), (3, .ref (z_ad G q)), (4, .int (nI (f + d)))] (by decide) rfl ?_
      refine z_aload_n 39 C dX7_copyLobes_39 1 rfl ?_
      refine z_iload 40 C dX7_copyLobes_40 5 rfl ?_
      refine z_iconst 42 C dX7_copyLobes_42 (nI 1) rfl ?_
      refine z_callS 43 C (As := [.ref (z_ad G r), .int (nI (f + d)), .int (nI 1)]) (rest := []) (m_X7_coefficient (σ := z_uL σ q (z_fil (z_kl (σ.2 r) f d) (σ.2 q) 24)) r (f + d) 1 (hr) (by omega) (by omega)) k_X7_coefficient q568 ⟨rfl, rfl⟩ ⟨Nat.le_of_ble_eq_true rfl, Nat.le_of_ble_eq_true rfl⟩ rfl (Nat.le_of_ble_eq_true rfl) ⟨Nat.le_of_ble_eq_true rfl, Nat.le_of_ble_eq_true rfl⟩ rfl dX7_copyLobes_43 (z_k1 ?_)
      refine z_cv (lv1 := [(5, .long (z_cf (σ.2 r) 0 (f + d))), (0, .ref (z_ad G r)), (1, .int (nI f)), (2, .int (nI g)), (3, .ref (z_ad G q)), (4, .int (nI (f + d)))]) (st1 := [.long (z_cf (σ.2 r) 1 (f + d))]) (σ1 := z_uL σ q (z_fil (z_kl (σ.2 r) f d) (σ.2 q) 24)) rfl (by rw [z_uL2, if_neg hne]) rfl ?_
      refine z_lstore 46 C dX7_copyLobes_46 [(7, .long (z_cf (σ.2 r) 1 (f + d))), (5, .long (z_cf (σ.2 r) 0 (f + d))), (0, .ref (z_ad G r)), (1, .int (nI f)), (2, .int (nI g)), (3, .ref (z_ad G q)), (4, .int (nI (f + d)))] (by decide) rfl ?_
      refine z_iconst 48 C dX7_copyLobes_48 (nI 0) rfl ?_
      refine z_istore 49 C dX7_copyLobes_49 [(9, .int (nI 0)), (7, .long (z_cf (σ.2 r) 1 (f + d))), (5, .long (z_cf (σ.2 r) 0 (f + d))), (0, .ref (z_ad G r)), (1, .int (nI f)), (2, .int (nI g)), (3, .ref (z_ad G q)), (4, .int (nI (f + d)))] (by decide) rfl ?_
      refine z_sub [3, 4, 5, 6, 7, 2, 1, 0] (lv1 := [(0, .ref (z_ad G r)), (1, .int (nI f)), (2, .int (nI g)), (3, .ref (z_ad G q)), (4, .int (nI (f + d))), (5, .long (z_cf (σ.2 r) 0 (f + d))), (7, .long (z_cf (σ.2 r) 1 (f + d))), (9, .int (nI 0))]) rfl ?_
      refine z_cv (lv1 := [(0, .ref (z_ad G r)), (1, .int (nI f)), (2, .int (nI g)), (3, .ref (z_ad G q)), (4, .int (nI (f + d))), (5, .long (z_cf (σ.2 r) 0 (f + d))), (7, .long (z_cf (σ.2 r) 1 (f + d))), (9, .int (nI 0))]) (st1 := []) (σ1 := z_uL σ q (z_fil (z_kl (σ.2 r) f (d + 1)) (z_fil (z_kl (σ.2 r) f d) (σ.2 q) 24) 0)) rfl rfl (by rw [z_fil_0]) ?_
      refine z_lp1 (fun (k : Nat) => k ≤ 24) (fun (k : Nat) => 24 - k) (fun (k : Nat) => [(0, .ref (z_ad G r)), (1, .int (nI f)), (2, .int (nI g)), (3, .ref (z_ad G q)), (4, .int (nI (f + d))), (5, .long (z_cf (σ.2 r) 0 (f + d))), (7, .long (z_cf (σ.2 r) 1 (f + d))), (9, .int (nI k))]) (fun (k : Nat) => z_uL σ q (z_fil (z_kl (σ.2 r) f (d + 1)) (z_fil (z_kl (σ.2 r) f d) (σ.2 q) 24) k)) (fun k hi_51 ih_51 => ?_) 0 (by omega)
      try dsimp only
      refine z_iload 51 C dX7_copyLobes_51 7 rfl ?_
      refine z_bipush 53 C dX7_copyLobes_53 (nI 24) rfl ?_
      refine z_icmp_geN 55 C k 24 rfl rfl (by omega) (by omega) 83 dX7_copyLobes_55 (by decide) (fun c55 => ?_) (fun c55 => ?_)
      · skip
        have ek : k = 24 := by omega
        subst ek
        refine z_cv (lv1 := [(0, .ref (z_ad G r)), (1, .int (nI f)), (2, .int (nI g)), (3, .ref (z_ad G q)), (4, .int (nI (f + d))), (5, .long (z_cf (σ.2 r) 0 (f + d))), (7, .long (z_cf (σ.2 r) 1 (f + d))), (9, .int (nI 24))]) (st1 := []) (σ1 := z_uL σ q (z_fil (z_kl (σ.2 r) f (d + 1)) (σ.2 q) 24)) rfl rfl (z_mix σ q _ _ _) ?_
        refine z_iincN 83 C 4 (f + d) [(4, .int (nI (f + d + 1))), (0, .ref (z_ad G r)), (1, .int (nI f)), (2, .int (nI g)), (3, .ref (z_ad G q)), (5, .long (z_cf (σ.2 r) 0 (f + d))), (7, .long (z_cf (σ.2 r) 1 (f + d))), (9, .int (nI 24))] rfl rfl (by decide) rfl dX7_copyLobes_83 ?_
        refine z_goto 86 C 24 dX7_copyLobes_86 (by decide) ?_
        refine z_sub [1, 2, 3, 4, 0] (lv1 := [(0, .ref (z_ad G r)), (1, .int (nI f)), (2, .int (nI g)), (3, .ref (z_ad G q)), (4, .int (nI (f + d + 1)))]) rfl ?_
        refine z_cv (lv1 := [(0, .ref (z_ad G r)), (1, .int (nI f)), (2, .int (nI g)), (3, .ref (z_ad G q)), (4, .int (nI (f + (d + 1))))]) (st1 := []) (σ1 := z_uL σ q (z_fil (z_kl (σ.2 r) f (d + 1)) (σ.2 q) 24)) rfl rfl rfl ?_
        exact ih_24 (d + 1) (by omega) (by omega)
      · skip
        refine z_aload_n 58 C dX7_copyLobes_58 3 rfl ?_
        refine z_iload 59 C dX7_copyLobes_59 7 rfl ?_
        refine z_dup2 61 C dX7_copyLobes_61 rfl rfl ?_
        refine z_laldN 62 C q (n := 24) (hq) k rfl (by omega) (by decide) dX7_copyLobes_62 ?_
        refine z_lload 63 C dX7_copyLobes_63 5 rfl ?_
        refine z_lload 65 C dX7_copyLobes_65 6 rfl ?_
        refine z_iload 67 C dX7_copyLobes_67 4 rfl ?_
        refine z_iload 69 C dX7_copyLobes_69 7 rfl ?_
        refine z_imulN 71 C (f + d) k rfl rfl dX7_copyLobes_71 ?_
        have hhk : (f + d) * k ≤ 12 * 24 := Nat.mul_le_mul (by omega) (by omega)
        refine z_callS 72 C (As := [.long (z_cf (σ.2 r) 0 (f + d)), .long (z_cf (σ.2 r) 1 (f + d)), .int (nI ((f + d) * k))]) (rest := [.long ((z_uL σ q (z_fil (z_kl (σ.2 r) f (d + 1)) (z_fil (z_kl (σ.2 r) f d) (σ.2 q) 24) k)).2 q k), .int (nI k), .ref (z_ad G q)]) (m_X7_wave_n (σ := z_uL σ q (z_fil (z_kl (σ.2 r) f (d + 1)) (z_fil (z_kl (σ.2 r) f d) (σ.2 q) 24) k)) (z_cf (σ.2 r) 0 (f + d)) (z_cf (σ.2 r) 1 (f + d)) ((f + d) * k) (by omega)) k_X7_wave q573 ⟨rfl, rfl⟩ ⟨Nat.le_of_ble_eq_true rfl, Nat.le_of_ble_eq_true rfl⟩ rfl (Nat.le_of_ble_eq_true rfl) ⟨Nat.le_of_ble_eq_true rfl, Nat.le_of_ble_eq_true rfl⟩ rfl dX7_copyLobes_72 (z_k1 ?_)
        refine z_ladd 75 C dX7_copyLobes_75 ?_
        refine z_lastN 76 C q (n := 24) (hq) k rfl (by omega) (by decide) dX7_copyLobes_76 ?_
        refine z_iincN 77 C 7 k [(9, .int (nI (k + 1))), (0, .ref (z_ad G r)), (1, .int (nI f)), (2, .int (nI g)), (3, .ref (z_ad G q)), (4, .int (nI (f + d))), (5, .long (z_cf (σ.2 r) 0 (f + d))), (7, .long (z_cf (σ.2 r) 1 (f + d)))] rfl rfl (by decide) rfl dX7_copyLobes_77 ?_
        refine z_goto 80 C 51 dX7_copyLobes_80 (by decide) ?_
        refine z_sub [1, 2, 3, 4, 5, 6, 7, 0] (lv1 := [(0, .ref (z_ad G r)), (1, .int (nI f)), (2, .int (nI g)), (3, .ref (z_ad G q)), (4, .int (nI (f + d))), (5, .long (z_cf (σ.2 r) 0 (f + d))), (7, .long (z_cf (σ.2 r) 1 (f + d))), (9, .int (nI (k + 1)))]) rfl ?_
        refine z_cv (lv1 := [(0, .ref (z_ad G r)), (1, .int (nI f)), (2, .int (nI g)), (3, .ref (z_ad G q)), (4, .int (nI (f + d))), (5, .long (z_cf (σ.2 r) 0 (f + d))), (7, .long (z_cf (σ.2 r) 1 (f + d))), (9, .int (nI (k + 1)))]) (st1 := []) (σ1 := z_uL σ q (z_fil (z_kl (σ.2 r) f (d + 1)) (z_fil (z_kl (σ.2 r) f d) (σ.2 q) 24) (k + 1))) rfl rfl (z_filSL σ q k _ _ (by rw [z_uL2, if_pos rfl, z_fil_ge (Nat.le_refl k), z_fil_lt c55]; rfl)) ?_
        exact ih_51 (k + 1) (by omega) (by omega)
  · skip
    refine z_aload_n 10 C dX7_copyLobes_10 3 rfl ?_
    refine z_iload 11 C dX7_copyLobes_11 4 rfl ?_
    refine z_lconst 13 C dX7_copyLobes_13 0 rfl ?_
    refine z_lastN 14 C q (n := 24) (hq) k rfl (by omega) (by decide) dX7_copyLobes_14 ?_
    refine z_iincN 15 C 4 k [(4, .int (nI (k + 1))), (0, .ref (z_ad G r)), (1, .int (nI f)), (2, .int (nI g)), (3, .ref (z_ad G q))] rfl rfl (by decide) rfl dX7_copyLobes_15 ?_
    refine z_goto 18 C 3 dX7_copyLobes_18 (by decide) ?_
    refine z_sub [1, 2, 3, 4, 0] (lv1 := [(0, .ref (z_ad G r)), (1, .int (nI f)), (2, .int (nI g)), (3, .ref (z_ad G q)), (4, .int (nI (k + 1)))]) rfl ?_
    refine z_cv (lv1 := [(0, .ref (z_ad G r)), (1, .int (nI f)), (2, .int (nI g)), (3, .ref (z_ad G q)), (4, .int (nI (k + 1)))]) (st1 := []) (σ1 := z_uL σ q (z_fil (fun _ => 0) (σ.2 q) (k + 1))) rfl rfl (z_filSL σ q k _ _ rfl) ?_
    exact ih_3 (k + 1) (by omega) (by omega)
end
section
/-! PURE: the measurement and the simulation -/
def z_su (m : Nat → Int32) (k : Nat) : Nat → Int64
  | 0 => 0
  | j + 1 => z_su m k j + (m (j * 24 + k)).toInt64
def z_sp (m : Nat → Int32) (P k : Nat) : Int64 := z_fd (1000000 * z_su m k P) (lN P)
def z_pa (m : Nat → Int32) (P k : Nat) : Nat → Int64
  | 0 => 0
  | j + 1 => z_pa m P k j + (lN P * (m (j * 24 + (k + j * (24 / P)) % 24)).toInt64 - z_su m ((k + j * (24 / P)) % 24) P)
def z_pt (m : Nat → Int32) (P k : Nat) : Int64 := z_fd (1000000 * z_pa m P k P) (lN P * lN P)
theorem z_lNp {P : Nat} (h0 : 0 < P) (h : P ≤ 12) : 0 < lN P := by
  have := (lN_lt (a := 0) (b := P) (by decide) (by omega)).mpr h0
  exact this
theorem z_lNq {P : Nat} (h0 : 0 < P) (h : P ≤ 12) : 0 < lN P * lN P := by
  rw [lN_mul]
  have h2 : 0 < P * P := Nat.mul_pos h0 h0
  have h3 : P * P ≤ 12 * 12 := Nat.mul_le_mul h h
  exact (lN_lt (a := 0) (b := P * P) (by decide) (by omega)).mpr h2
def z_abI (x : Int32) : Int32 := if x < 0 then -x else x
def z_h2 (x : Int32) : Int32 := Int32.ofInt (x.toInt / 2)
theorem z_h2_t (x : Int32) : (z_h2 x).toInt = x.toInt / 2 := by
  have := fb_rng x
  exact fb_ofI (by omega) (by omega)
theorem z_half (x : Int32) : (x / nI 2).toInt = x.toInt.tdiv 2 ∧ (0 ≤ x.toInt → x.toInt.tdiv 2 = x.toInt / 2) ∧ (x.toInt < 0 → x.toInt.tdiv 2 = -(-x.toInt / 2)) := by
  have hr := z_tdiv_rng x.toInt 2 (by decide)
  exact ⟨Int32.toInt_div_of_ne_right x (nI 2) (by decide), fun h => (hr.1 h).2.2, fun h => (hr.2 h).2.2⟩
theorem z_half2 (x : Int32) : (x / nI 2 * nI 2).toInt = x.toInt.tdiv 2 * 2 := by
  obtain ⟨e, h1, h2⟩ := z_half x
  have h3 := fb_rng x
  have e2 : (nI 2).toInt = 2 := rfl
  have hb : x.toInt.tdiv 2 * 2 ≤ 2147483647 ∧ -2147483648 ≤ x.toInt.tdiv 2 * 2 := by
    rcases Int.lt_or_le x.toInt 0 with q | q
    · rw [h2 q]; omega
    · rw [h1 q]; omega
  rw [fb_mulI (by rw [e, e2]; omega) (by rw [e, e2]; omega), e, e2]
theorem z_h2_1 {x : Int32} (h : 0 ≤ x ^^^ nI 2) : x / nI 2 = z_h2 x := by
  have h0 := z_nn32.mp ((z_xs32 (by decide)).mp h)
  obtain ⟨e, h1, -⟩ := z_half x
  rw [fa_eq, e, z_h2_t, h1 h0]
theorem z_h2_2 {x : Int32} (h : ¬ 0 ≤ x ^^^ nI 2) (h2 : x / nI 2 * nI 2 = x) : x / nI 2 = z_h2 x := by
  have h0 : x.toInt < 0 := Int.not_le.mp (fun z => h ((z_xs32 (a := x) (b := nI 2) (by decide)).mpr (z_nn32.mpr z)))
  obtain ⟨e, -, h1⟩ := z_half x
  rw [fa_eq, z_half2, h1 h0] at h2
  rw [fa_eq, e, z_h2_t, h1 h0]
  omega
theorem z_h2_3 {x : Int32} (h : ¬ 0 ≤ x ^^^ nI 2) (h2 : ¬ x / nI 2 * nI 2 = x) : x / nI 2 - nI 1 = z_h2 x := by
  have h0 : x.toInt < 0 := Int.not_le.mp (fun z => h ((z_xs32 (a := x) (b := nI 2) (by decide)).mpr (z_nn32.mpr z)))
  obtain ⟨e, -, h1⟩ := z_half x
  rw [fa_eq, z_half2, h1 h0] at h2
  have h3 := fb_rng x
  have e3 : (x / nI 2 - nI 1).toInt = (x / nI 2).toInt - 1 := fb_subI (y := nI 1) (by rw [e, h1 h0]; show _ ≤ _ - (1 : Int); omega) (by rw [e, h1 h0]; show _ - (1 : Int) < _; omega)
  rw [fa_eq, e3, e, z_h2_t, h1 h0]
  omega
theorem z_abI_1 {x : Int32} (h : 0 ≤ x) : x = z_abI x := by unfold z_abI; rw [if_neg (Int32.not_lt.mpr h)]
theorem z_abI_2 {x : Int32} (h : ¬ 0 ≤ x) : -x = z_abI x := by unfold z_abI; rw [if_pos (Int32.not_le.mp h)]
/-- a step's readings; spikes -/
def z_rw (m : Nat → Int32) (j : Nat) : Nat → Int32 := fun i => m (j * 24 + i)
def z_sd (o : Nat → Int32) (k : Nat) : Int32 := o ((k + 23) % 24) + o ((k + 1) % 24)
abbrev z_sk (o : Nat → Int32) (L k : Nat) : Prop := nI (2 * L) < z_abI (nI 2 * o k - z_sd o k)
def z_sv (o : Nat → Int32) (L k : Nat) : Int32 := if z_sk o L k then z_h2 (z_sd o k) else o k
def z_sc (o : Nat → Int32) (L : Nat) : Nat → Nat
  | 0 => 0
  | k + 1 => z_sc o L k + if z_sk o L k then 1 else 0
theorem z_sc_1 {o : Nat → Int32} {L k : Nat} (h : z_sk o L k) : z_sc o L (k + 1) = z_sc o L k + 1 := by rw [z_sc, if_pos h]
theorem z_sc_0 {o : Nat → Int32} {L k : Nat} (h : ¬ z_sk o L k) : z_sc o L (k + 1) = z_sc o L k := by rw [z_sc, if_neg h]; rfl
theorem z_fil0p (σ : z_St) (X : Nat → Int32) (g : Nat → Int32) (a : Nat) : z_uI σ 3 X = z_uI (z_uI σ 3 X) 2 (fb_put (σ.1 2) g a 0) := by
  rw [fb_put_0]
  exact (z_uI_same (z_uI σ 3 X) 2).symm
theorem z_sc_le (o : Nat → Int32) (L : Nat) : ∀ k, z_sc o L k ≤ k
  | 0 => Nat.le_refl 0
  | k + 1 => by have := z_sc_le o L k; unfold z_sc; split <;> omega
theorem z_oldr {σ : z_St} {a i : Nat} {X : Nat → Int32} (h : i < 24) : (z_uI (z_uI σ 3 (va_cpy (σ.1 2) (σ.1 3) a 0 24)) 2 X).1 3 i = σ.1 2 (a + i) := by
  show va_cpy (σ.1 2) (σ.1 3) a 0 24 i = _
  rw [pk_cpy_in (Nat.zero_le i) (by omega), Nat.sub_zero]
theorem z_uIu (σ : z_St) (i a k : Nat) (f g : Nat → Int32) {x : Int32} (hx : x = g k) : z_ui (z_uI σ i (fb_put f g a k)) i (a + k) x = z_uI σ i (fb_put f g a (k + 1)) := by
  rw [← fb_put_succ, hx]
  unfold z_ui z_uI
  refine Prod.ext ?_ rfl
  funext b
  by_cases h : b = i
  · subst h; simp
  · simp [h]
theorem z_put_same {α : Type} {f g : Nat → α} {a k : Nat} (h : g k = f (a + k)) : fb_put f g a k = fb_put f g a (k + 1) := by
  funext i
  by_cases h1 : a ≤ i ∧ i < a + k
  · rw [fb_put_in h1.1 h1.2, fb_put_in h1.1 (by omega)]
  · rw [fb_put_out (by omega)]
    by_cases h2 : i = a + k
    · rw [h2, fb_put_in (by omega) (by omega), show a + k - a = k by omega, h]
    · rw [fb_put_out (by omega)]
theorem dJ9_floorDiv_7cf53_0 : decode cJ9_floorDiv_7cf53 0 = .ok (.iload_n 0, 1) := by decide +kernel
theorem dJ9_floorDiv_7cf53_1 : decode cJ9_floorDiv_7cf53 1 = .ok (.iload_n 1, 1) := by decide +kernel
theorem dJ9_floorDiv_7cf53_2 : decode cJ9_floorDiv_7cf53 2 = .ok (.idiv, 1) := by decide +kernel
theorem dJ9_floorDiv_7cf53_3 : decode cJ9_floorDiv_7cf53 3 = .ok (.istore_n 2, 1) := by decide +kernel
theorem dJ9_floorDiv_7cf53_4 : decode cJ9_floorDiv_7cf53 4 = .ok (.iload_n 0, 1) := by decide +kernel
theorem dJ9_floorDiv_7cf53_5 : decode cJ9_floorDiv_7cf53 5 = .ok (.iload_n 1, 1) := by decide +kernel
theorem dJ9_floorDiv_7cf53_6 : decode cJ9_floorDiv_7cf53 6 = .ok (.ixor, 1) := by decide +kernel
theorem dJ9_floorDiv_7cf53_7 : decode cJ9_floorDiv_7cf53 7 = .ok (.ifCond .ge 14, 3) := by decide +kernel
theorem dJ9_floorDiv_7cf53_10 : decode cJ9_floorDiv_7cf53 10 = .ok (.iload_n 2, 1) := by decide +kernel
theorem dJ9_floorDiv_7cf53_11 : decode cJ9_floorDiv_7cf53 11 = .ok (.iload_n 1, 1) := by decide +kernel
theorem dJ9_floorDiv_7cf53_12 : decode cJ9_floorDiv_7cf53 12 = .ok (.imul, 1) := by decide +kernel
theorem dJ9_floorDiv_7cf53_13 : decode cJ9_floorDiv_7cf53 13 = .ok (.iload_n 0, 1) := by decide +kernel
theorem dJ9_floorDiv_7cf53_14 : decode cJ9_floorDiv_7cf53 14 = .ok (.if_icmp .eq 7, 3) := by decide +kernel
theorem dJ9_floorDiv_7cf53_17 : decode cJ9_floorDiv_7cf53 17 = .ok (.iload_n 2, 1) := by decide +kernel
theorem dJ9_floorDiv_7cf53_18 : decode cJ9_floorDiv_7cf53 18 = .ok (.iconst 1, 1) := by decide +kernel
theorem dJ9_floorDiv_7cf53_19 : decode cJ9_floorDiv_7cf53 19 = .ok (.isub, 1) := by decide +kernel
theorem dJ9_floorDiv_7cf53_20 : decode cJ9_floorDiv_7cf53 20 = .ok (.ireturn, 1) := by decide +kernel
theorem dJ9_floorDiv_7cf53_21 : decode cJ9_floorDiv_7cf53 21 = .ok (.iload_n 2, 1) := by decide +kernel
theorem dJ9_floorDiv_7cf53_22 : decode cJ9_floorDiv_7cf53 22 = .ok (.ireturn, 1) := by decide +kernel
set_option maxRecDepth 100000 in
set_option maxHeartbeats 4000000 in
theorem m_J9_floorDiv_7cf53 {l : Launch} {G : z_Gl} {σ : z_St} (x : Int32) : z_M l G yJ9_floorDiv_7cf53 cJ9_floorDiv_7cf53 3 (some .int) (z_rm 0 0) [.int x, .int (nI 2)] σ (z_p1 (.int (z_h2 x)) σ) := by
  refine z_Mj.of (by decide +kernel) (Nat.le_of_ble_eq_true rfl) (fun p S e s m below meth c s1 C hP => ?_)
  refine j_sub [0, 1] (lv1 := [(0, .int x), (1, .int (nI 2))]) rfl ?_
  refine j_iload_n 0 C dJ9_floorDiv_7cf53_0 0 rfl ?_
  refine j_iload_n 1 C dJ9_floorDiv_7cf53_1 1 rfl ?_
  refine j_idiv 2 C dJ9_floorDiv_7cf53_2 (by decide) ?_
  refine j_istore_n 3 C dJ9_floorDiv_7cf53_3 [(2, .int (x / (nI 2))), (0, .int x), (1, .int (nI 2))] (by decide) rfl ?_
  refine j_iload_n 4 C dJ9_floorDiv_7cf53_4 1 rfl ?_
  refine j_iload_n 5 C dJ9_floorDiv_7cf53_5 2 rfl ?_
  refine j_ixor 6 C dJ9_floorDiv_7cf53_6 ?_
  refine j_if_ge 7 C 21 dJ9_floorDiv_7cf53_7 (by decide) (fun c7 => ?_) (fun c7 => ?_)
  · skip
    refine j_iload_n 21 C dJ9_floorDiv_7cf53_21 0 rfl ?_
    refine j_iret 22 C hP dJ9_floorDiv_7cf53_22 ?_
    first | exact ⟨z_ci (z_h2_1 c7), rfl⟩ | exact ⟨z_ci (z_h2_2 c7 c14), rfl⟩
  · skip
    refine j_iload_n 10 C dJ9_floorDiv_7cf53_10 0 rfl ?_
    refine j_iload_n 11 C dJ9_floorDiv_7cf53_11 2 rfl ?_
    refine j_imul 12 C dJ9_floorDiv_7cf53_12 ?_
    refine j_iload_n 13 C dJ9_floorDiv_7cf53_13 1 rfl ?_
    refine j_icmp_eq 14 C 21 dJ9_floorDiv_7cf53_14 (by decide) (fun c14 => ?_) (fun c14 => ?_)
    · skip
      refine j_iload_n 21 C dJ9_floorDiv_7cf53_21 0 rfl ?_
      refine j_iret 22 C hP dJ9_floorDiv_7cf53_22 ?_
      first | exact ⟨z_ci (z_h2_1 c7), rfl⟩ | exact ⟨z_ci (z_h2_2 c7 c14), rfl⟩
    · skip
      refine j_iload_n 17 C dJ9_floorDiv_7cf53_17 0 rfl ?_
      refine j_iconst 18 C dJ9_floorDiv_7cf53_18 (nI 1) rfl ?_
      refine j_isub 19 C dJ9_floorDiv_7cf53_19 ?_
      refine j_iret 20 C hP dJ9_floorDiv_7cf53_20 ?_
      exact ⟨z_ci (z_h2_3 c7 c14), rfl⟩
theorem dJ9_abs_0f7a4_0 : decode cJ9_abs_0f7a4 0 = .ok (.iload_n 0, 1) := by decide +kernel
theorem dJ9_abs_0f7a4_1 : decode cJ9_abs_0f7a4 1 = .ok (.ifCond .ge 8, 3) := by decide +kernel
theorem dJ9_abs_0f7a4_4 : decode cJ9_abs_0f7a4 4 = .ok (.iload_n 0, 1) := by decide +kernel
theorem dJ9_abs_0f7a4_5 : decode cJ9_abs_0f7a4 5 = .ok (.ineg, 1) := by decide +kernel
theorem dJ9_abs_0f7a4_6 : decode cJ9_abs_0f7a4 6 = .ok (.goto 4, 3) := by decide +kernel
theorem dJ9_abs_0f7a4_9 : decode cJ9_abs_0f7a4 9 = .ok (.iload_n 0, 1) := by decide +kernel
theorem dJ9_abs_0f7a4_10 : decode cJ9_abs_0f7a4 10 = .ok (.ireturn, 1) := by decide +kernel
set_option maxRecDepth 100000 in
set_option maxHeartbeats 4000000 in
theorem m_J9_abs_0f7a4 {l : Launch} {G : z_Gl} {σ : z_St} (x : Int32) : z_M l G yJ9_abs_0f7a4 cJ9_abs_0f7a4 1 (some .int) (z_rm 0 0) [.int x] σ (z_p1 (.int (z_abI x)) σ) := by
  refine z_Mj.of (by decide +kernel) (Nat.le_of_ble_eq_true rfl) (fun p S e s m below meth c s1 C hP => ?_)
  refine j_sub [0] (lv1 := [(0, .int x)]) rfl ?_
  refine j_iload_n 0 C dJ9_abs_0f7a4_0 0 rfl ?_
  refine j_if_ge 1 C 9 dJ9_abs_0f7a4_1 (by decide) (fun c1 => ?_) (fun c1 => ?_)
  · skip
    refine j_iload_n 9 C dJ9_abs_0f7a4_9 0 rfl ?_
    refine j_iret 10 C hP dJ9_abs_0f7a4_10 ?_
    first | exact ⟨z_ci (z_abI_1 c1), rfl⟩ | exact ⟨z_ci (z_abI_2 c1), rfl⟩
  · skip
    refine j_iload_n 4 C dJ9_abs_0f7a4_4 0 rfl ?_
    refine j_ineg 5 C dJ9_abs_0f7a4_5 ?_
    refine j_goto 6 C 10 dJ9_abs_0f7a4_6 (by decide) ?_
    refine j_iret 10 C hP dJ9_abs_0f7a4_10 ?_
    first | exact ⟨z_ci (z_abI_1 c1), rfl⟩ | exact ⟨z_ci (z_abI_2 c1), rfl⟩
theorem dX2_begin_0 : decode cX2_begin 0 = .ok (.aload_n 0, 1) := by decide +kernel
theorem dX2_begin_1 : decode cX2_begin 1 = .ok (.iload_n 1, 1) := by decide +kernel
theorem dX2_begin_2 : decode cX2_begin 2 = .ok (.putfield 22, 3) := by decide +kernel
theorem dX2_begin_5 : decode cX2_begin 5 = .ok (.aload_n 0, 1) := by decide +kernel
theorem dX2_begin_6 : decode cX2_begin 6 = .ok (.iconst 0, 1) := by decide +kernel
theorem dX2_begin_7 : decode cX2_begin 7 = .ok (.putfield 26, 3) := by decide +kernel
theorem dX2_begin_10 : decode cX2_begin 10 = .ok (.return_, 1) := by decide +kernel
set_option maxRecDepth 100000 in
set_option maxHeartbeats 4000000 in
theorem m_X2_begin {l : Launch} {G : z_Gl} {σ : z_St} (x : Int32) : z_M l G yX2_begin cX2_begin 2 none (z_rm 0 0) [.ref (z_ad G 1), .int x] σ (z_p0 (z_ui (z_ui σ 1 3 x) 1 4 (nI 0))) := by
  refine z_M.of (by decide) (Nat.le_of_ble_eq_true rfl) (fun p e s m below meth c C => ?_)
  refine z_sub [0, 1] (lv1 := [(0, .ref (z_ad G 1)), (1, .int x)]) rfl ?_
  refine z_aload_n 0 C dX2_begin_0 0 rfl ?_
  refine z_iload_n 1 C dX2_begin_1 1 rfl ?_
  refine z_puti 2 C 1 z_dX2 (⟨rfl, rfl⟩) 3 (by decide) q130 rfl (rfl) rfl ⟨Nat.le_of_ble_eq_true rfl, rfl⟩ dX2_begin_2 ?_
  refine z_aload_n 5 C dX2_begin_5 0 rfl ?_
  refine z_iconst 6 C dX2_begin_6 (nI 0) rfl ?_
  refine z_puti 7 C 1 z_dX2 (⟨rfl, rfl⟩) 4 (by decide) q132 rfl (rfl) rfl ⟨Nat.le_of_ble_eq_true rfl, rfl⟩ dX2_begin_7 ?_
  refine z_vret 10 C dX2_begin_10 ?_
  exact ⟨rfl, rfl⟩
theorem dX2_isComplete_0 : decode cX2_isComplete 0 = .ok (.aload_n 0, 1) := by decide +kernel
theorem dX2_isComplete_1 : decode cX2_isComplete 1 = .ok (.getfield 26, 3) := by decide +kernel
theorem dX2_isComplete_4 : decode cX2_isComplete 4 = .ok (.aload_n 0, 1) := by decide +kernel
theorem dX2_isComplete_5 : decode cX2_isComplete 5 = .ok (.getfield 22, 3) := by decide +kernel
theorem dX2_isComplete_8 : decode cX2_isComplete 8 = .ok (.bipush 24, 2) := by decide +kernel
theorem dX2_isComplete_10 : decode cX2_isComplete 10 = .ok (.imul, 1) := by decide +kernel
theorem dX2_isComplete_11 : decode cX2_isComplete 11 = .ok (.if_icmp .lt 7, 3) := by decide +kernel
theorem dX2_isComplete_14 : decode cX2_isComplete 14 = .ok (.iconst 1, 1) := by decide +kernel
theorem dX2_isComplete_15 : decode cX2_isComplete 15 = .ok (.goto 4, 3) := by decide +kernel
theorem dX2_isComplete_18 : decode cX2_isComplete 18 = .ok (.iconst 0, 1) := by decide +kernel
theorem dX2_isComplete_19 : decode cX2_isComplete 19 = .ok (.ireturn, 1) := by decide +kernel
set_option maxRecDepth 100000 in
set_option maxHeartbeats 4000000 in
theorem m_X2_isComplete {l : Launch} {G : z_Gl} {σ : z_St} (P n : Nat) (hP : σ.1 1 3 = nI P) (hn : σ.1 1 4 = nI n) (h12 : P ≤ 12) (h288 : n ≤ 288) : z_M l G yX2_isComplete cX2_isComplete 1 (some .boolean) (z_rm 0 0) [.ref (z_ad G 1)] σ (z_p1 (.int (z_bo (P * 24 ≤ n))) σ) := by
  refine z_M.of (by decide) (Nat.le_of_ble_eq_true rfl) (fun p e s m below meth c C => ?_)
  refine z_sub [0] (lv1 := [(0, .ref (z_ad G 1))]) rfl ?_
  refine z_aload_n 0 C dX2_isComplete_0 0 rfl ?_
  refine z_getf 1 C 1 z_dX2 (⟨rfl, rfl⟩) 4 (by decide) q132 (.int (nI n)) (z_ci hn) dX2_isComplete_1 ?_
  refine z_aload_n 4 C dX2_isComplete_4 0 rfl ?_
  refine z_getf 5 C 1 z_dX2 (⟨rfl, rfl⟩) 3 (by decide) q130 (.int (nI P)) (z_ci hP) dX2_isComplete_5 ?_
  refine z_bipush 8 C dX2_isComplete_8 (nI 24) rfl ?_
  refine z_imulN 10 C P 24 rfl rfl dX2_isComplete_10 ?_
  refine z_icmp_ltN 11 C n (P * 24) rfl rfl (by omega) (by omega) 18 dX2_isComplete_11 (by decide) (fun c11 => ?_) (fun c11 => ?_)
  · skip
    refine z_iconst 18 C dX2_isComplete_18 (nI 0) rfl ?_
    refine z_zret 19 C (rfl) dX2_isComplete_19 ?_
    first | exact ⟨z_ci (z_bo_f (Nat.not_le.mpr c11)), rfl⟩ | exact ⟨z_ci (z_bo_t c11), rfl⟩
  · skip
    refine z_iconst 14 C dX2_isComplete_14 (nI 1) rfl ?_
    refine z_goto 15 C 19 dX2_isComplete_15 (by decide) ?_
    refine z_zret 19 C (rfl) dX2_isComplete_19 ?_
    first | exact ⟨z_ci (z_bo_f (Nat.not_le.mpr c11)), rfl⟩ | exact ⟨z_ci (z_bo_t c11), rfl⟩
theorem dX2_finishedSteps_0 : decode cX2_finishedSteps 0 = .ok (.aload_n 0, 1) := by decide +kernel
theorem dX2_finishedSteps_1 : decode cX2_finishedSteps 1 = .ok (.getfield 26, 3) := by decide +kernel
theorem dX2_finishedSteps_4 : decode cX2_finishedSteps 4 = .ok (.bipush 24, 2) := by decide +kernel
theorem dX2_finishedSteps_6 : decode cX2_finishedSteps 6 = .ok (.idiv, 1) := by decide +kernel
theorem dX2_finishedSteps_7 : decode cX2_finishedSteps 7 = .ok (.ireturn, 1) := by decide +kernel
set_option maxRecDepth 100000 in
set_option maxHeartbeats 4000000 in
theorem m_X2_finishedSteps {l : Launch} {G : z_Gl} {σ : z_St} (n : Nat) (hn : σ.1 1 4 = nI n) (h288 : n ≤ 288) : z_M l G yX2_finishedSteps cX2_finishedSteps 1 (some .int) (z_rm 0 0) [.ref (z_ad G 1)] σ (z_p1 (.int (nI (n / 24))) σ) := by
  refine z_M.of (by decide) (Nat.le_of_ble_eq_true rfl) (fun p e s m below meth c C => ?_)
  refine z_sub [0] (lv1 := [(0, .ref (z_ad G 1))]) rfl ?_
  refine z_aload_n 0 C dX2_finishedSteps_0 0 rfl ?_
  refine z_getf 1 C 1 z_dX2 (⟨rfl, rfl⟩) 4 (by decide) q132 (.int (nI n)) (z_ci hn) dX2_finishedSteps_1 ?_
  refine z_bipush 4 C dX2_finishedSteps_4 (nI 24) rfl ?_
  refine z_idivN 6 C n 24 rfl rfl (by omega) (by omega) (by omega) dX2_finishedSteps_6 ?_
  refine z_iret 7 C dX2_finishedSteps_7 ?_
  exact ⟨rfl, rfl⟩
theorem dX2_nextPosition_0 : decode cX2_nextPosition 0 = .ok (.aload_n 0, 1) := by decide +kernel
theorem dX2_nextPosition_1 : decode cX2_nextPosition 1 = .ok (.getfield 26, 3) := by decide +kernel
theorem dX2_nextPosition_4 : decode cX2_nextPosition 4 = .ok (.bipush 24, 2) := by decide +kernel
theorem dX2_nextPosition_6 : decode cX2_nextPosition 6 = .ok (.irem, 1) := by decide +kernel
theorem dX2_nextPosition_7 : decode cX2_nextPosition 7 = .ok (.ireturn, 1) := by decide +kernel
set_option maxRecDepth 100000 in
set_option maxHeartbeats 4000000 in
theorem m_X2_nextPosition {l : Launch} {G : z_Gl} {σ : z_St} (n : Nat) (hn : σ.1 1 4 = nI n) (h288 : n ≤ 288) : z_M l G yX2_nextPosition cX2_nextPosition 1 (some .int) (z_rm 0 0) [.ref (z_ad G 1)] σ (z_p1 (.int (nI (n % 24))) σ) := by
  refine z_M.of (by decide) (Nat.le_of_ble_eq_true rfl) (fun p e s m below meth c C => ?_)
  refine z_sub [0] (lv1 := [(0, .ref (z_ad G 1))]) rfl ?_
  refine z_aload_n 0 C dX2_nextPosition_0 0 rfl ?_
  refine z_getf 1 C 1 z_dX2 (⟨rfl, rfl⟩) 4 (by decide) q132 (.int (nI n)) (z_ci hn) dX2_nextPosition_1 ?_
  refine z_bipush 4 C dX2_nextPosition_4 (nI 24) rfl ?_
  refine z_iremN 6 C n 24 rfl rfl (by omega) (by omega) (by omega) dX2_nextPosition_6 ?_
  refine z_iret 7 C dX2_nextPosition_7 ?_
  exact ⟨rfl, rfl⟩
theorem dX2_turnOf_0 : decode cX2_turnOf 0 = .ok (.aload_n 0, 1) := by decide +kernel
theorem dX2_turnOf_1 : decode cX2_turnOf 1 = .ok (.getfield 22, 3) := by decide +kernel
theorem dX2_turnOf_4 : decode cX2_turnOf 4 = .ok (.ifCond .ne 7, 3) := by decide +kernel
theorem dX2_turnOf_11 : decode cX2_turnOf 11 = .ok (.iload_n 1, 1) := by decide +kernel
theorem dX2_turnOf_12 : decode cX2_turnOf 12 = .ok (.bipush 24, 2) := by decide +kernel
theorem dX2_turnOf_14 : decode cX2_turnOf 14 = .ok (.aload_n 0, 1) := by decide +kernel
theorem dX2_turnOf_15 : decode cX2_turnOf 15 = .ok (.getfield 22, 3) := by decide +kernel
theorem dX2_turnOf_18 : decode cX2_turnOf 18 = .ok (.idiv, 1) := by decide +kernel
theorem dX2_turnOf_19 : decode cX2_turnOf 19 = .ok (.imul, 1) := by decide +kernel
theorem dX2_turnOf_20 : decode cX2_turnOf 20 = .ok (.ireturn, 1) := by decide +kernel
set_option maxRecDepth 100000 in
set_option maxHeartbeats 4000000 in
theorem m_X2_turnOf {l : Launch} {G : z_Gl} {σ : z_St} (P : Nat) (hP : σ.1 1 3 = nI P) (h0 : 0 < P) (h12 : P ≤ 12) (j : Nat) : z_M l G yX2_turnOf cX2_turnOf 2 (some .int) (z_rm 0 0) [.ref (z_ad G 1), .int (nI j)] σ (z_p1 (.int (nI (j * (24 / P)))) σ) := by
  refine z_M.of (by decide) (Nat.le_of_ble_eq_true rfl) (fun p e s m below meth c C => ?_)
  refine z_sub [0, 1] (lv1 := [(0, .ref (z_ad G 1)), (1, .int (nI j))]) rfl ?_
  refine z_aload_n 0 C dX2_turnOf_0 0 rfl ?_
  refine z_getf 1 C 1 z_dX2 (⟨rfl, rfl⟩) 3 (by decide) q130 (.int (nI P)) (z_ci hP) dX2_turnOf_1 ?_
  refine z_if_ne 4 C 11 dX2_turnOf_4 (by decide) (fun c4 => ?_) (fun c4 => ?_)
  · skip
    refine z_iload_n 11 C dX2_turnOf_11 1 rfl ?_
    refine z_bipush 12 C dX2_turnOf_12 (nI 24) rfl ?_
    refine z_aload_n 14 C dX2_turnOf_14 0 rfl ?_
    refine z_getf 15 C 1 z_dX2 (⟨rfl, rfl⟩) 3 (by decide) q130 (.int (nI P)) (z_ci hP) dX2_turnOf_15 ?_
    refine z_idivN 18 C 24 P rfl rfl (by omega) (by omega) (by omega) dX2_turnOf_18 ?_
    refine z_imulN 19 C j (24 / P) rfl rfl dX2_turnOf_19 ?_
    refine z_iret 20 C dX2_turnOf_20 ?_
    exact ⟨rfl, rfl⟩
  · skip
    exact absurd ((z_nI0 (by omega)).mp c4) (by omega)
theorem dX2_append_0 : decode cX2_append 0 = .ok (.aload_n 0, 1) := by decide +kernel
theorem dX2_append_1 : decode cX2_append 1 = .ok (.getfield 26, 3) := by decide +kernel
theorem dX2_append_4 : decode cX2_append 4 = .ok (.aload_n 0, 1) := by decide +kernel
theorem dX2_append_5 : decode cX2_append 5 = .ok (.getfield 9, 3) := by decide +kernel
theorem dX2_append_8 : decode cX2_append 8 = .ok (.arraylength, 1) := by decide +kernel
theorem dX2_append_9 : decode cX2_append 9 = .ok (.if_icmp .ge 23, 3) := by decide +kernel
theorem dX2_append_12 : decode cX2_append 12 = .ok (.aload_n 0, 1) := by decide +kernel
theorem dX2_append_13 : decode cX2_append 13 = .ok (.getfield 9, 3) := by decide +kernel
theorem dX2_append_16 : decode cX2_append 16 = .ok (.aload_n 0, 1) := by decide +kernel
theorem dX2_append_17 : decode cX2_append 17 = .ok (.getfield 26, 3) := by decide +kernel
theorem dX2_append_20 : decode cX2_append 20 = .ok (.iload_n 1, 1) := by decide +kernel
theorem dX2_append_21 : decode cX2_append 21 = .ok (.iastore, 1) := by decide +kernel
theorem dX2_append_22 : decode cX2_append 22 = .ok (.aload_n 0, 1) := by decide +kernel
theorem dX2_append_23 : decode cX2_append 23 = .ok (.dup, 1) := by decide +kernel
theorem dX2_append_24 : decode cX2_append 24 = .ok (.getfield 26, 3) := by decide +kernel
theorem dX2_append_27 : decode cX2_append 27 = .ok (.iconst 1, 1) := by decide +kernel
theorem dX2_append_28 : decode cX2_append 28 = .ok (.iadd, 1) := by decide +kernel
theorem dX2_append_29 : decode cX2_append 29 = .ok (.putfield 26, 3) := by decide +kernel
theorem dX2_append_32 : decode cX2_append 32 = .ok (.return_, 1) := by decide +kernel
set_option maxRecDepth 100000 in
set_option maxHeartbeats 4000000 in
theorem m_X2_append {l : Launch} {G : z_Gl} {σ : z_St} (n : Nat) (hn : σ.1 1 4 = nI n) (h288 : n < 288) (x : Int32) : z_M l G yX2_append cX2_append 2 none (z_rm 0 0) [.ref (z_ad G 1), .int x] σ (z_p0 (z_ui (z_ui σ 2 n x) 1 4 (nI (n + 1)))) := by
  refine z_M.of (by decide) (Nat.le_of_ble_eq_true rfl) (fun p e s m below meth c C => ?_)
  refine z_sub [0, 1] (lv1 := [(0, .ref (z_ad G 1)), (1, .int x)]) rfl ?_
  refine z_aload_n 0 C dX2_append_0 0 rfl ?_
  refine z_getf 1 C 1 z_dX2 (⟨rfl, rfl⟩) 4 (by decide) q132 (.int (nI n)) (z_ci hn) dX2_append_1 ?_
  refine z_aload_n 4 C dX2_append_4 0 rfl ?_
  refine z_getf 5 C 1 z_dX2 (⟨rfl, rfl⟩) 0 (by decide) q127 (.ref (z_ad G 2)) rfl dX2_append_5 ?_
  refine z_alen 8 C 2 ⟨rfl, rfl⟩ dX2_append_8 ?_
  refine z_cv (st1 := [.int (nI 288), .int (nI n)]) rfl rfl rfl ?_
  refine z_icmp_geN 9 C n 288 rfl rfl (by omega) (by omega) 32 dX2_append_9 (by decide) (fun c9 => ?_) (fun c9 => ?_)
  · skip
    exact absurd c9 (by omega)
  · skip
    refine z_aload_n 12 C dX2_append_12 0 rfl ?_
    refine z_getf 13 C 1 z_dX2 (⟨rfl, rfl⟩) 0 (by decide) q127 (.ref (z_ad G 2)) rfl dX2_append_13 ?_
    refine z_aload_n 16 C dX2_append_16 0 rfl ?_
    refine z_getf 17 C 1 z_dX2 (⟨rfl, rfl⟩) 4 (by decide) q132 (.int (nI n)) (z_ci hn) dX2_append_17 ?_
    refine z_iload_n 20 C dX2_append_20 1 rfl ?_
    refine z_iastN 21 C 2 (n := 288) (⟨rfl, rfl⟩) n rfl (by omega) (by decide) dX2_append_21 ?_
    refine z_aload_n 22 C dX2_append_22 0 rfl ?_
    refine z_dup 23 C dX2_append_23 rfl ?_
    refine z_getf 24 C 1 z_dX2 (⟨rfl, rfl⟩) 4 (by decide) q132 (.int (nI n)) (z_ci hn) dX2_append_24 ?_
    refine z_iconst 27 C dX2_append_27 (nI 1) rfl ?_
    refine z_iaddN 28 C n 1 rfl rfl dX2_append_28 ?_
    refine z_puti 29 C 1 z_dX2 (⟨rfl, rfl⟩) 4 (by decide) q132 rfl (rfl) rfl ⟨Nat.le_of_ble_eq_true rfl, rfl⟩ dX2_append_29 ?_
    refine z_vret 32 C dX2_append_32 ?_
    exact ⟨rfl, rfl⟩
theorem dX2_at_0 : decode cX2_at 0 = .ok (.aload_n 0, 1) := by decide +kernel
theorem dX2_at_1 : decode cX2_at 1 = .ok (.getfield 9, 3) := by decide +kernel
theorem dX2_at_4 : decode cX2_at 4 = .ok (.iload_n 1, 1) := by decide +kernel
theorem dX2_at_5 : decode cX2_at 5 = .ok (.bipush 24, 2) := by decide +kernel
theorem dX2_at_7 : decode cX2_at 7 = .ok (.imul, 1) := by decide +kernel
theorem dX2_at_8 : decode cX2_at 8 = .ok (.iload_n 2, 1) := by decide +kernel
theorem dX2_at_9 : decode cX2_at 9 = .ok (.bipush 24, 2) := by decide +kernel
theorem dX2_at_11 : decode cX2_at 11 = .ok (.invokestatic 29, 3) := by decide +kernel
theorem dX2_at_14 : decode cX2_at 14 = .ok (.iadd, 1) := by decide +kernel
theorem dX2_at_15 : decode cX2_at 15 = .ok (.iaload, 1) := by decide +kernel
theorem dX2_at_16 : decode cX2_at 16 = .ok (.ireturn, 1) := by decide +kernel
set_option maxRecDepth 100000 in
set_option maxHeartbeats 4000000 in
theorem m_X2_at {l : Launch} {G : z_Gl} {σ : z_St} (j k : Nat) (hj : j < 12) (hk : k < 2 ^ 31) : z_M l G yX2_at cX2_at 3 (some .int) (z_rm 1 22) [.ref (z_ad G 1), .int (nI j), .int (nI k)] σ (z_p1 (.int (σ.1 2 (j * 24 + k % 24))) σ) := by
  refine z_M.of (by decide) (Nat.le_of_ble_eq_true rfl) (fun p e s m below meth c C => ?_)
  refine z_sub [0, 1, 2] (lv1 := [(0, .ref (z_ad G 1)), (1, .int (nI j)), (2, .int (nI k))]) rfl ?_
  refine z_aload_n 0 C dX2_at_0 0 rfl ?_
  refine z_getf 1 C 1 z_dX2 (⟨rfl, rfl⟩) 0 (by decide) q127 (.ref (z_ad G 2)) rfl dX2_at_1 ?_
  refine z_iload_n 4 C dX2_at_4 1 rfl ?_
  refine z_bipush 5 C dX2_at_5 (nI 24) rfl ?_
  refine z_imulN 7 C j 24 rfl rfl dX2_at_7 ?_
  refine z_iload_n 8 C dX2_at_8 2 rfl ?_
  refine z_bipush 9 C dX2_at_9 (nI 24) rfl ?_
  refine z_callS 11 C (As := [.int (nI k), .int (nI 24)]) (rest := [.int (nI (j * 24)), .ref (z_ad G 2)]) (m_J9_floorMod_7cf53 (nI k)) k_J9_floorMod_7cf53 q452 ⟨rfl, rfl⟩ ⟨Nat.le_of_ble_eq_true rfl, Nat.le_of_ble_eq_true rfl⟩ rfl (Nat.le_of_ble_eq_true rfl) ⟨Nat.le_of_ble_eq_true rfl, Nat.le_of_ble_eq_true rfl⟩ rfl dX2_at_11 (z_k1 ?_)
  rw [z_pm_n hk]
  refine z_cv (lv1 := [(0, .ref (z_ad G 1)), (1, .int (nI j)), (2, .int (nI k))]) (st1 := [.int (nI (k % 24)), .int (nI (j * 24)), .ref (z_ad G 2)]) (σ1 := σ) rfl rfl rfl ?_
  refine z_iaddN 14 C (j * 24) (k % 24) rfl rfl dX2_at_14 ?_
  refine z_ialdN 15 C 2 (n := 288) (⟨rfl, rfl⟩) ((j * 24) + (k % 24)) rfl (by omega) (by decide) dX2_at_15 ?_
  refine z_iret 16 C dX2_at_16 ?_
  exact ⟨rfl, rfl⟩
theorem dX2_sumAt_0 : decode cX2_sumAt 0 = .ok (.lconst 0, 1) := by decide +kernel
theorem dX2_sumAt_1 : decode cX2_sumAt 1 = .ok (.lstore_n 2, 1) := by decide +kernel
theorem dX2_sumAt_2 : decode cX2_sumAt 2 = .ok (.iconst 0, 1) := by decide +kernel
theorem dX2_sumAt_3 : decode cX2_sumAt 3 = .ok (.istore 4, 2) := by decide +kernel
theorem dX2_sumAt_5 : decode cX2_sumAt 5 = .ok (.iload 4, 2) := by decide +kernel
theorem dX2_sumAt_7 : decode cX2_sumAt 7 = .ok (.aload_n 0, 1) := by decide +kernel
theorem dX2_sumAt_8 : decode cX2_sumAt 8 = .ok (.getfield 22, 3) := by decide +kernel
theorem dX2_sumAt_11 : decode cX2_sumAt 11 = .ok (.if_icmp .ge 20, 3) := by decide +kernel
theorem dX2_sumAt_14 : decode cX2_sumAt 14 = .ok (.lload_n 2, 1) := by decide +kernel
theorem dX2_sumAt_15 : decode cX2_sumAt 15 = .ok (.aload_n 0, 1) := by decide +kernel
theorem dX2_sumAt_16 : decode cX2_sumAt 16 = .ok (.iload 4, 2) := by decide +kernel
theorem dX2_sumAt_18 : decode cX2_sumAt 18 = .ok (.iload_n 1, 1) := by decide +kernel
theorem dX2_sumAt_19 : decode cX2_sumAt 19 = .ok (.invokevirtual 51, 3) := by decide +kernel
theorem dX2_sumAt_22 : decode cX2_sumAt 22 = .ok (.i2l, 1) := by decide +kernel
theorem dX2_sumAt_23 : decode cX2_sumAt 23 = .ok (.ladd, 1) := by decide +kernel
theorem dX2_sumAt_24 : decode cX2_sumAt 24 = .ok (.lstore_n 2, 1) := by decide +kernel
theorem dX2_sumAt_25 : decode cX2_sumAt 25 = .ok (.iinc 4 1, 3) := by decide +kernel
theorem dX2_sumAt_28 : decode cX2_sumAt 28 = .ok (.goto (-23), 3) := by decide +kernel
theorem dX2_sumAt_31 : decode cX2_sumAt 31 = .ok (.lload_n 2, 1) := by decide +kernel
theorem dX2_sumAt_32 : decode cX2_sumAt 32 = .ok (.lreturn, 1) := by decide +kernel
set_option maxRecDepth 100000 in
set_option maxHeartbeats 4000000 in
theorem m_X2_sumAt {l : Launch} {G : z_Gl} {σ : z_St} (P : Nat) (hP : σ.1 1 3 = nI P) (h0 : 0 < P) (h12 : P ≤ 12) (k : Nat) (hk : k < 2 ^ 31) : z_M l G yX2_sumAt cX2_sumAt 5 (some .long) (z_rm 2 44) [.ref (z_ad G 1), .int (nI k)] σ (z_p1 (.long (z_su (σ.1 2) (k % 24) P)) σ) := by
  refine z_M.of (by decide) (Nat.le_of_ble_eq_true rfl) (fun p e s m below meth c C => ?_)
  refine z_sub [0, 1] (lv1 := [(0, .ref (z_ad G 1)), (1, .int (nI k))]) rfl ?_
  refine z_lconst 0 C dX2_sumAt_0 0 rfl ?_
  refine z_lstore_n 1 C dX2_sumAt_1 [(2, .long 0), (0, .ref (z_ad G 1)), (1, .int (nI k))] (by decide) rfl ?_
  refine z_iconst 2 C dX2_sumAt_2 (nI 0) rfl ?_
  refine z_istore 3 C dX2_sumAt_3 [(4, .int (nI 0)), (2, .long 0), (0, .ref (z_ad G 1)), (1, .int (nI k))] (by decide) rfl ?_
  refine z_sub [2, 3, 1, 0] (lv1 := [(0, .ref (z_ad G 1)), (1, .int (nI k)), (2, .long 0), (4, .int (nI 0))]) rfl ?_
  refine z_cv (lv1 := [(0, .ref (z_ad G 1)), (1, .int (nI k)), (2, .long (z_su (σ.1 2) (k % 24) 0)), (4, .int (nI 0))]) (st1 := []) (σ1 := σ) rfl rfl rfl ?_
  refine z_lp1 (fun (j : Nat) => j ≤ P) (fun (j : Nat) => P - j) (fun (j : Nat) => [(0, .ref (z_ad G 1)), (1, .int (nI k)), (2, .long (z_su (σ.1 2) (k % 24) j)), (4, .int (nI j))]) (fun (j : Nat) => σ) (fun j hi_5 ih_5 => ?_) 0 (by omega)
  try dsimp only
  refine z_iload 5 C dX2_sumAt_5 3 rfl ?_
  refine z_aload_n 7 C dX2_sumAt_7 0 rfl ?_
  refine z_getf 8 C 1 z_dX2 (⟨rfl, rfl⟩) 3 (by decide) q130 (.int (nI P)) (z_ci hP) dX2_sumAt_8 ?_
  refine z_icmp_geN 11 C j P rfl rfl (by omega) (by omega) 31 dX2_sumAt_11 (by decide) (fun c11 => ?_) (fun c11 => ?_)
  · skip
    have ej : j = P := by omega
    subst ej
    refine z_lload_n 31 C dX2_sumAt_31 2 rfl ?_
    refine z_lret 32 C dX2_sumAt_32 ?_
    exact ⟨rfl, rfl⟩
  · skip
    refine z_lload_n 14 C dX2_sumAt_14 2 rfl ?_
    refine z_aload_n 15 C dX2_sumAt_15 0 rfl ?_
    refine z_iload 16 C dX2_sumAt_16 3 rfl ?_
    refine z_iload_n 18 C dX2_sumAt_18 1 rfl ?_
    refine z_callV 19 C 1 (⟨rfl, rfl⟩) rfl (As := [.int (nI j), .int (nI k)]) (rest := [.long (z_su (σ.1 2) (k % 24) j)]) (m_X2_at j k (by omega) (by omega)) k_X2_at q481 ⟨rfl, rfl⟩ ⟨Nat.le_of_ble_eq_true rfl, Nat.le_of_ble_eq_true rfl⟩ rfl (Nat.le_of_ble_eq_true rfl) ⟨Nat.le_of_ble_eq_true rfl, Nat.le_of_ble_eq_true rfl⟩ rfl dX2_sumAt_19 (z_k1 ?_)
    refine z_i2l 22 C dX2_sumAt_22 ?_
    refine z_ladd 23 C dX2_sumAt_23 ?_
    refine z_lstore_n 24 C dX2_sumAt_24 [(2, .long ((z_su (σ.1 2) (k % 24) j) + (Int32.toInt64 (σ.1 2 (j * 24 + k % 24))))), (0, .ref (z_ad G 1)), (1, .int (nI k)), (4, .int (nI j))] (by decide) rfl ?_
    refine z_iincN 25 C 3 j [(4, .int (nI (j + 1))), (2, .long ((z_su (σ.1 2) (k % 24) j) + (Int32.toInt64 (σ.1 2 (j * 24 + k % 24))))), (0, .ref (z_ad G 1)), (1, .int (nI k))] rfl rfl (by decide) rfl dX2_sumAt_25 ?_
    refine z_goto 28 C 5 dX2_sumAt_28 (by decide) ?_
    refine z_sub [2, 3, 1, 0] (lv1 := [(0, .ref (z_ad G 1)), (1, .int (nI k)), (2, .long ((z_su (σ.1 2) (k % 24) j) + (Int32.toInt64 (σ.1 2 (j * 24 + k % 24))))), (4, .int (nI (j + 1)))]) rfl ?_
    refine z_cv (lv1 := [(0, .ref (z_ad G 1)), (1, .int (nI k)), (2, .long (z_su (σ.1 2) (k % 24) (j + 1))), (4, .int (nI (j + 1)))]) (st1 := []) (σ1 := σ) rfl rfl rfl ?_
    exact ih_5 (j + 1) (by omega) (by omega)
theorem dX2_spindleAt_0 : decode cX2_spindleAt 0 = .ok (.ldc2_w 54, 3) := by decide +kernel
theorem dX2_spindleAt_3 : decode cX2_spindleAt 3 = .ok (.aload_n 0, 1) := by decide +kernel
theorem dX2_spindleAt_4 : decode cX2_spindleAt 4 = .ok (.iload_n 1, 1) := by decide +kernel
theorem dX2_spindleAt_5 : decode cX2_spindleAt 5 = .ok (.invokevirtual 56, 3) := by decide +kernel
theorem dX2_spindleAt_8 : decode cX2_spindleAt 8 = .ok (.lmul, 1) := by decide +kernel
theorem dX2_spindleAt_9 : decode cX2_spindleAt 9 = .ok (.aload_n 0, 1) := by decide +kernel
theorem dX2_spindleAt_10 : decode cX2_spindleAt 10 = .ok (.getfield 22, 3) := by decide +kernel
theorem dX2_spindleAt_13 : decode cX2_spindleAt 13 = .ok (.i2l, 1) := by decide +kernel
theorem dX2_spindleAt_14 : decode cX2_spindleAt 14 = .ok (.invokestatic 60, 3) := by decide +kernel
theorem dX2_spindleAt_17 : decode cX2_spindleAt 17 = .ok (.lreturn, 1) := by decide +kernel
set_option maxRecDepth 100000 in
set_option maxHeartbeats 4000000 in
theorem m_X2_spindleAt {l : Launch} {G : z_Gl} {σ : z_St} (P : Nat) (hP : σ.1 1 3 = nI P) (h0 : 0 < P) (h12 : P ≤ 12) (k : Nat) (hk : k < 24) : z_M l G yX2_spindleAt cX2_spindleAt 2 (some .long) (z_rm 3 68) [.ref (z_ad G 1), .int (nI k)] σ (z_p1 (.long (z_sp (σ.1 2) P k)) σ) := by
  refine z_M.of (by decide) (Nat.le_of_ble_eq_true rfl) (fun p e s m below meth c C => ?_)
  refine z_sub [0, 1] (lv1 := [(0, .ref (z_ad G 1)), (1, .int (nI k))]) rfl ?_
  refine z_ldc2 0 C dX2_spindleAt_0 q486 ?_
  refine z_aload_n 3 C dX2_spindleAt_3 0 rfl ?_
  refine z_iload_n 4 C dX2_spindleAt_4 1 rfl ?_
  refine z_callV 5 C 1 (⟨rfl, rfl⟩) rfl (As := [.int (nI k)]) (rest := [.long 1000000]) (m_X2_sumAt P hP (by omega) (by omega) k (by omega)) k_X2_sumAt q482 ⟨rfl, rfl⟩ ⟨Nat.le_of_ble_eq_true rfl, Nat.le_of_ble_eq_true rfl⟩ rfl (Nat.le_of_ble_eq_true rfl) ⟨Nat.le_of_ble_eq_true rfl, Nat.le_of_ble_eq_true rfl⟩ rfl dX2_spindleAt_5 (z_k1 ?_)
  refine z_cv (lv1 := [(0, .ref (z_ad G 1)), (1, .int (nI k))]) (st1 := [.long (z_su (σ.1 2) k P), .long 1000000]) (σ1 := σ) rfl (by rw [Nat.mod_eq_of_lt hk]) rfl ?_
  refine z_lmul 8 C dX2_spindleAt_8 ?_
  refine z_aload_n 9 C dX2_spindleAt_9 0 rfl ?_
  refine z_getf 10 C 1 z_dX2 (⟨rfl, rfl⟩) 3 (by decide) q130 (.int (nI P)) (z_ci hP) dX2_spindleAt_10 ?_
  refine z_i2l 13 C dX2_spindleAt_13 ?_
  refine z_cv (lv1 := [(0, .ref (z_ad G 1)), (1, .int (nI k))]) (st1 := [.long (lN P), .long (1000000 * (z_su (σ.1 2) k P))]) (σ1 := σ) rfl (by rw [nI_l (by omega)]) rfl ?_
  refine z_callSN 14 C (As := [.long (1000000 * (z_su (σ.1 2) k P)), .long (lN P)]) (rest := []) (m_X7_divide (1000000 * (z_su (σ.1 2) k P)) (lN P) (z_lNp h0 h12)) k_X7_divide (List.mem_of_getElem? (i := 22) rfl) ⟨rfl, rfl⟩ ⟨Nat.le_of_ble_eq_true rfl, Nat.le_of_ble_eq_true rfl⟩ rfl (Nat.le_of_ble_eq_true rfl) ⟨Nat.le_of_ble_eq_true rfl, Nat.le_of_ble_eq_true rfl⟩ rfl dX2_spindleAt_14 (z_k1 ?_)
  refine z_lret 17 C dX2_spindleAt_17 ?_
  exact ⟨rfl, rfl⟩
theorem dX2_partAt_0 : decode cX2_partAt 0 = .ok (.lconst 0, 1) := by decide +kernel
theorem dX2_partAt_1 : decode cX2_partAt 1 = .ok (.lstore_n 2, 1) := by decide +kernel
theorem dX2_partAt_2 : decode cX2_partAt 2 = .ok (.iconst 0, 1) := by decide +kernel
theorem dX2_partAt_3 : decode cX2_partAt 3 = .ok (.istore 4, 2) := by decide +kernel
theorem dX2_partAt_5 : decode cX2_partAt 5 = .ok (.iload 4, 2) := by decide +kernel
theorem dX2_partAt_7 : decode cX2_partAt 7 = .ok (.aload_n 0, 1) := by decide +kernel
theorem dX2_partAt_8 : decode cX2_partAt 8 = .ok (.getfield 22, 3) := by decide +kernel
theorem dX2_partAt_11 : decode cX2_partAt 11 = .ok (.if_icmp .ge 44, 3) := by decide +kernel
theorem dX2_partAt_14 : decode cX2_partAt 14 = .ok (.iload_n 1, 1) := by decide +kernel
theorem dX2_partAt_15 : decode cX2_partAt 15 = .ok (.aload_n 0, 1) := by decide +kernel
theorem dX2_partAt_16 : decode cX2_partAt 16 = .ok (.iload 4, 2) := by decide +kernel
theorem dX2_partAt_18 : decode cX2_partAt 18 = .ok (.invokevirtual 64, 3) := by decide +kernel
theorem dX2_partAt_21 : decode cX2_partAt 21 = .ok (.iadd, 1) := by decide +kernel
theorem dX2_partAt_22 : decode cX2_partAt 22 = .ok (.istore 5, 2) := by decide +kernel
theorem dX2_partAt_24 : decode cX2_partAt 24 = .ok (.lload_n 2, 1) := by decide +kernel
theorem dX2_partAt_25 : decode cX2_partAt 25 = .ok (.aload_n 0, 1) := by decide +kernel
theorem dX2_partAt_26 : decode cX2_partAt 26 = .ok (.getfield 22, 3) := by decide +kernel
theorem dX2_partAt_29 : decode cX2_partAt 29 = .ok (.i2l, 1) := by decide +kernel
theorem dX2_partAt_30 : decode cX2_partAt 30 = .ok (.aload_n 0, 1) := by decide +kernel
theorem dX2_partAt_31 : decode cX2_partAt 31 = .ok (.iload 4, 2) := by decide +kernel
theorem dX2_partAt_33 : decode cX2_partAt 33 = .ok (.iload 5, 2) := by decide +kernel
theorem dX2_partAt_35 : decode cX2_partAt 35 = .ok (.invokevirtual 51, 3) := by decide +kernel
theorem dX2_partAt_38 : decode cX2_partAt 38 = .ok (.i2l, 1) := by decide +kernel
theorem dX2_partAt_39 : decode cX2_partAt 39 = .ok (.lmul, 1) := by decide +kernel
theorem dX2_partAt_40 : decode cX2_partAt 40 = .ok (.aload_n 0, 1) := by decide +kernel
theorem dX2_partAt_41 : decode cX2_partAt 41 = .ok (.iload 5, 2) := by decide +kernel
theorem dX2_partAt_43 : decode cX2_partAt 43 = .ok (.invokevirtual 56, 3) := by decide +kernel
theorem dX2_partAt_46 : decode cX2_partAt 46 = .ok (.lsub, 1) := by decide +kernel
theorem dX2_partAt_47 : decode cX2_partAt 47 = .ok (.ladd, 1) := by decide +kernel
theorem dX2_partAt_48 : decode cX2_partAt 48 = .ok (.lstore_n 2, 1) := by decide +kernel
theorem dX2_partAt_49 : decode cX2_partAt 49 = .ok (.iinc 4 1, 3) := by decide +kernel
theorem dX2_partAt_52 : decode cX2_partAt 52 = .ok (.goto (-47), 3) := by decide +kernel
theorem dX2_partAt_55 : decode cX2_partAt 55 = .ok (.ldc2_w 54, 3) := by decide +kernel
theorem dX2_partAt_58 : decode cX2_partAt 58 = .ok (.lload_n 2, 1) := by decide +kernel
theorem dX2_partAt_59 : decode cX2_partAt 59 = .ok (.lmul, 1) := by decide +kernel
theorem dX2_partAt_60 : decode cX2_partAt 60 = .ok (.aload_n 0, 1) := by decide +kernel
theorem dX2_partAt_61 : decode cX2_partAt 61 = .ok (.getfield 22, 3) := by decide +kernel
theorem dX2_partAt_64 : decode cX2_partAt 64 = .ok (.i2l, 1) := by decide +kernel
theorem dX2_partAt_65 : decode cX2_partAt 65 = .ok (.aload_n 0, 1) := by decide +kernel
theorem dX2_partAt_66 : decode cX2_partAt 66 = .ok (.getfield 22, 3) := by decide +kernel
theorem dX2_partAt_69 : decode cX2_partAt 69 = .ok (.i2l, 1) := by decide +kernel
theorem dX2_partAt_70 : decode cX2_partAt 70 = .ok (.lmul, 1) := by decide +kernel
theorem dX2_partAt_71 : decode cX2_partAt 71 = .ok (.invokestatic 60, 3) := by decide +kernel
theorem dX2_partAt_74 : decode cX2_partAt 74 = .ok (.lreturn, 1) := by decide +kernel
set_option maxRecDepth 100000 in
set_option maxHeartbeats 4000000 in
theorem m_X2_partAt {l : Launch} {G : z_Gl} {σ : z_St} (P : Nat) (hP : σ.1 1 3 = nI P) (h0 : 0 < P) (h12 : P ≤ 12) (k : Nat) (hk : k < 24) : z_M l G yX2_partAt cX2_partAt 6 (some .long) (z_rm 3 68) [.ref (z_ad G 1), .int (nI k)] σ (z_p1 (.long (z_pt (σ.1 2) P k)) σ) := by
  refine z_M.of (by decide) (Nat.le_of_ble_eq_true rfl) (fun p e s m below meth c C => ?_)
  refine z_sub [0, 1] (lv1 := [(0, .ref (z_ad G 1)), (1, .int (nI k))]) rfl ?_
  refine z_lconst 0 C dX2_partAt_0 0 rfl ?_
  refine z_lstore_n 1 C dX2_partAt_1 [(2, .long 0), (0, .ref (z_ad G 1)), (1, .int (nI k))] (by decide) rfl ?_
  refine z_iconst 2 C dX2_partAt_2 (nI 0) rfl ?_
  refine z_istore 3 C dX2_partAt_3 [(4, .int (nI 0)), (2, .long 0), (0, .ref (z_ad G 1)), (1, .int (nI k))] (by decide) rfl ?_
  refine z_sub [2, 3, 1, 0] (lv1 := [(0, .ref (z_ad G 1)), (1, .int (nI k)), (2, .long 0), (4, .int (nI 0))]) rfl ?_
  refine z_cv (lv1 := [(0, .ref (z_ad G 1)), (1, .int (nI k)), (2, .long (z_pa (σ.1 2) P k 0)), (4, .int (nI 0))]) (st1 := []) (σ1 := σ) rfl rfl rfl ?_
  refine z_lp1 (fun (j : Nat) => j ≤ P) (fun (j : Nat) => P - j) (fun (j : Nat) => [(0, .ref (z_ad G 1)), (1, .int (nI k)), (2, .long (z_pa (σ.1 2) P k j)), (4, .int (nI j))]) (fun (j : Nat) => σ) (fun j hi_5 ih_5 => ?_) 0 (by omega)
  try dsimp only
  refine z_iload 5 C dX2_partAt_5 3 rfl ?_
  refine z_aload_n 7 C dX2_partAt_7 0 rfl ?_
  refine z_getf 8 C 1 z_dX2 (⟨rfl, rfl⟩) 3 (by decide) q130 (.int (nI P)) (z_ci hP) dX2_partAt_8 ?_
  refine z_icmp_geN 11 C j P rfl rfl (by omega) (by omega) 55 dX2_partAt_11 (by decide) (fun c11 => ?_) (fun c11 => ?_)
  · skip
    have ej : j = P := by omega
    subst ej
    refine z_ldc2 55 C dX2_partAt_55 q486 ?_
    refine z_lload_n 58 C dX2_partAt_58 2 rfl ?_
    refine z_lmul 59 C dX2_partAt_59 ?_
    refine z_aload_n 60 C dX2_partAt_60 0 rfl ?_
    refine z_getf 61 C 1 z_dX2 (⟨rfl, rfl⟩) 3 (by decide) q130 (.int (nI j)) (z_ci hP) dX2_partAt_61 ?_
    refine z_i2l 64 C dX2_partAt_64 ?_
    refine z_cv (lv1 := [(0, .ref (z_ad G 1)), (1, .int (nI k)), (2, .long (z_pa (σ.1 2) j k j)), (4, .int (nI j))]) (st1 := [.long (lN j), .long (1000000 * (z_pa (σ.1 2) j k j))]) (σ1 := σ) rfl (by rw [nI_l (by omega)]) rfl ?_
    refine z_aload_n 65 C dX2_partAt_65 0 rfl ?_
    refine z_getf 66 C 1 z_dX2 (⟨rfl, rfl⟩) 3 (by decide) q130 (.int (nI j)) (z_ci hP) dX2_partAt_66 ?_
    refine z_i2l 69 C dX2_partAt_69 ?_
    refine z_cv (lv1 := [(0, .ref (z_ad G 1)), (1, .int (nI k)), (2, .long (z_pa (σ.1 2) j k j)), (4, .int (nI j))]) (st1 := [.long (lN j), .long (lN j), .long (1000000 * (z_pa (σ.1 2) j k j))]) (σ1 := σ) rfl (by rw [nI_l (by omega)]) rfl ?_
    refine z_lmul 70 C dX2_partAt_70 ?_
    refine z_callSN 71 C (As := [.long (1000000 * (z_pa (σ.1 2) j k j)), .long ((lN j) * (lN j))]) (rest := []) (m_X7_divide (1000000 * (z_pa (σ.1 2) j k j)) ((lN j) * (lN j)) (z_lNq h0 h12)) k_X7_divide (List.mem_of_getElem? (i := 22) rfl) ⟨rfl, rfl⟩ ⟨Nat.le_of_ble_eq_true rfl, Nat.le_of_ble_eq_true rfl⟩ rfl (Nat.le_of_ble_eq_true rfl) ⟨Nat.le_of_ble_eq_true rfl, Nat.le_of_ble_eq_true rfl⟩ rfl dX2_partAt_71 (z_k1 ?_)
    refine z_lret 74 C dX2_partAt_74 ?_
    exact ⟨rfl, rfl⟩
  · skip
    have hdl : j * (24 / P) ≤ 12 * 24 := Nat.mul_le_mul (by omega) (Nat.div_le_self 24 P)
    refine z_iload_n 14 C dX2_partAt_14 1 rfl ?_
    refine z_aload_n 15 C dX2_partAt_15 0 rfl ?_
    refine z_iload 16 C dX2_partAt_16 3 rfl ?_
    refine z_callV 18 C 1 (⟨rfl, rfl⟩) rfl (As := [.int (nI j)]) (rest := [.int (nI k)]) (m_X2_turnOf P hP (by omega) (by omega) j) k_X2_turnOf q480 ⟨rfl, rfl⟩ ⟨Nat.le_of_ble_eq_true rfl, Nat.le_of_ble_eq_true rfl⟩ rfl (Nat.le_of_ble_eq_true rfl) ⟨Nat.le_of_ble_eq_true rfl, Nat.le_of_ble_eq_true rfl⟩ rfl dX2_partAt_18 (z_k1 ?_)
    refine z_iaddN 21 C k (j * (24 / P)) rfl rfl dX2_partAt_21 ?_
    refine z_istore 22 C dX2_partAt_22 [(5, .int (nI (k + (j * (24 / P))))), (0, .ref (z_ad G 1)), (1, .int (nI k)), (2, .long (z_pa (σ.1 2) P k j)), (4, .int (nI j))] (by decide) rfl ?_
    refine z_lload_n 24 C dX2_partAt_24 3 rfl ?_
    refine z_aload_n 25 C dX2_partAt_25 1 rfl ?_
    refine z_getf 26 C 1 z_dX2 (⟨rfl, rfl⟩) 3 (by decide) q130 (.int (nI P)) (z_ci hP) dX2_partAt_26 ?_
    refine z_i2l 29 C dX2_partAt_29 ?_
    refine z_cv (lv1 := [(5, .int (nI (k + (j * (24 / P))))), (0, .ref (z_ad G 1)), (1, .int (nI k)), (2, .long (z_pa (σ.1 2) P k j)), (4, .int (nI j))]) (st1 := [.long (lN P), .long (z_pa (σ.1 2) P k j)]) (σ1 := σ) rfl (by rw [nI_l (by omega)]) rfl ?_
    refine z_aload_n 30 C dX2_partAt_30 1 rfl ?_
    refine z_iload 31 C dX2_partAt_31 4 rfl ?_
    refine z_iload 33 C dX2_partAt_33 0 rfl ?_
    refine z_callV 35 C 1 (⟨rfl, rfl⟩) rfl (As := [.int (nI j), .int (nI (k + (j * (24 / P))))]) (rest := [.long (lN P), .long (z_pa (σ.1 2) P k j)]) (m_X2_at j (k + (j * (24 / P))) (by omega) (by omega)) k_X2_at q481 ⟨rfl, rfl⟩ ⟨Nat.le_of_ble_eq_true rfl, Nat.le_of_ble_eq_true rfl⟩ rfl (Nat.le_of_ble_eq_true rfl) ⟨Nat.le_of_ble_eq_true rfl, Nat.le_of_ble_eq_true rfl⟩ rfl dX2_partAt_35 (z_k1 ?_)
    refine z_i2l 38 C dX2_partAt_38 ?_
    refine z_lmul 39 C dX2_partAt_39 ?_
    refine z_aload_n 40 C dX2_partAt_40 1 rfl ?_
    refine z_iload 41 C dX2_partAt_41 0 rfl ?_
    refine z_callV 43 C 1 (⟨rfl, rfl⟩) rfl (As := [.int (nI (k + (j * (24 / P))))]) (rest := [.long ((lN P) * (Int32.toInt64 (σ.1 2 (j * 24 + (k + (j * (24 / P))) % 24)))), .long (z_pa (σ.1 2) P k j)]) (m_X2_sumAt P hP (by omega) (by omega) (k + (j * (24 / P))) (by omega)) k_X2_sumAt q482 ⟨rfl, rfl⟩ ⟨Nat.le_of_ble_eq_true rfl, Nat.le_of_ble_eq_true rfl⟩ rfl (Nat.le_of_ble_eq_true rfl) ⟨Nat.le_of_ble_eq_true rfl, Nat.le_of_ble_eq_true rfl⟩ rfl dX2_partAt_43 (z_k1 ?_)
    refine z_lsub 46 C dX2_partAt_46 ?_
    refine z_ladd 47 C dX2_partAt_47 ?_
    refine z_lstore_n 48 C dX2_partAt_48 [(2, .long ((z_pa (σ.1 2) P k j) + (((lN P) * (Int32.toInt64 (σ.1 2 (j * 24 + (k + (j * (24 / P))) % 24)))) - (z_su (σ.1 2) ((k + (j * (24 / P))) % 24) P)))), (5, .int (nI (k + (j * (24 / P))))), (0, .ref (z_ad G 1)), (1, .int (nI k)), (4, .int (nI j))] (by decide) rfl ?_
    refine z_iincN 49 C 4 j [(4, .int (nI (j + 1))), (2, .long ((z_pa (σ.1 2) P k j) + (((lN P) * (Int32.toInt64 (σ.1 2 (j * 24 + (k + (j * (24 / P))) % 24)))) - (z_su (σ.1 2) ((k + (j * (24 / P))) % 24) P)))), (5, .int (nI (k + (j * (24 / P))))), (0, .ref (z_ad G 1)), (1, .int (nI k))] rfl rfl (by decide) rfl dX2_partAt_49 ?_
    refine z_goto 52 C 5 dX2_partAt_52 (by decide) ?_
    refine z_sub [3, 4, 1, 0] (lv1 := [(0, .ref (z_ad G 1)), (1, .int (nI k)), (2, .long ((z_pa (σ.1 2) P k j) + (((lN P) * (Int32.toInt64 (σ.1 2 (j * 24 + (k + (j * (24 / P))) % 24)))) - (z_su (σ.1 2) ((k + (j * (24 / P))) % 24) P)))), (4, .int (nI (j + 1)))]) rfl ?_
    refine z_cv (lv1 := [(0, .ref (z_ad G 1)), (1, .int (nI k)), (2, .long (z_pa (σ.1 2) P k (j + 1))), (4, .int (nI (j + 1)))]) (st1 := []) (σ1 := σ) rfl rfl rfl ?_
    exact ih_5 (j + 1) (by omega) (by omega)
theorem dX2_replaceSpikes_0 : decode cX2_replaceSpikes 0 = .ok (.iload_n 1, 1) := by decide +kernel
theorem dX2_replaceSpikes_1 : decode cX2_replaceSpikes 1 = .ok (.bipush 24, 2) := by decide +kernel
theorem dX2_replaceSpikes_3 : decode cX2_replaceSpikes 3 = .ok (.imul, 1) := by decide +kernel
theorem dX2_replaceSpikes_4 : decode cX2_replaceSpikes 4 = .ok (.istore_n 3, 1) := by decide +kernel
theorem dX2_replaceSpikes_5 : decode cX2_replaceSpikes 5 = .ok (.aload_n 0, 1) := by decide +kernel
theorem dX2_replaceSpikes_6 : decode cX2_replaceSpikes 6 = .ok (.getfield 9, 3) := by decide +kernel
theorem dX2_replaceSpikes_9 : decode cX2_replaceSpikes 9 = .ok (.iload_n 3, 1) := by decide +kernel
theorem dX2_replaceSpikes_10 : decode cX2_replaceSpikes 10 = .ok (.aload_n 0, 1) := by decide +kernel
theorem dX2_replaceSpikes_11 : decode cX2_replaceSpikes 11 = .ok (.getfield 15, 3) := by decide +kernel
theorem dX2_replaceSpikes_14 : decode cX2_replaceSpikes 14 = .ok (.iconst 0, 1) := by decide +kernel
theorem dX2_replaceSpikes_15 : decode cX2_replaceSpikes 15 = .ok (.bipush 24, 2) := by decide +kernel
theorem dX2_replaceSpikes_17 : decode cX2_replaceSpikes 17 = .ok (.invokestatic 35, 3) := by decide +kernel
theorem dX2_replaceSpikes_20 : decode cX2_replaceSpikes 20 = .ok (.iconst 0, 1) := by decide +kernel
theorem dX2_replaceSpikes_21 : decode cX2_replaceSpikes 21 = .ok (.istore 4, 2) := by decide +kernel
theorem dX2_replaceSpikes_23 : decode cX2_replaceSpikes 23 = .ok (.iconst 0, 1) := by decide +kernel
theorem dX2_replaceSpikes_24 : decode cX2_replaceSpikes 24 = .ok (.istore 5, 2) := by decide +kernel
theorem dX2_replaceSpikes_26 : decode cX2_replaceSpikes 26 = .ok (.iload 5, 2) := by decide +kernel
theorem dX2_replaceSpikes_28 : decode cX2_replaceSpikes 28 = .ok (.bipush 24, 2) := by decide +kernel
theorem dX2_replaceSpikes_30 : decode cX2_replaceSpikes 30 = .ok (.if_icmp .ge 75, 3) := by decide +kernel
theorem dX2_replaceSpikes_33 : decode cX2_replaceSpikes 33 = .ok (.aload_n 0, 1) := by decide +kernel
theorem dX2_replaceSpikes_34 : decode cX2_replaceSpikes 34 = .ok (.getfield 15, 3) := by decide +kernel
theorem dX2_replaceSpikes_37 : decode cX2_replaceSpikes 37 = .ok (.iload 5, 2) := by decide +kernel
theorem dX2_replaceSpikes_39 : decode cX2_replaceSpikes 39 = .ok (.iconst 1, 1) := by decide +kernel
theorem dX2_replaceSpikes_40 : decode cX2_replaceSpikes 40 = .ok (.isub, 1) := by decide +kernel
theorem dX2_replaceSpikes_41 : decode cX2_replaceSpikes 41 = .ok (.invokestatic 41, 3) := by decide +kernel
theorem dX2_replaceSpikes_44 : decode cX2_replaceSpikes 44 = .ok (.iaload, 1) := by decide +kernel
theorem dX2_replaceSpikes_45 : decode cX2_replaceSpikes 45 = .ok (.aload_n 0, 1) := by decide +kernel
theorem dX2_replaceSpikes_46 : decode cX2_replaceSpikes 46 = .ok (.getfield 15, 3) := by decide +kernel
theorem dX2_replaceSpikes_49 : decode cX2_replaceSpikes 49 = .ok (.iload 5, 2) := by decide +kernel
theorem dX2_replaceSpikes_51 : decode cX2_replaceSpikes 51 = .ok (.iconst 1, 1) := by decide +kernel
theorem dX2_replaceSpikes_52 : decode cX2_replaceSpikes 52 = .ok (.iadd, 1) := by decide +kernel
theorem dX2_replaceSpikes_53 : decode cX2_replaceSpikes 53 = .ok (.invokestatic 41, 3) := by decide +kernel
theorem dX2_replaceSpikes_56 : decode cX2_replaceSpikes 56 = .ok (.iaload, 1) := by decide +kernel
theorem dX2_replaceSpikes_57 : decode cX2_replaceSpikes 57 = .ok (.iadd, 1) := by decide +kernel
theorem dX2_replaceSpikes_58 : decode cX2_replaceSpikes 58 = .ok (.istore 6, 2) := by decide +kernel
theorem dX2_replaceSpikes_60 : decode cX2_replaceSpikes 60 = .ok (.iconst 2, 1) := by decide +kernel
theorem dX2_replaceSpikes_61 : decode cX2_replaceSpikes 61 = .ok (.aload_n 0, 1) := by decide +kernel
theorem dX2_replaceSpikes_62 : decode cX2_replaceSpikes 62 = .ok (.getfield 15, 3) := by decide +kernel
theorem dX2_replaceSpikes_65 : decode cX2_replaceSpikes 65 = .ok (.iload 5, 2) := by decide +kernel
theorem dX2_replaceSpikes_67 : decode cX2_replaceSpikes 67 = .ok (.iaload, 1) := by decide +kernel
theorem dX2_replaceSpikes_68 : decode cX2_replaceSpikes 68 = .ok (.imul, 1) := by decide +kernel
theorem dX2_replaceSpikes_69 : decode cX2_replaceSpikes 69 = .ok (.iload 6, 2) := by decide +kernel
theorem dX2_replaceSpikes_71 : decode cX2_replaceSpikes 71 = .ok (.isub, 1) := by decide +kernel
theorem dX2_replaceSpikes_72 : decode cX2_replaceSpikes 72 = .ok (.invokestatic 45, 3) := by decide +kernel
theorem dX2_replaceSpikes_75 : decode cX2_replaceSpikes 75 = .ok (.iconst 2, 1) := by decide +kernel
theorem dX2_replaceSpikes_76 : decode cX2_replaceSpikes 76 = .ok (.iload_n 2, 1) := by decide +kernel
theorem dX2_replaceSpikes_77 : decode cX2_replaceSpikes 77 = .ok (.imul, 1) := by decide +kernel
theorem dX2_replaceSpikes_78 : decode cX2_replaceSpikes 78 = .ok (.if_icmp .le 21, 3) := by decide +kernel
theorem dX2_replaceSpikes_81 : decode cX2_replaceSpikes 81 = .ok (.aload_n 0, 1) := by decide +kernel
theorem dX2_replaceSpikes_82 : decode cX2_replaceSpikes 82 = .ok (.getfield 9, 3) := by decide +kernel
theorem dX2_replaceSpikes_85 : decode cX2_replaceSpikes 85 = .ok (.iload_n 3, 1) := by decide +kernel
theorem dX2_replaceSpikes_86 : decode cX2_replaceSpikes 86 = .ok (.iload 5, 2) := by decide +kernel
theorem dX2_replaceSpikes_88 : decode cX2_replaceSpikes 88 = .ok (.iadd, 1) := by decide +kernel
theorem dX2_replaceSpikes_89 : decode cX2_replaceSpikes 89 = .ok (.iload 6, 2) := by decide +kernel
theorem dX2_replaceSpikes_91 : decode cX2_replaceSpikes 91 = .ok (.iconst 2, 1) := by decide +kernel
theorem dX2_replaceSpikes_92 : decode cX2_replaceSpikes 92 = .ok (.invokestatic 48, 3) := by decide +kernel
theorem dX2_replaceSpikes_95 : decode cX2_replaceSpikes 95 = .ok (.iastore, 1) := by decide +kernel
theorem dX2_replaceSpikes_96 : decode cX2_replaceSpikes 96 = .ok (.iinc 4 1, 3) := by decide +kernel
theorem dX2_replaceSpikes_99 : decode cX2_replaceSpikes 99 = .ok (.iinc 5 1, 3) := by decide +kernel
theorem dX2_replaceSpikes_102 : decode cX2_replaceSpikes 102 = .ok (.goto (-76), 3) := by decide +kernel
theorem dX2_replaceSpikes_105 : decode cX2_replaceSpikes 105 = .ok (.iload 4, 2) := by decide +kernel
theorem dX2_replaceSpikes_107 : decode cX2_replaceSpikes 107 = .ok (.ireturn, 1) := by decide +kernel
set_option maxRecDepth 100000 in
set_option maxHeartbeats 4000000 in
theorem m_X2_replaceSpikes {l : Launch} {G : z_Gl} {σ : z_St} (j L : Nat) (hj : j < 12) (hL : L ≤ 20000) : z_M l G yX2_replaceSpikes cX2_replaceSpikes 7 (some .int) (z_rm 2 42) [.ref (z_ad G 1), .int (nI j), .int (nI L)] σ (z_p1 (.int (nI (z_sc (z_rw (σ.1 2) j) L 24))) (z_uI (z_uI σ 3 (va_cpy (σ.1 2) (σ.1 3) (j * 24) 0 24)) 2 (fb_put (σ.1 2) (z_sv (z_rw (σ.1 2) j) L) (j * 24) 24))) := by
  refine z_M.of (by decide) (Nat.le_of_ble_eq_true rfl) (fun p e s m below meth c C => ?_)
  refine z_sub [0, 1, 2] (lv1 := [(0, .ref (z_ad G 1)), (1, .int (nI j)), (2, .int (nI L))]) rfl ?_
  refine z_iload_n 0 C dX2_replaceSpikes_0 1 rfl ?_
  refine z_bipush 1 C dX2_replaceSpikes_1 (nI 24) rfl ?_
  refine z_imulN 3 C j 24 rfl rfl dX2_replaceSpikes_3 ?_
  refine z_istore_n 4 C dX2_replaceSpikes_4 [(3, .int (nI (j * 24))), (0, .ref (z_ad G 1)), (1, .int (nI j)), (2, .int (nI L))] (by decide) rfl ?_
  refine z_aload_n 5 C dX2_replaceSpikes_5 1 rfl ?_
  refine z_getf 6 C 1 z_dX2 (⟨rfl, rfl⟩) 0 (by decide) q127 (.ref (z_ad G 2)) rfl dX2_replaceSpikes_6 ?_
  refine z_iload_n 9 C dX2_replaceSpikes_9 0 rfl ?_
  refine z_aload_n 10 C dX2_replaceSpikes_10 1 rfl ?_
  refine z_getf 11 C 1 z_dX2 (⟨rfl, rfl⟩) 1 (by decide) q128 (.ref (z_ad G 3)) rfl dX2_replaceSpikes_11 ?_
  refine z_iconst 14 C dX2_replaceSpikes_14 (nI 0) rfl ?_
  refine z_bipush 15 C dX2_replaceSpikes_15 (nI 24) rfl ?_
  refine z_cpyi 17 C 2 3 (n0 := 288) (n1 := 24) (⟨rfl, rfl⟩) (⟨rfl, rfl⟩) q461 (j * 24) 0 24 rfl rfl rfl (by omega) (by omega) (by decide) (by decide) (Nat.le_of_ble_eq_true rfl) (Nat.le_of_ble_eq_true rfl) dX2_replaceSpikes_17 ?_
  refine z_iconst 20 C dX2_replaceSpikes_20 (nI 0) rfl ?_
  refine z_istore 21 C dX2_replaceSpikes_21 [(4, .int (nI 0)), (3, .int (nI (j * 24))), (0, .ref (z_ad G 1)), (1, .int (nI j)), (2, .int (nI L))] (by decide) rfl ?_
  refine z_iconst 23 C dX2_replaceSpikes_23 (nI 0) rfl ?_
  refine z_istore 24 C dX2_replaceSpikes_24 [(5, .int (nI 0)), (4, .int (nI 0)), (3, .int (nI (j * 24))), (0, .ref (z_ad G 1)), (1, .int (nI j)), (2, .int (nI L))] (by decide) rfl ?_
  refine z_sub [3, 4, 5, 2, 1, 0] (lv1 := [(0, .ref (z_ad G 1)), (1, .int (nI j)), (2, .int (nI L)), (3, .int (nI (j * 24))), (4, .int (nI 0)), (5, .int (nI 0))]) rfl ?_
  refine z_cv (lv1 := [(0, .ref (z_ad G 1)), (1, .int (nI j)), (2, .int (nI L)), (3, .int (nI (j * 24))), (4, .int (nI (z_sc (z_rw (σ.1 2) j) L 0))), (5, .int (nI 0))]) (st1 := []) (σ1 := z_uI (z_uI σ 3 (va_cpy (σ.1 2) (σ.1 3) (j * 24) 0 24)) 2 (fb_put (σ.1 2) (z_sv (z_rw (σ.1 2) j) L) (j * 24) 0)) rfl rfl (z_fil0p _ _ _ _) ?_
  refine z_lp1 (fun (k : Nat) => k ≤ 24) (fun (k : Nat) => 24 - k) (fun (k : Nat) => [(0, .ref (z_ad G 1)), (1, .int (nI j)), (2, .int (nI L)), (3, .int (nI (j * 24))), (4, .int (nI (z_sc (z_rw (σ.1 2) j) L k))), (5, .int (nI k))]) (fun (k : Nat) => z_uI (z_uI σ 3 (va_cpy (σ.1 2) (σ.1 3) (j * 24) 0 24)) 2 (fb_put (σ.1 2) (z_sv (z_rw (σ.1 2) j) L) (j * 24) k)) (fun k hi_26 ih_26 => ?_) 0 (by omega)
  try dsimp only
  refine z_iload 26 C dX2_replaceSpikes_26 5 rfl ?_
  refine z_bipush 28 C dX2_replaceSpikes_28 (nI 24) rfl ?_
  refine z_icmp_geN 30 C k 24 rfl rfl (by omega) (by omega) 105 dX2_replaceSpikes_30 (by decide) (fun c30 => ?_) (fun c30 => ?_)
  · skip
    have ek : k = 24 := by omega
    subst ek
    refine z_iload 105 C dX2_replaceSpikes_105 4 rfl ?_
    refine z_iret 107 C dX2_replaceSpikes_107 ?_
    exact ⟨rfl, rfl⟩
  · skip
    refine z_aload_n 33 C dX2_replaceSpikes_33 0 rfl ?_
    refine z_getf 34 C 1 z_dX2 (⟨rfl, rfl⟩) 1 (by decide) q128 (.ref (z_ad G 3)) rfl dX2_replaceSpikes_34 ?_
    refine z_iload 37 C dX2_replaceSpikes_37 5 rfl ?_
    refine z_iconst 39 C dX2_replaceSpikes_39 (nI 1) rfl ?_
    refine z_isub 40 C dX2_replaceSpikes_40 ?_
    refine z_callSN 41 C (As := [.int ((nI k) - (nI 1))]) (rest := [.ref (z_ad G 3)]) (m_X7_place_d (σ := z_uI (z_uI σ 3 (va_cpy (σ.1 2) (σ.1 3) (j * 24) 0 24)) 2 (fb_put (σ.1 2) (z_sv (z_rw (σ.1 2) j) L) (j * 24) k)) k 1 (by omega) (by omega)) k_X7_place (List.mem_of_getElem? (i := 20) rfl) ⟨rfl, rfl⟩ ⟨Nat.le_of_ble_eq_true rfl, Nat.le_of_ble_eq_true rfl⟩ rfl (Nat.le_of_ble_eq_true rfl) ⟨Nat.le_of_ble_eq_true rfl, Nat.le_of_ble_eq_true rfl⟩ rfl dX2_replaceSpikes_41 (z_k1 ?_)
    refine z_ialdN 44 C 3 (n := 24) (⟨rfl, rfl⟩) ((k + (24 - 1 % 24)) % 24) rfl (by omega) (by decide) dX2_replaceSpikes_44 ?_
    refine z_cv (lv1 := [(0, .ref (z_ad G 1)), (1, .int (nI j)), (2, .int (nI L)), (3, .int (nI (j * 24))), (4, .int (nI (z_sc (z_rw (σ.1 2) j) L k))), (5, .int (nI k))]) (st1 := [.int (z_rw (σ.1 2) j ((k + (24 - 1 % 24)) % 24))]) (σ1 := z_uI (z_uI σ 3 (va_cpy (σ.1 2) (σ.1 3) (j * 24) 0 24)) 2 (fb_put (σ.1 2) (z_sv (z_rw (σ.1 2) j) L) (j * 24) k)) rfl (by rw [z_oldr (by omega)]; rfl) rfl ?_
    refine z_aload_n 45 C dX2_replaceSpikes_45 0 rfl ?_
    refine z_getf 46 C 1 z_dX2 (⟨rfl, rfl⟩) 1 (by decide) q128 (.ref (z_ad G 3)) rfl dX2_replaceSpikes_46 ?_
    refine z_iload 49 C dX2_replaceSpikes_49 5 rfl ?_
    refine z_iconst 51 C dX2_replaceSpikes_51 (nI 1) rfl ?_
    refine z_iaddN 52 C k 1 rfl rfl dX2_replaceSpikes_52 ?_
    refine z_callSN 53 C (As := [.int (nI (k + 1))]) (rest := [.ref (z_ad G 3), .int (z_rw (σ.1 2) j ((k + (24 - 1 % 24)) % 24))]) (m_X7_place_n (σ := z_uI (z_uI σ 3 (va_cpy (σ.1 2) (σ.1 3) (j * 24) 0 24)) 2 (fb_put (σ.1 2) (z_sv (z_rw (σ.1 2) j) L) (j * 24) k)) (k + 1) (by omega)) k_X7_place (List.mem_of_getElem? (i := 20) rfl) ⟨rfl, rfl⟩ ⟨Nat.le_of_ble_eq_true rfl, Nat.le_of_ble_eq_true rfl⟩ rfl (Nat.le_of_ble_eq_true rfl) ⟨Nat.le_of_ble_eq_true rfl, Nat.le_of_ble_eq_true rfl⟩ rfl dX2_replaceSpikes_53 (z_k1 ?_)
    refine z_ialdN 56 C 3 (n := 24) (⟨rfl, rfl⟩) ((k + 1) % 24) rfl (by omega) (by decide) dX2_replaceSpikes_56 ?_
    refine z_cv (lv1 := [(0, .ref (z_ad G 1)), (1, .int (nI j)), (2, .int (nI L)), (3, .int (nI (j * 24))), (4, .int (nI (z_sc (z_rw (σ.1 2) j) L k))), (5, .int (nI k))]) (st1 := [.int (z_rw (σ.1 2) j ((k + 1) % 24)), .int (z_rw (σ.1 2) j ((k + (24 - 1 % 24)) % 24))]) (σ1 := z_uI (z_uI σ 3 (va_cpy (σ.1 2) (σ.1 3) (j * 24) 0 24)) 2 (fb_put (σ.1 2) (z_sv (z_rw (σ.1 2) j) L) (j * 24) k)) rfl (by rw [z_oldr (by omega)]; rfl) rfl ?_
    refine z_iadd 57 C dX2_replaceSpikes_57 ?_
    refine z_istore 58 C dX2_replaceSpikes_58 [(6, .int ((z_rw (σ.1 2) j ((k + (24 - 1 % 24)) % 24)) + (z_rw (σ.1 2) j ((k + 1) % 24)))), (0, .ref (z_ad G 1)), (1, .int (nI j)), (2, .int (nI L)), (3, .int (nI (j * 24))), (4, .int (nI (z_sc (z_rw (σ.1 2) j) L k))), (5, .int (nI k))] (by decide) rfl ?_
    refine z_iconst 60 C dX2_replaceSpikes_60 (nI 2) rfl ?_
    refine z_aload_n 61 C dX2_replaceSpikes_61 1 rfl ?_
    refine z_getf 62 C 1 z_dX2 (⟨rfl, rfl⟩) 1 (by decide) q128 (.ref (z_ad G 3)) rfl dX2_replaceSpikes_62 ?_
    refine z_iload 65 C dX2_replaceSpikes_65 6 rfl ?_
    refine z_ialdN 67 C 3 (n := 24) (⟨rfl, rfl⟩) k rfl (by omega) (by decide) dX2_replaceSpikes_67 ?_
    refine z_cv (lv1 := [(6, .int ((z_rw (σ.1 2) j ((k + (24 - 1 % 24)) % 24)) + (z_rw (σ.1 2) j ((k + 1) % 24)))), (0, .ref (z_ad G 1)), (1, .int (nI j)), (2, .int (nI L)), (3, .int (nI (j * 24))), (4, .int (nI (z_sc (z_rw (σ.1 2) j) L k))), (5, .int (nI k))]) (st1 := [.int (z_rw (σ.1 2) j k), .int (nI 2)]) (σ1 := z_uI (z_uI σ 3 (va_cpy (σ.1 2) (σ.1 3) (j * 24) 0 24)) 2 (fb_put (σ.1 2) (z_sv (z_rw (σ.1 2) j) L) (j * 24) k)) rfl (by rw [z_oldr (by omega)]; rfl) rfl ?_
    refine z_imul 68 C dX2_replaceSpikes_68 ?_
    refine z_iload 69 C dX2_replaceSpikes_69 0 rfl ?_
    refine z_isub 71 C dX2_replaceSpikes_71 ?_
    refine z_callS 72 C (As := [.int (((nI 2) * (z_rw (σ.1 2) j k)) - ((z_rw (σ.1 2) j ((k + (24 - 1 % 24)) % 24)) + (z_rw (σ.1 2) j ((k + 1) % 24))))]) (rest := []) (m_J9_abs_0f7a4 (σ := z_uI (z_uI σ 3 (va_cpy (σ.1 2) (σ.1 3) (j * 24) 0 24)) 2 (fb_put (σ.1 2) (z_sv (z_rw (σ.1 2) j) L) (j * 24) k)) (((nI 2) * (z_rw (σ.1 2) j k)) - ((z_rw (σ.1 2) j ((k + (24 - 1 % 24)) % 24)) + (z_rw (σ.1 2) j ((k + 1) % 24))))) k_J9_abs_0f7a4 q465 ⟨rfl, rfl⟩ ⟨Nat.le_of_ble_eq_true rfl, Nat.le_of_ble_eq_true rfl⟩ rfl (Nat.le_of_ble_eq_true rfl) ⟨Nat.le_of_ble_eq_true rfl, Nat.le_of_ble_eq_true rfl⟩ rfl dX2_replaceSpikes_72 (z_k1 ?_)
    refine z_iconst 75 C dX2_replaceSpikes_75 (nI 2) rfl ?_
    refine z_iload_n 76 C dX2_replaceSpikes_76 3 rfl ?_
    refine z_imulN 77 C 2 L rfl rfl dX2_replaceSpikes_77 ?_
    refine z_icmp_le 78 C 99 dX2_replaceSpikes_78 (by decide) (fun c78 => ?_) (fun c78 => ?_)
    · skip
      refine z_iincN 99 C 6 k [(5, .int (nI (k + 1))), (6, .int ((z_rw (σ.1 2) j ((k + (24 - 1 % 24)) % 24)) + (z_rw (σ.1 2) j ((k + 1) % 24)))), (0, .ref (z_ad G 1)), (1, .int (nI j)), (2, .int (nI L)), (3, .int (nI (j * 24))), (4, .int (nI (z_sc (z_rw (σ.1 2) j) L k)))] rfl rfl (by decide) rfl dX2_replaceSpikes_99 ?_
      refine z_goto 102 C 26 dX2_replaceSpikes_102 (by decide) ?_
      refine z_sub [2, 3, 4, 5, 6, 0] (lv1 := [(0, .ref (z_ad G 1)), (1, .int (nI j)), (2, .int (nI L)), (3, .int (nI (j * 24))), (4, .int (nI (z_sc (z_rw (σ.1 2) j) L k))), (5, .int (nI (k + 1)))]) rfl ?_
      refine z_cv (lv1 := [(0, .ref (z_ad G 1)), (1, .int (nI j)), (2, .int (nI L)), (3, .int (nI (j * 24))), (4, .int (nI (z_sc (z_rw (σ.1 2) j) L (k + 1)))), (5, .int (nI (k + 1)))]) (st1 := []) (σ1 := z_uI (z_uI σ 3 (va_cpy (σ.1 2) (σ.1 3) (j * 24) 0 24)) 2 (fb_put (σ.1 2) (z_sv (z_rw (σ.1 2) j) L) (j * 24) (k + 1))) (by first | rw [z_sc_1 (Int32.not_le.mp c78)] | rw [z_sc_0 (Int32.not_lt.mpr c78)]) rfl (by first | exact z_uIu _ _ _ _ _ _ (if_pos (Int32.not_le.mp c78)).symm | exact congrArg (z_uI _ 2) (z_put_same (if_neg (Int32.not_lt.mpr c78)))) ?_
      exact ih_26 (k + 1) (by omega) (by omega)
    · skip
      refine z_aload_n 81 C dX2_replaceSpikes_81 1 rfl ?_
      refine z_getf 82 C 1 z_dX2 (⟨rfl, rfl⟩) 0 (by decide) q127 (.ref (z_ad G 2)) rfl dX2_replaceSpikes_82 ?_
      refine z_iload_n 85 C dX2_replaceSpikes_85 4 rfl ?_
      refine z_iload 86 C dX2_replaceSpikes_86 6 rfl ?_
      refine z_iaddN 88 C (j * 24) k rfl rfl dX2_replaceSpikes_88 ?_
      refine z_iload 89 C dX2_replaceSpikes_89 0 rfl ?_
      refine z_iconst 91 C dX2_replaceSpikes_91 (nI 2) rfl ?_
      refine z_callS 92 C (As := [.int ((z_rw (σ.1 2) j ((k + (24 - 1 % 24)) % 24)) + (z_rw (σ.1 2) j ((k + 1) % 24))), .int (nI 2)]) (rest := [.int (nI ((j * 24) + k)), .ref (z_ad G 2)]) (m_J9_floorDiv_7cf53 (σ := z_uI (z_uI σ 3 (va_cpy (σ.1 2) (σ.1 3) (j * 24) 0 24)) 2 (fb_put (σ.1 2) (z_sv (z_rw (σ.1 2) j) L) (j * 24) k)) ((z_rw (σ.1 2) j ((k + (24 - 1 % 24)) % 24)) + (z_rw (σ.1 2) j ((k + 1) % 24)))) k_J9_floorDiv_7cf53 q468 ⟨rfl, rfl⟩ ⟨Nat.le_of_ble_eq_true rfl, Nat.le_of_ble_eq_true rfl⟩ rfl (Nat.le_of_ble_eq_true rfl) ⟨Nat.le_of_ble_eq_true rfl, Nat.le_of_ble_eq_true rfl⟩ rfl dX2_replaceSpikes_92 (z_k1 ?_)
      refine z_iastN 95 C 2 (n := 288) (⟨rfl, rfl⟩) ((j * 24) + k) rfl (by omega) (by decide) dX2_replaceSpikes_95 ?_
      refine z_iincN 96 C 5 (z_sc (z_rw (σ.1 2) j) L k) [(4, .int (nI (z_sc (z_rw (σ.1 2) j) L k + 1))), (6, .int ((z_rw (σ.1 2) j ((k + (24 - 1 % 24)) % 24)) + (z_rw (σ.1 2) j ((k + 1) % 24)))), (0, .ref (z_ad G 1)), (1, .int (nI j)), (2, .int (nI L)), (3, .int (nI (j * 24))), (5, .int (nI k))] rfl rfl (by decide) rfl dX2_replaceSpikes_96 ?_
      refine z_iincN 99 C 6 k [(5, .int (nI (k + 1))), (4, .int (nI (z_sc (z_rw (σ.1 2) j) L k + 1))), (6, .int ((z_rw (σ.1 2) j ((k + (24 - 1 % 24)) % 24)) + (z_rw (σ.1 2) j ((k + 1) % 24)))), (0, .ref (z_ad G 1)), (1, .int (nI j)), (2, .int (nI L)), (3, .int (nI (j * 24)))] rfl rfl (by decide) rfl dX2_replaceSpikes_99 ?_
      refine z_goto 102 C 26 dX2_replaceSpikes_102 (by decide) ?_
      refine z_sub [3, 4, 5, 6, 1, 0] (lv1 := [(0, .ref (z_ad G 1)), (1, .int (nI j)), (2, .int (nI L)), (3, .int (nI (j * 24))), (4, .int (nI (z_sc (z_rw (σ.1 2) j) L k + 1))), (5, .int (nI (k + 1)))]) rfl ?_
      refine z_cv (lv1 := [(0, .ref (z_ad G 1)), (1, .int (nI j)), (2, .int (nI L)), (3, .int (nI (j * 24))), (4, .int (nI (z_sc (z_rw (σ.1 2) j) L (k + 1)))), (5, .int (nI (k + 1)))]) (st1 := []) (σ1 := z_uI (z_uI σ 3 (va_cpy (σ.1 2) (σ.1 3) (j * 24) 0 24)) 2 (fb_put (σ.1 2) (z_sv (z_rw (σ.1 2) j) L) (j * 24) (k + 1))) (by first | rw [z_sc_1 (Int32.not_le.mp c78)] | rw [z_sc_0 (Int32.not_lt.mpr c78)]) rfl (by first | exact z_uIu _ _ _ _ _ _ (if_pos (Int32.not_le.mp c78)).symm | exact congrArg (z_uI _ 2) (z_put_same (if_neg (Int32.not_lt.mpr c78)))) ?_
      exact ih_26 (k + 1) (by omega) (by omega)
/-- the residual -/
def z_rs (m : Nat → Int32) (P k j : Nat) : Int64 := z_ab (1000000 * (m (j * 24 + k % 24)).toInt64 - z_pt m P ((k + (24 - j * (24 / P) % 24)) % 24) - z_sp m P k)
def z_gi (m : Nat → Int32) (P k : Nat) (g : Int64) : Nat → Int64
  | 0 => g
  | j + 1 => z_mx (z_gi m P k g j) (z_rs m P k j)
def z_go (m : Nat → Int32) (P : Nat) : Nat → Int64
  | 0 => 0
  | k + 1 => z_gi m P k (z_go m P k) P
/-- lobes added; a simulated reading -/
def z_so (o : Nat → Int32) (a : Int32) (h f : Nat) (k : Nat) : Int32 := z_cla ((o k).toInt64 + z_fd (a.toInt64 * (z_tv 0 ((h * k + f) % 24)).toInt64) 1000000) (nI 5000)
def z_rg (pt sp : Nat → Int32) (ex ey : Int32) (k u : Nat) : Int32 := z_cla ((pt ((k + (24 - u % 24)) % 24) + sp k).toInt64 + z_wv ex.toInt64 ey.toInt64 ((k + (24 - u % 24)) % 24 % 24)) (nI 10000)
theorem z_rst (σ : z_St) (k : Nat) : z_ui (z_ui (z_uI (z_uI σ 6 (z_fil (fun _ => nI 0) (σ.1 6) k)) 7 (z_fil (fun _ => nI 0) (σ.1 7) k)) 6 k (nI 0)) 7 k (nI 0) = z_uI (z_uI σ 6 (z_fil (fun _ => nI 0) (σ.1 6) (k + 1))) 7 (z_fil (fun _ => nI 0) (σ.1 7) (k + 1)) := by
  have e1 := z_filSI σ 6 k (fun _ => nI 0) (σ.1 6) (x := nI 0) rfl
  have e2 := z_filSI (z_uI σ 6 (z_fil (fun _ => nI 0) (σ.1 6) (k + 1))) 7 k (fun _ => nI 0) (σ.1 7) (x := nI 0) rfl
  rw [← e2, ← e1]
  congr 1
  unfold z_ui z_uI
  refine Prod.ext ?_ rfl
  funext a
  by_cases h : a = 6
  · subst h; simp
  · by_cases h2 : a = 7
    · subst h2; simp
    · simp [h, h2]
theorem z_tpK : ∀ t, t < 2 → z_kd (6 + t) = 1 ∧ z_sz (6 + t) = 24 := by decide
abbrev z_chg (F o : Nat → Int32) (k : Nat) : Prop := ¬ ∀ j, j < k → F j = o j
theorem z_ch0 (F o : Nat → Int32) : nI 0 = z_bo (z_chg F o 0) := z_bo_f (fun z => z (fun j h => absurd h (Nat.not_lt_zero j)))
theorem z_ch1 {F o : Nat → Int32} {k : Nat} (h : z_chg F o k) : nI 1 = z_bo (z_chg F o (k + 1)) := z_bo_t (fun z => h (fun j hj => z j (Nat.lt_succ_of_lt hj)))
theorem z_ch2 {F o : Nat → Int32} {k : Nat} (h : ¬ F k = o k) : nI 1 = z_bo (z_chg F o (k + 1)) := z_bo_t (fun z => h (z k (Nat.lt_succ_self k)))
theorem z_ch3 {F o : Nat → Int32} {k : Nat} (h : ¬ z_chg F o k) (h2 : F k = o k) : nI 0 = z_bo (z_chg F o (k + 1)) := z_bo_f (fun z => z (lt_s (Decidable.not_not.mp h) h2))
/-- the ring -/
def z_ha (o u : Nat) : Nat := if u < 20 then o else (o + 1) % 21
def z_hb (u : Nat) : Nat := if u < 20 then u + 1 else 20
theorem z_ui_id {σ : z_St} {i j : Nat} {x : Int32} (h : σ.1 i j = x) : z_ui σ i j x = σ := by
  unfold z_ui
  refine Prod.ext ?_ rfl
  funext a
  by_cases h1 : a = i
  · subst h1
    simp only [if_true]
    funext b
    unfold upd
    by_cases h2 : b = j
    · subst h2; simp [h]
    · simp [h2]
  · simp [h1]
theorem z_ui_cm {σ : z_St} {i a b : Nat} {x y : Int32} (h : a ≠ b) : z_ui (z_ui σ i a x) i b y = z_ui (z_ui σ i b y) i a x := by
  unfold z_ui
  refine Prod.ext ?_ rfl
  funext q
  by_cases h1 : q = i
  · subst h1
    simp only [if_true]
    funext j
    unfold upd
    by_cases h2 : j = a
    · subst h2; simp [h]
    · simp [h2]
  · simp [h1]
theorem dX2_greatestResidual_0 : decode cX2_greatestResidual 0 = .ok (.iconst 0, 1) := by decide +kernel
theorem dX2_greatestResidual_1 : decode cX2_greatestResidual 1 = .ok (.istore_n 1, 1) := by decide +kernel
theorem dX2_greatestResidual_2 : decode cX2_greatestResidual 2 = .ok (.iload_n 1, 1) := by decide +kernel
theorem dX2_greatestResidual_3 : decode cX2_greatestResidual 3 = .ok (.bipush 24, 2) := by decide +kernel
theorem dX2_greatestResidual_5 : decode cX2_greatestResidual 5 = .ok (.if_icmp .ge 20, 3) := by decide +kernel
theorem dX2_greatestResidual_8 : decode cX2_greatestResidual 8 = .ok (.aload_n 0, 1) := by decide +kernel
theorem dX2_greatestResidual_9 : decode cX2_greatestResidual 9 = .ok (.getfield 18, 3) := by decide +kernel
theorem dX2_greatestResidual_12 : decode cX2_greatestResidual 12 = .ok (.iload_n 1, 1) := by decide +kernel
theorem dX2_greatestResidual_13 : decode cX2_greatestResidual 13 = .ok (.aload_n 0, 1) := by decide +kernel
theorem dX2_greatestResidual_14 : decode cX2_greatestResidual 14 = .ok (.iload_n 1, 1) := by decide +kernel
theorem dX2_greatestResidual_15 : decode cX2_greatestResidual 15 = .ok (.invokevirtual 67, 3) := by decide +kernel
theorem dX2_greatestResidual_18 : decode cX2_greatestResidual 18 = .ok (.lastore, 1) := by decide +kernel
theorem dX2_greatestResidual_19 : decode cX2_greatestResidual 19 = .ok (.iinc 1 1, 3) := by decide +kernel
theorem dX2_greatestResidual_22 : decode cX2_greatestResidual 22 = .ok (.goto (-20), 3) := by decide +kernel
theorem dX2_greatestResidual_25 : decode cX2_greatestResidual 25 = .ok (.lconst 0, 1) := by decide +kernel
theorem dX2_greatestResidual_26 : decode cX2_greatestResidual 26 = .ok (.lstore_n 1, 1) := by decide +kernel
theorem dX2_greatestResidual_27 : decode cX2_greatestResidual 27 = .ok (.iconst 0, 1) := by decide +kernel
theorem dX2_greatestResidual_28 : decode cX2_greatestResidual 28 = .ok (.istore_n 3, 1) := by decide +kernel
theorem dX2_greatestResidual_29 : decode cX2_greatestResidual 29 = .ok (.iload_n 3, 1) := by decide +kernel
theorem dX2_greatestResidual_30 : decode cX2_greatestResidual 30 = .ok (.bipush 24, 2) := by decide +kernel
theorem dX2_greatestResidual_32 : decode cX2_greatestResidual 32 = .ok (.if_icmp .ge 78, 3) := by decide +kernel
theorem dX2_greatestResidual_35 : decode cX2_greatestResidual 35 = .ok (.aload_n 0, 1) := by decide +kernel
theorem dX2_greatestResidual_36 : decode cX2_greatestResidual 36 = .ok (.iload_n 3, 1) := by decide +kernel
theorem dX2_greatestResidual_37 : decode cX2_greatestResidual 37 = .ok (.invokevirtual 70, 3) := by decide +kernel
theorem dX2_greatestResidual_40 : decode cX2_greatestResidual 40 = .ok (.lstore 4, 2) := by decide +kernel
theorem dX2_greatestResidual_42 : decode cX2_greatestResidual 42 = .ok (.iconst 0, 1) := by decide +kernel
theorem dX2_greatestResidual_43 : decode cX2_greatestResidual 43 = .ok (.istore 6, 2) := by decide +kernel
theorem dX2_greatestResidual_45 : decode cX2_greatestResidual 45 = .ok (.iload 6, 2) := by decide +kernel
theorem dX2_greatestResidual_47 : decode cX2_greatestResidual 47 = .ok (.aload_n 0, 1) := by decide +kernel
theorem dX2_greatestResidual_48 : decode cX2_greatestResidual 48 = .ok (.getfield 22, 3) := by decide +kernel
theorem dX2_greatestResidual_51 : decode cX2_greatestResidual 51 = .ok (.if_icmp .ge 53, 3) := by decide +kernel
theorem dX2_greatestResidual_54 : decode cX2_greatestResidual 54 = .ok (.ldc2_w 54, 3) := by decide +kernel
theorem dX2_greatestResidual_57 : decode cX2_greatestResidual 57 = .ok (.aload_n 0, 1) := by decide +kernel
theorem dX2_greatestResidual_58 : decode cX2_greatestResidual 58 = .ok (.iload 6, 2) := by decide +kernel
theorem dX2_greatestResidual_60 : decode cX2_greatestResidual 60 = .ok (.iload_n 3, 1) := by decide +kernel
theorem dX2_greatestResidual_61 : decode cX2_greatestResidual 61 = .ok (.invokevirtual 51, 3) := by decide +kernel
theorem dX2_greatestResidual_64 : decode cX2_greatestResidual 64 = .ok (.i2l, 1) := by decide +kernel
theorem dX2_greatestResidual_65 : decode cX2_greatestResidual 65 = .ok (.lmul, 1) := by decide +kernel
theorem dX2_greatestResidual_66 : decode cX2_greatestResidual 66 = .ok (.aload_n 0, 1) := by decide +kernel
theorem dX2_greatestResidual_67 : decode cX2_greatestResidual 67 = .ok (.getfield 18, 3) := by decide +kernel
theorem dX2_greatestResidual_70 : decode cX2_greatestResidual 70 = .ok (.iload_n 3, 1) := by decide +kernel
theorem dX2_greatestResidual_71 : decode cX2_greatestResidual 71 = .ok (.aload_n 0, 1) := by decide +kernel
theorem dX2_greatestResidual_72 : decode cX2_greatestResidual 72 = .ok (.iload 6, 2) := by decide +kernel
theorem dX2_greatestResidual_74 : decode cX2_greatestResidual 74 = .ok (.invokevirtual 64, 3) := by decide +kernel
theorem dX2_greatestResidual_77 : decode cX2_greatestResidual 77 = .ok (.isub, 1) := by decide +kernel
theorem dX2_greatestResidual_78 : decode cX2_greatestResidual 78 = .ok (.invokestatic 41, 3) := by decide +kernel
theorem dX2_greatestResidual_81 : decode cX2_greatestResidual 81 = .ok (.laload, 1) := by decide +kernel
theorem dX2_greatestResidual_82 : decode cX2_greatestResidual 82 = .ok (.lsub, 1) := by decide +kernel
theorem dX2_greatestResidual_83 : decode cX2_greatestResidual 83 = .ok (.lload 4, 2) := by decide +kernel
theorem dX2_greatestResidual_85 : decode cX2_greatestResidual 85 = .ok (.lsub, 1) := by decide +kernel
theorem dX2_greatestResidual_86 : decode cX2_greatestResidual 86 = .ok (.lstore 7, 2) := by decide +kernel
theorem dX2_greatestResidual_88 : decode cX2_greatestResidual 88 = .ok (.lload_n 1, 1) := by decide +kernel
theorem dX2_greatestResidual_89 : decode cX2_greatestResidual 89 = .ok (.lload 7, 2) := by decide +kernel
theorem dX2_greatestResidual_91 : decode cX2_greatestResidual 91 = .ok (.invokestatic 73, 3) := by decide +kernel
theorem dX2_greatestResidual_94 : decode cX2_greatestResidual 94 = .ok (.invokestatic 76, 3) := by decide +kernel
theorem dX2_greatestResidual_97 : decode cX2_greatestResidual 97 = .ok (.lstore_n 1, 1) := by decide +kernel
theorem dX2_greatestResidual_98 : decode cX2_greatestResidual 98 = .ok (.iinc 6 1, 3) := by decide +kernel
theorem dX2_greatestResidual_101 : decode cX2_greatestResidual 101 = .ok (.goto (-56), 3) := by decide +kernel
theorem dX2_greatestResidual_104 : decode cX2_greatestResidual 104 = .ok (.iinc 3 1, 3) := by decide +kernel
theorem dX2_greatestResidual_107 : decode cX2_greatestResidual 107 = .ok (.goto (-78), 3) := by decide +kernel
theorem dX2_greatestResidual_110 : decode cX2_greatestResidual 110 = .ok (.lload_n 1, 1) := by decide +kernel
theorem dX2_greatestResidual_111 : decode cX2_greatestResidual 111 = .ok (.lreturn, 1) := by decide +kernel
set_option maxRecDepth 100000 in
set_option maxHeartbeats 4000000 in
theorem m_X2_greatestResidual {l : Launch} {G : z_Gl} {σ : z_St} (P : Nat) (hP : σ.1 1 3 = nI P) (h0 : 0 < P) (h12 : P ≤ 12) : z_M l G yX2_greatestResidual cX2_greatestResidual 9 (some .long) (z_rm 4 93) [.ref (z_ad G 1)] σ (z_p1 (.long (z_go (σ.1 2) P 24)) (z_uL σ 4 (z_fil (z_pt (σ.1 2) P) (σ.2 4) 24))) := by
  refine z_M.of (by decide) (Nat.le_of_ble_eq_true rfl) (fun p e s m below meth c C => ?_)
  refine z_sub [0] (lv1 := [(0, .ref (z_ad G 1))]) rfl ?_
  refine z_iconst 0 C dX2_greatestResidual_0 (nI 0) rfl ?_
  refine z_istore_n 1 C dX2_greatestResidual_1 [(1, .int (nI 0)), (0, .ref (z_ad G 1))] (by decide) rfl ?_
  refine z_sub [1, 0] (lv1 := [(0, .ref (z_ad G 1)), (1, .int (nI 0))]) rfl ?_
  refine z_cv (lv1 := [(0, .ref (z_ad G 1)), (1, .int (nI 0))]) (st1 := []) (σ1 := z_uL σ 4 (z_fil (z_pt (σ.1 2) P) (σ.2 4) 0)) rfl rfl (z_fil0L σ 4 _) ?_
  refine z_lp1 (fun (k : Nat) => k ≤ 24) (fun (k : Nat) => 24 - k) (fun (k : Nat) => [(0, .ref (z_ad G 1)), (1, .int (nI k))]) (fun (k : Nat) => z_uL σ 4 (z_fil (z_pt (σ.1 2) P) (σ.2 4) k)) (fun k hi_2 ih_2 => ?_) 0 (by omega)
  try dsimp only
  refine z_iload_n 2 C dX2_greatestResidual_2 1 rfl ?_
  refine z_bipush 3 C dX2_greatestResidual_3 (nI 24) rfl ?_
  refine z_icmp_geN 5 C k 24 rfl rfl (by omega) (by omega) 25 dX2_greatestResidual_5 (by decide) (fun c5 => ?_) (fun c5 => ?_)
  · skip
    have ek : k = 24 := by omega
    subst ek
    refine z_lconst 25 C dX2_greatestResidual_25 0 rfl ?_
    refine z_lstore_n 26 C dX2_greatestResidual_26 [(1, .long 0), (0, .ref (z_ad G 1))] (by decide) rfl ?_
    refine z_iconst 27 C dX2_greatestResidual_27 (nI 0) rfl ?_
    refine z_istore_n 28 C dX2_greatestResidual_28 [(3, .int (nI 0)), (1, .long 0), (0, .ref (z_ad G 1))] (by decide) rfl ?_
    refine z_sub [2, 1, 0] (lv1 := [(0, .ref (z_ad G 1)), (1, .long 0), (3, .int (nI 0))]) rfl ?_
    refine z_cv (lv1 := [(0, .ref (z_ad G 1)), (1, .long (z_go (σ.1 2) P 0)), (3, .int (nI 0))]) (st1 := []) (σ1 := z_uL σ 4 (z_fil (z_pt (σ.1 2) P) (σ.2 4) 24)) rfl rfl rfl ?_
    refine z_lp1 (fun (k : Nat) => k ≤ 24) (fun (k : Nat) => 24 - k) (fun (k : Nat) => [(0, .ref (z_ad G 1)), (1, .long (z_go (σ.1 2) P k)), (3, .int (nI k))]) (fun (k : Nat) => z_uL σ 4 (z_fil (z_pt (σ.1 2) P) (σ.2 4) 24)) (fun k hi_29 ih_29 => ?_) 0 (by omega)
    try dsimp only
    refine z_iload_n 29 C dX2_greatestResidual_29 2 rfl ?_
    refine z_bipush 30 C dX2_greatestResidual_30 (nI 24) rfl ?_
    refine z_icmp_geN 32 C k 24 rfl rfl (by omega) (by omega) 110 dX2_greatestResidual_32 (by decide) (fun c32 => ?_) (fun c32 => ?_)
    · skip
      have ek : k = 24 := by omega
      subst ek
      refine z_lload_n 110 C dX2_greatestResidual_110 1 rfl ?_
      refine z_lret 111 C dX2_greatestResidual_111 ?_
      exact ⟨rfl, rfl⟩
    · skip
      refine z_aload_n 35 C dX2_greatestResidual_35 0 rfl ?_
      refine z_iload_n 36 C dX2_greatestResidual_36 2 rfl ?_
      refine z_callV 37 C 1 (⟨rfl, rfl⟩) rfl (As := [.int (nI k)]) (rest := []) (m_X2_spindleAt (σ := z_uL σ 4 (z_fil (z_pt (σ.1 2) P) (σ.2 4) 24)) P hP (by omega) (by omega) k (by omega)) k_X2_spindleAt q511 ⟨rfl, rfl⟩ ⟨Nat.le_of_ble_eq_true rfl, Nat.le_of_ble_eq_true rfl⟩ rfl (Nat.le_of_ble_eq_true rfl) ⟨Nat.le_of_ble_eq_true rfl, Nat.le_of_ble_eq_true rfl⟩ rfl dX2_greatestResidual_37 (z_k1 ?_)
      refine z_lstore 40 C dX2_greatestResidual_40 [(4, .long (z_sp (σ.1 2) P k)), (0, .ref (z_ad G 1)), (1, .long (z_go (σ.1 2) P k)), (3, .int (nI k))] (by decide) rfl ?_
      refine z_iconst 42 C dX2_greatestResidual_42 (nI 0) rfl ?_
      refine z_istore 43 C dX2_greatestResidual_43 [(6, .int (nI 0)), (4, .long (z_sp (σ.1 2) P k)), (0, .ref (z_ad G 1)), (1, .long (z_go (σ.1 2) P k)), (3, .int (nI k))] (by decide) rfl ?_
      refine z_sub [2, 3, 4, 1, 0] (lv1 := [(0, .ref (z_ad G 1)), (1, .long (z_go (σ.1 2) P k)), (3, .int (nI k)), (4, .long (z_sp (σ.1 2) P k)), (6, .int (nI 0))]) rfl ?_
      refine z_cv (lv1 := [(0, .ref (z_ad G 1)), (1, .long (z_gi (σ.1 2) P k (z_go (σ.1 2) P k) 0)), (3, .int (nI k)), (4, .long (z_sp (σ.1 2) P k)), (6, .int (nI 0))]) (st1 := []) (σ1 := z_uL σ 4 (z_fil (z_pt (σ.1 2) P) (σ.2 4) 24)) rfl rfl rfl ?_
      refine z_lp1 (fun (j : Nat) => j ≤ P) (fun (j : Nat) => P - j) (fun (j : Nat) => [(0, .ref (z_ad G 1)), (1, .long (z_gi (σ.1 2) P k (z_go (σ.1 2) P k) j)), (3, .int (nI k)), (4, .long (z_sp (σ.1 2) P k)), (6, .int (nI j))]) (fun (j : Nat) => z_uL σ 4 (z_fil (z_pt (σ.1 2) P) (σ.2 4) 24)) (fun j hi_45 ih_45 => ?_) 0 (by omega)
      try dsimp only
      refine z_iload 45 C dX2_greatestResidual_45 4 rfl ?_
      refine z_aload_n 47 C dX2_greatestResidual_47 0 rfl ?_
      refine z_getf 48 C 1 z_dX2 (⟨rfl, rfl⟩) 3 (by decide) q130 (.int (nI P)) (z_ci hP) dX2_greatestResidual_48 ?_
      refine z_icmp_geN 51 C j P rfl rfl (by omega) (by omega) 104 dX2_greatestResidual_51 (by decide) (fun c51 => ?_) (fun c51 => ?_)
      · skip
        have ej : P = j := by omega
        subst ej
        refine z_iincN 104 C 2 k [(3, .int (nI (k + 1))), (0, .ref (z_ad G 1)), (1, .long (z_gi (σ.1 2) P k (z_go (σ.1 2) P k) P)), (4, .long (z_sp (σ.1 2) P k)), (6, .int (nI P))] rfl rfl (by decide) rfl dX2_greatestResidual_104 ?_
        refine z_goto 107 C 29 dX2_greatestResidual_107 (by decide) ?_
        refine z_sub [1, 2, 0] (lv1 := [(0, .ref (z_ad G 1)), (1, .long (z_gi (σ.1 2) P k (z_go (σ.1 2) P k) P)), (3, .int (nI (k + 1)))]) rfl ?_
        refine z_cv (lv1 := [(0, .ref (z_ad G 1)), (1, .long (z_go (σ.1 2) P (k + 1))), (3, .int (nI (k + 1)))]) (st1 := []) (σ1 := z_uL σ 4 (z_fil (z_pt (σ.1 2) P) (σ.2 4) 24)) rfl rfl rfl ?_
        exact ih_29 (k + 1) (by omega) (by omega)
      · skip
        have hdl : j * (24 / P) ≤ 12 * 24 := Nat.mul_le_mul (by omega) (Nat.div_le_self 24 P)
        refine z_ldc2 54 C dX2_greatestResidual_54 q486 ?_
        refine z_aload_n 57 C dX2_greatestResidual_57 0 rfl ?_
        refine z_iload 58 C dX2_greatestResidual_58 4 rfl ?_
        refine z_iload_n 60 C dX2_greatestResidual_60 2 rfl ?_
        refine z_callV 61 C 1 (⟨rfl, rfl⟩) rfl (As := [.int (nI j), .int (nI k)]) (rest := [.long 1000000]) (m_X2_at (σ := z_uL σ 4 (z_fil (z_pt (σ.1 2) P) (σ.2 4) 24)) j k (by omega) (by omega)) k_X2_at q481 ⟨rfl, rfl⟩ ⟨Nat.le_of_ble_eq_true rfl, Nat.le_of_ble_eq_true rfl⟩ rfl (Nat.le_of_ble_eq_true rfl) ⟨Nat.le_of_ble_eq_true rfl, Nat.le_of_ble_eq_true rfl⟩ rfl dX2_greatestResidual_61 (z_k1 ?_)
        refine z_i2l 64 C dX2_greatestResidual_64 ?_
        refine z_lmul 65 C dX2_greatestResidual_65 ?_
        refine z_aload_n 66 C dX2_greatestResidual_66 0 rfl ?_
        refine z_getf 67 C 1 z_dX2 (⟨rfl, rfl⟩) 2 (by decide) q129 (.ref (z_ad G 4)) rfl dX2_greatestResidual_67 ?_
        refine z_iload_n 70 C dX2_greatestResidual_70 2 rfl ?_
        refine z_aload_n 71 C dX2_greatestResidual_71 0 rfl ?_
        refine z_iload 72 C dX2_greatestResidual_72 4 rfl ?_
        refine z_callV 74 C 1 (⟨rfl, rfl⟩) rfl (As := [.int (nI j)]) (rest := [.int (nI k), .ref (z_ad G 4), .long (1000000 * (Int32.toInt64 (σ.1 2 (j * 24 + k % 24))))]) (m_X2_turnOf (σ := z_uL σ 4 (z_fil (z_pt (σ.1 2) P) (σ.2 4) 24)) P hP (by omega) (by omega) j) k_X2_turnOf q480 ⟨rfl, rfl⟩ ⟨Nat.le_of_ble_eq_true rfl, Nat.le_of_ble_eq_true rfl⟩ rfl (Nat.le_of_ble_eq_true rfl) ⟨Nat.le_of_ble_eq_true rfl, Nat.le_of_ble_eq_true rfl⟩ rfl dX2_greatestResidual_74 (z_k1 ?_)
        refine z_isub 77 C dX2_greatestResidual_77 ?_
        refine z_callSN 78 C (As := [.int ((nI k) - (nI (j * (24 / P))))]) (rest := [.ref (z_ad G 4), .long (1000000 * (Int32.toInt64 (σ.1 2 (j * 24 + k % 24))))]) (m_X7_place_d (σ := z_uL σ 4 (z_fil (z_pt (σ.1 2) P) (σ.2 4) 24)) k (j * (24 / P)) (by omega) (by omega)) k_X7_place (List.mem_of_getElem? (i := 20) rfl) ⟨rfl, rfl⟩ ⟨Nat.le_of_ble_eq_true rfl, Nat.le_of_ble_eq_true rfl⟩ rfl (Nat.le_of_ble_eq_true rfl) ⟨Nat.le_of_ble_eq_true rfl, Nat.le_of_ble_eq_true rfl⟩ rfl dX2_greatestResidual_78 (z_k1 ?_)
        refine z_laldN 81 C 4 (n := 24) (⟨rfl, rfl⟩) ((k + (24 - (j * (24 / P)) % 24)) % 24) rfl (by omega) (by decide) dX2_greatestResidual_81 ?_
        refine z_cv (lv1 := [(0, .ref (z_ad G 1)), (1, .long (z_gi (σ.1 2) P k (z_go (σ.1 2) P k) j)), (3, .int (nI k)), (4, .long (z_sp (σ.1 2) P k)), (6, .int (nI j))]) (st1 := [.long (z_pt (σ.1 2) P ((k + (24 - j * (24 / P) % 24)) % 24)), .long (1000000 * (Int32.toInt64 (σ.1 2 (j * 24 + k % 24))))]) (σ1 := z_uL σ 4 (z_fil (z_pt (σ.1 2) P) (σ.2 4) 24)) rfl (by rw [z_uL2, if_pos rfl, z_fil_lt (Nat.mod_lt _ (by decide))]) rfl ?_
        refine z_lsub 82 C dX2_greatestResidual_82 ?_
        refine z_lload 83 C dX2_greatestResidual_83 3 rfl ?_
        refine z_lsub 85 C dX2_greatestResidual_85 ?_
        refine z_lstore 86 C dX2_greatestResidual_86 [(7, .long (((1000000 * (Int32.toInt64 (σ.1 2 (j * 24 + k % 24)))) - (z_pt (σ.1 2) P ((k + (24 - j * (24 / P) % 24)) % 24))) - (z_sp (σ.1 2) P k))), (0, .ref (z_ad G 1)), (1, .long (z_gi (σ.1 2) P k (z_go (σ.1 2) P k) j)), (3, .int (nI k)), (4, .long (z_sp (σ.1 2) P k)), (6, .int (nI j))] (by decide) rfl ?_
        refine z_lload_n 88 C dX2_greatestResidual_88 2 rfl ?_
        refine z_lload 89 C dX2_greatestResidual_89 0 rfl ?_
        refine z_callS 91 C (As := [.long (((1000000 * (Int32.toInt64 (σ.1 2 (j * 24 + k % 24)))) - (z_pt (σ.1 2) P ((k + (24 - j * (24 / P) % 24)) % 24))) - (z_sp (σ.1 2) P k))]) (rest := [.long (z_gi (σ.1 2) P k (z_go (σ.1 2) P k) j)]) (m_J9_abs_067f4 (σ := z_uL σ 4 (z_fil (z_pt (σ.1 2) P) (σ.2 4) 24)) (((1000000 * (Int32.toInt64 (σ.1 2 (j * 24 + k % 24)))) - (z_pt (σ.1 2) P ((k + (24 - j * (24 / P) % 24)) % 24))) - (z_sp (σ.1 2) P k))) k_J9_abs_067f4 q512 ⟨rfl, rfl⟩ ⟨Nat.le_of_ble_eq_true rfl, Nat.le_of_ble_eq_true rfl⟩ rfl (Nat.le_of_ble_eq_true rfl) ⟨Nat.le_of_ble_eq_true rfl, Nat.le_of_ble_eq_true rfl⟩ rfl dX2_greatestResidual_91 (z_k1 ?_)
        refine z_callS 94 C (As := [.long (z_gi (σ.1 2) P k (z_go (σ.1 2) P k) j), .long (z_ab (((1000000 * (Int32.toInt64 (σ.1 2 (j * 24 + k % 24)))) - (z_pt (σ.1 2) P ((k + (24 - j * (24 / P) % 24)) % 24))) - (z_sp (σ.1 2) P k)))]) (rest := []) (m_J9_max_f86c9 (σ := z_uL σ 4 (z_fil (z_pt (σ.1 2) P) (σ.2 4) 24)) (z_gi (σ.1 2) P k (z_go (σ.1 2) P k) j) (z_ab (((1000000 * (Int32.toInt64 (σ.1 2 (j * 24 + k % 24)))) - (z_pt (σ.1 2) P ((k + (24 - j * (24 / P) % 24)) % 24))) - (z_sp (σ.1 2) P k)))) k_J9_max_f86c9 q515 ⟨rfl, rfl⟩ ⟨Nat.le_of_ble_eq_true rfl, Nat.le_of_ble_eq_true rfl⟩ rfl (Nat.le_of_ble_eq_true rfl) ⟨Nat.le_of_ble_eq_true rfl, Nat.le_of_ble_eq_true rfl⟩ rfl dX2_greatestResidual_94 (z_k1 ?_)
        refine z_lstore_n 97 C dX2_greatestResidual_97 [(1, .long (z_mx (z_gi (σ.1 2) P k (z_go (σ.1 2) P k) j) (z_ab (((1000000 * (Int32.toInt64 (σ.1 2 (j * 24 + k % 24)))) - (z_pt (σ.1 2) P ((k + (24 - j * (24 / P) % 24)) % 24))) - (z_sp (σ.1 2) P k))))), (7, .long (((1000000 * (Int32.toInt64 (σ.1 2 (j * 24 + k % 24)))) - (z_pt (σ.1 2) P ((k + (24 - j * (24 / P) % 24)) % 24))) - (z_sp (σ.1 2) P k))), (0, .ref (z_ad G 1)), (3, .int (nI k)), (4, .long (z_sp (σ.1 2) P k)), (6, .int (nI j))] (by decide) rfl ?_
        refine z_iincN 98 C 5 j [(6, .int (nI (j + 1))), (1, .long (z_mx (z_gi (σ.1 2) P k (z_go (σ.1 2) P k) j) (z_ab (((1000000 * (Int32.toInt64 (σ.1 2 (j * 24 + k % 24)))) - (z_pt (σ.1 2) P ((k + (24 - j * (24 / P) % 24)) % 24))) - (z_sp (σ.1 2) P k))))), (7, .long (((1000000 * (Int32.toInt64 (σ.1 2 (j * 24 + k % 24)))) - (z_pt (σ.1 2) P ((k + (24 - j * (24 / P) % 24)) % 24))) - (z_sp (σ.1 2) P k))), (0, .ref (z_ad G 1)), (3, .int (nI k)), (4, .long (z_sp (σ.1 2) P k))] rfl rfl (by decide) rfl dX2_greatestResidual_98 ?_
        refine z_goto 101 C 45 dX2_greatestResidual_101 (by decide) ?_
        refine z_sub [3, 1, 4, 5, 0] (lv1 := [(0, .ref (z_ad G 1)), (1, .long (z_mx (z_gi (σ.1 2) P k (z_go (σ.1 2) P k) j) (z_ab (((1000000 * (Int32.toInt64 (σ.1 2 (j * 24 + k % 24)))) - (z_pt (σ.1 2) P ((k + (24 - j * (24 / P) % 24)) % 24))) - (z_sp (σ.1 2) P k))))), (3, .int (nI k)), (4, .long (z_sp (σ.1 2) P k)), (6, .int (nI (j + 1)))]) rfl ?_
        refine z_cv (lv1 := [(0, .ref (z_ad G 1)), (1, .long (z_gi (σ.1 2) P k (z_go (σ.1 2) P k) (j + 1))), (3, .int (nI k)), (4, .long (z_sp (σ.1 2) P k)), (6, .int (nI (j + 1)))]) (st1 := []) (σ1 := z_uL σ 4 (z_fil (z_pt (σ.1 2) P) (σ.2 4) 24)) rfl rfl rfl ?_
        exact ih_45 (j + 1) (by omega) (by omega)
  · skip
    refine z_aload_n 8 C dX2_greatestResidual_8 0 rfl ?_
    refine z_getf 9 C 1 z_dX2 (⟨rfl, rfl⟩) 2 (by decide) q129 (.ref (z_ad G 4)) rfl dX2_greatestResidual_9 ?_
    refine z_iload_n 12 C dX2_greatestResidual_12 1 rfl ?_
    refine z_aload_n 13 C dX2_greatestResidual_13 0 rfl ?_
    refine z_iload_n 14 C dX2_greatestResidual_14 1 rfl ?_
    refine z_callV 15 C 1 (⟨rfl, rfl⟩) rfl (As := [.int (nI k)]) (rest := [.int (nI k), .ref (z_ad G 4)]) (m_X2_partAt (σ := z_uL σ 4 (z_fil (z_pt (σ.1 2) P) (σ.2 4) k)) P hP (by omega) (by omega) k (by omega)) k_X2_partAt q510 ⟨rfl, rfl⟩ ⟨Nat.le_of_ble_eq_true rfl, Nat.le_of_ble_eq_true rfl⟩ rfl (Nat.le_of_ble_eq_true rfl) ⟨Nat.le_of_ble_eq_true rfl, Nat.le_of_ble_eq_true rfl⟩ rfl dX2_greatestResidual_15 (z_k1 ?_)
    refine z_lastN 18 C 4 (n := 24) (⟨rfl, rfl⟩) k rfl (by omega) (by decide) dX2_greatestResidual_18 ?_
    refine z_iincN 19 C 1 k [(1, .int (nI (k + 1))), (0, .ref (z_ad G 1))] rfl rfl (by decide) rfl dX2_greatestResidual_19 ?_
    refine z_goto 22 C 2 dX2_greatestResidual_22 (by decide) ?_
    refine z_sub [1, 0] (lv1 := [(0, .ref (z_ad G 1)), (1, .int (nI (k + 1)))]) rfl ?_
    refine z_cv (lv1 := [(0, .ref (z_ad G 1)), (1, .int (nI (k + 1)))]) (st1 := []) (σ1 := z_uL σ 4 (z_fil (z_pt (σ.1 2) P) (σ.2 4) (k + 1))) rfl rfl (z_filSL σ 4 k _ _ rfl) ?_
    exact ih_2 (k + 1) (by omega) (by omega)
theorem dX5_profileOf_0 : decode cX5_profileOf 0 = .ok (.iload_n 1, 1) := by decide +kernel
theorem dX5_profileOf_1 : decode cX5_profileOf 1 = .ok (.ifCond .eq 10, 3) := by decide +kernel
theorem dX5_profileOf_4 : decode cX5_profileOf 4 = .ok (.aload_n 0, 1) := by decide +kernel
theorem dX5_profileOf_5 : decode cX5_profileOf 5 = .ok (.getfield 15, 3) := by decide +kernel
theorem dX5_profileOf_8 : decode cX5_profileOf 8 = .ok (.goto 7, 3) := by decide +kernel
theorem dX5_profileOf_11 : decode cX5_profileOf 11 = .ok (.aload_n 0, 1) := by decide +kernel
theorem dX5_profileOf_12 : decode cX5_profileOf 12 = .ok (.getfield 9, 3) := by decide +kernel
theorem dX5_profileOf_15 : decode cX5_profileOf 15 = .ok (.areturn, 1) := by decide +kernel
set_option maxRecDepth 100000 in
set_option maxHeartbeats 4000000 in
theorem m_X5_profileOf {l : Launch} {G : z_Gl} {σ : z_St} (t : Nat) (ht : t < 2) : z_M l G yX5_profileOf cX5_profileOf 2 (some (.array .int)) (z_rm 0 0) [.ref (z_ad G 5), .int (nI t)] σ (z_p1 (.ref (z_ad G (6 + t))) σ) := by
  refine z_M.of (by decide) (Nat.le_of_ble_eq_true rfl) (fun p e s m below meth c C => ?_)
  refine z_sub [0, 1] (lv1 := [(0, .ref (z_ad G 5)), (1, .int (nI t))]) rfl ?_
  refine z_iload_n 0 C dX5_profileOf_0 1 rfl ?_
  refine z_if_eq 1 C 11 dX5_profileOf_1 (by decide) (fun c1 => ?_) (fun c1 => ?_)
  · skip
    have et : t = 0 := (z_nI0 (by omega)).mp c1
    subst et
    refine z_aload_n 11 C dX5_profileOf_11 0 rfl ?_
    refine z_getf 12 C 5 z_dX5 (⟨rfl, rfl⟩) 0 (by decide) q153 (.ref (z_ad G 6)) rfl dX5_profileOf_12 ?_
    refine z_aret 15 (Or.inr ⟨_, rfl⟩) C dX5_profileOf_15 ?_
    exact ⟨rfl, rfl⟩
  · skip
    have et : t = 1 := by
      have : ¬ t = 0 := fun z => c1 ((z_nI0 (t := t) (by omega)).mpr z)
      omega
    subst et
    refine z_aload_n 4 C dX5_profileOf_4 0 rfl ?_
    refine z_getf 5 C 5 z_dX5 (⟨rfl, rfl⟩) 1 (by decide) q154 (.ref (z_ad G 7)) rfl dX5_profileOf_5 ?_
    refine z_goto 8 C 15 dX5_profileOf_8 (by decide) ?_
    refine z_aret 15 (Or.inr ⟨_, rfl⟩) C dX5_profileOf_15 ?_
    exact ⟨rfl, rfl⟩
theorem dX5_shiftTo_0 : decode cX5_shiftTo 0 = .ok (.iload_n 1, 1) := by decide +kernel
theorem dX5_shiftTo_1 : decode cX5_shiftTo 1 = .ok (.aload_n 0, 1) := by decide +kernel
theorem dX5_shiftTo_2 : decode cX5_shiftTo 2 = .ok (.getfield 18, 3) := by decide +kernel
theorem dX5_shiftTo_5 : decode cX5_shiftTo 5 = .ok (.if_icmp .ne 11, 3) := by decide +kernel
theorem dX5_shiftTo_8 : decode cX5_shiftTo 8 = .ok (.iload_n 2, 1) := by decide +kernel
theorem dX5_shiftTo_9 : decode cX5_shiftTo 9 = .ok (.aload_n 0, 1) := by decide +kernel
theorem dX5_shiftTo_10 : decode cX5_shiftTo 10 = .ok (.getfield 22, 3) := by decide +kernel
theorem dX5_shiftTo_13 : decode cX5_shiftTo 13 = .ok (.if_icmp .eq 7, 3) := by decide +kernel
theorem dX5_shiftTo_16 : decode cX5_shiftTo 16 = .ok (.iconst 1, 1) := by decide +kernel
theorem dX5_shiftTo_17 : decode cX5_shiftTo 17 = .ok (.goto 4, 3) := by decide +kernel
theorem dX5_shiftTo_20 : decode cX5_shiftTo 20 = .ok (.iconst 0, 1) := by decide +kernel
theorem dX5_shiftTo_21 : decode cX5_shiftTo 21 = .ok (.istore_n 3, 1) := by decide +kernel
theorem dX5_shiftTo_22 : decode cX5_shiftTo 22 = .ok (.aload_n 0, 1) := by decide +kernel
theorem dX5_shiftTo_23 : decode cX5_shiftTo 23 = .ok (.iload_n 1, 1) := by decide +kernel
theorem dX5_shiftTo_24 : decode cX5_shiftTo 24 = .ok (.putfield 18, 3) := by decide +kernel
theorem dX5_shiftTo_27 : decode cX5_shiftTo 27 = .ok (.aload_n 0, 1) := by decide +kernel
theorem dX5_shiftTo_28 : decode cX5_shiftTo 28 = .ok (.iload_n 2, 1) := by decide +kernel
theorem dX5_shiftTo_29 : decode cX5_shiftTo 29 = .ok (.putfield 22, 3) := by decide +kernel
theorem dX5_shiftTo_32 : decode cX5_shiftTo 32 = .ok (.iload_n 3, 1) := by decide +kernel
theorem dX5_shiftTo_33 : decode cX5_shiftTo 33 = .ok (.ireturn, 1) := by decide +kernel
set_option maxRecDepth 100000 in
set_option maxHeartbeats 4000000 in
theorem m_X5_shiftTo {l : Launch} {G : z_Gl} {σ : z_St} (x y : Int32) : z_M l G yX5_shiftTo cX5_shiftTo 4 (some .boolean) (z_rm 0 0) [.ref (z_ad G 5), .int x, .int y] σ (z_p1 (.int (z_bo (¬ x = σ.1 5 2 ∨ ¬ y = σ.1 5 3))) (z_ui (z_ui σ 5 2 x) 5 3 y)) := by
  refine z_M.of (by decide) (Nat.le_of_ble_eq_true rfl) (fun p e s m below meth c C => ?_)
  refine z_sub [0, 1, 2] (lv1 := [(0, .ref (z_ad G 5)), (1, .int x), (2, .int y)]) rfl ?_
  refine z_iload_n 0 C dX5_shiftTo_0 1 rfl ?_
  refine z_aload_n 1 C dX5_shiftTo_1 0 rfl ?_
  refine z_getf 2 C 5 z_dX5 (⟨rfl, rfl⟩) 2 (by decide) q155 (.int (σ.1 5 2)) rfl dX5_shiftTo_2 ?_
  refine z_icmp_ne 5 C 16 dX5_shiftTo_5 (by decide) (fun c5 => ?_) (fun c5 => ?_)
  · skip
    refine z_iconst 16 C dX5_shiftTo_16 (nI 1) rfl ?_
    refine z_goto 17 C 21 dX5_shiftTo_17 (by decide) ?_
    refine z_istore_n 21 C dX5_shiftTo_21 [(3, .int (nI 1)), (0, .ref (z_ad G 5)), (1, .int x), (2, .int y)] (by decide) rfl ?_
    refine z_aload_n 22 C dX5_shiftTo_22 1 rfl ?_
    refine z_iload_n 23 C dX5_shiftTo_23 2 rfl ?_
    refine z_puti 24 C 5 z_dX5 (⟨rfl, rfl⟩) 2 (by decide) q155 rfl (rfl) rfl ⟨Nat.le_of_ble_eq_true rfl, rfl⟩ dX5_shiftTo_24 ?_
    refine z_aload_n 27 C dX5_shiftTo_27 1 rfl ?_
    refine z_iload_n 28 C dX5_shiftTo_28 3 rfl ?_
    refine z_puti 29 C 5 z_dX5 (⟨rfl, rfl⟩) 3 (by decide) q156 rfl (rfl) rfl ⟨Nat.le_of_ble_eq_true rfl, rfl⟩ dX5_shiftTo_29 ?_
    refine z_iload_n 32 C dX5_shiftTo_32 0 rfl ?_
    refine z_zret 33 C (rfl) dX5_shiftTo_33 ?_
    first | exact ⟨z_ci (z_bo_t (Or.inl c5)), rfl⟩ | exact ⟨z_ci (z_bo_f (fun z => z.elim (fun q => q c5) (fun q => q c13))), rfl⟩ | exact ⟨z_ci (z_bo_t (Or.inr c13)), rfl⟩
  · skip
    refine z_iload_n 8 C dX5_shiftTo_8 2 rfl ?_
    refine z_aload_n 9 C dX5_shiftTo_9 0 rfl ?_
    refine z_getf 10 C 5 z_dX5 (⟨rfl, rfl⟩) 3 (by decide) q156 (.int (σ.1 5 3)) rfl dX5_shiftTo_10 ?_
    refine z_icmp_eq 13 C 20 dX5_shiftTo_13 (by decide) (fun c13 => ?_) (fun c13 => ?_)
    · skip
      refine z_iconst 20 C dX5_shiftTo_20 (nI 0) rfl ?_
      refine z_istore_n 21 C dX5_shiftTo_21 [(3, .int (nI 0)), (0, .ref (z_ad G 5)), (1, .int x), (2, .int y)] (by decide) rfl ?_
      refine z_aload_n 22 C dX5_shiftTo_22 1 rfl ?_
      refine z_iload_n 23 C dX5_shiftTo_23 2 rfl ?_
      refine z_puti 24 C 5 z_dX5 (⟨rfl, rfl⟩) 2 (by decide) q155 rfl (rfl) rfl ⟨Nat.le_of_ble_eq_true rfl, rfl⟩ dX5_shiftTo_24 ?_
      refine z_aload_n 27 C dX5_shiftTo_27 1 rfl ?_
      refine z_iload_n 28 C dX5_shiftTo_28 3 rfl ?_
      refine z_puti 29 C 5 z_dX5 (⟨rfl, rfl⟩) 3 (by decide) q156 rfl (rfl) rfl ⟨Nat.le_of_ble_eq_true rfl, rfl⟩ dX5_shiftTo_29 ?_
      refine z_iload_n 32 C dX5_shiftTo_32 0 rfl ?_
      refine z_zret 33 C (rfl) dX5_shiftTo_33 ?_
      first | exact ⟨z_ci (z_bo_t (Or.inl c5)), rfl⟩ | exact ⟨z_ci (z_bo_f (fun z => z.elim (fun q => q c5) (fun q => q c13))), rfl⟩ | exact ⟨z_ci (z_bo_t (Or.inr c13)), rfl⟩
    · skip
      refine z_iconst 16 C dX5_shiftTo_16 (nI 1) rfl ?_
      refine z_goto 17 C 21 dX5_shiftTo_17 (by decide) ?_
      refine z_istore_n 21 C dX5_shiftTo_21 [(3, .int (nI 1)), (0, .ref (z_ad G 5)), (1, .int x), (2, .int y)] (by decide) rfl ?_
      refine z_aload_n 22 C dX5_shiftTo_22 1 rfl ?_
      refine z_iload_n 23 C dX5_shiftTo_23 2 rfl ?_
      refine z_puti 24 C 5 z_dX5 (⟨rfl, rfl⟩) 2 (by decide) q155 rfl (rfl) rfl ⟨Nat.le_of_ble_eq_true rfl, rfl⟩ dX5_shiftTo_24 ?_
      refine z_aload_n 27 C dX5_shiftTo_27 1 rfl ?_
      refine z_iload_n 28 C dX5_shiftTo_28 3 rfl ?_
      refine z_puti 29 C 5 z_dX5 (⟨rfl, rfl⟩) 3 (by decide) q156 rfl (rfl) rfl ⟨Nat.le_of_ble_eq_true rfl, rfl⟩ dX5_shiftTo_29 ?_
      refine z_iload_n 32 C dX5_shiftTo_32 0 rfl ?_
      refine z_zret 33 C (rfl) dX5_shiftTo_33 ?_
      first | exact ⟨z_ci (z_bo_t (Or.inl c5)), rfl⟩ | exact ⟨z_ci (z_bo_f (fun z => z.elim (fun q => q c5) (fun q => q c13))), rfl⟩ | exact ⟨z_ci (z_bo_t (Or.inr c13)), rfl⟩
theorem dX5_reset_0 : decode cX5_reset 0 = .ok (.iconst 0, 1) := by decide +kernel
theorem dX5_reset_1 : decode cX5_reset 1 = .ok (.istore_n 1, 1) := by decide +kernel
theorem dX5_reset_2 : decode cX5_reset 2 = .ok (.iload_n 1, 1) := by decide +kernel
theorem dX5_reset_3 : decode cX5_reset 3 = .ok (.bipush 24, 2) := by decide +kernel
theorem dX5_reset_5 : decode cX5_reset 5 = .ok (.if_icmp .ge 23, 3) := by decide +kernel
theorem dX5_reset_8 : decode cX5_reset 8 = .ok (.aload_n 0, 1) := by decide +kernel
theorem dX5_reset_9 : decode cX5_reset 9 = .ok (.getfield 9, 3) := by decide +kernel
theorem dX5_reset_12 : decode cX5_reset 12 = .ok (.iload_n 1, 1) := by decide +kernel
theorem dX5_reset_13 : decode cX5_reset 13 = .ok (.iconst 0, 1) := by decide +kernel
theorem dX5_reset_14 : decode cX5_reset 14 = .ok (.iastore, 1) := by decide +kernel
theorem dX5_reset_15 : decode cX5_reset 15 = .ok (.aload_n 0, 1) := by decide +kernel
theorem dX5_reset_16 : decode cX5_reset 16 = .ok (.getfield 15, 3) := by decide +kernel
theorem dX5_reset_19 : decode cX5_reset 19 = .ok (.iload_n 1, 1) := by decide +kernel
theorem dX5_reset_20 : decode cX5_reset 20 = .ok (.iconst 0, 1) := by decide +kernel
theorem dX5_reset_21 : decode cX5_reset 21 = .ok (.iastore, 1) := by decide +kernel
theorem dX5_reset_22 : decode cX5_reset 22 = .ok (.iinc 1 1, 3) := by decide +kernel
theorem dX5_reset_25 : decode cX5_reset 25 = .ok (.goto (-23), 3) := by decide +kernel
theorem dX5_reset_28 : decode cX5_reset 28 = .ok (.aload_n 0, 1) := by decide +kernel
theorem dX5_reset_29 : decode cX5_reset 29 = .ok (.iconst 0, 1) := by decide +kernel
theorem dX5_reset_30 : decode cX5_reset 30 = .ok (.iconst 0, 1) := by decide +kernel
theorem dX5_reset_31 : decode cX5_reset 31 = .ok (.invokevirtual 25, 3) := by decide +kernel
theorem dX5_reset_34 : decode cX5_reset 34 = .ok (.pop, 1) := by decide +kernel
theorem dX5_reset_35 : decode cX5_reset 35 = .ok (.return_, 1) := by decide +kernel
set_option maxRecDepth 100000 in
set_option maxHeartbeats 4000000 in
theorem m_X5_reset {l : Launch} {G : z_Gl} {σ : z_St}  : z_M l G yX5_reset cX5_reset 2 none (z_rm 1 23) [.ref (z_ad G 5)] σ (z_p0 (z_ui (z_ui (z_uI (z_uI σ 6 (z_fil (fun _ => nI 0) (σ.1 6) 24)) 7 (z_fil (fun _ => nI 0) (σ.1 7) 24)) 5 2 (nI 0)) 5 3 (nI 0))) := by
  refine z_M.of (by decide) (Nat.le_of_ble_eq_true rfl) (fun p e s m below meth c C => ?_)
  refine z_sub [0] (lv1 := [(0, .ref (z_ad G 5))]) rfl ?_
  refine z_iconst 0 C dX5_reset_0 (nI 0) rfl ?_
  refine z_istore_n 1 C dX5_reset_1 [(1, .int (nI 0)), (0, .ref (z_ad G 5))] (by decide) rfl ?_
  refine z_sub [1, 0] (lv1 := [(0, .ref (z_ad G 5)), (1, .int (nI 0))]) rfl ?_
  refine z_cv (lv1 := [(0, .ref (z_ad G 5)), (1, .int (nI 0))]) (st1 := []) (σ1 := z_uI (z_uI σ 6 (z_fil (fun _ => nI 0) (σ.1 6) 0)) 7 (z_fil (fun _ => nI 0) (σ.1 7) 0)) rfl rfl (by rw [z_fil_0, z_fil_0, z_uI_same, z_uI_same]) ?_
  refine z_lp1 (fun (k : Nat) => k ≤ 24) (fun (k : Nat) => 24 - k) (fun (k : Nat) => [(0, .ref (z_ad G 5)), (1, .int (nI k))]) (fun (k : Nat) => z_uI (z_uI σ 6 (z_fil (fun _ => nI 0) (σ.1 6) k)) 7 (z_fil (fun _ => nI 0) (σ.1 7) k)) (fun k hi_2 ih_2 => ?_) 0 (by omega)
  try dsimp only
  refine z_iload_n 2 C dX5_reset_2 1 rfl ?_
  refine z_bipush 3 C dX5_reset_3 (nI 24) rfl ?_
  refine z_icmp_geN 5 C k 24 rfl rfl (by omega) (by omega) 28 dX5_reset_5 (by decide) (fun c5 => ?_) (fun c5 => ?_)
  · skip
    have ek : k = 24 := by omega
    subst ek
    refine z_aload_n 28 C dX5_reset_28 0 rfl ?_
    refine z_iconst 29 C dX5_reset_29 (nI 0) rfl ?_
    refine z_iconst 30 C dX5_reset_30 (nI 0) rfl ?_
    refine z_callV 31 C 5 (⟨rfl, rfl⟩) rfl (As := [.int (nI 0), .int (nI 0)]) (rest := []) (m_X5_shiftTo (σ := z_uI (z_uI σ 6 (z_fil (fun _ => nI 0) (σ.1 6) 24)) 7 (z_fil (fun _ => nI 0) (σ.1 7) 24)) (nI 0) (nI 0)) k_X5_shiftTo q925 ⟨rfl, rfl⟩ ⟨Nat.le_of_ble_eq_true rfl, Nat.le_of_ble_eq_true rfl⟩ rfl (Nat.le_of_ble_eq_true rfl) ⟨Nat.le_of_ble_eq_true rfl, Nat.le_of_ble_eq_true rfl⟩ rfl dX5_reset_31 (z_k1 ?_)
    refine z_pop 34 C dX5_reset_34 rfl ?_
    refine z_vret 35 C dX5_reset_35 ?_
    exact ⟨rfl, rfl⟩
  · skip
    refine z_aload_n 8 C dX5_reset_8 0 rfl ?_
    refine z_getf 9 C 5 z_dX5 (⟨rfl, rfl⟩) 0 (by decide) q153 (.ref (z_ad G 6)) rfl dX5_reset_9 ?_
    refine z_iload_n 12 C dX5_reset_12 1 rfl ?_
    refine z_iconst 13 C dX5_reset_13 (nI 0) rfl ?_
    refine z_iastN 14 C 6 (n := 24) (⟨rfl, rfl⟩) k rfl (by omega) (by decide) dX5_reset_14 ?_
    refine z_aload_n 15 C dX5_reset_15 0 rfl ?_
    refine z_getf 16 C 5 z_dX5 (⟨rfl, rfl⟩) 1 (by decide) q154 (.ref (z_ad G 7)) rfl dX5_reset_16 ?_
    refine z_iload_n 19 C dX5_reset_19 1 rfl ?_
    refine z_iconst 20 C dX5_reset_20 (nI 0) rfl ?_
    refine z_iastN 21 C 7 (n := 24) (⟨rfl, rfl⟩) k rfl (by omega) (by decide) dX5_reset_21 ?_
    refine z_iincN 22 C 1 k [(1, .int (nI (k + 1))), (0, .ref (z_ad G 5))] rfl rfl (by decide) rfl dX5_reset_22 ?_
    refine z_goto 25 C 2 dX5_reset_25 (by decide) ?_
    refine z_sub [1, 0] (lv1 := [(0, .ref (z_ad G 5)), (1, .int (nI (k + 1)))]) rfl ?_
    refine z_cv (lv1 := [(0, .ref (z_ad G 5)), (1, .int (nI (k + 1)))]) (st1 := []) (σ1 := z_uI (z_uI σ 6 (z_fil (fun _ => nI 0) (σ.1 6) (k + 1))) 7 (z_fil (fun _ => nI 0) (σ.1 7) (k + 1))) rfl rfl (z_rst σ k) ?_
    exact ih_2 (k + 1) (by omega) (by omega)
theorem dX5_superpose_0 : decode cX5_superpose 0 = .ok (.aload_n 0, 1) := by decide +kernel
theorem dX5_superpose_1 : decode cX5_superpose 1 = .ok (.iload_n 1, 1) := by decide +kernel
theorem dX5_superpose_2 : decode cX5_superpose 2 = .ok (.invokevirtual 29, 3) := by decide +kernel
theorem dX5_superpose_5 : decode cX5_superpose 5 = .ok (.astore 5, 2) := by decide +kernel
theorem dX5_superpose_7 : decode cX5_superpose 7 = .ok (.iconst 0, 1) := by decide +kernel
theorem dX5_superpose_8 : decode cX5_superpose 8 = .ok (.istore 6, 2) := by decide +kernel
theorem dX5_superpose_10 : decode cX5_superpose 10 = .ok (.iconst 0, 1) := by decide +kernel
theorem dX5_superpose_11 : decode cX5_superpose 11 = .ok (.istore 7, 2) := by decide +kernel
theorem dX5_superpose_13 : decode cX5_superpose 13 = .ok (.iload 7, 2) := by decide +kernel
theorem dX5_superpose_15 : decode cX5_superpose 15 = .ok (.bipush 24, 2) := by decide +kernel
theorem dX5_superpose_17 : decode cX5_superpose 17 = .ok (.if_icmp .ge 77, 3) := by decide +kernel
theorem dX5_superpose_20 : decode cX5_superpose 20 = .ok (.iload_n 3, 1) := by decide +kernel
theorem dX5_superpose_21 : decode cX5_superpose 21 = .ok (.i2l, 1) := by decide +kernel
theorem dX5_superpose_22 : decode cX5_superpose 22 = .ok (.iload_n 2, 1) := by decide +kernel
theorem dX5_superpose_23 : decode cX5_superpose 23 = .ok (.iload 7, 2) := by decide +kernel
theorem dX5_superpose_25 : decode cX5_superpose 25 = .ok (.imul, 1) := by decide +kernel
theorem dX5_superpose_26 : decode cX5_superpose 26 = .ok (.iload 4, 2) := by decide +kernel
theorem dX5_superpose_28 : decode cX5_superpose 28 = .ok (.iadd, 1) := by decide +kernel
theorem dX5_superpose_29 : decode cX5_superpose 29 = .ok (.invokestatic 33, 3) := by decide +kernel
theorem dX5_superpose_32 : decode cX5_superpose 32 = .ok (.i2l, 1) := by decide +kernel
theorem dX5_superpose_33 : decode cX5_superpose 33 = .ok (.lmul, 1) := by decide +kernel
theorem dX5_superpose_34 : decode cX5_superpose 34 = .ok (.ldc2_w 37, 3) := by decide +kernel
theorem dX5_superpose_37 : decode cX5_superpose 37 = .ok (.invokestatic 39, 3) := by decide +kernel
theorem dX5_superpose_40 : decode cX5_superpose 40 = .ok (.lstore 8, 2) := by decide +kernel
theorem dX5_superpose_42 : decode cX5_superpose 42 = .ok (.aload 5, 2) := by decide +kernel
theorem dX5_superpose_44 : decode cX5_superpose 44 = .ok (.iload 7, 2) := by decide +kernel
theorem dX5_superpose_46 : decode cX5_superpose 46 = .ok (.iaload, 1) := by decide +kernel
theorem dX5_superpose_47 : decode cX5_superpose 47 = .ok (.i2l, 1) := by decide +kernel
theorem dX5_superpose_48 : decode cX5_superpose 48 = .ok (.lload 8, 2) := by decide +kernel
theorem dX5_superpose_50 : decode cX5_superpose 50 = .ok (.ladd, 1) := by decide +kernel
theorem dX5_superpose_51 : decode cX5_superpose 51 = .ok (.sipush 5000, 3) := by decide +kernel
theorem dX5_superpose_54 : decode cX5_superpose 54 = .ok (.invokestatic 45, 3) := by decide +kernel
theorem dX5_superpose_57 : decode cX5_superpose 57 = .ok (.istore 10, 2) := by decide +kernel
theorem dX5_superpose_59 : decode cX5_superpose 59 = .ok (.iload 6, 2) := by decide +kernel
theorem dX5_superpose_61 : decode cX5_superpose 61 = .ok (.ifCond .ne 13, 3) := by decide +kernel
theorem dX5_superpose_64 : decode cX5_superpose 64 = .ok (.iload 10, 2) := by decide +kernel
theorem dX5_superpose_66 : decode cX5_superpose 66 = .ok (.aload 5, 2) := by decide +kernel
theorem dX5_superpose_68 : decode cX5_superpose 68 = .ok (.iload 7, 2) := by decide +kernel
theorem dX5_superpose_70 : decode cX5_superpose 70 = .ok (.iaload, 1) := by decide +kernel
theorem dX5_superpose_71 : decode cX5_superpose 71 = .ok (.if_icmp .eq 7, 3) := by decide +kernel
theorem dX5_superpose_74 : decode cX5_superpose 74 = .ok (.iconst 1, 1) := by decide +kernel
theorem dX5_superpose_75 : decode cX5_superpose 75 = .ok (.goto 4, 3) := by decide +kernel
theorem dX5_superpose_78 : decode cX5_superpose 78 = .ok (.iconst 0, 1) := by decide +kernel
theorem dX5_superpose_79 : decode cX5_superpose 79 = .ok (.istore 6, 2) := by decide +kernel
theorem dX5_superpose_81 : decode cX5_superpose 81 = .ok (.aload 5, 2) := by decide +kernel
theorem dX5_superpose_83 : decode cX5_superpose 83 = .ok (.iload 7, 2) := by decide +kernel
theorem dX5_superpose_85 : decode cX5_superpose 85 = .ok (.iload 10, 2) := by decide +kernel
theorem dX5_superpose_87 : decode cX5_superpose 87 = .ok (.iastore, 1) := by decide +kernel
theorem dX5_superpose_88 : decode cX5_superpose 88 = .ok (.iinc 7 1, 3) := by decide +kernel
theorem dX5_superpose_91 : decode cX5_superpose 91 = .ok (.goto (-78), 3) := by decide +kernel
theorem dX5_superpose_94 : decode cX5_superpose 94 = .ok (.iload 6, 2) := by decide +kernel
theorem dX5_superpose_96 : decode cX5_superpose 96 = .ok (.ireturn, 1) := by decide +kernel
set_option maxRecDepth 100000 in
set_option maxHeartbeats 4000000 in
theorem m_X5_superpose {l : Launch} {G : z_Gl} {σ : z_St} (t h f : Nat) (a : Int32) (ht : t < 2) (hh : h ≤ 12) (hf : f < 24) : z_M l G yX5_superpose cX5_superpose 11 (some .boolean) (z_rm 3 62) [.ref (z_ad G 5), .int (nI t), .int (nI h), .int a, .int (nI f)] σ (z_p1 (.int (z_bo (z_chg (z_so (σ.1 (6 + t)) a h f) (σ.1 (6 + t)) 24))) (z_uI σ (6 + t) (z_fil (z_so (σ.1 (6 + t)) a h f) (σ.1 (6 + t)) 24))) := by
  refine z_M.of (by decide) (Nat.le_of_ble_eq_true rfl) (fun p e s m below meth c C => ?_)
  refine z_sub [0, 1, 2, 3, 4] (lv1 := [(0, .ref (z_ad G 5)), (1, .int (nI t)), (2, .int (nI h)), (3, .int a), (4, .int (nI f))]) rfl ?_
  refine z_aload_n 0 C dX5_superpose_0 0 rfl ?_
  refine z_iload_n 1 C dX5_superpose_1 1 rfl ?_
  refine z_callV 2 C 5 (⟨rfl, rfl⟩) rfl (As := [.int (nI t)]) (rest := []) (m_X5_profileOf t (by omega)) k_X5_profileOf q938 ⟨rfl, rfl⟩ ⟨Nat.le_of_ble_eq_true rfl, Nat.le_of_ble_eq_true rfl⟩ rfl (Nat.le_of_ble_eq_true rfl) ⟨Nat.le_of_ble_eq_true rfl, Nat.le_of_ble_eq_true rfl⟩ rfl dX5_superpose_2 (z_k1 ?_)
  refine z_astore 5 C dX5_superpose_5 [(5, .ref (z_ad G (6 + t))), (0, .ref (z_ad G 5)), (1, .int (nI t)), (2, .int (nI h)), (3, .int a), (4, .int (nI f))] (by decide) rfl ?_
  refine z_iconst 7 C dX5_superpose_7 (nI 0) rfl ?_
  refine z_istore 8 C dX5_superpose_8 [(6, .int (nI 0)), (5, .ref (z_ad G (6 + t))), (0, .ref (z_ad G 5)), (1, .int (nI t)), (2, .int (nI h)), (3, .int a), (4, .int (nI f))] (by decide) rfl ?_
  refine z_iconst 10 C dX5_superpose_10 (nI 0) rfl ?_
  refine z_istore 11 C dX5_superpose_11 [(7, .int (nI 0)), (6, .int (nI 0)), (5, .ref (z_ad G (6 + t))), (0, .ref (z_ad G 5)), (1, .int (nI t)), (2, .int (nI h)), (3, .int a), (4, .int (nI f))] (by decide) rfl ?_
  refine z_sub [3, 4, 5, 6, 7, 2, 1, 0] (lv1 := [(0, .ref (z_ad G 5)), (1, .int (nI t)), (2, .int (nI h)), (3, .int a), (4, .int (nI f)), (5, .ref (z_ad G (6 + t))), (6, .int (nI 0)), (7, .int (nI 0))]) rfl ?_
  refine z_cv (lv1 := [(0, .ref (z_ad G 5)), (1, .int (nI t)), (2, .int (nI h)), (3, .int a), (4, .int (nI f)), (5, .ref (z_ad G (6 + t))), (6, .int (z_bo (z_chg (z_so (σ.1 (6 + t)) a h f) (σ.1 (6 + t)) 0))), (7, .int (nI 0))]) (st1 := []) (σ1 := z_uI σ (6 + t) (z_fil (z_so (σ.1 (6 + t)) a h f) (σ.1 (6 + t)) 0)) (by rw [← z_ch0]) rfl (z_fil0I σ (6 + t) _) ?_
  refine z_lp1 (fun (k : Nat) => k ≤ 24) (fun (k : Nat) => 24 - k) (fun (k : Nat) => [(0, .ref (z_ad G 5)), (1, .int (nI t)), (2, .int (nI h)), (3, .int a), (4, .int (nI f)), (5, .ref (z_ad G (6 + t))), (6, .int (z_bo (z_chg (z_so (σ.1 (6 + t)) a h f) (σ.1 (6 + t)) k))), (7, .int (nI k))]) (fun (k : Nat) => z_uI σ (6 + t) (z_fil (z_so (σ.1 (6 + t)) a h f) (σ.1 (6 + t)) k)) (fun k hi_13 ih_13 => ?_) 0 (by omega)
  try dsimp only
  refine z_iload 13 C dX5_superpose_13 7 rfl ?_
  refine z_bipush 15 C dX5_superpose_15 (nI 24) rfl ?_
  refine z_icmp_geN 17 C k 24 rfl rfl (by omega) (by omega) 94 dX5_superpose_17 (by decide) (fun c17 => ?_) (fun c17 => ?_)
  · skip
    have ek : k = 24 := by omega
    subst ek
    refine z_iload 94 C dX5_superpose_94 6 rfl ?_
    refine z_zret 96 C (z_bo_nar) dX5_superpose_96 ?_
    exact ⟨rfl, rfl⟩
  · skip
    refine z_iload_n 20 C dX5_superpose_20 3 rfl ?_
    refine z_i2l 21 C dX5_superpose_21 ?_
    refine z_iload_n 22 C dX5_superpose_22 2 rfl ?_
    have hhk : h * k ≤ 12 * 24 := Nat.mul_le_mul hh (by omega)
    refine z_iload 23 C dX5_superpose_23 7 rfl ?_
    refine z_imulN 25 C h k rfl rfl dX5_superpose_25 ?_
    refine z_iload 26 C dX5_superpose_26 4 rfl ?_
    refine z_iaddN 28 C (h * k) f rfl rfl dX5_superpose_28 ?_
    refine z_callSN 29 C (As := [.int (nI ((h * k) + f))]) (rest := [.long (Int32.toInt64 a)]) (m_X7_cosine_n (σ := z_uI σ (6 + t) (z_fil (z_so (σ.1 (6 + t)) a h f) (σ.1 (6 + t)) k)) ((h * k) + f) (by omega)) k_X7_cosine (List.mem_of_getElem? (i := 61) rfl) ⟨rfl, rfl⟩ ⟨Nat.le_of_ble_eq_true rfl, Nat.le_of_ble_eq_true rfl⟩ rfl (Nat.le_of_ble_eq_true rfl) ⟨Nat.le_of_ble_eq_true rfl, Nat.le_of_ble_eq_true rfl⟩ rfl dX5_superpose_29 (z_k1 ?_)
    refine z_i2l 32 C dX5_superpose_32 ?_
    refine z_lmul 33 C dX5_superpose_33 ?_
    refine z_ldc2 34 C dX5_superpose_34 q940 ?_
    refine z_callS 37 C (As := [.long ((Int32.toInt64 a) * (Int32.toInt64 (z_tv 0 (((h * k) + f) % 24)))), .long 1000000]) (rest := []) (m_J9_floorDiv_f86c9 (σ := z_uI σ (6 + t) (z_fil (z_so (σ.1 (6 + t)) a h f) (σ.1 (6 + t)) k)) ((Int32.toInt64 a) * (Int32.toInt64 (z_tv 0 (((h * k) + f) % 24)))) 1000000 (by decide)) k_J9_floorDiv_f86c9 q941 ⟨rfl, rfl⟩ ⟨Nat.le_of_ble_eq_true rfl, Nat.le_of_ble_eq_true rfl⟩ rfl (Nat.le_of_ble_eq_true rfl) ⟨Nat.le_of_ble_eq_true rfl, Nat.le_of_ble_eq_true rfl⟩ rfl dX5_superpose_37 (z_k1 ?_)
    refine z_lstore 40 C dX5_superpose_40 [(8, .long (z_fd ((Int32.toInt64 a) * (Int32.toInt64 (z_tv 0 (((h * k) + f) % 24)))) 1000000)), (0, .ref (z_ad G 5)), (1, .int (nI t)), (2, .int (nI h)), (3, .int a), (4, .int (nI f)), (5, .ref (z_ad G (6 + t))), (6, .int (z_bo (z_chg (z_so (σ.1 (6 + t)) a h f) (σ.1 (6 + t)) k))), (7, .int (nI k))] (by decide) rfl ?_
    refine z_aload 42 C dX5_superpose_42 6 rfl ?_
    refine z_iload 44 C dX5_superpose_44 8 rfl ?_
    refine z_ialdN 46 C (6 + t) (n := 24) (z_tpK _ (by omega)) k rfl (by omega) (by decide) dX5_superpose_46 ?_
    refine z_cv (lv1 := [(8, .long (z_fd ((Int32.toInt64 a) * (Int32.toInt64 (z_tv 0 (((h * k) + f) % 24)))) 1000000)), (0, .ref (z_ad G 5)), (1, .int (nI t)), (2, .int (nI h)), (3, .int a), (4, .int (nI f)), (5, .ref (z_ad G (6 + t))), (6, .int (z_bo (z_chg (z_so (σ.1 (6 + t)) a h f) (σ.1 (6 + t)) k))), (7, .int (nI k))]) (st1 := [.int (σ.1 (6 + t) k)]) (σ1 := z_uI σ (6 + t) (z_fil (z_so (σ.1 (6 + t)) a h f) (σ.1 (6 + t)) k)) rfl (by rw [z_uI1, if_pos rfl, z_fil_ge (Nat.le_refl k)]) rfl ?_
    refine z_i2l 47 C dX5_superpose_47 ?_
    refine z_lload 48 C dX5_superpose_48 0 rfl ?_
    refine z_ladd 50 C dX5_superpose_50 ?_
    refine z_sipush 51 C dX5_superpose_51 (nI 5000) rfl ?_
    refine z_callSN 54 C (As := [.long ((Int32.toInt64 (σ.1 (6 + t) k)) + (z_fd ((Int32.toInt64 a) * (Int32.toInt64 (z_tv 0 (((h * k) + f) % 24)))) 1000000)), .int (nI 5000)]) (rest := []) (m_X7_clamp (σ := z_uI σ (6 + t) (z_fil (z_so (σ.1 (6 + t)) a h f) (σ.1 (6 + t)) k)) ((Int32.toInt64 (σ.1 (6 + t) k)) + (z_fd ((Int32.toInt64 a) * (Int32.toInt64 (z_tv 0 (((h * k) + f) % 24)))) 1000000)) (nI 5000)) k_X7_clamp (List.mem_of_getElem? (i := 17) rfl) ⟨rfl, rfl⟩ ⟨Nat.le_of_ble_eq_true rfl, Nat.le_of_ble_eq_true rfl⟩ rfl (Nat.le_of_ble_eq_true rfl) ⟨Nat.le_of_ble_eq_true rfl, Nat.le_of_ble_eq_true rfl⟩ rfl dX5_superpose_54 (z_k1 ?_)
    refine z_istore 57 C dX5_superpose_57 [(10, .int (z_cla ((Int32.toInt64 (σ.1 (6 + t) k)) + (z_fd ((Int32.toInt64 a) * (Int32.toInt64 (z_tv 0 (((h * k) + f) % 24)))) 1000000)) (nI 5000))), (8, .long (z_fd ((Int32.toInt64 a) * (Int32.toInt64 (z_tv 0 (((h * k) + f) % 24)))) 1000000)), (0, .ref (z_ad G 5)), (1, .int (nI t)), (2, .int (nI h)), (3, .int a), (4, .int (nI f)), (5, .ref (z_ad G (6 + t))), (6, .int (z_bo (z_chg (z_so (σ.1 (6 + t)) a h f) (σ.1 (6 + t)) k))), (7, .int (nI k))] (by decide) rfl ?_
    refine z_iload 59 C dX5_superpose_59 8 rfl ?_
    refine z_if_neb 61 C 74 dX5_superpose_61 (by decide) (fun c61 => ?_) (fun c61 => ?_)
    · skip
      refine z_iconst 74 C dX5_superpose_74 (nI 1) rfl ?_
      refine z_goto 75 C 79 dX5_superpose_75 (by decide) ?_
      refine z_istore 79 C dX5_superpose_79 [(6, .int (nI 1)), (10, .int (z_cla ((Int32.toInt64 (σ.1 (6 + t) k)) + (z_fd ((Int32.toInt64 a) * (Int32.toInt64 (z_tv 0 (((h * k) + f) % 24)))) 1000000)) (nI 5000))), (8, .long (z_fd ((Int32.toInt64 a) * (Int32.toInt64 (z_tv 0 (((h * k) + f) % 24)))) 1000000)), (0, .ref (z_ad G 5)), (1, .int (nI t)), (2, .int (nI h)), (3, .int a), (4, .int (nI f)), (5, .ref (z_ad G (6 + t))), (7, .int (nI k))] (by decide) rfl ?_
      refine z_aload 81 C dX5_superpose_81 8 rfl ?_
      refine z_iload 83 C dX5_superpose_83 9 rfl ?_
      refine z_iload 85 C dX5_superpose_85 1 rfl ?_
      refine z_iastN 87 C (6 + t) (n := 24) (z_tpK _ (by omega)) k rfl (by omega) (by decide) dX5_superpose_87 ?_
      refine z_iincN 88 C 9 k [(7, .int (nI (k + 1))), (6, .int (nI 1)), (10, .int (z_cla ((Int32.toInt64 (σ.1 (6 + t) k)) + (z_fd ((Int32.toInt64 a) * (Int32.toInt64 (z_tv 0 (((h * k) + f) % 24)))) 1000000)) (nI 5000))), (8, .long (z_fd ((Int32.toInt64 a) * (Int32.toInt64 (z_tv 0 (((h * k) + f) % 24)))) 1000000)), (0, .ref (z_ad G 5)), (1, .int (nI t)), (2, .int (nI h)), (3, .int a), (4, .int (nI f)), (5, .ref (z_ad G (6 + t)))] rfl rfl (by decide) rfl dX5_superpose_88 ?_
      refine z_goto 91 C 13 dX5_superpose_91 (by decide) ?_
      refine z_sub [4, 5, 6, 7, 8, 9, 1, 0] (lv1 := [(0, .ref (z_ad G 5)), (1, .int (nI t)), (2, .int (nI h)), (3, .int a), (4, .int (nI f)), (5, .ref (z_ad G (6 + t))), (6, .int (nI 1)), (7, .int (nI (k + 1)))]) rfl ?_
      refine z_cv (lv1 := [(0, .ref (z_ad G 5)), (1, .int (nI t)), (2, .int (nI h)), (3, .int a), (4, .int (nI f)), (5, .ref (z_ad G (6 + t))), (6, .int (z_bo (z_chg (z_so (σ.1 (6 + t)) a h f) (σ.1 (6 + t)) (k + 1)))), (7, .int (nI (k + 1)))]) (st1 := []) (σ1 := z_uI σ (6 + t) (z_fil (z_so (σ.1 (6 + t)) a h f) (σ.1 (6 + t)) (k + 1))) (by first | rw [z_ch1 c61] | rw [z_ch3 c61 c71] | rw [z_ch2 c71]) rfl (z_filSI σ (6 + t) k _ _ rfl) ?_
      exact ih_13 (k + 1) (by omega) (by omega)
    · skip
      refine z_iload 64 C dX5_superpose_64 0 rfl ?_
      refine z_aload 66 C dX5_superpose_66 7 rfl ?_
      refine z_iload 68 C dX5_superpose_68 9 rfl ?_
      refine z_ialdN 70 C (6 + t) (n := 24) (z_tpK _ (by omega)) k rfl (by omega) (by decide) dX5_superpose_70 ?_
      refine z_cv (lv1 := [(10, .int (z_cla ((Int32.toInt64 (σ.1 (6 + t) k)) + (z_fd ((Int32.toInt64 a) * (Int32.toInt64 (z_tv 0 (((h * k) + f) % 24)))) 1000000)) (nI 5000))), (8, .long (z_fd ((Int32.toInt64 a) * (Int32.toInt64 (z_tv 0 (((h * k) + f) % 24)))) 1000000)), (0, .ref (z_ad G 5)), (1, .int (nI t)), (2, .int (nI h)), (3, .int a), (4, .int (nI f)), (5, .ref (z_ad G (6 + t))), (6, .int (z_bo (z_chg (z_so (σ.1 (6 + t)) a h f) (σ.1 (6 + t)) k))), (7, .int (nI k))]) (st1 := [.int (σ.1 (6 + t) k), .int (z_so (σ.1 (6 + t)) a h f k)]) (σ1 := z_uI σ (6 + t) (z_fil (z_so (σ.1 (6 + t)) a h f) (σ.1 (6 + t)) k)) rfl (by rw [z_uI1, if_pos rfl, z_fil_ge (Nat.le_refl k)]; rfl) rfl ?_
      refine z_icmp_eq 71 C 78 dX5_superpose_71 (by decide) (fun c71 => ?_) (fun c71 => ?_)
      · skip
        refine z_iconst 78 C dX5_superpose_78 (nI 0) rfl ?_
        refine z_istore 79 C dX5_superpose_79 [(6, .int (nI 0)), (10, .int (z_cla ((Int32.toInt64 (σ.1 (6 + t) k)) + (z_fd ((Int32.toInt64 a) * (Int32.toInt64 (z_tv 0 (((h * k) + f) % 24)))) 1000000)) (nI 5000))), (8, .long (z_fd ((Int32.toInt64 a) * (Int32.toInt64 (z_tv 0 (((h * k) + f) % 24)))) 1000000)), (0, .ref (z_ad G 5)), (1, .int (nI t)), (2, .int (nI h)), (3, .int a), (4, .int (nI f)), (5, .ref (z_ad G (6 + t))), (7, .int (nI k))] (by decide) rfl ?_
        refine z_aload 81 C dX5_superpose_81 8 rfl ?_
        refine z_iload 83 C dX5_superpose_83 9 rfl ?_
        refine z_iload 85 C dX5_superpose_85 1 rfl ?_
        refine z_iastN 87 C (6 + t) (n := 24) (z_tpK _ (by omega)) k rfl (by omega) (by decide) dX5_superpose_87 ?_
        refine z_iincN 88 C 9 k [(7, .int (nI (k + 1))), (6, .int (nI 0)), (10, .int (z_cla ((Int32.toInt64 (σ.1 (6 + t) k)) + (z_fd ((Int32.toInt64 a) * (Int32.toInt64 (z_tv 0 (((h * k) + f) % 24)))) 1000000)) (nI 5000))), (8, .long (z_fd ((Int32.toInt64 a) * (Int32.toInt64 (z_tv 0 (((h * k) + f) % 24)))) 1000000)), (0, .ref (z_ad G 5)), (1, .int (nI t)), (2, .int (nI h)), (3, .int a), (4, .int (nI f)), (5, .ref (z_ad G (6 + t)))] rfl rfl (by decide) rfl dX5_superpose_88 ?_
        refine z_goto 91 C 13 dX5_superpose_91 (by decide) ?_
        refine z_sub [4, 5, 6, 7, 8, 9, 1, 0] (lv1 := [(0, .ref (z_ad G 5)), (1, .int (nI t)), (2, .int (nI h)), (3, .int a), (4, .int (nI f)), (5, .ref (z_ad G (6 + t))), (6, .int (nI 0)), (7, .int (nI (k + 1)))]) rfl ?_
        refine z_cv (lv1 := [(0, .ref (z_ad G 5)), (1, .int (nI t)), (2, .int (nI h)), (3, .int a), (4, .int (nI f)), (5, .ref (z_ad G (6 + t))), (6, .int (z_bo (z_chg (z_so (σ.1 (6 + t)) a h f) (σ.1 (6 + t)) (k + 1)))), (7, .int (nI (k + 1)))]) (st1 := []) (σ1 := z_uI σ (6 + t) (z_fil (z_so (σ.1 (6 + t)) a h f) (σ.1 (6 + t)) (k + 1))) (by first | rw [z_ch1 c61] | rw [z_ch3 c61 c71] | rw [z_ch2 c71]) rfl (z_filSI σ (6 + t) k _ _ rfl) ?_
        exact ih_13 (k + 1) (by omega) (by omega)
      · skip
        refine z_iconst 74 C dX5_superpose_74 (nI 1) rfl ?_
        refine z_goto 75 C 79 dX5_superpose_75 (by decide) ?_
        refine z_istore 79 C dX5_superpose_79 [(6, .int (nI 1)), (10, .int (z_cla ((Int32.toInt64 (σ.1 (6 + t) k)) + (z_fd ((Int32.toInt64 a) * (Int32.toInt64 (z_tv 0 (((h * k) + f) % 24)))) 1000000)) (nI 5000))), (8, .long (z_fd ((Int32.toInt64 a) * (Int32.toInt64 (z_tv 0 (((h * k) + f) % 24)))) 1000000)), (0, .ref (z_ad G 5)), (1, .int (nI t)), (2, .int (nI h)), (3, .int a), (4, .int (nI f)), (5, .ref (z_ad G (6 + t))), (7, .int (nI k))] (by decide) rfl ?_
        refine z_aload 81 C dX5_superpose_81 8 rfl ?_
        refine z_iload 83 C dX5_superpose_83 9 rfl ?_
        refine z_iload 85 C dX5_superpose_85 1 rfl ?_
        refine z_iastN 87 C (6 + t) (n := 24) (z_tpK _ (by omega)) k rfl (by omega) (by decide) dX5_superpose_87 ?_
        refine z_iincN 88 C 9 k [(7, .int (nI (k + 1))), (6, .int (nI 1)), (10, .int (z_cla ((Int32.toInt64 (σ.1 (6 + t) k)) + (z_fd ((Int32.toInt64 a) * (Int32.toInt64 (z_tv 0 (((h * k) + f) % 24)))) 1000000)) (nI 5000))), (8, .long (z_fd ((Int32.toInt64 a) * (Int32.toInt64 (z_tv 0 (((h * k) + f) % 24)))) 1000000)), (0, .ref (z_ad G 5)), (1, .int (nI t)), (2, .int (nI h)), (3, .int a), (4, .int (nI f)), (5, .ref (z_ad G (6 + t)))] rfl rfl (by decide) rfl dX5_superpose_88 ?_
        refine z_goto 91 C 13 dX5_superpose_91 (by decide) ?_
        refine z_sub [4, 5, 6, 7, 8, 9, 1, 0] (lv1 := [(0, .ref (z_ad G 5)), (1, .int (nI t)), (2, .int (nI h)), (3, .int a), (4, .int (nI f)), (5, .ref (z_ad G (6 + t))), (6, .int (nI 1)), (7, .int (nI (k + 1)))]) rfl ?_
        refine z_cv (lv1 := [(0, .ref (z_ad G 5)), (1, .int (nI t)), (2, .int (nI h)), (3, .int a), (4, .int (nI f)), (5, .ref (z_ad G (6 + t))), (6, .int (z_bo (z_chg (z_so (σ.1 (6 + t)) a h f) (σ.1 (6 + t)) (k + 1)))), (7, .int (nI (k + 1)))]) (st1 := []) (σ1 := z_uI σ (6 + t) (z_fil (z_so (σ.1 (6 + t)) a h f) (σ.1 (6 + t)) (k + 1))) (by first | rw [z_ch1 c61] | rw [z_ch3 c61 c71] | rw [z_ch2 c71]) rfl (z_filSI σ (6 + t) k _ _ rfl) ?_
        exact ih_13 (k + 1) (by omega) (by omega)
theorem dX5_readingAt_0 : decode cX5_readingAt 0 = .ok (.iload_n 1, 1) := by decide +kernel
theorem dX5_readingAt_1 : decode cX5_readingAt 1 = .ok (.iload_n 2, 1) := by decide +kernel
theorem dX5_readingAt_2 : decode cX5_readingAt 2 = .ok (.isub, 1) := by decide +kernel
theorem dX5_readingAt_3 : decode cX5_readingAt 3 = .ok (.invokestatic 49, 3) := by decide +kernel
theorem dX5_readingAt_6 : decode cX5_readingAt 6 = .ok (.istore_n 3, 1) := by decide +kernel
theorem dX5_readingAt_7 : decode cX5_readingAt 7 = .ok (.aload_n 0, 1) := by decide +kernel
theorem dX5_readingAt_8 : decode cX5_readingAt 8 = .ok (.getfield 9, 3) := by decide +kernel
theorem dX5_readingAt_11 : decode cX5_readingAt 11 = .ok (.iload_n 3, 1) := by decide +kernel
theorem dX5_readingAt_12 : decode cX5_readingAt 12 = .ok (.iaload, 1) := by decide +kernel
theorem dX5_readingAt_13 : decode cX5_readingAt 13 = .ok (.aload_n 0, 1) := by decide +kernel
theorem dX5_readingAt_14 : decode cX5_readingAt 14 = .ok (.getfield 15, 3) := by decide +kernel
theorem dX5_readingAt_17 : decode cX5_readingAt 17 = .ok (.iload_n 1, 1) := by decide +kernel
theorem dX5_readingAt_18 : decode cX5_readingAt 18 = .ok (.iaload, 1) := by decide +kernel
theorem dX5_readingAt_19 : decode cX5_readingAt 19 = .ok (.iadd, 1) := by decide +kernel
theorem dX5_readingAt_20 : decode cX5_readingAt 20 = .ok (.i2l, 1) := by decide +kernel
theorem dX5_readingAt_21 : decode cX5_readingAt 21 = .ok (.aload_n 0, 1) := by decide +kernel
theorem dX5_readingAt_22 : decode cX5_readingAt 22 = .ok (.getfield 18, 3) := by decide +kernel
theorem dX5_readingAt_25 : decode cX5_readingAt 25 = .ok (.i2l, 1) := by decide +kernel
theorem dX5_readingAt_26 : decode cX5_readingAt 26 = .ok (.aload_n 0, 1) := by decide +kernel
theorem dX5_readingAt_27 : decode cX5_readingAt 27 = .ok (.getfield 22, 3) := by decide +kernel
theorem dX5_readingAt_30 : decode cX5_readingAt 30 = .ok (.i2l, 1) := by decide +kernel
theorem dX5_readingAt_31 : decode cX5_readingAt 31 = .ok (.iload_n 3, 1) := by decide +kernel
theorem dX5_readingAt_32 : decode cX5_readingAt 32 = .ok (.invokestatic 52, 3) := by decide +kernel
theorem dX5_readingAt_35 : decode cX5_readingAt 35 = .ok (.ladd, 1) := by decide +kernel
theorem dX5_readingAt_36 : decode cX5_readingAt 36 = .ok (.lstore 4, 2) := by decide +kernel
theorem dX5_readingAt_38 : decode cX5_readingAt 38 = .ok (.lload 4, 2) := by decide +kernel
theorem dX5_readingAt_40 : decode cX5_readingAt 40 = .ok (.sipush 10000, 3) := by decide +kernel
theorem dX5_readingAt_43 : decode cX5_readingAt 43 = .ok (.invokestatic 45, 3) := by decide +kernel
theorem dX5_readingAt_46 : decode cX5_readingAt 46 = .ok (.ireturn, 1) := by decide +kernel
set_option maxRecDepth 100000 in
set_option maxHeartbeats 4000000 in
theorem m_X5_readingAt {l : Launch} {G : z_Gl} {σ : z_St} (k u : Nat) (hk : k < 24) (hu : u < 2 ^ 30) : z_M l G yX5_readingAt cX5_readingAt 6 (some .int) (z_rm 2 50) [.ref (z_ad G 5), .int (nI k), .int (nI u)] σ (z_p1 (.int (z_rg (σ.1 6) (σ.1 7) (σ.1 5 2) (σ.1 5 3) k u)) σ) := by
  refine z_M.of (by decide) (Nat.le_of_ble_eq_true rfl) (fun p e s m below meth c C => ?_)
  refine z_sub [0, 1, 2] (lv1 := [(0, .ref (z_ad G 5)), (1, .int (nI k)), (2, .int (nI u))]) rfl ?_
  refine z_iload_n 0 C dX5_readingAt_0 1 rfl ?_
  refine z_iload_n 1 C dX5_readingAt_1 2 rfl ?_
  refine z_isub 2 C dX5_readingAt_2 ?_
  refine z_callSN 3 C (As := [.int ((nI k) - (nI u))]) (rest := []) (m_X7_place_d k u (by omega) (by omega)) k_X7_place (List.mem_of_getElem? (i := 15) rfl) ⟨rfl, rfl⟩ ⟨Nat.le_of_ble_eq_true rfl, Nat.le_of_ble_eq_true rfl⟩ rfl (Nat.le_of_ble_eq_true rfl) ⟨Nat.le_of_ble_eq_true rfl, Nat.le_of_ble_eq_true rfl⟩ rfl dX5_readingAt_3 (z_k1 ?_)
  refine z_istore_n 6 C dX5_readingAt_6 [(3, .int (nI ((k + (24 - u % 24)) % 24))), (0, .ref (z_ad G 5)), (1, .int (nI k)), (2, .int (nI u))] (by decide) rfl ?_
  refine z_aload_n 7 C dX5_readingAt_7 1 rfl ?_
  refine z_getf 8 C 5 z_dX5 (⟨rfl, rfl⟩) 0 (by decide) q153 (.ref (z_ad G 6)) rfl dX5_readingAt_8 ?_
  refine z_iload_n 11 C dX5_readingAt_11 0 rfl ?_
  refine z_ialdN 12 C 6 (n := 24) (⟨rfl, rfl⟩) ((k + (24 - u % 24)) % 24) rfl (by omega) (by decide) dX5_readingAt_12 ?_
  refine z_aload_n 13 C dX5_readingAt_13 1 rfl ?_
  refine z_getf 14 C 5 z_dX5 (⟨rfl, rfl⟩) 1 (by decide) q154 (.ref (z_ad G 7)) rfl dX5_readingAt_14 ?_
  refine z_iload_n 17 C dX5_readingAt_17 2 rfl ?_
  refine z_ialdN 18 C 7 (n := 24) (⟨rfl, rfl⟩) k rfl (by omega) (by decide) dX5_readingAt_18 ?_
  refine z_iadd 19 C dX5_readingAt_19 ?_
  refine z_i2l 20 C dX5_readingAt_20 ?_
  refine z_aload_n 21 C dX5_readingAt_21 1 rfl ?_
  refine z_getf 22 C 5 z_dX5 (⟨rfl, rfl⟩) 2 (by decide) q155 (.int (σ.1 5 2)) rfl dX5_readingAt_22 ?_
  refine z_i2l 25 C dX5_readingAt_25 ?_
  refine z_aload_n 26 C dX5_readingAt_26 1 rfl ?_
  refine z_getf 27 C 5 z_dX5 (⟨rfl, rfl⟩) 3 (by decide) q156 (.int (σ.1 5 3)) rfl dX5_readingAt_27 ?_
  refine z_i2l 30 C dX5_readingAt_30 ?_
  refine z_iload_n 31 C dX5_readingAt_31 0 rfl ?_
  refine z_callSN 32 C (As := [.long (Int32.toInt64 (σ.1 5 2)), .long (Int32.toInt64 (σ.1 5 3)), .int (nI ((k + (24 - u % 24)) % 24))]) (rest := [.long (Int32.toInt64 ((σ.1 6 ((k + (24 - u % 24)) % 24)) + (σ.1 7 k)))]) (m_X7_wave_n (Int32.toInt64 (σ.1 5 2)) (Int32.toInt64 (σ.1 5 3)) ((k + (24 - u % 24)) % 24) (by omega)) k_X7_wave (List.mem_of_getElem? (i := 16) rfl) ⟨rfl, rfl⟩ ⟨Nat.le_of_ble_eq_true rfl, Nat.le_of_ble_eq_true rfl⟩ rfl (Nat.le_of_ble_eq_true rfl) ⟨Nat.le_of_ble_eq_true rfl, Nat.le_of_ble_eq_true rfl⟩ rfl dX5_readingAt_32 (z_k1 ?_)
  refine z_ladd 35 C dX5_readingAt_35 ?_
  refine z_lstore 36 C dX5_readingAt_36 [(4, .long ((Int32.toInt64 ((σ.1 6 ((k + (24 - u % 24)) % 24)) + (σ.1 7 k))) + (z_wv (Int32.toInt64 (σ.1 5 2)) (Int32.toInt64 (σ.1 5 3)) (((k + (24 - u % 24)) % 24) % 24)))), (3, .int (nI ((k + (24 - u % 24)) % 24))), (0, .ref (z_ad G 5)), (1, .int (nI k)), (2, .int (nI u))] (by decide) rfl ?_
  refine z_lload 38 C dX5_readingAt_38 0 rfl ?_
  refine z_sipush 40 C dX5_readingAt_40 (nI 10000) rfl ?_
  refine z_callSN 43 C (As := [.long ((Int32.toInt64 ((σ.1 6 ((k + (24 - u % 24)) % 24)) + (σ.1 7 k))) + (z_wv (Int32.toInt64 (σ.1 5 2)) (Int32.toInt64 (σ.1 5 3)) (((k + (24 - u % 24)) % 24) % 24))), .int (nI 10000)]) (rest := []) (m_X7_clamp ((Int32.toInt64 ((σ.1 6 ((k + (24 - u % 24)) % 24)) + (σ.1 7 k))) + (z_wv (Int32.toInt64 (σ.1 5 2)) (Int32.toInt64 (σ.1 5 3)) (((k + (24 - u % 24)) % 24) % 24))) (nI 10000)) k_X7_clamp (List.mem_of_getElem? (i := 17) rfl) ⟨rfl, rfl⟩ ⟨Nat.le_of_ble_eq_true rfl, Nat.le_of_ble_eq_true rfl⟩ rfl (Nat.le_of_ble_eq_true rfl) ⟨Nat.le_of_ble_eq_true rfl, Nat.le_of_ble_eq_true rfl⟩ rfl dX5_readingAt_43 (z_k1 ?_)
  refine z_iret 46 C dX5_readingAt_46 ?_
  exact ⟨rfl, rfl⟩
theorem dX1_present_0 : decode cX1_present 0 = .ok (.aload_n 0, 1) := by decide +kernel
theorem dX1_present_1 : decode cX1_present 1 = .ok (.getfield 13, 3) := by decide +kernel
theorem dX1_present_4 : decode cX1_present 4 = .ok (.aload_n 0, 1) := by decide +kernel
theorem dX1_present_5 : decode cX1_present 5 = .ok (.getfield 16, 3) := by decide +kernel
theorem dX1_present_8 : decode cX1_present 8 = .ok (.aload_n 0, 1) := by decide +kernel
theorem dX1_present_9 : decode cX1_present 9 = .ok (.getfield 20, 3) := by decide +kernel
theorem dX1_present_12 : decode cX1_present 12 = .ok (.iadd, 1) := by decide +kernel
theorem dX1_present_13 : decode cX1_present 13 = .ok (.bipush 21, 2) := by decide +kernel
theorem dX1_present_15 : decode cX1_present 15 = .ok (.irem, 1) := by decide +kernel
theorem dX1_present_16 : decode cX1_present 16 = .ok (.aaload, 1) := by decide +kernel
theorem dX1_present_17 : decode cX1_present 17 = .ok (.areturn, 1) := by decide +kernel
set_option maxRecDepth 100000 in
set_option maxHeartbeats 4000000 in
theorem m_X1_present {l : Launch} {G : z_Gl} {σ : z_St} (o u : Nat) (ho : σ.1 8 1 = nI o) (hu : σ.1 8 2 = nI u) (ho21 : o < 21) (hu20 : u ≤ 20) : z_M l G yX1_present cX1_present 1 (some (.array .long)) (z_rm 0 0) [.ref (z_ad G 8)] σ (z_p1 (.ref (z_ad G (10 + (o + u) % 21))) σ) := by
  refine z_M.of (by decide) (Nat.le_of_ble_eq_true rfl) (fun p e s m below meth c C => ?_)
  refine z_sub [0] (lv1 := [(0, .ref (z_ad G 8))]) rfl ?_
  refine z_aload_n 0 C dX1_present_0 0 rfl ?_
  refine z_getf 1 C 8 z_dX1 (⟨rfl, rfl⟩) 0 (by decide) q174 (.ref (z_ad G 9)) rfl dX1_present_1 ?_
  refine z_aload_n 4 C dX1_present_4 0 rfl ?_
  refine z_getf 5 C 8 z_dX1 (⟨rfl, rfl⟩) 1 (by decide) q175 (.int (nI o)) (z_ci ho) dX1_present_5 ?_
  refine z_aload_n 8 C dX1_present_8 0 rfl ?_
  refine z_getf 9 C 8 z_dX1 (⟨rfl, rfl⟩) 2 (by decide) q176 (.int (nI u)) (z_ci hu) dX1_present_9 ?_
  refine z_iaddN 12 C o u rfl rfl dX1_present_12 ?_
  refine z_bipush 13 C dX1_present_13 (nI 21) rfl ?_
  refine z_iremN 15 C (o + u) 21 rfl rfl (by omega) (by omega) (by omega) dX1_present_15 ?_
  refine z_aaldN 16 C 9 (n := 21) ⟨Or.inr rfl, rfl⟩ ((o + u) % 21) (10 + ((o + u) % 21)) rfl (by omega) (by decide) rfl dX1_present_16 ?_
  refine z_aret 17 (Or.inr ⟨_, rfl⟩) C dX1_present_17 ?_
  exact ⟨rfl, rfl⟩
theorem dX1_append_0 : decode cX1_append 0 = .ok (.aload_n 0, 1) := by decide +kernel
theorem dX1_append_1 : decode cX1_append 1 = .ok (.invokevirtual 26, 3) := by decide +kernel
theorem dX1_append_4 : decode cX1_append 4 = .ok (.aload_n 1, 1) := by decide +kernel
theorem dX1_append_5 : decode cX1_append 5 = .ok (.invokestatic 30, 3) := by decide +kernel
theorem dX1_append_8 : decode cX1_append 8 = .ok (.ifCond .ne 7, 3) := by decide +kernel
theorem dX1_append_11 : decode cX1_append 11 = .ok (.iconst 1, 1) := by decide +kernel
theorem dX1_append_12 : decode cX1_append 12 = .ok (.goto 4, 3) := by decide +kernel
theorem dX1_append_15 : decode cX1_append 15 = .ok (.iconst 0, 1) := by decide +kernel
theorem dX1_append_16 : decode cX1_append 16 = .ok (.istore_n 2, 1) := by decide +kernel
theorem dX1_append_17 : decode cX1_append 17 = .ok (.aload_n 0, 1) := by decide +kernel
theorem dX1_append_18 : decode cX1_append 18 = .ok (.getfield 20, 3) := by decide +kernel
theorem dX1_append_21 : decode cX1_append 21 = .ok (.bipush 20, 2) := by decide +kernel
theorem dX1_append_23 : decode cX1_append 23 = .ok (.if_icmp .ge 16, 3) := by decide +kernel
theorem dX1_append_26 : decode cX1_append 26 = .ok (.aload_n 0, 1) := by decide +kernel
theorem dX1_append_27 : decode cX1_append 27 = .ok (.dup, 1) := by decide +kernel
theorem dX1_append_28 : decode cX1_append 28 = .ok (.getfield 20, 3) := by decide +kernel
theorem dX1_append_31 : decode cX1_append 31 = .ok (.iconst 1, 1) := by decide +kernel
theorem dX1_append_32 : decode cX1_append 32 = .ok (.iadd, 1) := by decide +kernel
theorem dX1_append_33 : decode cX1_append 33 = .ok (.putfield 20, 3) := by decide +kernel
theorem dX1_append_36 : decode cX1_append 36 = .ok (.goto 16, 3) := by decide +kernel
theorem dX1_append_39 : decode cX1_append 39 = .ok (.aload_n 0, 1) := by decide +kernel
theorem dX1_append_40 : decode cX1_append 40 = .ok (.aload_n 0, 1) := by decide +kernel
theorem dX1_append_41 : decode cX1_append 41 = .ok (.getfield 16, 3) := by decide +kernel
theorem dX1_append_44 : decode cX1_append 44 = .ok (.iconst 1, 1) := by decide +kernel
theorem dX1_append_45 : decode cX1_append 45 = .ok (.iadd, 1) := by decide +kernel
theorem dX1_append_46 : decode cX1_append 46 = .ok (.bipush 21, 2) := by decide +kernel
theorem dX1_append_48 : decode cX1_append 48 = .ok (.irem, 1) := by decide +kernel
theorem dX1_append_49 : decode cX1_append 49 = .ok (.putfield 16, 3) := by decide +kernel
theorem dX1_append_52 : decode cX1_append 52 = .ok (.aload_n 0, 1) := by decide +kernel
theorem dX1_append_53 : decode cX1_append 53 = .ok (.iconst 0, 1) := by decide +kernel
theorem dX1_append_54 : decode cX1_append 54 = .ok (.putfield 23, 3) := by decide +kernel
theorem dX1_append_57 : decode cX1_append 57 = .ok (.aload_n 1, 1) := by decide +kernel
theorem dX1_append_58 : decode cX1_append 58 = .ok (.iconst 0, 1) := by decide +kernel
theorem dX1_append_59 : decode cX1_append 59 = .ok (.aload_n 0, 1) := by decide +kernel
theorem dX1_append_60 : decode cX1_append 60 = .ok (.invokevirtual 26, 3) := by decide +kernel
theorem dX1_append_63 : decode cX1_append 63 = .ok (.iconst 0, 1) := by decide +kernel
theorem dX1_append_64 : decode cX1_append 64 = .ok (.bipush 24, 2) := by decide +kernel
theorem dX1_append_66 : decode cX1_append 66 = .ok (.invokestatic 34, 3) := by decide +kernel
theorem dX1_append_69 : decode cX1_append 69 = .ok (.iload_n 2, 1) := by decide +kernel
theorem dX1_append_70 : decode cX1_append 70 = .ok (.ireturn, 1) := by decide +kernel
set_option maxRecDepth 100000 in
set_option maxHeartbeats 4000000 in
theorem m_X1_append {l : Launch} {G : z_Gl} {σ : z_St} (o u : Nat) (ho : σ.1 8 1 = nI o) (hu : σ.1 8 2 = nI u) (ho21 : o < 21) (hu20 : u ≤ 20) (r : Nat) (hr : z_kd r = 2 ∧ z_sz r = 24) : z_M l G yX1_append cX1_append 3 (some .boolean) (z_rm 1 40) [.ref (z_ad G 8), .ref (z_ad G r)] σ (z_p1 (.int (z_bo (¬ z_eq24 (σ.2 (10 + (o + u) % 21)) (σ.2 r)))) (z_uL (z_ui (z_ui (z_ui σ 8 1 (nI (z_ha o u))) 8 2 (nI (z_hb u))) 8 3 (nI 0)) (10 + (z_ha o u + z_hb u) % 21) (va_cpy (σ.2 r) (σ.2 (10 + (z_ha o u + z_hb u) % 21)) 0 0 24))) := by
  refine z_M.of (by decide) (Nat.le_of_ble_eq_true rfl) (fun p e s m below meth c C => ?_)
  refine z_sub [0, 1] (lv1 := [(0, .ref (z_ad G 8)), (1, .ref (z_ad G r))]) rfl ?_
  refine z_aload_n 0 C dX1_append_0 0 rfl ?_
  refine z_callV 1 C 8 (⟨rfl, rfl⟩) rfl (As := []) (rest := []) (m_X1_present o u ho hu (by omega) (by omega)) k_X1_present q546 ⟨rfl, rfl⟩ ⟨Nat.le_of_ble_eq_true rfl, Nat.le_of_ble_eq_true rfl⟩ rfl (Nat.le_of_ble_eq_true rfl) ⟨Nat.le_of_ble_eq_true rfl, Nat.le_of_ble_eq_true rfl⟩ rfl dX1_append_1 (z_k1 ?_)
  refine z_aload_n 4 C dX1_append_4 1 rfl ?_
  refine z_callSN 5 C (As := [.ref (z_ad G (10 + (o + u) % 21)), .ref (z_ad G r)]) (rest := []) (m_X7_isSame (10 + (o + u) % 21) r (z_rgK _ (by omega)) (hr)) k_X7_isSame (List.mem_of_getElem? (i := 27) rfl) ⟨rfl, rfl⟩ ⟨Nat.le_of_ble_eq_true rfl, Nat.le_of_ble_eq_true rfl⟩ rfl (Nat.le_of_ble_eq_true rfl) ⟨Nat.le_of_ble_eq_true rfl, Nat.le_of_ble_eq_true rfl⟩ rfl dX1_append_5 (z_k1 ?_)
  refine z_if_neb 8 C 15 dX1_append_8 (by decide) (fun c8 => ?_) (fun c8 => ?_)
  · skip
    refine z_iconst 15 C dX1_append_15 (nI 0) rfl ?_
    refine z_istore_n 16 C dX1_append_16 [(2, .int (nI 0)), (0, .ref (z_ad G 8)), (1, .ref (z_ad G r))] (by decide) rfl ?_
    refine z_aload_n 17 C dX1_append_17 1 rfl ?_
    refine z_getf 18 C 8 z_dX1 (⟨rfl, rfl⟩) 2 (by decide) q176 (.int (nI u)) (z_ci hu) dX1_append_18 ?_
    refine z_bipush 21 C dX1_append_21 (nI 20) rfl ?_
    refine z_icmp_geN 23 C u 20 rfl rfl (by omega) (by omega) 39 dX1_append_23 (by decide) (fun c23 => ?_) (fun c23 => ?_)
    · skip
      have eu : u = 20 := by omega
      subst eu
      refine z_aload_n 39 C dX1_append_39 1 rfl ?_
      refine z_aload_n 40 C dX1_append_40 1 rfl ?_
      refine z_getf 41 C 8 z_dX1 (⟨rfl, rfl⟩) 1 (by decide) q175 (.int (nI o)) (z_ci ho) dX1_append_41 ?_
      refine z_iconst 44 C dX1_append_44 (nI 1) rfl ?_
      refine z_iaddN 45 C o 1 rfl rfl dX1_append_45 ?_
      refine z_bipush 46 C dX1_append_46 (nI 21) rfl ?_
      refine z_iremN 48 C (o + 1) 21 rfl rfl (by omega) (by omega) (by omega) dX1_append_48 ?_
      refine z_puti 49 C 8 z_dX1 (⟨rfl, rfl⟩) 1 (by decide) q175 rfl (rfl) rfl ⟨Nat.le_of_ble_eq_true rfl, rfl⟩ dX1_append_49 ?_
      refine z_aload_n 52 C dX1_append_52 1 rfl ?_
      refine z_iconst 53 C dX1_append_53 (nI 0) rfl ?_
      refine z_puti 54 C 8 z_dX1 (⟨rfl, rfl⟩) 3 (by decide) q178 rfl (rfl) rfl ⟨Nat.le_of_ble_eq_true rfl, rfl⟩ dX1_append_54 ?_
      refine z_aload_n 57 C dX1_append_57 2 rfl ?_
      refine z_iconst 58 C dX1_append_58 (nI 0) rfl ?_
      refine z_aload_n 59 C dX1_append_59 1 rfl ?_
      refine z_callV 60 C 8 (⟨rfl, rfl⟩) rfl (As := []) (rest := [.int (nI 0), .ref (z_ad G r)]) (m_X1_present (σ := z_ui (z_ui σ 8 1 (nI ((o + 1) % 21))) 8 3 (nI 0)) ((o + 1) % 21) 20 rfl hu (by omega) (by omega)) k_X1_present q546 ⟨rfl, rfl⟩ ⟨Nat.le_of_ble_eq_true rfl, Nat.le_of_ble_eq_true rfl⟩ rfl (Nat.le_of_ble_eq_true rfl) ⟨Nat.le_of_ble_eq_true rfl, Nat.le_of_ble_eq_true rfl⟩ rfl dX1_append_60 (z_k1 ?_)
      refine z_iconst 63 C dX1_append_63 (nI 0) rfl ?_
      refine z_bipush 64 C dX1_append_64 (nI 24) rfl ?_
      refine z_cpyl 66 C r (10 + (((o + 1) % 21) + 20) % 21) (n0 := 24) (n1 := 24) (hr) (z_rgK _ (by omega)) q553 0 0 24 rfl rfl rfl (by omega) (by omega) (by decide) (by decide) (Nat.le_of_ble_eq_true rfl) (Nat.le_of_ble_eq_true rfl) dX1_append_66 ?_
      refine z_iload_n 69 C dX1_append_69 0 rfl ?_
      refine z_zret 70 C (rfl) dX1_append_70 ?_
      refine ⟨?_, ?_⟩
      · first | exact z_ci (z_bo_t c8) | exact z_ci (z_bo_f (fun z => z c8))
      · first | (rw [show z_ha o u = o from if_pos c23, show z_hb u = u + 1 from if_pos c23, z_ui_id ho]; rfl) | (rw [show z_ha o 20 = (o + 1) % 21 from rfl, show z_hb 20 = 20 from rfl, z_ui_cm (a := 1) (b := 2) (by decide), z_ui_id hu]; rfl)
    · skip
      refine z_aload_n 26 C dX1_append_26 1 rfl ?_
      refine z_dup 27 C dX1_append_27 rfl ?_
      refine z_getf 28 C 8 z_dX1 (⟨rfl, rfl⟩) 2 (by decide) q176 (.int (nI u)) (z_ci hu) dX1_append_28 ?_
      refine z_iconst 31 C dX1_append_31 (nI 1) rfl ?_
      refine z_iaddN 32 C u 1 rfl rfl dX1_append_32 ?_
      refine z_puti 33 C 8 z_dX1 (⟨rfl, rfl⟩) 2 (by decide) q176 rfl (rfl) rfl ⟨Nat.le_of_ble_eq_true rfl, rfl⟩ dX1_append_33 ?_
      refine z_goto 36 C 52 dX1_append_36 (by decide) ?_
      refine z_aload_n 52 C dX1_append_52 1 rfl ?_
      refine z_iconst 53 C dX1_append_53 (nI 0) rfl ?_
      refine z_puti 54 C 8 z_dX1 (⟨rfl, rfl⟩) 3 (by decide) q178 rfl (rfl) rfl ⟨Nat.le_of_ble_eq_true rfl, rfl⟩ dX1_append_54 ?_
      refine z_aload_n 57 C dX1_append_57 2 rfl ?_
      refine z_iconst 58 C dX1_append_58 (nI 0) rfl ?_
      refine z_aload_n 59 C dX1_append_59 1 rfl ?_
      refine z_callV 60 C 8 (⟨rfl, rfl⟩) rfl (As := []) (rest := [.int (nI 0), .ref (z_ad G r)]) (m_X1_present (σ := z_ui (z_ui σ 8 2 (nI (u + 1))) 8 3 (nI 0)) o (u + 1) ho rfl (by omega) (by omega)) k_X1_present q546 ⟨rfl, rfl⟩ ⟨Nat.le_of_ble_eq_true rfl, Nat.le_of_ble_eq_true rfl⟩ rfl (Nat.le_of_ble_eq_true rfl) ⟨Nat.le_of_ble_eq_true rfl, Nat.le_of_ble_eq_true rfl⟩ rfl dX1_append_60 (z_k1 ?_)
      refine z_iconst 63 C dX1_append_63 (nI 0) rfl ?_
      refine z_bipush 64 C dX1_append_64 (nI 24) rfl ?_
      refine z_cpyl 66 C r (10 + (o + (u + 1)) % 21) (n0 := 24) (n1 := 24) (hr) (z_rgK _ (by omega)) q553 0 0 24 rfl rfl rfl (by omega) (by omega) (by decide) (by decide) (Nat.le_of_ble_eq_true rfl) (Nat.le_of_ble_eq_true rfl) dX1_append_66 ?_
      refine z_iload_n 69 C dX1_append_69 0 rfl ?_
      refine z_zret 70 C (rfl) dX1_append_70 ?_
      refine ⟨?_, ?_⟩
      · first | exact z_ci (z_bo_t c8) | exact z_ci (z_bo_f (fun z => z c8))
      · first | (rw [show z_ha o u = o from if_pos c23, show z_hb u = u + 1 from if_pos c23, z_ui_id ho]; rfl) | (rw [show z_ha o 20 = (o + 1) % 21 from rfl, show z_hb 20 = 20 from rfl, z_ui_cm (a := 1) (b := 2) (by decide), z_ui_id hu]; rfl)
  · skip
    refine z_iconst 11 C dX1_append_11 (nI 1) rfl ?_
    refine z_goto 12 C 16 dX1_append_12 (by decide) ?_
    refine z_istore_n 16 C dX1_append_16 [(2, .int (nI 1)), (0, .ref (z_ad G 8)), (1, .ref (z_ad G r))] (by decide) rfl ?_
    refine z_aload_n 17 C dX1_append_17 1 rfl ?_
    refine z_getf 18 C 8 z_dX1 (⟨rfl, rfl⟩) 2 (by decide) q176 (.int (nI u)) (z_ci hu) dX1_append_18 ?_
    refine z_bipush 21 C dX1_append_21 (nI 20) rfl ?_
    refine z_icmp_geN 23 C u 20 rfl rfl (by omega) (by omega) 39 dX1_append_23 (by decide) (fun c23 => ?_) (fun c23 => ?_)
    · skip
      have eu : u = 20 := by omega
      subst eu
      refine z_aload_n 39 C dX1_append_39 1 rfl ?_
      refine z_aload_n 40 C dX1_append_40 1 rfl ?_
      refine z_getf 41 C 8 z_dX1 (⟨rfl, rfl⟩) 1 (by decide) q175 (.int (nI o)) (z_ci ho) dX1_append_41 ?_
      refine z_iconst 44 C dX1_append_44 (nI 1) rfl ?_
      refine z_iaddN 45 C o 1 rfl rfl dX1_append_45 ?_
      refine z_bipush 46 C dX1_append_46 (nI 21) rfl ?_
      refine z_iremN 48 C (o + 1) 21 rfl rfl (by omega) (by omega) (by omega) dX1_append_48 ?_
      refine z_puti 49 C 8 z_dX1 (⟨rfl, rfl⟩) 1 (by decide) q175 rfl (rfl) rfl ⟨Nat.le_of_ble_eq_true rfl, rfl⟩ dX1_append_49 ?_
      refine z_aload_n 52 C dX1_append_52 1 rfl ?_
      refine z_iconst 53 C dX1_append_53 (nI 0) rfl ?_
      refine z_puti 54 C 8 z_dX1 (⟨rfl, rfl⟩) 3 (by decide) q178 rfl (rfl) rfl ⟨Nat.le_of_ble_eq_true rfl, rfl⟩ dX1_append_54 ?_
      refine z_aload_n 57 C dX1_append_57 2 rfl ?_
      refine z_iconst 58 C dX1_append_58 (nI 0) rfl ?_
      refine z_aload_n 59 C dX1_append_59 1 rfl ?_
      refine z_callV 60 C 8 (⟨rfl, rfl⟩) rfl (As := []) (rest := [.int (nI 0), .ref (z_ad G r)]) (m_X1_present (σ := z_ui (z_ui σ 8 1 (nI ((o + 1) % 21))) 8 3 (nI 0)) ((o + 1) % 21) 20 rfl hu (by omega) (by omega)) k_X1_present q546 ⟨rfl, rfl⟩ ⟨Nat.le_of_ble_eq_true rfl, Nat.le_of_ble_eq_true rfl⟩ rfl (Nat.le_of_ble_eq_true rfl) ⟨Nat.le_of_ble_eq_true rfl, Nat.le_of_ble_eq_true rfl⟩ rfl dX1_append_60 (z_k1 ?_)
      refine z_iconst 63 C dX1_append_63 (nI 0) rfl ?_
      refine z_bipush 64 C dX1_append_64 (nI 24) rfl ?_
      refine z_cpyl 66 C r (10 + (((o + 1) % 21) + 20) % 21) (n0 := 24) (n1 := 24) (hr) (z_rgK _ (by omega)) q553 0 0 24 rfl rfl rfl (by omega) (by omega) (by decide) (by decide) (Nat.le_of_ble_eq_true rfl) (Nat.le_of_ble_eq_true rfl) dX1_append_66 ?_
      refine z_iload_n 69 C dX1_append_69 0 rfl ?_
      refine z_zret 70 C (rfl) dX1_append_70 ?_
      refine ⟨?_, ?_⟩
      · first | exact z_ci (z_bo_t c8) | exact z_ci (z_bo_f (fun z => z c8))
      · first | (rw [show z_ha o u = o from if_pos c23, show z_hb u = u + 1 from if_pos c23, z_ui_id ho]; rfl) | (rw [show z_ha o 20 = (o + 1) % 21 from rfl, show z_hb 20 = 20 from rfl, z_ui_cm (a := 1) (b := 2) (by decide), z_ui_id hu]; rfl)
    · skip
      refine z_aload_n 26 C dX1_append_26 1 rfl ?_
      refine z_dup 27 C dX1_append_27 rfl ?_
      refine z_getf 28 C 8 z_dX1 (⟨rfl, rfl⟩) 2 (by decide) q176 (.int (nI u)) (z_ci hu) dX1_append_28 ?_
      refine z_iconst 31 C dX1_append_31 (nI 1) rfl ?_
      refine z_iaddN 32 C u 1 rfl rfl dX1_append_32 ?_
      refine z_puti 33 C 8 z_dX1 (⟨rfl, rfl⟩) 2 (by decide) q176 rfl (rfl) rfl ⟨Nat.le_of_ble_eq_true rfl, rfl⟩ dX1_append_33 ?_
      refine z_goto 36 C 52 dX1_append_36 (by decide) ?_
      refine z_aload_n 52 C dX1_append_52 1 rfl ?_
      refine z_iconst 53 C dX1_append_53 (nI 0) rfl ?_
      refine z_puti 54 C 8 z_dX1 (⟨rfl, rfl⟩) 3 (by decide) q178 rfl (rfl) rfl ⟨Nat.le_of_ble_eq_true rfl, rfl⟩ dX1_append_54 ?_
      refine z_aload_n 57 C dX1_append_57 2 rfl ?_
      refine z_iconst 58 C dX1_append_58 (nI 0) rfl ?_
      refine z_aload_n 59 C dX1_append_59 1 rfl ?_
      refine z_callV 60 C 8 (⟨rfl, rfl⟩) rfl (As := []) (rest := [.int (nI 0), .ref (z_ad G r)]) (m_X1_present (σ := z_ui (z_ui σ 8 2 (nI (u + 1))) 8 3 (nI 0)) o (u + 1) ho rfl (by omega) (by omega)) k_X1_present q546 ⟨rfl, rfl⟩ ⟨Nat.le_of_ble_eq_true rfl, Nat.le_of_ble_eq_true rfl⟩ rfl (Nat.le_of_ble_eq_true rfl) ⟨Nat.le_of_ble_eq_true rfl, Nat.le_of_ble_eq_true rfl⟩ rfl dX1_append_60 (z_k1 ?_)
      refine z_iconst 63 C dX1_append_63 (nI 0) rfl ?_
      refine z_bipush 64 C dX1_append_64 (nI 24) rfl ?_
      refine z_cpyl 66 C r (10 + (o + (u + 1)) % 21) (n0 := 24) (n1 := 24) (hr) (z_rgK _ (by omega)) q553 0 0 24 rfl rfl rfl (by omega) (by omega) (by decide) (by decide) (Nat.le_of_ble_eq_true rfl) (Nat.le_of_ble_eq_true rfl) dX1_append_66 ?_
      refine z_iload_n 69 C dX1_append_69 0 rfl ?_
      refine z_zret 70 C (rfl) dX1_append_70 ?_
      refine ⟨?_, ?_⟩
      · first | exact z_ci (z_bo_t c8) | exact z_ci (z_bo_f (fun z => z c8))
      · first | (rw [show z_ha o u = o from if_pos c23, show z_hb u = u + 1 from if_pos c23, z_ui_id ho]; rfl) | (rw [show z_ha o 20 = (o + 1) % 21 from rfl, show z_hb 20 = 20 from rfl, z_ui_cm (a := 1) (b := 2) (by decide), z_ui_id hu]; rfl)
theorem dX1_stepBack_0 : decode cX1_stepBack 0 = .ok (.aload_n 0, 1) := by decide +kernel
theorem dX1_stepBack_1 : decode cX1_stepBack 1 = .ok (.getfield 20, 3) := by decide +kernel
theorem dX1_stepBack_4 : decode cX1_stepBack 4 = .ok (.ifCond .ne 5, 3) := by decide +kernel
theorem dX1_stepBack_7 : decode cX1_stepBack 7 = .ok (.iconst 0, 1) := by decide +kernel
theorem dX1_stepBack_8 : decode cX1_stepBack 8 = .ok (.ireturn, 1) := by decide +kernel
theorem dX1_stepBack_9 : decode cX1_stepBack 9 = .ok (.aload_n 0, 1) := by decide +kernel
theorem dX1_stepBack_10 : decode cX1_stepBack 10 = .ok (.dup, 1) := by decide +kernel
theorem dX1_stepBack_11 : decode cX1_stepBack 11 = .ok (.getfield 20, 3) := by decide +kernel
theorem dX1_stepBack_14 : decode cX1_stepBack 14 = .ok (.iconst 1, 1) := by decide +kernel
theorem dX1_stepBack_15 : decode cX1_stepBack 15 = .ok (.isub, 1) := by decide +kernel
theorem dX1_stepBack_16 : decode cX1_stepBack 16 = .ok (.putfield 20, 3) := by decide +kernel
theorem dX1_stepBack_19 : decode cX1_stepBack 19 = .ok (.aload_n 0, 1) := by decide +kernel
theorem dX1_stepBack_20 : decode cX1_stepBack 20 = .ok (.dup, 1) := by decide +kernel
theorem dX1_stepBack_21 : decode cX1_stepBack 21 = .ok (.getfield 23, 3) := by decide +kernel
theorem dX1_stepBack_24 : decode cX1_stepBack 24 = .ok (.iconst 1, 1) := by decide +kernel
theorem dX1_stepBack_25 : decode cX1_stepBack 25 = .ok (.iadd, 1) := by decide +kernel
theorem dX1_stepBack_26 : decode cX1_stepBack 26 = .ok (.putfield 23, 3) := by decide +kernel
theorem dX1_stepBack_29 : decode cX1_stepBack 29 = .ok (.iconst 1, 1) := by decide +kernel
theorem dX1_stepBack_30 : decode cX1_stepBack 30 = .ok (.ireturn, 1) := by decide +kernel
set_option maxRecDepth 100000 in
set_option maxHeartbeats 4000000 in
theorem m_X1_stepBack {l : Launch} {G : z_Gl} {σ : z_St} (u v : Nat) (hu : σ.1 8 2 = nI u) (hv : σ.1 8 3 = nI v) (hu20 : u ≤ 20) (hv20 : v ≤ 20) : z_M l G yX1_stepBack cX1_stepBack 1 (some .boolean) (z_rm 0 0) [.ref (z_ad G 8)] σ (z_p1 (.int (z_bo (¬ u = 0))) (if u = 0 then σ else z_ui (z_ui σ 8 2 (nI (u - 1))) 8 3 (nI (v + 1)))) := by
  refine z_M.of (by decide) (Nat.le_of_ble_eq_true rfl) (fun p e s m below meth c C => ?_)
  refine z_sub [0] (lv1 := [(0, .ref (z_ad G 8))]) rfl ?_
  refine z_aload_n 0 C dX1_stepBack_0 0 rfl ?_
  refine z_getf 1 C 8 z_dX1 (⟨rfl, rfl⟩) 2 (by decide) q176 (.int (nI u)) (z_ci hu) dX1_stepBack_1 ?_
  refine z_if_ne 4 C 9 dX1_stepBack_4 (by decide) (fun c4 => ?_) (fun c4 => ?_)
  · skip
    have c4 : ¬ u = 0 := fun z => c4 ((z_nI0 (t := u) (by omega)).mpr z)
    refine z_aload_n 9 C dX1_stepBack_9 0 rfl ?_
    refine z_dup 10 C dX1_stepBack_10 rfl ?_
    refine z_getf 11 C 8 z_dX1 (⟨rfl, rfl⟩) 2 (by decide) q176 (.int (nI u)) (z_ci hu) dX1_stepBack_11 ?_
    refine z_iconst 14 C dX1_stepBack_14 (nI 1) rfl ?_
    refine z_isubN 15 C u 1 rfl rfl (by omega) dX1_stepBack_15 ?_
    refine z_puti 16 C 8 z_dX1 (⟨rfl, rfl⟩) 2 (by decide) q176 rfl (rfl) rfl ⟨Nat.le_of_ble_eq_true rfl, rfl⟩ dX1_stepBack_16 ?_
    refine z_aload_n 19 C dX1_stepBack_19 0 rfl ?_
    refine z_dup 20 C dX1_stepBack_20 rfl ?_
    refine z_getf 21 C 8 z_dX1 (⟨rfl, rfl⟩) 3 (by decide) q178 (.int (nI v)) (z_ci hv) dX1_stepBack_21 ?_
    refine z_iconst 24 C dX1_stepBack_24 (nI 1) rfl ?_
    refine z_iaddN 25 C v 1 rfl rfl dX1_stepBack_25 ?_
    refine z_puti 26 C 8 z_dX1 (⟨rfl, rfl⟩) 3 (by decide) q178 rfl (rfl) rfl ⟨Nat.le_of_ble_eq_true rfl, rfl⟩ dX1_stepBack_26 ?_
    refine z_iconst 29 C dX1_stepBack_29 (nI 1) rfl ?_
    refine z_zret 30 C (rfl) dX1_stepBack_30 ?_
    exact ⟨z_ci (z_bo_t c4), (if_neg c4).symm⟩
  · skip
    have c4 : u = 0 := (z_nI0 (by omega)).mp c4
    refine z_iconst 7 C dX1_stepBack_7 (nI 0) rfl ?_
    refine z_zret 8 C (rfl) dX1_stepBack_8 ?_
    exact ⟨z_ci (z_bo_f (fun z => z c4)), (if_pos c4).symm⟩
theorem dX1_stepForward_0 : decode cX1_stepForward 0 = .ok (.aload_n 0, 1) := by decide +kernel
theorem dX1_stepForward_1 : decode cX1_stepForward 1 = .ok (.getfield 23, 3) := by decide +kernel
theorem dX1_stepForward_4 : decode cX1_stepForward 4 = .ok (.ifCond .ne 5, 3) := by decide +kernel
theorem dX1_stepForward_7 : decode cX1_stepForward 7 = .ok (.iconst 0, 1) := by decide +kernel
theorem dX1_stepForward_8 : decode cX1_stepForward 8 = .ok (.ireturn, 1) := by decide +kernel
theorem dX1_stepForward_9 : decode cX1_stepForward 9 = .ok (.aload_n 0, 1) := by decide +kernel
theorem dX1_stepForward_10 : decode cX1_stepForward 10 = .ok (.dup, 1) := by decide +kernel
theorem dX1_stepForward_11 : decode cX1_stepForward 11 = .ok (.getfield 23, 3) := by decide +kernel
theorem dX1_stepForward_14 : decode cX1_stepForward 14 = .ok (.iconst 1, 1) := by decide +kernel
theorem dX1_stepForward_15 : decode cX1_stepForward 15 = .ok (.isub, 1) := by decide +kernel
theorem dX1_stepForward_16 : decode cX1_stepForward 16 = .ok (.putfield 23, 3) := by decide +kernel
theorem dX1_stepForward_19 : decode cX1_stepForward 19 = .ok (.aload_n 0, 1) := by decide +kernel
theorem dX1_stepForward_20 : decode cX1_stepForward 20 = .ok (.dup, 1) := by decide +kernel
theorem dX1_stepForward_21 : decode cX1_stepForward 21 = .ok (.getfield 20, 3) := by decide +kernel
theorem dX1_stepForward_24 : decode cX1_stepForward 24 = .ok (.iconst 1, 1) := by decide +kernel
theorem dX1_stepForward_25 : decode cX1_stepForward 25 = .ok (.iadd, 1) := by decide +kernel
theorem dX1_stepForward_26 : decode cX1_stepForward 26 = .ok (.putfield 20, 3) := by decide +kernel
theorem dX1_stepForward_29 : decode cX1_stepForward 29 = .ok (.iconst 1, 1) := by decide +kernel
theorem dX1_stepForward_30 : decode cX1_stepForward 30 = .ok (.ireturn, 1) := by decide +kernel
set_option maxRecDepth 100000 in
set_option maxHeartbeats 4000000 in
theorem m_X1_stepForward {l : Launch} {G : z_Gl} {σ : z_St} (u v : Nat) (hu : σ.1 8 2 = nI u) (hv : σ.1 8 3 = nI v) (hu20 : u ≤ 20) (hv20 : v ≤ 20) : z_M l G yX1_stepForward cX1_stepForward 1 (some .boolean) (z_rm 0 0) [.ref (z_ad G 8)] σ (z_p1 (.int (z_bo (¬ v = 0))) (if v = 0 then σ else z_ui (z_ui σ 8 3 (nI (v - 1))) 8 2 (nI (u + 1)))) := by
  refine z_M.of (by decide) (Nat.le_of_ble_eq_true rfl) (fun p e s m below meth c C => ?_)
  refine z_sub [0] (lv1 := [(0, .ref (z_ad G 8))]) rfl ?_
  refine z_aload_n 0 C dX1_stepForward_0 0 rfl ?_
  refine z_getf 1 C 8 z_dX1 (⟨rfl, rfl⟩) 3 (by decide) q178 (.int (nI v)) (z_ci hv) dX1_stepForward_1 ?_
  refine z_if_ne 4 C 9 dX1_stepForward_4 (by decide) (fun c4 => ?_) (fun c4 => ?_)
  · skip
    have c4 : ¬ v = 0 := fun z => c4 ((z_nI0 (t := v) (by omega)).mpr z)
    refine z_aload_n 9 C dX1_stepForward_9 0 rfl ?_
    refine z_dup 10 C dX1_stepForward_10 rfl ?_
    refine z_getf 11 C 8 z_dX1 (⟨rfl, rfl⟩) 3 (by decide) q178 (.int (nI v)) (z_ci hv) dX1_stepForward_11 ?_
    refine z_iconst 14 C dX1_stepForward_14 (nI 1) rfl ?_
    refine z_isubN 15 C v 1 rfl rfl (by omega) dX1_stepForward_15 ?_
    refine z_puti 16 C 8 z_dX1 (⟨rfl, rfl⟩) 3 (by decide) q178 rfl (rfl) rfl ⟨Nat.le_of_ble_eq_true rfl, rfl⟩ dX1_stepForward_16 ?_
    refine z_aload_n 19 C dX1_stepForward_19 0 rfl ?_
    refine z_dup 20 C dX1_stepForward_20 rfl ?_
    refine z_getf 21 C 8 z_dX1 (⟨rfl, rfl⟩) 2 (by decide) q176 (.int (nI u)) (z_ci hu) dX1_stepForward_21 ?_
    refine z_iconst 24 C dX1_stepForward_24 (nI 1) rfl ?_
    refine z_iaddN 25 C u 1 rfl rfl dX1_stepForward_25 ?_
    refine z_puti 26 C 8 z_dX1 (⟨rfl, rfl⟩) 2 (by decide) q176 rfl (rfl) rfl ⟨Nat.le_of_ble_eq_true rfl, rfl⟩ dX1_stepForward_26 ?_
    refine z_iconst 29 C dX1_stepForward_29 (nI 1) rfl ?_
    refine z_zret 30 C (rfl) dX1_stepForward_30 ?_
    exact ⟨z_ci (z_bo_t c4), (if_neg c4).symm⟩
  · skip
    have c4 : v = 0 := (z_nI0 (by omega)).mp c4
    refine z_iconst 7 C dX1_stepForward_7 (nI 0) rfl ?_
    refine z_zret 8 C (rfl) dX1_stepForward_8 ?_
    exact ⟨z_ci (z_bo_f (fun z => z c4)), (if_pos c4).symm⟩
end
section
/-! PURE: traces -/
def z_hs (h : Nat → Int32) : Nat → Int64
  | 0 => 0
  | i + 1 => z_hs h i + (h i).toInt64
def z_hq (h : Nat → Int32) : Nat → Int64
  | 0 => 0
  | i + 1 => z_hq h i + (h i).toInt64 * (h i).toInt64
def z_xs (x : Nat → Int64) : Nat → Int64
  | 0 => 0
  | i + 1 => z_xs x i + x i
def z_hx (h : Nat → Int32) (x : Nat → Int64) : Nat → Int64
  | 0 => 0
  | i + 1 => z_hx h x i + (h i).toInt64 * x i
def z_den (h : Nat → Int32) (w : Nat) : Int64 := lN w * z_hq h w - z_hs h w * z_hs h w
def z_ax (h : Nat → Int32) (x : Nat → Int64) (w : Nat) (t : Int32) : Int64 := z_fd (z_hq h w * z_xs x w - z_hs h w * z_hx h x w + t.toInt64 * (lN w * z_hx h x w - z_hs h w * z_xs x w)) (z_den h w)
def z_fmx (d : Nat → Int64) (g : Int64) : Nat → Int64
  | 0 => g
  | k + 1 => z_mx (z_fmx d g k) (d k)
def z_fmn (d : Nat → Int64) (g : Int64) : Nat → Int64
  | 0 => g
  | k + 1 => z_mn (z_fmn d g k) (d k)
def z_fmx2 (d : Nat → Nat → Int64) (g : Int64) : Nat → Int64
  | 0 => g
  | i + 1 => z_fmx (d i) (z_fmx2 d g i) 24
def z_fmn2 (d : Nat → Nat → Int64) (g : Int64) : Nat → Int64
  | 0 => g
  | i + 1 => z_fmn (d i) (z_fmn2 d g i) 24
theorem z_fmx_1 (d : Nat → Int64) : d 0 = z_fmx d (d 0) 1 := by simp [z_fmx, z_mx]
theorem z_fmn_1 (d : Nat → Int64) : d 0 = z_fmn d (d 0) 1 := by simp [z_fmn, z_mn]
def z_tr (L : Nat → Nat → Int64) (i : Nat) : Nat → Int64 := L (34 + i)
def z_cdv (h : Nat → Int32) (x y : Nat → Int64) (T : Nat → Nat → Int64) (w i k : Nat) : Int64 := T i k - z_wv (z_ax h x w (h i)) (z_ax h y w (h i)) (k % 24)
def z_dfa (h : Nat → Int32) (x y : Nat → Int64) (w i : Nat) : Int64 := z_ab (x i - z_ax h x w (h i)) + z_ab (y i - z_ax h y w (h i))
/-- the first place of the greatest, of the least value -/
def z_bm (f : Nat → Int64) : Nat → Nat
  | 0 => 0
  | i + 1 => if f (z_bm f i) < f i then i else z_bm f i
def z_bl (f : Nat → Int64) : Nat → Nat
  | 0 => 0
  | i + 1 => if f i < f (z_bl f i) then i else z_bl f i
theorem z_bm_s {f : Nat → Int64} {i : Nat} (h : f (z_bm f i) < f i) : z_bm f (i + 1) = i := if_pos h
theorem z_bm_n {f : Nat → Int64} {i : Nat} (h : ¬ f (z_bm f i) < f i) : z_bm f (i + 1) = z_bm f i := if_neg h
theorem z_bm_1 (f : Nat → Int64) : z_bm f 1 = 0 := by simp [z_bm]
theorem z_bl_s {f : Nat → Int64} {i : Nat} (h : f i < f (z_bl f i)) : z_bl f (i + 1) = i := if_pos h
theorem z_bl_n {f : Nat → Int64} {i : Nat} (h : ¬ f i < f (z_bl f i)) : z_bl f (i + 1) = z_bl f i := if_neg h
theorem z_bl_1 (f : Nat → Int64) : z_bl f 1 = 0 := by simp [z_bl]
/-- how two profiles differ -/
def z_mm (f g : Nat → Int64) (u : Nat) : Nat → Int64
  | 0 => 0
  | k + 1 => z_mm f g u k + z_ab (f ((k + (24 - u % 24)) % 24) - g k)
theorem z_ul2n {σ : z_St} {i j r : Nat} {x : Int64} (h : ¬ r = i) : (z_ul σ i j x).2 r = σ.2 r := if_neg h
theorem z_uL2n {σ : z_St} {i r : Nat} {f : Nat → Int64} (h : ¬ r = i) : (z_uL σ i f).2 r = σ.2 r := if_neg h
theorem z_ne24 {r : Nat} (h : z_kd r = 2 ∧ z_sz r = 24) : ¬ r = 41 ∧ ¬ r = 42 ∧ ¬ r = 43 := by
  refine ⟨?_, ?_, ?_⟩ <;> (intro e; rw [e] at h; exact absurd h.2 (by decide))
theorem dX3_append_0 : decode cX3_append 0 = .ok (.aload_n 0, 1) := by decide +kernel
theorem dX3_append_1 : decode cX3_append 1 = .ok (.getfield 28, 3) := by decide +kernel
theorem dX3_append_4 : decode cX3_append 4 = .ok (.bipush 8, 2) := by decide +kernel
theorem dX3_append_6 : decode cX3_append 6 = .ok (.if_icmp .ge 54, 3) := by decide +kernel
theorem dX3_append_9 : decode cX3_append 9 = .ok (.aload_n 0, 1) := by decide +kernel
theorem dX3_append_10 : decode cX3_append 10 = .ok (.getfield 9, 3) := by decide +kernel
theorem dX3_append_13 : decode cX3_append 13 = .ok (.aload_n 0, 1) := by decide +kernel
theorem dX3_append_14 : decode cX3_append 14 = .ok (.getfield 28, 3) := by decide +kernel
theorem dX3_append_17 : decode cX3_append 17 = .ok (.iload_n 1, 1) := by decide +kernel
theorem dX3_append_18 : decode cX3_append 18 = .ok (.iastore, 1) := by decide +kernel
theorem dX3_append_19 : decode cX3_append 19 = .ok (.aload_n 0, 1) := by decide +kernel
theorem dX3_append_20 : decode cX3_append 20 = .ok (.getfield 13, 3) := by decide +kernel
theorem dX3_append_23 : decode cX3_append 23 = .ok (.aload_n 0, 1) := by decide +kernel
theorem dX3_append_24 : decode cX3_append 24 = .ok (.getfield 28, 3) := by decide +kernel
theorem dX3_append_27 : decode cX3_append 27 = .ok (.iload_n 2, 1) := by decide +kernel
theorem dX3_append_28 : decode cX3_append 28 = .ok (.iastore, 1) := by decide +kernel
theorem dX3_append_29 : decode cX3_append 29 = .ok (.aload_n 0, 1) := by decide +kernel
theorem dX3_append_30 : decode cX3_append 30 = .ok (.getfield 16, 3) := by decide +kernel
theorem dX3_append_33 : decode cX3_append 33 = .ok (.aload_n 0, 1) := by decide +kernel
theorem dX3_append_34 : decode cX3_append 34 = .ok (.getfield 28, 3) := by decide +kernel
theorem dX3_append_37 : decode cX3_append 37 = .ok (.iload_n 3, 1) := by decide +kernel
theorem dX3_append_38 : decode cX3_append 38 = .ok (.iastore, 1) := by decide +kernel
theorem dX3_append_39 : decode cX3_append 39 = .ok (.aload_n 0, 1) := by decide +kernel
theorem dX3_append_40 : decode cX3_append 40 = .ok (.getfield 19, 3) := by decide +kernel
theorem dX3_append_43 : decode cX3_append 43 = .ok (.aload_n 0, 1) := by decide +kernel
theorem dX3_append_44 : decode cX3_append 44 = .ok (.getfield 28, 3) := by decide +kernel
theorem dX3_append_47 : decode cX3_append 47 = .ok (.iload 4, 2) := by decide +kernel
theorem dX3_append_49 : decode cX3_append 49 = .ok (.iastore, 1) := by decide +kernel
theorem dX3_append_50 : decode cX3_append 50 = .ok (.aload_n 0, 1) := by decide +kernel
theorem dX3_append_51 : decode cX3_append 51 = .ok (.dup, 1) := by decide +kernel
theorem dX3_append_52 : decode cX3_append 52 = .ok (.getfield 28, 3) := by decide +kernel
theorem dX3_append_55 : decode cX3_append 55 = .ok (.iconst 1, 1) := by decide +kernel
theorem dX3_append_56 : decode cX3_append 56 = .ok (.iadd, 1) := by decide +kernel
theorem dX3_append_57 : decode cX3_append 57 = .ok (.putfield 28, 3) := by decide +kernel
theorem dX3_append_60 : decode cX3_append 60 = .ok (.return_, 1) := by decide +kernel
set_option maxRecDepth 100000 in
set_option maxHeartbeats 4000000 in
theorem m_X3_append {l : Launch} {G : z_Gl} {σ : z_St} (rc : Nat) (hrc : σ.1 44 5 = nI rc) (hr8 : rc < 8) (a b d f : Int32) : z_M l G yX3_append cX3_append 5 none (z_rm 0 0) [.ref (z_ad G 44), .int a, .int b, .int d, .int f] σ (z_p0 (z_ui (z_ui (z_ui (z_ui (z_ui σ 45 rc a) 46 rc b) 47 rc d) 48 rc f) 44 5 (nI (rc + 1)))) := by
  refine z_M.of (by decide) (Nat.le_of_ble_eq_true rfl) (fun p e s m below meth c C => ?_)
  refine z_sub [0, 1, 2, 3, 4] (lv1 := [(0, .ref (z_ad G 44)), (1, .int a), (2, .int b), (3, .int d), (4, .int f)]) rfl ?_
  refine z_aload_n 0 C dX3_append_0 0 rfl ?_
  refine z_getf 1 C 44 z_dX3 (⟨rfl, rfl⟩) 5 (by decide) q278 (.int (nI rc)) (z_ci hrc) dX3_append_1 ?_
  refine z_bipush 4 C dX3_append_4 (nI 8) rfl ?_
  refine z_icmp_geN 6 C rc 8 rfl rfl (by omega) (by omega) 60 dX3_append_6 (by decide) (fun c6 => ?_) (fun c6 => ?_)
  · skip
    exact absurd c6 (by omega)
  · skip
    refine z_aload_n 9 C dX3_append_9 0 rfl ?_
    refine z_getf 10 C 44 z_dX3 (⟨rfl, rfl⟩) 0 (by decide) q268 (.ref (z_ad G 45)) rfl dX3_append_10 ?_
    refine z_aload_n 13 C dX3_append_13 0 rfl ?_
    refine z_getf 14 C 44 z_dX3 (⟨rfl, rfl⟩) 5 (by decide) q278 (.int (nI rc)) (z_ci hrc) dX3_append_14 ?_
    refine z_iload_n 17 C dX3_append_17 1 rfl ?_
    refine z_iastN 18 C 45 (n := 8) (⟨rfl, rfl⟩) rc rfl (by omega) (by decide) dX3_append_18 ?_
    refine z_aload_n 19 C dX3_append_19 0 rfl ?_
    refine z_getf 20 C 44 z_dX3 (⟨rfl, rfl⟩) 1 (by decide) q270 (.ref (z_ad G 46)) rfl dX3_append_20 ?_
    refine z_aload_n 23 C dX3_append_23 0 rfl ?_
    refine z_getf 24 C 44 z_dX3 (⟨rfl, rfl⟩) 5 (by decide) q278 (.int (nI rc)) (z_ci hrc) dX3_append_24 ?_
    refine z_iload_n 27 C dX3_append_27 2 rfl ?_
    refine z_iastN 28 C 46 (n := 8) (⟨rfl, rfl⟩) rc rfl (by omega) (by decide) dX3_append_28 ?_
    refine z_aload_n 29 C dX3_append_29 0 rfl ?_
    refine z_getf 30 C 44 z_dX3 (⟨rfl, rfl⟩) 2 (by decide) q272 (.ref (z_ad G 47)) rfl dX3_append_30 ?_
    refine z_aload_n 33 C dX3_append_33 0 rfl ?_
    refine z_getf 34 C 44 z_dX3 (⟨rfl, rfl⟩) 5 (by decide) q278 (.int (nI rc)) (z_ci hrc) dX3_append_34 ?_
    refine z_iload_n 37 C dX3_append_37 3 rfl ?_
    refine z_iastN 38 C 47 (n := 8) (⟨rfl, rfl⟩) rc rfl (by omega) (by decide) dX3_append_38 ?_
    refine z_aload_n 39 C dX3_append_39 0 rfl ?_
    refine z_getf 40 C 44 z_dX3 (⟨rfl, rfl⟩) 3 (by decide) q274 (.ref (z_ad G 48)) rfl dX3_append_40 ?_
    refine z_aload_n 43 C dX3_append_43 0 rfl ?_
    refine z_getf 44 C 44 z_dX3 (⟨rfl, rfl⟩) 5 (by decide) q278 (.int (nI rc)) (z_ci hrc) dX3_append_44 ?_
    refine z_iload 47 C dX3_append_47 4 rfl ?_
    refine z_iastN 49 C 48 (n := 8) (⟨rfl, rfl⟩) rc rfl (by omega) (by decide) dX3_append_49 ?_
    refine z_aload_n 50 C dX3_append_50 0 rfl ?_
    refine z_dup 51 C dX3_append_51 rfl ?_
    refine z_getf 52 C 44 z_dX3 (⟨rfl, rfl⟩) 5 (by decide) q278 (.int (nI rc)) (z_ci hrc) dX3_append_52 ?_
    refine z_iconst 55 C dX3_append_55 (nI 1) rfl ?_
    refine z_iaddN 56 C rc 1 rfl rfl dX3_append_56 ?_
    refine z_puti 57 C 44 z_dX3 (⟨rfl, rfl⟩) 5 (by decide) q278 rfl (rfl) rfl ⟨Nat.le_of_ble_eq_true rfl, rfl⟩ dX3_append_57 ?_
    refine z_vret 60 C dX3_append_60 ?_
    exact ⟨rfl, rfl⟩
theorem dX6_lacks_0 : decode cX6_lacks 0 = .ok (.iload_n 1, 1) := by decide +kernel
theorem dX6_lacks_1 : decode cX6_lacks 1 = .ok (.iconst 0, 1) := by decide +kernel
theorem dX6_lacks_2 : decode cX6_lacks 2 = .ok (.aload_n 0, 1) := by decide +kernel
theorem dX6_lacks_3 : decode cX6_lacks 3 = .ok (.getfield 30, 3) := by decide +kernel
theorem dX6_lacks_6 : decode cX6_lacks 6 = .ok (.iconst 1, 1) := by decide +kernel
theorem dX6_lacks_7 : decode cX6_lacks 7 = .ok (.isub, 1) := by decide +kernel
theorem dX6_lacks_8 : decode cX6_lacks 8 = .ok (.invokestatic 34, 3) := by decide +kernel
theorem dX6_lacks_11 : decode cX6_lacks 11 = .ok (.ireturn, 1) := by decide +kernel
set_option maxRecDepth 100000 in
set_option maxHeartbeats 4000000 in
theorem m_X6_lacks {l : Launch} {G : z_Gl} {σ : z_St} (w : Nat) (hw : σ.1 32 5 = nI w) (x : Int32) : z_M l G yX6_lacks cX6_lacks 2 (some .boolean) (z_rm 1 22) [.ref (z_ad G 32), .int x] σ (z_p1 (.int (z_bo (x < nI 0 ∨ nI w - nI 1 < x))) σ) := by
  refine z_M.of (by decide) (Nat.le_of_ble_eq_true rfl) (fun p e s m below meth c C => ?_)
  refine z_sub [0, 1] (lv1 := [(0, .ref (z_ad G 32)), (1, .int x)]) rfl ?_
  refine z_iload_n 0 C dX6_lacks_0 1 rfl ?_
  refine z_iconst 1 C dX6_lacks_1 (nI 0) rfl ?_
  refine z_aload_n 2 C dX6_lacks_2 0 rfl ?_
  refine z_getf 3 C 32 z_dX6 (⟨rfl, rfl⟩) 5 (by decide) q208 (.int (nI w)) (z_ci hw) dX6_lacks_3 ?_
  refine z_iconst 6 C dX6_lacks_6 (nI 1) rfl ?_
  refine z_isub 7 C dX6_lacks_7 ?_
  refine z_callSN 8 C (As := [.int x, .int (nI 0), .int ((nI w) - (nI 1))]) (rest := []) (m_X7_isOutside x (nI 0) ((nI w) - (nI 1))) k_X7_isOutside (List.mem_of_getElem? (i := 43) rfl) ⟨rfl, rfl⟩ ⟨Nat.le_of_ble_eq_true rfl, Nat.le_of_ble_eq_true rfl⟩ rfl (Nat.le_of_ble_eq_true rfl) ⟨Nat.le_of_ble_eq_true rfl, Nat.le_of_ble_eq_true rfl⟩ rfl dX6_lacks_8 (z_k1 ?_)
  refine z_zret 11 C (z_bo_nar) dX6_lacks_11 ?_
  exact ⟨rfl, rfl⟩
theorem dX6_hasHeight_0 : decode cX6_hasHeight 0 = .ok (.iconst 0, 1) := by decide +kernel
theorem dX6_hasHeight_1 : decode cX6_hasHeight 1 = .ok (.istore_n 2, 1) := by decide +kernel
theorem dX6_hasHeight_2 : decode cX6_hasHeight 2 = .ok (.iload_n 2, 1) := by decide +kernel
theorem dX6_hasHeight_3 : decode cX6_hasHeight 3 = .ok (.aload_n 0, 1) := by decide +kernel
theorem dX6_hasHeight_4 : decode cX6_hasHeight 4 = .ok (.getfield 30, 3) := by decide +kernel
theorem dX6_hasHeight_7 : decode cX6_hasHeight 7 = .ok (.if_icmp .ge 21, 3) := by decide +kernel
theorem dX6_hasHeight_10 : decode cX6_hasHeight 10 = .ok (.aload_n 0, 1) := by decide +kernel
theorem dX6_hasHeight_11 : decode cX6_hasHeight 11 = .ok (.getfield 16, 3) := by decide +kernel
theorem dX6_hasHeight_14 : decode cX6_hasHeight 14 = .ok (.iload_n 2, 1) := by decide +kernel
theorem dX6_hasHeight_15 : decode cX6_hasHeight 15 = .ok (.iaload, 1) := by decide +kernel
theorem dX6_hasHeight_16 : decode cX6_hasHeight 16 = .ok (.iload_n 1, 1) := by decide +kernel
theorem dX6_hasHeight_17 : decode cX6_hasHeight 17 = .ok (.if_icmp .ne 5, 3) := by decide +kernel
theorem dX6_hasHeight_20 : decode cX6_hasHeight 20 = .ok (.iconst 1, 1) := by decide +kernel
theorem dX6_hasHeight_21 : decode cX6_hasHeight 21 = .ok (.ireturn, 1) := by decide +kernel
theorem dX6_hasHeight_22 : decode cX6_hasHeight 22 = .ok (.iinc 2 1, 3) := by decide +kernel
theorem dX6_hasHeight_25 : decode cX6_hasHeight 25 = .ok (.goto (-23), 3) := by decide +kernel
theorem dX6_hasHeight_28 : decode cX6_hasHeight 28 = .ok (.iconst 0, 1) := by decide +kernel
theorem dX6_hasHeight_29 : decode cX6_hasHeight 29 = .ok (.ireturn, 1) := by decide +kernel
set_option maxRecDepth 100000 in
set_option maxHeartbeats 4000000 in
theorem m_X6_hasHeight {l : Launch} {G : z_Gl} {σ : z_St} (w : Nat) (hw : σ.1 32 5 = nI w) (hw6 : w ≤ 6) (x : Int32) : z_M l G yX6_hasHeight cX6_hasHeight 3 (some .boolean) (z_rm 0 0) [.ref (z_ad G 32), .int x] σ (z_p1 (.int (z_bo (¬ ∀ j, j < w → ¬ σ.1 40 j = x))) σ) := by
  refine z_M.of (by decide) (Nat.le_of_ble_eq_true rfl) (fun p e s m below meth c C => ?_)
  refine z_sub [0, 1] (lv1 := [(0, .ref (z_ad G 32)), (1, .int x)]) rfl ?_
  refine z_iconst 0 C dX6_hasHeight_0 (nI 0) rfl ?_
  refine z_istore_n 1 C dX6_hasHeight_1 [(2, .int (nI 0)), (0, .ref (z_ad G 32)), (1, .int x)] (by decide) rfl ?_
  refine z_sub [1, 2, 0] (lv1 := [(0, .ref (z_ad G 32)), (1, .int x), (2, .int (nI 0))]) rfl ?_
  refine z_cv (lv1 := [(0, .ref (z_ad G 32)), (1, .int x), (2, .int (nI 0))]) (st1 := []) (σ1 := σ) rfl rfl rfl ?_
  refine z_lp1 (fun (k : Nat) => k ≤ w ∧ ∀ j, j < k → ¬ σ.1 40 j = x) (fun (k : Nat) => w - k) (fun (k : Nat) => [(0, .ref (z_ad G 32)), (1, .int x), (2, .int (nI k))]) (fun (k : Nat) => σ) (fun k hi_2 ih_2 => ?_) 0 (⟨by omega, fun j h => absurd h (Nat.not_lt_zero j)⟩)
  try dsimp only
  obtain ⟨hk, hj⟩ := hi_2
  refine z_iload_n 2 C dX6_hasHeight_2 2 rfl ?_
  refine z_aload_n 3 C dX6_hasHeight_3 0 rfl ?_
  refine z_getf 4 C 32 z_dX6 (⟨rfl, rfl⟩) 5 (by decide) q208 (.int (nI w)) (z_ci hw) dX6_hasHeight_4 ?_
  refine z_icmp_geN 7 C k w rfl rfl (by omega) (by omega) 28 dX6_hasHeight_7 (by decide) (fun c7 => ?_) (fun c7 => ?_)
  · skip
    have ek : w = k := by omega
    subst ek
    refine z_iconst 28 C dX6_hasHeight_28 (nI 0) rfl ?_
    refine z_zret 29 C (rfl) dX6_hasHeight_29 ?_
    exact ⟨z_ci (z_bo_f (fun z => z hj)), rfl⟩
  · skip
    refine z_aload_n 10 C dX6_hasHeight_10 0 rfl ?_
    refine z_getf 11 C 32 z_dX6 (⟨rfl, rfl⟩) 1 (by decide) q200 (.ref (z_ad G 40)) rfl dX6_hasHeight_11 ?_
    refine z_iload_n 14 C dX6_hasHeight_14 2 rfl ?_
    refine z_ialdN 15 C 40 (n := 6) (⟨rfl, rfl⟩) k rfl (by omega) (by decide) dX6_hasHeight_15 ?_
    refine z_iload_n 16 C dX6_hasHeight_16 1 rfl ?_
    refine z_icmp_ne 17 C 22 dX6_hasHeight_17 (by decide) (fun c17 => ?_) (fun c17 => ?_)
    · skip
      refine z_iincN 22 C 2 k [(2, .int (nI (k + 1))), (0, .ref (z_ad G 32)), (1, .int x)] rfl rfl (by decide) rfl dX6_hasHeight_22 ?_
      refine z_goto 25 C 2 dX6_hasHeight_25 (by decide) ?_
      refine z_sub [1, 2, 0] (lv1 := [(0, .ref (z_ad G 32)), (1, .int x), (2, .int (nI (k + 1)))]) rfl ?_
      refine z_cv (lv1 := [(0, .ref (z_ad G 32)), (1, .int x), (2, .int (nI (k + 1)))]) (st1 := []) (σ1 := σ) rfl rfl rfl ?_
      exact ih_2 (k + 1) (⟨by omega, lt_s hj c17⟩) (by omega)
    · skip
      refine z_iconst 20 C dX6_hasHeight_20 (nI 1) rfl ?_
      refine z_zret 21 C (rfl) dX6_hasHeight_21 ?_
      exact ⟨z_ci (z_bo_t (fun z => z k c7 c17)), rfl⟩
theorem dX6_append_0 : decode cX6_append 0 = .ok (.aload_n 0, 1) := by decide +kernel
theorem dX6_append_1 : decode cX6_append 1 = .ok (.getfield 30, 3) := by decide +kernel
theorem dX6_append_4 : decode cX6_append 4 = .ok (.bipush 6, 2) := by decide +kernel
theorem dX6_append_6 : decode cX6_append 6 = .ok (.if_icmp .ge 85, 3) := by decide +kernel
theorem dX6_append_9 : decode cX6_append 9 = .ok (.aload_n 1, 1) := by decide +kernel
theorem dX6_append_10 : decode cX6_append 10 = .ok (.iconst 0, 1) := by decide +kernel
theorem dX6_append_11 : decode cX6_append 11 = .ok (.aload_n 0, 1) := by decide +kernel
theorem dX6_append_12 : decode cX6_append 12 = .ok (.getfield 13, 3) := by decide +kernel
theorem dX6_append_15 : decode cX6_append 15 = .ok (.aload_n 0, 1) := by decide +kernel
theorem dX6_append_16 : decode cX6_append 16 = .ok (.getfield 30, 3) := by decide +kernel
theorem dX6_append_19 : decode cX6_append 19 = .ok (.aaload, 1) := by decide +kernel
theorem dX6_append_20 : decode cX6_append 20 = .ok (.iconst 0, 1) := by decide +kernel
theorem dX6_append_21 : decode cX6_append 21 = .ok (.bipush 24, 2) := by decide +kernel
theorem dX6_append_23 : decode cX6_append 23 = .ok (.invokestatic 38, 3) := by decide +kernel
theorem dX6_append_26 : decode cX6_append 26 = .ok (.aload_n 0, 1) := by decide +kernel
theorem dX6_append_27 : decode cX6_append 27 = .ok (.getfield 16, 3) := by decide +kernel
theorem dX6_append_30 : decode cX6_append 30 = .ok (.aload_n 0, 1) := by decide +kernel
theorem dX6_append_31 : decode cX6_append 31 = .ok (.getfield 30, 3) := by decide +kernel
theorem dX6_append_34 : decode cX6_append 34 = .ok (.iload_n 2, 1) := by decide +kernel
theorem dX6_append_35 : decode cX6_append 35 = .ok (.iastore, 1) := by decide +kernel
theorem dX6_append_36 : decode cX6_append 36 = .ok (.aload_n 0, 1) := by decide +kernel
theorem dX6_append_37 : decode cX6_append 37 = .ok (.getfield 20, 3) := by decide +kernel
theorem dX6_append_40 : decode cX6_append 40 = .ok (.aload_n 0, 1) := by decide +kernel
theorem dX6_append_41 : decode cX6_append 41 = .ok (.getfield 30, 3) := by decide +kernel
theorem dX6_append_44 : decode cX6_append 44 = .ok (.aload_n 1, 1) := by decide +kernel
theorem dX6_append_45 : decode cX6_append 45 = .ok (.iconst 1, 1) := by decide +kernel
theorem dX6_append_46 : decode cX6_append 46 = .ok (.iconst 0, 1) := by decide +kernel
theorem dX6_append_47 : decode cX6_append 47 = .ok (.invokestatic 44, 3) := by decide +kernel
theorem dX6_append_50 : decode cX6_append 50 = .ok (.lastore, 1) := by decide +kernel
theorem dX6_append_51 : decode cX6_append 51 = .ok (.aload_n 0, 1) := by decide +kernel
theorem dX6_append_52 : decode cX6_append 52 = .ok (.getfield 24, 3) := by decide +kernel
theorem dX6_append_55 : decode cX6_append 55 = .ok (.aload_n 0, 1) := by decide +kernel
theorem dX6_append_56 : decode cX6_append 56 = .ok (.getfield 30, 3) := by decide +kernel
theorem dX6_append_59 : decode cX6_append 59 = .ok (.aload_n 1, 1) := by decide +kernel
theorem dX6_append_60 : decode cX6_append 60 = .ok (.iconst 1, 1) := by decide +kernel
theorem dX6_append_61 : decode cX6_append 61 = .ok (.iconst 1, 1) := by decide +kernel
theorem dX6_append_62 : decode cX6_append 62 = .ok (.invokestatic 44, 3) := by decide +kernel
theorem dX6_append_65 : decode cX6_append 65 = .ok (.lastore, 1) := by decide +kernel
theorem dX6_append_66 : decode cX6_append 66 = .ok (.aload_n 0, 1) := by decide +kernel
theorem dX6_append_67 : decode cX6_append 67 = .ok (.getfield 27, 3) := by decide +kernel
theorem dX6_append_70 : decode cX6_append 70 = .ok (.aload_n 0, 1) := by decide +kernel
theorem dX6_append_71 : decode cX6_append 71 = .ok (.getfield 30, 3) := by decide +kernel
theorem dX6_append_74 : decode cX6_append 74 = .ok (.aload_n 1, 1) := by decide +kernel
theorem dX6_append_75 : decode cX6_append 75 = .ok (.iconst 0, 1) := by decide +kernel
theorem dX6_append_76 : decode cX6_append 76 = .ok (.iconst 0, 1) := by decide +kernel
theorem dX6_append_77 : decode cX6_append 77 = .ok (.invokestatic 44, 3) := by decide +kernel
theorem dX6_append_80 : decode cX6_append 80 = .ok (.lastore, 1) := by decide +kernel
theorem dX6_append_81 : decode cX6_append 81 = .ok (.aload_n 0, 1) := by decide +kernel
theorem dX6_append_82 : decode cX6_append 82 = .ok (.dup, 1) := by decide +kernel
theorem dX6_append_83 : decode cX6_append 83 = .ok (.getfield 30, 3) := by decide +kernel
theorem dX6_append_86 : decode cX6_append 86 = .ok (.iconst 1, 1) := by decide +kernel
theorem dX6_append_87 : decode cX6_append 87 = .ok (.iadd, 1) := by decide +kernel
theorem dX6_append_88 : decode cX6_append 88 = .ok (.putfield 30, 3) := by decide +kernel
theorem dX6_append_91 : decode cX6_append 91 = .ok (.return_, 1) := by decide +kernel
set_option maxRecDepth 100000 in
set_option maxHeartbeats 4000000 in
theorem m_X6_append {l : Launch} {G : z_Gl} {σ : z_St} (w : Nat) (hw : σ.1 32 5 = nI w) (hw6 : w < 6) (r : Nat) (hr : z_kd r = 2 ∧ z_sz r = 24) (hne : ¬ r = 34 + w) (x : Int32) : z_M l G yX6_append cX6_append 3 none (z_rm 3 68) [.ref (z_ad G 32), .ref (z_ad G r), .int x] σ (z_p0 (z_ui (z_ul (z_ul (z_ul (z_ui (z_uL σ (34 + w) (va_cpy (σ.2 r) (σ.2 (34 + w)) 0 0 24)) 40 w x) 41 w (z_cf (σ.2 r) 0 1)) 42 w (z_cf (σ.2 r) 1 1)) 43 w (z_cf (σ.2 r) 0 0)) 32 5 (nI (w + 1)))) := by
  refine z_M.of (by decide) (Nat.le_of_ble_eq_true rfl) (fun p e s m below meth c C => ?_)
  refine z_sub [0, 1, 2] (lv1 := [(0, .ref (z_ad G 32)), (1, .ref (z_ad G r)), (2, .int x)]) rfl ?_
  refine z_aload_n 0 C dX6_append_0 0 rfl ?_
  refine z_getf 1 C 32 z_dX6 (⟨rfl, rfl⟩) 5 (by decide) q208 (.int (nI w)) (z_ci hw) dX6_append_1 ?_
  refine z_bipush 4 C dX6_append_4 (nI 6) rfl ?_
  refine z_icmp_geN 6 C w 6 rfl rfl (by omega) (by omega) 91 dX6_append_6 (by decide) (fun c6 => ?_) (fun c6 => ?_)
  · skip
    exact absurd c6 (by omega)
  · skip
    refine z_aload_n 9 C dX6_append_9 1 rfl ?_
    refine z_iconst 10 C dX6_append_10 (nI 0) rfl ?_
    refine z_aload_n 11 C dX6_append_11 0 rfl ?_
    refine z_getf 12 C 32 z_dX6 (⟨rfl, rfl⟩) 0 (by decide) q198 (.ref (z_ad G 33)) rfl dX6_append_12 ?_
    refine z_aload_n 15 C dX6_append_15 0 rfl ?_
    refine z_getf 16 C 32 z_dX6 (⟨rfl, rfl⟩) 5 (by decide) q208 (.int (nI w)) (z_ci hw) dX6_append_16 ?_
    refine z_aaldN 19 C 33 (n := 6) ⟨Or.inr rfl, rfl⟩ w (34 + w) rfl (by omega) (by decide) rfl dX6_append_19 ?_
    refine z_iconst 20 C dX6_append_20 (nI 0) rfl ?_
    refine z_bipush 21 C dX6_append_21 (nI 24) rfl ?_
    refine z_cpyl 23 C r (34 + w) (n0 := 24) (n1 := 24) (hr) (z_trK _ (by omega)) q753 0 0 24 rfl rfl rfl (by omega) (by omega) (by decide) (by decide) (Nat.le_of_ble_eq_true rfl) (Nat.le_of_ble_eq_true rfl) dX6_append_23 ?_
    refine z_aload_n 26 C dX6_append_26 0 rfl ?_
    refine z_getf 27 C 32 z_dX6 (⟨rfl, rfl⟩) 1 (by decide) q200 (.ref (z_ad G 40)) rfl dX6_append_27 ?_
    refine z_aload_n 30 C dX6_append_30 0 rfl ?_
    refine z_getf 31 C 32 z_dX6 (⟨rfl, rfl⟩) 5 (by decide) q208 (.int (nI w)) (z_ci hw) dX6_append_31 ?_
    refine z_iload_n 34 C dX6_append_34 2 rfl ?_
    refine z_iastN 35 C 40 (n := 6) (⟨rfl, rfl⟩) w rfl (by omega) (by decide) dX6_append_35 ?_
    refine z_aload_n 36 C dX6_append_36 0 rfl ?_
    refine z_getf 37 C 32 z_dX6 (⟨rfl, rfl⟩) 2 (by decide) q202 (.ref (z_ad G 41)) rfl dX6_append_37 ?_
    refine z_aload_n 40 C dX6_append_40 0 rfl ?_
    refine z_getf 41 C 32 z_dX6 (⟨rfl, rfl⟩) 5 (by decide) q208 (.int (nI w)) (z_ci hw) dX6_append_41 ?_
    refine z_aload_n 44 C dX6_append_44 1 rfl ?_
    refine z_iconst 45 C dX6_append_45 (nI 1) rfl ?_
    refine z_iconst 46 C dX6_append_46 (nI 0) rfl ?_
    refine z_callSN 47 C (As := [.ref (z_ad G r), .int (nI 1), .int (nI 0)]) (rest := [.int (nI w), .ref (z_ad G 41)]) (m_X7_coefficient (σ := z_ui (z_uL σ (34 + w) (va_cpy (σ.2 r) (σ.2 (34 + w)) 0 0 24)) 40 w x) r 1 0 (hr) (by omega) (by omega)) k_X7_coefficient (List.mem_of_getElem? (i := 41) rfl) ⟨rfl, rfl⟩ ⟨Nat.le_of_ble_eq_true rfl, Nat.le_of_ble_eq_true rfl⟩ rfl (Nat.le_of_ble_eq_true rfl) ⟨Nat.le_of_ble_eq_true rfl, Nat.le_of_ble_eq_true rfl⟩ rfl dX6_append_47 (z_k1 ?_)
    refine z_cv (lv1 := [(0, .ref (z_ad G 32)), (1, .ref (z_ad G r)), (2, .int x)]) (st1 := [.long (z_cf (σ.2 r) 0 1), .int (nI w), .ref (z_ad G 41)]) (σ1 := z_ui (z_uL σ (34 + w) (va_cpy (σ.2 r) (σ.2 (34 + w)) 0 0 24)) 40 w x) rfl (by rw [z_ui2, z_uL2n hne]) rfl ?_
    refine z_lastN 50 C 41 (n := 6) (⟨rfl, rfl⟩) w rfl (by omega) (by decide) dX6_append_50 ?_
    refine z_aload_n 51 C dX6_append_51 0 rfl ?_
    refine z_getf 52 C 32 z_dX6 (⟨rfl, rfl⟩) 3 (by decide) q204 (.ref (z_ad G 42)) rfl dX6_append_52 ?_
    refine z_aload_n 55 C dX6_append_55 0 rfl ?_
    refine z_getf 56 C 32 z_dX6 (⟨rfl, rfl⟩) 5 (by decide) q208 (.int (nI w)) (z_ci hw) dX6_append_56 ?_
    refine z_aload_n 59 C dX6_append_59 1 rfl ?_
    refine z_iconst 60 C dX6_append_60 (nI 1) rfl ?_
    refine z_iconst 61 C dX6_append_61 (nI 1) rfl ?_
    refine z_callSN 62 C (As := [.ref (z_ad G r), .int (nI 1), .int (nI 1)]) (rest := [.int (nI w), .ref (z_ad G 42)]) (m_X7_coefficient (σ := z_ul (z_ui (z_uL σ (34 + w) (va_cpy (σ.2 r) (σ.2 (34 + w)) 0 0 24)) 40 w x) 41 w (z_cf (σ.2 r) 0 1)) r 1 1 (hr) (by omega) (by omega)) k_X7_coefficient (List.mem_of_getElem? (i := 41) rfl) ⟨rfl, rfl⟩ ⟨Nat.le_of_ble_eq_true rfl, Nat.le_of_ble_eq_true rfl⟩ rfl (Nat.le_of_ble_eq_true rfl) ⟨Nat.le_of_ble_eq_true rfl, Nat.le_of_ble_eq_true rfl⟩ rfl dX6_append_62 (z_k1 ?_)
    refine z_cv (lv1 := [(0, .ref (z_ad G 32)), (1, .ref (z_ad G r)), (2, .int x)]) (st1 := [.long (z_cf (σ.2 r) 1 1), .int (nI w), .ref (z_ad G 42)]) (σ1 := z_ul (z_ui (z_uL σ (34 + w) (va_cpy (σ.2 r) (σ.2 (34 + w)) 0 0 24)) 40 w x) 41 w (z_cf (σ.2 r) 0 1)) rfl (by rw [z_ul2n (z_ne24 hr).1, z_ui2, z_uL2n hne]) rfl ?_
    refine z_lastN 65 C 42 (n := 6) (⟨rfl, rfl⟩) w rfl (by omega) (by decide) dX6_append_65 ?_
    refine z_aload_n 66 C dX6_append_66 0 rfl ?_
    refine z_getf 67 C 32 z_dX6 (⟨rfl, rfl⟩) 4 (by decide) q206 (.ref (z_ad G 43)) rfl dX6_append_67 ?_
    refine z_aload_n 70 C dX6_append_70 0 rfl ?_
    refine z_getf 71 C 32 z_dX6 (⟨rfl, rfl⟩) 5 (by decide) q208 (.int (nI w)) (z_ci hw) dX6_append_71 ?_
    refine z_aload_n 74 C dX6_append_74 1 rfl ?_
    refine z_iconst 75 C dX6_append_75 (nI 0) rfl ?_
    refine z_iconst 76 C dX6_append_76 (nI 0) rfl ?_
    refine z_callSN 77 C (As := [.ref (z_ad G r), .int (nI 0), .int (nI 0)]) (rest := [.int (nI w), .ref (z_ad G 43)]) (m_X7_coefficient (σ := z_ul (z_ul (z_ui (z_uL σ (34 + w) (va_cpy (σ.2 r) (σ.2 (34 + w)) 0 0 24)) 40 w x) 41 w (z_cf (σ.2 r) 0 1)) 42 w (z_cf (σ.2 r) 1 1)) r 0 0 (hr) (by omega) (by omega)) k_X7_coefficient (List.mem_of_getElem? (i := 41) rfl) ⟨rfl, rfl⟩ ⟨Nat.le_of_ble_eq_true rfl, Nat.le_of_ble_eq_true rfl⟩ rfl (Nat.le_of_ble_eq_true rfl) ⟨Nat.le_of_ble_eq_true rfl, Nat.le_of_ble_eq_true rfl⟩ rfl dX6_append_77 (z_k1 ?_)
    refine z_cv (lv1 := [(0, .ref (z_ad G 32)), (1, .ref (z_ad G r)), (2, .int x)]) (st1 := [.long (z_cf (σ.2 r) 0 0), .int (nI w), .ref (z_ad G 43)]) (σ1 := z_ul (z_ul (z_ui (z_uL σ (34 + w) (va_cpy (σ.2 r) (σ.2 (34 + w)) 0 0 24)) 40 w x) 41 w (z_cf (σ.2 r) 0 1)) 42 w (z_cf (σ.2 r) 1 1)) rfl (by rw [z_ul2n (z_ne24 hr).2.1, z_ul2n (z_ne24 hr).1, z_ui2, z_uL2n hne]) rfl ?_
    refine z_lastN 80 C 43 (n := 6) (⟨rfl, rfl⟩) w rfl (by omega) (by decide) dX6_append_80 ?_
    refine z_aload_n 81 C dX6_append_81 0 rfl ?_
    refine z_dup 82 C dX6_append_82 rfl ?_
    refine z_getf 83 C 32 z_dX6 (⟨rfl, rfl⟩) 5 (by decide) q208 (.int (nI w)) (z_ci hw) dX6_append_83 ?_
    refine z_iconst 86 C dX6_append_86 (nI 1) rfl ?_
    refine z_iaddN 87 C w 1 rfl rfl dX6_append_87 ?_
    refine z_puti 88 C 32 z_dX6 (⟨rfl, rfl⟩) 5 (by decide) q208 rfl (rfl) rfl ⟨Nat.le_of_ble_eq_true rfl, rfl⟩ dX6_append_88 ?_
    refine z_vret 91 C dX6_append_91 ?_
    exact ⟨rfl, rfl⟩
theorem dX6_axisAt_0 : decode cX6_axisAt 0 = .ok (.iload_n 2, 1) := by decide +kernel
theorem dX6_axisAt_1 : decode cX6_axisAt 1 = .ok (.ifCond .eq 10, 3) := by decide +kernel
theorem dX6_axisAt_4 : decode cX6_axisAt 4 = .ok (.aload_n 0, 1) := by decide +kernel
theorem dX6_axisAt_5 : decode cX6_axisAt 5 = .ok (.getfield 24, 3) := by decide +kernel
theorem dX6_axisAt_8 : decode cX6_axisAt 8 = .ok (.goto 7, 3) := by decide +kernel
theorem dX6_axisAt_11 : decode cX6_axisAt 11 = .ok (.aload_n 0, 1) := by decide +kernel
theorem dX6_axisAt_12 : decode cX6_axisAt 12 = .ok (.getfield 20, 3) := by decide +kernel
theorem dX6_axisAt_15 : decode cX6_axisAt 15 = .ok (.astore_n 3, 1) := by decide +kernel
theorem dX6_axisAt_16 : decode cX6_axisAt 16 = .ok (.lconst 0, 1) := by decide +kernel
theorem dX6_axisAt_17 : decode cX6_axisAt 17 = .ok (.lstore 4, 2) := by decide +kernel
theorem dX6_axisAt_19 : decode cX6_axisAt 19 = .ok (.lconst 0, 1) := by decide +kernel
theorem dX6_axisAt_20 : decode cX6_axisAt 20 = .ok (.lstore 6, 2) := by decide +kernel
theorem dX6_axisAt_22 : decode cX6_axisAt 22 = .ok (.lconst 0, 1) := by decide +kernel
theorem dX6_axisAt_23 : decode cX6_axisAt 23 = .ok (.lstore 8, 2) := by decide +kernel
theorem dX6_axisAt_25 : decode cX6_axisAt 25 = .ok (.lconst 0, 1) := by decide +kernel
theorem dX6_axisAt_26 : decode cX6_axisAt 26 = .ok (.lstore 10, 2) := by decide +kernel
theorem dX6_axisAt_28 : decode cX6_axisAt 28 = .ok (.iconst 0, 1) := by decide +kernel
theorem dX6_axisAt_29 : decode cX6_axisAt 29 = .ok (.istore 12, 2) := by decide +kernel
theorem dX6_axisAt_31 : decode cX6_axisAt 31 = .ok (.iload 12, 2) := by decide +kernel
theorem dX6_axisAt_33 : decode cX6_axisAt 33 = .ok (.aload_n 0, 1) := by decide +kernel
theorem dX6_axisAt_34 : decode cX6_axisAt 34 = .ok (.getfield 30, 3) := by decide +kernel
theorem dX6_axisAt_37 : decode cX6_axisAt 37 = .ok (.if_icmp .ge 57, 3) := by decide +kernel
theorem dX6_axisAt_40 : decode cX6_axisAt 40 = .ok (.aload_n 0, 1) := by decide +kernel
theorem dX6_axisAt_41 : decode cX6_axisAt 41 = .ok (.getfield 16, 3) := by decide +kernel
theorem dX6_axisAt_44 : decode cX6_axisAt 44 = .ok (.iload 12, 2) := by decide +kernel
theorem dX6_axisAt_46 : decode cX6_axisAt 46 = .ok (.iaload, 1) := by decide +kernel
theorem dX6_axisAt_47 : decode cX6_axisAt 47 = .ok (.i2l, 1) := by decide +kernel
theorem dX6_axisAt_48 : decode cX6_axisAt 48 = .ok (.lstore 13, 2) := by decide +kernel
theorem dX6_axisAt_50 : decode cX6_axisAt 50 = .ok (.lload 4, 2) := by decide +kernel
theorem dX6_axisAt_52 : decode cX6_axisAt 52 = .ok (.lload 13, 2) := by decide +kernel
theorem dX6_axisAt_54 : decode cX6_axisAt 54 = .ok (.ladd, 1) := by decide +kernel
theorem dX6_axisAt_55 : decode cX6_axisAt 55 = .ok (.lstore 4, 2) := by decide +kernel
theorem dX6_axisAt_57 : decode cX6_axisAt 57 = .ok (.lload 6, 2) := by decide +kernel
theorem dX6_axisAt_59 : decode cX6_axisAt 59 = .ok (.lload 13, 2) := by decide +kernel
theorem dX6_axisAt_61 : decode cX6_axisAt 61 = .ok (.lload 13, 2) := by decide +kernel
theorem dX6_axisAt_63 : decode cX6_axisAt 63 = .ok (.lmul, 1) := by decide +kernel
theorem dX6_axisAt_64 : decode cX6_axisAt 64 = .ok (.ladd, 1) := by decide +kernel
theorem dX6_axisAt_65 : decode cX6_axisAt 65 = .ok (.lstore 6, 2) := by decide +kernel
theorem dX6_axisAt_67 : decode cX6_axisAt 67 = .ok (.lload 8, 2) := by decide +kernel
theorem dX6_axisAt_69 : decode cX6_axisAt 69 = .ok (.aload_n 3, 1) := by decide +kernel
theorem dX6_axisAt_70 : decode cX6_axisAt 70 = .ok (.iload 12, 2) := by decide +kernel
theorem dX6_axisAt_72 : decode cX6_axisAt 72 = .ok (.laload, 1) := by decide +kernel
theorem dX6_axisAt_73 : decode cX6_axisAt 73 = .ok (.ladd, 1) := by decide +kernel
theorem dX6_axisAt_74 : decode cX6_axisAt 74 = .ok (.lstore 8, 2) := by decide +kernel
theorem dX6_axisAt_76 : decode cX6_axisAt 76 = .ok (.lload 10, 2) := by decide +kernel
theorem dX6_axisAt_78 : decode cX6_axisAt 78 = .ok (.lload 13, 2) := by decide +kernel
theorem dX6_axisAt_80 : decode cX6_axisAt 80 = .ok (.aload_n 3, 1) := by decide +kernel
theorem dX6_axisAt_81 : decode cX6_axisAt 81 = .ok (.iload 12, 2) := by decide +kernel
theorem dX6_axisAt_83 : decode cX6_axisAt 83 = .ok (.laload, 1) := by decide +kernel
theorem dX6_axisAt_84 : decode cX6_axisAt 84 = .ok (.lmul, 1) := by decide +kernel
theorem dX6_axisAt_85 : decode cX6_axisAt 85 = .ok (.ladd, 1) := by decide +kernel
theorem dX6_axisAt_86 : decode cX6_axisAt 86 = .ok (.lstore 10, 2) := by decide +kernel
theorem dX6_axisAt_88 : decode cX6_axisAt 88 = .ok (.iinc 12 1, 3) := by decide +kernel
theorem dX6_axisAt_91 : decode cX6_axisAt 91 = .ok (.goto (-60), 3) := by decide +kernel
theorem dX6_axisAt_94 : decode cX6_axisAt 94 = .ok (.aload_n 0, 1) := by decide +kernel
theorem dX6_axisAt_95 : decode cX6_axisAt 95 = .ok (.getfield 30, 3) := by decide +kernel
theorem dX6_axisAt_98 : decode cX6_axisAt 98 = .ok (.i2l, 1) := by decide +kernel
theorem dX6_axisAt_99 : decode cX6_axisAt 99 = .ok (.lload 10, 2) := by decide +kernel
theorem dX6_axisAt_101 : decode cX6_axisAt 101 = .ok (.lmul, 1) := by decide +kernel
theorem dX6_axisAt_102 : decode cX6_axisAt 102 = .ok (.lload 4, 2) := by decide +kernel
theorem dX6_axisAt_104 : decode cX6_axisAt 104 = .ok (.lload 8, 2) := by decide +kernel
theorem dX6_axisAt_106 : decode cX6_axisAt 106 = .ok (.lmul, 1) := by decide +kernel
theorem dX6_axisAt_107 : decode cX6_axisAt 107 = .ok (.lsub, 1) := by decide +kernel
theorem dX6_axisAt_108 : decode cX6_axisAt 108 = .ok (.lstore 12, 2) := by decide +kernel
theorem dX6_axisAt_110 : decode cX6_axisAt 110 = .ok (.lload 6, 2) := by decide +kernel
theorem dX6_axisAt_112 : decode cX6_axisAt 112 = .ok (.lload 8, 2) := by decide +kernel
theorem dX6_axisAt_114 : decode cX6_axisAt 114 = .ok (.lmul, 1) := by decide +kernel
theorem dX6_axisAt_115 : decode cX6_axisAt 115 = .ok (.lload 4, 2) := by decide +kernel
theorem dX6_axisAt_117 : decode cX6_axisAt 117 = .ok (.lload 10, 2) := by decide +kernel
theorem dX6_axisAt_119 : decode cX6_axisAt 119 = .ok (.lmul, 1) := by decide +kernel
theorem dX6_axisAt_120 : decode cX6_axisAt 120 = .ok (.lsub, 1) := by decide +kernel
theorem dX6_axisAt_121 : decode cX6_axisAt 121 = .ok (.iload_n 1, 1) := by decide +kernel
theorem dX6_axisAt_122 : decode cX6_axisAt 122 = .ok (.i2l, 1) := by decide +kernel
theorem dX6_axisAt_123 : decode cX6_axisAt 123 = .ok (.lload 12, 2) := by decide +kernel
theorem dX6_axisAt_125 : decode cX6_axisAt 125 = .ok (.lmul, 1) := by decide +kernel
theorem dX6_axisAt_126 : decode cX6_axisAt 126 = .ok (.ladd, 1) := by decide +kernel
theorem dX6_axisAt_127 : decode cX6_axisAt 127 = .ok (.aload_n 0, 1) := by decide +kernel
theorem dX6_axisAt_128 : decode cX6_axisAt 128 = .ok (.getfield 30, 3) := by decide +kernel
theorem dX6_axisAt_131 : decode cX6_axisAt 131 = .ok (.i2l, 1) := by decide +kernel
theorem dX6_axisAt_132 : decode cX6_axisAt 132 = .ok (.lload 6, 2) := by decide +kernel
theorem dX6_axisAt_134 : decode cX6_axisAt 134 = .ok (.lmul, 1) := by decide +kernel
theorem dX6_axisAt_135 : decode cX6_axisAt 135 = .ok (.lload 4, 2) := by decide +kernel
theorem dX6_axisAt_137 : decode cX6_axisAt 137 = .ok (.lload 4, 2) := by decide +kernel
theorem dX6_axisAt_139 : decode cX6_axisAt 139 = .ok (.lmul, 1) := by decide +kernel
theorem dX6_axisAt_140 : decode cX6_axisAt 140 = .ok (.lsub, 1) := by decide +kernel
theorem dX6_axisAt_141 : decode cX6_axisAt 141 = .ok (.invokestatic 48, 3) := by decide +kernel
theorem dX6_axisAt_144 : decode cX6_axisAt 144 = .ok (.lreturn, 1) := by decide +kernel
set_option maxRecDepth 100000 in
set_option maxHeartbeats 4000000 in
theorem m_X6_axisAt {l : Launch} {G : z_Gl} {σ : z_St} (w : Nat) (hw : σ.1 32 5 = nI w) (hw6 : w ≤ 6) (x : Int32) (t : Nat) (ht : t < 2) (hpos : 0 < z_den (σ.1 40) w) : z_M l G yX6_axisAt cX6_axisAt 15 (some .long) (z_rm 2 48) [.ref (z_ad G 32), .int x, .int (nI t)] σ (z_p1 (.long (z_ax (σ.1 40) (σ.2 (41 + t)) w x)) σ) := by
  refine z_M.of (by decide) (Nat.le_of_ble_eq_true rfl) (fun p e s m below meth c C => ?_)
  refine z_sub [0, 1, 2] (lv1 := [(0, .ref (z_ad G 32)), (1, .int x), (2, .int (nI t))]) rfl ?_
  refine z_iload_n 0 C dX6_axisAt_0 2 rfl ?_
  refine z_if_eq 1 C 11 dX6_axisAt_1 (by decide) (fun c1 => ?_) (fun c1 => ?_)
  · skip
    have et : t = 0 := (z_nI0 (by omega)).mp c1
    subst et
    refine z_aload_n 11 C dX6_axisAt_11 0 rfl ?_
    refine z_getf 12 C 32 z_dX6 (⟨rfl, rfl⟩) 2 (by decide) q202 (.ref (z_ad G 41)) rfl dX6_axisAt_12 ?_
    refine z_astore_n 15 C dX6_axisAt_15 [(3, .ref (z_ad G 41)), (0, .ref (z_ad G 32)), (1, .int x), (2, .int (nI 0))] (by decide) rfl ?_
    refine z_lconst 16 C dX6_axisAt_16 0 rfl ?_
    refine z_lstore 17 C dX6_axisAt_17 [(4, .long 0), (3, .ref (z_ad G 41)), (0, .ref (z_ad G 32)), (1, .int x), (2, .int (nI 0))] (by decide) rfl ?_
    refine z_lconst 19 C dX6_axisAt_19 0 rfl ?_
    refine z_lstore 20 C dX6_axisAt_20 [(6, .long 0), (4, .long 0), (3, .ref (z_ad G 41)), (0, .ref (z_ad G 32)), (1, .int x), (2, .int (nI 0))] (by decide) rfl ?_
    refine z_lconst 22 C dX6_axisAt_22 0 rfl ?_
    refine z_lstore 23 C dX6_axisAt_23 [(8, .long 0), (6, .long 0), (4, .long 0), (3, .ref (z_ad G 41)), (0, .ref (z_ad G 32)), (1, .int x), (2, .int (nI 0))] (by decide) rfl ?_
    refine z_lconst 25 C dX6_axisAt_25 0 rfl ?_
    refine z_lstore 26 C dX6_axisAt_26 [(10, .long 0), (8, .long 0), (6, .long 0), (4, .long 0), (3, .ref (z_ad G 41)), (0, .ref (z_ad G 32)), (1, .int x), (2, .int (nI 0))] (by decide) rfl ?_
    refine z_iconst 28 C dX6_axisAt_28 (nI 0) rfl ?_
    refine z_istore 29 C dX6_axisAt_29 [(12, .int (nI 0)), (10, .long 0), (8, .long 0), (6, .long 0), (4, .long 0), (3, .ref (z_ad G 41)), (0, .ref (z_ad G 32)), (1, .int x), (2, .int (nI 0))] (by decide) rfl ?_
    refine z_sub [6, 7, 8, 5, 4, 3, 2, 1, 0] (lv1 := [(0, .ref (z_ad G 32)), (1, .int x), (2, .int (nI 0)), (3, .ref (z_ad G 41)), (4, .long 0), (6, .long 0), (8, .long 0), (10, .long 0), (12, .int (nI 0))]) rfl ?_
    refine z_cv (lv1 := [(0, .ref (z_ad G 32)), (1, .int x), (2, .int (nI 0)), (3, .ref (z_ad G 41)), (4, .long (z_hs (σ.1 40) 0)), (6, .long (z_hq (σ.1 40) 0)), (8, .long (z_xs (σ.2 41) 0)), (10, .long (z_hx (σ.1 40) (σ.2 41) 0)), (12, .int (nI 0))]) (st1 := []) (σ1 := σ) rfl rfl rfl ?_
    refine z_lp1 (fun (k : Nat) => k ≤ w) (fun (k : Nat) => w - k) (fun (k : Nat) => [(0, .ref (z_ad G 32)), (1, .int x), (2, .int (nI 0)), (3, .ref (z_ad G 41)), (4, .long (z_hs (σ.1 40) k)), (6, .long (z_hq (σ.1 40) k)), (8, .long (z_xs (σ.2 41) k)), (10, .long (z_hx (σ.1 40) (σ.2 41) k)), (12, .int (nI k))]) (fun (k : Nat) => σ) (fun k hi_31 ih_31 => ?_) 0 (by omega)
    try dsimp only
    refine z_iload 31 C dX6_axisAt_31 8 rfl ?_
    refine z_aload_n 33 C dX6_axisAt_33 0 rfl ?_
    refine z_getf 34 C 32 z_dX6 (⟨rfl, rfl⟩) 5 (by decide) q208 (.int (nI w)) (z_ci hw) dX6_axisAt_34 ?_
    refine z_icmp_geN 37 C k w rfl rfl (by omega) (by omega) 94 dX6_axisAt_37 (by decide) (fun c37 => ?_) (fun c37 => ?_)
    · skip
      have ek : w = k := by omega
      subst ek
      refine z_aload_n 94 C dX6_axisAt_94 0 rfl ?_
      refine z_getf 95 C 32 z_dX6 (⟨rfl, rfl⟩) 5 (by decide) q208 (.int (nI w)) (z_ci hw) dX6_axisAt_95 ?_
      refine z_i2l 98 C dX6_axisAt_98 ?_
      refine z_cv (lv1 := [(0, .ref (z_ad G 32)), (1, .int x), (2, .int (nI 0)), (3, .ref (z_ad G 41)), (4, .long (z_hs (σ.1 40) w)), (6, .long (z_hq (σ.1 40) w)), (8, .long (z_xs (σ.2 41) w)), (10, .long (z_hx (σ.1 40) (σ.2 41) w)), (12, .int (nI w))]) (st1 := [.long (lN w)]) (σ1 := σ) rfl (by rw [nI_l (by omega)]) rfl ?_
      refine z_lload 99 C dX6_axisAt_99 7 rfl ?_
      refine z_lmul 101 C dX6_axisAt_101 ?_
      refine z_lload 102 C dX6_axisAt_102 4 rfl ?_
      refine z_lload 104 C dX6_axisAt_104 6 rfl ?_
      refine z_lmul 106 C dX6_axisAt_106 ?_
      refine z_lsub 107 C dX6_axisAt_107 ?_
      refine z_lstore 108 C dX6_axisAt_108 [(12, .long (((lN w) * (z_hx (σ.1 40) (σ.2 41) w)) - ((z_hs (σ.1 40) w) * (z_xs (σ.2 41) w)))), (0, .ref (z_ad G 32)), (1, .int x), (2, .int (nI 0)), (3, .ref (z_ad G 41)), (4, .long (z_hs (σ.1 40) w)), (6, .long (z_hq (σ.1 40) w)), (8, .long (z_xs (σ.2 41) w)), (10, .long (z_hx (σ.1 40) (σ.2 41) w))] (by decide) rfl ?_
      refine z_lload 110 C dX6_axisAt_110 6 rfl ?_
      refine z_lload 112 C dX6_axisAt_112 7 rfl ?_
      refine z_lmul 114 C dX6_axisAt_114 ?_
      refine z_lload 115 C dX6_axisAt_115 5 rfl ?_
      refine z_lload 117 C dX6_axisAt_117 8 rfl ?_
      refine z_lmul 119 C dX6_axisAt_119 ?_
      refine z_lsub 120 C dX6_axisAt_120 ?_
      refine z_iload_n 121 C dX6_axisAt_121 2 rfl ?_
      refine z_i2l 122 C dX6_axisAt_122 ?_
      refine z_lload 123 C dX6_axisAt_123 0 rfl ?_
      refine z_lmul 125 C dX6_axisAt_125 ?_
      refine z_ladd 126 C dX6_axisAt_126 ?_
      refine z_aload_n 127 C dX6_axisAt_127 1 rfl ?_
      refine z_getf 128 C 32 z_dX6 (⟨rfl, rfl⟩) 5 (by decide) q208 (.int (nI w)) (z_ci hw) dX6_axisAt_128 ?_
      refine z_i2l 131 C dX6_axisAt_131 ?_
      refine z_cv (lv1 := [(12, .long (((lN w) * (z_hx (σ.1 40) (σ.2 41) w)) - ((z_hs (σ.1 40) w) * (z_xs (σ.2 41) w)))), (0, .ref (z_ad G 32)), (1, .int x), (2, .int (nI 0)), (3, .ref (z_ad G 41)), (4, .long (z_hs (σ.1 40) w)), (6, .long (z_hq (σ.1 40) w)), (8, .long (z_xs (σ.2 41) w)), (10, .long (z_hx (σ.1 40) (σ.2 41) w))]) (st1 := [.long (lN w), .long ((((z_hq (σ.1 40) w) * (z_xs (σ.2 41) w)) - ((z_hs (σ.1 40) w) * (z_hx (σ.1 40) (σ.2 41) w))) + ((Int32.toInt64 x) * (((lN w) * (z_hx (σ.1 40) (σ.2 41) w)) - ((z_hs (σ.1 40) w) * (z_xs (σ.2 41) w)))))]) (σ1 := σ) rfl (by rw [nI_l (by omega)]) rfl ?_
      refine z_lload 132 C dX6_axisAt_132 6 rfl ?_
      refine z_lmul 134 C dX6_axisAt_134 ?_
      refine z_lload 135 C dX6_axisAt_135 5 rfl ?_
      refine z_lload 137 C dX6_axisAt_137 5 rfl ?_
      refine z_lmul 139 C dX6_axisAt_139 ?_
      refine z_lsub 140 C dX6_axisAt_140 ?_
      refine z_callSN 141 C (As := [.long ((((z_hq (σ.1 40) w) * (z_xs (σ.2 41) w)) - ((z_hs (σ.1 40) w) * (z_hx (σ.1 40) (σ.2 41) w))) + ((Int32.toInt64 x) * (((lN w) * (z_hx (σ.1 40) (σ.2 41) w)) - ((z_hs (σ.1 40) w) * (z_xs (σ.2 41) w))))), .long (((lN w) * (z_hq (σ.1 40) w)) - ((z_hs (σ.1 40) w) * (z_hs (σ.1 40) w)))]) (rest := []) (m_X7_divide ((((z_hq (σ.1 40) w) * (z_xs (σ.2 41) w)) - ((z_hs (σ.1 40) w) * (z_hx (σ.1 40) (σ.2 41) w))) + ((Int32.toInt64 x) * (((lN w) * (z_hx (σ.1 40) (σ.2 41) w)) - ((z_hs (σ.1 40) w) * (z_xs (σ.2 41) w))))) (((lN w) * (z_hq (σ.1 40) w)) - ((z_hs (σ.1 40) w) * (z_hs (σ.1 40) w))) (hpos)) k_X7_divide (List.mem_of_getElem? (i := 45) rfl) ⟨rfl, rfl⟩ ⟨Nat.le_of_ble_eq_true rfl, Nat.le_of_ble_eq_true rfl⟩ rfl (Nat.le_of_ble_eq_true rfl) ⟨Nat.le_of_ble_eq_true rfl, Nat.le_of_ble_eq_true rfl⟩ rfl dX6_axisAt_141 (z_k1 ?_)
      refine z_lret 144 C dX6_axisAt_144 ?_
      exact ⟨rfl, rfl⟩
    · skip
      refine z_aload_n 40 C dX6_axisAt_40 0 rfl ?_
      refine z_getf 41 C 32 z_dX6 (⟨rfl, rfl⟩) 1 (by decide) q200 (.ref (z_ad G 40)) rfl dX6_axisAt_41 ?_
      refine z_iload 44 C dX6_axisAt_44 8 rfl ?_
      refine z_ialdN 46 C 40 (n := 6) (⟨rfl, rfl⟩) k rfl (by omega) (by decide) dX6_axisAt_46 ?_
      refine z_i2l 47 C dX6_axisAt_47 ?_
      refine z_lstore 48 C dX6_axisAt_48 [(13, .long (Int32.toInt64 (σ.1 40 k))), (0, .ref (z_ad G 32)), (1, .int x), (2, .int (nI 0)), (3, .ref (z_ad G 41)), (4, .long (z_hs (σ.1 40) k)), (6, .long (z_hq (σ.1 40) k)), (8, .long (z_xs (σ.2 41) k)), (10, .long (z_hx (σ.1 40) (σ.2 41) k)), (12, .int (nI k))] (by decide) rfl ?_
      refine z_lload 50 C dX6_axisAt_50 5 rfl ?_
      refine z_lload 52 C dX6_axisAt_52 0 rfl ?_
      refine z_ladd 54 C dX6_axisAt_54 ?_
      refine z_lstore 55 C dX6_axisAt_55 [(4, .long ((z_hs (σ.1 40) k) + (Int32.toInt64 (σ.1 40 k)))), (13, .long (Int32.toInt64 (σ.1 40 k))), (0, .ref (z_ad G 32)), (1, .int x), (2, .int (nI 0)), (3, .ref (z_ad G 41)), (6, .long (z_hq (σ.1 40) k)), (8, .long (z_xs (σ.2 41) k)), (10, .long (z_hx (σ.1 40) (σ.2 41) k)), (12, .int (nI k))] (by decide) rfl ?_
      refine z_lload 57 C dX6_axisAt_57 6 rfl ?_
      refine z_lload 59 C dX6_axisAt_59 1 rfl ?_
      refine z_lload 61 C dX6_axisAt_61 1 rfl ?_
      refine z_lmul 63 C dX6_axisAt_63 ?_
      refine z_ladd 64 C dX6_axisAt_64 ?_
      refine z_lstore 65 C dX6_axisAt_65 [(6, .long ((z_hq (σ.1 40) k) + ((Int32.toInt64 (σ.1 40 k)) * (Int32.toInt64 (σ.1 40 k))))), (4, .long ((z_hs (σ.1 40) k) + (Int32.toInt64 (σ.1 40 k)))), (13, .long (Int32.toInt64 (σ.1 40 k))), (0, .ref (z_ad G 32)), (1, .int x), (2, .int (nI 0)), (3, .ref (z_ad G 41)), (8, .long (z_xs (σ.2 41) k)), (10, .long (z_hx (σ.1 40) (σ.2 41) k)), (12, .int (nI k))] (by decide) rfl ?_
      refine z_lload 67 C dX6_axisAt_67 7 rfl ?_
      refine z_aload_n 69 C dX6_axisAt_69 6 rfl ?_
      refine z_iload 70 C dX6_axisAt_70 9 rfl ?_
      refine z_laldN 72 C 41 (n := 6) (⟨rfl, rfl⟩) k rfl (by omega) (by decide) dX6_axisAt_72 ?_
      refine z_ladd 73 C dX6_axisAt_73 ?_
      refine z_lstore 74 C dX6_axisAt_74 [(8, .long ((z_xs (σ.2 41) k) + (σ.2 41 k))), (6, .long ((z_hq (σ.1 40) k) + ((Int32.toInt64 (σ.1 40 k)) * (Int32.toInt64 (σ.1 40 k))))), (4, .long ((z_hs (σ.1 40) k) + (Int32.toInt64 (σ.1 40 k)))), (13, .long (Int32.toInt64 (σ.1 40 k))), (0, .ref (z_ad G 32)), (1, .int x), (2, .int (nI 0)), (3, .ref (z_ad G 41)), (10, .long (z_hx (σ.1 40) (σ.2 41) k)), (12, .int (nI k))] (by decide) rfl ?_
      refine z_lload 76 C dX6_axisAt_76 8 rfl ?_
      refine z_lload 78 C dX6_axisAt_78 3 rfl ?_
      refine z_aload_n 80 C dX6_axisAt_80 7 rfl ?_
      refine z_iload 81 C dX6_axisAt_81 9 rfl ?_
      refine z_laldN 83 C 41 (n := 6) (⟨rfl, rfl⟩) k rfl (by omega) (by decide) dX6_axisAt_83 ?_
      refine z_lmul 84 C dX6_axisAt_84 ?_
      refine z_ladd 85 C dX6_axisAt_85 ?_
      refine z_lstore 86 C dX6_axisAt_86 [(10, .long ((z_hx (σ.1 40) (σ.2 41) k) + ((Int32.toInt64 (σ.1 40 k)) * (σ.2 41 k)))), (8, .long ((z_xs (σ.2 41) k) + (σ.2 41 k))), (6, .long ((z_hq (σ.1 40) k) + ((Int32.toInt64 (σ.1 40 k)) * (Int32.toInt64 (σ.1 40 k))))), (4, .long ((z_hs (σ.1 40) k) + (Int32.toInt64 (σ.1 40 k)))), (13, .long (Int32.toInt64 (σ.1 40 k))), (0, .ref (z_ad G 32)), (1, .int x), (2, .int (nI 0)), (3, .ref (z_ad G 41)), (12, .int (nI k))] (by decide) rfl ?_
      refine z_iincN 88 C 9 k [(12, .int (nI (k + 1))), (10, .long ((z_hx (σ.1 40) (σ.2 41) k) + ((Int32.toInt64 (σ.1 40 k)) * (σ.2 41 k)))), (8, .long ((z_xs (σ.2 41) k) + (σ.2 41 k))), (6, .long ((z_hq (σ.1 40) k) + ((Int32.toInt64 (σ.1 40 k)) * (Int32.toInt64 (σ.1 40 k))))), (4, .long ((z_hs (σ.1 40) k) + (Int32.toInt64 (σ.1 40 k)))), (13, .long (Int32.toInt64 (σ.1 40 k))), (0, .ref (z_ad G 32)), (1, .int x), (2, .int (nI 0)), (3, .ref (z_ad G 41))] rfl rfl (by decide) rfl dX6_axisAt_88 ?_
      refine z_goto 91 C 31 dX6_axisAt_91 (by decide) ?_
      refine z_sub [6, 7, 8, 9, 4, 3, 2, 1, 0] (lv1 := [(0, .ref (z_ad G 32)), (1, .int x), (2, .int (nI 0)), (3, .ref (z_ad G 41)), (4, .long ((z_hs (σ.1 40) k) + (Int32.toInt64 (σ.1 40 k)))), (6, .long ((z_hq (σ.1 40) k) + ((Int32.toInt64 (σ.1 40 k)) * (Int32.toInt64 (σ.1 40 k))))), (8, .long ((z_xs (σ.2 41) k) + (σ.2 41 k))), (10, .long ((z_hx (σ.1 40) (σ.2 41) k) + ((Int32.toInt64 (σ.1 40 k)) * (σ.2 41 k)))), (12, .int (nI (k + 1)))]) rfl ?_
      refine z_cv (lv1 := [(0, .ref (z_ad G 32)), (1, .int x), (2, .int (nI 0)), (3, .ref (z_ad G 41)), (4, .long (z_hs (σ.1 40) (k + 1))), (6, .long (z_hq (σ.1 40) (k + 1))), (8, .long (z_xs (σ.2 41) (k + 1))), (10, .long (z_hx (σ.1 40) (σ.2 41) (k + 1))), (12, .int (nI (k + 1)))]) (st1 := []) (σ1 := σ) rfl rfl rfl ?_
      exact ih_31 (k + 1) (by omega) (by omega)
  · skip
    have et : t = 1 := by
      have : ¬ t = 0 := fun z => c1 ((z_nI0 (t := t) (by omega)).mpr z)
      omega
    subst et
    refine z_aload_n 4 C dX6_axisAt_4 0 rfl ?_
    refine z_getf 5 C 32 z_dX6 (⟨rfl, rfl⟩) 3 (by decide) q204 (.ref (z_ad G 42)) rfl dX6_axisAt_5 ?_
    refine z_goto 8 C 15 dX6_axisAt_8 (by decide) ?_
    refine z_astore_n 15 C dX6_axisAt_15 [(3, .ref (z_ad G 42)), (0, .ref (z_ad G 32)), (1, .int x), (2, .int (nI 1))] (by decide) rfl ?_
    refine z_lconst 16 C dX6_axisAt_16 0 rfl ?_
    refine z_lstore 17 C dX6_axisAt_17 [(4, .long 0), (3, .ref (z_ad G 42)), (0, .ref (z_ad G 32)), (1, .int x), (2, .int (nI 1))] (by decide) rfl ?_
    refine z_lconst 19 C dX6_axisAt_19 0 rfl ?_
    refine z_lstore 20 C dX6_axisAt_20 [(6, .long 0), (4, .long 0), (3, .ref (z_ad G 42)), (0, .ref (z_ad G 32)), (1, .int x), (2, .int (nI 1))] (by decide) rfl ?_
    refine z_lconst 22 C dX6_axisAt_22 0 rfl ?_
    refine z_lstore 23 C dX6_axisAt_23 [(8, .long 0), (6, .long 0), (4, .long 0), (3, .ref (z_ad G 42)), (0, .ref (z_ad G 32)), (1, .int x), (2, .int (nI 1))] (by decide) rfl ?_
    refine z_lconst 25 C dX6_axisAt_25 0 rfl ?_
    refine z_lstore 26 C dX6_axisAt_26 [(10, .long 0), (8, .long 0), (6, .long 0), (4, .long 0), (3, .ref (z_ad G 42)), (0, .ref (z_ad G 32)), (1, .int x), (2, .int (nI 1))] (by decide) rfl ?_
    refine z_iconst 28 C dX6_axisAt_28 (nI 0) rfl ?_
    refine z_istore 29 C dX6_axisAt_29 [(12, .int (nI 0)), (10, .long 0), (8, .long 0), (6, .long 0), (4, .long 0), (3, .ref (z_ad G 42)), (0, .ref (z_ad G 32)), (1, .int x), (2, .int (nI 1))] (by decide) rfl ?_
    refine z_sub [6, 7, 8, 5, 4, 3, 2, 1, 0] (lv1 := [(0, .ref (z_ad G 32)), (1, .int x), (2, .int (nI 1)), (3, .ref (z_ad G 42)), (4, .long 0), (6, .long 0), (8, .long 0), (10, .long 0), (12, .int (nI 0))]) rfl ?_
    refine z_cv (lv1 := [(0, .ref (z_ad G 32)), (1, .int x), (2, .int (nI 1)), (3, .ref (z_ad G 42)), (4, .long (z_hs (σ.1 40) 0)), (6, .long (z_hq (σ.1 40) 0)), (8, .long (z_xs (σ.2 42) 0)), (10, .long (z_hx (σ.1 40) (σ.2 42) 0)), (12, .int (nI 0))]) (st1 := []) (σ1 := σ) rfl rfl rfl ?_
    refine z_lp1 (fun (k : Nat) => k ≤ w) (fun (k : Nat) => w - k) (fun (k : Nat) => [(0, .ref (z_ad G 32)), (1, .int x), (2, .int (nI 1)), (3, .ref (z_ad G 42)), (4, .long (z_hs (σ.1 40) k)), (6, .long (z_hq (σ.1 40) k)), (8, .long (z_xs (σ.2 42) k)), (10, .long (z_hx (σ.1 40) (σ.2 42) k)), (12, .int (nI k))]) (fun (k : Nat) => σ) (fun k hi_31 ih_31 => ?_) 0 (by omega)
    try dsimp only
    refine z_iload 31 C dX6_axisAt_31 8 rfl ?_
    refine z_aload_n 33 C dX6_axisAt_33 0 rfl ?_
    refine z_getf 34 C 32 z_dX6 (⟨rfl, rfl⟩) 5 (by decide) q208 (.int (nI w)) (z_ci hw) dX6_axisAt_34 ?_
    refine z_icmp_geN 37 C k w rfl rfl (by omega) (by omega) 94 dX6_axisAt_37 (by decide) (fun c37 => ?_) (fun c37 => ?_)
    · skip
      have ek : w = k := by omega
      subst ek
      refine z_aload_n 94 C dX6_axisAt_94 0 rfl ?_
      refine z_getf 95 C 32 z_dX6 (⟨rfl, rfl⟩) 5 (by decide) q208 (.int (nI w)) (z_ci hw) dX6_axisAt_95 ?_
      refine z_i2l 98 C dX6_axisAt_98 ?_
      refine z_cv (lv1 := [(0, .ref (z_ad G 32)), (1, .int x), (2, .int (nI 1)), (3, .ref (z_ad G 42)), (4, .long (z_hs (σ.1 40) w)), (6, .long (z_hq (σ.1 40) w)), (8, .long (z_xs (σ.2 42) w)), (10, .long (z_hx (σ.1 40) (σ.2 42) w)), (12, .int (nI w))]) (st1 := [.long (lN w)]) (σ1 := σ) rfl (by rw [nI_l (by omega)]) rfl ?_
      refine z_lload 99 C dX6_axisAt_99 7 rfl ?_
      refine z_lmul 101 C dX6_axisAt_101 ?_
      refine z_lload 102 C dX6_axisAt_102 4 rfl ?_
      refine z_lload 104 C dX6_axisAt_104 6 rfl ?_
      refine z_lmul 106 C dX6_axisAt_106 ?_
      refine z_lsub 107 C dX6_axisAt_107 ?_
      refine z_lstore 108 C dX6_axisAt_108 [(12, .long (((lN w) * (z_hx (σ.1 40) (σ.2 42) w)) - ((z_hs (σ.1 40) w) * (z_xs (σ.2 42) w)))), (0, .ref (z_ad G 32)), (1, .int x), (2, .int (nI 1)), (3, .ref (z_ad G 42)), (4, .long (z_hs (σ.1 40) w)), (6, .long (z_hq (σ.1 40) w)), (8, .long (z_xs (σ.2 42) w)), (10, .long (z_hx (σ.1 40) (σ.2 42) w))] (by decide) rfl ?_
      refine z_lload 110 C dX6_axisAt_110 6 rfl ?_
      refine z_lload 112 C dX6_axisAt_112 7 rfl ?_
      refine z_lmul 114 C dX6_axisAt_114 ?_
      refine z_lload 115 C dX6_axisAt_115 5 rfl ?_
      refine z_lload 117 C dX6_axisAt_117 8 rfl ?_
      refine z_lmul 119 C dX6_axisAt_119 ?_
      refine z_lsub 120 C dX6_axisAt_120 ?_
      refine z_iload_n 121 C dX6_axisAt_121 2 rfl ?_
      refine z_i2l 122 C dX6_axisAt_122 ?_
      refine z_lload 123 C dX6_axisAt_123 0 rfl ?_
      refine z_lmul 125 C dX6_axisAt_125 ?_
      refine z_ladd 126 C dX6_axisAt_126 ?_
      refine z_aload_n 127 C dX6_axisAt_127 1 rfl ?_
      refine z_getf 128 C 32 z_dX6 (⟨rfl, rfl⟩) 5 (by decide) q208 (.int (nI w)) (z_ci hw) dX6_axisAt_128 ?_
      refine z_i2l 131 C dX6_axisAt_131 ?_
      refine z_cv (lv1 := [(12, .long (((lN w) * (z_hx (σ.1 40) (σ.2 42) w)) - ((z_hs (σ.1 40) w) * (z_xs (σ.2 42) w)))), (0, .ref (z_ad G 32)), (1, .int x), (2, .int (nI 1)), (3, .ref (z_ad G 42)), (4, .long (z_hs (σ.1 40) w)), (6, .long (z_hq (σ.1 40) w)), (8, .long (z_xs (σ.2 42) w)), (10, .long (z_hx (σ.1 40) (σ.2 42) w))]) (st1 := [.long (lN w), .long ((((z_hq (σ.1 40) w) * (z_xs (σ.2 42) w)) - ((z_hs (σ.1 40) w) * (z_hx (σ.1 40) (σ.2 42) w))) + ((Int32.toInt64 x) * (((lN w) * (z_hx (σ.1 40) (σ.2 42) w)) - ((z_hs (σ.1 40) w) * (z_xs (σ.2 42) w)))))]) (σ1 := σ) rfl (by rw [nI_l (by omega)]) rfl ?_
      refine z_lload 132 C dX6_axisAt_132 6 rfl ?_
      refine z_lmul 134 C dX6_axisAt_134 ?_
      refine z_lload 135 C dX6_axisAt_135 5 rfl ?_
      refine z_lload 137 C dX6_axisAt_137 5 rfl ?_
      refine z_lmul 139 C dX6_axisAt_139 ?_
      refine z_lsub 140 C dX6_axisAt_140 ?_
      refine z_callSN 141 C (As := [.long ((((z_hq (σ.1 40) w) * (z_xs (σ.2 42) w)) - ((z_hs (σ.1 40) w) * (z_hx (σ.1 40) (σ.2 42) w))) + ((Int32.toInt64 x) * (((lN w) * (z_hx (σ.1 40) (σ.2 42) w)) - ((z_hs (σ.1 40) w) * (z_xs (σ.2 42) w))))), .long (((lN w) * (z_hq (σ.1 40) w)) - ((z_hs (σ.1 40) w) * (z_hs (σ.1 40) w)))]) (rest := []) (m_X7_divide ((((z_hq (σ.1 40) w) * (z_xs (σ.2 42) w)) - ((z_hs (σ.1 40) w) * (z_hx (σ.1 40) (σ.2 42) w))) + ((Int32.toInt64 x) * (((lN w) * (z_hx (σ.1 40) (σ.2 42) w)) - ((z_hs (σ.1 40) w) * (z_xs (σ.2 42) w))))) (((lN w) * (z_hq (σ.1 40) w)) - ((z_hs (σ.1 40) w) * (z_hs (σ.1 40) w))) (hpos)) k_X7_divide (List.mem_of_getElem? (i := 45) rfl) ⟨rfl, rfl⟩ ⟨Nat.le_of_ble_eq_true rfl, Nat.le_of_ble_eq_true rfl⟩ rfl (Nat.le_of_ble_eq_true rfl) ⟨Nat.le_of_ble_eq_true rfl, Nat.le_of_ble_eq_true rfl⟩ rfl dX6_axisAt_141 (z_k1 ?_)
      refine z_lret 144 C dX6_axisAt_144 ?_
      exact ⟨rfl, rfl⟩
    · skip
      refine z_aload_n 40 C dX6_axisAt_40 0 rfl ?_
      refine z_getf 41 C 32 z_dX6 (⟨rfl, rfl⟩) 1 (by decide) q200 (.ref (z_ad G 40)) rfl dX6_axisAt_41 ?_
      refine z_iload 44 C dX6_axisAt_44 8 rfl ?_
      refine z_ialdN 46 C 40 (n := 6) (⟨rfl, rfl⟩) k rfl (by omega) (by decide) dX6_axisAt_46 ?_
      refine z_i2l 47 C dX6_axisAt_47 ?_
      refine z_lstore 48 C dX6_axisAt_48 [(13, .long (Int32.toInt64 (σ.1 40 k))), (0, .ref (z_ad G 32)), (1, .int x), (2, .int (nI 1)), (3, .ref (z_ad G 42)), (4, .long (z_hs (σ.1 40) k)), (6, .long (z_hq (σ.1 40) k)), (8, .long (z_xs (σ.2 42) k)), (10, .long (z_hx (σ.1 40) (σ.2 42) k)), (12, .int (nI k))] (by decide) rfl ?_
      refine z_lload 50 C dX6_axisAt_50 5 rfl ?_
      refine z_lload 52 C dX6_axisAt_52 0 rfl ?_
      refine z_ladd 54 C dX6_axisAt_54 ?_
      refine z_lstore 55 C dX6_axisAt_55 [(4, .long ((z_hs (σ.1 40) k) + (Int32.toInt64 (σ.1 40 k)))), (13, .long (Int32.toInt64 (σ.1 40 k))), (0, .ref (z_ad G 32)), (1, .int x), (2, .int (nI 1)), (3, .ref (z_ad G 42)), (6, .long (z_hq (σ.1 40) k)), (8, .long (z_xs (σ.2 42) k)), (10, .long (z_hx (σ.1 40) (σ.2 42) k)), (12, .int (nI k))] (by decide) rfl ?_
      refine z_lload 57 C dX6_axisAt_57 6 rfl ?_
      refine z_lload 59 C dX6_axisAt_59 1 rfl ?_
      refine z_lload 61 C dX6_axisAt_61 1 rfl ?_
      refine z_lmul 63 C dX6_axisAt_63 ?_
      refine z_ladd 64 C dX6_axisAt_64 ?_
      refine z_lstore 65 C dX6_axisAt_65 [(6, .long ((z_hq (σ.1 40) k) + ((Int32.toInt64 (σ.1 40 k)) * (Int32.toInt64 (σ.1 40 k))))), (4, .long ((z_hs (σ.1 40) k) + (Int32.toInt64 (σ.1 40 k)))), (13, .long (Int32.toInt64 (σ.1 40 k))), (0, .ref (z_ad G 32)), (1, .int x), (2, .int (nI 1)), (3, .ref (z_ad G 42)), (8, .long (z_xs (σ.2 42) k)), (10, .long (z_hx (σ.1 40) (σ.2 42) k)), (12, .int (nI k))] (by decide) rfl ?_
      refine z_lload 67 C dX6_axisAt_67 7 rfl ?_
      refine z_aload_n 69 C dX6_axisAt_69 6 rfl ?_
      refine z_iload 70 C dX6_axisAt_70 9 rfl ?_
      refine z_laldN 72 C 42 (n := 6) (⟨rfl, rfl⟩) k rfl (by omega) (by decide) dX6_axisAt_72 ?_
      refine z_ladd 73 C dX6_axisAt_73 ?_
      refine z_lstore 74 C dX6_axisAt_74 [(8, .long ((z_xs (σ.2 42) k) + (σ.2 42 k))), (6, .long ((z_hq (σ.1 40) k) + ((Int32.toInt64 (σ.1 40 k)) * (Int32.toInt64 (σ.1 40 k))))), (4, .long ((z_hs (σ.1 40) k) + (Int32.toInt64 (σ.1 40 k)))), (13, .long (Int32.toInt64 (σ.1 40 k))), (0, .ref (z_ad G 32)), (1, .int x), (2, .int (nI 1)), (3, .ref (z_ad G 42)), (10, .long (z_hx (σ.1 40) (σ.2 42) k)), (12, .int (nI k))] (by decide) rfl ?_
      refine z_lload 76 C dX6_axisAt_76 8 rfl ?_
      refine z_lload 78 C dX6_axisAt_78 3 rfl ?_
      refine z_aload_n 80 C dX6_axisAt_80 7 rfl ?_
      refine z_iload 81 C dX6_axisAt_81 9 rfl ?_
      refine z_laldN 83 C 42 (n := 6) (⟨rfl, rfl⟩) k rfl (by omega) (by decide) dX6_axisAt_83 ?_
      refine z_lmul 84 C dX6_axisAt_84 ?_
      refine z_ladd 85 C dX6_axisAt_85 ?_
      refine z_lstore 86 C dX6_axisAt_86 [(10, .long ((z_hx (σ.1 40) (σ.2 42) k) + ((Int32.toInt64 (σ.1 40 k)) * (σ.2 42 k)))), (8, .long ((z_xs (σ.2 42) k) + (σ.2 42 k))), (6, .long ((z_hq (σ.1 40) k) + ((Int32.toInt64 (σ.1 40 k)) * (Int32.toInt64 (σ.1 40 k))))), (4, .long ((z_hs (σ.1 40) k) + (Int32.toInt64 (σ.1 40 k)))), (13, .long (Int32.toInt64 (σ.1 40 k))), (0, .ref (z_ad G 32)), (1, .int x), (2, .int (nI 1)), (3, .ref (z_ad G 42)), (12, .int (nI k))] (by decide) rfl ?_
      refine z_iincN 88 C 9 k [(12, .int (nI (k + 1))), (10, .long ((z_hx (σ.1 40) (σ.2 42) k) + ((Int32.toInt64 (σ.1 40 k)) * (σ.2 42 k)))), (8, .long ((z_xs (σ.2 42) k) + (σ.2 42 k))), (6, .long ((z_hq (σ.1 40) k) + ((Int32.toInt64 (σ.1 40 k)) * (Int32.toInt64 (σ.1 40 k))))), (4, .long ((z_hs (σ.1 40) k) + (Int32.toInt64 (σ.1 40 k)))), (13, .long (Int32.toInt64 (σ.1 40 k))), (0, .ref (z_ad G 32)), (1, .int x), (2, .int (nI 1)), (3, .ref (z_ad G 42))] rfl rfl (by decide) rfl dX6_axisAt_88 ?_
      refine z_goto 91 C 31 dX6_axisAt_91 (by decide) ?_
      refine z_sub [6, 7, 8, 9, 4, 3, 2, 1, 0] (lv1 := [(0, .ref (z_ad G 32)), (1, .int x), (2, .int (nI 1)), (3, .ref (z_ad G 42)), (4, .long ((z_hs (σ.1 40) k) + (Int32.toInt64 (σ.1 40 k)))), (6, .long ((z_hq (σ.1 40) k) + ((Int32.toInt64 (σ.1 40 k)) * (Int32.toInt64 (σ.1 40 k))))), (8, .long ((z_xs (σ.2 42) k) + (σ.2 42 k))), (10, .long ((z_hx (σ.1 40) (σ.2 42) k) + ((Int32.toInt64 (σ.1 40 k)) * (σ.2 42 k)))), (12, .int (nI (k + 1)))]) rfl ?_
      refine z_cv (lv1 := [(0, .ref (z_ad G 32)), (1, .int x), (2, .int (nI 1)), (3, .ref (z_ad G 42)), (4, .long (z_hs (σ.1 40) (k + 1))), (6, .long (z_hq (σ.1 40) (k + 1))), (8, .long (z_xs (σ.2 42) (k + 1))), (10, .long (z_hx (σ.1 40) (σ.2 42) (k + 1))), (12, .int (nI (k + 1)))]) (st1 := []) (σ1 := σ) rfl rfl rfl ?_
      exact ih_31 (k + 1) (by omega) (by omega)
theorem dX6_cylinderWidth_0 : decode cX6_cylinderWidth 0 = .ok (.ldc2_w 54, 3) := by decide +kernel
theorem dX6_cylinderWidth_3 : decode cX6_cylinderWidth 3 = .ok (.lstore_n 1, 1) := by decide +kernel
theorem dX6_cylinderWidth_4 : decode cX6_cylinderWidth 4 = .ok (.ldc2_w 56, 3) := by decide +kernel
theorem dX6_cylinderWidth_7 : decode cX6_cylinderWidth 7 = .ok (.lstore_n 3, 1) := by decide +kernel
theorem dX6_cylinderWidth_8 : decode cX6_cylinderWidth 8 = .ok (.iconst 0, 1) := by decide +kernel
theorem dX6_cylinderWidth_9 : decode cX6_cylinderWidth 9 = .ok (.istore 5, 2) := by decide +kernel
theorem dX6_cylinderWidth_11 : decode cX6_cylinderWidth 11 = .ok (.iload 5, 2) := by decide +kernel
theorem dX6_cylinderWidth_13 : decode cX6_cylinderWidth 13 = .ok (.aload_n 0, 1) := by decide +kernel
theorem dX6_cylinderWidth_14 : decode cX6_cylinderWidth 14 = .ok (.getfield 30, 3) := by decide +kernel
theorem dX6_cylinderWidth_17 : decode cX6_cylinderWidth 17 = .ok (.if_icmp .ge 89, 3) := by decide +kernel
theorem dX6_cylinderWidth_20 : decode cX6_cylinderWidth 20 = .ok (.aload_n 0, 1) := by decide +kernel
theorem dX6_cylinderWidth_21 : decode cX6_cylinderWidth 21 = .ok (.aload_n 0, 1) := by decide +kernel
theorem dX6_cylinderWidth_22 : decode cX6_cylinderWidth 22 = .ok (.getfield 16, 3) := by decide +kernel
theorem dX6_cylinderWidth_25 : decode cX6_cylinderWidth 25 = .ok (.iload 5, 2) := by decide +kernel
theorem dX6_cylinderWidth_27 : decode cX6_cylinderWidth 27 = .ok (.iaload, 1) := by decide +kernel
theorem dX6_cylinderWidth_28 : decode cX6_cylinderWidth 28 = .ok (.iconst 0, 1) := by decide +kernel
theorem dX6_cylinderWidth_29 : decode cX6_cylinderWidth 29 = .ok (.invokevirtual 58, 3) := by decide +kernel
theorem dX6_cylinderWidth_32 : decode cX6_cylinderWidth 32 = .ok (.lstore 6, 2) := by decide +kernel
theorem dX6_cylinderWidth_34 : decode cX6_cylinderWidth 34 = .ok (.aload_n 0, 1) := by decide +kernel
theorem dX6_cylinderWidth_35 : decode cX6_cylinderWidth 35 = .ok (.aload_n 0, 1) := by decide +kernel
theorem dX6_cylinderWidth_36 : decode cX6_cylinderWidth 36 = .ok (.getfield 16, 3) := by decide +kernel
theorem dX6_cylinderWidth_39 : decode cX6_cylinderWidth 39 = .ok (.iload 5, 2) := by decide +kernel
theorem dX6_cylinderWidth_41 : decode cX6_cylinderWidth 41 = .ok (.iaload, 1) := by decide +kernel
theorem dX6_cylinderWidth_42 : decode cX6_cylinderWidth 42 = .ok (.iconst 1, 1) := by decide +kernel
theorem dX6_cylinderWidth_43 : decode cX6_cylinderWidth 43 = .ok (.invokevirtual 58, 3) := by decide +kernel
theorem dX6_cylinderWidth_46 : decode cX6_cylinderWidth 46 = .ok (.lstore 8, 2) := by decide +kernel
theorem dX6_cylinderWidth_48 : decode cX6_cylinderWidth 48 = .ok (.iconst 0, 1) := by decide +kernel
theorem dX6_cylinderWidth_49 : decode cX6_cylinderWidth 49 = .ok (.istore 10, 2) := by decide +kernel
theorem dX6_cylinderWidth_51 : decode cX6_cylinderWidth 51 = .ok (.iload 10, 2) := by decide +kernel
theorem dX6_cylinderWidth_53 : decode cX6_cylinderWidth 53 = .ok (.bipush 24, 2) := by decide +kernel
theorem dX6_cylinderWidth_55 : decode cX6_cylinderWidth 55 = .ok (.if_icmp .ge 45, 3) := by decide +kernel
theorem dX6_cylinderWidth_58 : decode cX6_cylinderWidth 58 = .ok (.aload_n 0, 1) := by decide +kernel
theorem dX6_cylinderWidth_59 : decode cX6_cylinderWidth 59 = .ok (.getfield 13, 3) := by decide +kernel
theorem dX6_cylinderWidth_62 : decode cX6_cylinderWidth 62 = .ok (.iload 5, 2) := by decide +kernel
theorem dX6_cylinderWidth_64 : decode cX6_cylinderWidth 64 = .ok (.aaload, 1) := by decide +kernel
theorem dX6_cylinderWidth_65 : decode cX6_cylinderWidth 65 = .ok (.iload 10, 2) := by decide +kernel
theorem dX6_cylinderWidth_67 : decode cX6_cylinderWidth 67 = .ok (.laload, 1) := by decide +kernel
theorem dX6_cylinderWidth_68 : decode cX6_cylinderWidth 68 = .ok (.lload 6, 2) := by decide +kernel
theorem dX6_cylinderWidth_70 : decode cX6_cylinderWidth 70 = .ok (.lload 8, 2) := by decide +kernel
theorem dX6_cylinderWidth_72 : decode cX6_cylinderWidth 72 = .ok (.iload 10, 2) := by decide +kernel
theorem dX6_cylinderWidth_74 : decode cX6_cylinderWidth 74 = .ok (.invokestatic 62, 3) := by decide +kernel
theorem dX6_cylinderWidth_77 : decode cX6_cylinderWidth 77 = .ok (.lsub, 1) := by decide +kernel
theorem dX6_cylinderWidth_78 : decode cX6_cylinderWidth 78 = .ok (.lstore 11, 2) := by decide +kernel
theorem dX6_cylinderWidth_80 : decode cX6_cylinderWidth 80 = .ok (.lload_n 1, 1) := by decide +kernel
theorem dX6_cylinderWidth_81 : decode cX6_cylinderWidth 81 = .ok (.lload 11, 2) := by decide +kernel
theorem dX6_cylinderWidth_83 : decode cX6_cylinderWidth 83 = .ok (.invokestatic 66, 3) := by decide +kernel
theorem dX6_cylinderWidth_86 : decode cX6_cylinderWidth 86 = .ok (.lstore_n 1, 1) := by decide +kernel
theorem dX6_cylinderWidth_87 : decode cX6_cylinderWidth 87 = .ok (.lload_n 3, 1) := by decide +kernel
theorem dX6_cylinderWidth_88 : decode cX6_cylinderWidth 88 = .ok (.lload 11, 2) := by decide +kernel
theorem dX6_cylinderWidth_90 : decode cX6_cylinderWidth 90 = .ok (.invokestatic 71, 3) := by decide +kernel
theorem dX6_cylinderWidth_93 : decode cX6_cylinderWidth 93 = .ok (.lstore_n 3, 1) := by decide +kernel
theorem dX6_cylinderWidth_94 : decode cX6_cylinderWidth 94 = .ok (.iinc 10 1, 3) := by decide +kernel
theorem dX6_cylinderWidth_97 : decode cX6_cylinderWidth 97 = .ok (.goto (-46), 3) := by decide +kernel
theorem dX6_cylinderWidth_100 : decode cX6_cylinderWidth 100 = .ok (.iinc 5 1, 3) := by decide +kernel
theorem dX6_cylinderWidth_103 : decode cX6_cylinderWidth 103 = .ok (.goto (-92), 3) := by decide +kernel
theorem dX6_cylinderWidth_106 : decode cX6_cylinderWidth 106 = .ok (.lload_n 1, 1) := by decide +kernel
theorem dX6_cylinderWidth_107 : decode cX6_cylinderWidth 107 = .ok (.lload_n 3, 1) := by decide +kernel
theorem dX6_cylinderWidth_108 : decode cX6_cylinderWidth 108 = .ok (.lsub, 1) := by decide +kernel
theorem dX6_cylinderWidth_109 : decode cX6_cylinderWidth 109 = .ok (.lreturn, 1) := by decide +kernel
set_option maxRecDepth 100000 in
set_option maxHeartbeats 4000000 in
theorem m_X6_cylinderWidth {l : Launch} {G : z_Gl} {σ : z_St} (w : Nat) (hw : σ.1 32 5 = nI w) (hw6 : w ≤ 6) (hpos : 0 < z_den (σ.1 40) w) : z_M l G yX6_cylinderWidth cX6_cylinderWidth 13 (some .long) (z_rm 3 82) [.ref (z_ad G 32)] σ (z_p1 (.long (z_fmx2 (z_cdv (σ.1 40) (σ.2 41) (σ.2 42) (z_tr σ.2) w) (-9223372036854775808) w - z_fmn2 (z_cdv (σ.1 40) (σ.2 41) (σ.2 42) (z_tr σ.2) w) 9223372036854775807 w)) σ) := by
  refine z_M.of (by decide) (Nat.le_of_ble_eq_true rfl) (fun p e s m below meth c C => ?_)
  refine z_sub [0] (lv1 := [(0, .ref (z_ad G 32))]) rfl ?_
  refine z_ldc2 0 C dX6_cylinderWidth_0 q790 ?_
  refine z_lstore_n 3 C dX6_cylinderWidth_3 [(1, .long (-9223372036854775808)), (0, .ref (z_ad G 32))] (by decide) rfl ?_
  refine z_ldc2 4 C dX6_cylinderWidth_4 q791 ?_
  refine z_lstore_n 7 C dX6_cylinderWidth_7 [(3, .long 9223372036854775807), (1, .long (-9223372036854775808)), (0, .ref (z_ad G 32))] (by decide) rfl ?_
  refine z_iconst 8 C dX6_cylinderWidth_8 (nI 0) rfl ?_
  refine z_istore 9 C dX6_cylinderWidth_9 [(5, .int (nI 0)), (3, .long 9223372036854775807), (1, .long (-9223372036854775808)), (0, .ref (z_ad G 32))] (by decide) rfl ?_
  refine z_sub [3, 2, 1, 0] (lv1 := [(0, .ref (z_ad G 32)), (1, .long (-9223372036854775808)), (3, .long 9223372036854775807), (5, .int (nI 0))]) rfl ?_
  refine z_cv (lv1 := [(0, .ref (z_ad G 32)), (1, .long (z_fmx2 (z_cdv (σ.1 40) (σ.2 41) (σ.2 42) (z_tr σ.2) w) (-9223372036854775808) 0)), (3, .long (z_fmn2 (z_cdv (σ.1 40) (σ.2 41) (σ.2 42) (z_tr σ.2) w) 9223372036854775807 0)), (5, .int (nI 0))]) (st1 := []) (σ1 := σ) rfl rfl rfl ?_
  refine z_lp1 (fun (i : Nat) => i ≤ w) (fun (i : Nat) => w - i) (fun (i : Nat) => [(0, .ref (z_ad G 32)), (1, .long (z_fmx2 (z_cdv (σ.1 40) (σ.2 41) (σ.2 42) (z_tr σ.2) w) (-9223372036854775808) i)), (3, .long (z_fmn2 (z_cdv (σ.1 40) (σ.2 41) (σ.2 42) (z_tr σ.2) w) 9223372036854775807 i)), (5, .int (nI i))]) (fun (i : Nat) => σ) (fun i hi_11 ih_11 => ?_) 0 (by omega)
  try dsimp only
  refine z_iload 11 C dX6_cylinderWidth_11 3 rfl ?_
  refine z_aload_n 13 C dX6_cylinderWidth_13 0 rfl ?_
  refine z_getf 14 C 32 z_dX6 (⟨rfl, rfl⟩) 5 (by decide) q208 (.int (nI w)) (z_ci hw) dX6_cylinderWidth_14 ?_
  refine z_icmp_geN 17 C i w rfl rfl (by omega) (by omega) 106 dX6_cylinderWidth_17 (by decide) (fun c17 => ?_) (fun c17 => ?_)
  · skip
    have ei : w = i := by omega
    subst ei
    refine z_lload_n 106 C dX6_cylinderWidth_106 1 rfl ?_
    refine z_lload_n 107 C dX6_cylinderWidth_107 2 rfl ?_
    refine z_lsub 108 C dX6_cylinderWidth_108 ?_
    refine z_lret 109 C dX6_cylinderWidth_109 ?_
    exact ⟨rfl, rfl⟩
  · skip
    refine z_aload_n 20 C dX6_cylinderWidth_20 0 rfl ?_
    refine z_aload_n 21 C dX6_cylinderWidth_21 0 rfl ?_
    refine z_getf 22 C 32 z_dX6 (⟨rfl, rfl⟩) 1 (by decide) q200 (.ref (z_ad G 40)) rfl dX6_cylinderWidth_22 ?_
    refine z_iload 25 C dX6_cylinderWidth_25 3 rfl ?_
    refine z_ialdN 27 C 40 (n := 6) (⟨rfl, rfl⟩) i rfl (by omega) (by decide) dX6_cylinderWidth_27 ?_
    refine z_iconst 28 C dX6_cylinderWidth_28 (nI 0) rfl ?_
    refine z_callV 29 C 32 (⟨rfl, rfl⟩) rfl (As := [.int (σ.1 40 i), .int (nI 0)]) (rest := []) (m_X6_axisAt w hw (by omega) (σ.1 40 i) 0 (by omega) (hpos)) k_X6_axisAt q792 ⟨rfl, rfl⟩ ⟨Nat.le_of_ble_eq_true rfl, Nat.le_of_ble_eq_true rfl⟩ rfl (Nat.le_of_ble_eq_true rfl) ⟨Nat.le_of_ble_eq_true rfl, Nat.le_of_ble_eq_true rfl⟩ rfl dX6_cylinderWidth_29 (z_k1 ?_)
    refine z_lstore 32 C dX6_cylinderWidth_32 [(6, .long (z_ax (σ.1 40) (σ.2 (41 + 0)) w (σ.1 40 i))), (0, .ref (z_ad G 32)), (1, .long (z_fmx2 (z_cdv (σ.1 40) (σ.2 41) (σ.2 42) (z_tr σ.2) w) (-9223372036854775808) i)), (3, .long (z_fmn2 (z_cdv (σ.1 40) (σ.2 41) (σ.2 42) (z_tr σ.2) w) 9223372036854775807 i)), (5, .int (nI i))] (by decide) rfl ?_
    refine z_aload_n 34 C dX6_cylinderWidth_34 1 rfl ?_
    refine z_aload_n 35 C dX6_cylinderWidth_35 1 rfl ?_
    refine z_getf 36 C 32 z_dX6 (⟨rfl, rfl⟩) 1 (by decide) q200 (.ref (z_ad G 40)) rfl dX6_cylinderWidth_36 ?_
    refine z_iload 39 C dX6_cylinderWidth_39 4 rfl ?_
    refine z_ialdN 41 C 40 (n := 6) (⟨rfl, rfl⟩) i rfl (by omega) (by decide) dX6_cylinderWidth_41 ?_
    refine z_iconst 42 C dX6_cylinderWidth_42 (nI 1) rfl ?_
    refine z_callV 43 C 32 (⟨rfl, rfl⟩) rfl (As := [.int (σ.1 40 i), .int (nI 1)]) (rest := []) (m_X6_axisAt w hw (by omega) (σ.1 40 i) 1 (by omega) (hpos)) k_X6_axisAt q792 ⟨rfl, rfl⟩ ⟨Nat.le_of_ble_eq_true rfl, Nat.le_of_ble_eq_true rfl⟩ rfl (Nat.le_of_ble_eq_true rfl) ⟨Nat.le_of_ble_eq_true rfl, Nat.le_of_ble_eq_true rfl⟩ rfl dX6_cylinderWidth_43 (z_k1 ?_)
    refine z_lstore 46 C dX6_cylinderWidth_46 [(8, .long (z_ax (σ.1 40) (σ.2 (41 + 1)) w (σ.1 40 i))), (6, .long (z_ax (σ.1 40) (σ.2 (41 + 0)) w (σ.1 40 i))), (0, .ref (z_ad G 32)), (1, .long (z_fmx2 (z_cdv (σ.1 40) (σ.2 41) (σ.2 42) (z_tr σ.2) w) (-9223372036854775808) i)), (3, .long (z_fmn2 (z_cdv (σ.1 40) (σ.2 41) (σ.2 42) (z_tr σ.2) w) 9223372036854775807 i)), (5, .int (nI i))] (by decide) rfl ?_
    refine z_iconst 48 C dX6_cylinderWidth_48 (nI 0) rfl ?_
    refine z_istore 49 C dX6_cylinderWidth_49 [(10, .int (nI 0)), (8, .long (z_ax (σ.1 40) (σ.2 (41 + 1)) w (σ.1 40 i))), (6, .long (z_ax (σ.1 40) (σ.2 (41 + 0)) w (σ.1 40 i))), (0, .ref (z_ad G 32)), (1, .long (z_fmx2 (z_cdv (σ.1 40) (σ.2 41) (σ.2 42) (z_tr σ.2) w) (-9223372036854775808) i)), (3, .long (z_fmn2 (z_cdv (σ.1 40) (σ.2 41) (σ.2 42) (z_tr σ.2) w) 9223372036854775807 i)), (5, .int (nI i))] (by decide) rfl ?_
    refine z_sub [3, 4, 5, 6, 2, 1, 0] (lv1 := [(0, .ref (z_ad G 32)), (1, .long (z_fmx2 (z_cdv (σ.1 40) (σ.2 41) (σ.2 42) (z_tr σ.2) w) (-9223372036854775808) i)), (3, .long (z_fmn2 (z_cdv (σ.1 40) (σ.2 41) (σ.2 42) (z_tr σ.2) w) 9223372036854775807 i)), (5, .int (nI i)), (6, .long (z_ax (σ.1 40) (σ.2 (41 + 0)) w (σ.1 40 i))), (8, .long (z_ax (σ.1 40) (σ.2 (41 + 1)) w (σ.1 40 i))), (10, .int (nI 0))]) rfl ?_
    refine z_cv (lv1 := [(0, .ref (z_ad G 32)), (1, .long (z_fmx (z_cdv (σ.1 40) (σ.2 41) (σ.2 42) (z_tr σ.2) w i) (z_fmx2 (z_cdv (σ.1 40) (σ.2 41) (σ.2 42) (z_tr σ.2) w) (-9223372036854775808) i) 0)), (3, .long (z_fmn (z_cdv (σ.1 40) (σ.2 41) (σ.2 42) (z_tr σ.2) w i) (z_fmn2 (z_cdv (σ.1 40) (σ.2 41) (σ.2 42) (z_tr σ.2) w) 9223372036854775807 i) 0)), (5, .int (nI i)), (6, .long (z_ax (σ.1 40) (σ.2 (41 + 0)) w (σ.1 40 i))), (8, .long (z_ax (σ.1 40) (σ.2 (41 + 1)) w (σ.1 40 i))), (10, .int (nI 0))]) (st1 := []) (σ1 := σ) rfl rfl rfl ?_
    refine z_lp1 (fun (k : Nat) => k ≤ 24) (fun (k : Nat) => 24 - k) (fun (k : Nat) => [(0, .ref (z_ad G 32)), (1, .long (z_fmx (z_cdv (σ.1 40) (σ.2 41) (σ.2 42) (z_tr σ.2) w i) (z_fmx2 (z_cdv (σ.1 40) (σ.2 41) (σ.2 42) (z_tr σ.2) w) (-9223372036854775808) i) k)), (3, .long (z_fmn (z_cdv (σ.1 40) (σ.2 41) (σ.2 42) (z_tr σ.2) w i) (z_fmn2 (z_cdv (σ.1 40) (σ.2 41) (σ.2 42) (z_tr σ.2) w) 9223372036854775807 i) k)), (5, .int (nI i)), (6, .long (z_ax (σ.1 40) (σ.2 (41 + 0)) w (σ.1 40 i))), (8, .long (z_ax (σ.1 40) (σ.2 (41 + 1)) w (σ.1 40 i))), (10, .int (nI k))]) (fun (k : Nat) => σ) (fun k hi_51 ih_51 => ?_) 0 (by omega)
    try dsimp only
    refine z_iload 51 C dX6_cylinderWidth_51 6 rfl ?_
    refine z_bipush 53 C dX6_cylinderWidth_53 (nI 24) rfl ?_
    refine z_icmp_geN 55 C k 24 rfl rfl (by omega) (by omega) 100 dX6_cylinderWidth_55 (by decide) (fun c55 => ?_) (fun c55 => ?_)
    · skip
      have ek : k = 24 := by omega
      subst ek
      refine z_iincN 100 C 3 i [(5, .int (nI (i + 1))), (0, .ref (z_ad G 32)), (1, .long (z_fmx (z_cdv (σ.1 40) (σ.2 41) (σ.2 42) (z_tr σ.2) w i) (z_fmx2 (z_cdv (σ.1 40) (σ.2 41) (σ.2 42) (z_tr σ.2) w) (-9223372036854775808) i) 24)), (3, .long (z_fmn (z_cdv (σ.1 40) (σ.2 41) (σ.2 42) (z_tr σ.2) w i) (z_fmn2 (z_cdv (σ.1 40) (σ.2 41) (σ.2 42) (z_tr σ.2) w) 9223372036854775807 i) 24)), (6, .long (z_ax (σ.1 40) (σ.2 (41 + 0)) w (σ.1 40 i))), (8, .long (z_ax (σ.1 40) (σ.2 (41 + 1)) w (σ.1 40 i))), (10, .int (nI 24))] rfl rfl (by decide) rfl dX6_cylinderWidth_100 ?_
      refine z_goto 103 C 11 dX6_cylinderWidth_103 (by decide) ?_
      refine z_sub [1, 2, 3, 0] (lv1 := [(0, .ref (z_ad G 32)), (1, .long (z_fmx (z_cdv (σ.1 40) (σ.2 41) (σ.2 42) (z_tr σ.2) w i) (z_fmx2 (z_cdv (σ.1 40) (σ.2 41) (σ.2 42) (z_tr σ.2) w) (-9223372036854775808) i) 24)), (3, .long (z_fmn (z_cdv (σ.1 40) (σ.2 41) (σ.2 42) (z_tr σ.2) w i) (z_fmn2 (z_cdv (σ.1 40) (σ.2 41) (σ.2 42) (z_tr σ.2) w) 9223372036854775807 i) 24)), (5, .int (nI (i + 1)))]) rfl ?_
      refine z_cv (lv1 := [(0, .ref (z_ad G 32)), (1, .long (z_fmx2 (z_cdv (σ.1 40) (σ.2 41) (σ.2 42) (z_tr σ.2) w) (-9223372036854775808) (i + 1))), (3, .long (z_fmn2 (z_cdv (σ.1 40) (σ.2 41) (σ.2 42) (z_tr σ.2) w) 9223372036854775807 (i + 1))), (5, .int (nI (i + 1)))]) (st1 := []) (σ1 := σ) rfl rfl rfl ?_
      exact ih_11 (i + 1) (by omega) (by omega)
    · skip
      refine z_aload_n 58 C dX6_cylinderWidth_58 0 rfl ?_
      refine z_getf 59 C 32 z_dX6 (⟨rfl, rfl⟩) 0 (by decide) q198 (.ref (z_ad G 33)) rfl dX6_cylinderWidth_59 ?_
      refine z_iload 62 C dX6_cylinderWidth_62 3 rfl ?_
      refine z_aaldN 64 C 33 (n := 6) ⟨Or.inr rfl, rfl⟩ i (34 + i) rfl (by omega) (by decide) rfl dX6_cylinderWidth_64 ?_
      refine z_iload 65 C dX6_cylinderWidth_65 6 rfl ?_
      refine z_laldN 67 C (34 + i) (n := 24) (z_trK _ (by omega)) k rfl (by omega) (by decide) dX6_cylinderWidth_67 ?_
      refine z_lload 68 C dX6_cylinderWidth_68 4 rfl ?_
      refine z_lload 70 C dX6_cylinderWidth_70 5 rfl ?_
      refine z_iload 72 C dX6_cylinderWidth_72 6 rfl ?_
      refine z_callSN 74 C (As := [.long (z_ax (σ.1 40) (σ.2 (41 + 0)) w (σ.1 40 i)), .long (z_ax (σ.1 40) (σ.2 (41 + 1)) w (σ.1 40 i)), .int (nI k)]) (rest := [.long (σ.2 (34 + i) k)]) (m_X7_wave_n (z_ax (σ.1 40) (σ.2 (41 + 0)) w (σ.1 40 i)) (z_ax (σ.1 40) (σ.2 (41 + 1)) w (σ.1 40 i)) k (by omega)) k_X7_wave (List.mem_of_getElem? (i := 47) rfl) ⟨rfl, rfl⟩ ⟨Nat.le_of_ble_eq_true rfl, Nat.le_of_ble_eq_true rfl⟩ rfl (Nat.le_of_ble_eq_true rfl) ⟨Nat.le_of_ble_eq_true rfl, Nat.le_of_ble_eq_true rfl⟩ rfl dX6_cylinderWidth_74 (z_k1 ?_)
      refine z_lsub 77 C dX6_cylinderWidth_77 ?_
      refine z_lstore 78 C dX6_cylinderWidth_78 [(11, .long ((σ.2 (34 + i) k) - (z_wv (z_ax (σ.1 40) (σ.2 (41 + 0)) w (σ.1 40 i)) (z_ax (σ.1 40) (σ.2 (41 + 1)) w (σ.1 40 i)) (k % 24)))), (0, .ref (z_ad G 32)), (1, .long (z_fmx (z_cdv (σ.1 40) (σ.2 41) (σ.2 42) (z_tr σ.2) w i) (z_fmx2 (z_cdv (σ.1 40) (σ.2 41) (σ.2 42) (z_tr σ.2) w) (-9223372036854775808) i) k)), (3, .long (z_fmn (z_cdv (σ.1 40) (σ.2 41) (σ.2 42) (z_tr σ.2) w i) (z_fmn2 (z_cdv (σ.1 40) (σ.2 41) (σ.2 42) (z_tr σ.2) w) 9223372036854775807 i) k)), (5, .int (nI i)), (6, .long (z_ax (σ.1 40) (σ.2 (41 + 0)) w (σ.1 40 i))), (8, .long (z_ax (σ.1 40) (σ.2 (41 + 1)) w (σ.1 40 i))), (10, .int (nI k))] (by decide) rfl ?_
      refine z_lload_n 80 C dX6_cylinderWidth_80 2 rfl ?_
      refine z_lload 81 C dX6_cylinderWidth_81 0 rfl ?_
      refine z_callS 83 C (As := [.long (z_fmx (z_cdv (σ.1 40) (σ.2 41) (σ.2 42) (z_tr σ.2) w i) (z_fmx2 (z_cdv (σ.1 40) (σ.2 41) (σ.2 42) (z_tr σ.2) w) (-9223372036854775808) i) k), .long ((σ.2 (34 + i) k) - (z_wv (z_ax (σ.1 40) (σ.2 (41 + 0)) w (σ.1 40 i)) (z_ax (σ.1 40) (σ.2 (41 + 1)) w (σ.1 40 i)) (k % 24)))]) (rest := []) (m_J9_max_f86c9 (z_fmx (z_cdv (σ.1 40) (σ.2 41) (σ.2 42) (z_tr σ.2) w i) (z_fmx2 (z_cdv (σ.1 40) (σ.2 41) (σ.2 42) (z_tr σ.2) w) (-9223372036854775808) i) k) ((σ.2 (34 + i) k) - (z_wv (z_ax (σ.1 40) (σ.2 (41 + 0)) w (σ.1 40 i)) (z_ax (σ.1 40) (σ.2 (41 + 1)) w (σ.1 40 i)) (k % 24)))) k_J9_max_f86c9 q794 ⟨rfl, rfl⟩ ⟨Nat.le_of_ble_eq_true rfl, Nat.le_of_ble_eq_true rfl⟩ rfl (Nat.le_of_ble_eq_true rfl) ⟨Nat.le_of_ble_eq_true rfl, Nat.le_of_ble_eq_true rfl⟩ rfl dX6_cylinderWidth_83 (z_k1 ?_)
      refine z_lstore_n 86 C dX6_cylinderWidth_86 [(1, .long (z_mx (z_fmx (z_cdv (σ.1 40) (σ.2 41) (σ.2 42) (z_tr σ.2) w i) (z_fmx2 (z_cdv (σ.1 40) (σ.2 41) (σ.2 42) (z_tr σ.2) w) (-9223372036854775808) i) k) ((σ.2 (34 + i) k) - (z_wv (z_ax (σ.1 40) (σ.2 (41 + 0)) w (σ.1 40 i)) (z_ax (σ.1 40) (σ.2 (41 + 1)) w (σ.1 40 i)) (k % 24))))), (11, .long ((σ.2 (34 + i) k) - (z_wv (z_ax (σ.1 40) (σ.2 (41 + 0)) w (σ.1 40 i)) (z_ax (σ.1 40) (σ.2 (41 + 1)) w (σ.1 40 i)) (k % 24)))), (0, .ref (z_ad G 32)), (3, .long (z_fmn (z_cdv (σ.1 40) (σ.2 41) (σ.2 42) (z_tr σ.2) w i) (z_fmn2 (z_cdv (σ.1 40) (σ.2 41) (σ.2 42) (z_tr σ.2) w) 9223372036854775807 i) k)), (5, .int (nI i)), (6, .long (z_ax (σ.1 40) (σ.2 (41 + 0)) w (σ.1 40 i))), (8, .long (z_ax (σ.1 40) (σ.2 (41 + 1)) w (σ.1 40 i))), (10, .int (nI k))] (by decide) rfl ?_
      refine z_lload_n 87 C dX6_cylinderWidth_87 3 rfl ?_
      refine z_lload 88 C dX6_cylinderWidth_88 1 rfl ?_
      refine z_callS 90 C (As := [.long (z_fmn (z_cdv (σ.1 40) (σ.2 41) (σ.2 42) (z_tr σ.2) w i) (z_fmn2 (z_cdv (σ.1 40) (σ.2 41) (σ.2 42) (z_tr σ.2) w) 9223372036854775807 i) k), .long ((σ.2 (34 + i) k) - (z_wv (z_ax (σ.1 40) (σ.2 (41 + 0)) w (σ.1 40 i)) (z_ax (σ.1 40) (σ.2 (41 + 1)) w (σ.1 40 i)) (k % 24)))]) (rest := []) (m_J9_min_f86c9 (z_fmn (z_cdv (σ.1 40) (σ.2 41) (σ.2 42) (z_tr σ.2) w i) (z_fmn2 (z_cdv (σ.1 40) (σ.2 41) (σ.2 42) (z_tr σ.2) w) 9223372036854775807 i) k) ((σ.2 (34 + i) k) - (z_wv (z_ax (σ.1 40) (σ.2 (41 + 0)) w (σ.1 40 i)) (z_ax (σ.1 40) (σ.2 (41 + 1)) w (σ.1 40 i)) (k % 24)))) k_J9_min_f86c9 q795 ⟨rfl, rfl⟩ ⟨Nat.le_of_ble_eq_true rfl, Nat.le_of_ble_eq_true rfl⟩ rfl (Nat.le_of_ble_eq_true rfl) ⟨Nat.le_of_ble_eq_true rfl, Nat.le_of_ble_eq_true rfl⟩ rfl dX6_cylinderWidth_90 (z_k1 ?_)
      refine z_lstore_n 93 C dX6_cylinderWidth_93 [(3, .long (z_mn (z_fmn (z_cdv (σ.1 40) (σ.2 41) (σ.2 42) (z_tr σ.2) w i) (z_fmn2 (z_cdv (σ.1 40) (σ.2 41) (σ.2 42) (z_tr σ.2) w) 9223372036854775807 i) k) ((σ.2 (34 + i) k) - (z_wv (z_ax (σ.1 40) (σ.2 (41 + 0)) w (σ.1 40 i)) (z_ax (σ.1 40) (σ.2 (41 + 1)) w (σ.1 40 i)) (k % 24))))), (1, .long (z_mx (z_fmx (z_cdv (σ.1 40) (σ.2 41) (σ.2 42) (z_tr σ.2) w i) (z_fmx2 (z_cdv (σ.1 40) (σ.2 41) (σ.2 42) (z_tr σ.2) w) (-9223372036854775808) i) k) ((σ.2 (34 + i) k) - (z_wv (z_ax (σ.1 40) (σ.2 (41 + 0)) w (σ.1 40 i)) (z_ax (σ.1 40) (σ.2 (41 + 1)) w (σ.1 40 i)) (k % 24))))), (11, .long ((σ.2 (34 + i) k) - (z_wv (z_ax (σ.1 40) (σ.2 (41 + 0)) w (σ.1 40 i)) (z_ax (σ.1 40) (σ.2 (41 + 1)) w (σ.1 40 i)) (k % 24)))), (0, .ref (z_ad G 32)), (5, .int (nI i)), (6, .long (z_ax (σ.1 40) (σ.2 (41 + 0)) w (σ.1 40 i))), (8, .long (z_ax (σ.1 40) (σ.2 (41 + 1)) w (σ.1 40 i))), (10, .int (nI k))] (by decide) rfl ?_
      refine z_iincN 94 C 7 k [(10, .int (nI (k + 1))), (3, .long (z_mn (z_fmn (z_cdv (σ.1 40) (σ.2 41) (σ.2 42) (z_tr σ.2) w i) (z_fmn2 (z_cdv (σ.1 40) (σ.2 41) (σ.2 42) (z_tr σ.2) w) 9223372036854775807 i) k) ((σ.2 (34 + i) k) - (z_wv (z_ax (σ.1 40) (σ.2 (41 + 0)) w (σ.1 40 i)) (z_ax (σ.1 40) (σ.2 (41 + 1)) w (σ.1 40 i)) (k % 24))))), (1, .long (z_mx (z_fmx (z_cdv (σ.1 40) (σ.2 41) (σ.2 42) (z_tr σ.2) w i) (z_fmx2 (z_cdv (σ.1 40) (σ.2 41) (σ.2 42) (z_tr σ.2) w) (-9223372036854775808) i) k) ((σ.2 (34 + i) k) - (z_wv (z_ax (σ.1 40) (σ.2 (41 + 0)) w (σ.1 40 i)) (z_ax (σ.1 40) (σ.2 (41 + 1)) w (σ.1 40 i)) (k % 24))))), (11, .long ((σ.2 (34 + i) k) - (z_wv (z_ax (σ.1 40) (σ.2 (41 + 0)) w (σ.1 40 i)) (z_ax (σ.1 40) (σ.2 (41 + 1)) w (σ.1 40 i)) (k % 24)))), (0, .ref (z_ad G 32)), (5, .int (nI i)), (6, .long (z_ax (σ.1 40) (σ.2 (41 + 0)) w (σ.1 40 i))), (8, .long (z_ax (σ.1 40) (σ.2 (41 + 1)) w (σ.1 40 i)))] rfl rfl (by decide) rfl dX6_cylinderWidth_94 ?_
      refine z_goto 97 C 51 dX6_cylinderWidth_97 (by decide) ?_
      refine z_sub [4, 2, 1, 5, 6, 7, 0] (lv1 := [(0, .ref (z_ad G 32)), (1, .long (z_mx (z_fmx (z_cdv (σ.1 40) (σ.2 41) (σ.2 42) (z_tr σ.2) w i) (z_fmx2 (z_cdv (σ.1 40) (σ.2 41) (σ.2 42) (z_tr σ.2) w) (-9223372036854775808) i) k) ((σ.2 (34 + i) k) - (z_wv (z_ax (σ.1 40) (σ.2 (41 + 0)) w (σ.1 40 i)) (z_ax (σ.1 40) (σ.2 (41 + 1)) w (σ.1 40 i)) (k % 24))))), (3, .long (z_mn (z_fmn (z_cdv (σ.1 40) (σ.2 41) (σ.2 42) (z_tr σ.2) w i) (z_fmn2 (z_cdv (σ.1 40) (σ.2 41) (σ.2 42) (z_tr σ.2) w) 9223372036854775807 i) k) ((σ.2 (34 + i) k) - (z_wv (z_ax (σ.1 40) (σ.2 (41 + 0)) w (σ.1 40 i)) (z_ax (σ.1 40) (σ.2 (41 + 1)) w (σ.1 40 i)) (k % 24))))), (5, .int (nI i)), (6, .long (z_ax (σ.1 40) (σ.2 (41 + 0)) w (σ.1 40 i))), (8, .long (z_ax (σ.1 40) (σ.2 (41 + 1)) w (σ.1 40 i))), (10, .int (nI (k + 1)))]) rfl ?_
      refine z_cv (lv1 := [(0, .ref (z_ad G 32)), (1, .long (z_fmx (z_cdv (σ.1 40) (σ.2 41) (σ.2 42) (z_tr σ.2) w i) (z_fmx2 (z_cdv (σ.1 40) (σ.2 41) (σ.2 42) (z_tr σ.2) w) (-9223372036854775808) i) (k + 1))), (3, .long (z_fmn (z_cdv (σ.1 40) (σ.2 41) (σ.2 42) (z_tr σ.2) w i) (z_fmn2 (z_cdv (σ.1 40) (σ.2 41) (σ.2 42) (z_tr σ.2) w) 9223372036854775807 i) (k + 1))), (5, .int (nI i)), (6, .long (z_ax (σ.1 40) (σ.2 (41 + 0)) w (σ.1 40 i))), (8, .long (z_ax (σ.1 40) (σ.2 (41 + 1)) w (σ.1 40 i))), (10, .int (nI (k + 1)))]) (st1 := []) (σ1 := σ) rfl rfl rfl ?_
      exact ih_51 (k + 1) (by omega) (by omega)
theorem dX6_distanceFromAxis_0 : decode cX6_distanceFromAxis 0 = .ok (.aload_n 0, 1) := by decide +kernel
theorem dX6_distanceFromAxis_1 : decode cX6_distanceFromAxis 1 = .ok (.getfield 16, 3) := by decide +kernel
theorem dX6_distanceFromAxis_4 : decode cX6_distanceFromAxis 4 = .ok (.iload_n 1, 1) := by decide +kernel
theorem dX6_distanceFromAxis_5 : decode cX6_distanceFromAxis 5 = .ok (.iaload, 1) := by decide +kernel
theorem dX6_distanceFromAxis_6 : decode cX6_distanceFromAxis 6 = .ok (.istore_n 2, 1) := by decide +kernel
theorem dX6_distanceFromAxis_7 : decode cX6_distanceFromAxis 7 = .ok (.aload_n 0, 1) := by decide +kernel
theorem dX6_distanceFromAxis_8 : decode cX6_distanceFromAxis 8 = .ok (.getfield 20, 3) := by decide +kernel
theorem dX6_distanceFromAxis_11 : decode cX6_distanceFromAxis 11 = .ok (.iload_n 1, 1) := by decide +kernel
theorem dX6_distanceFromAxis_12 : decode cX6_distanceFromAxis 12 = .ok (.laload, 1) := by decide +kernel
theorem dX6_distanceFromAxis_13 : decode cX6_distanceFromAxis 13 = .ok (.aload_n 0, 1) := by decide +kernel
theorem dX6_distanceFromAxis_14 : decode cX6_distanceFromAxis 14 = .ok (.iload_n 2, 1) := by decide +kernel
theorem dX6_distanceFromAxis_15 : decode cX6_distanceFromAxis 15 = .ok (.iconst 0, 1) := by decide +kernel
theorem dX6_distanceFromAxis_16 : decode cX6_distanceFromAxis 16 = .ok (.invokevirtual 58, 3) := by decide +kernel
theorem dX6_distanceFromAxis_19 : decode cX6_distanceFromAxis 19 = .ok (.lsub, 1) := by decide +kernel
theorem dX6_distanceFromAxis_20 : decode cX6_distanceFromAxis 20 = .ok (.invokestatic 74, 3) := by decide +kernel
theorem dX6_distanceFromAxis_23 : decode cX6_distanceFromAxis 23 = .ok (.aload_n 0, 1) := by decide +kernel
theorem dX6_distanceFromAxis_24 : decode cX6_distanceFromAxis 24 = .ok (.getfield 24, 3) := by decide +kernel
theorem dX6_distanceFromAxis_27 : decode cX6_distanceFromAxis 27 = .ok (.iload_n 1, 1) := by decide +kernel
theorem dX6_distanceFromAxis_28 : decode cX6_distanceFromAxis 28 = .ok (.laload, 1) := by decide +kernel
theorem dX6_distanceFromAxis_29 : decode cX6_distanceFromAxis 29 = .ok (.aload_n 0, 1) := by decide +kernel
theorem dX6_distanceFromAxis_30 : decode cX6_distanceFromAxis 30 = .ok (.iload_n 2, 1) := by decide +kernel
theorem dX6_distanceFromAxis_31 : decode cX6_distanceFromAxis 31 = .ok (.iconst 1, 1) := by decide +kernel
theorem dX6_distanceFromAxis_32 : decode cX6_distanceFromAxis 32 = .ok (.invokevirtual 58, 3) := by decide +kernel
theorem dX6_distanceFromAxis_35 : decode cX6_distanceFromAxis 35 = .ok (.lsub, 1) := by decide +kernel
theorem dX6_distanceFromAxis_36 : decode cX6_distanceFromAxis 36 = .ok (.invokestatic 74, 3) := by decide +kernel
theorem dX6_distanceFromAxis_39 : decode cX6_distanceFromAxis 39 = .ok (.ladd, 1) := by decide +kernel
theorem dX6_distanceFromAxis_40 : decode cX6_distanceFromAxis 40 = .ok (.lreturn, 1) := by decide +kernel
set_option maxRecDepth 100000 in
set_option maxHeartbeats 4000000 in
theorem m_X6_distanceFromAxis {l : Launch} {G : z_Gl} {σ : z_St} (w : Nat) (hw : σ.1 32 5 = nI w) (hw6 : w ≤ 6) (hpos : 0 < z_den (σ.1 40) w) (i : Nat) (hi : i < 6) : z_M l G yX6_distanceFromAxis cX6_distanceFromAxis 3 (some .long) (z_rm 3 82) [.ref (z_ad G 32), .int (nI i)] σ (z_p1 (.long (z_dfa (σ.1 40) (σ.2 41) (σ.2 42) w i)) σ) := by
  refine z_M.of (by decide) (Nat.le_of_ble_eq_true rfl) (fun p e s m below meth c C => ?_)
  refine z_sub [0, 1] (lv1 := [(0, .ref (z_ad G 32)), (1, .int (nI i))]) rfl ?_
  refine z_aload_n 0 C dX6_distanceFromAxis_0 0 rfl ?_
  refine z_getf 1 C 32 z_dX6 (⟨rfl, rfl⟩) 1 (by decide) q200 (.ref (z_ad G 40)) rfl dX6_distanceFromAxis_1 ?_
  refine z_iload_n 4 C dX6_distanceFromAxis_4 1 rfl ?_
  refine z_ialdN 5 C 40 (n := 6) (⟨rfl, rfl⟩) i rfl (by omega) (by decide) dX6_distanceFromAxis_5 ?_
  refine z_istore_n 6 C dX6_distanceFromAxis_6 [(2, .int (σ.1 40 i)), (0, .ref (z_ad G 32)), (1, .int (nI i))] (by decide) rfl ?_
  refine z_aload_n 7 C dX6_distanceFromAxis_7 1 rfl ?_
  refine z_getf 8 C 32 z_dX6 (⟨rfl, rfl⟩) 2 (by decide) q202 (.ref (z_ad G 41)) rfl dX6_distanceFromAxis_8 ?_
  refine z_iload_n 11 C dX6_distanceFromAxis_11 2 rfl ?_
  refine z_laldN 12 C 41 (n := 6) (⟨rfl, rfl⟩) i rfl (by omega) (by decide) dX6_distanceFromAxis_12 ?_
  refine z_aload_n 13 C dX6_distanceFromAxis_13 1 rfl ?_
  refine z_iload_n 14 C dX6_distanceFromAxis_14 0 rfl ?_
  refine z_iconst 15 C dX6_distanceFromAxis_15 (nI 0) rfl ?_
  refine z_callV 16 C 32 (⟨rfl, rfl⟩) rfl (As := [.int (σ.1 40 i), .int (nI 0)]) (rest := [.long (σ.2 41 i)]) (m_X6_axisAt w hw (by omega) (σ.1 40 i) 0 (by omega) (hpos)) k_X6_axisAt q792 ⟨rfl, rfl⟩ ⟨Nat.le_of_ble_eq_true rfl, Nat.le_of_ble_eq_true rfl⟩ rfl (Nat.le_of_ble_eq_true rfl) ⟨Nat.le_of_ble_eq_true rfl, Nat.le_of_ble_eq_true rfl⟩ rfl dX6_distanceFromAxis_16 (z_k1 ?_)
  refine z_lsub 19 C dX6_distanceFromAxis_19 ?_
  refine z_callS 20 C (As := [.long ((σ.2 41 i) - (z_ax (σ.1 40) (σ.2 (41 + 0)) w (σ.1 40 i)))]) (rest := []) (m_J9_abs_067f4 ((σ.2 41 i) - (z_ax (σ.1 40) (σ.2 (41 + 0)) w (σ.1 40 i)))) k_J9_abs_067f4 q808 ⟨rfl, rfl⟩ ⟨Nat.le_of_ble_eq_true rfl, Nat.le_of_ble_eq_true rfl⟩ rfl (Nat.le_of_ble_eq_true rfl) ⟨Nat.le_of_ble_eq_true rfl, Nat.le_of_ble_eq_true rfl⟩ rfl dX6_distanceFromAxis_20 (z_k1 ?_)
  refine z_aload_n 23 C dX6_distanceFromAxis_23 1 rfl ?_
  refine z_getf 24 C 32 z_dX6 (⟨rfl, rfl⟩) 3 (by decide) q204 (.ref (z_ad G 42)) rfl dX6_distanceFromAxis_24 ?_
  refine z_iload_n 27 C dX6_distanceFromAxis_27 2 rfl ?_
  refine z_laldN 28 C 42 (n := 6) (⟨rfl, rfl⟩) i rfl (by omega) (by decide) dX6_distanceFromAxis_28 ?_
  refine z_aload_n 29 C dX6_distanceFromAxis_29 1 rfl ?_
  refine z_iload_n 30 C dX6_distanceFromAxis_30 0 rfl ?_
  refine z_iconst 31 C dX6_distanceFromAxis_31 (nI 1) rfl ?_
  refine z_callV 32 C 32 (⟨rfl, rfl⟩) rfl (As := [.int (σ.1 40 i), .int (nI 1)]) (rest := [.long (σ.2 42 i), .long (z_ab ((σ.2 41 i) - (z_ax (σ.1 40) (σ.2 (41 + 0)) w (σ.1 40 i))))]) (m_X6_axisAt w hw (by omega) (σ.1 40 i) 1 (by omega) (hpos)) k_X6_axisAt q792 ⟨rfl, rfl⟩ ⟨Nat.le_of_ble_eq_true rfl, Nat.le_of_ble_eq_true rfl⟩ rfl (Nat.le_of_ble_eq_true rfl) ⟨Nat.le_of_ble_eq_true rfl, Nat.le_of_ble_eq_true rfl⟩ rfl dX6_distanceFromAxis_32 (z_k1 ?_)
  refine z_lsub 35 C dX6_distanceFromAxis_35 ?_
  refine z_callS 36 C (As := [.long ((σ.2 42 i) - (z_ax (σ.1 40) (σ.2 (41 + 1)) w (σ.1 40 i)))]) (rest := [.long (z_ab ((σ.2 41 i) - (z_ax (σ.1 40) (σ.2 (41 + 0)) w (σ.1 40 i))))]) (m_J9_abs_067f4 ((σ.2 42 i) - (z_ax (σ.1 40) (σ.2 (41 + 1)) w (σ.1 40 i)))) k_J9_abs_067f4 q808 ⟨rfl, rfl⟩ ⟨Nat.le_of_ble_eq_true rfl, Nat.le_of_ble_eq_true rfl⟩ rfl (Nat.le_of_ble_eq_true rfl) ⟨Nat.le_of_ble_eq_true rfl, Nat.le_of_ble_eq_true rfl⟩ rfl dX6_distanceFromAxis_36 (z_k1 ?_)
  refine z_ladd 39 C dX6_distanceFromAxis_39 ?_
  refine z_lret 40 C dX6_distanceFromAxis_40 ?_
  exact ⟨rfl, rfl⟩
theorem dX6_farthest_0 : decode cX6_farthest 0 = .ok (.iconst 0, 1) := by decide +kernel
theorem dX6_farthest_1 : decode cX6_farthest 1 = .ok (.istore_n 1, 1) := by decide +kernel
theorem dX6_farthest_2 : decode cX6_farthest 2 = .ok (.aload_n 0, 1) := by decide +kernel
theorem dX6_farthest_3 : decode cX6_farthest 3 = .ok (.iconst 0, 1) := by decide +kernel
theorem dX6_farthest_4 : decode cX6_farthest 4 = .ok (.invokevirtual 78, 3) := by decide +kernel
theorem dX6_farthest_7 : decode cX6_farthest 7 = .ok (.lstore_n 2, 1) := by decide +kernel
theorem dX6_farthest_8 : decode cX6_farthest 8 = .ok (.iconst 1, 1) := by decide +kernel
theorem dX6_farthest_9 : decode cX6_farthest 9 = .ok (.istore 4, 2) := by decide +kernel
theorem dX6_farthest_11 : decode cX6_farthest 11 = .ok (.iload 4, 2) := by decide +kernel
theorem dX6_farthest_13 : decode cX6_farthest 13 = .ok (.aload_n 0, 1) := by decide +kernel
theorem dX6_farthest_14 : decode cX6_farthest 14 = .ok (.getfield 30, 3) := by decide +kernel
theorem dX6_farthest_17 : decode cX6_farthest 17 = .ok (.if_icmp .ge 30, 3) := by decide +kernel
theorem dX6_farthest_20 : decode cX6_farthest 20 = .ok (.aload_n 0, 1) := by decide +kernel
theorem dX6_farthest_21 : decode cX6_farthest 21 = .ok (.iload 4, 2) := by decide +kernel
theorem dX6_farthest_23 : decode cX6_farthest 23 = .ok (.invokevirtual 78, 3) := by decide +kernel
theorem dX6_farthest_26 : decode cX6_farthest 26 = .ok (.lstore 5, 2) := by decide +kernel
theorem dX6_farthest_28 : decode cX6_farthest 28 = .ok (.lload 5, 2) := by decide +kernel
theorem dX6_farthest_30 : decode cX6_farthest 30 = .ok (.lload_n 2, 1) := by decide +kernel
theorem dX6_farthest_31 : decode cX6_farthest 31 = .ok (.lcmp, 1) := by decide +kernel
theorem dX6_farthest_32 : decode cX6_farthest 32 = .ok (.ifCond .le 9, 3) := by decide +kernel
theorem dX6_farthest_35 : decode cX6_farthest 35 = .ok (.lload 5, 2) := by decide +kernel
theorem dX6_farthest_37 : decode cX6_farthest 37 = .ok (.lstore_n 2, 1) := by decide +kernel
theorem dX6_farthest_38 : decode cX6_farthest 38 = .ok (.iload 4, 2) := by decide +kernel
theorem dX6_farthest_40 : decode cX6_farthest 40 = .ok (.istore_n 1, 1) := by decide +kernel
theorem dX6_farthest_41 : decode cX6_farthest 41 = .ok (.iinc 4 1, 3) := by decide +kernel
theorem dX6_farthest_44 : decode cX6_farthest 44 = .ok (.goto (-33), 3) := by decide +kernel
theorem dX6_farthest_47 : decode cX6_farthest 47 = .ok (.iload_n 1, 1) := by decide +kernel
theorem dX6_farthest_48 : decode cX6_farthest 48 = .ok (.ireturn, 1) := by decide +kernel
set_option maxRecDepth 100000 in
set_option maxHeartbeats 4000000 in
theorem m_X6_farthest {l : Launch} {G : z_Gl} {σ : z_St} (w : Nat) (hw : σ.1 32 5 = nI w) (hw6 : w ≤ 6) (hpos : 0 < z_den (σ.1 40) w) (h2 : 2 ≤ w) : z_M l G yX6_farthest cX6_farthest 7 (some .int) (z_rm 4 104) [.ref (z_ad G 32)] σ (z_p1 (.int (nI (z_bm (z_dfa (σ.1 40) (σ.2 41) (σ.2 42) w) w))) σ) := by
  refine z_M.of (by decide) (Nat.le_of_ble_eq_true rfl) (fun p e s m below meth c C => ?_)
  refine z_sub [0] (lv1 := [(0, .ref (z_ad G 32))]) rfl ?_
  refine z_iconst 0 C dX6_farthest_0 (nI 0) rfl ?_
  refine z_istore_n 1 C dX6_farthest_1 [(1, .int (nI 0)), (0, .ref (z_ad G 32))] (by decide) rfl ?_
  refine z_aload_n 2 C dX6_farthest_2 1 rfl ?_
  refine z_iconst 3 C dX6_farthest_3 (nI 0) rfl ?_
  refine z_callV 4 C 32 (⟨rfl, rfl⟩) rfl (As := [.int (nI 0)]) (rest := []) (m_X6_distanceFromAxis w hw (by omega) (hpos) 0 (by omega)) k_X6_distanceFromAxis q804 ⟨rfl, rfl⟩ ⟨Nat.le_of_ble_eq_true rfl, Nat.le_of_ble_eq_true rfl⟩ rfl (Nat.le_of_ble_eq_true rfl) ⟨Nat.le_of_ble_eq_true rfl, Nat.le_of_ble_eq_true rfl⟩ rfl dX6_farthest_4 (z_k1 ?_)
  refine z_lstore_n 7 C dX6_farthest_7 [(2, .long (z_dfa (σ.1 40) (σ.2 41) (σ.2 42) w 0)), (1, .int (nI 0)), (0, .ref (z_ad G 32))] (by decide) rfl ?_
  refine z_iconst 8 C dX6_farthest_8 (nI 1) rfl ?_
  refine z_istore 9 C dX6_farthest_9 [(4, .int (nI 1)), (2, .long (z_dfa (σ.1 40) (σ.2 41) (σ.2 42) w 0)), (1, .int (nI 0)), (0, .ref (z_ad G 32))] (by decide) rfl ?_
  refine z_sub [3, 2, 1, 0] (lv1 := [(0, .ref (z_ad G 32)), (1, .int (nI 0)), (2, .long (z_dfa (σ.1 40) (σ.2 41) (σ.2 42) w 0)), (4, .int (nI 1))]) rfl ?_
  refine z_cv (lv1 := [(0, .ref (z_ad G 32)), (1, .int (nI (z_bm (z_dfa (σ.1 40) (σ.2 41) (σ.2 42) w) 1))), (2, .long (z_dfa (σ.1 40) (σ.2 41) (σ.2 42) w (z_bm (z_dfa (σ.1 40) (σ.2 41) (σ.2 42) w) 1))), (4, .int (nI 1))]) (st1 := []) (σ1 := σ) (by rw [z_bm_1]) rfl rfl ?_
  refine z_lp1 (fun (i : Nat) => 1 ≤ i ∧ i ≤ w) (fun (i : Nat) => w - i) (fun (i : Nat) => [(0, .ref (z_ad G 32)), (1, .int (nI (z_bm (z_dfa (σ.1 40) (σ.2 41) (σ.2 42) w) i))), (2, .long (z_dfa (σ.1 40) (σ.2 41) (σ.2 42) w (z_bm (z_dfa (σ.1 40) (σ.2 41) (σ.2 42) w) i))), (4, .int (nI i))]) (fun (i : Nat) => σ) (fun i hi_11 ih_11 => ?_) 1 (by omega)
  try dsimp only
  refine z_iload 11 C dX6_farthest_11 3 rfl ?_
  refine z_aload_n 13 C dX6_farthest_13 0 rfl ?_
  refine z_getf 14 C 32 z_dX6 (⟨rfl, rfl⟩) 5 (by decide) q208 (.int (nI w)) (z_ci hw) dX6_farthest_14 ?_
  refine z_icmp_geN 17 C i w rfl rfl (by omega) (by omega) 47 dX6_farthest_17 (by decide) (fun c17 => ?_) (fun c17 => ?_)
  · skip
    have ei : w = i := by omega
    subst ei
    refine z_iload_n 47 C dX6_farthest_47 1 rfl ?_
    refine z_iret 48 C dX6_farthest_48 ?_
    exact ⟨rfl, rfl⟩
  · skip
    refine z_aload_n 20 C dX6_farthest_20 0 rfl ?_
    refine z_iload 21 C dX6_farthest_21 3 rfl ?_
    refine z_callV 23 C 32 (⟨rfl, rfl⟩) rfl (As := [.int (nI i)]) (rest := []) (m_X6_distanceFromAxis w hw (by omega) (hpos) i (by omega)) k_X6_distanceFromAxis q804 ⟨rfl, rfl⟩ ⟨Nat.le_of_ble_eq_true rfl, Nat.le_of_ble_eq_true rfl⟩ rfl (Nat.le_of_ble_eq_true rfl) ⟨Nat.le_of_ble_eq_true rfl, Nat.le_of_ble_eq_true rfl⟩ rfl dX6_farthest_23 (z_k1 ?_)
    refine z_lstore 26 C dX6_farthest_26 [(5, .long (z_dfa (σ.1 40) (σ.2 41) (σ.2 42) w i)), (0, .ref (z_ad G 32)), (1, .int (nI (z_bm (z_dfa (σ.1 40) (σ.2 41) (σ.2 42) w) i))), (2, .long (z_dfa (σ.1 40) (σ.2 41) (σ.2 42) w (z_bm (z_dfa (σ.1 40) (σ.2 41) (σ.2 42) w) i))), (4, .int (nI i))] (by decide) rfl ?_
    refine z_lload 28 C dX6_farthest_28 0 rfl ?_
    refine z_lload_n 30 C dX6_farthest_30 3 rfl ?_
    refine z_lcmp_le 31 C 41 dX6_farthest_31 dX6_farthest_32 (by decide) (fun c31 => ?_) (fun c31 => ?_)
    · skip
      refine z_iincN 41 C 4 i [(4, .int (nI (i + 1))), (5, .long (z_dfa (σ.1 40) (σ.2 41) (σ.2 42) w i)), (0, .ref (z_ad G 32)), (1, .int (nI (z_bm (z_dfa (σ.1 40) (σ.2 41) (σ.2 42) w) i))), (2, .long (z_dfa (σ.1 40) (σ.2 41) (σ.2 42) w (z_bm (z_dfa (σ.1 40) (σ.2 41) (σ.2 42) w) i)))] rfl rfl (by decide) rfl dX6_farthest_41 ?_
      refine z_goto 44 C 11 dX6_farthest_44 (by decide) ?_
      refine z_sub [2, 3, 4, 0] (lv1 := [(0, .ref (z_ad G 32)), (1, .int (nI (z_bm (z_dfa (σ.1 40) (σ.2 41) (σ.2 42) w) i))), (2, .long (z_dfa (σ.1 40) (σ.2 41) (σ.2 42) w (z_bm (z_dfa (σ.1 40) (σ.2 41) (σ.2 42) w) i))), (4, .int (nI (i + 1)))]) rfl ?_
      refine z_cv (lv1 := [(0, .ref (z_ad G 32)), (1, .int (nI (z_bm (z_dfa (σ.1 40) (σ.2 41) (σ.2 42) w) (i + 1)))), (2, .long (z_dfa (σ.1 40) (σ.2 41) (σ.2 42) w (z_bm (z_dfa (σ.1 40) (σ.2 41) (σ.2 42) w) (i + 1)))), (4, .int (nI (i + 1)))]) (st1 := []) (σ1 := σ) (by first | rw [z_bm_n (Int64.not_lt.mpr c31)] | rw [z_bm_s (Int64.not_le.mp c31)]) rfl rfl ?_
      exact ih_11 (i + 1) (by omega) (by omega)
    · skip
      refine z_lload 35 C dX6_farthest_35 0 rfl ?_
      refine z_lstore_n 37 C dX6_farthest_37 [(2, .long (z_dfa (σ.1 40) (σ.2 41) (σ.2 42) w i)), (5, .long (z_dfa (σ.1 40) (σ.2 41) (σ.2 42) w i)), (0, .ref (z_ad G 32)), (1, .int (nI (z_bm (z_dfa (σ.1 40) (σ.2 41) (σ.2 42) w) i))), (4, .int (nI i))] (by decide) rfl ?_
      refine z_iload 38 C dX6_farthest_38 4 rfl ?_
      refine z_istore_n 40 C dX6_farthest_40 [(1, .int (nI i)), (2, .long (z_dfa (σ.1 40) (σ.2 41) (σ.2 42) w i)), (5, .long (z_dfa (σ.1 40) (σ.2 41) (σ.2 42) w i)), (0, .ref (z_ad G 32)), (4, .int (nI i))] (by decide) rfl ?_
      refine z_iincN 41 C 4 i [(4, .int (nI (i + 1))), (1, .int (nI i)), (2, .long (z_dfa (σ.1 40) (σ.2 41) (σ.2 42) w i)), (5, .long (z_dfa (σ.1 40) (σ.2 41) (σ.2 42) w i)), (0, .ref (z_ad G 32))] rfl rfl (by decide) rfl dX6_farthest_41 ?_
      refine z_goto 44 C 11 dX6_farthest_44 (by decide) ?_
      refine z_sub [4, 1, 2, 0] (lv1 := [(0, .ref (z_ad G 32)), (1, .int (nI i)), (2, .long (z_dfa (σ.1 40) (σ.2 41) (σ.2 42) w i)), (4, .int (nI (i + 1)))]) rfl ?_
      refine z_cv (lv1 := [(0, .ref (z_ad G 32)), (1, .int (nI (z_bm (z_dfa (σ.1 40) (σ.2 41) (σ.2 42) w) (i + 1)))), (2, .long (z_dfa (σ.1 40) (σ.2 41) (σ.2 42) w (z_bm (z_dfa (σ.1 40) (σ.2 41) (σ.2 42) w) (i + 1)))), (4, .int (nI (i + 1)))]) (st1 := []) (σ1 := σ) (by first | rw [z_bm_n (Int64.not_lt.mpr c31)] | rw [z_bm_s (Int64.not_le.mp c31)]) rfl rfl ?_
      exact ih_11 (i + 1) (by omega) (by omega)
theorem dX6_spreadOfMeans_0 : decode cX6_spreadOfMeans 0 = .ok (.aload_n 0, 1) := by decide +kernel
theorem dX6_spreadOfMeans_1 : decode cX6_spreadOfMeans 1 = .ok (.getfield 27, 3) := by decide +kernel
theorem dX6_spreadOfMeans_4 : decode cX6_spreadOfMeans 4 = .ok (.iconst 0, 1) := by decide +kernel
theorem dX6_spreadOfMeans_5 : decode cX6_spreadOfMeans 5 = .ok (.laload, 1) := by decide +kernel
theorem dX6_spreadOfMeans_6 : decode cX6_spreadOfMeans 6 = .ok (.lstore_n 1, 1) := by decide +kernel
theorem dX6_spreadOfMeans_7 : decode cX6_spreadOfMeans 7 = .ok (.aload_n 0, 1) := by decide +kernel
theorem dX6_spreadOfMeans_8 : decode cX6_spreadOfMeans 8 = .ok (.getfield 27, 3) := by decide +kernel
theorem dX6_spreadOfMeans_11 : decode cX6_spreadOfMeans 11 = .ok (.iconst 0, 1) := by decide +kernel
theorem dX6_spreadOfMeans_12 : decode cX6_spreadOfMeans 12 = .ok (.laload, 1) := by decide +kernel
theorem dX6_spreadOfMeans_13 : decode cX6_spreadOfMeans 13 = .ok (.lstore_n 3, 1) := by decide +kernel
theorem dX6_spreadOfMeans_14 : decode cX6_spreadOfMeans 14 = .ok (.iconst 1, 1) := by decide +kernel
theorem dX6_spreadOfMeans_15 : decode cX6_spreadOfMeans 15 = .ok (.istore 5, 2) := by decide +kernel
theorem dX6_spreadOfMeans_17 : decode cX6_spreadOfMeans 17 = .ok (.iload 5, 2) := by decide +kernel
theorem dX6_spreadOfMeans_19 : decode cX6_spreadOfMeans 19 = .ok (.aload_n 0, 1) := by decide +kernel
theorem dX6_spreadOfMeans_20 : decode cX6_spreadOfMeans 20 = .ok (.getfield 30, 3) := by decide +kernel
theorem dX6_spreadOfMeans_23 : decode cX6_spreadOfMeans 23 = .ok (.if_icmp .ge 33, 3) := by decide +kernel
theorem dX6_spreadOfMeans_26 : decode cX6_spreadOfMeans 26 = .ok (.lload_n 1, 1) := by decide +kernel
theorem dX6_spreadOfMeans_27 : decode cX6_spreadOfMeans 27 = .ok (.aload_n 0, 1) := by decide +kernel
theorem dX6_spreadOfMeans_28 : decode cX6_spreadOfMeans 28 = .ok (.getfield 27, 3) := by decide +kernel
theorem dX6_spreadOfMeans_31 : decode cX6_spreadOfMeans 31 = .ok (.iload 5, 2) := by decide +kernel
theorem dX6_spreadOfMeans_33 : decode cX6_spreadOfMeans 33 = .ok (.laload, 1) := by decide +kernel
theorem dX6_spreadOfMeans_34 : decode cX6_spreadOfMeans 34 = .ok (.invokestatic 66, 3) := by decide +kernel
theorem dX6_spreadOfMeans_37 : decode cX6_spreadOfMeans 37 = .ok (.lstore_n 1, 1) := by decide +kernel
theorem dX6_spreadOfMeans_38 : decode cX6_spreadOfMeans 38 = .ok (.lload_n 3, 1) := by decide +kernel
theorem dX6_spreadOfMeans_39 : decode cX6_spreadOfMeans 39 = .ok (.aload_n 0, 1) := by decide +kernel
theorem dX6_spreadOfMeans_40 : decode cX6_spreadOfMeans 40 = .ok (.getfield 27, 3) := by decide +kernel
theorem dX6_spreadOfMeans_43 : decode cX6_spreadOfMeans 43 = .ok (.iload 5, 2) := by decide +kernel
theorem dX6_spreadOfMeans_45 : decode cX6_spreadOfMeans 45 = .ok (.laload, 1) := by decide +kernel
theorem dX6_spreadOfMeans_46 : decode cX6_spreadOfMeans 46 = .ok (.invokestatic 71, 3) := by decide +kernel
theorem dX6_spreadOfMeans_49 : decode cX6_spreadOfMeans 49 = .ok (.lstore_n 3, 1) := by decide +kernel
theorem dX6_spreadOfMeans_50 : decode cX6_spreadOfMeans 50 = .ok (.iinc 5 1, 3) := by decide +kernel
theorem dX6_spreadOfMeans_53 : decode cX6_spreadOfMeans 53 = .ok (.goto (-36), 3) := by decide +kernel
theorem dX6_spreadOfMeans_56 : decode cX6_spreadOfMeans 56 = .ok (.lload_n 1, 1) := by decide +kernel
theorem dX6_spreadOfMeans_57 : decode cX6_spreadOfMeans 57 = .ok (.lload_n 3, 1) := by decide +kernel
theorem dX6_spreadOfMeans_58 : decode cX6_spreadOfMeans 58 = .ok (.lsub, 1) := by decide +kernel
theorem dX6_spreadOfMeans_59 : decode cX6_spreadOfMeans 59 = .ok (.lreturn, 1) := by decide +kernel
set_option maxRecDepth 100000 in
set_option maxHeartbeats 4000000 in
theorem m_X6_spreadOfMeans {l : Launch} {G : z_Gl} {σ : z_St} (w : Nat) (hw : σ.1 32 5 = nI w) (hw6 : w ≤ 6) (h1 : 1 ≤ w) : z_M l G yX6_spreadOfMeans cX6_spreadOfMeans 6 (some .long) (z_rm 1 23) [.ref (z_ad G 32)] σ (z_p1 (.long (z_fmx (σ.2 43) (σ.2 43 0) w - z_fmn (σ.2 43) (σ.2 43 0) w)) σ) := by
  refine z_M.of (by decide) (Nat.le_of_ble_eq_true rfl) (fun p e s m below meth c C => ?_)
  refine z_sub [0] (lv1 := [(0, .ref (z_ad G 32))]) rfl ?_
  refine z_aload_n 0 C dX6_spreadOfMeans_0 0 rfl ?_
  refine z_getf 1 C 32 z_dX6 (⟨rfl, rfl⟩) 4 (by decide) q206 (.ref (z_ad G 43)) rfl dX6_spreadOfMeans_1 ?_
  refine z_iconst 4 C dX6_spreadOfMeans_4 (nI 0) rfl ?_
  refine z_laldN 5 C 43 (n := 6) (⟨rfl, rfl⟩) 0 rfl (by omega) (by decide) dX6_spreadOfMeans_5 ?_
  refine z_lstore_n 6 C dX6_spreadOfMeans_6 [(1, .long (σ.2 43 0)), (0, .ref (z_ad G 32))] (by decide) rfl ?_
  refine z_aload_n 7 C dX6_spreadOfMeans_7 1 rfl ?_
  refine z_getf 8 C 32 z_dX6 (⟨rfl, rfl⟩) 4 (by decide) q206 (.ref (z_ad G 43)) rfl dX6_spreadOfMeans_8 ?_
  refine z_iconst 11 C dX6_spreadOfMeans_11 (nI 0) rfl ?_
  refine z_laldN 12 C 43 (n := 6) (⟨rfl, rfl⟩) 0 rfl (by omega) (by decide) dX6_spreadOfMeans_12 ?_
  refine z_lstore_n 13 C dX6_spreadOfMeans_13 [(3, .long (σ.2 43 0)), (1, .long (σ.2 43 0)), (0, .ref (z_ad G 32))] (by decide) rfl ?_
  refine z_iconst 14 C dX6_spreadOfMeans_14 (nI 1) rfl ?_
  refine z_istore 15 C dX6_spreadOfMeans_15 [(5, .int (nI 1)), (3, .long (σ.2 43 0)), (1, .long (σ.2 43 0)), (0, .ref (z_ad G 32))] (by decide) rfl ?_
  refine z_sub [3, 2, 1, 0] (lv1 := [(0, .ref (z_ad G 32)), (1, .long (σ.2 43 0)), (3, .long (σ.2 43 0)), (5, .int (nI 1))]) rfl ?_
  refine z_cv (lv1 := [(0, .ref (z_ad G 32)), (1, .long (z_fmx (σ.2 43) (σ.2 43 0) 1)), (3, .long (z_fmn (σ.2 43) (σ.2 43 0) 1)), (5, .int (nI 1))]) (st1 := []) (σ1 := σ) (by rw [← z_fmx_1, ← z_fmn_1]) rfl rfl ?_
  refine z_lp1 (fun (i : Nat) => 1 ≤ i ∧ i ≤ w) (fun (i : Nat) => w - i) (fun (i : Nat) => [(0, .ref (z_ad G 32)), (1, .long (z_fmx (σ.2 43) (σ.2 43 0) i)), (3, .long (z_fmn (σ.2 43) (σ.2 43 0) i)), (5, .int (nI i))]) (fun (i : Nat) => σ) (fun i hi_17 ih_17 => ?_) 1 (by omega)
  try dsimp only
  refine z_iload 17 C dX6_spreadOfMeans_17 3 rfl ?_
  refine z_aload_n 19 C dX6_spreadOfMeans_19 0 rfl ?_
  refine z_getf 20 C 32 z_dX6 (⟨rfl, rfl⟩) 5 (by decide) q208 (.int (nI w)) (z_ci hw) dX6_spreadOfMeans_20 ?_
  refine z_icmp_geN 23 C i w rfl rfl (by omega) (by omega) 56 dX6_spreadOfMeans_23 (by decide) (fun c23 => ?_) (fun c23 => ?_)
  · skip
    have ei : w = i := by omega
    subst ei
    refine z_lload_n 56 C dX6_spreadOfMeans_56 1 rfl ?_
    refine z_lload_n 57 C dX6_spreadOfMeans_57 2 rfl ?_
    refine z_lsub 58 C dX6_spreadOfMeans_58 ?_
    refine z_lret 59 C dX6_spreadOfMeans_59 ?_
    exact ⟨rfl, rfl⟩
  · skip
    refine z_lload_n 26 C dX6_spreadOfMeans_26 1 rfl ?_
    refine z_aload_n 27 C dX6_spreadOfMeans_27 0 rfl ?_
    refine z_getf 28 C 32 z_dX6 (⟨rfl, rfl⟩) 4 (by decide) q206 (.ref (z_ad G 43)) rfl dX6_spreadOfMeans_28 ?_
    refine z_iload 31 C dX6_spreadOfMeans_31 3 rfl ?_
    refine z_laldN 33 C 43 (n := 6) (⟨rfl, rfl⟩) i rfl (by omega) (by decide) dX6_spreadOfMeans_33 ?_
    refine z_callS 34 C (As := [.long (z_fmx (σ.2 43) (σ.2 43 0) i), .long (σ.2 43 i)]) (rest := []) (m_J9_max_f86c9 (z_fmx (σ.2 43) (σ.2 43 0) i) (σ.2 43 i)) k_J9_max_f86c9 q794 ⟨rfl, rfl⟩ ⟨Nat.le_of_ble_eq_true rfl, Nat.le_of_ble_eq_true rfl⟩ rfl (Nat.le_of_ble_eq_true rfl) ⟨Nat.le_of_ble_eq_true rfl, Nat.le_of_ble_eq_true rfl⟩ rfl dX6_spreadOfMeans_34 (z_k1 ?_)
    refine z_lstore_n 37 C dX6_spreadOfMeans_37 [(1, .long (z_mx (z_fmx (σ.2 43) (σ.2 43 0) i) (σ.2 43 i))), (0, .ref (z_ad G 32)), (3, .long (z_fmn (σ.2 43) (σ.2 43 0) i)), (5, .int (nI i))] (by decide) rfl ?_
    refine z_lload_n 38 C dX6_spreadOfMeans_38 2 rfl ?_
    refine z_aload_n 39 C dX6_spreadOfMeans_39 1 rfl ?_
    refine z_getf 40 C 32 z_dX6 (⟨rfl, rfl⟩) 4 (by decide) q206 (.ref (z_ad G 43)) rfl dX6_spreadOfMeans_40 ?_
    refine z_iload 43 C dX6_spreadOfMeans_43 3 rfl ?_
    refine z_laldN 45 C 43 (n := 6) (⟨rfl, rfl⟩) i rfl (by omega) (by decide) dX6_spreadOfMeans_45 ?_
    refine z_callS 46 C (As := [.long (z_fmn (σ.2 43) (σ.2 43 0) i), .long (σ.2 43 i)]) (rest := []) (m_J9_min_f86c9 (z_fmn (σ.2 43) (σ.2 43 0) i) (σ.2 43 i)) k_J9_min_f86c9 q795 ⟨rfl, rfl⟩ ⟨Nat.le_of_ble_eq_true rfl, Nat.le_of_ble_eq_true rfl⟩ rfl (Nat.le_of_ble_eq_true rfl) ⟨Nat.le_of_ble_eq_true rfl, Nat.le_of_ble_eq_true rfl⟩ rfl dX6_spreadOfMeans_46 (z_k1 ?_)
    refine z_lstore_n 49 C dX6_spreadOfMeans_49 [(3, .long (z_mn (z_fmn (σ.2 43) (σ.2 43 0) i) (σ.2 43 i))), (1, .long (z_mx (z_fmx (σ.2 43) (σ.2 43 0) i) (σ.2 43 i))), (0, .ref (z_ad G 32)), (5, .int (nI i))] (by decide) rfl ?_
    refine z_iincN 50 C 3 i [(5, .int (nI (i + 1))), (3, .long (z_mn (z_fmn (σ.2 43) (σ.2 43 0) i) (σ.2 43 i))), (1, .long (z_mx (z_fmx (σ.2 43) (σ.2 43 0) i) (σ.2 43 i))), (0, .ref (z_ad G 32))] rfl rfl (by decide) rfl dX6_spreadOfMeans_50 ?_
    refine z_goto 53 C 17 dX6_spreadOfMeans_53 (by decide) ?_
    refine z_sub [3, 2, 1, 0] (lv1 := [(0, .ref (z_ad G 32)), (1, .long (z_mx (z_fmx (σ.2 43) (σ.2 43 0) i) (σ.2 43 i))), (3, .long (z_mn (z_fmn (σ.2 43) (σ.2 43 0) i) (σ.2 43 i))), (5, .int (nI (i + 1)))]) rfl ?_
    refine z_cv (lv1 := [(0, .ref (z_ad G 32)), (1, .long (z_fmx (σ.2 43) (σ.2 43 0) (i + 1))), (3, .long (z_fmn (σ.2 43) (σ.2 43 0) (i + 1))), (5, .int (nI (i + 1)))]) (st1 := []) (σ1 := σ) rfl rfl rfl ?_
    exact ih_17 (i + 1) (by omega) (by omega)
theorem dX6_mismatch_0 : decode cX6_mismatch 0 = .ok (.lconst 0, 1) := by decide +kernel
theorem dX6_mismatch_1 : decode cX6_mismatch 1 = .ok (.lstore 4, 2) := by decide +kernel
theorem dX6_mismatch_3 : decode cX6_mismatch 3 = .ok (.iconst 0, 1) := by decide +kernel
theorem dX6_mismatch_4 : decode cX6_mismatch 4 = .ok (.istore 6, 2) := by decide +kernel
theorem dX6_mismatch_6 : decode cX6_mismatch 6 = .ok (.iload 6, 2) := by decide +kernel
theorem dX6_mismatch_8 : decode cX6_mismatch 8 = .ok (.bipush 24, 2) := by decide +kernel
theorem dX6_mismatch_10 : decode cX6_mismatch 10 = .ok (.if_icmp .ge 41, 3) := by decide +kernel
theorem dX6_mismatch_13 : decode cX6_mismatch 13 = .ok (.lload 4, 2) := by decide +kernel
theorem dX6_mismatch_15 : decode cX6_mismatch 15 = .ok (.aload_n 0, 1) := by decide +kernel
theorem dX6_mismatch_16 : decode cX6_mismatch 16 = .ok (.getfield 13, 3) := by decide +kernel
theorem dX6_mismatch_19 : decode cX6_mismatch 19 = .ok (.iload_n 1, 1) := by decide +kernel
theorem dX6_mismatch_20 : decode cX6_mismatch 20 = .ok (.aaload, 1) := by decide +kernel
theorem dX6_mismatch_21 : decode cX6_mismatch 21 = .ok (.iload 6, 2) := by decide +kernel
theorem dX6_mismatch_23 : decode cX6_mismatch 23 = .ok (.iload_n 3, 1) := by decide +kernel
theorem dX6_mismatch_24 : decode cX6_mismatch 24 = .ok (.isub, 1) := by decide +kernel
theorem dX6_mismatch_25 : decode cX6_mismatch 25 = .ok (.invokestatic 82, 3) := by decide +kernel
theorem dX6_mismatch_28 : decode cX6_mismatch 28 = .ok (.laload, 1) := by decide +kernel
theorem dX6_mismatch_29 : decode cX6_mismatch 29 = .ok (.aload_n 0, 1) := by decide +kernel
theorem dX6_mismatch_30 : decode cX6_mismatch 30 = .ok (.getfield 13, 3) := by decide +kernel
theorem dX6_mismatch_33 : decode cX6_mismatch 33 = .ok (.iload_n 2, 1) := by decide +kernel
theorem dX6_mismatch_34 : decode cX6_mismatch 34 = .ok (.aaload, 1) := by decide +kernel
theorem dX6_mismatch_35 : decode cX6_mismatch 35 = .ok (.iload 6, 2) := by decide +kernel
theorem dX6_mismatch_37 : decode cX6_mismatch 37 = .ok (.laload, 1) := by decide +kernel
theorem dX6_mismatch_38 : decode cX6_mismatch 38 = .ok (.lsub, 1) := by decide +kernel
theorem dX6_mismatch_39 : decode cX6_mismatch 39 = .ok (.invokestatic 74, 3) := by decide +kernel
theorem dX6_mismatch_42 : decode cX6_mismatch 42 = .ok (.ladd, 1) := by decide +kernel
theorem dX6_mismatch_43 : decode cX6_mismatch 43 = .ok (.lstore 4, 2) := by decide +kernel
theorem dX6_mismatch_45 : decode cX6_mismatch 45 = .ok (.iinc 6 1, 3) := by decide +kernel
theorem dX6_mismatch_48 : decode cX6_mismatch 48 = .ok (.goto (-42), 3) := by decide +kernel
theorem dX6_mismatch_51 : decode cX6_mismatch 51 = .ok (.lload 4, 2) := by decide +kernel
theorem dX6_mismatch_53 : decode cX6_mismatch 53 = .ok (.lreturn, 1) := by decide +kernel
set_option maxRecDepth 100000 in
set_option maxHeartbeats 4000000 in
theorem m_X6_mismatch {l : Launch} {G : z_Gl} {σ : z_St} (a b u : Nat) (ha : a < 6) (hb : b < 6) (hu : u < 24) : z_M l G yX6_mismatch cX6_mismatch 7 (some .long) (z_rm 2 42) [.ref (z_ad G 32), .int (nI a), .int (nI b), .int (nI u)] σ (z_p1 (.long (z_mm (σ.2 (34 + a)) (σ.2 (34 + b)) u 24)) σ) := by
  refine z_M.of (by decide) (Nat.le_of_ble_eq_true rfl) (fun p e s m below meth c C => ?_)
  refine z_sub [0, 1, 2, 3] (lv1 := [(0, .ref (z_ad G 32)), (1, .int (nI a)), (2, .int (nI b)), (3, .int (nI u))]) rfl ?_
  refine z_lconst 0 C dX6_mismatch_0 0 rfl ?_
  refine z_lstore 1 C dX6_mismatch_1 [(4, .long 0), (0, .ref (z_ad G 32)), (1, .int (nI a)), (2, .int (nI b)), (3, .int (nI u))] (by decide) rfl ?_
  refine z_iconst 3 C dX6_mismatch_3 (nI 0) rfl ?_
  refine z_istore 4 C dX6_mismatch_4 [(6, .int (nI 0)), (4, .long 0), (0, .ref (z_ad G 32)), (1, .int (nI a)), (2, .int (nI b)), (3, .int (nI u))] (by decide) rfl ?_
  refine z_sub [2, 3, 4, 5, 1, 0] (lv1 := [(0, .ref (z_ad G 32)), (1, .int (nI a)), (2, .int (nI b)), (3, .int (nI u)), (4, .long 0), (6, .int (nI 0))]) rfl ?_
  refine z_cv (lv1 := [(0, .ref (z_ad G 32)), (1, .int (nI a)), (2, .int (nI b)), (3, .int (nI u)), (4, .long (z_mm (σ.2 (34 + a)) (σ.2 (34 + b)) u 0)), (6, .int (nI 0))]) (st1 := []) (σ1 := σ) rfl rfl rfl ?_
  refine z_lp1 (fun (k : Nat) => k ≤ 24) (fun (k : Nat) => 24 - k) (fun (k : Nat) => [(0, .ref (z_ad G 32)), (1, .int (nI a)), (2, .int (nI b)), (3, .int (nI u)), (4, .long (z_mm (σ.2 (34 + a)) (σ.2 (34 + b)) u k)), (6, .int (nI k))]) (fun (k : Nat) => σ) (fun k hi_6 ih_6 => ?_) 0 (by omega)
  try dsimp only
  refine z_iload 6 C dX6_mismatch_6 5 rfl ?_
  refine z_bipush 8 C dX6_mismatch_8 (nI 24) rfl ?_
  refine z_icmp_geN 10 C k 24 rfl rfl (by omega) (by omega) 51 dX6_mismatch_10 (by decide) (fun c10 => ?_) (fun c10 => ?_)
  · skip
    have ek : k = 24 := by omega
    subst ek
    refine z_lload 51 C dX6_mismatch_51 4 rfl ?_
    refine z_lret 53 C dX6_mismatch_53 ?_
    exact ⟨rfl, rfl⟩
  · skip
    refine z_lload 13 C dX6_mismatch_13 4 rfl ?_
    refine z_aload_n 15 C dX6_mismatch_15 0 rfl ?_
    refine z_getf 16 C 32 z_dX6 (⟨rfl, rfl⟩) 0 (by decide) q198 (.ref (z_ad G 33)) rfl dX6_mismatch_16 ?_
    refine z_iload_n 19 C dX6_mismatch_19 1 rfl ?_
    refine z_aaldN 20 C 33 (n := 6) ⟨Or.inr rfl, rfl⟩ a (34 + a) rfl (by omega) (by decide) rfl dX6_mismatch_20 ?_
    refine z_iload 21 C dX6_mismatch_21 5 rfl ?_
    refine z_iload_n 23 C dX6_mismatch_23 3 rfl ?_
    refine z_isub 24 C dX6_mismatch_24 ?_
    refine z_callSN 25 C (As := [.int ((nI k) - (nI u))]) (rest := [.ref (z_ad G (34 + a)), .long (z_mm (σ.2 (34 + a)) (σ.2 (34 + b)) u k)]) (m_X7_place_d k u (by omega) (by omega)) k_X7_place (List.mem_of_getElem? (i := 51) rfl) ⟨rfl, rfl⟩ ⟨Nat.le_of_ble_eq_true rfl, Nat.le_of_ble_eq_true rfl⟩ rfl (Nat.le_of_ble_eq_true rfl) ⟨Nat.le_of_ble_eq_true rfl, Nat.le_of_ble_eq_true rfl⟩ rfl dX6_mismatch_25 (z_k1 ?_)
    refine z_laldN 28 C (34 + a) (n := 24) (z_trK _ (by omega)) ((k + (24 - u % 24)) % 24) rfl (by omega) (by decide) dX6_mismatch_28 ?_
    refine z_aload_n 29 C dX6_mismatch_29 0 rfl ?_
    refine z_getf 30 C 32 z_dX6 (⟨rfl, rfl⟩) 0 (by decide) q198 (.ref (z_ad G 33)) rfl dX6_mismatch_30 ?_
    refine z_iload_n 33 C dX6_mismatch_33 2 rfl ?_
    refine z_aaldN 34 C 33 (n := 6) ⟨Or.inr rfl, rfl⟩ b (34 + b) rfl (by omega) (by decide) rfl dX6_mismatch_34 ?_
    refine z_iload 35 C dX6_mismatch_35 5 rfl ?_
    refine z_laldN 37 C (34 + b) (n := 24) (z_trK _ (by omega)) k rfl (by omega) (by decide) dX6_mismatch_37 ?_
    refine z_lsub 38 C dX6_mismatch_38 ?_
    refine z_callS 39 C (As := [.long ((σ.2 (34 + a) ((k + (24 - u % 24)) % 24)) - (σ.2 (34 + b) k))]) (rest := [.long (z_mm (σ.2 (34 + a)) (σ.2 (34 + b)) u k)]) (m_J9_abs_067f4 ((σ.2 (34 + a) ((k + (24 - u % 24)) % 24)) - (σ.2 (34 + b) k))) k_J9_abs_067f4 q808 ⟨rfl, rfl⟩ ⟨Nat.le_of_ble_eq_true rfl, Nat.le_of_ble_eq_true rfl⟩ rfl (Nat.le_of_ble_eq_true rfl) ⟨Nat.le_of_ble_eq_true rfl, Nat.le_of_ble_eq_true rfl⟩ rfl dX6_mismatch_39 (z_k1 ?_)
    refine z_ladd 42 C dX6_mismatch_42 ?_
    refine z_lstore 43 C dX6_mismatch_43 [(4, .long ((z_mm (σ.2 (34 + a)) (σ.2 (34 + b)) u k) + (z_ab ((σ.2 (34 + a) ((k + (24 - u % 24)) % 24)) - (σ.2 (34 + b) k))))), (0, .ref (z_ad G 32)), (1, .int (nI a)), (2, .int (nI b)), (3, .int (nI u)), (6, .int (nI k))] (by decide) rfl ?_
    refine z_iincN 45 C 5 k [(6, .int (nI (k + 1))), (4, .long ((z_mm (σ.2 (34 + a)) (σ.2 (34 + b)) u k) + (z_ab ((σ.2 (34 + a) ((k + (24 - u % 24)) % 24)) - (σ.2 (34 + b) k))))), (0, .ref (z_ad G 32)), (1, .int (nI a)), (2, .int (nI b)), (3, .int (nI u))] rfl rfl (by decide) rfl dX6_mismatch_45 ?_
    refine z_goto 48 C 6 dX6_mismatch_48 (by decide) ?_
    refine z_sub [2, 3, 4, 5, 1, 0] (lv1 := [(0, .ref (z_ad G 32)), (1, .int (nI a)), (2, .int (nI b)), (3, .int (nI u)), (4, .long ((z_mm (σ.2 (34 + a)) (σ.2 (34 + b)) u k) + (z_ab ((σ.2 (34 + a) ((k + (24 - u % 24)) % 24)) - (σ.2 (34 + b) k))))), (6, .int (nI (k + 1)))]) rfl ?_
    refine z_cv (lv1 := [(0, .ref (z_ad G 32)), (1, .int (nI a)), (2, .int (nI b)), (3, .int (nI u)), (4, .long (z_mm (σ.2 (34 + a)) (σ.2 (34 + b)) u (k + 1))), (6, .int (nI (k + 1)))]) (st1 := []) (σ1 := σ) rfl rfl rfl ?_
    exact ih_6 (k + 1) (by omega) (by omega)
theorem dX6_bestMatch_0 : decode cX6_bestMatch 0 = .ok (.iconst 0, 1) := by decide +kernel
theorem dX6_bestMatch_1 : decode cX6_bestMatch 1 = .ok (.istore_n 3, 1) := by decide +kernel
theorem dX6_bestMatch_2 : decode cX6_bestMatch 2 = .ok (.aload_n 0, 1) := by decide +kernel
theorem dX6_bestMatch_3 : decode cX6_bestMatch 3 = .ok (.iload_n 1, 1) := by decide +kernel
theorem dX6_bestMatch_4 : decode cX6_bestMatch 4 = .ok (.iload_n 2, 1) := by decide +kernel
theorem dX6_bestMatch_5 : decode cX6_bestMatch 5 = .ok (.iconst 0, 1) := by decide +kernel
theorem dX6_bestMatch_6 : decode cX6_bestMatch 6 = .ok (.invokevirtual 86, 3) := by decide +kernel
theorem dX6_bestMatch_9 : decode cX6_bestMatch 9 = .ok (.lstore 4, 2) := by decide +kernel
theorem dX6_bestMatch_11 : decode cX6_bestMatch 11 = .ok (.iconst 1, 1) := by decide +kernel
theorem dX6_bestMatch_12 : decode cX6_bestMatch 12 = .ok (.istore 6, 2) := by decide +kernel
theorem dX6_bestMatch_14 : decode cX6_bestMatch 14 = .ok (.iload 6, 2) := by decide +kernel
theorem dX6_bestMatch_16 : decode cX6_bestMatch 16 = .ok (.bipush 24, 2) := by decide +kernel
theorem dX6_bestMatch_18 : decode cX6_bestMatch 18 = .ok (.if_icmp .ge 34, 3) := by decide +kernel
theorem dX6_bestMatch_21 : decode cX6_bestMatch 21 = .ok (.aload_n 0, 1) := by decide +kernel
theorem dX6_bestMatch_22 : decode cX6_bestMatch 22 = .ok (.iload_n 1, 1) := by decide +kernel
theorem dX6_bestMatch_23 : decode cX6_bestMatch 23 = .ok (.iload_n 2, 1) := by decide +kernel
theorem dX6_bestMatch_24 : decode cX6_bestMatch 24 = .ok (.iload 6, 2) := by decide +kernel
theorem dX6_bestMatch_26 : decode cX6_bestMatch 26 = .ok (.invokevirtual 86, 3) := by decide +kernel
theorem dX6_bestMatch_29 : decode cX6_bestMatch 29 = .ok (.lstore 7, 2) := by decide +kernel
theorem dX6_bestMatch_31 : decode cX6_bestMatch 31 = .ok (.lload 7, 2) := by decide +kernel
theorem dX6_bestMatch_33 : decode cX6_bestMatch 33 = .ok (.lload 4, 2) := by decide +kernel
theorem dX6_bestMatch_35 : decode cX6_bestMatch 35 = .ok (.lcmp, 1) := by decide +kernel
theorem dX6_bestMatch_36 : decode cX6_bestMatch 36 = .ok (.ifCond .ge 10, 3) := by decide +kernel
theorem dX6_bestMatch_39 : decode cX6_bestMatch 39 = .ok (.lload 7, 2) := by decide +kernel
theorem dX6_bestMatch_41 : decode cX6_bestMatch 41 = .ok (.lstore 4, 2) := by decide +kernel
theorem dX6_bestMatch_43 : decode cX6_bestMatch 43 = .ok (.iload 6, 2) := by decide +kernel
theorem dX6_bestMatch_45 : decode cX6_bestMatch 45 = .ok (.istore_n 3, 1) := by decide +kernel
theorem dX6_bestMatch_46 : decode cX6_bestMatch 46 = .ok (.iinc 6 1, 3) := by decide +kernel
theorem dX6_bestMatch_49 : decode cX6_bestMatch 49 = .ok (.goto (-35), 3) := by decide +kernel
theorem dX6_bestMatch_52 : decode cX6_bestMatch 52 = .ok (.iload_n 3, 1) := by decide +kernel
theorem dX6_bestMatch_53 : decode cX6_bestMatch 53 = .ok (.ireturn, 1) := by decide +kernel
set_option maxRecDepth 100000 in
set_option maxHeartbeats 4000000 in
theorem m_X6_bestMatch {l : Launch} {G : z_Gl} {σ : z_St} (a b : Nat) (ha : a < 6) (hb : b < 6) : z_M l G yX6_bestMatch cX6_bestMatch 9 (some .int) (z_rm 3 68) [.ref (z_ad G 32), .int (nI a), .int (nI b)] σ (z_p1 (.int (nI (z_bl (fun u => z_mm (σ.2 (34 + a)) (σ.2 (34 + b)) u 24) 24))) σ) := by
  refine z_M.of (by decide) (Nat.le_of_ble_eq_true rfl) (fun p e s m below meth c C => ?_)
  refine z_sub [0, 1, 2] (lv1 := [(0, .ref (z_ad G 32)), (1, .int (nI a)), (2, .int (nI b))]) rfl ?_
  refine z_iconst 0 C dX6_bestMatch_0 (nI 0) rfl ?_
  refine z_istore_n 1 C dX6_bestMatch_1 [(3, .int (nI 0)), (0, .ref (z_ad G 32)), (1, .int (nI a)), (2, .int (nI b))] (by decide) rfl ?_
  refine z_aload_n 2 C dX6_bestMatch_2 1 rfl ?_
  refine z_iload_n 3 C dX6_bestMatch_3 2 rfl ?_
  refine z_iload_n 4 C dX6_bestMatch_4 3 rfl ?_
  refine z_iconst 5 C dX6_bestMatch_5 (nI 0) rfl ?_
  refine z_callV 6 C 32 (⟨rfl, rfl⟩) rfl (As := [.int (nI a), .int (nI b), .int (nI 0)]) (rest := []) (m_X6_mismatch a b 0 (by omega) (by omega) (by omega)) k_X6_mismatch q834 ⟨rfl, rfl⟩ ⟨Nat.le_of_ble_eq_true rfl, Nat.le_of_ble_eq_true rfl⟩ rfl (Nat.le_of_ble_eq_true rfl) ⟨Nat.le_of_ble_eq_true rfl, Nat.le_of_ble_eq_true rfl⟩ rfl dX6_bestMatch_6 (z_k1 ?_)
  refine z_lstore 9 C dX6_bestMatch_9 [(4, .long (z_mm (σ.2 (34 + a)) (σ.2 (34 + b)) 0 24)), (3, .int (nI 0)), (0, .ref (z_ad G 32)), (1, .int (nI a)), (2, .int (nI b))] (by decide) rfl ?_
  refine z_iconst 11 C dX6_bestMatch_11 (nI 1) rfl ?_
  refine z_istore 12 C dX6_bestMatch_12 [(6, .int (nI 1)), (4, .long (z_mm (σ.2 (34 + a)) (σ.2 (34 + b)) 0 24)), (3, .int (nI 0)), (0, .ref (z_ad G 32)), (1, .int (nI a)), (2, .int (nI b))] (by decide) rfl ?_
  refine z_sub [3, 4, 5, 2, 1, 0] (lv1 := [(0, .ref (z_ad G 32)), (1, .int (nI a)), (2, .int (nI b)), (3, .int (nI 0)), (4, .long (z_mm (σ.2 (34 + a)) (σ.2 (34 + b)) 0 24)), (6, .int (nI 1))]) rfl ?_
  refine z_cv (lv1 := [(0, .ref (z_ad G 32)), (1, .int (nI a)), (2, .int (nI b)), (3, .int (nI (z_bl (fun u => z_mm (σ.2 (34 + a)) (σ.2 (34 + b)) u 24) 1))), (4, .long (z_mm (σ.2 (34 + a)) (σ.2 (34 + b)) (z_bl (fun u => z_mm (σ.2 (34 + a)) (σ.2 (34 + b)) u 24) 1) 24)), (6, .int (nI 1))]) (st1 := []) (σ1 := σ) (by rw [z_bl_1]) rfl rfl ?_
  refine z_lp1 (fun (i : Nat) => 1 ≤ i ∧ i ≤ 24) (fun (i : Nat) => 24 - i) (fun (i : Nat) => [(0, .ref (z_ad G 32)), (1, .int (nI a)), (2, .int (nI b)), (3, .int (nI (z_bl (fun u => z_mm (σ.2 (34 + a)) (σ.2 (34 + b)) u 24) i))), (4, .long (z_mm (σ.2 (34 + a)) (σ.2 (34 + b)) (z_bl (fun u => z_mm (σ.2 (34 + a)) (σ.2 (34 + b)) u 24) i) 24)), (6, .int (nI i))]) (fun (i : Nat) => σ) (fun i hi_14 ih_14 => ?_) 1 (by omega)
  try dsimp only
  refine z_iload 14 C dX6_bestMatch_14 5 rfl ?_
  refine z_bipush 16 C dX6_bestMatch_16 (nI 24) rfl ?_
  refine z_icmp_geN 18 C i 24 rfl rfl (by omega) (by omega) 52 dX6_bestMatch_18 (by decide) (fun c18 => ?_) (fun c18 => ?_)
  · skip
    have ei : i = 24 := by omega
    subst ei
    refine z_iload_n 52 C dX6_bestMatch_52 3 rfl ?_
    refine z_iret 53 C dX6_bestMatch_53 ?_
    exact ⟨rfl, rfl⟩
  · skip
    refine z_aload_n 21 C dX6_bestMatch_21 0 rfl ?_
    refine z_iload_n 22 C dX6_bestMatch_22 1 rfl ?_
    refine z_iload_n 23 C dX6_bestMatch_23 2 rfl ?_
    refine z_iload 24 C dX6_bestMatch_24 5 rfl ?_
    refine z_callV 26 C 32 (⟨rfl, rfl⟩) rfl (As := [.int (nI a), .int (nI b), .int (nI i)]) (rest := []) (m_X6_mismatch a b i (by omega) (by omega) (by omega)) k_X6_mismatch q834 ⟨rfl, rfl⟩ ⟨Nat.le_of_ble_eq_true rfl, Nat.le_of_ble_eq_true rfl⟩ rfl (Nat.le_of_ble_eq_true rfl) ⟨Nat.le_of_ble_eq_true rfl, Nat.le_of_ble_eq_true rfl⟩ rfl dX6_bestMatch_26 (z_k1 ?_)
    refine z_lstore 29 C dX6_bestMatch_29 [(7, .long (z_mm (σ.2 (34 + a)) (σ.2 (34 + b)) i 24)), (0, .ref (z_ad G 32)), (1, .int (nI a)), (2, .int (nI b)), (3, .int (nI (z_bl (fun u => z_mm (σ.2 (34 + a)) (σ.2 (34 + b)) u 24) i))), (4, .long (z_mm (σ.2 (34 + a)) (σ.2 (34 + b)) (z_bl (fun u => z_mm (σ.2 (34 + a)) (σ.2 (34 + b)) u 24) i) 24)), (6, .int (nI i))] (by decide) rfl ?_
    refine z_lload 31 C dX6_bestMatch_31 0 rfl ?_
    refine z_lload 33 C dX6_bestMatch_33 5 rfl ?_
    refine z_lcmp_ge 35 C 46 dX6_bestMatch_35 dX6_bestMatch_36 (by decide) (fun c35 => ?_) (fun c35 => ?_)
    · skip
      refine z_iincN 46 C 6 i [(6, .int (nI (i + 1))), (7, .long (z_mm (σ.2 (34 + a)) (σ.2 (34 + b)) i 24)), (0, .ref (z_ad G 32)), (1, .int (nI a)), (2, .int (nI b)), (3, .int (nI (z_bl (fun u => z_mm (σ.2 (34 + a)) (σ.2 (34 + b)) u 24) i))), (4, .long (z_mm (σ.2 (34 + a)) (σ.2 (34 + b)) (z_bl (fun u => z_mm (σ.2 (34 + a)) (σ.2 (34 + b)) u 24) i) 24))] rfl rfl (by decide) rfl dX6_bestMatch_46 ?_
      refine z_goto 49 C 14 dX6_bestMatch_49 (by decide) ?_
      refine z_sub [2, 3, 4, 5, 6, 0] (lv1 := [(0, .ref (z_ad G 32)), (1, .int (nI a)), (2, .int (nI b)), (3, .int (nI (z_bl (fun u => z_mm (σ.2 (34 + a)) (σ.2 (34 + b)) u 24) i))), (4, .long (z_mm (σ.2 (34 + a)) (σ.2 (34 + b)) (z_bl (fun u => z_mm (σ.2 (34 + a)) (σ.2 (34 + b)) u 24) i) 24)), (6, .int (nI (i + 1)))]) rfl ?_
      refine z_cv (lv1 := [(0, .ref (z_ad G 32)), (1, .int (nI a)), (2, .int (nI b)), (3, .int (nI (z_bl (fun u => z_mm (σ.2 (34 + a)) (σ.2 (34 + b)) u 24) (i + 1)))), (4, .long (z_mm (σ.2 (34 + a)) (σ.2 (34 + b)) (z_bl (fun u => z_mm (σ.2 (34 + a)) (σ.2 (34 + b)) u 24) (i + 1)) 24)), (6, .int (nI (i + 1)))]) (st1 := []) (σ1 := σ) (by first | rw [z_bl_n (f := (fun u => z_mm (σ.2 (34 + a)) (σ.2 (34 + b)) u 24)) (Int64.not_lt.mpr c35)] | rw [z_bl_s (f := (fun u => z_mm (σ.2 (34 + a)) (σ.2 (34 + b)) u 24)) (Int64.not_le.mp c35)]) rfl rfl ?_
      exact ih_14 (i + 1) (by omega) (by omega)
    · skip
      refine z_lload 39 C dX6_bestMatch_39 0 rfl ?_
      refine z_lstore 41 C dX6_bestMatch_41 [(4, .long (z_mm (σ.2 (34 + a)) (σ.2 (34 + b)) i 24)), (7, .long (z_mm (σ.2 (34 + a)) (σ.2 (34 + b)) i 24)), (0, .ref (z_ad G 32)), (1, .int (nI a)), (2, .int (nI b)), (3, .int (nI (z_bl (fun u => z_mm (σ.2 (34 + a)) (σ.2 (34 + b)) u 24) i))), (6, .int (nI i))] (by decide) rfl ?_
      refine z_iload 43 C dX6_bestMatch_43 6 rfl ?_
      refine z_istore_n 45 C dX6_bestMatch_45 [(3, .int (nI i)), (4, .long (z_mm (σ.2 (34 + a)) (σ.2 (34 + b)) i 24)), (7, .long (z_mm (σ.2 (34 + a)) (σ.2 (34 + b)) i 24)), (0, .ref (z_ad G 32)), (1, .int (nI a)), (2, .int (nI b)), (6, .int (nI i))] (by decide) rfl ?_
      refine z_iincN 46 C 6 i [(6, .int (nI (i + 1))), (3, .int (nI i)), (4, .long (z_mm (σ.2 (34 + a)) (σ.2 (34 + b)) i 24)), (7, .long (z_mm (σ.2 (34 + a)) (σ.2 (34 + b)) i 24)), (0, .ref (z_ad G 32)), (1, .int (nI a)), (2, .int (nI b))] rfl rfl (by decide) rfl dX6_bestMatch_46 ?_
      refine z_goto 49 C 14 dX6_bestMatch_49 (by decide) ?_
      refine z_sub [4, 5, 6, 1, 2, 0] (lv1 := [(0, .ref (z_ad G 32)), (1, .int (nI a)), (2, .int (nI b)), (3, .int (nI i)), (4, .long (z_mm (σ.2 (34 + a)) (σ.2 (34 + b)) i 24)), (6, .int (nI (i + 1)))]) rfl ?_
      refine z_cv (lv1 := [(0, .ref (z_ad G 32)), (1, .int (nI a)), (2, .int (nI b)), (3, .int (nI (z_bl (fun u => z_mm (σ.2 (34 + a)) (σ.2 (34 + b)) u 24) (i + 1)))), (4, .long (z_mm (σ.2 (34 + a)) (σ.2 (34 + b)) (z_bl (fun u => z_mm (σ.2 (34 + a)) (σ.2 (34 + b)) u 24) (i + 1)) 24)), (6, .int (nI (i + 1)))]) (st1 := []) (σ1 := σ) (by first | rw [z_bl_n (f := (fun u => z_mm (σ.2 (34 + a)) (σ.2 (34 + b)) u 24)) (Int64.not_lt.mpr c35)] | rw [z_bl_s (f := (fun u => z_mm (σ.2 (34 + a)) (σ.2 (34 + b)) u 24)) (Int64.not_le.mp c35)]) rfl rfl ?_
      exact ih_14 (i + 1) (by omega) (by omega)
end
section
/-! The instrument: what always holds of its numbers -/
def z_inv (σ : z_St) (P n o u v w rc tl : Nat) : Prop := (σ.1 1 3 = nI P ∧ σ.1 1 4 = nI n ∧ σ.1 8 1 = nI o ∧ σ.1 8 2 = nI u ∧ σ.1 8 3 = nI v ∧ σ.1 32 5 = nI w ∧ σ.1 44 5 = nI rc ∧ σ.1 82 5 = nI tl) ∧ (P = 2 ∨ P = 3 ∨ P = 4 ∨ P = 6 ∨ P = 8 ∨ P = 12) ∧ n ≤ P * 24 ∧ o < 21 ∧ u + v ≤ 20 ∧ w ≤ 6 ∧ rc ≤ 8 ∧ tl ≤ 200
def z_n (x : Int32) : Nat := x.toNatClampNeg
theorem z_nk {k : Nat} (h : k < 2 ^ 31) : z_n (nI k) = k := nI_clamp h
theorem z_in0 {x : Int32} {b : Nat} (hb : b < 2 ^ 31) (h : ¬ (x < nI 0 ∨ nI b < x)) : ∃ k, k ≤ b ∧ x = nI k := by
  have h1 : ¬ x < 0 := fun z => h (Or.inl z)
  obtain ⟨j, hj, rfl⟩ := nI_of h1
  refine ⟨j, ?_, rfl⟩
  have h2 : ¬ nI b < nI j := fun z => h (Or.inr z)
  exact Nat.not_lt.mp (fun z => h2 ((nI_ltI hb hj).mpr z))
theorem z_in1 {x : Int32} {a b : Nat} (ha : a < 2 ^ 31) (hb : b < 2 ^ 31) (h : ¬ (x < nI a ∨ nI b < x)) : ∃ k, a ≤ k ∧ k ≤ b ∧ x = nI k := by
  have h1 : ¬ x < nI a := fun z => h (Or.inl z)
  have h3 : ¬ x < 0 := fun z => h1 (by
    rw [fa_lt] at z ⊢
    rw [nI_toInt ha]
    have : (0 : Int32).toInt = 0 := rfl
    omega)
  obtain ⟨j, hj, rfl⟩ := nI_of h3
  refine ⟨j, Nat.not_lt.mp (fun z => h1 ((nI_ltI hj ha).mpr z)), Nat.not_lt.mp (fun z => h (Or.inr ((nI_ltI hb hj).mpr z))), rfl⟩
theorem z_inw {x : Int32} {w : Nat} (hw : w < 2 ^ 30) (h : ¬ (x < nI 0 ∨ nI w - nI 1 < x)) : ∃ k, k < w ∧ x = nI k := by
  have h1 : ¬ x < 0 := fun z => h (Or.inl z)
  obtain ⟨j, hj, rfl⟩ := nI_of h1
  refine ⟨j, ?_, rfl⟩
  have h2 : ¬ nI w - nI 1 < nI j := fun z => h (Or.inr z)
  rw [fa_lt, pk_sub_toInt (a := w) (b := 1) hw (by decide), nI_toInt hj] at h2
  omega
/-- where a profile comes from -/
def z_se (P n : Nat) (x y : Int32) : Int32 := if x < nI 0 ∨ nI 4 < x then (-1000001) else if x = 0 then (if y < nI 0 ∨ nI P - nI 1 < y then (-1000001) else if y < nI (n / 24) then nI 0 else (-1000002)) else if x = nI 1 ∨ x = nI 2 then (if P * 24 ≤ n then nI 0 else (-1000002)) else nI 0
def z_src (m : Nat → Int32) (pt sp : Nat → Int32) (P s j k : Nat) : Int64 := if s = 0 then (m (j * 24 + k % 24)).toInt64 * 1000000 else if s = 1 then z_pt m P k else if s = 2 then z_sp m P k else if s = 3 then (pt k).toInt64 * 1000000 else (sp k).toInt64 * 1000000
theorem z_se_ok {P n : Nat} {x y : Int32} (hP : P ≤ 12) (hn : n ≤ 288) (h : z_se P n x y = 0) : ∃ s, s ≤ 4 ∧ x = nI s ∧ (s = 0 → ∃ j, j < n / 24 ∧ j < P ∧ y = nI j) ∧ (s = 1 ∨ s = 2 → P * 24 ≤ n) := by
  unfold z_se at h
  by_cases h1 : x < nI 0 ∨ nI 4 < x
  · rw [if_pos h1] at h; exact absurd h (by decide)
  · rw [if_neg h1] at h
    obtain ⟨s, hs, rfl⟩ := z_in0 (by decide) h1
    refine ⟨s, hs, rfl, fun h0 => ?_, fun h12 => ?_⟩
    · subst h0
      rw [if_pos (show nI 0 = 0 from rfl)] at h
      by_cases h2 : y < nI 0 ∨ nI P - nI 1 < y
      · rw [if_pos h2] at h; exact absurd h (by decide)
      · rw [if_neg h2] at h
        obtain ⟨j, hj, rfl⟩ := z_inw (by omega) h2
        by_cases h3 : nI j < nI (n / 24)
        · exact ⟨j, (nI_ltI (by omega) (by omega)).mp h3, hj, rfl⟩
        · rw [if_neg h3] at h; exact absurd h (by decide)
    · have e0 : ¬ nI s = 0 := fun z => by have := (z_nI0 (by omega)).mp z; omega
      have e1 : nI s = nI 1 ∨ nI s = nI 2 := by rcases h12 with e | e <;> rw [e] <;> simp
      rw [if_neg e0, if_pos e1] at h
      by_cases h3 : P * 24 ≤ n
      · exact h3
      · rw [if_neg h3] at h; exact absurd h (by decide)
/-- the next profile becomes the present one -/
def z_c (o u : Nat) : Nat := 10 + (o + u) % 21
def z_nx (σ : z_St) (o u : Nat) (F : Nat → Int64) : z_St := z_uL (z_ui (z_ui (z_ui (z_uL σ 88 F) 8 1 (nI (z_ha o u))) 8 2 (nI (z_hb u))) 8 3 (nI 0)) (10 + (z_ha o u + z_hb u) % 21) (va_cpy F (σ.2 (10 + (z_ha o u + z_hb u) % 21)) 0 0 24)
theorem z_uL2s {σ : z_St} {i : Nat} {f : Nat → Int64} : (z_uL σ i f).2 i = f := if_pos rfl
theorem z_simS (σ : z_St) (n k : Nat) (g : Nat → Int32) : z_ui (z_ui (z_ui (z_uI σ 2 (fb_put (σ.1 2) g n k)) 1 4 (nI (n + k))) 2 (n + k) (g k)) 1 4 (nI (n + k + 1)) = z_ui (z_uI σ 2 (fb_put (σ.1 2) g n (k + 1))) 1 4 (nI (n + (k + 1))) := by
  rw [← z_uIu σ 2 n k (σ.1 2) g rfl]
  unfold z_ui z_uI
  refine Prod.ext ?_ rfl
  funext a
  by_cases h1 : a = 1
  · subst h1
    simp only [if_true]
    funext b
    unfold upd
    by_cases h2 : b = 4
    · subst h2; simp [Nat.add_assoc]
    · simp [h2]
  · by_cases h2 : a = 2
    · subst h2; simp
    · simp [h1, h2]
def z_tg (F : Nat → Int64) : Nat → Bool
  | 0 => false
  | k + 1 => z_tg F k || decide (40000000000 < z_ab (F k))
theorem z_tg_m {F : Nat → Int64} {k : Nat} (h : z_tg F k = true) : ∀ d, z_tg F (k + d) = true
  | 0 => h
  | d + 1 => by rw [← Nat.add_assoc, z_tg, z_tg_m h d, Bool.true_or]
theorem z_tg_t {F : Nat → Int64} {k : Nat} (hk : k < 24) (h : 40000000000 < z_ab (F k)) : z_tg F 24 = true := by
  have h1 : z_tg F (k + 1) = true := by rw [z_tg, decide_eq_true h, Bool.or_true]
  have := z_tg_m h1 (23 - k)
  rwa [show k + 1 + (23 - k) = 24 by omega] at this
theorem z_srcy {m pt sp : Nat → Int32} {P sr j : Nat} {y : Int32} (hj : j < 12) (hy : sr = 0 → y = nI j) : z_src m pt sp P sr (z_n y) = z_src m pt sp P sr j := by
  funext k
  unfold z_src
  by_cases h : sr = 0
  · rw [hy h, z_nk (by omega)]
  · simp [h]
def z_rot (z : Nat → Int64) (x : Int32) (k : Nat) : Int64 := z (z_pm (nI k - x))
def z_rme (z : Nat → Int64) (k : Nat) : Int64 := z k - z_cf z 0 0 - z_wv (z_cf z 0 1) (z_cf z 1 1) (k % 24)
theorem z_lob {x y : Int32} (h : ¬ (x < 0 ∨ y < x ∨ nI 12 < y)) : ∃ a b : Nat, a ≤ b ∧ b ≤ 12 ∧ x = nI a ∧ y = nI b := by
  have h1 : ¬ x < 0 := fun z => h (Or.inl z)
  have h2 : ¬ y < x := fun z => h (Or.inr (Or.inl z))
  have h3 : ¬ nI 12 < y := fun z => h (Or.inr (Or.inr z))
  obtain ⟨a, ha, rfl⟩ := nI_of h1
  have h4 : ¬ y < 0 := fun z => h2 (by
    rw [fa_lt] at z ⊢
    rw [nI_toInt ha]
    have : (0 : Int32).toInt = 0 := rfl
    omega)
  obtain ⟨b, hb, rfl⟩ := nI_of h4
  exact ⟨a, b, Nat.not_lt.mp (fun z => h2 ((nI_ltI hb ha).mpr z)), Nat.not_lt.mp (fun z => h3 ((nI_ltI (by decide) hb).mpr z)), rfl, rfl⟩
theorem z_tb4x {x : Int32} (h0 : ¬ x = 0) (h1 : ¬ x = 1) (h2 : ¬ x = 2) (h3 : ¬ x = 3) : x.toInt < 0 ∨ 3 < x.toInt := by
  rw [fa_eq] at h0 h1 h2 h3
  have q0 : (0 : Int32).toInt = 0 := rfl
  have q1 : (1 : Int32).toInt = 1 := rfl
  have q2 : (2 : Int32).toInt = 2 := rfl
  have q3 : (3 : Int32).toInt = 3 := rfl
  omega
theorem z_tb4 {sr : Nat} (hs : sr ≤ 4) (h0 : ¬ nI sr = 0) (h1 : ¬ nI sr = 1) (h2 : ¬ nI sr = 2) (h3 : ¬ nI sr = 3) : (nI sr).toInt < 0 ∨ 3 < (nI sr).toInt := by
  have q0 : ¬ sr = 0 := fun z => h0 (by rw [z]; rfl)
  have q1 : ¬ sr = 1 := fun z => h1 (by rw [z]; rfl)
  have q2 : ¬ sr = 2 := fun z => h2 (by rw [z]; rfl)
  have q3 : ¬ sr = 3 := fun z => h3 (by rw [z]; rfl)
  rw [nI_toInt (by omega)]
  omega
theorem z_c88 (a : Nat) : ¬ 10 + a % 21 = 88 := by omega
theorem dX7_makeNextPresent_0 : decode cX7_makeNextPresent 0 = .ok (.aload_n 0, 1) := by decide +kernel
theorem dX7_makeNextPresent_1 : decode cX7_makeNextPresent 1 = .ok (.getfield 28, 3) := by decide +kernel
theorem dX7_makeNextPresent_4 : decode cX7_makeNextPresent 4 = .ok (.aload_n 0, 1) := by decide +kernel
theorem dX7_makeNextPresent_5 : decode cX7_makeNextPresent 5 = .ok (.getfield 59, 3) := by decide +kernel
theorem dX7_makeNextPresent_8 : decode cX7_makeNextPresent 8 = .ok (.invokevirtual 342, 3) := by decide +kernel
theorem dX7_makeNextPresent_11 : decode cX7_makeNextPresent 11 = .ok (.ifCond .eq 7, 3) := by decide +kernel
theorem dX7_makeNextPresent_14 : decode cX7_makeNextPresent 14 = .ok (.iconst 1, 1) := by decide +kernel
theorem dX7_makeNextPresent_15 : decode cX7_makeNextPresent 15 = .ok (.goto 4, 3) := by decide +kernel
theorem dX7_makeNextPresent_18 : decode cX7_makeNextPresent 18 = .ok (.iconst 0, 1) := by decide +kernel
theorem dX7_makeNextPresent_19 : decode cX7_makeNextPresent 19 = .ok (.ireturn, 1) := by decide +kernel
set_option maxRecDepth 100000 in
set_option maxHeartbeats 4000000 in
theorem m_X7_makeNextPresent {l : Launch} {G : z_Gl} {σ : z_St} (P n o u v w rc tl : Nat) (hI : z_inv σ P n o u v w rc tl) : z_M l G yX7_makeNextPresent cX7_makeNextPresent 1 (some .int) (z_rm 2 62) [.ref (z_ad G 0)] σ (z_p1 (.int (z_bo (¬ z_eq24 (σ.2 (10 + (o + u) % 21)) (σ.2 88)))) (z_uL (z_ui (z_ui (z_ui σ 8 1 (nI (z_ha o u))) 8 2 (nI (z_hb u))) 8 3 (nI 0)) (10 + (z_ha o u + z_hb u) % 21) (va_cpy (σ.2 88) (σ.2 (10 + (z_ha o u + z_hb u) % 21)) 0 0 24))) := by
  refine z_M.of (by decide) (Nat.le_of_ble_eq_true rfl) (fun p e s m below meth c C => ?_)
  refine z_sub [0] (lv1 := [(0, .ref (z_ad G 0))]) rfl ?_
  have hI0 := hI
  obtain ⟨⟨hP, hn, ho, hu, hv, hw, hrc, htl⟩, hPs, hnP, ho21, huv, hw6, hrc8, htl2⟩ := hI0
  have h0 : 0 < P := by omega
  have h12 : P ≤ 12 := by omega
  have h288 : n ≤ 288 := by omega
  refine z_aload_n 0 C dX7_makeNextPresent_0 0 rfl ?_
  refine z_getf 1 C 0 z_dX7 (⟨rfl, rfl⟩) 2 (by decide) q341 (.ref (z_ad G 8)) rfl dX7_makeNextPresent_1 ?_
  refine z_aload_n 4 C dX7_makeNextPresent_4 0 rfl ?_
  refine z_getf 5 C 0 z_dX7 (⟨rfl, rfl⟩) 7 (by decide) q346 (.ref (z_ad G 88)) rfl dX7_makeNextPresent_5 ?_
  refine z_callVN 8 C 8 (⟨rfl, rfl⟩) rfl (As := [.ref (z_ad G 88)]) (rest := []) (m_X1_append o u ho hu (by omega) (by omega) 88 (⟨rfl, rfl⟩)) k_X1_append (List.mem_of_getElem? (i := 26) rfl) ⟨rfl, rfl⟩ ⟨Nat.le_of_ble_eq_true rfl, Nat.le_of_ble_eq_true rfl⟩ rfl (Nat.le_of_ble_eq_true rfl) ⟨Nat.le_of_ble_eq_true rfl, Nat.le_of_ble_eq_true rfl⟩ rfl dX7_makeNextPresent_8 (z_k1 ?_)
  refine z_if_eqb 11 C 18 dX7_makeNextPresent_11 (by decide) (fun c11 => ?_) (fun c11 => ?_)
  · skip
    refine z_iconst 18 C dX7_makeNextPresent_18 (nI 0) rfl ?_
    refine z_iret 19 C dX7_makeNextPresent_19 ?_
    first | exact ⟨z_ci (z_bo_f c11), rfl⟩ | exact ⟨z_ci (z_bo_t c11), rfl⟩
  · skip
    refine z_iconst 14 C dX7_makeNextPresent_14 (nI 1) rfl ?_
    refine z_goto 15 C 19 dX7_makeNextPresent_15 (by decide) ?_
    refine z_iret 19 C dX7_makeNextPresent_19 ?_
    first | exact ⟨z_ci (z_bo_f c11), rfl⟩ | exact ⟨z_ci (z_bo_t c11), rfl⟩
theorem m_X7_makeNextPresent_F {l : Launch} {G : z_Gl} {σ : z_St} (P n o u v w rc tl : Nat) (hI : z_inv σ P n o u v w rc tl) (F : Nat → Int64) : z_M l G yX7_makeNextPresent cX7_makeNextPresent 1 (some .int) (z_rm 2 62) [.ref (z_ad G 0)] (z_uL σ 88 F) (z_p1 (.int (z_bo (¬ z_eq24 (σ.2 (10 + (o + u) % 21)) F))) (z_nx σ o u F)) := by
  have h := m_X7_makeNextPresent (l := l) (G := G) (σ := z_uL σ 88 F) P n o u v w rc tl hI
  rw [z_uL2n (z_c88 _), z_uL2n (z_c88 _), z_uL2s] at h
  exact h
theorem dX7_sourceError_0 : decode cX7_sourceError 0 = .ok (.iload_n 1, 1) := by decide +kernel
theorem dX7_sourceError_1 : decode cX7_sourceError 1 = .ok (.iconst 0, 1) := by decide +kernel
theorem dX7_sourceError_2 : decode cX7_sourceError 2 = .ok (.iconst 4, 1) := by decide +kernel
theorem dX7_sourceError_3 : decode cX7_sourceError 3 = .ok (.invokestatic 77, 3) := by decide +kernel
theorem dX7_sourceError_6 : decode cX7_sourceError 6 = .ok (.ifCond .eq 6, 3) := by decide +kernel
theorem dX7_sourceError_9 : decode cX7_sourceError 9 = .ok (.ldc 68, 2) := by decide +kernel
theorem dX7_sourceError_11 : decode cX7_sourceError 11 = .ok (.ireturn, 1) := by decide +kernel
theorem dX7_sourceError_12 : decode cX7_sourceError 12 = .ok (.iload_n 1, 1) := by decide +kernel
theorem dX7_sourceError_13 : decode cX7_sourceError 13 = .ok (.ifCond .ne 41, 3) := by decide +kernel
theorem dX7_sourceError_16 : decode cX7_sourceError 16 = .ok (.iload_n 2, 1) := by decide +kernel
theorem dX7_sourceError_17 : decode cX7_sourceError 17 = .ok (.iconst 0, 1) := by decide +kernel
theorem dX7_sourceError_18 : decode cX7_sourceError 18 = .ok (.aload_n 0, 1) := by decide +kernel
theorem dX7_sourceError_19 : decode cX7_sourceError 19 = .ok (.getfield 12, 3) := by decide +kernel
theorem dX7_sourceError_22 : decode cX7_sourceError 22 = .ok (.getfield 104, 3) := by decide +kernel
theorem dX7_sourceError_25 : decode cX7_sourceError 25 = .ok (.iconst 1, 1) := by decide +kernel
theorem dX7_sourceError_26 : decode cX7_sourceError 26 = .ok (.isub, 1) := by decide +kernel
theorem dX7_sourceError_27 : decode cX7_sourceError 27 = .ok (.invokestatic 77, 3) := by decide +kernel
theorem dX7_sourceError_30 : decode cX7_sourceError 30 = .ok (.ifCond .eq 6, 3) := by decide +kernel
theorem dX7_sourceError_33 : decode cX7_sourceError 33 = .ok (.ldc 68, 2) := by decide +kernel
theorem dX7_sourceError_35 : decode cX7_sourceError 35 = .ok (.ireturn, 1) := by decide +kernel
theorem dX7_sourceError_36 : decode cX7_sourceError 36 = .ok (.iload_n 2, 1) := by decide +kernel
theorem dX7_sourceError_37 : decode cX7_sourceError 37 = .ok (.aload_n 0, 1) := by decide +kernel
theorem dX7_sourceError_38 : decode cX7_sourceError 38 = .ok (.getfield 12, 3) := by decide +kernel
theorem dX7_sourceError_41 : decode cX7_sourceError 41 = .ok (.invokevirtual 93, 3) := by decide +kernel
theorem dX7_sourceError_44 : decode cX7_sourceError 44 = .ok (.if_icmp .ge 7, 3) := by decide +kernel
theorem dX7_sourceError_47 : decode cX7_sourceError 47 = .ok (.iconst 0, 1) := by decide +kernel
theorem dX7_sourceError_48 : decode cX7_sourceError 48 = .ok (.goto 5, 3) := by decide +kernel
theorem dX7_sourceError_51 : decode cX7_sourceError 51 = .ok (.ldc 85, 2) := by decide +kernel
theorem dX7_sourceError_53 : decode cX7_sourceError 53 = .ok (.ireturn, 1) := by decide +kernel
theorem dX7_sourceError_54 : decode cX7_sourceError 54 = .ok (.iload_n 1, 1) := by decide +kernel
theorem dX7_sourceError_55 : decode cX7_sourceError 55 = .ok (.iconst 1, 1) := by decide +kernel
theorem dX7_sourceError_56 : decode cX7_sourceError 56 = .ok (.if_icmp .eq 8, 3) := by decide +kernel
theorem dX7_sourceError_59 : decode cX7_sourceError 59 = .ok (.iload_n 1, 1) := by decide +kernel
theorem dX7_sourceError_60 : decode cX7_sourceError 60 = .ok (.iconst 2, 1) := by decide +kernel
theorem dX7_sourceError_61 : decode cX7_sourceError 61 = .ok (.if_icmp .ne 20, 3) := by decide +kernel
theorem dX7_sourceError_64 : decode cX7_sourceError 64 = .ok (.aload_n 0, 1) := by decide +kernel
theorem dX7_sourceError_65 : decode cX7_sourceError 65 = .ok (.getfield 12, 3) := by decide +kernel
theorem dX7_sourceError_68 : decode cX7_sourceError 68 = .ok (.invokevirtual 81, 3) := by decide +kernel
theorem dX7_sourceError_71 : decode cX7_sourceError 71 = .ok (.ifCond .eq 7, 3) := by decide +kernel
theorem dX7_sourceError_74 : decode cX7_sourceError 74 = .ok (.iconst 0, 1) := by decide +kernel
theorem dX7_sourceError_75 : decode cX7_sourceError 75 = .ok (.goto 5, 3) := by decide +kernel
theorem dX7_sourceError_78 : decode cX7_sourceError 78 = .ok (.ldc 85, 2) := by decide +kernel
theorem dX7_sourceError_80 : decode cX7_sourceError 80 = .ok (.ireturn, 1) := by decide +kernel
theorem dX7_sourceError_81 : decode cX7_sourceError 81 = .ok (.iconst 0, 1) := by decide +kernel
theorem dX7_sourceError_82 : decode cX7_sourceError 82 = .ok (.ireturn, 1) := by decide +kernel
set_option maxRecDepth 100000 in
set_option maxHeartbeats 4000000 in
theorem m_X7_sourceError {l : Launch} {G : z_Gl} {σ : z_St} (P n o u v w rc tl : Nat) (hI : z_inv σ P n o u v w rc tl) (x : Int32) (y : Int32) : z_M l G yX7_sourceError cX7_sourceError 3 (some .int) (z_rm 1 22) [.ref (z_ad G 0), .int x, .int y] σ (z_p1 (.int (z_se P n x y)) σ) := by
  refine z_M.of (by decide) (Nat.le_of_ble_eq_true rfl) (fun p e s m below meth c C => ?_)
  refine z_sub [0, 1, 2] (lv1 := [(0, .ref (z_ad G 0)), (1, .int x), (2, .int y)]) rfl ?_
  have hI0 := hI
  obtain ⟨⟨hP, hn, ho, hu, hv, hw, hrc, htl⟩, hPs, hnP, ho21, huv, hw6, hrc8, htl2⟩ := hI0
  have h0 : 0 < P := by omega
  have h12 : P ≤ 12 := by omega
  have h288 : n ≤ 288 := by omega
  refine z_iload_n 0 C dX7_sourceError_0 1 rfl ?_
  refine z_iconst 1 C dX7_sourceError_1 (nI 0) rfl ?_
  refine z_iconst 2 C dX7_sourceError_2 (nI 4) rfl ?_
  refine z_callS 3 C (As := [.int x, .int (nI 0), .int (nI 4)]) (rest := []) (m_X7_isOutside x (nI 0) (nI 4)) k_X7_isOutside q380 ⟨rfl, rfl⟩ ⟨Nat.le_of_ble_eq_true rfl, Nat.le_of_ble_eq_true rfl⟩ rfl (Nat.le_of_ble_eq_true rfl) ⟨Nat.le_of_ble_eq_true rfl, Nat.le_of_ble_eq_true rfl⟩ rfl dX7_sourceError_3 (z_k1 ?_)
  refine z_if_eqb 6 C 12 dX7_sourceError_6 (by decide) (fun c6 => ?_) (fun c6 => ?_)
  · skip
    refine z_iload_n 12 C dX7_sourceError_12 1 rfl ?_
    refine z_if_ne 13 C 54 dX7_sourceError_13 (by decide) (fun c13 => ?_) (fun c13 => ?_)
    · skip
      refine z_iload_n 54 C dX7_sourceError_54 1 rfl ?_
      refine z_iconst 55 C dX7_sourceError_55 (nI 1) rfl ?_
      refine z_icmp_eq 56 C 64 dX7_sourceError_56 (by decide) (fun c56 => ?_) (fun c56 => ?_)
      · skip
        refine z_aload_n 64 C dX7_sourceError_64 0 rfl ?_
        refine z_getf 65 C 0 z_dX7 (⟨rfl, rfl⟩) 0 (by decide) q339 (.ref (z_ad G 1)) rfl dX7_sourceError_65 ?_
        refine z_callVN 68 C 1 (⟨rfl, rfl⟩) rfl (As := []) (rest := []) (m_X2_isComplete P n hP hn (by omega) (by omega)) k_X2_isComplete (List.mem_of_getElem? (i := 9) rfl) ⟨rfl, rfl⟩ ⟨Nat.le_of_ble_eq_true rfl, Nat.le_of_ble_eq_true rfl⟩ rfl (Nat.le_of_ble_eq_true rfl) ⟨Nat.le_of_ble_eq_true rfl, Nat.le_of_ble_eq_true rfl⟩ rfl dX7_sourceError_68 (z_k1 ?_)
        refine z_if_eqb 71 C 78 dX7_sourceError_71 (by decide) (fun c71 => ?_) (fun c71 => ?_)
        · skip
          refine z_ldc 78 C dX7_sourceError_78 q387 ?_
          refine z_iret 80 C dX7_sourceError_80 ?_
          first | exact ⟨z_ci (by unfold z_se; rw [if_neg c6, if_neg c13, if_pos (Or.inl c56), if_pos c71]), rfl⟩ | exact ⟨z_ci (by unfold z_se; rw [if_neg c6, if_neg c13, if_pos (Or.inl c56), if_neg c71]), rfl⟩ | exact ⟨z_ci (by unfold z_se; rw [if_neg c6, if_neg c13, if_pos (Or.inr c61), if_pos c71]), rfl⟩ | exact ⟨z_ci (by unfold z_se; rw [if_neg c6, if_neg c13, if_pos (Or.inr c61), if_neg c71]), rfl⟩
        · skip
          refine z_iconst 74 C dX7_sourceError_74 (nI 0) rfl ?_
          refine z_goto 75 C 80 dX7_sourceError_75 (by decide) ?_
          refine z_iret 80 C dX7_sourceError_80 ?_
          first | exact ⟨z_ci (by unfold z_se; rw [if_neg c6, if_neg c13, if_pos (Or.inl c56), if_pos c71]), rfl⟩ | exact ⟨z_ci (by unfold z_se; rw [if_neg c6, if_neg c13, if_pos (Or.inl c56), if_neg c71]), rfl⟩ | exact ⟨z_ci (by unfold z_se; rw [if_neg c6, if_neg c13, if_pos (Or.inr c61), if_pos c71]), rfl⟩ | exact ⟨z_ci (by unfold z_se; rw [if_neg c6, if_neg c13, if_pos (Or.inr c61), if_neg c71]), rfl⟩
      · skip
        refine z_iload_n 59 C dX7_sourceError_59 1 rfl ?_
        refine z_iconst 60 C dX7_sourceError_60 (nI 2) rfl ?_
        refine z_icmp_ne 61 C 81 dX7_sourceError_61 (by decide) (fun c61 => ?_) (fun c61 => ?_)
        · skip
          refine z_iconst 81 C dX7_sourceError_81 (nI 0) rfl ?_
          refine z_iret 82 C dX7_sourceError_82 ?_
          exact ⟨z_ci (by unfold z_se; rw [if_neg c6, if_neg c13, if_neg (fun z => z.elim c56 c61)]), rfl⟩
        · skip
          refine z_aload_n 64 C dX7_sourceError_64 0 rfl ?_
          refine z_getf 65 C 0 z_dX7 (⟨rfl, rfl⟩) 0 (by decide) q339 (.ref (z_ad G 1)) rfl dX7_sourceError_65 ?_
          refine z_callVN 68 C 1 (⟨rfl, rfl⟩) rfl (As := []) (rest := []) (m_X2_isComplete P n hP hn (by omega) (by omega)) k_X2_isComplete (List.mem_of_getElem? (i := 9) rfl) ⟨rfl, rfl⟩ ⟨Nat.le_of_ble_eq_true rfl, Nat.le_of_ble_eq_true rfl⟩ rfl (Nat.le_of_ble_eq_true rfl) ⟨Nat.le_of_ble_eq_true rfl, Nat.le_of_ble_eq_true rfl⟩ rfl dX7_sourceError_68 (z_k1 ?_)
          refine z_if_eqb 71 C 78 dX7_sourceError_71 (by decide) (fun c71 => ?_) (fun c71 => ?_)
          · skip
            refine z_ldc 78 C dX7_sourceError_78 q387 ?_
            refine z_iret 80 C dX7_sourceError_80 ?_
            first | exact ⟨z_ci (by unfold z_se; rw [if_neg c6, if_neg c13, if_pos (Or.inl c56), if_pos c71]), rfl⟩ | exact ⟨z_ci (by unfold z_se; rw [if_neg c6, if_neg c13, if_pos (Or.inl c56), if_neg c71]), rfl⟩ | exact ⟨z_ci (by unfold z_se; rw [if_neg c6, if_neg c13, if_pos (Or.inr c61), if_pos c71]), rfl⟩ | exact ⟨z_ci (by unfold z_se; rw [if_neg c6, if_neg c13, if_pos (Or.inr c61), if_neg c71]), rfl⟩
          · skip
            refine z_iconst 74 C dX7_sourceError_74 (nI 0) rfl ?_
            refine z_goto 75 C 80 dX7_sourceError_75 (by decide) ?_
            refine z_iret 80 C dX7_sourceError_80 ?_
            first | exact ⟨z_ci (by unfold z_se; rw [if_neg c6, if_neg c13, if_pos (Or.inl c56), if_pos c71]), rfl⟩ | exact ⟨z_ci (by unfold z_se; rw [if_neg c6, if_neg c13, if_pos (Or.inl c56), if_neg c71]), rfl⟩ | exact ⟨z_ci (by unfold z_se; rw [if_neg c6, if_neg c13, if_pos (Or.inr c61), if_pos c71]), rfl⟩ | exact ⟨z_ci (by unfold z_se; rw [if_neg c6, if_neg c13, if_pos (Or.inr c61), if_neg c71]), rfl⟩
    · skip
      refine z_iload_n 16 C dX7_sourceError_16 2 rfl ?_
      refine z_iconst 17 C dX7_sourceError_17 (nI 0) rfl ?_
      refine z_aload_n 18 C dX7_sourceError_18 0 rfl ?_
      refine z_getf 19 C 0 z_dX7 (⟨rfl, rfl⟩) 0 (by decide) q339 (.ref (z_ad G 1)) rfl dX7_sourceError_19 ?_
      refine z_getfN 22 C 1 z_dX2 (⟨rfl, rfl⟩) 3 (by decide) (List.mem_of_getElem? (i := 0) rfl) (.int (nI P)) (z_ci hP) dX7_sourceError_22 ?_
      refine z_iconst 25 C dX7_sourceError_25 (nI 1) rfl ?_
      refine z_isub 26 C dX7_sourceError_26 ?_
      refine z_callS 27 C (As := [.int y, .int (nI 0), .int ((nI P) - (nI 1))]) (rest := []) (m_X7_isOutside y (nI 0) ((nI P) - (nI 1))) k_X7_isOutside q380 ⟨rfl, rfl⟩ ⟨Nat.le_of_ble_eq_true rfl, Nat.le_of_ble_eq_true rfl⟩ rfl (Nat.le_of_ble_eq_true rfl) ⟨Nat.le_of_ble_eq_true rfl, Nat.le_of_ble_eq_true rfl⟩ rfl dX7_sourceError_27 (z_k1 ?_)
      refine z_if_eqb 30 C 36 dX7_sourceError_30 (by decide) (fun c30 => ?_) (fun c30 => ?_)
      · skip
        refine z_iload_n 36 C dX7_sourceError_36 2 rfl ?_
        refine z_aload_n 37 C dX7_sourceError_37 0 rfl ?_
        refine z_getf 38 C 0 z_dX7 (⟨rfl, rfl⟩) 0 (by decide) q339 (.ref (z_ad G 1)) rfl dX7_sourceError_38 ?_
        refine z_callVN 41 C 1 (⟨rfl, rfl⟩) rfl (As := []) (rest := [.int y]) (m_X2_finishedSteps n hn (by omega)) k_X2_finishedSteps (List.mem_of_getElem? (i := 12) rfl) ⟨rfl, rfl⟩ ⟨Nat.le_of_ble_eq_true rfl, Nat.le_of_ble_eq_true rfl⟩ rfl (Nat.le_of_ble_eq_true rfl) ⟨Nat.le_of_ble_eq_true rfl, Nat.le_of_ble_eq_true rfl⟩ rfl dX7_sourceError_41 (z_k1 ?_)
        refine z_icmp_ge 44 C 51 dX7_sourceError_44 (by decide) (fun c44 => ?_) (fun c44 => ?_)
        · skip
          refine z_ldc 51 C dX7_sourceError_51 q387 ?_
          refine z_iret 53 C dX7_sourceError_53 ?_
          first | exact ⟨z_ci (by unfold z_se; rw [if_neg c6, if_pos c13, if_neg c30, if_pos (Int32.not_le.mp c44)]), rfl⟩ | exact ⟨z_ci (by unfold z_se; rw [if_neg c6, if_pos c13, if_neg c30, if_neg (Int32.not_lt.mpr c44)]), rfl⟩
        · skip
          refine z_iconst 47 C dX7_sourceError_47 (nI 0) rfl ?_
          refine z_goto 48 C 53 dX7_sourceError_48 (by decide) ?_
          refine z_iret 53 C dX7_sourceError_53 ?_
          first | exact ⟨z_ci (by unfold z_se; rw [if_neg c6, if_pos c13, if_neg c30, if_pos (Int32.not_le.mp c44)]), rfl⟩ | exact ⟨z_ci (by unfold z_se; rw [if_neg c6, if_pos c13, if_neg c30, if_neg (Int32.not_lt.mpr c44)]), rfl⟩
      · skip
        refine z_ldc 33 C dX7_sourceError_33 q371 ?_
        refine z_iret 35 C dX7_sourceError_35 ?_
        exact ⟨z_ci (by unfold z_se; rw [if_neg c6, if_pos c13, if_pos c30]), rfl⟩
  · skip
    refine z_ldc 9 C dX7_sourceError_9 q371 ?_
    refine z_iret 11 C dX7_sourceError_11 ?_
    exact ⟨z_ci (by unfold z_se; rw [if_pos c6]), rfl⟩
theorem dX7_sourceAt_0 : decode cX7_sourceAt 0 = .ok (.iload_n 1, 1) := by decide +kernel
theorem dX7_sourceAt_1 : decode cX7_sourceAt 1 = .ok (.tableswitch 80 0 3 #[31, 46, 55, 64], 31) := by decide +kernel
theorem dX7_sourceAt_32 : decode cX7_sourceAt 32 = .ok (.aload_n 0, 1) := by decide +kernel
theorem dX7_sourceAt_33 : decode cX7_sourceAt 33 = .ok (.getfield 12, 3) := by decide +kernel
theorem dX7_sourceAt_36 : decode cX7_sourceAt 36 = .ok (.iload_n 2, 1) := by decide +kernel
theorem dX7_sourceAt_37 : decode cX7_sourceAt 37 = .ok (.iload_n 3, 1) := by decide +kernel
theorem dX7_sourceAt_38 : decode cX7_sourceAt 38 = .ok (.invokevirtual 111, 3) := by decide +kernel
theorem dX7_sourceAt_41 : decode cX7_sourceAt 41 = .ok (.i2l, 1) := by decide +kernel
theorem dX7_sourceAt_42 : decode cX7_sourceAt 42 = .ok (.ldc2_w 297, 3) := by decide +kernel
theorem dX7_sourceAt_45 : decode cX7_sourceAt 45 = .ok (.lmul, 1) := by decide +kernel
theorem dX7_sourceAt_46 : decode cX7_sourceAt 46 = .ok (.lreturn, 1) := by decide +kernel
theorem dX7_sourceAt_47 : decode cX7_sourceAt 47 = .ok (.aload_n 0, 1) := by decide +kernel
theorem dX7_sourceAt_48 : decode cX7_sourceAt 48 = .ok (.getfield 12, 3) := by decide +kernel
theorem dX7_sourceAt_51 : decode cX7_sourceAt 51 = .ok (.iload_n 3, 1) := by decide +kernel
theorem dX7_sourceAt_52 : decode cX7_sourceAt 52 = .ok (.invokevirtual 119, 3) := by decide +kernel
theorem dX7_sourceAt_55 : decode cX7_sourceAt 55 = .ok (.lreturn, 1) := by decide +kernel
theorem dX7_sourceAt_56 : decode cX7_sourceAt 56 = .ok (.aload_n 0, 1) := by decide +kernel
theorem dX7_sourceAt_57 : decode cX7_sourceAt 57 = .ok (.getfield 12, 3) := by decide +kernel
theorem dX7_sourceAt_60 : decode cX7_sourceAt 60 = .ok (.iload_n 3, 1) := by decide +kernel
theorem dX7_sourceAt_61 : decode cX7_sourceAt 61 = .ok (.invokevirtual 123, 3) := by decide +kernel
theorem dX7_sourceAt_64 : decode cX7_sourceAt 64 = .ok (.lreturn, 1) := by decide +kernel
theorem dX7_sourceAt_65 : decode cX7_sourceAt 65 = .ok (.aload_n 0, 1) := by decide +kernel
theorem dX7_sourceAt_66 : decode cX7_sourceAt 66 = .ok (.getfield 21, 3) := by decide +kernel
theorem dX7_sourceAt_69 : decode cX7_sourceAt 69 = .ok (.iconst 0, 1) := by decide +kernel
theorem dX7_sourceAt_70 : decode cX7_sourceAt 70 = .ok (.invokevirtual 320, 3) := by decide +kernel
theorem dX7_sourceAt_73 : decode cX7_sourceAt 73 = .ok (.iload_n 3, 1) := by decide +kernel
theorem dX7_sourceAt_74 : decode cX7_sourceAt 74 = .ok (.iaload, 1) := by decide +kernel
theorem dX7_sourceAt_75 : decode cX7_sourceAt 75 = .ok (.i2l, 1) := by decide +kernel
theorem dX7_sourceAt_76 : decode cX7_sourceAt 76 = .ok (.ldc2_w 297, 3) := by decide +kernel
theorem dX7_sourceAt_79 : decode cX7_sourceAt 79 = .ok (.lmul, 1) := by decide +kernel
theorem dX7_sourceAt_80 : decode cX7_sourceAt 80 = .ok (.lreturn, 1) := by decide +kernel
theorem dX7_sourceAt_81 : decode cX7_sourceAt 81 = .ok (.aload_n 0, 1) := by decide +kernel
theorem dX7_sourceAt_82 : decode cX7_sourceAt 82 = .ok (.getfield 21, 3) := by decide +kernel
theorem dX7_sourceAt_85 : decode cX7_sourceAt 85 = .ok (.iconst 1, 1) := by decide +kernel
theorem dX7_sourceAt_86 : decode cX7_sourceAt 86 = .ok (.invokevirtual 320, 3) := by decide +kernel
theorem dX7_sourceAt_89 : decode cX7_sourceAt 89 = .ok (.iload_n 3, 1) := by decide +kernel
theorem dX7_sourceAt_90 : decode cX7_sourceAt 90 = .ok (.iaload, 1) := by decide +kernel
theorem dX7_sourceAt_91 : decode cX7_sourceAt 91 = .ok (.i2l, 1) := by decide +kernel
theorem dX7_sourceAt_92 : decode cX7_sourceAt 92 = .ok (.ldc2_w 297, 3) := by decide +kernel
theorem dX7_sourceAt_95 : decode cX7_sourceAt 95 = .ok (.lmul, 1) := by decide +kernel
theorem dX7_sourceAt_96 : decode cX7_sourceAt 96 = .ok (.lreturn, 1) := by decide +kernel
set_option maxRecDepth 100000 in
set_option maxHeartbeats 4000000 in
theorem m_X7_sourceAt {l : Launch} {G : z_Gl} {σ : z_St} (P n o u v w rc tl : Nat) (hI : z_inv σ P n o u v w rc tl) (sr j k : Nat) (y : Int32) (hs : sr ≤ 4) (hj : j < 12) (hk : k < 24) (hy : sr = 0 → y = nI j) : z_M l G yX7_sourceAt cX7_sourceAt 4 (some .long) (z_rm 4 93) [.ref (z_ad G 0), .int (nI sr), .int y, .int (nI k)] σ (z_p1 (.long (z_src (σ.1 2) (σ.1 6) (σ.1 7) P sr j k)) σ) := by
  refine z_M.of (by decide) (Nat.le_of_ble_eq_true rfl) (fun p e s m below meth c C => ?_)
  refine z_sub [0, 1, 2, 3] (lv1 := [(0, .ref (z_ad G 0)), (1, .int (nI sr)), (2, .int y), (3, .int (nI k))]) rfl ?_
  have hI0 := hI
  obtain ⟨⟨hP, hn, ho, hu, hv, hw, hrc, htl⟩, hPs, hnP, ho21, huv, hw6, hrc8, htl2⟩ := hI0
  have h0 : 0 < P := by omega
  have h12 : P ≤ 12 := by omega
  have h288 : n ≤ 288 := by omega
  refine z_iload_n 0 C dX7_sourceAt_0 1 rfl ?_
  by_cases e1_0 : (nI sr) = (0 : Int32)
  · skip
    refine z_tabIn 1 C 32 dX7_sourceAt_1 (by rw [e1_0]; decide) (by rw [e1_0]; decide) (by rw [e1_0]; rfl) (by decide) ?_
    have es : sr = 0 := (nI_eq (by omega) (by decide)).mp e1_0
    subst es
    have ey := hy rfl
    subst ey
    refine z_aload_n 32 C dX7_sourceAt_32 0 rfl ?_
    refine z_getf 33 C 0 z_dX7 (⟨rfl, rfl⟩) 0 (by decide) q339 (.ref (z_ad G 1)) rfl dX7_sourceAt_33 ?_
    refine z_iload_n 36 C dX7_sourceAt_36 2 rfl ?_
    refine z_iload_n 37 C dX7_sourceAt_37 3 rfl ?_
    refine z_callVN 38 C 1 (⟨rfl, rfl⟩) rfl (As := [.int (nI j), .int (nI k)]) (rest := []) (m_X2_at j k (by omega) (by omega)) k_X2_at (List.mem_of_getElem? (i := 18) rfl) ⟨rfl, rfl⟩ ⟨Nat.le_of_ble_eq_true rfl, Nat.le_of_ble_eq_true rfl⟩ rfl (Nat.le_of_ble_eq_true rfl) ⟨Nat.le_of_ble_eq_true rfl, Nat.le_of_ble_eq_true rfl⟩ rfl dX7_sourceAt_38 (z_k1 ?_)
    refine z_i2l 41 C dX7_sourceAt_41 ?_
    refine z_ldc2 42 C dX7_sourceAt_42 q425 ?_
    refine z_lmul 45 C dX7_sourceAt_45 ?_
    refine z_lret 46 C dX7_sourceAt_46 ?_
    exact ⟨rfl, rfl⟩
  by_cases e1_1 : (nI sr) = (1 : Int32)
  · skip
    refine z_tabIn 1 C 47 dX7_sourceAt_1 (by rw [e1_1]; decide) (by rw [e1_1]; decide) (by rw [e1_1]; rfl) (by decide) ?_
    have es : sr = 1 := (nI_eq (by omega) (by decide)).mp e1_1
    subst es
    refine z_aload_n 47 C dX7_sourceAt_47 0 rfl ?_
    refine z_getf 48 C 0 z_dX7 (⟨rfl, rfl⟩) 0 (by decide) q339 (.ref (z_ad G 1)) rfl dX7_sourceAt_48 ?_
    refine z_iload_n 51 C dX7_sourceAt_51 3 rfl ?_
    refine z_callVN 52 C 1 (⟨rfl, rfl⟩) rfl (As := [.int (nI k)]) (rest := []) (m_X2_partAt P hP (by omega) (by omega) k (by omega)) k_X2_partAt (List.mem_of_getElem? (i := 21) rfl) ⟨rfl, rfl⟩ ⟨Nat.le_of_ble_eq_true rfl, Nat.le_of_ble_eq_true rfl⟩ rfl (Nat.le_of_ble_eq_true rfl) ⟨Nat.le_of_ble_eq_true rfl, Nat.le_of_ble_eq_true rfl⟩ rfl dX7_sourceAt_52 (z_k1 ?_)
    refine z_lret 55 C dX7_sourceAt_55 ?_
    exact ⟨rfl, rfl⟩
  by_cases e1_2 : (nI sr) = (2 : Int32)
  · skip
    refine z_tabIn 1 C 56 dX7_sourceAt_1 (by rw [e1_2]; decide) (by rw [e1_2]; decide) (by rw [e1_2]; rfl) (by decide) ?_
    have es : sr = 2 := (nI_eq (by omega) (by decide)).mp e1_2
    subst es
    refine z_aload_n 56 C dX7_sourceAt_56 0 rfl ?_
    refine z_getf 57 C 0 z_dX7 (⟨rfl, rfl⟩) 0 (by decide) q339 (.ref (z_ad G 1)) rfl dX7_sourceAt_57 ?_
    refine z_iload_n 60 C dX7_sourceAt_60 3 rfl ?_
    refine z_callVN 61 C 1 (⟨rfl, rfl⟩) rfl (As := [.int (nI k)]) (rest := []) (m_X2_spindleAt P hP (by omega) (by omega) k (by omega)) k_X2_spindleAt (List.mem_of_getElem? (i := 23) rfl) ⟨rfl, rfl⟩ ⟨Nat.le_of_ble_eq_true rfl, Nat.le_of_ble_eq_true rfl⟩ rfl (Nat.le_of_ble_eq_true rfl) ⟨Nat.le_of_ble_eq_true rfl, Nat.le_of_ble_eq_true rfl⟩ rfl dX7_sourceAt_61 (z_k1 ?_)
    refine z_lret 64 C dX7_sourceAt_64 ?_
    exact ⟨rfl, rfl⟩
  by_cases e1_3 : (nI sr) = (3 : Int32)
  · skip
    refine z_tabIn 1 C 65 dX7_sourceAt_1 (by rw [e1_3]; decide) (by rw [e1_3]; decide) (by rw [e1_3]; rfl) (by decide) ?_
    have es : sr = 3 := (nI_eq (by omega) (by decide)).mp e1_3
    subst es
    refine z_aload_n 65 C dX7_sourceAt_65 0 rfl ?_
    refine z_getf 66 C 0 z_dX7 (⟨rfl, rfl⟩) 1 (by decide) q340 (.ref (z_ad G 5)) rfl dX7_sourceAt_66 ?_
    refine z_iconst 69 C dX7_sourceAt_69 (nI 0) rfl ?_
    refine z_callVN 70 C 5 (⟨rfl, rfl⟩) rfl (As := [.int (nI 0)]) (rest := []) (m_X5_profileOf 0 (by omega)) k_X5_profileOf (List.mem_of_getElem? (i := 25) rfl) ⟨rfl, rfl⟩ ⟨Nat.le_of_ble_eq_true rfl, Nat.le_of_ble_eq_true rfl⟩ rfl (Nat.le_of_ble_eq_true rfl) ⟨Nat.le_of_ble_eq_true rfl, Nat.le_of_ble_eq_true rfl⟩ rfl dX7_sourceAt_70 (z_k1 ?_)
    refine z_iload_n 73 C dX7_sourceAt_73 3 rfl ?_
    refine z_ialdN 74 C (6 + 0) (n := 24) (z_tpK _ (by omega)) k rfl (by omega) (by decide) dX7_sourceAt_74 ?_
    refine z_i2l 75 C dX7_sourceAt_75 ?_
    refine z_ldc2 76 C dX7_sourceAt_76 q425 ?_
    refine z_lmul 79 C dX7_sourceAt_79 ?_
    refine z_lret 80 C dX7_sourceAt_80 ?_
    exact ⟨rfl, rfl⟩
  refine z_tabOut 1 C 81 dX7_sourceAt_1 (z_tb4 hs e1_0 e1_1 e1_2 e1_3) (by decide) ?_
  have es : sr = 4 := by
    have q0 : ¬ sr = 0 := fun z => e1_0 (by rw [z]; rfl)
    have q1 : ¬ sr = 1 := fun z => e1_1 (by rw [z]; rfl)
    have q2 : ¬ sr = 2 := fun z => e1_2 (by rw [z]; rfl)
    have q3 : ¬ sr = 3 := fun z => e1_3 (by rw [z]; rfl)
    omega
  subst es
  refine z_aload_n 81 C dX7_sourceAt_81 0 rfl ?_
  refine z_getf 82 C 0 z_dX7 (⟨rfl, rfl⟩) 1 (by decide) q340 (.ref (z_ad G 5)) rfl dX7_sourceAt_82 ?_
  refine z_iconst 85 C dX7_sourceAt_85 (nI 1) rfl ?_
  refine z_callVN 86 C 5 (⟨rfl, rfl⟩) rfl (As := [.int (nI 1)]) (rest := []) (m_X5_profileOf 1 (by omega)) k_X5_profileOf (List.mem_of_getElem? (i := 25) rfl) ⟨rfl, rfl⟩ ⟨Nat.le_of_ble_eq_true rfl, Nat.le_of_ble_eq_true rfl⟩ rfl (Nat.le_of_ble_eq_true rfl) ⟨Nat.le_of_ble_eq_true rfl, Nat.le_of_ble_eq_true rfl⟩ rfl dX7_sourceAt_86 (z_k1 ?_)
  refine z_iload_n 89 C dX7_sourceAt_89 3 rfl ?_
  refine z_ialdN 90 C (6 + 1) (n := 24) (z_tpK _ (by omega)) k rfl (by omega) (by decide) dX7_sourceAt_90 ?_
  refine z_i2l 91 C dX7_sourceAt_91 ?_
  refine z_ldc2 92 C dX7_sourceAt_92 q425 ?_
  refine z_lmul 95 C dX7_sourceAt_95 ?_
  refine z_lret 96 C dX7_sourceAt_96 ?_
  exact ⟨rfl, rfl⟩
theorem dX7_fillNext_0 : decode cX7_fillNext 0 = .ok (.iconst 0, 1) := by decide +kernel
theorem dX7_fillNext_1 : decode cX7_fillNext 1 = .ok (.istore_n 3, 1) := by decide +kernel
theorem dX7_fillNext_2 : decode cX7_fillNext 2 = .ok (.iload_n 3, 1) := by decide +kernel
theorem dX7_fillNext_3 : decode cX7_fillNext 3 = .ok (.bipush 24, 2) := by decide +kernel
theorem dX7_fillNext_5 : decode cX7_fillNext 5 = .ok (.if_icmp .ge 22, 3) := by decide +kernel
theorem dX7_fillNext_8 : decode cX7_fillNext 8 = .ok (.aload_n 0, 1) := by decide +kernel
theorem dX7_fillNext_9 : decode cX7_fillNext 9 = .ok (.getfield 59, 3) := by decide +kernel
theorem dX7_fillNext_12 : decode cX7_fillNext 12 = .ok (.iload_n 3, 1) := by decide +kernel
theorem dX7_fillNext_13 : decode cX7_fillNext 13 = .ok (.aload_n 0, 1) := by decide +kernel
theorem dX7_fillNext_14 : decode cX7_fillNext 14 = .ok (.iload_n 1, 1) := by decide +kernel
theorem dX7_fillNext_15 : decode cX7_fillNext 15 = .ok (.iload_n 2, 1) := by decide +kernel
theorem dX7_fillNext_16 : decode cX7_fillNext 16 = .ok (.iload_n 3, 1) := by decide +kernel
theorem dX7_fillNext_17 : decode cX7_fillNext 17 = .ok (.invokevirtual 331, 3) := by decide +kernel
theorem dX7_fillNext_20 : decode cX7_fillNext 20 = .ok (.lastore, 1) := by decide +kernel
theorem dX7_fillNext_21 : decode cX7_fillNext 21 = .ok (.iinc 3 1, 3) := by decide +kernel
theorem dX7_fillNext_24 : decode cX7_fillNext 24 = .ok (.goto (-22), 3) := by decide +kernel
theorem dX7_fillNext_27 : decode cX7_fillNext 27 = .ok (.return_, 1) := by decide +kernel
set_option maxRecDepth 100000 in
set_option maxHeartbeats 4000000 in
theorem m_X7_fillNext {l : Launch} {G : z_Gl} {σ : z_St} (P n o u v w rc tl : Nat) (hI : z_inv σ P n o u v w rc tl) (sr j : Nat) (y : Int32) (hs : sr ≤ 4) (hj : j < 12) (hy : sr = 0 → y = nI j) : z_M l G yX7_fillNext cX7_fillNext 4 none (z_rm 5 116) [.ref (z_ad G 0), .int (nI sr), .int y] σ (z_p0 (z_uL σ 88 (z_fil (z_src (σ.1 2) (σ.1 6) (σ.1 7) P sr j) (σ.2 88) 24))) := by
  refine z_M.of (by decide) (Nat.le_of_ble_eq_true rfl) (fun p e s m below meth c C => ?_)
  refine z_sub [0, 1, 2] (lv1 := [(0, .ref (z_ad G 0)), (1, .int (nI sr)), (2, .int y)]) rfl ?_
  have hI0 := hI
  obtain ⟨⟨hP, hn, ho, hu, hv, hw, hrc, htl⟩, hPs, hnP, ho21, huv, hw6, hrc8, htl2⟩ := hI0
  have h0 : 0 < P := by omega
  have h12 : P ≤ 12 := by omega
  have h288 : n ≤ 288 := by omega
  refine z_iconst 0 C dX7_fillNext_0 (nI 0) rfl ?_
  refine z_istore_n 1 C dX7_fillNext_1 [(3, .int (nI 0)), (0, .ref (z_ad G 0)), (1, .int (nI sr)), (2, .int y)] (by decide) rfl ?_
  refine z_sub [1, 2, 3, 0] (lv1 := [(0, .ref (z_ad G 0)), (1, .int (nI sr)), (2, .int y), (3, .int (nI 0))]) rfl ?_
  refine z_cv (lv1 := [(0, .ref (z_ad G 0)), (1, .int (nI sr)), (2, .int y), (3, .int (nI 0))]) (st1 := []) (σ1 := z_uL σ 88 (z_fil (z_src (σ.1 2) (σ.1 6) (σ.1 7) P sr j) (σ.2 88) 0)) rfl rfl (z_fil0L σ 88 _) ?_
  refine z_lp1 (fun (k : Nat) => k ≤ 24) (fun (k : Nat) => 24 - k) (fun (k : Nat) => [(0, .ref (z_ad G 0)), (1, .int (nI sr)), (2, .int y), (3, .int (nI k))]) (fun (k : Nat) => z_uL σ 88 (z_fil (z_src (σ.1 2) (σ.1 6) (σ.1 7) P sr j) (σ.2 88) k)) (fun k hi_2 ih_2 => ?_) 0 (by omega)
  try dsimp only
  refine z_iload_n 2 C dX7_fillNext_2 3 rfl ?_
  refine z_bipush 3 C dX7_fillNext_3 (nI 24) rfl ?_
  refine z_icmp_geN 5 C k 24 rfl rfl (by omega) (by omega) 27 dX7_fillNext_5 (by decide) (fun c5 => ?_) (fun c5 => ?_)
  · skip
    have ek : k = 24 := by omega
    subst ek
    refine z_vret 27 C dX7_fillNext_27 ?_
    exact ⟨rfl, rfl⟩
  · skip
    refine z_aload_n 8 C dX7_fillNext_8 0 rfl ?_
    refine z_getf 9 C 0 z_dX7 (⟨rfl, rfl⟩) 7 (by decide) q346 (.ref (z_ad G 88)) rfl dX7_fillNext_9 ?_
    refine z_iload_n 12 C dX7_fillNext_12 3 rfl ?_
    refine z_aload_n 13 C dX7_fillNext_13 0 rfl ?_
    refine z_iload_n 14 C dX7_fillNext_14 1 rfl ?_
    refine z_iload_n 15 C dX7_fillNext_15 2 rfl ?_
    refine z_iload_n 16 C dX7_fillNext_16 3 rfl ?_
    refine z_callV 17 C 0 (⟨rfl, rfl⟩) rfl (As := [.int (nI sr), .int y, .int (nI k)]) (rest := [.int (nI k), .ref (z_ad G 88)]) (m_X7_sourceAt (σ := z_uL σ 88 (z_fil (z_src (σ.1 2) (σ.1 6) (σ.1 7) P sr j) (σ.2 88) k)) P n o u v w rc tl hI sr j k y hs hj (by omega) hy) k_X7_sourceAt q530 ⟨rfl, rfl⟩ ⟨Nat.le_of_ble_eq_true rfl, Nat.le_of_ble_eq_true rfl⟩ rfl (Nat.le_of_ble_eq_true rfl) ⟨Nat.le_of_ble_eq_true rfl, Nat.le_of_ble_eq_true rfl⟩ rfl dX7_fillNext_17 (z_k1 ?_)
    refine z_lastN 20 C 88 (n := 24) (⟨rfl, rfl⟩) k rfl (by omega) (by decide) dX7_fillNext_20 ?_
    refine z_iincN 21 C 3 k [(3, .int (nI (k + 1))), (0, .ref (z_ad G 0)), (1, .int (nI sr)), (2, .int y)] rfl rfl (by decide) rfl dX7_fillNext_21 ?_
    refine z_goto 24 C 2 dX7_fillNext_24 (by decide) ?_
    refine z_sub [1, 2, 3, 0] (lv1 := [(0, .ref (z_ad G 0)), (1, .int (nI sr)), (2, .int y), (3, .int (nI (k + 1)))]) rfl ?_
    refine z_cv (lv1 := [(0, .ref (z_ad G 0)), (1, .int (nI sr)), (2, .int y), (3, .int (nI (k + 1)))]) (st1 := []) (σ1 := z_uL σ 88 (z_fil (z_src (σ.1 2) (σ.1 6) (σ.1 7) P sr j) (σ.2 88) (k + 1))) rfl rfl (z_filSL σ 88 k _ _ rfl) ?_
    exact ih_2 (k + 1) (by omega) (by omega)
theorem dX7_isNextTooGreat_0 : decode cX7_isNextTooGreat 0 = .ok (.iconst 0, 1) := by decide +kernel
theorem dX7_isNextTooGreat_1 : decode cX7_isNextTooGreat 1 = .ok (.istore_n 1, 1) := by decide +kernel
theorem dX7_isNextTooGreat_2 : decode cX7_isNextTooGreat 2 = .ok (.iload_n 1, 1) := by decide +kernel
theorem dX7_isNextTooGreat_3 : decode cX7_isNextTooGreat 3 = .ok (.bipush 24, 2) := by decide +kernel
theorem dX7_isNextTooGreat_5 : decode cX7_isNextTooGreat 5 = .ok (.if_icmp .ge 27, 3) := by decide +kernel
theorem dX7_isNextTooGreat_8 : decode cX7_isNextTooGreat 8 = .ok (.aload_n 0, 1) := by decide +kernel
theorem dX7_isNextTooGreat_9 : decode cX7_isNextTooGreat 9 = .ok (.getfield 59, 3) := by decide +kernel
theorem dX7_isNextTooGreat_12 : decode cX7_isNextTooGreat 12 = .ok (.iload_n 1, 1) := by decide +kernel
theorem dX7_isNextTooGreat_13 : decode cX7_isNextTooGreat 13 = .ok (.laload, 1) := by decide +kernel
theorem dX7_isNextTooGreat_14 : decode cX7_isNextTooGreat 14 = .ok (.invokestatic 334, 3) := by decide +kernel
theorem dX7_isNextTooGreat_17 : decode cX7_isNextTooGreat 17 = .ok (.ldc2_w 340, 3) := by decide +kernel
theorem dX7_isNextTooGreat_20 : decode cX7_isNextTooGreat 20 = .ok (.lcmp, 1) := by decide +kernel
theorem dX7_isNextTooGreat_21 : decode cX7_isNextTooGreat 21 = .ok (.ifCond .le 5, 3) := by decide +kernel
theorem dX7_isNextTooGreat_24 : decode cX7_isNextTooGreat 24 = .ok (.iconst 1, 1) := by decide +kernel
theorem dX7_isNextTooGreat_25 : decode cX7_isNextTooGreat 25 = .ok (.ireturn, 1) := by decide +kernel
theorem dX7_isNextTooGreat_26 : decode cX7_isNextTooGreat 26 = .ok (.iinc 1 1, 3) := by decide +kernel
theorem dX7_isNextTooGreat_29 : decode cX7_isNextTooGreat 29 = .ok (.goto (-27), 3) := by decide +kernel
theorem dX7_isNextTooGreat_32 : decode cX7_isNextTooGreat 32 = .ok (.iconst 0, 1) := by decide +kernel
theorem dX7_isNextTooGreat_33 : decode cX7_isNextTooGreat 33 = .ok (.ireturn, 1) := by decide +kernel
set_option maxRecDepth 100000 in
set_option maxHeartbeats 4000000 in
theorem m_X7_isNextTooGreat {l : Launch} {G : z_Gl} {σ : z_St} (P n o u v w rc tl : Nat) (hI : z_inv σ P n o u v w rc tl) : z_M l G yX7_isNextTooGreat cX7_isNextTooGreat 2 (some .boolean) (z_rm 1 21) [.ref (z_ad G 0)] σ (z_p1 (.int (z_bo (z_tg (σ.2 88) 24 = true))) σ) := by
  refine z_M.of (by decide) (Nat.le_of_ble_eq_true rfl) (fun p e s m below meth c C => ?_)
  refine z_sub [0] (lv1 := [(0, .ref (z_ad G 0))]) rfl ?_
  have hI0 := hI
  obtain ⟨⟨hP, hn, ho, hu, hv, hw, hrc, htl⟩, hPs, hnP, ho21, huv, hw6, hrc8, htl2⟩ := hI0
  have h0 : 0 < P := by omega
  have h12 : P ≤ 12 := by omega
  have h288 : n ≤ 288 := by omega
  refine z_iconst 0 C dX7_isNextTooGreat_0 (nI 0) rfl ?_
  refine z_istore_n 1 C dX7_isNextTooGreat_1 [(1, .int (nI 0)), (0, .ref (z_ad G 0))] (by decide) rfl ?_
  refine z_sub [1, 0] (lv1 := [(0, .ref (z_ad G 0)), (1, .int (nI 0))]) rfl ?_
  refine z_cv (lv1 := [(0, .ref (z_ad G 0)), (1, .int (nI 0))]) (st1 := []) (σ1 := σ) rfl rfl rfl ?_
  refine z_lp1 (fun (k : Nat) => k ≤ 24 ∧ z_tg (σ.2 88) k = false) (fun (k : Nat) => 24 - k) (fun (k : Nat) => [(0, .ref (z_ad G 0)), (1, .int (nI k))]) (fun (k : Nat) => σ) (fun k hi_2 ih_2 => ?_) 0 (⟨by omega, rfl⟩)
  try dsimp only
  obtain ⟨hk, hj⟩ := hi_2
  refine z_iload_n 2 C dX7_isNextTooGreat_2 1 rfl ?_
  refine z_bipush 3 C dX7_isNextTooGreat_3 (nI 24) rfl ?_
  refine z_icmp_geN 5 C k 24 rfl rfl (by omega) (by omega) 32 dX7_isNextTooGreat_5 (by decide) (fun c5 => ?_) (fun c5 => ?_)
  · skip
    have ek : k = 24 := by omega
    subst ek
    refine z_iconst 32 C dX7_isNextTooGreat_32 (nI 0) rfl ?_
    refine z_zret 33 C (rfl) dX7_isNextTooGreat_33 ?_
    exact ⟨z_ci (z_bo_f (by rw [hj]; decide)), rfl⟩
  · skip
    refine z_aload_n 8 C dX7_isNextTooGreat_8 0 rfl ?_
    refine z_getf 9 C 0 z_dX7 (⟨rfl, rfl⟩) 7 (by decide) q346 (.ref (z_ad G 88)) rfl dX7_isNextTooGreat_9 ?_
    refine z_iload_n 12 C dX7_isNextTooGreat_12 1 rfl ?_
    refine z_laldN 13 C 88 (n := 24) (⟨rfl, rfl⟩) k rfl (by omega) (by decide) dX7_isNextTooGreat_13 ?_
    refine z_callS 14 C (As := [.long (σ.2 88 k)]) (rest := []) (m_J9_abs_067f4 (σ.2 88 k)) k_J9_abs_067f4 q592 ⟨rfl, rfl⟩ ⟨Nat.le_of_ble_eq_true rfl, Nat.le_of_ble_eq_true rfl⟩ rfl (Nat.le_of_ble_eq_true rfl) ⟨Nat.le_of_ble_eq_true rfl, Nat.le_of_ble_eq_true rfl⟩ rfl dX7_isNextTooGreat_14 (z_k1 ?_)
    refine z_ldc2 17 C dX7_isNextTooGreat_17 q593 ?_
    refine z_lcmp_le 20 C 26 dX7_isNextTooGreat_20 dX7_isNextTooGreat_21 (by decide) (fun c20 => ?_) (fun c20 => ?_)
    · skip
      refine z_iincN 26 C 1 k [(1, .int (nI (k + 1))), (0, .ref (z_ad G 0))] rfl rfl (by decide) rfl dX7_isNextTooGreat_26 ?_
      refine z_goto 29 C 2 dX7_isNextTooGreat_29 (by decide) ?_
      refine z_sub [1, 0] (lv1 := [(0, .ref (z_ad G 0)), (1, .int (nI (k + 1)))]) rfl ?_
      refine z_cv (lv1 := [(0, .ref (z_ad G 0)), (1, .int (nI (k + 1)))]) (st1 := []) (σ1 := σ) rfl rfl rfl ?_
      exact ih_2 (k + 1) (⟨by omega, by rw [z_tg, hj, Bool.false_or]; exact decide_eq_false (Int64.not_lt.mpr c20)⟩) (by omega)
    · skip
      refine z_iconst 24 C dX7_isNextTooGreat_24 (nI 1) rfl ?_
      refine z_zret 25 C (rfl) dX7_isNextTooGreat_25 ?_
      exact ⟨z_ci (z_bo_t (z_tg_t c5 (Int64.not_le.mp c20))), rfl⟩
theorem dX7_setSteps_0 : decode cX7_setSteps 0 = .ok (.iload_n 1, 1) := by decide +kernel
theorem dX7_setSteps_1 : decode cX7_setSteps 1 = .ok (.invokestatic 64, 3) := by decide +kernel
theorem dX7_setSteps_4 : decode cX7_setSteps 4 = .ok (.ifCond .ne 6, 3) := by decide +kernel
theorem dX7_setSteps_7 : decode cX7_setSteps 7 = .ok (.ldc 68, 2) := by decide +kernel
theorem dX7_setSteps_9 : decode cX7_setSteps 9 = .ok (.ireturn, 1) := by decide +kernel
theorem dX7_setSteps_10 : decode cX7_setSteps 10 = .ok (.aload_n 0, 1) := by decide +kernel
theorem dX7_setSteps_11 : decode cX7_setSteps 11 = .ok (.getfield 12, 3) := by decide +kernel
theorem dX7_setSteps_14 : decode cX7_setSteps 14 = .ok (.getfield 69, 3) := by decide +kernel
theorem dX7_setSteps_17 : decode cX7_setSteps 17 = .ok (.istore_n 2, 1) := by decide +kernel
theorem dX7_setSteps_18 : decode cX7_setSteps 18 = .ok (.aload_n 0, 1) := by decide +kernel
theorem dX7_setSteps_19 : decode cX7_setSteps 19 = .ok (.getfield 12, 3) := by decide +kernel
theorem dX7_setSteps_22 : decode cX7_setSteps 22 = .ok (.iload_n 1, 1) := by decide +kernel
theorem dX7_setSteps_23 : decode cX7_setSteps 23 = .ok (.invokevirtual 73, 3) := by decide +kernel
theorem dX7_setSteps_26 : decode cX7_setSteps 26 = .ok (.iload_n 2, 1) := by decide +kernel
theorem dX7_setSteps_27 : decode cX7_setSteps 27 = .ok (.ireturn, 1) := by decide +kernel
set_option maxRecDepth 100000 in
set_option maxHeartbeats 4000000 in
theorem m_X7_setSteps {l : Launch} {G : z_Gl} {σ : z_St} (P n o u v w rc tl : Nat) (hI : z_inv σ P n o u v w rc tl) (x : Int32) : z_M l G yX7_setSteps cX7_setSteps 3 (some .int) (z_rm 1 21) [.ref (z_ad G 0), .int x] σ (z_p1 (.int (if ¬ (x = nI 2 ∨ x = nI 3 ∨ x = nI 4 ∨ x = nI 6 ∨ x = nI 8 ∨ x = nI 12) then (-1000001) else nI n)) (if ¬ (x = nI 2 ∨ x = nI 3 ∨ x = nI 4 ∨ x = nI 6 ∨ x = nI 8 ∨ x = nI 12) then σ else z_ui (z_ui σ 1 3 x) 1 4 (nI 0))) := by
  refine z_M.of (by decide) (Nat.le_of_ble_eq_true rfl) (fun p e s m below meth c C => ?_)
  refine z_sub [0, 1] (lv1 := [(0, .ref (z_ad G 0)), (1, .int x)]) rfl ?_
  have hI0 := hI
  obtain ⟨⟨hP, hn, ho, hu, hv, hw, hrc, htl⟩, hPs, hnP, ho21, huv, hw6, hrc8, htl2⟩ := hI0
  have h0 : 0 < P := by omega
  have h12 : P ≤ 12 := by omega
  have h288 : n ≤ 288 := by omega
  refine z_iload_n 0 C dX7_setSteps_0 1 rfl ?_
  refine z_callS 1 C (As := [.int x]) (rest := []) (m_X7_isStepCount x) k_X7_isStepCount q368 ⟨rfl, rfl⟩ ⟨Nat.le_of_ble_eq_true rfl, Nat.le_of_ble_eq_true rfl⟩ rfl (Nat.le_of_ble_eq_true rfl) ⟨Nat.le_of_ble_eq_true rfl, Nat.le_of_ble_eq_true rfl⟩ rfl dX7_setSteps_1 (z_k1 ?_)
  refine z_if_neb 4 C 10 dX7_setSteps_4 (by decide) (fun c4 => ?_) (fun c4 => ?_)
  · skip
    refine z_aload_n 10 C dX7_setSteps_10 0 rfl ?_
    refine z_getf 11 C 0 z_dX7 (⟨rfl, rfl⟩) 0 (by decide) q339 (.ref (z_ad G 1)) rfl dX7_setSteps_11 ?_
    refine z_getfN 14 C 1 z_dX2 (⟨rfl, rfl⟩) 4 (by decide) (List.mem_of_getElem? (i := 1) rfl) (.int (nI n)) (z_ci hn) dX7_setSteps_14 ?_
    refine z_istore_n 17 C dX7_setSteps_17 [(2, .int (nI n)), (0, .ref (z_ad G 0)), (1, .int x)] (by decide) rfl ?_
    refine z_aload_n 18 C dX7_setSteps_18 1 rfl ?_
    refine z_getf 19 C 0 z_dX7 (⟨rfl, rfl⟩) 0 (by decide) q339 (.ref (z_ad G 1)) rfl dX7_setSteps_19 ?_
    refine z_iload_n 22 C dX7_setSteps_22 2 rfl ?_
    refine z_callVN 23 C 1 (⟨rfl, rfl⟩) rfl (As := [.int x]) (rest := []) (m_X2_begin x) k_X2_begin (List.mem_of_getElem? (i := 8) rfl) ⟨rfl, rfl⟩ ⟨Nat.le_of_ble_eq_true rfl, Nat.le_of_ble_eq_true rfl⟩ rfl (Nat.le_of_ble_eq_true rfl) ⟨Nat.le_of_ble_eq_true rfl, Nat.le_of_ble_eq_true rfl⟩ rfl dX7_setSteps_23 (z_k0 ?_)
    refine z_iload_n 26 C dX7_setSteps_26 0 rfl ?_
    refine z_iret 27 C dX7_setSteps_27 ?_
    exact ⟨z_ci (by rw [if_neg (fun z => z c4)]), by rw [if_neg (fun z => z c4)]⟩
  · skip
    refine z_ldc 7 C dX7_setSteps_7 q371 ?_
    refine z_iret 9 C dX7_setSteps_9 ?_
    exact ⟨z_ci (by rw [if_pos c4]), by rw [if_pos c4]⟩
theorem dX7_read_0 : decode cX7_read 0 = .ok (.iload_n 1, 1) := by decide +kernel
theorem dX7_read_1 : decode cX7_read 1 = .ok (.sipush (-10000), 3) := by decide +kernel
theorem dX7_read_4 : decode cX7_read 4 = .ok (.sipush 10000, 3) := by decide +kernel
theorem dX7_read_7 : decode cX7_read 7 = .ok (.invokestatic 77, 3) := by decide +kernel
theorem dX7_read_10 : decode cX7_read 10 = .ok (.ifCond .eq 6, 3) := by decide +kernel
theorem dX7_read_13 : decode cX7_read 13 = .ok (.ldc 68, 2) := by decide +kernel
theorem dX7_read_15 : decode cX7_read 15 = .ok (.ireturn, 1) := by decide +kernel
theorem dX7_read_16 : decode cX7_read 16 = .ok (.aload_n 0, 1) := by decide +kernel
theorem dX7_read_17 : decode cX7_read 17 = .ok (.getfield 12, 3) := by decide +kernel
theorem dX7_read_20 : decode cX7_read 20 = .ok (.invokevirtual 81, 3) := by decide +kernel
theorem dX7_read_23 : decode cX7_read 23 = .ok (.ifCond .eq 6, 3) := by decide +kernel
theorem dX7_read_26 : decode cX7_read 26 = .ok (.ldc 85, 2) := by decide +kernel
theorem dX7_read_28 : decode cX7_read 28 = .ok (.ireturn, 1) := by decide +kernel
theorem dX7_read_29 : decode cX7_read 29 = .ok (.aload_n 0, 1) := by decide +kernel
theorem dX7_read_30 : decode cX7_read 30 = .ok (.getfield 12, 3) := by decide +kernel
theorem dX7_read_33 : decode cX7_read 33 = .ok (.iload_n 1, 1) := by decide +kernel
theorem dX7_read_34 : decode cX7_read 34 = .ok (.invokevirtual 86, 3) := by decide +kernel
theorem dX7_read_37 : decode cX7_read 37 = .ok (.aload_n 0, 1) := by decide +kernel
theorem dX7_read_38 : decode cX7_read 38 = .ok (.getfield 12, 3) := by decide +kernel
theorem dX7_read_41 : decode cX7_read 41 = .ok (.getfield 69, 3) := by decide +kernel
theorem dX7_read_44 : decode cX7_read 44 = .ok (.ireturn, 1) := by decide +kernel
set_option maxRecDepth 100000 in
set_option maxHeartbeats 4000000 in
theorem m_X7_read {l : Launch} {G : z_Gl} {σ : z_St} (P n o u v w rc tl : Nat) (hI : z_inv σ P n o u v w rc tl) (x : Int32) : z_M l G yX7_read cX7_read 2 (some .int) (z_rm 1 22) [.ref (z_ad G 0), .int x] σ (z_p1 (.int (if x < (-10000) ∨ nI 10000 < x then (-1000001) else if P * 24 ≤ n then (-1000002) else nI (n + 1))) (if x < (-10000) ∨ nI 10000 < x then σ else if P * 24 ≤ n then σ else z_ui (z_ui σ 2 n x) 1 4 (nI (n + 1)))) := by
  refine z_M.of (by decide) (Nat.le_of_ble_eq_true rfl) (fun p e s m below meth c C => ?_)
  refine z_sub [0, 1] (lv1 := [(0, .ref (z_ad G 0)), (1, .int x)]) rfl ?_
  have hI0 := hI
  obtain ⟨⟨hP, hn, ho, hu, hv, hw, hrc, htl⟩, hPs, hnP, ho21, huv, hw6, hrc8, htl2⟩ := hI0
  have h0 : 0 < P := by omega
  have h12 : P ≤ 12 := by omega
  have h288 : n ≤ 288 := by omega
  refine z_iload_n 0 C dX7_read_0 1 rfl ?_
  refine z_sipush 1 C dX7_read_1 (-10000) rfl ?_
  refine z_sipush 4 C dX7_read_4 (nI 10000) rfl ?_
  refine z_callS 7 C (As := [.int x, .int (-10000), .int (nI 10000)]) (rest := []) (m_X7_isOutside x (-10000) (nI 10000)) k_X7_isOutside q380 ⟨rfl, rfl⟩ ⟨Nat.le_of_ble_eq_true rfl, Nat.le_of_ble_eq_true rfl⟩ rfl (Nat.le_of_ble_eq_true rfl) ⟨Nat.le_of_ble_eq_true rfl, Nat.le_of_ble_eq_true rfl⟩ rfl dX7_read_7 (z_k1 ?_)
  refine z_if_eqb 10 C 16 dX7_read_10 (by decide) (fun c10 => ?_) (fun c10 => ?_)
  · skip
    refine z_aload_n 16 C dX7_read_16 0 rfl ?_
    refine z_getf 17 C 0 z_dX7 (⟨rfl, rfl⟩) 0 (by decide) q339 (.ref (z_ad G 1)) rfl dX7_read_17 ?_
    refine z_callVN 20 C 1 (⟨rfl, rfl⟩) rfl (As := []) (rest := []) (m_X2_isComplete P n hP hn (by omega) (by omega)) k_X2_isComplete (List.mem_of_getElem? (i := 9) rfl) ⟨rfl, rfl⟩ ⟨Nat.le_of_ble_eq_true rfl, Nat.le_of_ble_eq_true rfl⟩ rfl (Nat.le_of_ble_eq_true rfl) ⟨Nat.le_of_ble_eq_true rfl, Nat.le_of_ble_eq_true rfl⟩ rfl dX7_read_20 (z_k1 ?_)
    refine z_if_eqb 23 C 29 dX7_read_23 (by decide) (fun c23 => ?_) (fun c23 => ?_)
    · skip
      refine z_aload_n 29 C dX7_read_29 0 rfl ?_
      refine z_getf 30 C 0 z_dX7 (⟨rfl, rfl⟩) 0 (by decide) q339 (.ref (z_ad G 1)) rfl dX7_read_30 ?_
      refine z_iload_n 33 C dX7_read_33 1 rfl ?_
      refine z_callVN 34 C 1 (⟨rfl, rfl⟩) rfl (As := [.int x]) (rest := []) (m_X2_append n hn (by omega) x) k_X2_append (List.mem_of_getElem? (i := 10) rfl) ⟨rfl, rfl⟩ ⟨Nat.le_of_ble_eq_true rfl, Nat.le_of_ble_eq_true rfl⟩ rfl (Nat.le_of_ble_eq_true rfl) ⟨Nat.le_of_ble_eq_true rfl, Nat.le_of_ble_eq_true rfl⟩ rfl dX7_read_34 (z_k0 ?_)
      refine z_aload_n 37 C dX7_read_37 0 rfl ?_
      refine z_getf 38 C 0 z_dX7 (⟨rfl, rfl⟩) 0 (by decide) q339 (.ref (z_ad G 1)) rfl dX7_read_38 ?_
      refine z_getfN 41 C 1 z_dX2 (⟨rfl, rfl⟩) 4 (by decide) (List.mem_of_getElem? (i := 1) rfl) (.int (nI (n + 1))) rfl dX7_read_41 ?_
      refine z_iret 44 C dX7_read_44 ?_
      refine ⟨?_, ?_⟩
      · (rw [if_neg (c10), if_neg (c23)]) <;> (try rfl)
      · first | rfl | ((rw [if_neg (c10), if_neg (c23)]) <;> (try rfl))
    · skip
      refine z_ldc 26 C dX7_read_26 q387 ?_
      refine z_iret 28 C dX7_read_28 ?_
      refine ⟨?_, ?_⟩
      · (rw [if_neg (c10), if_pos (c23)]) <;> (try rfl)
      · first | rfl | ((rw [if_neg (c10), if_pos (c23)]) <;> (try rfl))
  · skip
    refine z_ldc 13 C dX7_read_13 q371 ?_
    refine z_iret 15 C dX7_read_15 ?_
    refine ⟨?_, ?_⟩
    · (rw [if_pos (c10)]) <;> (try rfl)
    · first | rfl | ((rw [if_pos (c10)]) <;> (try rfl))
theorem dX7_simulateStep_0 : decode cX7_simulateStep 0 = .ok (.aload_n 0, 1) := by decide +kernel
theorem dX7_simulateStep_1 : decode cX7_simulateStep 1 = .ok (.getfield 12, 3) := by decide +kernel
theorem dX7_simulateStep_4 : decode cX7_simulateStep 4 = .ok (.invokevirtual 81, 3) := by decide +kernel
theorem dX7_simulateStep_7 : decode cX7_simulateStep 7 = .ok (.ifCond .ne 13, 3) := by decide +kernel
theorem dX7_simulateStep_10 : decode cX7_simulateStep 10 = .ok (.aload_n 0, 1) := by decide +kernel
theorem dX7_simulateStep_11 : decode cX7_simulateStep 11 = .ok (.getfield 12, 3) := by decide +kernel
theorem dX7_simulateStep_14 : decode cX7_simulateStep 14 = .ok (.invokevirtual 89, 3) := by decide +kernel
theorem dX7_simulateStep_17 : decode cX7_simulateStep 17 = .ok (.ifCond .eq 6, 3) := by decide +kernel
theorem dX7_simulateStep_20 : decode cX7_simulateStep 20 = .ok (.ldc 85, 2) := by decide +kernel
theorem dX7_simulateStep_22 : decode cX7_simulateStep 22 = .ok (.ireturn, 1) := by decide +kernel
theorem dX7_simulateStep_23 : decode cX7_simulateStep 23 = .ok (.aload_n 0, 1) := by decide +kernel
theorem dX7_simulateStep_24 : decode cX7_simulateStep 24 = .ok (.getfield 12, 3) := by decide +kernel
theorem dX7_simulateStep_27 : decode cX7_simulateStep 27 = .ok (.aload_n 0, 1) := by decide +kernel
theorem dX7_simulateStep_28 : decode cX7_simulateStep 28 = .ok (.getfield 12, 3) := by decide +kernel
theorem dX7_simulateStep_31 : decode cX7_simulateStep 31 = .ok (.invokevirtual 93, 3) := by decide +kernel
theorem dX7_simulateStep_34 : decode cX7_simulateStep 34 = .ok (.invokevirtual 96, 3) := by decide +kernel
theorem dX7_simulateStep_37 : decode cX7_simulateStep 37 = .ok (.istore_n 1, 1) := by decide +kernel
theorem dX7_simulateStep_38 : decode cX7_simulateStep 38 = .ok (.iconst 0, 1) := by decide +kernel
theorem dX7_simulateStep_39 : decode cX7_simulateStep 39 = .ok (.istore_n 2, 1) := by decide +kernel
theorem dX7_simulateStep_40 : decode cX7_simulateStep 40 = .ok (.iload_n 2, 1) := by decide +kernel
theorem dX7_simulateStep_41 : decode cX7_simulateStep 41 = .ok (.bipush 24, 2) := by decide +kernel
theorem dX7_simulateStep_43 : decode cX7_simulateStep 43 = .ok (.if_icmp .ge 25, 3) := by decide +kernel
theorem dX7_simulateStep_46 : decode cX7_simulateStep 46 = .ok (.aload_n 0, 1) := by decide +kernel
theorem dX7_simulateStep_47 : decode cX7_simulateStep 47 = .ok (.getfield 12, 3) := by decide +kernel
theorem dX7_simulateStep_50 : decode cX7_simulateStep 50 = .ok (.aload_n 0, 1) := by decide +kernel
theorem dX7_simulateStep_51 : decode cX7_simulateStep 51 = .ok (.getfield 21, 3) := by decide +kernel
theorem dX7_simulateStep_54 : decode cX7_simulateStep 54 = .ok (.iload_n 2, 1) := by decide +kernel
theorem dX7_simulateStep_55 : decode cX7_simulateStep 55 = .ok (.iload_n 1, 1) := by decide +kernel
theorem dX7_simulateStep_56 : decode cX7_simulateStep 56 = .ok (.invokevirtual 100, 3) := by decide +kernel
theorem dX7_simulateStep_59 : decode cX7_simulateStep 59 = .ok (.invokevirtual 86, 3) := by decide +kernel
theorem dX7_simulateStep_62 : decode cX7_simulateStep 62 = .ok (.iinc 2 1, 3) := by decide +kernel
theorem dX7_simulateStep_65 : decode cX7_simulateStep 65 = .ok (.goto (-25), 3) := by decide +kernel
theorem dX7_simulateStep_68 : decode cX7_simulateStep 68 = .ok (.aload_n 0, 1) := by decide +kernel
theorem dX7_simulateStep_69 : decode cX7_simulateStep 69 = .ok (.getfield 12, 3) := by decide +kernel
theorem dX7_simulateStep_72 : decode cX7_simulateStep 72 = .ok (.getfield 69, 3) := by decide +kernel
theorem dX7_simulateStep_75 : decode cX7_simulateStep 75 = .ok (.ireturn, 1) := by decide +kernel
set_option maxRecDepth 100000 in
set_option maxHeartbeats 4000000 in
theorem m_X7_simulateStep {l : Launch} {G : z_Gl} {σ : z_St} (P n o u v w rc tl : Nat) (hI : z_inv σ P n o u v w rc tl) : z_M l G yX7_simulateStep cX7_simulateStep 3 (some .int) (z_rm 3 75) [.ref (z_ad G 0)] σ (z_p1 (.int (if P * 24 ≤ n then (-1000002) else if ¬ n % 24 = 0 then (-1000002) else nI (n + 24))) (if P * 24 ≤ n then σ else if ¬ n % 24 = 0 then σ else z_ui (z_uI σ 2 (fb_put (σ.1 2) (fun kk => z_rg (σ.1 6) (σ.1 7) (σ.1 5 2) (σ.1 5 3) kk (n / 24 * (24 / P))) n 24)) 1 4 (nI (n + 24)))) := by
  refine z_M.of (by decide) (Nat.le_of_ble_eq_true rfl) (fun p e s m below meth c C => ?_)
  refine z_sub [0] (lv1 := [(0, .ref (z_ad G 0))]) rfl ?_
  have hI0 := hI
  obtain ⟨⟨hP, hn, ho, hu, hv, hw, hrc, htl⟩, hPs, hnP, ho21, huv, hw6, hrc8, htl2⟩ := hI0
  have h0 : 0 < P := by omega
  have h12 : P ≤ 12 := by omega
  have h288 : n ≤ 288 := by omega
  refine z_aload_n 0 C dX7_simulateStep_0 0 rfl ?_
  refine z_getf 1 C 0 z_dX7 (⟨rfl, rfl⟩) 0 (by decide) q339 (.ref (z_ad G 1)) rfl dX7_simulateStep_1 ?_
  refine z_callVN 4 C 1 (⟨rfl, rfl⟩) rfl (As := []) (rest := []) (m_X2_isComplete P n hP hn (by omega) (by omega)) k_X2_isComplete (List.mem_of_getElem? (i := 9) rfl) ⟨rfl, rfl⟩ ⟨Nat.le_of_ble_eq_true rfl, Nat.le_of_ble_eq_true rfl⟩ rfl (Nat.le_of_ble_eq_true rfl) ⟨Nat.le_of_ble_eq_true rfl, Nat.le_of_ble_eq_true rfl⟩ rfl dX7_simulateStep_4 (z_k1 ?_)
  refine z_if_neb 7 C 20 dX7_simulateStep_7 (by decide) (fun c7 => ?_) (fun c7 => ?_)
  · skip
    refine z_ldc 20 C dX7_simulateStep_20 q387 ?_
    refine z_iret 22 C dX7_simulateStep_22 ?_
    refine ⟨?_, ?_⟩
    · (rw [if_pos (c7)]) <;> (try rfl)
    · first | rfl | ((rw [if_pos (c7)]) <;> (try rfl))
  · skip
    refine z_aload_n 10 C dX7_simulateStep_10 0 rfl ?_
    refine z_getf 11 C 0 z_dX7 (⟨rfl, rfl⟩) 0 (by decide) q339 (.ref (z_ad G 1)) rfl dX7_simulateStep_11 ?_
    refine z_callVN 14 C 1 (⟨rfl, rfl⟩) rfl (As := []) (rest := []) (m_X2_nextPosition n hn (by omega)) k_X2_nextPosition (List.mem_of_getElem? (i := 11) rfl) ⟨rfl, rfl⟩ ⟨Nat.le_of_ble_eq_true rfl, Nat.le_of_ble_eq_true rfl⟩ rfl (Nat.le_of_ble_eq_true rfl) ⟨Nat.le_of_ble_eq_true rfl, Nat.le_of_ble_eq_true rfl⟩ rfl dX7_simulateStep_14 (z_k1 ?_)
    refine z_if_eq 17 C 23 dX7_simulateStep_17 (by decide) (fun c17 => ?_) (fun c17 => ?_)
    · skip
      have c17 : ¬ ¬ n % 24 = 0 := fun z => z ((z_nI0 (by omega)).mp c17)
      have e24 : n % 24 = 0 := Decidable.not_not.mp c17
      have hdl : n / 24 * (24 / P) ≤ 12 * 24 := Nat.mul_le_mul (by omega) (Nat.div_le_self 24 P)
      refine z_aload_n 23 C dX7_simulateStep_23 0 rfl ?_
      refine z_getf 24 C 0 z_dX7 (⟨rfl, rfl⟩) 0 (by decide) q339 (.ref (z_ad G 1)) rfl dX7_simulateStep_24 ?_
      refine z_aload_n 27 C dX7_simulateStep_27 0 rfl ?_
      refine z_getf 28 C 0 z_dX7 (⟨rfl, rfl⟩) 0 (by decide) q339 (.ref (z_ad G 1)) rfl dX7_simulateStep_28 ?_
      refine z_callVN 31 C 1 (⟨rfl, rfl⟩) rfl (As := []) (rest := [.ref (z_ad G 1)]) (m_X2_finishedSteps n hn (by omega)) k_X2_finishedSteps (List.mem_of_getElem? (i := 12) rfl) ⟨rfl, rfl⟩ ⟨Nat.le_of_ble_eq_true rfl, Nat.le_of_ble_eq_true rfl⟩ rfl (Nat.le_of_ble_eq_true rfl) ⟨Nat.le_of_ble_eq_true rfl, Nat.le_of_ble_eq_true rfl⟩ rfl dX7_simulateStep_31 (z_k1 ?_)
      refine z_callVN 34 C 1 (⟨rfl, rfl⟩) rfl (As := [.int (nI (n / 24))]) (rest := []) (m_X2_turnOf P hP (by omega) (by omega) (n / 24)) k_X2_turnOf (List.mem_of_getElem? (i := 13) rfl) ⟨rfl, rfl⟩ ⟨Nat.le_of_ble_eq_true rfl, Nat.le_of_ble_eq_true rfl⟩ rfl (Nat.le_of_ble_eq_true rfl) ⟨Nat.le_of_ble_eq_true rfl, Nat.le_of_ble_eq_true rfl⟩ rfl dX7_simulateStep_34 (z_k1 ?_)
      refine z_istore_n 37 C dX7_simulateStep_37 [(1, .int (nI ((n / 24) * (24 / P)))), (0, .ref (z_ad G 0))] (by decide) rfl ?_
      refine z_iconst 38 C dX7_simulateStep_38 (nI 0) rfl ?_
      refine z_istore_n 39 C dX7_simulateStep_39 [(2, .int (nI 0)), (1, .int (nI ((n / 24) * (24 / P)))), (0, .ref (z_ad G 0))] (by decide) rfl ?_
      refine z_sub [2, 1, 0] (lv1 := [(0, .ref (z_ad G 0)), (1, .int (nI ((n / 24) * (24 / P)))), (2, .int (nI 0))]) rfl ?_
      refine z_cv (lv1 := [(0, .ref (z_ad G 0)), (1, .int (nI ((n / 24) * (24 / P)))), (2, .int (nI 0))]) (st1 := []) (σ1 := z_ui (z_uI σ 2 (fb_put (σ.1 2) (fun kk => z_rg (σ.1 6) (σ.1 7) (σ.1 5 2) (σ.1 5 3) kk (n / 24 * (24 / P))) n 0)) 1 4 (nI (n + 0))) rfl rfl (by rw [fb_put_0, z_uI_same]; exact (z_ui_id hn).symm) ?_
      refine z_lp1 (fun (k : Nat) => k ≤ 24) (fun (k : Nat) => 24 - k) (fun (k : Nat) => [(0, .ref (z_ad G 0)), (1, .int (nI ((n / 24) * (24 / P)))), (2, .int (nI k))]) (fun (k : Nat) => z_ui (z_uI σ 2 (fb_put (σ.1 2) (fun kk => z_rg (σ.1 6) (σ.1 7) (σ.1 5 2) (σ.1 5 3) kk (n / 24 * (24 / P))) n k)) 1 4 (nI (n + k))) (fun k hi_40 ih_40 => ?_) 0 (by omega)
      try dsimp only
      refine z_iload_n 40 C dX7_simulateStep_40 2 rfl ?_
      refine z_bipush 41 C dX7_simulateStep_41 (nI 24) rfl ?_
      refine z_icmp_geN 43 C k 24 rfl rfl (by omega) (by omega) 68 dX7_simulateStep_43 (by decide) (fun c43 => ?_) (fun c43 => ?_)
      · skip
        have ek : k = 24 := by omega
        subst ek
        refine z_aload_n 68 C dX7_simulateStep_68 0 rfl ?_
        refine z_getf 69 C 0 z_dX7 (⟨rfl, rfl⟩) 0 (by decide) q339 (.ref (z_ad G 1)) rfl dX7_simulateStep_69 ?_
        refine z_getfN 72 C 1 z_dX2 (⟨rfl, rfl⟩) 4 (by decide) (List.mem_of_getElem? (i := 1) rfl) (.int (nI (n + 24))) rfl dX7_simulateStep_72 ?_
        refine z_iret 75 C dX7_simulateStep_75 ?_
        refine ⟨?_, ?_⟩
        · (rw [if_neg (c7), if_neg (c17)]) <;> (try rfl)
        · first | rfl | ((rw [if_neg (c7), if_neg (c17)]) <;> (try rfl))
      · skip
        refine z_aload_n 46 C dX7_simulateStep_46 0 rfl ?_
        refine z_getf 47 C 0 z_dX7 (⟨rfl, rfl⟩) 0 (by decide) q339 (.ref (z_ad G 1)) rfl dX7_simulateStep_47 ?_
        refine z_aload_n 50 C dX7_simulateStep_50 0 rfl ?_
        refine z_getf 51 C 0 z_dX7 (⟨rfl, rfl⟩) 1 (by decide) q340 (.ref (z_ad G 5)) rfl dX7_simulateStep_51 ?_
        refine z_iload_n 54 C dX7_simulateStep_54 2 rfl ?_
        refine z_iload_n 55 C dX7_simulateStep_55 1 rfl ?_
        refine z_callVN 56 C 5 (⟨rfl, rfl⟩) rfl (As := [.int (nI k), .int (nI ((n / 24) * (24 / P)))]) (rest := [.ref (z_ad G 1)]) (m_X5_readingAt (σ := z_ui (z_uI σ 2 (fb_put (σ.1 2) (fun kk => z_rg (σ.1 6) (σ.1 7) (σ.1 5 2) (σ.1 5 3) kk (n / 24 * (24 / P))) n k)) 1 4 (nI (n + k))) k ((n / 24) * (24 / P)) (by omega) (by omega)) k_X5_readingAt (List.mem_of_getElem? (i := 14) rfl) ⟨rfl, rfl⟩ ⟨Nat.le_of_ble_eq_true rfl, Nat.le_of_ble_eq_true rfl⟩ rfl (Nat.le_of_ble_eq_true rfl) ⟨Nat.le_of_ble_eq_true rfl, Nat.le_of_ble_eq_true rfl⟩ rfl dX7_simulateStep_56 (z_k1 ?_)
        refine z_callVN 59 C 1 (⟨rfl, rfl⟩) rfl (As := [.int (z_rg (σ.1 6) (σ.1 7) (σ.1 5 2) (σ.1 5 3) k ((n / 24) * (24 / P)))]) (rest := []) (m_X2_append (σ := z_ui (z_uI σ 2 (fb_put (σ.1 2) (fun kk => z_rg (σ.1 6) (σ.1 7) (σ.1 5 2) (σ.1 5 3) kk (n / 24 * (24 / P))) n k)) 1 4 (nI (n + k))) (n + k) rfl (by omega) (z_rg (σ.1 6) (σ.1 7) (σ.1 5 2) (σ.1 5 3) k ((n / 24) * (24 / P)))) k_X2_append (List.mem_of_getElem? (i := 10) rfl) ⟨rfl, rfl⟩ ⟨Nat.le_of_ble_eq_true rfl, Nat.le_of_ble_eq_true rfl⟩ rfl (Nat.le_of_ble_eq_true rfl) ⟨Nat.le_of_ble_eq_true rfl, Nat.le_of_ble_eq_true rfl⟩ rfl dX7_simulateStep_59 (z_k0 ?_)
        refine z_iincN 62 C 2 k [(2, .int (nI (k + 1))), (0, .ref (z_ad G 0)), (1, .int (nI ((n / 24) * (24 / P))))] rfl rfl (by decide) rfl dX7_simulateStep_62 ?_
        refine z_goto 65 C 40 dX7_simulateStep_65 (by decide) ?_
        refine z_sub [1, 2, 0] (lv1 := [(0, .ref (z_ad G 0)), (1, .int (nI ((n / 24) * (24 / P)))), (2, .int (nI (k + 1)))]) rfl ?_
        refine z_cv (lv1 := [(0, .ref (z_ad G 0)), (1, .int (nI ((n / 24) * (24 / P)))), (2, .int (nI (k + 1)))]) (st1 := []) (σ1 := z_ui (z_uI σ 2 (fb_put (σ.1 2) (fun kk => z_rg (σ.1 6) (σ.1 7) (σ.1 5 2) (σ.1 5 3) kk (n / 24 * (24 / P))) n (k + 1))) 1 4 (nI (n + (k + 1)))) rfl rfl (z_simS σ n k _) ?_
        exact ih_40 (k + 1) (by omega) (by omega)
    · skip
      have c17 : ¬ n % 24 = 0 := fun z => c17 (by rw [z]; rfl)
      refine z_ldc 20 C dX7_simulateStep_20 q387 ?_
      refine z_iret 22 C dX7_simulateStep_22 ?_
      refine ⟨?_, ?_⟩
      · (rw [if_neg (c7), if_pos (c17)]) <;> (try rfl)
      · first | rfl | ((rw [if_neg (c7), if_pos (c17)]) <;> (try rfl))
theorem dX7_removeReadings_0 : decode cX7_removeReadings 0 = .ok (.iload_n 1, 1) := by decide +kernel
theorem dX7_removeReadings_1 : decode cX7_removeReadings 1 = .ok (.iconst 0, 1) := by decide +kernel
theorem dX7_removeReadings_2 : decode cX7_removeReadings 2 = .ok (.aload_n 0, 1) := by decide +kernel
theorem dX7_removeReadings_3 : decode cX7_removeReadings 3 = .ok (.getfield 12, 3) := by decide +kernel
theorem dX7_removeReadings_6 : decode cX7_removeReadings 6 = .ok (.getfield 69, 3) := by decide +kernel
theorem dX7_removeReadings_9 : decode cX7_removeReadings 9 = .ok (.invokestatic 77, 3) := by decide +kernel
theorem dX7_removeReadings_12 : decode cX7_removeReadings 12 = .ok (.ifCond .eq 6, 3) := by decide +kernel
theorem dX7_removeReadings_15 : decode cX7_removeReadings 15 = .ok (.ldc 68, 2) := by decide +kernel
theorem dX7_removeReadings_17 : decode cX7_removeReadings 17 = .ok (.ireturn, 1) := by decide +kernel
theorem dX7_removeReadings_18 : decode cX7_removeReadings 18 = .ok (.aload_n 0, 1) := by decide +kernel
theorem dX7_removeReadings_19 : decode cX7_removeReadings 19 = .ok (.getfield 12, 3) := by decide +kernel
theorem dX7_removeReadings_22 : decode cX7_removeReadings 22 = .ok (.dup, 1) := by decide +kernel
theorem dX7_removeReadings_23 : decode cX7_removeReadings 23 = .ok (.getfield 69, 3) := by decide +kernel
theorem dX7_removeReadings_26 : decode cX7_removeReadings 26 = .ok (.iload_n 1, 1) := by decide +kernel
theorem dX7_removeReadings_27 : decode cX7_removeReadings 27 = .ok (.isub, 1) := by decide +kernel
theorem dX7_removeReadings_28 : decode cX7_removeReadings 28 = .ok (.putfield 69, 3) := by decide +kernel
theorem dX7_removeReadings_31 : decode cX7_removeReadings 31 = .ok (.aload_n 0, 1) := by decide +kernel
theorem dX7_removeReadings_32 : decode cX7_removeReadings 32 = .ok (.getfield 12, 3) := by decide +kernel
theorem dX7_removeReadings_35 : decode cX7_removeReadings 35 = .ok (.getfield 69, 3) := by decide +kernel
theorem dX7_removeReadings_38 : decode cX7_removeReadings 38 = .ok (.ireturn, 1) := by decide +kernel
set_option maxRecDepth 100000 in
set_option maxHeartbeats 4000000 in
theorem m_X7_removeReadings {l : Launch} {G : z_Gl} {σ : z_St} (P n o u v w rc tl : Nat) (hI : z_inv σ P n o u v w rc tl) (x : Int32) : z_M l G yX7_removeReadings cX7_removeReadings 2 (some .int) (z_rm 1 22) [.ref (z_ad G 0), .int x] σ (z_p1 (.int (if x < nI 0 ∨ nI n < x then (-1000001) else nI (n - z_n x))) (if x < nI 0 ∨ nI n < x then σ else z_ui σ 1 4 (nI (n - z_n x)))) := by
  refine z_M.of (by decide) (Nat.le_of_ble_eq_true rfl) (fun p e s m below meth c C => ?_)
  refine z_sub [0, 1] (lv1 := [(0, .ref (z_ad G 0)), (1, .int x)]) rfl ?_
  have hI0 := hI
  obtain ⟨⟨hP, hn, ho, hu, hv, hw, hrc, htl⟩, hPs, hnP, ho21, huv, hw6, hrc8, htl2⟩ := hI0
  have h0 : 0 < P := by omega
  have h12 : P ≤ 12 := by omega
  have h288 : n ≤ 288 := by omega
  refine z_iload_n 0 C dX7_removeReadings_0 1 rfl ?_
  refine z_iconst 1 C dX7_removeReadings_1 (nI 0) rfl ?_
  refine z_aload_n 2 C dX7_removeReadings_2 0 rfl ?_
  refine z_getf 3 C 0 z_dX7 (⟨rfl, rfl⟩) 0 (by decide) q339 (.ref (z_ad G 1)) rfl dX7_removeReadings_3 ?_
  refine z_getfN 6 C 1 z_dX2 (⟨rfl, rfl⟩) 4 (by decide) (List.mem_of_getElem? (i := 1) rfl) (.int (nI n)) (z_ci hn) dX7_removeReadings_6 ?_
  refine z_callS 9 C (As := [.int x, .int (nI 0), .int (nI n)]) (rest := []) (m_X7_isOutside x (nI 0) (nI n)) k_X7_isOutside q380 ⟨rfl, rfl⟩ ⟨Nat.le_of_ble_eq_true rfl, Nat.le_of_ble_eq_true rfl⟩ rfl (Nat.le_of_ble_eq_true rfl) ⟨Nat.le_of_ble_eq_true rfl, Nat.le_of_ble_eq_true rfl⟩ rfl dX7_removeReadings_9 (z_k1 ?_)
  refine z_if_eqb 12 C 18 dX7_removeReadings_12 (by decide) (fun c12 => ?_) (fun c12 => ?_)
  · skip
    obtain ⟨a, ha, rfl⟩ := z_in0 (by omega) c12
    refine z_aload_n 18 C dX7_removeReadings_18 0 rfl ?_
    refine z_getf 19 C 0 z_dX7 (⟨rfl, rfl⟩) 0 (by decide) q339 (.ref (z_ad G 1)) rfl dX7_removeReadings_19 ?_
    refine z_dup 22 C dX7_removeReadings_22 rfl ?_
    refine z_getfN 23 C 1 z_dX2 (⟨rfl, rfl⟩) 4 (by decide) (List.mem_of_getElem? (i := 1) rfl) (.int (nI n)) (z_ci hn) dX7_removeReadings_23 ?_
    refine z_iload_n 26 C dX7_removeReadings_26 1 rfl ?_
    refine z_isubN 27 C n a rfl rfl (ha) dX7_removeReadings_27 ?_
    refine z_putiN 28 C 1 z_dX2 (⟨rfl, rfl⟩) 4 (by decide) (List.mem_of_getElem? (i := 1) rfl) rfl (rfl) rfl ⟨Nat.le_of_ble_eq_true rfl, rfl⟩ dX7_removeReadings_28 ?_
    refine z_aload_n 31 C dX7_removeReadings_31 0 rfl ?_
    refine z_getf 32 C 0 z_dX7 (⟨rfl, rfl⟩) 0 (by decide) q339 (.ref (z_ad G 1)) rfl dX7_removeReadings_32 ?_
    refine z_getfN 35 C 1 z_dX2 (⟨rfl, rfl⟩) 4 (by decide) (List.mem_of_getElem? (i := 1) rfl) (.int (nI (n - a))) rfl dX7_removeReadings_35 ?_
    refine z_iret 38 C dX7_removeReadings_38 ?_
    refine ⟨?_, ?_⟩
    · (rw [if_neg (c12), z_nk (by omega)]) <;> (try rfl)
    · first | rfl | ((rw [if_neg (c12), z_nk (by omega)]) <;> (try rfl))
  · skip
    refine z_ldc 15 C dX7_removeReadings_15 q371 ?_
    refine z_iret 17 C dX7_removeReadings_17 ?_
    refine ⟨?_, ?_⟩
    · (rw [if_pos (c12)]) <;> (try rfl)
    · first | rfl | ((rw [if_pos (c12)]) <;> (try rfl))
theorem dX7_progress_0 : decode cX7_progress 0 = .ok (.iload_n 1, 1) := by decide +kernel
theorem dX7_progress_1 : decode cX7_progress 1 = .ok (.tableswitch 78 0 3 #[31, 39, 47, 55], 31) := by decide +kernel
theorem dX7_progress_32 : decode cX7_progress 32 = .ok (.aload_n 0, 1) := by decide +kernel
theorem dX7_progress_33 : decode cX7_progress 33 = .ok (.getfield 12, 3) := by decide +kernel
theorem dX7_progress_36 : decode cX7_progress 36 = .ok (.getfield 104, 3) := by decide +kernel
theorem dX7_progress_39 : decode cX7_progress 39 = .ok (.ireturn, 1) := by decide +kernel
theorem dX7_progress_40 : decode cX7_progress 40 = .ok (.aload_n 0, 1) := by decide +kernel
theorem dX7_progress_41 : decode cX7_progress 41 = .ok (.getfield 12, 3) := by decide +kernel
theorem dX7_progress_44 : decode cX7_progress 44 = .ok (.getfield 69, 3) := by decide +kernel
theorem dX7_progress_47 : decode cX7_progress 47 = .ok (.ireturn, 1) := by decide +kernel
theorem dX7_progress_48 : decode cX7_progress 48 = .ok (.aload_n 0, 1) := by decide +kernel
theorem dX7_progress_49 : decode cX7_progress 49 = .ok (.getfield 12, 3) := by decide +kernel
theorem dX7_progress_52 : decode cX7_progress 52 = .ok (.invokevirtual 93, 3) := by decide +kernel
theorem dX7_progress_55 : decode cX7_progress 55 = .ok (.ireturn, 1) := by decide +kernel
theorem dX7_progress_56 : decode cX7_progress 56 = .ok (.aload_n 0, 1) := by decide +kernel
theorem dX7_progress_57 : decode cX7_progress 57 = .ok (.getfield 12, 3) := by decide +kernel
theorem dX7_progress_60 : decode cX7_progress 60 = .ok (.invokevirtual 81, 3) := by decide +kernel
theorem dX7_progress_63 : decode cX7_progress 63 = .ok (.ifCond .eq 8, 3) := by decide +kernel
theorem dX7_progress_66 : decode cX7_progress 66 = .ok (.ldc 107, 2) := by decide +kernel
theorem dX7_progress_68 : decode cX7_progress 68 = .ok (.goto 10, 3) := by decide +kernel
theorem dX7_progress_71 : decode cX7_progress 71 = .ok (.aload_n 0, 1) := by decide +kernel
theorem dX7_progress_72 : decode cX7_progress 72 = .ok (.getfield 12, 3) := by decide +kernel
theorem dX7_progress_75 : decode cX7_progress 75 = .ok (.invokevirtual 89, 3) := by decide +kernel
theorem dX7_progress_78 : decode cX7_progress 78 = .ok (.ireturn, 1) := by decide +kernel
theorem dX7_progress_79 : decode cX7_progress 79 = .ok (.ldc 68, 2) := by decide +kernel
theorem dX7_progress_81 : decode cX7_progress 81 = .ok (.ireturn, 1) := by decide +kernel
set_option maxRecDepth 100000 in
set_option maxHeartbeats 4000000 in
theorem m_X7_progress {l : Launch} {G : z_Gl} {σ : z_St} (P n o u v w rc tl : Nat) (hI : z_inv σ P n o u v w rc tl) (x : Int32) : z_M l G yX7_progress cX7_progress 2 (some .int) (z_rm 1 20) [.ref (z_ad G 0), .int x] σ (z_p1 (.int (if x = 0 then nI P else if x = 1 then nI n else if x = 2 then nI (n / 24) else if x = 3 then if P * 24 ≤ n then (-1000003) else nI (n % 24) else (-1000001))) σ) := by
  refine z_M.of (by decide) (Nat.le_of_ble_eq_true rfl) (fun p e s m below meth c C => ?_)
  refine z_sub [0, 1] (lv1 := [(0, .ref (z_ad G 0)), (1, .int x)]) rfl ?_
  have hI0 := hI
  obtain ⟨⟨hP, hn, ho, hu, hv, hw, hrc, htl⟩, hPs, hnP, ho21, huv, hw6, hrc8, htl2⟩ := hI0
  have h0 : 0 < P := by omega
  have h12 : P ≤ 12 := by omega
  have h288 : n ≤ 288 := by omega
  refine z_iload_n 0 C dX7_progress_0 1 rfl ?_
  by_cases e1_0 : x = (0 : Int32)
  · skip
    refine z_tabIn 1 C 32 dX7_progress_1 (by rw [e1_0]; decide) (by rw [e1_0]; decide) (by rw [e1_0]; rfl) (by decide) ?_
    refine z_aload_n 32 C dX7_progress_32 0 rfl ?_
    refine z_getf 33 C 0 z_dX7 (⟨rfl, rfl⟩) 0 (by decide) q339 (.ref (z_ad G 1)) rfl dX7_progress_33 ?_
    refine z_getfN 36 C 1 z_dX2 (⟨rfl, rfl⟩) 3 (by decide) (List.mem_of_getElem? (i := 0) rfl) (.int (nI P)) (z_ci hP) dX7_progress_36 ?_
    refine z_iret 39 C dX7_progress_39 ?_
    exact ⟨z_ci (if_pos e1_0).symm, rfl⟩
  by_cases e1_1 : x = (1 : Int32)
  · skip
    refine z_tabIn 1 C 40 dX7_progress_1 (by rw [e1_1]; decide) (by rw [e1_1]; decide) (by rw [e1_1]; rfl) (by decide) ?_
    refine z_aload_n 40 C dX7_progress_40 0 rfl ?_
    refine z_getf 41 C 0 z_dX7 (⟨rfl, rfl⟩) 0 (by decide) q339 (.ref (z_ad G 1)) rfl dX7_progress_41 ?_
    refine z_getfN 44 C 1 z_dX2 (⟨rfl, rfl⟩) 4 (by decide) (List.mem_of_getElem? (i := 1) rfl) (.int (nI n)) (z_ci hn) dX7_progress_44 ?_
    refine z_iret 47 C dX7_progress_47 ?_
    exact ⟨z_ci (by rw [if_neg e1_0, if_pos e1_1]), rfl⟩
  by_cases e1_2 : x = (2 : Int32)
  · skip
    refine z_tabIn 1 C 48 dX7_progress_1 (by rw [e1_2]; decide) (by rw [e1_2]; decide) (by rw [e1_2]; rfl) (by decide) ?_
    refine z_aload_n 48 C dX7_progress_48 0 rfl ?_
    refine z_getf 49 C 0 z_dX7 (⟨rfl, rfl⟩) 0 (by decide) q339 (.ref (z_ad G 1)) rfl dX7_progress_49 ?_
    refine z_callVN 52 C 1 (⟨rfl, rfl⟩) rfl (As := []) (rest := []) (m_X2_finishedSteps n hn (by omega)) k_X2_finishedSteps (List.mem_of_getElem? (i := 12) rfl) ⟨rfl, rfl⟩ ⟨Nat.le_of_ble_eq_true rfl, Nat.le_of_ble_eq_true rfl⟩ rfl (Nat.le_of_ble_eq_true rfl) ⟨Nat.le_of_ble_eq_true rfl, Nat.le_of_ble_eq_true rfl⟩ rfl dX7_progress_52 (z_k1 ?_)
    refine z_iret 55 C dX7_progress_55 ?_
    exact ⟨z_ci (by rw [if_neg e1_0, if_neg e1_1, if_pos e1_2]), rfl⟩
  by_cases e1_3 : x = (3 : Int32)
  · skip
    refine z_tabIn 1 C 56 dX7_progress_1 (by rw [e1_3]; decide) (by rw [e1_3]; decide) (by rw [e1_3]; rfl) (by decide) ?_
    refine z_aload_n 56 C dX7_progress_56 0 rfl ?_
    refine z_getf 57 C 0 z_dX7 (⟨rfl, rfl⟩) 0 (by decide) q339 (.ref (z_ad G 1)) rfl dX7_progress_57 ?_
    refine z_callVN 60 C 1 (⟨rfl, rfl⟩) rfl (As := []) (rest := []) (m_X2_isComplete P n hP hn (by omega) (by omega)) k_X2_isComplete (List.mem_of_getElem? (i := 9) rfl) ⟨rfl, rfl⟩ ⟨Nat.le_of_ble_eq_true rfl, Nat.le_of_ble_eq_true rfl⟩ rfl (Nat.le_of_ble_eq_true rfl) ⟨Nat.le_of_ble_eq_true rfl, Nat.le_of_ble_eq_true rfl⟩ rfl dX7_progress_60 (z_k1 ?_)
    refine z_if_eqb 63 C 71 dX7_progress_63 (by decide) (fun c63 => ?_) (fun c63 => ?_)
    · skip
      refine z_aload_n 71 C dX7_progress_71 0 rfl ?_
      refine z_getf 72 C 0 z_dX7 (⟨rfl, rfl⟩) 0 (by decide) q339 (.ref (z_ad G 1)) rfl dX7_progress_72 ?_
      refine z_callVN 75 C 1 (⟨rfl, rfl⟩) rfl (As := []) (rest := []) (m_X2_nextPosition n hn (by omega)) k_X2_nextPosition (List.mem_of_getElem? (i := 11) rfl) ⟨rfl, rfl⟩ ⟨Nat.le_of_ble_eq_true rfl, Nat.le_of_ble_eq_true rfl⟩ rfl (Nat.le_of_ble_eq_true rfl) ⟨Nat.le_of_ble_eq_true rfl, Nat.le_of_ble_eq_true rfl⟩ rfl dX7_progress_75 (z_k1 ?_)
      refine z_iret 78 C dX7_progress_78 ?_
      first | exact ⟨z_ci (by rw [if_neg e1_0, if_neg e1_1, if_neg e1_2, if_pos e1_3, if_pos c63]), rfl⟩ | exact ⟨z_ci (by rw [if_neg e1_0, if_neg e1_1, if_neg e1_2, if_pos e1_3, if_neg c63]), rfl⟩
    · skip
      refine z_ldc 66 C dX7_progress_66 q440 ?_
      refine z_goto 68 C 78 dX7_progress_68 (by decide) ?_
      refine z_iret 78 C dX7_progress_78 ?_
      first | exact ⟨z_ci (by rw [if_neg e1_0, if_neg e1_1, if_neg e1_2, if_pos e1_3, if_pos c63]), rfl⟩ | exact ⟨z_ci (by rw [if_neg e1_0, if_neg e1_1, if_neg e1_2, if_pos e1_3, if_neg c63]), rfl⟩
  refine z_tabOut 1 C 79 dX7_progress_1 (z_tb4x e1_0 e1_1 e1_2 e1_3) (by decide) ?_
  refine z_ldc 79 C dX7_progress_79 q371 ?_
  refine z_iret 81 C dX7_progress_81 ?_
  exact ⟨z_ci (by rw [if_neg e1_0, if_neg e1_1, if_neg e1_2, if_neg e1_3]), rfl⟩
theorem dX7_reading_0 : decode cX7_reading 0 = .ok (.iload_n 1, 1) := by decide +kernel
theorem dX7_reading_1 : decode cX7_reading 1 = .ok (.iconst 0, 1) := by decide +kernel
theorem dX7_reading_2 : decode cX7_reading 2 = .ok (.aload_n 0, 1) := by decide +kernel
theorem dX7_reading_3 : decode cX7_reading 3 = .ok (.getfield 12, 3) := by decide +kernel
theorem dX7_reading_6 : decode cX7_reading 6 = .ok (.getfield 104, 3) := by decide +kernel
theorem dX7_reading_9 : decode cX7_reading 9 = .ok (.iconst 1, 1) := by decide +kernel
theorem dX7_reading_10 : decode cX7_reading 10 = .ok (.isub, 1) := by decide +kernel
theorem dX7_reading_11 : decode cX7_reading 11 = .ok (.invokestatic 77, 3) := by decide +kernel
theorem dX7_reading_14 : decode cX7_reading 14 = .ok (.ifCond .ne 10, 3) := by decide +kernel
theorem dX7_reading_17 : decode cX7_reading 17 = .ok (.iload_n 2, 1) := by decide +kernel
theorem dX7_reading_18 : decode cX7_reading 18 = .ok (.invokestatic 108, 3) := by decide +kernel
theorem dX7_reading_21 : decode cX7_reading 21 = .ok (.ifCond .eq 6, 3) := by decide +kernel
theorem dX7_reading_24 : decode cX7_reading 24 = .ok (.ldc 68, 2) := by decide +kernel
theorem dX7_reading_26 : decode cX7_reading 26 = .ok (.ireturn, 1) := by decide +kernel
theorem dX7_reading_27 : decode cX7_reading 27 = .ok (.iload_n 1, 1) := by decide +kernel
theorem dX7_reading_28 : decode cX7_reading 28 = .ok (.bipush 24, 2) := by decide +kernel
theorem dX7_reading_30 : decode cX7_reading 30 = .ok (.imul, 1) := by decide +kernel
theorem dX7_reading_31 : decode cX7_reading 31 = .ok (.iload_n 2, 1) := by decide +kernel
theorem dX7_reading_32 : decode cX7_reading 32 = .ok (.iadd, 1) := by decide +kernel
theorem dX7_reading_33 : decode cX7_reading 33 = .ok (.aload_n 0, 1) := by decide +kernel
theorem dX7_reading_34 : decode cX7_reading 34 = .ok (.getfield 12, 3) := by decide +kernel
theorem dX7_reading_37 : decode cX7_reading 37 = .ok (.getfield 69, 3) := by decide +kernel
theorem dX7_reading_40 : decode cX7_reading 40 = .ok (.if_icmp .lt 6, 3) := by decide +kernel
theorem dX7_reading_43 : decode cX7_reading 43 = .ok (.ldc 107, 2) := by decide +kernel
theorem dX7_reading_45 : decode cX7_reading 45 = .ok (.ireturn, 1) := by decide +kernel
theorem dX7_reading_46 : decode cX7_reading 46 = .ok (.aload_n 0, 1) := by decide +kernel
theorem dX7_reading_47 : decode cX7_reading 47 = .ok (.getfield 12, 3) := by decide +kernel
theorem dX7_reading_50 : decode cX7_reading 50 = .ok (.iload_n 1, 1) := by decide +kernel
theorem dX7_reading_51 : decode cX7_reading 51 = .ok (.iload_n 2, 1) := by decide +kernel
theorem dX7_reading_52 : decode cX7_reading 52 = .ok (.invokevirtual 111, 3) := by decide +kernel
theorem dX7_reading_55 : decode cX7_reading 55 = .ok (.ireturn, 1) := by decide +kernel
set_option maxRecDepth 100000 in
set_option maxHeartbeats 4000000 in
theorem m_X7_reading {l : Launch} {G : z_Gl} {σ : z_St} (P n o u v w rc tl : Nat) (hI : z_inv σ P n o u v w rc tl) (x : Int32) (y : Int32) : z_M l G yX7_reading cX7_reading 3 (some .int) (z_rm 2 44) [.ref (z_ad G 0), .int x, .int y] σ (z_p1 (.int (if x < nI 0 ∨ nI P - nI 1 < x then (-1000001) else if y < nI 0 ∨ nI 23 < y then (-1000001) else if n ≤ z_n x * 24 + z_n y then (-1000003) else σ.1 2 (z_n x * 24 + z_n y % 24))) σ) := by
  refine z_M.of (by decide) (Nat.le_of_ble_eq_true rfl) (fun p e s m below meth c C => ?_)
  refine z_sub [0, 1, 2] (lv1 := [(0, .ref (z_ad G 0)), (1, .int x), (2, .int y)]) rfl ?_
  have hI0 := hI
  obtain ⟨⟨hP, hn, ho, hu, hv, hw, hrc, htl⟩, hPs, hnP, ho21, huv, hw6, hrc8, htl2⟩ := hI0
  have h0 : 0 < P := by omega
  have h12 : P ≤ 12 := by omega
  have h288 : n ≤ 288 := by omega
  refine z_iload_n 0 C dX7_reading_0 1 rfl ?_
  refine z_iconst 1 C dX7_reading_1 (nI 0) rfl ?_
  refine z_aload_n 2 C dX7_reading_2 0 rfl ?_
  refine z_getf 3 C 0 z_dX7 (⟨rfl, rfl⟩) 0 (by decide) q339 (.ref (z_ad G 1)) rfl dX7_reading_3 ?_
  refine z_getfN 6 C 1 z_dX2 (⟨rfl, rfl⟩) 3 (by decide) (List.mem_of_getElem? (i := 0) rfl) (.int (nI P)) (z_ci hP) dX7_reading_6 ?_
  refine z_iconst 9 C dX7_reading_9 (nI 1) rfl ?_
  refine z_isub 10 C dX7_reading_10 ?_
  refine z_callS 11 C (As := [.int x, .int (nI 0), .int ((nI P) - (nI 1))]) (rest := []) (m_X7_isOutside x (nI 0) ((nI P) - (nI 1))) k_X7_isOutside q380 ⟨rfl, rfl⟩ ⟨Nat.le_of_ble_eq_true rfl, Nat.le_of_ble_eq_true rfl⟩ rfl (Nat.le_of_ble_eq_true rfl) ⟨Nat.le_of_ble_eq_true rfl, Nat.le_of_ble_eq_true rfl⟩ rfl dX7_reading_11 (z_k1 ?_)
  refine z_if_neb 14 C 24 dX7_reading_14 (by decide) (fun c14 => ?_) (fun c14 => ?_)
  · skip
    refine z_ldc 24 C dX7_reading_24 q371 ?_
    refine z_iret 26 C dX7_reading_26 ?_
    refine ⟨?_, ?_⟩
    · (rw [if_pos (c14)]) <;> (try rfl)
    · first | rfl | ((rw [if_pos (c14)]) <;> (try rfl))
  · skip
    obtain ⟨a, ha, rfl⟩ := z_inw (by omega) c14
    refine z_iload_n 17 C dX7_reading_17 2 rfl ?_
    refine z_callS 18 C (As := [.int y]) (rest := []) (m_X7_isNoPosition y) k_X7_isNoPosition q445 ⟨rfl, rfl⟩ ⟨Nat.le_of_ble_eq_true rfl, Nat.le_of_ble_eq_true rfl⟩ rfl (Nat.le_of_ble_eq_true rfl) ⟨Nat.le_of_ble_eq_true rfl, Nat.le_of_ble_eq_true rfl⟩ rfl dX7_reading_18 (z_k1 ?_)
    refine z_if_eqb 21 C 27 dX7_reading_21 (by decide) (fun c21 => ?_) (fun c21 => ?_)
    · skip
      obtain ⟨b, hb, rfl⟩ := z_in0 (by decide) c21
      refine z_iload_n 27 C dX7_reading_27 1 rfl ?_
      refine z_bipush 28 C dX7_reading_28 (nI 24) rfl ?_
      refine z_imulN 30 C a 24 rfl rfl dX7_reading_30 ?_
      refine z_iload_n 31 C dX7_reading_31 2 rfl ?_
      refine z_iaddN 32 C (a * 24) b rfl rfl dX7_reading_32 ?_
      refine z_aload_n 33 C dX7_reading_33 0 rfl ?_
      refine z_getf 34 C 0 z_dX7 (⟨rfl, rfl⟩) 0 (by decide) q339 (.ref (z_ad G 1)) rfl dX7_reading_34 ?_
      refine z_getfN 37 C 1 z_dX2 (⟨rfl, rfl⟩) 4 (by decide) (List.mem_of_getElem? (i := 1) rfl) (.int (nI n)) (z_ci hn) dX7_reading_37 ?_
      refine z_icmp_ltN 40 C ((a * 24) + b) n rfl rfl (by omega) (by omega) 46 dX7_reading_40 (by decide) (fun c40 => ?_) (fun c40 => ?_)
      · skip
        refine z_aload_n 46 C dX7_reading_46 0 rfl ?_
        refine z_getf 47 C 0 z_dX7 (⟨rfl, rfl⟩) 0 (by decide) q339 (.ref (z_ad G 1)) rfl dX7_reading_47 ?_
        refine z_iload_n 50 C dX7_reading_50 1 rfl ?_
        refine z_iload_n 51 C dX7_reading_51 2 rfl ?_
        refine z_callVN 52 C 1 (⟨rfl, rfl⟩) rfl (As := [.int (nI a), .int (nI b)]) (rest := []) (m_X2_at a b (by omega) (by omega)) k_X2_at (List.mem_of_getElem? (i := 18) rfl) ⟨rfl, rfl⟩ ⟨Nat.le_of_ble_eq_true rfl, Nat.le_of_ble_eq_true rfl⟩ rfl (Nat.le_of_ble_eq_true rfl) ⟨Nat.le_of_ble_eq_true rfl, Nat.le_of_ble_eq_true rfl⟩ rfl dX7_reading_52 (z_k1 ?_)
        refine z_iret 55 C dX7_reading_55 ?_
        have c40 : ¬ n ≤ z_n (nI a) * 24 + z_n (nI b) := by rw [z_nk (by omega), z_nk (by omega)]; omega
        exact ⟨z_ci (by rw [if_neg c14, if_neg c21, if_neg c40, z_nk (k := a) (by omega), z_nk (k := b) (by omega)]), rfl⟩
      · skip
        refine z_ldc 43 C dX7_reading_43 q440 ?_
        refine z_iret 45 C dX7_reading_45 ?_
        have c40 : n ≤ z_n (nI a) * 24 + z_n (nI b) := by rw [z_nk (by omega), z_nk (by omega)]; omega
        exact ⟨z_ci (by rw [if_neg c14, if_neg c21, if_pos c40]), rfl⟩
    · skip
      refine z_ldc 24 C dX7_reading_24 q371 ?_
      refine z_iret 26 C dX7_reading_26 ?_
      refine ⟨?_, ?_⟩
      · (rw [if_neg (c14), if_pos (c21)]) <;> (try rfl)
      · first | rfl | ((rw [if_neg (c14), if_pos (c21)]) <;> (try rfl))
theorem dX7_despike_0 : decode cX7_despike 0 = .ok (.iload_n 1, 1) := by decide +kernel
theorem dX7_despike_1 : decode cX7_despike 1 = .ok (.iconst 0, 1) := by decide +kernel
theorem dX7_despike_2 : decode cX7_despike 2 = .ok (.aload_n 0, 1) := by decide +kernel
theorem dX7_despike_3 : decode cX7_despike 3 = .ok (.getfield 12, 3) := by decide +kernel
theorem dX7_despike_6 : decode cX7_despike 6 = .ok (.invokevirtual 93, 3) := by decide +kernel
theorem dX7_despike_9 : decode cX7_despike 9 = .ok (.iconst 1, 1) := by decide +kernel
theorem dX7_despike_10 : decode cX7_despike 10 = .ok (.isub, 1) := by decide +kernel
theorem dX7_despike_11 : decode cX7_despike 11 = .ok (.invokestatic 77, 3) := by decide +kernel
theorem dX7_despike_14 : decode cX7_despike 14 = .ok (.ifCond .ne 14, 3) := by decide +kernel
theorem dX7_despike_17 : decode cX7_despike 17 = .ok (.iload_n 2, 1) := by decide +kernel
theorem dX7_despike_18 : decode cX7_despike 18 = .ok (.iconst 0, 1) := by decide +kernel
theorem dX7_despike_19 : decode cX7_despike 19 = .ok (.sipush 20000, 3) := by decide +kernel
theorem dX7_despike_22 : decode cX7_despike 22 = .ok (.invokestatic 77, 3) := by decide +kernel
theorem dX7_despike_25 : decode cX7_despike 25 = .ok (.ifCond .eq 6, 3) := by decide +kernel
theorem dX7_despike_28 : decode cX7_despike 28 = .ok (.ldc 68, 2) := by decide +kernel
theorem dX7_despike_30 : decode cX7_despike 30 = .ok (.ireturn, 1) := by decide +kernel
theorem dX7_despike_31 : decode cX7_despike 31 = .ok (.aload_n 0, 1) := by decide +kernel
theorem dX7_despike_32 : decode cX7_despike 32 = .ok (.getfield 12, 3) := by decide +kernel
theorem dX7_despike_35 : decode cX7_despike 35 = .ok (.iload_n 1, 1) := by decide +kernel
theorem dX7_despike_36 : decode cX7_despike 36 = .ok (.iload_n 2, 1) := by decide +kernel
theorem dX7_despike_37 : decode cX7_despike 37 = .ok (.invokevirtual 114, 3) := by decide +kernel
theorem dX7_despike_40 : decode cX7_despike 40 = .ok (.ireturn, 1) := by decide +kernel
set_option maxRecDepth 100000 in
set_option maxHeartbeats 4000000 in
theorem m_X7_despike {l : Launch} {G : z_Gl} {σ : z_St} (P n o u v w rc tl : Nat) (hI : z_inv σ P n o u v w rc tl) (x : Int32) (y : Int32) : z_M l G yX7_despike cX7_despike 3 (some .int) (z_rm 3 68) [.ref (z_ad G 0), .int x, .int y] σ (z_p1 (.int (if x < nI 0 ∨ nI (n / 24) - nI 1 < x then (-1000001) else if y < nI 0 ∨ nI 20000 < y then (-1000001) else nI (z_sc (z_rw (σ.1 2) (z_n x)) (z_n y) 24))) (if x < nI 0 ∨ nI (n / 24) - nI 1 < x then σ else if y < nI 0 ∨ nI 20000 < y then σ else z_uI (z_uI σ 3 (va_cpy (σ.1 2) (σ.1 3) ((z_n x) * 24) 0 24)) 2 (fb_put (σ.1 2) (z_sv (z_rw (σ.1 2) (z_n x)) (z_n y)) ((z_n x) * 24) 24))) := by
  refine z_M.of (by decide) (Nat.le_of_ble_eq_true rfl) (fun p e s m below meth c C => ?_)
  refine z_sub [0, 1, 2] (lv1 := [(0, .ref (z_ad G 0)), (1, .int x), (2, .int y)]) rfl ?_
  have hI0 := hI
  obtain ⟨⟨hP, hn, ho, hu, hv, hw, hrc, htl⟩, hPs, hnP, ho21, huv, hw6, hrc8, htl2⟩ := hI0
  have h0 : 0 < P := by omega
  have h12 : P ≤ 12 := by omega
  have h288 : n ≤ 288 := by omega
  refine z_iload_n 0 C dX7_despike_0 1 rfl ?_
  refine z_iconst 1 C dX7_despike_1 (nI 0) rfl ?_
  refine z_aload_n 2 C dX7_despike_2 0 rfl ?_
  refine z_getf 3 C 0 z_dX7 (⟨rfl, rfl⟩) 0 (by decide) q339 (.ref (z_ad G 1)) rfl dX7_despike_3 ?_
  refine z_callVN 6 C 1 (⟨rfl, rfl⟩) rfl (As := []) (rest := [.int (nI 0), .int x]) (m_X2_finishedSteps n hn (by omega)) k_X2_finishedSteps (List.mem_of_getElem? (i := 12) rfl) ⟨rfl, rfl⟩ ⟨Nat.le_of_ble_eq_true rfl, Nat.le_of_ble_eq_true rfl⟩ rfl (Nat.le_of_ble_eq_true rfl) ⟨Nat.le_of_ble_eq_true rfl, Nat.le_of_ble_eq_true rfl⟩ rfl dX7_despike_6 (z_k1 ?_)
  refine z_iconst 9 C dX7_despike_9 (nI 1) rfl ?_
  refine z_isub 10 C dX7_despike_10 ?_
  refine z_callS 11 C (As := [.int x, .int (nI 0), .int ((nI (n / 24)) - (nI 1))]) (rest := []) (m_X7_isOutside x (nI 0) ((nI (n / 24)) - (nI 1))) k_X7_isOutside q380 ⟨rfl, rfl⟩ ⟨Nat.le_of_ble_eq_true rfl, Nat.le_of_ble_eq_true rfl⟩ rfl (Nat.le_of_ble_eq_true rfl) ⟨Nat.le_of_ble_eq_true rfl, Nat.le_of_ble_eq_true rfl⟩ rfl dX7_despike_11 (z_k1 ?_)
  refine z_if_neb 14 C 28 dX7_despike_14 (by decide) (fun c14 => ?_) (fun c14 => ?_)
  · skip
    refine z_ldc 28 C dX7_despike_28 q371 ?_
    refine z_iret 30 C dX7_despike_30 ?_
    refine ⟨?_, ?_⟩
    · (rw [if_pos (c14)]) <;> (try rfl)
    · first | rfl | ((rw [if_pos (c14)]) <;> (try rfl))
  · skip
    obtain ⟨a, ha, rfl⟩ := z_inw (by omega) c14
    refine z_iload_n 17 C dX7_despike_17 2 rfl ?_
    refine z_iconst 18 C dX7_despike_18 (nI 0) rfl ?_
    refine z_sipush 19 C dX7_despike_19 (nI 20000) rfl ?_
    refine z_callS 22 C (As := [.int y, .int (nI 0), .int (nI 20000)]) (rest := []) (m_X7_isOutside y (nI 0) (nI 20000)) k_X7_isOutside q380 ⟨rfl, rfl⟩ ⟨Nat.le_of_ble_eq_true rfl, Nat.le_of_ble_eq_true rfl⟩ rfl (Nat.le_of_ble_eq_true rfl) ⟨Nat.le_of_ble_eq_true rfl, Nat.le_of_ble_eq_true rfl⟩ rfl dX7_despike_22 (z_k1 ?_)
    refine z_if_eqb 25 C 31 dX7_despike_25 (by decide) (fun c25 => ?_) (fun c25 => ?_)
    · skip
      obtain ⟨b, hb, rfl⟩ := z_in0 (by decide) c25
      refine z_aload_n 31 C dX7_despike_31 0 rfl ?_
      refine z_getf 32 C 0 z_dX7 (⟨rfl, rfl⟩) 0 (by decide) q339 (.ref (z_ad G 1)) rfl dX7_despike_32 ?_
      refine z_iload_n 35 C dX7_despike_35 1 rfl ?_
      refine z_iload_n 36 C dX7_despike_36 2 rfl ?_
      refine z_callVN 37 C 1 (⟨rfl, rfl⟩) rfl (As := [.int (nI a), .int (nI b)]) (rest := []) (m_X2_replaceSpikes a b (by omega) (by omega)) k_X2_replaceSpikes (List.mem_of_getElem? (i := 19) rfl) ⟨rfl, rfl⟩ ⟨Nat.le_of_ble_eq_true rfl, Nat.le_of_ble_eq_true rfl⟩ rfl (Nat.le_of_ble_eq_true rfl) ⟨Nat.le_of_ble_eq_true rfl, Nat.le_of_ble_eq_true rfl⟩ rfl dX7_despike_37 (z_k1 ?_)
      refine z_iret 40 C dX7_despike_40 ?_
      refine ⟨?_, ?_⟩
      · (rw [if_neg (c14), if_neg (c25), z_nk (k := a) (by omega), z_nk (k := b) (by omega)]) <;> (try rfl)
      · first | rfl | ((rw [if_neg (c14), if_neg (c25), z_nk (k := a) (by omega), z_nk (k := b) (by omega)]) <;> (try rfl))
    · skip
      refine z_ldc 28 C dX7_despike_28 q371 ?_
      refine z_iret 30 C dX7_despike_30 ?_
      refine ⟨?_, ?_⟩
      · (rw [if_neg (c14), if_pos (c25)]) <;> (try rfl)
      · first | rfl | ((rw [if_neg (c14), if_pos (c25)]) <;> (try rfl))
theorem dX7_part_0 : decode cX7_part 0 = .ok (.iload_n 1, 1) := by decide +kernel
theorem dX7_part_1 : decode cX7_part 1 = .ok (.invokestatic 108, 3) := by decide +kernel
theorem dX7_part_4 : decode cX7_part 4 = .ok (.ifCond .ne 13, 3) := by decide +kernel
theorem dX7_part_7 : decode cX7_part 7 = .ok (.aload_n 0, 1) := by decide +kernel
theorem dX7_part_8 : decode cX7_part 8 = .ok (.getfield 12, 3) := by decide +kernel
theorem dX7_part_11 : decode cX7_part 11 = .ok (.invokevirtual 81, 3) := by decide +kernel
theorem dX7_part_14 : decode cX7_part 14 = .ok (.ifCond .ne 7, 3) := by decide +kernel
theorem dX7_part_17 : decode cX7_part 17 = .ok (.ldc2_w 117, 3) := by decide +kernel
theorem dX7_part_20 : decode cX7_part 20 = .ok (.lreturn, 1) := by decide +kernel
theorem dX7_part_21 : decode cX7_part 21 = .ok (.aload_n 0, 1) := by decide +kernel
theorem dX7_part_22 : decode cX7_part 22 = .ok (.getfield 12, 3) := by decide +kernel
theorem dX7_part_25 : decode cX7_part 25 = .ok (.iload_n 1, 1) := by decide +kernel
theorem dX7_part_26 : decode cX7_part 26 = .ok (.invokevirtual 119, 3) := by decide +kernel
theorem dX7_part_29 : decode cX7_part 29 = .ok (.lreturn, 1) := by decide +kernel
set_option maxRecDepth 100000 in
set_option maxHeartbeats 4000000 in
theorem m_X7_part {l : Launch} {G : z_Gl} {σ : z_St} (P n o u v w rc tl : Nat) (hI : z_inv σ P n o u v w rc tl) (x : Int32) : z_M l G yX7_part cX7_part 2 (some .long) (z_rm 4 93) [.ref (z_ad G 0), .int x] σ (z_p1 (.long (if x < nI 0 ∨ nI 23 < x then (-9223372036854775808) else if ¬ P * 24 ≤ n then (-9223372036854775808) else z_pt (σ.1 2) P (z_n x))) σ) := by
  refine z_M.of (by decide) (Nat.le_of_ble_eq_true rfl) (fun p e s m below meth c C => ?_)
  refine z_sub [0, 1] (lv1 := [(0, .ref (z_ad G 0)), (1, .int x)]) rfl ?_
  have hI0 := hI
  obtain ⟨⟨hP, hn, ho, hu, hv, hw, hrc, htl⟩, hPs, hnP, ho21, huv, hw6, hrc8, htl2⟩ := hI0
  have h0 : 0 < P := by omega
  have h12 : P ≤ 12 := by omega
  have h288 : n ≤ 288 := by omega
  refine z_iload_n 0 C dX7_part_0 1 rfl ?_
  refine z_callS 1 C (As := [.int x]) (rest := []) (m_X7_isNoPosition x) k_X7_isNoPosition q445 ⟨rfl, rfl⟩ ⟨Nat.le_of_ble_eq_true rfl, Nat.le_of_ble_eq_true rfl⟩ rfl (Nat.le_of_ble_eq_true rfl) ⟨Nat.le_of_ble_eq_true rfl, Nat.le_of_ble_eq_true rfl⟩ rfl dX7_part_1 (z_k1 ?_)
  refine z_if_neb 4 C 17 dX7_part_4 (by decide) (fun c4 => ?_) (fun c4 => ?_)
  · skip
    refine z_ldc2 17 C dX7_part_17 q475 ?_
    refine z_lret 20 C dX7_part_20 ?_
    first | exact ⟨z_cl (by rw [if_pos c4]), rfl⟩ | exact ⟨z_cl (by rw [if_neg c4, if_pos c14]), rfl⟩
  · skip
    obtain ⟨a, ha, rfl⟩ := z_in0 (by decide) c4
    refine z_aload_n 7 C dX7_part_7 0 rfl ?_
    refine z_getf 8 C 0 z_dX7 (⟨rfl, rfl⟩) 0 (by decide) q339 (.ref (z_ad G 1)) rfl dX7_part_8 ?_
    refine z_callVN 11 C 1 (⟨rfl, rfl⟩) rfl (As := []) (rest := []) (m_X2_isComplete P n hP hn (by omega) (by omega)) k_X2_isComplete (List.mem_of_getElem? (i := 9) rfl) ⟨rfl, rfl⟩ ⟨Nat.le_of_ble_eq_true rfl, Nat.le_of_ble_eq_true rfl⟩ rfl (Nat.le_of_ble_eq_true rfl) ⟨Nat.le_of_ble_eq_true rfl, Nat.le_of_ble_eq_true rfl⟩ rfl dX7_part_11 (z_k1 ?_)
    refine z_if_neb 14 C 21 dX7_part_14 (by decide) (fun c14 => ?_) (fun c14 => ?_)
    · skip
      refine z_aload_n 21 C dX7_part_21 0 rfl ?_
      refine z_getf 22 C 0 z_dX7 (⟨rfl, rfl⟩) 0 (by decide) q339 (.ref (z_ad G 1)) rfl dX7_part_22 ?_
      refine z_iload_n 25 C dX7_part_25 1 rfl ?_
      refine z_callVN 26 C 1 (⟨rfl, rfl⟩) rfl (As := [.int (nI a)]) (rest := []) (m_X2_partAt P hP (by omega) (by omega) a (by omega)) k_X2_partAt (List.mem_of_getElem? (i := 21) rfl) ⟨rfl, rfl⟩ ⟨Nat.le_of_ble_eq_true rfl, Nat.le_of_ble_eq_true rfl⟩ rfl (Nat.le_of_ble_eq_true rfl) ⟨Nat.le_of_ble_eq_true rfl, Nat.le_of_ble_eq_true rfl⟩ rfl dX7_part_26 (z_k1 ?_)
      refine z_lret 29 C dX7_part_29 ?_
      exact ⟨z_cl (by rw [if_neg c4, if_neg (fun z => z c14), z_nk (by omega)]), rfl⟩
    · skip
      refine z_ldc2 17 C dX7_part_17 q475 ?_
      refine z_lret 20 C dX7_part_20 ?_
      first | exact ⟨z_cl (by rw [if_pos c4]), rfl⟩ | exact ⟨z_cl (by rw [if_neg c4, if_pos c14]), rfl⟩
theorem dX7_spindle_0 : decode cX7_spindle 0 = .ok (.iload_n 1, 1) := by decide +kernel
theorem dX7_spindle_1 : decode cX7_spindle 1 = .ok (.invokestatic 108, 3) := by decide +kernel
theorem dX7_spindle_4 : decode cX7_spindle 4 = .ok (.ifCond .ne 13, 3) := by decide +kernel
theorem dX7_spindle_7 : decode cX7_spindle 7 = .ok (.aload_n 0, 1) := by decide +kernel
theorem dX7_spindle_8 : decode cX7_spindle 8 = .ok (.getfield 12, 3) := by decide +kernel
theorem dX7_spindle_11 : decode cX7_spindle 11 = .ok (.invokevirtual 81, 3) := by decide +kernel
theorem dX7_spindle_14 : decode cX7_spindle 14 = .ok (.ifCond .ne 7, 3) := by decide +kernel
theorem dX7_spindle_17 : decode cX7_spindle 17 = .ok (.ldc2_w 117, 3) := by decide +kernel
theorem dX7_spindle_20 : decode cX7_spindle 20 = .ok (.lreturn, 1) := by decide +kernel
theorem dX7_spindle_21 : decode cX7_spindle 21 = .ok (.aload_n 0, 1) := by decide +kernel
theorem dX7_spindle_22 : decode cX7_spindle 22 = .ok (.getfield 12, 3) := by decide +kernel
theorem dX7_spindle_25 : decode cX7_spindle 25 = .ok (.iload_n 1, 1) := by decide +kernel
theorem dX7_spindle_26 : decode cX7_spindle 26 = .ok (.invokevirtual 123, 3) := by decide +kernel
theorem dX7_spindle_29 : decode cX7_spindle 29 = .ok (.lreturn, 1) := by decide +kernel
set_option maxRecDepth 100000 in
set_option maxHeartbeats 4000000 in
theorem m_X7_spindle {l : Launch} {G : z_Gl} {σ : z_St} (P n o u v w rc tl : Nat) (hI : z_inv σ P n o u v w rc tl) (x : Int32) : z_M l G yX7_spindle cX7_spindle 2 (some .long) (z_rm 4 89) [.ref (z_ad G 0), .int x] σ (z_p1 (.long (if x < nI 0 ∨ nI 23 < x then (-9223372036854775808) else if ¬ P * 24 ≤ n then (-9223372036854775808) else z_sp (σ.1 2) P (z_n x))) σ) := by
  refine z_M.of (by decide) (Nat.le_of_ble_eq_true rfl) (fun p e s m below meth c C => ?_)
  refine z_sub [0, 1] (lv1 := [(0, .ref (z_ad G 0)), (1, .int x)]) rfl ?_
  have hI0 := hI
  obtain ⟨⟨hP, hn, ho, hu, hv, hw, hrc, htl⟩, hPs, hnP, ho21, huv, hw6, hrc8, htl2⟩ := hI0
  have h0 : 0 < P := by omega
  have h12 : P ≤ 12 := by omega
  have h288 : n ≤ 288 := by omega
  refine z_iload_n 0 C dX7_spindle_0 1 rfl ?_
  refine z_callS 1 C (As := [.int x]) (rest := []) (m_X7_isNoPosition x) k_X7_isNoPosition q445 ⟨rfl, rfl⟩ ⟨Nat.le_of_ble_eq_true rfl, Nat.le_of_ble_eq_true rfl⟩ rfl (Nat.le_of_ble_eq_true rfl) ⟨Nat.le_of_ble_eq_true rfl, Nat.le_of_ble_eq_true rfl⟩ rfl dX7_spindle_1 (z_k1 ?_)
  refine z_if_neb 4 C 17 dX7_spindle_4 (by decide) (fun c4 => ?_) (fun c4 => ?_)
  · skip
    refine z_ldc2 17 C dX7_spindle_17 q475 ?_
    refine z_lret 20 C dX7_spindle_20 ?_
    first | exact ⟨z_cl (by rw [if_pos c4]), rfl⟩ | exact ⟨z_cl (by rw [if_neg c4, if_pos c14]), rfl⟩
  · skip
    obtain ⟨a, ha, rfl⟩ := z_in0 (by decide) c4
    refine z_aload_n 7 C dX7_spindle_7 0 rfl ?_
    refine z_getf 8 C 0 z_dX7 (⟨rfl, rfl⟩) 0 (by decide) q339 (.ref (z_ad G 1)) rfl dX7_spindle_8 ?_
    refine z_callVN 11 C 1 (⟨rfl, rfl⟩) rfl (As := []) (rest := []) (m_X2_isComplete P n hP hn (by omega) (by omega)) k_X2_isComplete (List.mem_of_getElem? (i := 9) rfl) ⟨rfl, rfl⟩ ⟨Nat.le_of_ble_eq_true rfl, Nat.le_of_ble_eq_true rfl⟩ rfl (Nat.le_of_ble_eq_true rfl) ⟨Nat.le_of_ble_eq_true rfl, Nat.le_of_ble_eq_true rfl⟩ rfl dX7_spindle_11 (z_k1 ?_)
    refine z_if_neb 14 C 21 dX7_spindle_14 (by decide) (fun c14 => ?_) (fun c14 => ?_)
    · skip
      refine z_aload_n 21 C dX7_spindle_21 0 rfl ?_
      refine z_getf 22 C 0 z_dX7 (⟨rfl, rfl⟩) 0 (by decide) q339 (.ref (z_ad G 1)) rfl dX7_spindle_22 ?_
      refine z_iload_n 25 C dX7_spindle_25 1 rfl ?_
      refine z_callVN 26 C 1 (⟨rfl, rfl⟩) rfl (As := [.int (nI a)]) (rest := []) (m_X2_spindleAt P hP (by omega) (by omega) a (by omega)) k_X2_spindleAt (List.mem_of_getElem? (i := 23) rfl) ⟨rfl, rfl⟩ ⟨Nat.le_of_ble_eq_true rfl, Nat.le_of_ble_eq_true rfl⟩ rfl (Nat.le_of_ble_eq_true rfl) ⟨Nat.le_of_ble_eq_true rfl, Nat.le_of_ble_eq_true rfl⟩ rfl dX7_spindle_26 (z_k1 ?_)
      refine z_lret 29 C dX7_spindle_29 ?_
      exact ⟨z_cl (by rw [if_neg c4, if_neg (fun z => z c14), z_nk (by omega)]), rfl⟩
    · skip
      refine z_ldc2 17 C dX7_spindle_17 q475 ?_
      refine z_lret 20 C dX7_spindle_20 ?_
      first | exact ⟨z_cl (by rw [if_pos c4]), rfl⟩ | exact ⟨z_cl (by rw [if_neg c4, if_pos c14]), rfl⟩
theorem dX7_isBlind_0 : decode cX7_isBlind 0 = .ok (.iload_n 1, 1) := by decide +kernel
theorem dX7_isBlind_1 : decode cX7_isBlind 1 = .ok (.iconst 1, 1) := by decide +kernel
theorem dX7_isBlind_2 : decode cX7_isBlind 2 = .ok (.bipush 12, 2) := by decide +kernel
theorem dX7_isBlind_4 : decode cX7_isBlind 4 = .ok (.invokestatic 77, 3) := by decide +kernel
theorem dX7_isBlind_7 : decode cX7_isBlind 7 = .ok (.ifCond .eq 6, 3) := by decide +kernel
theorem dX7_isBlind_10 : decode cX7_isBlind 10 = .ok (.ldc 68, 2) := by decide +kernel
theorem dX7_isBlind_12 : decode cX7_isBlind 12 = .ok (.ireturn, 1) := by decide +kernel
theorem dX7_isBlind_13 : decode cX7_isBlind 13 = .ok (.aload_n 0, 1) := by decide +kernel
theorem dX7_isBlind_14 : decode cX7_isBlind 14 = .ok (.getfield 12, 3) := by decide +kernel
theorem dX7_isBlind_17 : decode cX7_isBlind 17 = .ok (.getfield 104, 3) := by decide +kernel
theorem dX7_isBlind_20 : decode cX7_isBlind 20 = .ok (.istore_n 2, 1) := by decide +kernel
theorem dX7_isBlind_21 : decode cX7_isBlind 21 = .ok (.iload_n 2, 1) := by decide +kernel
theorem dX7_isBlind_22 : decode cX7_isBlind 22 = .ok (.ifCond .eq 13, 3) := by decide +kernel
theorem dX7_isBlind_25 : decode cX7_isBlind 25 = .ok (.iload_n 1, 1) := by decide +kernel
theorem dX7_isBlind_26 : decode cX7_isBlind 26 = .ok (.iload_n 2, 1) := by decide +kernel
theorem dX7_isBlind_27 : decode cX7_isBlind 27 = .ok (.irem, 1) := by decide +kernel
theorem dX7_isBlind_28 : decode cX7_isBlind 28 = .ok (.ifCond .ne 7, 3) := by decide +kernel
theorem dX7_isBlind_31 : decode cX7_isBlind 31 = .ok (.iconst 1, 1) := by decide +kernel
theorem dX7_isBlind_32 : decode cX7_isBlind 32 = .ok (.goto 4, 3) := by decide +kernel
theorem dX7_isBlind_35 : decode cX7_isBlind 35 = .ok (.iconst 0, 1) := by decide +kernel
theorem dX7_isBlind_36 : decode cX7_isBlind 36 = .ok (.ireturn, 1) := by decide +kernel
set_option maxRecDepth 100000 in
set_option maxHeartbeats 4000000 in
theorem m_X7_isBlind {l : Launch} {G : z_Gl} {σ : z_St} (P n o u v w rc tl : Nat) (hI : z_inv σ P n o u v w rc tl) (x : Int32) : z_M l G yX7_isBlind cX7_isBlind 3 (some .int) (z_rm 1 22) [.ref (z_ad G 0), .int x] σ (z_p1 (.int (if x < nI 1 ∨ nI 12 < x then (-1000001) else z_bo (z_n x % P = 0))) σ) := by
  refine z_M.of (by decide) (Nat.le_of_ble_eq_true rfl) (fun p e s m below meth c C => ?_)
  refine z_sub [0, 1] (lv1 := [(0, .ref (z_ad G 0)), (1, .int x)]) rfl ?_
  have hI0 := hI
  obtain ⟨⟨hP, hn, ho, hu, hv, hw, hrc, htl⟩, hPs, hnP, ho21, huv, hw6, hrc8, htl2⟩ := hI0
  have h0 : 0 < P := by omega
  have h12 : P ≤ 12 := by omega
  have h288 : n ≤ 288 := by omega
  refine z_iload_n 0 C dX7_isBlind_0 1 rfl ?_
  refine z_iconst 1 C dX7_isBlind_1 (nI 1) rfl ?_
  refine z_bipush 2 C dX7_isBlind_2 (nI 12) rfl ?_
  refine z_callS 4 C (As := [.int x, .int (nI 1), .int (nI 12)]) (rest := []) (m_X7_isOutside x (nI 1) (nI 12)) k_X7_isOutside q380 ⟨rfl, rfl⟩ ⟨Nat.le_of_ble_eq_true rfl, Nat.le_of_ble_eq_true rfl⟩ rfl (Nat.le_of_ble_eq_true rfl) ⟨Nat.le_of_ble_eq_true rfl, Nat.le_of_ble_eq_true rfl⟩ rfl dX7_isBlind_4 (z_k1 ?_)
  refine z_if_eqb 7 C 13 dX7_isBlind_7 (by decide) (fun c7 => ?_) (fun c7 => ?_)
  · skip
    obtain ⟨a, hla, ha, rfl⟩ := z_in1 (by decide) (by decide) c7
    refine z_aload_n 13 C dX7_isBlind_13 0 rfl ?_
    refine z_getf 14 C 0 z_dX7 (⟨rfl, rfl⟩) 0 (by decide) q339 (.ref (z_ad G 1)) rfl dX7_isBlind_14 ?_
    refine z_getfN 17 C 1 z_dX2 (⟨rfl, rfl⟩) 3 (by decide) (List.mem_of_getElem? (i := 0) rfl) (.int (nI P)) (z_ci hP) dX7_isBlind_17 ?_
    refine z_istore_n 20 C dX7_isBlind_20 [(2, .int (nI P)), (0, .ref (z_ad G 0)), (1, .int (nI a))] (by decide) rfl ?_
    refine z_iload_n 21 C dX7_isBlind_21 0 rfl ?_
    refine z_if_eq 22 C 35 dX7_isBlind_22 (by decide) (fun c22 => ?_) (fun c22 => ?_)
    · skip
      exact absurd ((z_nI0 (by omega)).mp c22) (by omega)
    · skip
      refine z_iload_n 25 C dX7_isBlind_25 2 rfl ?_
      refine z_iload_n 26 C dX7_isBlind_26 0 rfl ?_
      refine z_iremN 27 C a P rfl rfl (by omega) (by omega) (by omega) dX7_isBlind_27 ?_
      refine z_if_ne 28 C 35 dX7_isBlind_28 (by decide) (fun c28 => ?_) (fun c28 => ?_)
      · skip
        refine z_iconst 35 C dX7_isBlind_35 (nI 0) rfl ?_
        refine z_iret 36 C dX7_isBlind_36 ?_
        first | exact ⟨z_ci (by rw [if_neg c7, z_nk (k := a) (by omega)]; exact z_bo_t ((z_nI0 (Nat.lt_trans (Nat.mod_lt _ h0) (by omega))).mp c28)), rfl⟩ | exact ⟨z_ci (by rw [if_neg c7, z_nk (k := a) (by omega)]; exact z_bo_f (fun z => c28 ((z_nI0 (Nat.lt_trans (Nat.mod_lt _ h0) (by omega))).mpr z))), rfl⟩
      · skip
        refine z_iconst 31 C dX7_isBlind_31 (nI 1) rfl ?_
        refine z_goto 32 C 36 dX7_isBlind_32 (by decide) ?_
        refine z_iret 36 C dX7_isBlind_36 ?_
        first | exact ⟨z_ci (by rw [if_neg c7, z_nk (k := a) (by omega)]; exact z_bo_t ((z_nI0 (Nat.lt_trans (Nat.mod_lt _ h0) (by omega))).mp c28)), rfl⟩ | exact ⟨z_ci (by rw [if_neg c7, z_nk (k := a) (by omega)]; exact z_bo_f (fun z => c28 ((z_nI0 (Nat.lt_trans (Nat.mod_lt _ h0) (by omega))).mpr z))), rfl⟩
  · skip
    refine z_ldc 10 C dX7_isBlind_10 q371 ?_
    refine z_iret 12 C dX7_isBlind_12 ?_
    exact ⟨z_ci (by rw [if_pos c7]), rfl⟩
theorem dX7_residual_0 : decode cX7_residual 0 = .ok (.aload_n 0, 1) := by decide +kernel
theorem dX7_residual_1 : decode cX7_residual 1 = .ok (.getfield 12, 3) := by decide +kernel
theorem dX7_residual_4 : decode cX7_residual 4 = .ok (.invokevirtual 81, 3) := by decide +kernel
theorem dX7_residual_7 : decode cX7_residual 7 = .ok (.ifCond .eq 13, 3) := by decide +kernel
theorem dX7_residual_10 : decode cX7_residual 10 = .ok (.aload_n 0, 1) := by decide +kernel
theorem dX7_residual_11 : decode cX7_residual 11 = .ok (.getfield 12, 3) := by decide +kernel
theorem dX7_residual_14 : decode cX7_residual 14 = .ok (.invokevirtual 126, 3) := by decide +kernel
theorem dX7_residual_17 : decode cX7_residual 17 = .ok (.goto 6, 3) := by decide +kernel
theorem dX7_residual_20 : decode cX7_residual 20 = .ok (.ldc2_w 117, 3) := by decide +kernel
theorem dX7_residual_23 : decode cX7_residual 23 = .ok (.lreturn, 1) := by decide +kernel
set_option maxRecDepth 100000 in
set_option maxHeartbeats 4000000 in
theorem m_X7_residual {l : Launch} {G : z_Gl} {σ : z_St} (P n o u v w rc tl : Nat) (hI : z_inv σ P n o u v w rc tl) : z_M l G yX7_residual cX7_residual 1 (some .long) (z_rm 5 121) [.ref (z_ad G 0)] σ (z_p1 (.long (if P * 24 ≤ n then z_go (σ.1 2) P 24 else (-9223372036854775808))) (if P * 24 ≤ n then z_uL σ 4 (z_fil (z_pt (σ.1 2) P) (σ.2 4) 24) else σ)) := by
  refine z_M.of (by decide) (Nat.le_of_ble_eq_true rfl) (fun p e s m below meth c C => ?_)
  refine z_sub [0] (lv1 := [(0, .ref (z_ad G 0))]) rfl ?_
  have hI0 := hI
  obtain ⟨⟨hP, hn, ho, hu, hv, hw, hrc, htl⟩, hPs, hnP, ho21, huv, hw6, hrc8, htl2⟩ := hI0
  have h0 : 0 < P := by omega
  have h12 : P ≤ 12 := by omega
  have h288 : n ≤ 288 := by omega
  refine z_aload_n 0 C dX7_residual_0 0 rfl ?_
  refine z_getf 1 C 0 z_dX7 (⟨rfl, rfl⟩) 0 (by decide) q339 (.ref (z_ad G 1)) rfl dX7_residual_1 ?_
  refine z_callVN 4 C 1 (⟨rfl, rfl⟩) rfl (As := []) (rest := []) (m_X2_isComplete P n hP hn (by omega) (by omega)) k_X2_isComplete (List.mem_of_getElem? (i := 9) rfl) ⟨rfl, rfl⟩ ⟨Nat.le_of_ble_eq_true rfl, Nat.le_of_ble_eq_true rfl⟩ rfl (Nat.le_of_ble_eq_true rfl) ⟨Nat.le_of_ble_eq_true rfl, Nat.le_of_ble_eq_true rfl⟩ rfl dX7_residual_4 (z_k1 ?_)
  refine z_if_eqb 7 C 20 dX7_residual_7 (by decide) (fun c7 => ?_) (fun c7 => ?_)
  · skip
    refine z_ldc2 20 C dX7_residual_20 q475 ?_
    refine z_lret 23 C dX7_residual_23 ?_
    first | exact ⟨z_cl (by rw [if_pos c7]), by rw [if_pos c7]⟩ | exact ⟨z_cl (by rw [if_neg c7]), by rw [if_neg c7]⟩
  · skip
    refine z_aload_n 10 C dX7_residual_10 0 rfl ?_
    refine z_getf 11 C 0 z_dX7 (⟨rfl, rfl⟩) 0 (by decide) q339 (.ref (z_ad G 1)) rfl dX7_residual_11 ?_
    refine z_callVN 14 C 1 (⟨rfl, rfl⟩) rfl (As := []) (rest := []) (m_X2_greatestResidual P hP (by omega) (by omega)) k_X2_greatestResidual (List.mem_of_getElem? (i := 24) rfl) ⟨rfl, rfl⟩ ⟨Nat.le_of_ble_eq_true rfl, Nat.le_of_ble_eq_true rfl⟩ rfl (Nat.le_of_ble_eq_true rfl) ⟨Nat.le_of_ble_eq_true rfl, Nat.le_of_ble_eq_true rfl⟩ rfl dX7_residual_14 (z_k1 ?_)
    refine z_goto 17 C 23 dX7_residual_17 (by decide) ?_
    refine z_lret 23 C dX7_residual_23 ?_
    first | exact ⟨z_cl (by rw [if_pos c7]), by rw [if_pos c7]⟩ | exact ⟨z_cl (by rw [if_neg c7]), by rw [if_neg c7]⟩
theorem dX7_load_0 : decode cX7_load 0 = .ok (.aload_n 0, 1) := by decide +kernel
theorem dX7_load_1 : decode cX7_load 1 = .ok (.iload_n 1, 1) := by decide +kernel
theorem dX7_load_2 : decode cX7_load 2 = .ok (.iload_n 2, 1) := by decide +kernel
theorem dX7_load_3 : decode cX7_load 3 = .ok (.invokevirtual 130, 3) := by decide +kernel
theorem dX7_load_6 : decode cX7_load 6 = .ok (.istore_n 3, 1) := by decide +kernel
theorem dX7_load_7 : decode cX7_load 7 = .ok (.iload_n 3, 1) := by decide +kernel
theorem dX7_load_8 : decode cX7_load 8 = .ok (.ifCond .eq 5, 3) := by decide +kernel
theorem dX7_load_11 : decode cX7_load 11 = .ok (.iload_n 3, 1) := by decide +kernel
theorem dX7_load_12 : decode cX7_load 12 = .ok (.ireturn, 1) := by decide +kernel
theorem dX7_load_13 : decode cX7_load 13 = .ok (.aload_n 0, 1) := by decide +kernel
theorem dX7_load_14 : decode cX7_load 14 = .ok (.iload_n 1, 1) := by decide +kernel
theorem dX7_load_15 : decode cX7_load 15 = .ok (.iload_n 2, 1) := by decide +kernel
theorem dX7_load_16 : decode cX7_load 16 = .ok (.invokevirtual 133, 3) := by decide +kernel
theorem dX7_load_19 : decode cX7_load 19 = .ok (.aload_n 0, 1) := by decide +kernel
theorem dX7_load_20 : decode cX7_load 20 = .ok (.invokevirtual 137, 3) := by decide +kernel
theorem dX7_load_23 : decode cX7_load 23 = .ok (.pop, 1) := by decide +kernel
theorem dX7_load_24 : decode cX7_load 24 = .ok (.iconst 1, 1) := by decide +kernel
theorem dX7_load_25 : decode cX7_load 25 = .ok (.ireturn, 1) := by decide +kernel
set_option maxRecDepth 100000 in
set_option maxHeartbeats 4000000 in
theorem m_X7_load {l : Launch} {G : z_Gl} {σ : z_St} (P n o u v w rc tl : Nat) (hI : z_inv σ P n o u v w rc tl) (x : Int32) (y : Int32) : z_M l G yX7_load cX7_load 4 (some .int) (z_rm 6 139) [.ref (z_ad G 0), .int x, .int y] σ (z_p1 (.int (if ¬ z_se P n x y = 0 then z_se P n x y else nI 1)) (if ¬ z_se P n x y = 0 then σ else z_nx σ o u (z_fil (z_src (σ.1 2) (σ.1 6) (σ.1 7) P (z_n x) (z_n y)) (σ.2 88) 24))) := by
  refine z_M.of (by decide) (Nat.le_of_ble_eq_true rfl) (fun p e s m below meth c C => ?_)
  refine z_sub [0, 1, 2] (lv1 := [(0, .ref (z_ad G 0)), (1, .int x), (2, .int y)]) rfl ?_
  have hI0 := hI
  obtain ⟨⟨hP, hn, ho, hu, hv, hw, hrc, htl⟩, hPs, hnP, ho21, huv, hw6, hrc8, htl2⟩ := hI0
  have h0 : 0 < P := by omega
  have h12 : P ≤ 12 := by omega
  have h288 : n ≤ 288 := by omega
  refine z_aload_n 0 C dX7_load_0 0 rfl ?_
  refine z_iload_n 1 C dX7_load_1 1 rfl ?_
  refine z_iload_n 2 C dX7_load_2 2 rfl ?_
  refine z_callV 3 C 0 (⟨rfl, rfl⟩) rfl (As := [.int x, .int y]) (rest := []) (m_X7_sourceError P n o u v w rc tl hI x y) k_X7_sourceError q522 ⟨rfl, rfl⟩ ⟨Nat.le_of_ble_eq_true rfl, Nat.le_of_ble_eq_true rfl⟩ rfl (Nat.le_of_ble_eq_true rfl) ⟨Nat.le_of_ble_eq_true rfl, Nat.le_of_ble_eq_true rfl⟩ rfl dX7_load_3 (z_k1 ?_)
  refine z_istore_n 6 C dX7_load_6 [(3, .int (z_se P n x y)), (0, .ref (z_ad G 0)), (1, .int x), (2, .int y)] (by decide) rfl ?_
  refine z_iload_n 7 C dX7_load_7 0 rfl ?_
  refine z_if_eq 8 C 13 dX7_load_8 (by decide) (fun c8 => ?_) (fun c8 => ?_)
  · skip
    obtain ⟨sr, hs, rfl, hse, hsc⟩ := z_se_ok h12 h288 c8
    obtain ⟨j, hj, hy⟩ : ∃ j, j < 12 ∧ (sr = 0 → y = nI j) := by
      by_cases q : sr = 0
      · obtain ⟨j, q1, q2, q3⟩ := hse q; exact ⟨j, by omega, fun _ => q3⟩
      · exact ⟨0, by omega, fun z => absurd z q⟩
    refine z_aload_n 13 C dX7_load_13 1 rfl ?_
    refine z_iload_n 14 C dX7_load_14 2 rfl ?_
    refine z_iload_n 15 C dX7_load_15 3 rfl ?_
    refine z_callV 16 C 0 (⟨rfl, rfl⟩) rfl (As := [.int (nI sr), .int y]) (rest := []) (m_X7_fillNext P n o u v w rc tl hI sr j y hs hj hy) k_X7_fillNext q526 ⟨rfl, rfl⟩ ⟨Nat.le_of_ble_eq_true rfl, Nat.le_of_ble_eq_true rfl⟩ rfl (Nat.le_of_ble_eq_true rfl) ⟨Nat.le_of_ble_eq_true rfl, Nat.le_of_ble_eq_true rfl⟩ rfl dX7_load_16 (z_k0 ?_)
    refine z_aload_n 19 C dX7_load_19 1 rfl ?_
    refine z_callV 20 C 0 (⟨rfl, rfl⟩) rfl (As := []) (rest := []) (@m_X7_makeNextPresent_F _ _ σ P n o u v w rc tl hI (z_fil (z_src (σ.1 2) (σ.1 6) (σ.1 7) P sr j) (σ.2 88) 24)) k_X7_makeNextPresent q538 ⟨rfl, rfl⟩ ⟨Nat.le_of_ble_eq_true rfl, Nat.le_of_ble_eq_true rfl⟩ rfl (Nat.le_of_ble_eq_true rfl) ⟨Nat.le_of_ble_eq_true rfl, Nat.le_of_ble_eq_true rfl⟩ rfl dX7_load_20 (z_k1 ?_)
    refine z_pop 23 C dX7_load_23 rfl ?_
    refine z_iconst 24 C dX7_load_24 (nI 1) rfl ?_
    refine z_iret 25 C dX7_load_25 ?_
    refine ⟨z_ci (by rw [if_neg (fun z => z c8)]), ?_⟩
    rw [if_neg (fun z => z c8), z_nk (k := sr) (by omega), z_srcy hj hy]
  · skip
    refine z_iload_n 11 C dX7_load_11 0 rfl ?_
    refine z_iret 12 C dX7_load_12 ?_
    exact ⟨z_ci (by rw [if_pos c8]), by rw [if_pos c8]⟩
theorem dX7_profile_0 : decode cX7_profile 0 = .ok (.iload_n 1, 1) := by decide +kernel
theorem dX7_profile_1 : decode cX7_profile 1 = .ok (.invokestatic 108, 3) := by decide +kernel
theorem dX7_profile_4 : decode cX7_profile 4 = .ok (.ifCond .eq 9, 3) := by decide +kernel
theorem dX7_profile_7 : decode cX7_profile 7 = .ok (.ldc2_w 117, 3) := by decide +kernel
theorem dX7_profile_10 : decode cX7_profile 10 = .ok (.goto 12, 3) := by decide +kernel
theorem dX7_profile_13 : decode cX7_profile 13 = .ok (.aload_n 0, 1) := by decide +kernel
theorem dX7_profile_14 : decode cX7_profile 14 = .ok (.getfield 28, 3) := by decide +kernel
theorem dX7_profile_17 : decode cX7_profile 17 = .ok (.invokevirtual 140, 3) := by decide +kernel
theorem dX7_profile_20 : decode cX7_profile 20 = .ok (.iload_n 1, 1) := by decide +kernel
theorem dX7_profile_21 : decode cX7_profile 21 = .ok (.laload, 1) := by decide +kernel
theorem dX7_profile_22 : decode cX7_profile 22 = .ok (.lreturn, 1) := by decide +kernel
set_option maxRecDepth 100000 in
set_option maxHeartbeats 4000000 in
theorem m_X7_profile {l : Launch} {G : z_Gl} {σ : z_St} (P n o u v w rc tl : Nat) (hI : z_inv σ P n o u v w rc tl) (x : Int32) : z_M l G yX7_profile cX7_profile 2 (some .long) (z_rm 2 42) [.ref (z_ad G 0), .int x] σ (z_p1 (.long (if x < nI 0 ∨ nI 23 < x then (-9223372036854775808) else σ.2 (10 + (o + u) % 21) (z_n x))) σ) := by
  refine z_M.of (by decide) (Nat.le_of_ble_eq_true rfl) (fun p e s m below meth c C => ?_)
  refine z_sub [0, 1] (lv1 := [(0, .ref (z_ad G 0)), (1, .int x)]) rfl ?_
  have hI0 := hI
  obtain ⟨⟨hP, hn, ho, hu, hv, hw, hrc, htl⟩, hPs, hnP, ho21, huv, hw6, hrc8, htl2⟩ := hI0
  have h0 : 0 < P := by omega
  have h12 : P ≤ 12 := by omega
  have h288 : n ≤ 288 := by omega
  refine z_iload_n 0 C dX7_profile_0 1 rfl ?_
  refine z_callS 1 C (As := [.int x]) (rest := []) (m_X7_isNoPosition x) k_X7_isNoPosition q445 ⟨rfl, rfl⟩ ⟨Nat.le_of_ble_eq_true rfl, Nat.le_of_ble_eq_true rfl⟩ rfl (Nat.le_of_ble_eq_true rfl) ⟨Nat.le_of_ble_eq_true rfl, Nat.le_of_ble_eq_true rfl⟩ rfl dX7_profile_1 (z_k1 ?_)
  refine z_if_eqb 4 C 13 dX7_profile_4 (by decide) (fun c4 => ?_) (fun c4 => ?_)
  · skip
    obtain ⟨a, ha, rfl⟩ := z_in0 (by decide) c4
    refine z_aload_n 13 C dX7_profile_13 0 rfl ?_
    refine z_getf 14 C 0 z_dX7 (⟨rfl, rfl⟩) 2 (by decide) q341 (.ref (z_ad G 8)) rfl dX7_profile_14 ?_
    refine z_callVN 17 C 8 (⟨rfl, rfl⟩) rfl (As := []) (rest := []) (m_X1_present o u ho hu (by omega) (by omega)) k_X1_present (List.mem_of_getElem? (i := 28) rfl) ⟨rfl, rfl⟩ ⟨Nat.le_of_ble_eq_true rfl, Nat.le_of_ble_eq_true rfl⟩ rfl (Nat.le_of_ble_eq_true rfl) ⟨Nat.le_of_ble_eq_true rfl, Nat.le_of_ble_eq_true rfl⟩ rfl dX7_profile_17 (z_k1 ?_)
    refine z_iload_n 20 C dX7_profile_20 1 rfl ?_
    refine z_laldN 21 C (10 + (o + u) % 21) (n := 24) (z_rgK _ (by omega)) a rfl (by omega) (by decide) dX7_profile_21 ?_
    refine z_lret 22 C dX7_profile_22 ?_
    refine ⟨?_, ?_⟩
    · (rw [if_neg (c4), z_nk (k := a) (by omega)]) <;> (try rfl)
    · first | rfl | ((rw [if_neg (c4), z_nk (k := a) (by omega)]) <;> (try rfl))
  · skip
    refine z_ldc2 7 C dX7_profile_7 q475 ?_
    refine z_goto 10 C 22 dX7_profile_10 (by decide) ?_
    refine z_lret 22 C dX7_profile_22 ?_
    refine ⟨?_, ?_⟩
    · (rw [if_pos (c4)]) <;> (try rfl)
    · first | rfl | ((rw [if_pos (c4)]) <;> (try rfl))
theorem dX7_rotate_0 : decode cX7_rotate 0 = .ok (.iload_n 1, 1) := by decide +kernel
theorem dX7_rotate_1 : decode cX7_rotate 1 = .ok (.bipush (-23), 2) := by decide +kernel
theorem dX7_rotate_3 : decode cX7_rotate 3 = .ok (.bipush 23, 2) := by decide +kernel
theorem dX7_rotate_5 : decode cX7_rotate 5 = .ok (.invokestatic 77, 3) := by decide +kernel
theorem dX7_rotate_8 : decode cX7_rotate 8 = .ok (.ifCond .eq 6, 3) := by decide +kernel
theorem dX7_rotate_11 : decode cX7_rotate 11 = .ok (.ldc 68, 2) := by decide +kernel
theorem dX7_rotate_13 : decode cX7_rotate 13 = .ok (.ireturn, 1) := by decide +kernel
theorem dX7_rotate_14 : decode cX7_rotate 14 = .ok (.aload_n 0, 1) := by decide +kernel
theorem dX7_rotate_15 : decode cX7_rotate 15 = .ok (.getfield 28, 3) := by decide +kernel
theorem dX7_rotate_18 : decode cX7_rotate 18 = .ok (.invokevirtual 140, 3) := by decide +kernel
theorem dX7_rotate_21 : decode cX7_rotate 21 = .ok (.astore_n 2, 1) := by decide +kernel
theorem dX7_rotate_22 : decode cX7_rotate 22 = .ok (.iconst 0, 1) := by decide +kernel
theorem dX7_rotate_23 : decode cX7_rotate 23 = .ok (.istore_n 3, 1) := by decide +kernel
theorem dX7_rotate_24 : decode cX7_rotate 24 = .ok (.iload_n 3, 1) := by decide +kernel
theorem dX7_rotate_25 : decode cX7_rotate 25 = .ok (.bipush 24, 2) := by decide +kernel
theorem dX7_rotate_27 : decode cX7_rotate 27 = .ok (.if_icmp .ge 23, 3) := by decide +kernel
theorem dX7_rotate_30 : decode cX7_rotate 30 = .ok (.aload_n 0, 1) := by decide +kernel
theorem dX7_rotate_31 : decode cX7_rotate 31 = .ok (.getfield 59, 3) := by decide +kernel
theorem dX7_rotate_34 : decode cX7_rotate 34 = .ok (.iload_n 3, 1) := by decide +kernel
theorem dX7_rotate_35 : decode cX7_rotate 35 = .ok (.aload_n 2, 1) := by decide +kernel
theorem dX7_rotate_36 : decode cX7_rotate 36 = .ok (.iload_n 3, 1) := by decide +kernel
theorem dX7_rotate_37 : decode cX7_rotate 37 = .ok (.iload_n 1, 1) := by decide +kernel
theorem dX7_rotate_38 : decode cX7_rotate 38 = .ok (.isub, 1) := by decide +kernel
theorem dX7_rotate_39 : decode cX7_rotate 39 = .ok (.invokestatic 144, 3) := by decide +kernel
theorem dX7_rotate_42 : decode cX7_rotate 42 = .ok (.laload, 1) := by decide +kernel
theorem dX7_rotate_43 : decode cX7_rotate 43 = .ok (.lastore, 1) := by decide +kernel
theorem dX7_rotate_44 : decode cX7_rotate 44 = .ok (.iinc 3 1, 3) := by decide +kernel
theorem dX7_rotate_47 : decode cX7_rotate 47 = .ok (.goto (-23), 3) := by decide +kernel
theorem dX7_rotate_50 : decode cX7_rotate 50 = .ok (.aload_n 0, 1) := by decide +kernel
theorem dX7_rotate_51 : decode cX7_rotate 51 = .ok (.invokevirtual 137, 3) := by decide +kernel
theorem dX7_rotate_54 : decode cX7_rotate 54 = .ok (.ireturn, 1) := by decide +kernel
set_option maxRecDepth 100000 in
set_option maxHeartbeats 4000000 in
theorem m_X7_rotate {l : Launch} {G : z_Gl} {σ : z_St} (P n o u v w rc tl : Nat) (hI : z_inv σ P n o u v w rc tl) (x : Int32) : z_M l G yX7_rotate cX7_rotate 4 (some .int) (z_rm 3 82) [.ref (z_ad G 0), .int x] σ (z_p1 (.int (if x < (-23) ∨ nI 23 < x then (-1000001) else z_bo (¬ z_eq24 (σ.2 (10 + (o + u) % 21)) (z_fil (z_rot (σ.2 (10 + (o + u) % 21)) x) (σ.2 88) 24)))) (if x < (-23) ∨ nI 23 < x then σ else z_nx σ o u (z_fil (z_rot (σ.2 (10 + (o + u) % 21)) x) (σ.2 88) 24))) := by
  refine z_M.of (by decide) (Nat.le_of_ble_eq_true rfl) (fun p e s m below meth c C => ?_)
  refine z_sub [0, 1] (lv1 := [(0, .ref (z_ad G 0)), (1, .int x)]) rfl ?_
  have hI0 := hI
  obtain ⟨⟨hP, hn, ho, hu, hv, hw, hrc, htl⟩, hPs, hnP, ho21, huv, hw6, hrc8, htl2⟩ := hI0
  have h0 : 0 < P := by omega
  have h12 : P ≤ 12 := by omega
  have h288 : n ≤ 288 := by omega
  refine z_iload_n 0 C dX7_rotate_0 1 rfl ?_
  refine z_bipush 1 C dX7_rotate_1 (-23) rfl ?_
  refine z_bipush 3 C dX7_rotate_3 (nI 23) rfl ?_
  refine z_callS 5 C (As := [.int x, .int (-23), .int (nI 23)]) (rest := []) (m_X7_isOutside x (-23) (nI 23)) k_X7_isOutside q380 ⟨rfl, rfl⟩ ⟨Nat.le_of_ble_eq_true rfl, Nat.le_of_ble_eq_true rfl⟩ rfl (Nat.le_of_ble_eq_true rfl) ⟨Nat.le_of_ble_eq_true rfl, Nat.le_of_ble_eq_true rfl⟩ rfl dX7_rotate_5 (z_k1 ?_)
  refine z_if_eqb 8 C 14 dX7_rotate_8 (by decide) (fun c8 => ?_) (fun c8 => ?_)
  · skip
    refine z_aload_n 14 C dX7_rotate_14 0 rfl ?_
    refine z_getf 15 C 0 z_dX7 (⟨rfl, rfl⟩) 2 (by decide) q341 (.ref (z_ad G 8)) rfl dX7_rotate_15 ?_
    refine z_callVN 18 C 8 (⟨rfl, rfl⟩) rfl (As := []) (rest := []) (m_X1_present o u ho hu (by omega) (by omega)) k_X1_present (List.mem_of_getElem? (i := 28) rfl) ⟨rfl, rfl⟩ ⟨Nat.le_of_ble_eq_true rfl, Nat.le_of_ble_eq_true rfl⟩ rfl (Nat.le_of_ble_eq_true rfl) ⟨Nat.le_of_ble_eq_true rfl, Nat.le_of_ble_eq_true rfl⟩ rfl dX7_rotate_18 (z_k1 ?_)
    refine z_astore_n 21 C dX7_rotate_21 [(2, .ref (z_ad G (10 + (o + u) % 21))), (0, .ref (z_ad G 0)), (1, .int x)] (by decide) rfl ?_
    refine z_iconst 22 C dX7_rotate_22 (nI 0) rfl ?_
    refine z_istore_n 23 C dX7_rotate_23 [(3, .int (nI 0)), (2, .ref (z_ad G (10 + (o + u) % 21))), (0, .ref (z_ad G 0)), (1, .int x)] (by decide) rfl ?_
    refine z_sub [2, 3, 1, 0] (lv1 := [(0, .ref (z_ad G 0)), (1, .int x), (2, .ref (z_ad G (10 + (o + u) % 21))), (3, .int (nI 0))]) rfl ?_
    refine z_cv (lv1 := [(0, .ref (z_ad G 0)), (1, .int x), (2, .ref (z_ad G (10 + (o + u) % 21))), (3, .int (nI 0))]) (st1 := []) (σ1 := z_uL σ 88 (z_fil (z_rot (σ.2 (10 + (o + u) % 21)) x) (σ.2 88) 0)) rfl rfl (z_fil0L σ 88 _) ?_
    refine z_lp1 (fun (k : Nat) => k ≤ 24) (fun (k : Nat) => 24 - k) (fun (k : Nat) => [(0, .ref (z_ad G 0)), (1, .int x), (2, .ref (z_ad G (10 + (o + u) % 21))), (3, .int (nI k))]) (fun (k : Nat) => z_uL σ 88 (z_fil (z_rot (σ.2 (10 + (o + u) % 21)) x) (σ.2 88) k)) (fun k hi_24 ih_24 => ?_) 0 (by omega)
    try dsimp only
    refine z_iload_n 24 C dX7_rotate_24 3 rfl ?_
    refine z_bipush 25 C dX7_rotate_25 (nI 24) rfl ?_
    refine z_icmp_geN 27 C k 24 rfl rfl (by omega) (by omega) 50 dX7_rotate_27 (by decide) (fun c27 => ?_) (fun c27 => ?_)
    · skip
      have ek : k = 24 := by omega
      subst ek
      refine z_aload_n 50 C dX7_rotate_50 0 rfl ?_
      refine z_callV 51 C 0 (⟨rfl, rfl⟩) rfl (As := []) (rest := []) (@m_X7_makeNextPresent_F _ _ σ P n o u v w rc tl hI (z_fil (z_rot (σ.2 (10 + (o + u) % 21)) x) (σ.2 88) 24)) k_X7_makeNextPresent q538 ⟨rfl, rfl⟩ ⟨Nat.le_of_ble_eq_true rfl, Nat.le_of_ble_eq_true rfl⟩ rfl (Nat.le_of_ble_eq_true rfl) ⟨Nat.le_of_ble_eq_true rfl, Nat.le_of_ble_eq_true rfl⟩ rfl dX7_rotate_51 (z_k1 ?_)
      refine z_iret 54 C dX7_rotate_54 ?_
      refine ⟨?_, ?_⟩
      · (rw [if_neg (c8)]) <;> (try rfl)
      · first | rfl | ((rw [if_neg (c8)]) <;> (try rfl))
    · skip
      refine z_aload_n 30 C dX7_rotate_30 0 rfl ?_
      refine z_getf 31 C 0 z_dX7 (⟨rfl, rfl⟩) 7 (by decide) q346 (.ref (z_ad G 88)) rfl dX7_rotate_31 ?_
      refine z_iload_n 34 C dX7_rotate_34 3 rfl ?_
      refine z_aload_n 35 C dX7_rotate_35 2 rfl ?_
      refine z_iload_n 36 C dX7_rotate_36 3 rfl ?_
      refine z_iload_n 37 C dX7_rotate_37 1 rfl ?_
      refine z_isub 38 C dX7_rotate_38 ?_
      refine z_callS 39 C (As := [.int ((nI k) - x)]) (rest := [.ref (z_ad G (10 + (o + u) % 21)), .int (nI k), .ref (z_ad G 88)]) (m_X7_place (σ := z_uL σ 88 (z_fil (z_rot (σ.2 (10 + (o + u) % 21)) x) (σ.2 88) k)) ((nI k) - x)) k_X7_place q563 ⟨rfl, rfl⟩ ⟨Nat.le_of_ble_eq_true rfl, Nat.le_of_ble_eq_true rfl⟩ rfl (Nat.le_of_ble_eq_true rfl) ⟨Nat.le_of_ble_eq_true rfl, Nat.le_of_ble_eq_true rfl⟩ rfl dX7_rotate_39 (z_k1 ?_)
      refine z_laldN 42 C (10 + (o + u) % 21) (n := 24) (z_rgK _ (by omega)) (z_pm ((nI k) - x)) rfl (z_pm_lt _) (by decide) dX7_rotate_42 ?_
      refine z_cv (st1 := [.long (σ.2 (10 + (o + u) % 21) (z_pm ((nI k) - x))), .int (nI k), .ref (z_ad G 88)]) rfl (by rw [z_uL2n (z_c88 _)]) rfl ?_
      refine z_lastN 43 C 88 (n := 24) (⟨rfl, rfl⟩) k rfl (by omega) (by decide) dX7_rotate_43 ?_
      refine z_iincN 44 C 3 k [(3, .int (nI (k + 1))), (0, .ref (z_ad G 0)), (1, .int x), (2, .ref (z_ad G (10 + (o + u) % 21)))] rfl rfl (by decide) rfl dX7_rotate_44 ?_
      refine z_goto 47 C 24 dX7_rotate_47 (by decide) ?_
      refine z_sub [1, 2, 3, 0] (lv1 := [(0, .ref (z_ad G 0)), (1, .int x), (2, .ref (z_ad G (10 + (o + u) % 21))), (3, .int (nI (k + 1)))]) rfl ?_
      refine z_cv (lv1 := [(0, .ref (z_ad G 0)), (1, .int x), (2, .ref (z_ad G (10 + (o + u) % 21))), (3, .int (nI (k + 1)))]) (st1 := []) (σ1 := z_uL σ 88 (z_fil (z_rot (σ.2 (10 + (o + u) % 21)) x) (σ.2 88) (k + 1))) rfl rfl (z_filSL σ 88 k _ _ rfl) ?_
      exact ih_24 (k + 1) (by omega) (by omega)
  · skip
    refine z_ldc 11 C dX7_rotate_11 q371 ?_
    refine z_iret 13 C dX7_rotate_13 ?_
    refine ⟨?_, ?_⟩
    · (rw [if_pos (c8)]) <;> (try rfl)
    · first | rfl | ((rw [if_pos (c8)]) <;> (try rfl))
theorem dX7_removeEccentricity_0 : decode cX7_removeEccentricity 0 = .ok (.aload_n 0, 1) := by decide +kernel
theorem dX7_removeEccentricity_1 : decode cX7_removeEccentricity 1 = .ok (.getfield 28, 3) := by decide +kernel
theorem dX7_removeEccentricity_4 : decode cX7_removeEccentricity 4 = .ok (.invokevirtual 140, 3) := by decide +kernel
theorem dX7_removeEccentricity_7 : decode cX7_removeEccentricity 7 = .ok (.astore_n 1, 1) := by decide +kernel
theorem dX7_removeEccentricity_8 : decode cX7_removeEccentricity 8 = .ok (.aload_n 1, 1) := by decide +kernel
theorem dX7_removeEccentricity_9 : decode cX7_removeEccentricity 9 = .ok (.iconst 0, 1) := by decide +kernel
theorem dX7_removeEccentricity_10 : decode cX7_removeEccentricity 10 = .ok (.iconst 0, 1) := by decide +kernel
theorem dX7_removeEccentricity_11 : decode cX7_removeEccentricity 11 = .ok (.invokestatic 147, 3) := by decide +kernel
theorem dX7_removeEccentricity_14 : decode cX7_removeEccentricity 14 = .ok (.lstore_n 2, 1) := by decide +kernel
theorem dX7_removeEccentricity_15 : decode cX7_removeEccentricity 15 = .ok (.aload_n 1, 1) := by decide +kernel
theorem dX7_removeEccentricity_16 : decode cX7_removeEccentricity 16 = .ok (.iconst 1, 1) := by decide +kernel
theorem dX7_removeEccentricity_17 : decode cX7_removeEccentricity 17 = .ok (.iconst 0, 1) := by decide +kernel
theorem dX7_removeEccentricity_18 : decode cX7_removeEccentricity 18 = .ok (.invokestatic 147, 3) := by decide +kernel
theorem dX7_removeEccentricity_21 : decode cX7_removeEccentricity 21 = .ok (.lstore 4, 2) := by decide +kernel
theorem dX7_removeEccentricity_23 : decode cX7_removeEccentricity 23 = .ok (.aload_n 1, 1) := by decide +kernel
theorem dX7_removeEccentricity_24 : decode cX7_removeEccentricity 24 = .ok (.iconst 1, 1) := by decide +kernel
theorem dX7_removeEccentricity_25 : decode cX7_removeEccentricity 25 = .ok (.iconst 1, 1) := by decide +kernel
theorem dX7_removeEccentricity_26 : decode cX7_removeEccentricity 26 = .ok (.invokestatic 147, 3) := by decide +kernel
theorem dX7_removeEccentricity_29 : decode cX7_removeEccentricity 29 = .ok (.lstore 6, 2) := by decide +kernel
theorem dX7_removeEccentricity_31 : decode cX7_removeEccentricity 31 = .ok (.iconst 0, 1) := by decide +kernel
theorem dX7_removeEccentricity_32 : decode cX7_removeEccentricity 32 = .ok (.istore 8, 2) := by decide +kernel
theorem dX7_removeEccentricity_34 : decode cX7_removeEccentricity 34 = .ok (.iload 8, 2) := by decide +kernel
theorem dX7_removeEccentricity_36 : decode cX7_removeEccentricity 36 = .ok (.bipush 24, 2) := by decide +kernel
theorem dX7_removeEccentricity_38 : decode cX7_removeEccentricity 38 = .ok (.if_icmp .ge 32, 3) := by decide +kernel
theorem dX7_removeEccentricity_41 : decode cX7_removeEccentricity 41 = .ok (.aload_n 0, 1) := by decide +kernel
theorem dX7_removeEccentricity_42 : decode cX7_removeEccentricity 42 = .ok (.getfield 59, 3) := by decide +kernel
theorem dX7_removeEccentricity_45 : decode cX7_removeEccentricity 45 = .ok (.iload 8, 2) := by decide +kernel
theorem dX7_removeEccentricity_47 : decode cX7_removeEccentricity 47 = .ok (.aload_n 1, 1) := by decide +kernel
theorem dX7_removeEccentricity_48 : decode cX7_removeEccentricity 48 = .ok (.iload 8, 2) := by decide +kernel
theorem dX7_removeEccentricity_50 : decode cX7_removeEccentricity 50 = .ok (.laload, 1) := by decide +kernel
theorem dX7_removeEccentricity_51 : decode cX7_removeEccentricity 51 = .ok (.lload_n 2, 1) := by decide +kernel
theorem dX7_removeEccentricity_52 : decode cX7_removeEccentricity 52 = .ok (.lsub, 1) := by decide +kernel
theorem dX7_removeEccentricity_53 : decode cX7_removeEccentricity 53 = .ok (.lload 4, 2) := by decide +kernel
theorem dX7_removeEccentricity_55 : decode cX7_removeEccentricity 55 = .ok (.lload 6, 2) := by decide +kernel
theorem dX7_removeEccentricity_57 : decode cX7_removeEccentricity 57 = .ok (.iload 8, 2) := by decide +kernel
theorem dX7_removeEccentricity_59 : decode cX7_removeEccentricity 59 = .ok (.invokestatic 151, 3) := by decide +kernel
theorem dX7_removeEccentricity_62 : decode cX7_removeEccentricity 62 = .ok (.lsub, 1) := by decide +kernel
theorem dX7_removeEccentricity_63 : decode cX7_removeEccentricity 63 = .ok (.lastore, 1) := by decide +kernel
theorem dX7_removeEccentricity_64 : decode cX7_removeEccentricity 64 = .ok (.iinc 8 1, 3) := by decide +kernel
theorem dX7_removeEccentricity_67 : decode cX7_removeEccentricity 67 = .ok (.goto (-33), 3) := by decide +kernel
theorem dX7_removeEccentricity_70 : decode cX7_removeEccentricity 70 = .ok (.aload_n 0, 1) := by decide +kernel
theorem dX7_removeEccentricity_71 : decode cX7_removeEccentricity 71 = .ok (.invokevirtual 137, 3) := by decide +kernel
theorem dX7_removeEccentricity_74 : decode cX7_removeEccentricity 74 = .ok (.ireturn, 1) := by decide +kernel
set_option maxRecDepth 100000 in
set_option maxHeartbeats 4000000 in
theorem m_X7_removeEccentricity {l : Launch} {G : z_Gl} {σ : z_St} (P n o u v w rc tl : Nat) (hI : z_inv σ P n o u v w rc tl) : z_M l G yX7_removeEccentricity cX7_removeEccentricity 9 (some .int) (z_rm 3 82) [.ref (z_ad G 0)] σ (z_p1 (.int (z_bo (¬ z_eq24 (σ.2 (10 + (o + u) % 21)) (z_fil (z_rme (σ.2 (10 + (o + u) % 21))) (σ.2 88) 24)))) (z_nx σ o u (z_fil (z_rme (σ.2 (10 + (o + u) % 21))) (σ.2 88) 24))) := by
  refine z_M.of (by decide) (Nat.le_of_ble_eq_true rfl) (fun p e s m below meth c C => ?_)
  refine z_sub [0] (lv1 := [(0, .ref (z_ad G 0))]) rfl ?_
  have hI0 := hI
  obtain ⟨⟨hP, hn, ho, hu, hv, hw, hrc, htl⟩, hPs, hnP, ho21, huv, hw6, hrc8, htl2⟩ := hI0
  have h0 : 0 < P := by omega
  have h12 : P ≤ 12 := by omega
  have h288 : n ≤ 288 := by omega
  refine z_aload_n 0 C dX7_removeEccentricity_0 0 rfl ?_
  refine z_getf 1 C 0 z_dX7 (⟨rfl, rfl⟩) 2 (by decide) q341 (.ref (z_ad G 8)) rfl dX7_removeEccentricity_1 ?_
  refine z_callVN 4 C 8 (⟨rfl, rfl⟩) rfl (As := []) (rest := []) (m_X1_present o u ho hu (by omega) (by omega)) k_X1_present (List.mem_of_getElem? (i := 28) rfl) ⟨rfl, rfl⟩ ⟨Nat.le_of_ble_eq_true rfl, Nat.le_of_ble_eq_true rfl⟩ rfl (Nat.le_of_ble_eq_true rfl) ⟨Nat.le_of_ble_eq_true rfl, Nat.le_of_ble_eq_true rfl⟩ rfl dX7_removeEccentricity_4 (z_k1 ?_)
  refine z_astore_n 7 C dX7_removeEccentricity_7 [(1, .ref (z_ad G (10 + (o + u) % 21))), (0, .ref (z_ad G 0))] (by decide) rfl ?_
  refine z_aload_n 8 C dX7_removeEccentricity_8 0 rfl ?_
  refine z_iconst 9 C dX7_removeEccentricity_9 (nI 0) rfl ?_
  refine z_iconst 10 C dX7_removeEccentricity_10 (nI 0) rfl ?_
  refine z_callS 11 C (As := [.ref (z_ad G (10 + (o + u) % 21)), .int (nI 0), .int (nI 0)]) (rest := []) (m_X7_coefficient (10 + (o + u) % 21) 0 0 (z_rgK _ (by omega)) (by omega) (by omega)) k_X7_coefficient q568 ⟨rfl, rfl⟩ ⟨Nat.le_of_ble_eq_true rfl, Nat.le_of_ble_eq_true rfl⟩ rfl (Nat.le_of_ble_eq_true rfl) ⟨Nat.le_of_ble_eq_true rfl, Nat.le_of_ble_eq_true rfl⟩ rfl dX7_removeEccentricity_11 (z_k1 ?_)
  refine z_lstore_n 14 C dX7_removeEccentricity_14 [(2, .long (z_cf (σ.2 (10 + (o + u) % 21)) 0 0)), (1, .ref (z_ad G (10 + (o + u) % 21))), (0, .ref (z_ad G 0))] (by decide) rfl ?_
  refine z_aload_n 15 C dX7_removeEccentricity_15 1 rfl ?_
  refine z_iconst 16 C dX7_removeEccentricity_16 (nI 1) rfl ?_
  refine z_iconst 17 C dX7_removeEccentricity_17 (nI 0) rfl ?_
  refine z_callS 18 C (As := [.ref (z_ad G (10 + (o + u) % 21)), .int (nI 1), .int (nI 0)]) (rest := []) (m_X7_coefficient (10 + (o + u) % 21) 1 0 (z_rgK _ (by omega)) (by omega) (by omega)) k_X7_coefficient q568 ⟨rfl, rfl⟩ ⟨Nat.le_of_ble_eq_true rfl, Nat.le_of_ble_eq_true rfl⟩ rfl (Nat.le_of_ble_eq_true rfl) ⟨Nat.le_of_ble_eq_true rfl, Nat.le_of_ble_eq_true rfl⟩ rfl dX7_removeEccentricity_18 (z_k1 ?_)
  refine z_lstore 21 C dX7_removeEccentricity_21 [(4, .long (z_cf (σ.2 (10 + (o + u) % 21)) 0 1)), (2, .long (z_cf (σ.2 (10 + (o + u) % 21)) 0 0)), (1, .ref (z_ad G (10 + (o + u) % 21))), (0, .ref (z_ad G 0))] (by decide) rfl ?_
  refine z_aload_n 23 C dX7_removeEccentricity_23 2 rfl ?_
  refine z_iconst 24 C dX7_removeEccentricity_24 (nI 1) rfl ?_
  refine z_iconst 25 C dX7_removeEccentricity_25 (nI 1) rfl ?_
  refine z_callS 26 C (As := [.ref (z_ad G (10 + (o + u) % 21)), .int (nI 1), .int (nI 1)]) (rest := []) (m_X7_coefficient (10 + (o + u) % 21) 1 1 (z_rgK _ (by omega)) (by omega) (by omega)) k_X7_coefficient q568 ⟨rfl, rfl⟩ ⟨Nat.le_of_ble_eq_true rfl, Nat.le_of_ble_eq_true rfl⟩ rfl (Nat.le_of_ble_eq_true rfl) ⟨Nat.le_of_ble_eq_true rfl, Nat.le_of_ble_eq_true rfl⟩ rfl dX7_removeEccentricity_26 (z_k1 ?_)
  refine z_lstore 29 C dX7_removeEccentricity_29 [(6, .long (z_cf (σ.2 (10 + (o + u) % 21)) 1 1)), (4, .long (z_cf (σ.2 (10 + (o + u) % 21)) 0 1)), (2, .long (z_cf (σ.2 (10 + (o + u) % 21)) 0 0)), (1, .ref (z_ad G (10 + (o + u) % 21))), (0, .ref (z_ad G 0))] (by decide) rfl ?_
  refine z_iconst 31 C dX7_removeEccentricity_31 (nI 0) rfl ?_
  refine z_istore 32 C dX7_removeEccentricity_32 [(8, .int (nI 0)), (6, .long (z_cf (σ.2 (10 + (o + u) % 21)) 1 1)), (4, .long (z_cf (σ.2 (10 + (o + u) % 21)) 0 1)), (2, .long (z_cf (σ.2 (10 + (o + u) % 21)) 0 0)), (1, .ref (z_ad G (10 + (o + u) % 21))), (0, .ref (z_ad G 0))] (by decide) rfl ?_
  refine z_sub [5, 4, 3, 2, 1, 0] (lv1 := [(0, .ref (z_ad G 0)), (1, .ref (z_ad G (10 + (o + u) % 21))), (2, .long (z_cf (σ.2 (10 + (o + u) % 21)) 0 0)), (4, .long (z_cf (σ.2 (10 + (o + u) % 21)) 0 1)), (6, .long (z_cf (σ.2 (10 + (o + u) % 21)) 1 1)), (8, .int (nI 0))]) rfl ?_
  refine z_cv (lv1 := [(0, .ref (z_ad G 0)), (1, .ref (z_ad G (10 + (o + u) % 21))), (2, .long (z_cf (σ.2 (10 + (o + u) % 21)) 0 0)), (4, .long (z_cf (σ.2 (10 + (o + u) % 21)) 0 1)), (6, .long (z_cf (σ.2 (10 + (o + u) % 21)) 1 1)), (8, .int (nI 0))]) (st1 := []) (σ1 := z_uL σ 88 (z_fil (z_rme (σ.2 (10 + (o + u) % 21))) (σ.2 88) 0)) rfl rfl (z_fil0L σ 88 _) ?_
  refine z_lp1 (fun (k : Nat) => k ≤ 24) (fun (k : Nat) => 24 - k) (fun (k : Nat) => [(0, .ref (z_ad G 0)), (1, .ref (z_ad G (10 + (o + u) % 21))), (2, .long (z_cf (σ.2 (10 + (o + u) % 21)) 0 0)), (4, .long (z_cf (σ.2 (10 + (o + u) % 21)) 0 1)), (6, .long (z_cf (σ.2 (10 + (o + u) % 21)) 1 1)), (8, .int (nI k))]) (fun (k : Nat) => z_uL σ 88 (z_fil (z_rme (σ.2 (10 + (o + u) % 21))) (σ.2 88) k)) (fun k hi_34 ih_34 => ?_) 0 (by omega)
  try dsimp only
  refine z_iload 34 C dX7_removeEccentricity_34 5 rfl ?_
  refine z_bipush 36 C dX7_removeEccentricity_36 (nI 24) rfl ?_
  refine z_icmp_geN 38 C k 24 rfl rfl (by omega) (by omega) 70 dX7_removeEccentricity_38 (by decide) (fun c38 => ?_) (fun c38 => ?_)
  · skip
    have ek : k = 24 := by omega
    subst ek
    refine z_aload_n 70 C dX7_removeEccentricity_70 0 rfl ?_
    refine z_callV 71 C 0 (⟨rfl, rfl⟩) rfl (As := []) (rest := []) (@m_X7_makeNextPresent_F _ _ σ P n o u v w rc tl hI (z_fil (z_rme (σ.2 (10 + (o + u) % 21))) (σ.2 88) 24)) k_X7_makeNextPresent q538 ⟨rfl, rfl⟩ ⟨Nat.le_of_ble_eq_true rfl, Nat.le_of_ble_eq_true rfl⟩ rfl (Nat.le_of_ble_eq_true rfl) ⟨Nat.le_of_ble_eq_true rfl, Nat.le_of_ble_eq_true rfl⟩ rfl dX7_removeEccentricity_71 (z_k1 ?_)
    refine z_iret 74 C dX7_removeEccentricity_74 ?_
    refine ⟨?_, ?_⟩
    · (skip) <;> (try rfl)
    · first | rfl | ((skip) <;> (try rfl))
  · skip
    refine z_aload_n 41 C dX7_removeEccentricity_41 0 rfl ?_
    refine z_getf 42 C 0 z_dX7 (⟨rfl, rfl⟩) 7 (by decide) q346 (.ref (z_ad G 88)) rfl dX7_removeEccentricity_42 ?_
    refine z_iload 45 C dX7_removeEccentricity_45 5 rfl ?_
    refine z_aload_n 47 C dX7_removeEccentricity_47 1 rfl ?_
    refine z_iload 48 C dX7_removeEccentricity_48 5 rfl ?_
    refine z_laldN 50 C (10 + (o + u) % 21) (n := 24) (z_rgK _ (by omega)) k rfl (by omega) (by decide) dX7_removeEccentricity_50 ?_
    refine z_cv (st1 := [.long (σ.2 (10 + (o + u) % 21) k), .int (nI k), .ref (z_ad G 88)]) rfl (by rw [z_uL2n (z_c88 _)]) rfl ?_
    refine z_lload_n 51 C dX7_removeEccentricity_51 2 rfl ?_
    refine z_lsub 52 C dX7_removeEccentricity_52 ?_
    refine z_lload 53 C dX7_removeEccentricity_53 3 rfl ?_
    refine z_lload 55 C dX7_removeEccentricity_55 4 rfl ?_
    refine z_iload 57 C dX7_removeEccentricity_57 5 rfl ?_
    refine z_callS 59 C (As := [.long (z_cf (σ.2 (10 + (o + u) % 21)) 0 1), .long (z_cf (σ.2 (10 + (o + u) % 21)) 1 1), .int (nI k)]) (rest := [.long ((σ.2 (10 + (o + u) % 21) k) - (z_cf (σ.2 (10 + (o + u) % 21)) 0 0)), .int (nI k), .ref (z_ad G 88)]) (m_X7_wave_n (σ := z_uL σ 88 (z_fil (z_rme (σ.2 (10 + (o + u) % 21))) (σ.2 88) k)) (z_cf (σ.2 (10 + (o + u) % 21)) 0 1) (z_cf (σ.2 (10 + (o + u) % 21)) 1 1) k (by omega)) k_X7_wave q573 ⟨rfl, rfl⟩ ⟨Nat.le_of_ble_eq_true rfl, Nat.le_of_ble_eq_true rfl⟩ rfl (Nat.le_of_ble_eq_true rfl) ⟨Nat.le_of_ble_eq_true rfl, Nat.le_of_ble_eq_true rfl⟩ rfl dX7_removeEccentricity_59 (z_k1 ?_)
    refine z_lsub 62 C dX7_removeEccentricity_62 ?_
    refine z_lastN 63 C 88 (n := 24) (⟨rfl, rfl⟩) k rfl (by omega) (by decide) dX7_removeEccentricity_63 ?_
    refine z_iincN 64 C 5 k [(8, .int (nI (k + 1))), (0, .ref (z_ad G 0)), (1, .ref (z_ad G (10 + (o + u) % 21))), (2, .long (z_cf (σ.2 (10 + (o + u) % 21)) 0 0)), (4, .long (z_cf (σ.2 (10 + (o + u) % 21)) 0 1)), (6, .long (z_cf (σ.2 (10 + (o + u) % 21)) 1 1))] rfl rfl (by decide) rfl dX7_removeEccentricity_64 ?_
    refine z_goto 67 C 34 dX7_removeEccentricity_67 (by decide) ?_
    refine z_sub [1, 2, 3, 4, 5, 0] (lv1 := [(0, .ref (z_ad G 0)), (1, .ref (z_ad G (10 + (o + u) % 21))), (2, .long (z_cf (σ.2 (10 + (o + u) % 21)) 0 0)), (4, .long (z_cf (σ.2 (10 + (o + u) % 21)) 0 1)), (6, .long (z_cf (σ.2 (10 + (o + u) % 21)) 1 1)), (8, .int (nI (k + 1)))]) rfl ?_
    refine z_cv (lv1 := [(0, .ref (z_ad G 0)), (1, .ref (z_ad G (10 + (o + u) % 21))), (2, .long (z_cf (σ.2 (10 + (o + u) % 21)) 0 0)), (4, .long (z_cf (σ.2 (10 + (o + u) % 21)) 0 1)), (6, .long (z_cf (σ.2 (10 + (o + u) % 21)) 1 1)), (8, .int (nI (k + 1)))]) (st1 := []) (σ1 := z_uL σ 88 (z_fil (z_rme (σ.2 (10 + (o + u) % 21))) (σ.2 88) (k + 1))) rfl rfl (z_filSL σ 88 k _ _ rfl) ?_
    exact ih_34 (k + 1) (by omega) (by omega)
theorem dX7_keepLobes_0 : decode cX7_keepLobes 0 = .ok (.iload_n 1, 1) := by decide +kernel
theorem dX7_keepLobes_1 : decode cX7_keepLobes 1 = .ok (.iload_n 2, 1) := by decide +kernel
theorem dX7_keepLobes_2 : decode cX7_keepLobes 2 = .ok (.invokestatic 155, 3) := by decide +kernel
theorem dX7_keepLobes_5 : decode cX7_keepLobes 5 = .ok (.ifCond .eq 6, 3) := by decide +kernel
theorem dX7_keepLobes_8 : decode cX7_keepLobes 8 = .ok (.ldc 68, 2) := by decide +kernel
theorem dX7_keepLobes_10 : decode cX7_keepLobes 10 = .ok (.ireturn, 1) := by decide +kernel
theorem dX7_keepLobes_11 : decode cX7_keepLobes 11 = .ok (.aload_n 0, 1) := by decide +kernel
theorem dX7_keepLobes_12 : decode cX7_keepLobes 12 = .ok (.getfield 28, 3) := by decide +kernel
theorem dX7_keepLobes_15 : decode cX7_keepLobes 15 = .ok (.invokevirtual 140, 3) := by decide +kernel
theorem dX7_keepLobes_18 : decode cX7_keepLobes 18 = .ok (.iload_n 1, 1) := by decide +kernel
theorem dX7_keepLobes_19 : decode cX7_keepLobes 19 = .ok (.iload_n 2, 1) := by decide +kernel
theorem dX7_keepLobes_20 : decode cX7_keepLobes 20 = .ok (.aload_n 0, 1) := by decide +kernel
theorem dX7_keepLobes_21 : decode cX7_keepLobes 21 = .ok (.getfield 59, 3) := by decide +kernel
theorem dX7_keepLobes_24 : decode cX7_keepLobes 24 = .ok (.invokestatic 159, 3) := by decide +kernel
theorem dX7_keepLobes_27 : decode cX7_keepLobes 27 = .ok (.aload_n 0, 1) := by decide +kernel
theorem dX7_keepLobes_28 : decode cX7_keepLobes 28 = .ok (.invokevirtual 137, 3) := by decide +kernel
theorem dX7_keepLobes_31 : decode cX7_keepLobes 31 = .ok (.ireturn, 1) := by decide +kernel
set_option maxRecDepth 100000 in
set_option maxHeartbeats 4000000 in
theorem m_X7_keepLobes {l : Launch} {G : z_Gl} {σ : z_St} (P n o u v w rc tl : Nat) (hI : z_inv σ P n o u v w rc tl) (x : Int32) (y : Int32) : z_M l G yX7_keepLobes cX7_keepLobes 3 (some .int) (z_rm 4 97) [.ref (z_ad G 0), .int x, .int y] σ (z_p1 (.int (if x < 0 ∨ y < x ∨ nI 12 < y then (-1000001) else z_bo (¬ z_eq24 (σ.2 (10 + (o + u) % 21)) (z_fil (z_kl (σ.2 (10 + (o + u) % 21)) (z_n x) (z_n y + 1 - z_n x)) (σ.2 88) 24)))) (if x < 0 ∨ y < x ∨ nI 12 < y then σ else z_nx σ o u (z_fil (z_kl (σ.2 (10 + (o + u) % 21)) (z_n x) (z_n y + 1 - z_n x)) (σ.2 88) 24))) := by
  refine z_M.of (by decide) (Nat.le_of_ble_eq_true rfl) (fun p e s m below meth c C => ?_)
  refine z_sub [0, 1, 2] (lv1 := [(0, .ref (z_ad G 0)), (1, .int x), (2, .int y)]) rfl ?_
  have hI0 := hI
  obtain ⟨⟨hP, hn, ho, hu, hv, hw, hrc, htl⟩, hPs, hnP, ho21, huv, hw6, hrc8, htl2⟩ := hI0
  have h0 : 0 < P := by omega
  have h12 : P ≤ 12 := by omega
  have h288 : n ≤ 288 := by omega
  refine z_iload_n 0 C dX7_keepLobes_0 1 rfl ?_
  refine z_iload_n 1 C dX7_keepLobes_1 2 rfl ?_
  refine z_callS 2 C (As := [.int x, .int y]) (rest := []) (m_X7_isNoRange x y) k_X7_isNoRange q578 ⟨rfl, rfl⟩ ⟨Nat.le_of_ble_eq_true rfl, Nat.le_of_ble_eq_true rfl⟩ rfl (Nat.le_of_ble_eq_true rfl) ⟨Nat.le_of_ble_eq_true rfl, Nat.le_of_ble_eq_true rfl⟩ rfl dX7_keepLobes_2 (z_k1 ?_)
  refine z_if_eqb 5 C 11 dX7_keepLobes_5 (by decide) (fun c5 => ?_) (fun c5 => ?_)
  · skip
    obtain ⟨a, b, hab, hb, rfl, rfl⟩ := z_lob c5
    refine z_aload_n 11 C dX7_keepLobes_11 0 rfl ?_
    refine z_getf 12 C 0 z_dX7 (⟨rfl, rfl⟩) 2 (by decide) q341 (.ref (z_ad G 8)) rfl dX7_keepLobes_12 ?_
    refine z_callVN 15 C 8 (⟨rfl, rfl⟩) rfl (As := []) (rest := []) (m_X1_present o u ho hu (by omega) (by omega)) k_X1_present (List.mem_of_getElem? (i := 28) rfl) ⟨rfl, rfl⟩ ⟨Nat.le_of_ble_eq_true rfl, Nat.le_of_ble_eq_true rfl⟩ rfl (Nat.le_of_ble_eq_true rfl) ⟨Nat.le_of_ble_eq_true rfl, Nat.le_of_ble_eq_true rfl⟩ rfl dX7_keepLobes_15 (z_k1 ?_)
    refine z_iload_n 18 C dX7_keepLobes_18 1 rfl ?_
    refine z_iload_n 19 C dX7_keepLobes_19 2 rfl ?_
    refine z_aload_n 20 C dX7_keepLobes_20 0 rfl ?_
    refine z_getf 21 C 0 z_dX7 (⟨rfl, rfl⟩) 7 (by decide) q346 (.ref (z_ad G 88)) rfl dX7_keepLobes_21 ?_
    refine z_callS 24 C (As := [.ref (z_ad G (10 + (o + u) % 21)), .int (nI a), .int (nI b), .ref (z_ad G 88)]) (rest := []) (m_X7_copyLobes (10 + (o + u) % 21) a b 88 (z_rgK _ (by omega)) (⟨rfl, rfl⟩) (z_c88 _) (by omega) (by omega)) k_X7_copyLobes q581 ⟨rfl, rfl⟩ ⟨Nat.le_of_ble_eq_true rfl, Nat.le_of_ble_eq_true rfl⟩ rfl (Nat.le_of_ble_eq_true rfl) ⟨Nat.le_of_ble_eq_true rfl, Nat.le_of_ble_eq_true rfl⟩ rfl dX7_keepLobes_24 (z_k0 ?_)
    refine z_aload_n 27 C dX7_keepLobes_27 0 rfl ?_
    refine z_callV 28 C 0 (⟨rfl, rfl⟩) rfl (As := []) (rest := []) (@m_X7_makeNextPresent_F _ _ σ P n o u v w rc tl hI (z_fil (z_kl (σ.2 (10 + (o + u) % 21)) a (b + 1 - a)) (σ.2 88) 24)) k_X7_makeNextPresent q538 ⟨rfl, rfl⟩ ⟨Nat.le_of_ble_eq_true rfl, Nat.le_of_ble_eq_true rfl⟩ rfl (Nat.le_of_ble_eq_true rfl) ⟨Nat.le_of_ble_eq_true rfl, Nat.le_of_ble_eq_true rfl⟩ rfl dX7_keepLobes_28 (z_k1 ?_)
    refine z_iret 31 C dX7_keepLobes_31 ?_
    refine ⟨?_, ?_⟩
    · (rw [if_neg (c5), z_nk (k := a) (by omega), z_nk (k := b) (by omega)]) <;> (try rfl)
    · first | rfl | ((rw [if_neg (c5), z_nk (k := a) (by omega), z_nk (k := b) (by omega)]) <;> (try rfl))
  · skip
    refine z_ldc 8 C dX7_keepLobes_8 q371 ?_
    refine z_iret 10 C dX7_keepLobes_10 ?_
    refine ⟨?_, ?_⟩
    · (rw [if_pos (c5)]) <;> (try rfl)
    · first | rfl | ((rw [if_pos (c5)]) <;> (try rfl))
end
