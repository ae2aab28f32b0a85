section
-- ===== PART A: goes FIRST, ahead of the names: the tables' words, and 'selects' of the private methods out of them =====
/-- a private method of a class that the tables say can be made, by its rows of tables_1 -/
def lw_okq (q : MethodName × Nat) : Prop := (q.1.cls ≠ "java/lang/invoke/MethodHandle" ∧ q.1.cls ≠ "java/lang/invoke/VarHandle") ∧ Cond.instantiable q.1.cls q.2 ∈ tables_1 ∧ Cond.privateMethod q.1 ∈ tables_1 ∧ Cond.instanceMethod q.1 ∈ tables_1
theorem lw_p0 : lw_okq (⟨"LawsLapse", "stands", "(II)Z"⟩, 8) := ⟨⟨by decide +kernel, by decide +kernel⟩, List.mem_of_getElem? (i := 16) (by decide +kernel), List.mem_of_getElem? (i := 236) (by decide +kernel), List.mem_of_getElem? (i := 237) (by decide +kernel)⟩
theorem lw_p1 : lw_okq (⟨"LawsLapse", "isOne", "(I)Z"⟩, 8) := ⟨⟨by decide +kernel, by decide +kernel⟩, List.mem_of_getElem? (i := 16) (by decide +kernel), List.mem_of_getElem? (i := 246) (by decide +kernel), List.mem_of_getElem? (i := 247) (by decide +kernel)⟩
theorem lw_p2 : lw_okq (⟨"LawsLapse$Republic", "valueOf", "(II)I"⟩, 15) := ⟨⟨by decide +kernel, by decide +kernel⟩, List.mem_of_getElem? (i := 79) (by decide +kernel), List.mem_of_getElem? (i := 254) (by decide +kernel), List.mem_of_getElem? (i := 255) (by decide +kernel)⟩
theorem lw_p3 : lw_okq (⟨"LawsLapse$Republic", "deedsOf", "(I)I"⟩, 15) := ⟨⟨by decide +kernel, by decide +kernel⟩, List.mem_of_getElem? (i := 79) (by decide +kernel), List.mem_of_getElem? (i := 258) (by decide +kernel), List.mem_of_getElem? (i := 259) (by decide +kernel)⟩
theorem lw_p4 : lw_okq (⟨"LawsLapse$Republic", "can", "(II)Z"⟩, 15) := ⟨⟨by decide +kernel, by decide +kernel⟩, List.mem_of_getElem? (i := 79) (by decide +kernel), List.mem_of_getElem? (i := 262) (by decide +kernel), List.mem_of_getElem? (i := 263) (by decide +kernel)⟩
theorem lw_p5 : lw_okq (⟨"LawsLapse$Republic", "dares", "(II)Z"⟩, 15) := ⟨⟨by decide +kernel, by decide +kernel⟩, List.mem_of_getElem? (i := 79) (by decide +kernel), List.mem_of_getElem? (i := 266) (by decide +kernel), List.mem_of_getElem? (i := 267) (by decide +kernel)⟩
theorem lw_p6 : lw_okq (⟨"LawsLapse$Texts", "value", "(ILLawsLapse$Republic;II)I"⟩, 4) := ⟨⟨by decide +kernel, by decide +kernel⟩, List.mem_of_getElem? (i := 24) (by decide +kernel), List.mem_of_getElem? (i := 270) (by decide +kernel), List.mem_of_getElem? (i := 271) (by decide +kernel)⟩
theorem lw_p7 : lw_okq (⟨"LawsLapse$Republic", "breaksNumber", "(II)Z"⟩, 15) := ⟨⟨by decide +kernel, by decide +kernel⟩, List.mem_of_getElem? (i := 79) (by decide +kernel), List.mem_of_getElem? (i := 286) (by decide +kernel), List.mem_of_getElem? (i := 287) (by decide +kernel)⟩
theorem lw_p8 : lw_okq (⟨"LawsLapse$Republic", "breaksOnlyLast", "(I)Z"⟩, 15) := ⟨⟨by decide +kernel, by decide +kernel⟩, List.mem_of_getElem? (i := 79) (by decide +kernel), List.mem_of_getElem? (i := 290) (by decide +kernel), List.mem_of_getElem? (i := 291) (by decide +kernel)⟩
theorem lw_p9 : lw_okq (⟨"LawsLapse$Republic", "put", "(III)V"⟩, 15) := ⟨⟨by decide +kernel, by decide +kernel⟩, List.mem_of_getElem? (i := 79) (by decide +kernel), List.mem_of_getElem? (i := 294) (by decide +kernel), List.mem_of_getElem? (i := 295) (by decide +kernel)⟩
theorem lw_p10 : lw_okq (⟨"LawsLapse$Republic", "putLeft", "(II)V"⟩, 15) := ⟨⟨by decide +kernel, by decide +kernel⟩, List.mem_of_getElem? (i := 79) (by decide +kernel), List.mem_of_getElem? (i := 298) (by decide +kernel), List.mem_of_getElem? (i := 299) (by decide +kernel)⟩
theorem lw_p11 : lw_okq (⟨"LawsLapse$Republic", "add", "(II)I"⟩, 15) := ⟨⟨by decide +kernel, by decide +kernel⟩, List.mem_of_getElem? (i := 79) (by decide +kernel), List.mem_of_getElem? (i := 306) (by decide +kernel), List.mem_of_getElem? (i := 307) (by decide +kernel)⟩
theorem lw_p12 : lw_okq (⟨"LawsLapse$Republic", "costs", "(II)I"⟩, 15) := ⟨⟨by decide +kernel, by decide +kernel⟩, List.mem_of_getElem? (i := 79) (by decide +kernel), List.mem_of_getElem? (i := 319) (by decide +kernel), List.mem_of_getElem? (i := 320) (by decide +kernel)⟩
theorem lw_p13 : lw_okq (⟨"LawsLapse$Republic", "sentence", "(II)I"⟩, 15) := ⟨⟨by decide +kernel, by decide +kernel⟩, List.mem_of_getElem? (i := 79) (by decide +kernel), List.mem_of_getElem? (i := 330) (by decide +kernel), List.mem_of_getElem? (i := 331) (by decide +kernel)⟩
theorem lw_p14 : lw_okq (⟨"LawsLapse$Tape", "add", "(I)V"⟩, 7) := ⟨⟨by decide +kernel, by decide +kernel⟩, List.mem_of_getElem? (i := 49) (by decide +kernel), List.mem_of_getElem? (i := 338) (by decide +kernel), List.mem_of_getElem? (i := 339) (by decide +kernel)⟩
theorem lw_p15 : lw_okq (⟨"LawsLapse$Tape", "reads", "([I[I)Z"⟩, 7) := ⟨⟨by decide +kernel, by decide +kernel⟩, List.mem_of_getElem? (i := 49) (by decide +kernel), List.mem_of_getElem? (i := 346) (by decide +kernel), List.mem_of_getElem? (i := 347) (by decide +kernel)⟩
def lw_privs_1 : List (MethodName × Nat) := [(⟨"LawsLapse", "stands", "(II)Z"⟩, 8), (⟨"LawsLapse", "isOne", "(I)Z"⟩, 8), (⟨"LawsLapse$Republic", "valueOf", "(II)I"⟩, 15), (⟨"LawsLapse$Republic", "deedsOf", "(I)I"⟩, 15), (⟨"LawsLapse$Republic", "can", "(II)Z"⟩, 15), (⟨"LawsLapse$Republic", "dares", "(II)Z"⟩, 15), (⟨"LawsLapse$Texts", "value", "(ILLawsLapse$Republic;II)I"⟩, 4), (⟨"LawsLapse$Republic", "breaksNumber", "(II)Z"⟩, 15), (⟨"LawsLapse$Republic", "breaksOnlyLast", "(I)Z"⟩, 15), (⟨"LawsLapse$Republic", "put", "(III)V"⟩, 15), (⟨"LawsLapse$Republic", "putLeft", "(II)V"⟩, 15), (⟨"LawsLapse$Republic", "add", "(II)I"⟩, 15), (⟨"LawsLapse$Republic", "costs", "(II)I"⟩, 15), (⟨"LawsLapse$Republic", "sentence", "(II)I"⟩, 15), (⟨"LawsLapse$Tape", "add", "(I)V"⟩, 7), (⟨"LawsLapse$Tape", "reads", "([I[I)Z"⟩, 7)]
theorem lw_r1 : ∀ q ∈ lw_privs_1, lw_okq q := List.forall_mem_cons.mpr ⟨lw_p0, List.forall_mem_cons.mpr ⟨lw_p1, List.forall_mem_cons.mpr ⟨lw_p2, List.forall_mem_cons.mpr ⟨lw_p3, List.forall_mem_cons.mpr ⟨lw_p4, List.forall_mem_cons.mpr ⟨lw_p5, List.forall_mem_cons.mpr ⟨lw_p6, List.forall_mem_cons.mpr ⟨lw_p7, List.forall_mem_cons.mpr ⟨lw_p8, List.forall_mem_cons.mpr ⟨lw_p9, List.forall_mem_cons.mpr ⟨lw_p10, List.forall_mem_cons.mpr ⟨lw_p11, List.forall_mem_cons.mpr ⟨lw_p12, List.forall_mem_cons.mpr ⟨lw_p13, List.forall_mem_cons.mpr ⟨lw_p14, List.forall_mem_cons.mpr ⟨lw_p15, fun _ h => absurd h List.not_mem_nil⟩⟩⟩⟩⟩⟩⟩⟩⟩⟩⟩⟩⟩⟩⟩⟩
theorem lw_p16 : lw_okq (⟨"LawsLapse$Tape", "step", "()V"⟩, 7) := ⟨⟨by decide +kernel, by decide +kernel⟩, List.mem_of_getElem? (i := 49) (by decide +kernel), List.mem_of_getElem? (i := 350) (by decide +kernel), List.mem_of_getElem? (i := 351) (by decide +kernel)⟩
theorem lw_p17 : lw_okq (⟨"LawsLapse$Tape", "word", "()I"⟩, 7) := ⟨⟨by decide +kernel, by decide +kernel⟩, List.mem_of_getElem? (i := 49) (by decide +kernel), List.mem_of_getElem? (i := 358) (by decide +kernel), List.mem_of_getElem? (i := 359) (by decide +kernel)⟩
theorem lw_p18 : lw_okq (⟨"LawsLapse$Tape", "spells", "(Ljava/lang/String;)Z"⟩, 7) := ⟨⟨by decide +kernel, by decide +kernel⟩, List.mem_of_getElem? (i := 49) (by decide +kernel), List.mem_of_getElem? (i := 363) (by decide +kernel), List.mem_of_getElem? (i := 364) (by decide +kernel)⟩
theorem lw_p19 : lw_okq (⟨"LawsLapse$Tape", "digits", "()I"⟩, 7) := ⟨⟨by decide +kernel, by decide +kernel⟩, List.mem_of_getElem? (i := 49) (by decide +kernel), List.mem_of_getElem? (i := 429) (by decide +kernel), List.mem_of_getElem? (i := 430) (by decide +kernel)⟩
theorem lw_p20 : lw_okq (⟨"LawsLapse$Tape", "either", "(I)Z"⟩, 7) := ⟨⟨by decide +kernel, by decide +kernel⟩, List.mem_of_getElem? (i := 49) (by decide +kernel), List.mem_of_getElem? (i := 436) (by decide +kernel), List.mem_of_getElem? (i := 437) (by decide +kernel)⟩
theorem lw_p21 : lw_okq (⟨"LawsLapse$Tape", "both", "(I)Z"⟩, 7) := ⟨⟨by decide +kernel, by decide +kernel⟩, List.mem_of_getElem? (i := 49) (by decide +kernel), List.mem_of_getElem? (i := 440) (by decide +kernel), List.mem_of_getElem? (i := 441) (by decide +kernel)⟩
theorem lw_p22 : lw_okq (⟨"LawsLapse$Tape", "negated", "(I)Z"⟩, 7) := ⟨⟨by decide +kernel, by decide +kernel⟩, List.mem_of_getElem? (i := 49) (by decide +kernel), List.mem_of_getElem? (i := 444) (by decide +kernel), List.mem_of_getElem? (i := 445) (by decide +kernel)⟩
theorem lw_p23 : lw_okq (⟨"LawsLapse$Tape", "compared", "(I)Z"⟩, 7) := ⟨⟨by decide +kernel, by decide +kernel⟩, List.mem_of_getElem? (i := 49) (by decide +kernel), List.mem_of_getElem? (i := 448) (by decide +kernel), List.mem_of_getElem? (i := 449) (by decide +kernel)⟩
theorem lw_p24 : lw_okq (⟨"LawsLapse$Tape", "sum", "(I)Z"⟩, 7) := ⟨⟨by decide +kernel, by decide +kernel⟩, List.mem_of_getElem? (i := 49) (by decide +kernel), List.mem_of_getElem? (i := 452) (by decide +kernel), List.mem_of_getElem? (i := 453) (by decide +kernel)⟩
theorem lw_p25 : lw_okq (⟨"LawsLapse$Tape", "product", "(I)Z"⟩, 7) := ⟨⟨by decide +kernel, by decide +kernel⟩, List.mem_of_getElem? (i := 49) (by decide +kernel), List.mem_of_getElem? (i := 456) (by decide +kernel), List.mem_of_getElem? (i := 457) (by decide +kernel)⟩
theorem lw_p26 : lw_okq (⟨"LawsLapse$Tape", "single", "(I)Z"⟩, 7) := ⟨⟨by decide +kernel, by decide +kernel⟩, List.mem_of_getElem? (i := 49) (by decide +kernel), List.mem_of_getElem? (i := 460) (by decide +kernel), List.mem_of_getElem? (i := 461) (by decide +kernel)⟩
theorem lw_p27 : lw_okq (⟨"LawsLapse$Tape", "bare", "(I)Z"⟩, 7) := ⟨⟨by decide +kernel, by decide +kernel⟩, List.mem_of_getElem? (i := 49) (by decide +kernel), List.mem_of_getElem? (i := 464) (by decide +kernel), List.mem_of_getElem? (i := 465) (by decide +kernel)⟩
theorem lw_p28 : lw_okq (⟨"LawsLapse$Tape", "write", "(I)V"⟩, 7) := ⟨⟨by decide +kernel, by decide +kernel⟩, List.mem_of_getElem? (i := 49) (by decide +kernel), List.mem_of_getElem? (i := 468) (by decide +kernel), List.mem_of_getElem? (i := 469) (by decide +kernel)⟩
theorem lw_p29 : lw_okq (⟨"LawsLapse$Republic", "commit", "(II)V"⟩, 15) := ⟨⟨by decide +kernel, by decide +kernel⟩, List.mem_of_getElem? (i := 79) (by decide +kernel), List.mem_of_getElem? (i := 482) (by decide +kernel), List.mem_of_getElem? (i := 483) (by decide +kernel)⟩
theorem lw_p30 : lw_okq (⟨"LawsLapse$Republic", "breakBy", "(I)V"⟩, 15) := ⟨⟨by decide +kernel, by decide +kernel⟩, List.mem_of_getElem? (i := 79) (by decide +kernel), List.mem_of_getElem? (i := 488) (by decide +kernel), List.mem_of_getElem? (i := 489) (by decide +kernel)⟩
theorem lw_p31 : lw_okq (⟨"LawsLapse$Republic", "endYear", "()I"⟩, 15) := ⟨⟨by decide +kernel, by decide +kernel⟩, List.mem_of_getElem? (i := 79) (by decide +kernel), List.mem_of_getElem? (i := 497) (by decide +kernel), List.mem_of_getElem? (i := 498) (by decide +kernel)⟩
def lw_privs_2 : List (MethodName × Nat) := [(⟨"LawsLapse$Tape", "step", "()V"⟩, 7), (⟨"LawsLapse$Tape", "word", "()I"⟩, 7), (⟨"LawsLapse$Tape", "spells", "(Ljava/lang/String;)Z"⟩, 7), (⟨"LawsLapse$Tape", "digits", "()I"⟩, 7), (⟨"LawsLapse$Tape", "either", "(I)Z"⟩, 7), (⟨"LawsLapse$Tape", "both", "(I)Z"⟩, 7), (⟨"LawsLapse$Tape", "negated", "(I)Z"⟩, 7), (⟨"LawsLapse$Tape", "compared", "(I)Z"⟩, 7), (⟨"LawsLapse$Tape", "sum", "(I)Z"⟩, 7), (⟨"LawsLapse$Tape", "product", "(I)Z"⟩, 7), (⟨"LawsLapse$Tape", "single", "(I)Z"⟩, 7), (⟨"LawsLapse$Tape", "bare", "(I)Z"⟩, 7), (⟨"LawsLapse$Tape", "write", "(I)V"⟩, 7), (⟨"LawsLapse$Republic", "commit", "(II)V"⟩, 15), (⟨"LawsLapse$Republic", "breakBy", "(I)V"⟩, 15), (⟨"LawsLapse$Republic", "endYear", "()I"⟩, 15)]
theorem lw_r2 : ∀ q ∈ lw_privs_2, lw_okq q := List.forall_mem_cons.mpr ⟨lw_p16, List.forall_mem_cons.mpr ⟨lw_p17, List.forall_mem_cons.mpr ⟨lw_p18, List.forall_mem_cons.mpr ⟨lw_p19, List.forall_mem_cons.mpr ⟨lw_p20, List.forall_mem_cons.mpr ⟨lw_p21, List.forall_mem_cons.mpr ⟨lw_p22, List.forall_mem_cons.mpr ⟨lw_p23, List.forall_mem_cons.mpr ⟨lw_p24, List.forall_mem_cons.mpr ⟨lw_p25, List.forall_mem_cons.mpr ⟨lw_p26, List.forall_mem_cons.mpr ⟨lw_p27, List.forall_mem_cons.mpr ⟨lw_p28, List.forall_mem_cons.mpr ⟨lw_p29, List.forall_mem_cons.mpr ⟨lw_p30, List.forall_mem_cons.mpr ⟨lw_p31, fun _ h => absurd h List.not_mem_nil⟩⟩⟩⟩⟩⟩⟩⟩⟩⟩⟩⟩⟩⟩⟩⟩
theorem lw_p32 : lw_okq (⟨"LawsLapse$Republic", "takeFrom", "(LLawsLapse$Republic;)V"⟩, 15) := ⟨⟨by decide +kernel, by decide +kernel⟩, List.mem_of_getElem? (i := 79) (by decide +kernel), List.mem_of_getElem? (i := 505) (by decide +kernel), List.mem_of_getElem? (i := 506) (by decide +kernel)⟩
theorem lw_p33 : lw_okq (⟨"LawsLapse$Republic", "passYears", "(I)I"⟩, 15) := ⟨⟨by decide +kernel, by decide +kernel⟩, List.mem_of_getElem? (i := 79) (by decide +kernel), List.mem_of_getElem? (i := 512) (by decide +kernel), List.mem_of_getElem? (i := 513) (by decide +kernel)⟩
theorem lw_p34 : lw_okq (⟨"LawsLapse$Republic", "firstOfUse", "(I)I"⟩, 15) := ⟨⟨by decide +kernel, by decide +kernel⟩, List.mem_of_getElem? (i := 79) (by decide +kernel), List.mem_of_getElem? (i := 516) (by decide +kernel), List.mem_of_getElem? (i := 517) (by decide +kernel)⟩
theorem lw_p35 : lw_okq (⟨"LawsLapse$Republic", "leastCover", "(IZ)I"⟩, 15) := ⟨⟨by decide +kernel, by decide +kernel⟩, List.mem_of_getElem? (i := 79) (by decide +kernel), List.mem_of_getElem? (i := 530) (by decide +kernel), List.mem_of_getElem? (i := 531) (by decide +kernel)⟩
theorem lw_p36 : lw_okq (⟨"LawsLapse$Republic", "brokenBy", "(I)I"⟩, 15) := ⟨⟨by decide +kernel, by decide +kernel⟩, List.mem_of_getElem? (i := 79) (by decide +kernel), List.mem_of_getElem? (i := 534) (by decide +kernel), List.mem_of_getElem? (i := 535) (by decide +kernel)⟩
theorem lw_p37 : lw_okq (⟨"LawsLapse$Republic", "harmOf", "(I)I"⟩, 15) := ⟨⟨by decide +kernel, by decide +kernel⟩, List.mem_of_getElem? (i := 79) (by decide +kernel), List.mem_of_getElem? (i := 538) (by decide +kernel), List.mem_of_getElem? (i := 539) (by decide +kernel)⟩
theorem lw_p38 : lw_okq (⟨"LawsLapse$Rota", "seek", "(LLawsLapse$Republic;)V"⟩, 7) := ⟨⟨by decide +kernel, by decide +kernel⟩, List.mem_of_getElem? (i := 151) (by decide +kernel), List.mem_of_getElem? (i := 548) (by decide +kernel), List.mem_of_getElem? (i := 549) (by decide +kernel)⟩
theorem lw_p39 : lw_okq (⟨"LawsLapse$Rota", "weigh", "(III)V"⟩, 7) := ⟨⟨by decide +kernel, by decide +kernel⟩, List.mem_of_getElem? (i := 151) (by decide +kernel), List.mem_of_getElem? (i := 558) (by decide +kernel), List.mem_of_getElem? (i := 559) (by decide +kernel)⟩
theorem lw_p40 : lw_okq (⟨"LawsLapse", "aliveBehind", "(II)I"⟩, 8) := ⟨⟨by decide +kernel, by decide +kernel⟩, List.mem_of_getElem? (i := 16) (by decide +kernel), List.mem_of_getElem? (i := 566) (by decide +kernel), List.mem_of_getElem? (i := 567) (by decide +kernel)⟩
theorem lw_p41 : lw_okq (⟨"LawsLapse$Republic", "leastHarm", "(I)I"⟩, 15) := ⟨⟨by decide +kernel, by decide +kernel⟩, List.mem_of_getElem? (i := 79) (by decide +kernel), List.mem_of_getElem? (i := 575) (by decide +kernel), List.mem_of_getElem? (i := 576) (by decide +kernel)⟩
theorem lw_p42 : lw_okq (⟨"LawsLapse", "sheetAt", "(I)LLawsLapse$Sheet;"⟩, 8) := ⟨⟨by decide +kernel, by decide +kernel⟩, List.mem_of_getElem? (i := 16) (by decide +kernel), List.mem_of_getElem? (i := 594) (by decide +kernel), List.mem_of_getElem? (i := 595) (by decide +kernel)⟩
theorem lw_p43 : lw_okq (⟨"LawsLapse$Republic", "otherwise", "(LLawsLapse$Sheet;I)I"⟩, 15) := ⟨⟨by decide +kernel, by decide +kernel⟩, List.mem_of_getElem? (i := 79) (by decide +kernel), List.mem_of_getElem? (i := 598) (by decide +kernel), List.mem_of_getElem? (i := 599) (by decide +kernel)⟩
theorem lw_p44 : lw_okq (⟨"LawsLapse$Republic", "costsOrNone", "(II)I"⟩, 15) := ⟨⟨by decide +kernel, by decide +kernel⟩, List.mem_of_getElem? (i := 79) (by decide +kernel), List.mem_of_getElem? (i := 602) (by decide +kernel), List.mem_of_getElem? (i := 603) (by decide +kernel)⟩
theorem lw_p45 : lw_okq (⟨"LawsLapse", "fittingBits", "(LLawsLapse$Sheet;III)I"⟩, 8) := ⟨⟨by decide +kernel, by decide +kernel⟩, List.mem_of_getElem? (i := 16) (by decide +kernel), List.mem_of_getElem? (i := 606) (by decide +kernel), List.mem_of_getElem? (i := 607) (by decide +kernel)⟩
theorem lw_p46 : lw_okq (⟨"LawsLapse", "howManyFit", "(LLawsLapse$Sheet;II)I"⟩, 8) := ⟨⟨by decide +kernel, by decide +kernel⟩, List.mem_of_getElem? (i := 16) (by decide +kernel), List.mem_of_getElem? (i := 610) (by decide +kernel), List.mem_of_getElem? (i := 611) (by decide +kernel)⟩
theorem lw_p47 : lw_okq (⟨"LawsLapse", "leastFitting", "(LLawsLapse$Sheet;II)I"⟩, 8) := ⟨⟨by decide +kernel, by decide +kernel⟩, List.mem_of_getElem? (i := 16) (by decide +kernel), List.mem_of_getElem? (i := 614) (by decide +kernel), List.mem_of_getElem? (i := 615) (by decide +kernel)⟩
def lw_privs_3 : List (MethodName × Nat) := [(⟨"LawsLapse$Republic", "takeFrom", "(LLawsLapse$Republic;)V"⟩, 15), (⟨"LawsLapse$Republic", "passYears", "(I)I"⟩, 15), (⟨"LawsLapse$Republic", "firstOfUse", "(I)I"⟩, 15), (⟨"LawsLapse$Republic", "leastCover", "(IZ)I"⟩, 15), (⟨"LawsLapse$Republic", "brokenBy", "(I)I"⟩, 15), (⟨"LawsLapse$Republic", "harmOf", "(I)I"⟩, 15), (⟨"LawsLapse$Rota", "seek", "(LLawsLapse$Republic;)V"⟩, 7), (⟨"LawsLapse$Rota", "weigh", "(III)V"⟩, 7), (⟨"LawsLapse", "aliveBehind", "(II)I"⟩, 8), (⟨"LawsLapse$Republic", "leastHarm", "(I)I"⟩, 15), (⟨"LawsLapse", "sheetAt", "(I)LLawsLapse$Sheet;"⟩, 8), (⟨"LawsLapse$Republic", "otherwise", "(LLawsLapse$Sheet;I)I"⟩, 15), (⟨"LawsLapse$Republic", "costsOrNone", "(II)I"⟩, 15), (⟨"LawsLapse", "fittingBits", "(LLawsLapse$Sheet;III)I"⟩, 8), (⟨"LawsLapse", "howManyFit", "(LLawsLapse$Sheet;II)I"⟩, 8), (⟨"LawsLapse", "leastFitting", "(LLawsLapse$Sheet;II)I"⟩, 8)]
theorem lw_r3 : ∀ q ∈ lw_privs_3, lw_okq q := List.forall_mem_cons.mpr ⟨lw_p32, List.forall_mem_cons.mpr ⟨lw_p33, List.forall_mem_cons.mpr ⟨lw_p34, List.forall_mem_cons.mpr ⟨lw_p35, List.forall_mem_cons.mpr ⟨lw_p36, List.forall_mem_cons.mpr ⟨lw_p37, List.forall_mem_cons.mpr ⟨lw_p38, List.forall_mem_cons.mpr ⟨lw_p39, List.forall_mem_cons.mpr ⟨lw_p40, List.forall_mem_cons.mpr ⟨lw_p41, List.forall_mem_cons.mpr ⟨lw_p42, List.forall_mem_cons.mpr ⟨lw_p43, List.forall_mem_cons.mpr ⟨lw_p44, List.forall_mem_cons.mpr ⟨lw_p45, List.forall_mem_cons.mpr ⟨lw_p46, List.forall_mem_cons.mpr ⟨lw_p47, fun _ h => absurd h List.not_mem_nil⟩⟩⟩⟩⟩⟩⟩⟩⟩⟩⟩⟩⟩⟩⟩⟩
theorem lw_p48 : lw_okq (⟨"LawsLapse", "fittingPeople", "(LLawsLapse$Sheet;)I"⟩, 8) := ⟨⟨by decide +kernel, by decide +kernel⟩, List.mem_of_getElem? (i := 16) (by decide +kernel), List.mem_of_getElem? (i := 618) (by decide +kernel), List.mem_of_getElem? (i := 619) (by decide +kernel)⟩
theorem lw_p49 : lw_okq (⟨"LawsLapse$Sheet", "become", "(II)V"⟩, 3) := ⟨⟨by decide +kernel, by decide +kernel⟩, List.mem_of_getElem? (i := 183) (by decide +kernel), List.mem_of_getElem? (i := 626) (by decide +kernel), List.mem_of_getElem? (i := 627) (by decide +kernel)⟩
theorem lw_p50 : lw_okq (⟨"LawsLapse$Sheet", "put", "(II)V"⟩, 3) := ⟨⟨by decide +kernel, by decide +kernel⟩, List.mem_of_getElem? (i := 183) (by decide +kernel), List.mem_of_getElem? (i := 633) (by decide +kernel), List.mem_of_getElem? (i := 634) (by decide +kernel)⟩
theorem lw_p51 : lw_okq (⟨"LawsLapse$Sheet", "has", "(II)Z"⟩, 3) := ⟨⟨by decide +kernel, by decide +kernel⟩, List.mem_of_getElem? (i := 183) (by decide +kernel), List.mem_of_getElem? (i := 637) (by decide +kernel), List.mem_of_getElem? (i := 638) (by decide +kernel)⟩
theorem lw_p52 : lw_okq (⟨"LawsLapse", "aliveByDraw", "(II)I"⟩, 8) := ⟨⟨by decide +kernel, by decide +kernel⟩, List.mem_of_getElem? (i := 16) (by decide +kernel), List.mem_of_getElem? (i := 645) (by decide +kernel), List.mem_of_getElem? (i := 646) (by decide +kernel)⟩
theorem lw_p53 : lw_okq (⟨"LawsLapse$Republic", "drawYears", "(II)V"⟩, 15) := ⟨⟨by decide +kernel, by decide +kernel⟩, List.mem_of_getElem? (i := 79) (by decide +kernel), List.mem_of_getElem? (i := 649) (by decide +kernel), List.mem_of_getElem? (i := 650) (by decide +kernel)⟩
theorem lw_p54 : lw_okq (⟨"LawsLapseModel", "spell", "(IIIIIIIII)V"⟩, 50) := ⟨⟨by decide +kernel, by decide +kernel⟩, List.mem_of_getElem? (i := 698) (by decide +kernel), List.mem_of_getElem? (i := 704) (by decide +kernel), List.mem_of_getElem? (i := 705) (by decide +kernel)⟩
theorem lw_p55 : lw_okq (⟨"LawsLapseModel", "isOf", "(II)Z"⟩, 50) := ⟨⟨by decide +kernel, by decide +kernel⟩, List.mem_of_getElem? (i := 698) (by decide +kernel), List.mem_of_getElem? (i := 867) (by decide +kernel), List.mem_of_getElem? (i := 868) (by decide +kernel)⟩
theorem lw_p56 : lw_okq (⟨"LawsLapseModel", "isOne", "(I)Z"⟩, 50) := ⟨⟨by decide +kernel, by decide +kernel⟩, List.mem_of_getElem? (i := 698) (by decide +kernel), List.mem_of_getElem? (i := 878) (by decide +kernel), List.mem_of_getElem? (i := 879) (by decide +kernel)⟩
theorem lw_p57 : lw_okq (⟨"LawsLapseModel", "canSet", "(I)I"⟩, 50) := ⟨⟨by decide +kernel, by decide +kernel⟩, List.mem_of_getElem? (i := 698) (by decide +kernel), List.mem_of_getElem? (i := 890) (by decide +kernel), List.mem_of_getElem? (i := 891) (by decide +kernel)⟩
theorem lw_p58 : lw_okq (⟨"LawsLapseModel", "can", "(II)Z"⟩, 50) := ⟨⟨by decide +kernel, by decide +kernel⟩, List.mem_of_getElem? (i := 698) (by decide +kernel), List.mem_of_getElem? (i := 894) (by decide +kernel), List.mem_of_getElem? (i := 895) (by decide +kernel)⟩
theorem lw_p59 : lw_okq (⟨"LawsLapseModel", "dares", "(II)Z"⟩, 50) := ⟨⟨by decide +kernel, by decide +kernel⟩, List.mem_of_getElem? (i := 698) (by decide +kernel), List.mem_of_getElem? (i := 898) (by decide +kernel), List.mem_of_getElem? (i := 899) (by decide +kernel)⟩
theorem lw_p60 : lw_okq (⟨"LawsLapseModel", "says", "(III)I"⟩, 50) := ⟨⟨by decide +kernel, by decide +kernel⟩, List.mem_of_getElem? (i := 698) (by decide +kernel), List.mem_of_getElem? (i := 902) (by decide +kernel), List.mem_of_getElem? (i := 903) (by decide +kernel)⟩
theorem lw_p61 : lw_okq (⟨"LawsLapseModel", "alive", "()I"⟩, 50) := ⟨⟨by decide +kernel, by decide +kernel⟩, List.mem_of_getElem? (i := 698) (by decide +kernel), List.mem_of_getElem? (i := 909) (by decide +kernel), List.mem_of_getElem? (i := 910) (by decide +kernel)⟩
theorem lw_p62 : lw_okq (⟨"LawsLapseModel", "read", "(II)I"⟩, 50) := ⟨⟨by decide +kernel, by decide +kernel⟩, List.mem_of_getElem? (i := 698) (by decide +kernel), List.mem_of_getElem? (i := 913) (by decide +kernel), List.mem_of_getElem? (i := 914) (by decide +kernel)⟩
theorem lw_p63 : lw_okq (⟨"LawsLapseModel", "next", "()V"⟩, 50) := ⟨⟨by decide +kernel, by decide +kernel⟩, List.mem_of_getElem? (i := 698) (by decide +kernel), List.mem_of_getElem? (i := 917) (by decide +kernel), List.mem_of_getElem? (i := 918) (by decide +kernel)⟩
def lw_privs_4 : List (MethodName × Nat) := [(⟨"LawsLapse", "fittingPeople", "(LLawsLapse$Sheet;)I"⟩, 8), (⟨"LawsLapse$Sheet", "become", "(II)V"⟩, 3), (⟨"LawsLapse$Sheet", "put", "(II)V"⟩, 3), (⟨"LawsLapse$Sheet", "has", "(II)Z"⟩, 3), (⟨"LawsLapse", "aliveByDraw", "(II)I"⟩, 8), (⟨"LawsLapse$Republic", "drawYears", "(II)V"⟩, 15), (⟨"LawsLapseModel", "spell", "(IIIIIIIII)V"⟩, 50), (⟨"LawsLapseModel", "isOf", "(II)Z"⟩, 50), (⟨"LawsLapseModel", "isOne", "(I)Z"⟩, 50), (⟨"LawsLapseModel", "canSet", "(I)I"⟩, 50), (⟨"LawsLapseModel", "can", "(II)Z"⟩, 50), (⟨"LawsLapseModel", "dares", "(II)Z"⟩, 50), (⟨"LawsLapseModel", "says", "(III)I"⟩, 50), (⟨"LawsLapseModel", "alive", "()I"⟩, 50), (⟨"LawsLapseModel", "read", "(II)I"⟩, 50), (⟨"LawsLapseModel", "next", "()V"⟩, 50)]
theorem lw_r4 : ∀ q ∈ lw_privs_4, lw_okq q := List.forall_mem_cons.mpr ⟨lw_p48, List.forall_mem_cons.mpr ⟨lw_p49, List.forall_mem_cons.mpr ⟨lw_p50, List.forall_mem_cons.mpr ⟨lw_p51, List.forall_mem_cons.mpr ⟨lw_p52, List.forall_mem_cons.mpr ⟨lw_p53, List.forall_mem_cons.mpr ⟨lw_p54, List.forall_mem_cons.mpr ⟨lw_p55, List.forall_mem_cons.mpr ⟨lw_p56, List.forall_mem_cons.mpr ⟨lw_p57, List.forall_mem_cons.mpr ⟨lw_p58, List.forall_mem_cons.mpr ⟨lw_p59, List.forall_mem_cons.mpr ⟨lw_p60, List.forall_mem_cons.mpr ⟨lw_p61, List.forall_mem_cons.mpr ⟨lw_p62, List.forall_mem_cons.mpr ⟨lw_p63, fun _ h => absurd h List.not_mem_nil⟩⟩⟩⟩⟩⟩⟩⟩⟩⟩⟩⟩⟩⟩⟩⟩
theorem lw_p64 : lw_okq (⟨"LawsLapseModel", "byteAt", "(I)I"⟩, 50) := ⟨⟨by decide +kernel, by decide +kernel⟩, List.mem_of_getElem? (i := 698) (by decide +kernel), List.mem_of_getElem? (i := 921) (by decide +kernel), List.mem_of_getElem? (i := 922) (by decide +kernel)⟩
theorem lw_p65 : lw_okq (⟨"LawsLapseModel", "isWord", "(IIIIIIII)Z"⟩, 50) := ⟨⟨by decide +kernel, by decide +kernel⟩, List.mem_of_getElem? (i := 698) (by decide +kernel), List.mem_of_getElem? (i := 930) (by decide +kernel), List.mem_of_getElem? (i := 931) (by decide +kernel)⟩
theorem lw_p66 : lw_okq (⟨"LawsLapseModel", "isLetter", "(II)Z"⟩, 50) := ⟨⟨by decide +kernel, by decide +kernel⟩, List.mem_of_getElem? (i := 698) (by decide +kernel), List.mem_of_getElem? (i := 934) (by decide +kernel), List.mem_of_getElem? (i := 935) (by decide +kernel)⟩
theorem lw_p67 : lw_okq (⟨"LawsLapseModel", "part", "(Z)I"⟩, 50) := ⟨⟨by decide +kernel, by decide +kernel⟩, List.mem_of_getElem? (i := 698) (by decide +kernel), List.mem_of_getElem? (i := 938) (by decide +kernel), List.mem_of_getElem? (i := 939) (by decide +kernel)⟩
theorem lw_p68 : lw_okq (⟨"LawsLapseModel", "fail", "()V"⟩, 50) := ⟨⟨by decide +kernel, by decide +kernel⟩, List.mem_of_getElem? (i := 698) (by decide +kernel), List.mem_of_getElem? (i := 942) (by decide +kernel), List.mem_of_getElem? (i := 943) (by decide +kernel)⟩
theorem lw_p69 : lw_okq (⟨"LawsLapseModel", "either", "()I"⟩, 50) := ⟨⟨by decide +kernel, by decide +kernel⟩, List.mem_of_getElem? (i := 698) (by decide +kernel), List.mem_of_getElem? (i := 946) (by decide +kernel), List.mem_of_getElem? (i := 947) (by decide +kernel)⟩
theorem lw_p70 : lw_okq (⟨"LawsLapseModel", "both", "()I"⟩, 50) := ⟨⟨by decide +kernel, by decide +kernel⟩, List.mem_of_getElem? (i := 698) (by decide +kernel), List.mem_of_getElem? (i := 950) (by decide +kernel), List.mem_of_getElem? (i := 951) (by decide +kernel)⟩
theorem lw_p71 : lw_okq (⟨"LawsLapseModel", "not", "()I"⟩, 50) := ⟨⟨by decide +kernel, by decide +kernel⟩, List.mem_of_getElem? (i := 698) (by decide +kernel), List.mem_of_getElem? (i := 954) (by decide +kernel), List.mem_of_getElem? (i := 955) (by decide +kernel)⟩
theorem lw_p72 : lw_okq (⟨"LawsLapseModel", "opens", "()Z"⟩, 50) := ⟨⟨by decide +kernel, by decide +kernel⟩, List.mem_of_getElem? (i := 698) (by decide +kernel), List.mem_of_getElem? (i := 958) (by decide +kernel), List.mem_of_getElem? (i := 959) (by decide +kernel)⟩
theorem lw_p73 : lw_okq (⟨"LawsLapseModel", "added", "()I"⟩, 50) := ⟨⟨by decide +kernel, by decide +kernel⟩, List.mem_of_getElem? (i := 698) (by decide +kernel), List.mem_of_getElem? (i := 962) (by decide +kernel), List.mem_of_getElem? (i := 963) (by decide +kernel)⟩
theorem lw_p74 : lw_okq (⟨"LawsLapseModel", "term", "()I"⟩, 50) := ⟨⟨by decide +kernel, by decide +kernel⟩, List.mem_of_getElem? (i := 698) (by decide +kernel), List.mem_of_getElem? (i := 966) (by decide +kernel), List.mem_of_getElem? (i := 967) (by decide +kernel)⟩
theorem lw_p75 : lw_okq (⟨"LawsLapseModel", "atom", "()I"⟩, 50) := ⟨⟨by decide +kernel, by decide +kernel⟩, List.mem_of_getElem? (i := 698) (by decide +kernel), List.mem_of_getElem? (i := 970) (by decide +kernel), List.mem_of_getElem? (i := 971) (by decide +kernel)⟩
theorem lw_p76 : lw_okq (⟨"LawsLapseModel", "isSign", "(I)Z"⟩, 50) := ⟨⟨by decide +kernel, by decide +kernel⟩, List.mem_of_getElem? (i := 698) (by decide +kernel), List.mem_of_getElem? (i := 974) (by decide +kernel), List.mem_of_getElem? (i := 975) (by decide +kernel)⟩
theorem lw_p77 : lw_okq (⟨"LawsLapseModel", "name", "()I"⟩, 50) := ⟨⟨by decide +kernel, by decide +kernel⟩, List.mem_of_getElem? (i := 698) (by decide +kernel), List.mem_of_getElem? (i := 978) (by decide +kernel), List.mem_of_getElem? (i := 979) (by decide +kernel)⟩
theorem lw_p78 : lw_okq (⟨"LawsLapseModel", "isLastCall", "(I)Z"⟩, 50) := ⟨⟨by decide +kernel, by decide +kernel⟩, List.mem_of_getElem? (i := 698) (by decide +kernel), List.mem_of_getElem? (i := 987) (by decide +kernel), List.mem_of_getElem? (i := 988) (by decide +kernel)⟩
theorem lw_p79 : lw_okq (⟨"LawsLapseModel", "lays", "(III)V"⟩, 50) := ⟨⟨by decide +kernel, by decide +kernel⟩, List.mem_of_getElem? (i := 698) (by decide +kernel), List.mem_of_getElem? (i := 991) (by decide +kernel), List.mem_of_getElem? (i := 992) (by decide +kernel)⟩
def lw_privs_5 : List (MethodName × Nat) := [(⟨"LawsLapseModel", "byteAt", "(I)I"⟩, 50), (⟨"LawsLapseModel", "isWord", "(IIIIIIII)Z"⟩, 50), (⟨"LawsLapseModel", "isLetter", "(II)Z"⟩, 50), (⟨"LawsLapseModel", "part", "(Z)I"⟩, 50), (⟨"LawsLapseModel", "fail", "()V"⟩, 50), (⟨"LawsLapseModel", "either", "()I"⟩, 50), (⟨"LawsLapseModel", "both", "()I"⟩, 50), (⟨"LawsLapseModel", "not", "()I"⟩, 50), (⟨"LawsLapseModel", "opens", "()Z"⟩, 50), (⟨"LawsLapseModel", "added", "()I"⟩, 50), (⟨"LawsLapseModel", "term", "()I"⟩, 50), (⟨"LawsLapseModel", "atom", "()I"⟩, 50), (⟨"LawsLapseModel", "isSign", "(I)Z"⟩, 50), (⟨"LawsLapseModel", "name", "()I"⟩, 50), (⟨"LawsLapseModel", "isLastCall", "(I)Z"⟩, 50), (⟨"LawsLapseModel", "lays", "(III)V"⟩, 50)]
theorem lw_r5 : ∀ q ∈ lw_privs_5, lw_okq q := List.forall_mem_cons.mpr ⟨lw_p64, List.forall_mem_cons.mpr ⟨lw_p65, List.forall_mem_cons.mpr ⟨lw_p66, List.forall_mem_cons.mpr ⟨lw_p67, List.forall_mem_cons.mpr ⟨lw_p68, List.forall_mem_cons.mpr ⟨lw_p69, List.forall_mem_cons.mpr ⟨lw_p70, List.forall_mem_cons.mpr ⟨lw_p71, List.forall_mem_cons.mpr ⟨lw_p72, List.forall_mem_cons.mpr ⟨lw_p73, List.forall_mem_cons.mpr ⟨lw_p74, List.forall_mem_cons.mpr ⟨lw_p75, List.forall_mem_cons.mpr ⟨lw_p76, List.forall_mem_cons.mpr ⟨lw_p77, List.forall_mem_cons.mpr ⟨lw_p78, List.forall_mem_cons.mpr ⟨lw_p79, fun _ h => absurd h List.not_mem_nil⟩⟩⟩⟩⟩⟩⟩⟩⟩⟩⟩⟩⟩⟩⟩⟩
theorem lw_p80 : lw_okq (⟨"LawsLapseModel", "costsOf", "(II)I"⟩, 50) := ⟨⟨by decide +kernel, by decide +kernel⟩, List.mem_of_getElem? (i := 698) (by decide +kernel), List.mem_of_getElem? (i := 1019) (by decide +kernel), List.mem_of_getElem? (i := 1020) (by decide +kernel)⟩
theorem lw_p81 : lw_okq (⟨"LawsLapseModel", "sitsBy", "(II)I"⟩, 50) := ⟨⟨by decide +kernel, by decide +kernel⟩, List.mem_of_getElem? (i := 698) (by decide +kernel), List.mem_of_getElem? (i := 1023) (by decide +kernel), List.mem_of_getElem? (i := 1024) (by decide +kernel)⟩
theorem lw_p82 : lw_okq (⟨"LawsLapseModel", "done", "(II)V"⟩, 50) := ⟨⟨by decide +kernel, by decide +kernel⟩, List.mem_of_getElem? (i := 698) (by decide +kernel), List.mem_of_getElem? (i := 1031) (by decide +kernel), List.mem_of_getElem? (i := 1032) (by decide +kernel)⟩
theorem lw_p83 : lw_okq (⟨"LawsLapseModel", "ends", "()I"⟩, 50) := ⟨⟨by decide +kernel, by decide +kernel⟩, List.mem_of_getElem? (i := 698) (by decide +kernel), List.mem_of_getElem? (i := 1040) (by decide +kernel), List.mem_of_getElem? (i := 1041) (by decide +kernel)⟩
theorem lw_p84 : lw_okq (⟨"LawsLapseModel", "laysAside", "()V"⟩, 50) := ⟨⟨by decide +kernel, by decide +kernel⟩, List.mem_of_getElem? (i := 698) (by decide +kernel), List.mem_of_getElem? (i := 1049) (by decide +kernel), List.mem_of_getElem? (i := 1050) (by decide +kernel)⟩
theorem lw_p85 : lw_okq (⟨"LawsLapseModel", "go", "(I)I"⟩, 50) := ⟨⟨by decide +kernel, by decide +kernel⟩, List.mem_of_getElem? (i := 698) (by decide +kernel), List.mem_of_getElem? (i := 1053) (by decide +kernel), List.mem_of_getElem? (i := 1054) (by decide +kernel)⟩
theorem lw_p86 : lw_okq (⟨"LawsLapseModel", "all", "()I"⟩, 50) := ⟨⟨by decide +kernel, by decide +kernel⟩, List.mem_of_getElem? (i := 698) (by decide +kernel), List.mem_of_getElem? (i := 1057) (by decide +kernel), List.mem_of_getElem? (i := 1058) (by decide +kernel)⟩
theorem lw_p87 : lw_okq (⟨"LawsLapseModel", "laysBack", "()V"⟩, 50) := ⟨⟨by decide +kernel, by decide +kernel⟩, List.mem_of_getElem? (i := 698) (by decide +kernel), List.mem_of_getElem? (i := 1061) (by decide +kernel), List.mem_of_getElem? (i := 1062) (by decide +kernel)⟩
theorem lw_p88 : lw_okq (⟨"LawsLapseModel", "unionOf", "(I)I"⟩, 50) := ⟨⟨by decide +kernel, by decide +kernel⟩, List.mem_of_getElem? (i := 698) (by decide +kernel), List.mem_of_getElem? (i := 1074) (by decide +kernel), List.mem_of_getElem? (i := 1075) (by decide +kernel)⟩
theorem lw_p89 : lw_okq (⟨"LawsLapseModel", "harmOf", "(I)I"⟩, 50) := ⟨⟨by decide +kernel, by decide +kernel⟩, List.mem_of_getElem? (i := 698) (by decide +kernel), List.mem_of_getElem? (i := 1078) (by decide +kernel), List.mem_of_getElem? (i := 1079) (by decide +kernel)⟩
theorem lw_p90 : lw_okq (⟨"LawsLapseModel", "gives", "(IIIII)V"⟩, 50) := ⟨⟨by decide +kernel, by decide +kernel⟩, List.mem_of_getElem? (i := 698) (by decide +kernel), List.mem_of_getElem? (i := 1086) (by decide +kernel), List.mem_of_getElem? (i := 1087) (by decide +kernel)⟩
theorem lw_p91 : lw_okq (⟨"LawsLapseModel", "aliveBehind", "(II)I"⟩, 50) := ⟨⟨by decide +kernel, by decide +kernel⟩, List.mem_of_getElem? (i := 698) (by decide +kernel), List.mem_of_getElem? (i := 1094) (by decide +kernel), List.mem_of_getElem? (i := 1095) (by decide +kernel)⟩
theorem lw_p92 : lw_okq (⟨"LawsLapseModel", "firstOther", "(II)I"⟩, 50) := ⟨⟨by decide +kernel, by decide +kernel⟩, List.mem_of_getElem? (i := 698) (by decide +kernel), List.mem_of_getElem? (i := 1118) (by decide +kernel), List.mem_of_getElem? (i := 1119) (by decide +kernel)⟩
theorem lw_p93 : lw_okq (⟨"LawsLapseModel", "likeSet", "(I)I"⟩, 50) := ⟨⟨by decide +kernel, by decide +kernel⟩, List.mem_of_getElem? (i := 698) (by decide +kernel), List.mem_of_getElem? (i := 1122) (by decide +kernel), List.mem_of_getElem? (i := 1123) (by decide +kernel)⟩
theorem lw_p94 : lw_okq (⟨"LawsLapseModel", "aliveDrawn", "(II)I"⟩, 50) := ⟨⟨by decide +kernel, by decide +kernel⟩, List.mem_of_getElem? (i := 698) (by decide +kernel), List.mem_of_getElem? (i := 1139) (by decide +kernel), List.mem_of_getElem? (i := 1140) (by decide +kernel)⟩
def lw_privs_6 : List (MethodName × Nat) := [(⟨"LawsLapseModel", "costsOf", "(II)I"⟩, 50), (⟨"LawsLapseModel", "sitsBy", "(II)I"⟩, 50), (⟨"LawsLapseModel", "done", "(II)V"⟩, 50), (⟨"LawsLapseModel", "ends", "()I"⟩, 50), (⟨"LawsLapseModel", "laysAside", "()V"⟩, 50), (⟨"LawsLapseModel", "go", "(I)I"⟩, 50), (⟨"LawsLapseModel", "all", "()I"⟩, 50), (⟨"LawsLapseModel", "laysBack", "()V"⟩, 50), (⟨"LawsLapseModel", "unionOf", "(I)I"⟩, 50), (⟨"LawsLapseModel", "harmOf", "(I)I"⟩, 50), (⟨"LawsLapseModel", "gives", "(IIIII)V"⟩, 50), (⟨"LawsLapseModel", "aliveBehind", "(II)I"⟩, 50), (⟨"LawsLapseModel", "firstOther", "(II)I"⟩, 50), (⟨"LawsLapseModel", "likeSet", "(I)I"⟩, 50), (⟨"LawsLapseModel", "aliveDrawn", "(II)I"⟩, 50)]
theorem lw_r6 : ∀ q ∈ lw_privs_6, lw_okq q := List.forall_mem_cons.mpr ⟨lw_p80, List.forall_mem_cons.mpr ⟨lw_p81, List.forall_mem_cons.mpr ⟨lw_p82, List.forall_mem_cons.mpr ⟨lw_p83, List.forall_mem_cons.mpr ⟨lw_p84, List.forall_mem_cons.mpr ⟨lw_p85, List.forall_mem_cons.mpr ⟨lw_p86, List.forall_mem_cons.mpr ⟨lw_p87, List.forall_mem_cons.mpr ⟨lw_p88, List.forall_mem_cons.mpr ⟨lw_p89, List.forall_mem_cons.mpr ⟨lw_p90, List.forall_mem_cons.mpr ⟨lw_p91, List.forall_mem_cons.mpr ⟨lw_p92, List.forall_mem_cons.mpr ⟨lw_p93, List.forall_mem_cons.mpr ⟨lw_p94, fun _ h => absurd h List.not_mem_nil⟩⟩⟩⟩⟩⟩⟩⟩⟩⟩⟩⟩⟩⟩⟩
def lw_privs : List (MethodName × Nat) := lw_privs_1 ++ (lw_privs_2 ++ (lw_privs_3 ++ (lw_privs_4 ++ (lw_privs_5 ++ (lw_privs_6)))))
def lw_tbl : List Cond := k2_sels lw_privs ++ tables_1
theorem lw_privs_ok : ∀ q ∈ lw_privs, lw_okq q := by
  show ∀ q ∈ lw_privs_1 ++ (lw_privs_2 ++ (lw_privs_3 ++ (lw_privs_4 ++ (lw_privs_5 ++ (lw_privs_6))))), lw_okq q
  exact List.forall_mem_append.mpr ⟨lw_r1, List.forall_mem_append.mpr ⟨lw_r2, List.forall_mem_append.mpr ⟨lw_r3, List.forall_mem_append.mpr ⟨lw_r4, List.forall_mem_append.mpr ⟨lw_r5, lw_r6⟩⟩⟩⟩⟩
end
section
/-! ===== BEGIN printed: names, fields, word lists, decode rows ===== -/
def RX0 : String := "LawsLapse$Republic"
def TX0 : u_T := fun k => match k with
  | 0 => ("LawsLapse$Republic", "texts", "LLawsLapse$Texts;", true)
  | 1 => ("LawsLapse$Republic", "left", "[I", true)
  | 2 => ("LawsLapse$Republic", "alive", "I", false)
  | 3 => ("LawsLapse$Republic", "broken", "I", false)
  | 4 => ("LawsLapse$Republic", "term", "I", false)
  | 5 => ("LawsLapse$Republic", "year", "I", false)
  | 6 => ("LawsLapse$Republic", "cost", "I", false)
  | 7 => ("LawsLapse$Republic", "breaks", "[I", true)
  | 8 => ("LawsLapse$Republic", "harm", "[I", true)
  | 9 => ("LawsLapse$Republic", "people", "I", false)
  | 10 => ("LawsLapse$Republic", "kind", "[I", true)
  | 11 => ("LawsLapse$Republic", "number", "[I", true)
  | 12 => ("LawsLapse$Republic", "sits", "[I", true)
  | 13 => ("LawsLapse$Republic", "served", "[I", true)
  | _ => ("LawsLapse$Republic", "rule", "I", false)
def tyX0 : Nat → FieldType := fun k => match k with
  | 0 => .object "LawsLapse$Texts"
  | 1 => .array .int
  | 2 => .int
  | 3 => .int
  | 4 => .int
  | 5 => .int
  | 6 => .int
  | 7 => .array .int
  | 8 => .array .int
  | 9 => .int
  | 10 => .array .int
  | 11 => .array .int
  | 12 => .array .int
  | 13 => .array .int
  | _ => .int
theorem nmX0 : ∀ a, a < 15 → ∀ b, b < 15 → a ≠ b → (TX0 a).2.1 ≠ (TX0 b).2.1 := by decide +kernel
theorem tyX0_ok : ∀ k, k < 15 → parseFieldDescriptor (TX0 k).2.2.1 = some (tyX0 k) := by decide +kernel
abbrev cX0_init : ByteArray := prog_2_method_1_code
def yX0_init : MethodName := ⟨RX0, "<init>", "(LLawsLapse$Texts;)V"⟩
abbrev cX0_takeFrom : ByteArray := prog_2_method_2_code
def yX0_takeFrom : MethodName := ⟨RX0, "takeFrom", "(LLawsLapse$Republic;)V"⟩
abbrev cX0_valueOf : ByteArray := prog_2_method_3_code
def yX0_valueOf : MethodName := ⟨RX0, "valueOf", "(II)I"⟩
abbrev cX0_put : ByteArray := prog_2_method_4_code
def yX0_put : MethodName := ⟨RX0, "put", "(III)V"⟩
abbrev cX0_putLeft : ByteArray := prog_2_method_5_code
def yX0_putLeft : MethodName := ⟨RX0, "putLeft", "(II)V"⟩
abbrev cX0_add : ByteArray := prog_2_method_6_code
def yX0_add : MethodName := ⟨RX0, "add", "(II)I"⟩
abbrev cX0_dares : ByteArray := prog_2_method_7_code
def yX0_dares : MethodName := ⟨RX0, "dares", "(II)Z"⟩
abbrev cX0_breaksNumber : ByteArray := prog_2_method_8_code
def yX0_breaksNumber : MethodName := ⟨RX0, "breaksNumber", "(II)Z"⟩
abbrev cX0_breaksOnlyLast : ByteArray := prog_2_method_9_code
def yX0_breaksOnlyLast : MethodName := ⟨RX0, "breaksOnlyLast", "(I)Z"⟩
abbrev cX0_costs : ByteArray := prog_2_method_10_code
def yX0_costs : MethodName := ⟨RX0, "costs", "(II)I"⟩
abbrev cX0_sentence : ByteArray := prog_2_method_11_code
def yX0_sentence : MethodName := ⟨RX0, "sentence", "(II)I"⟩
abbrev cX0_costsOrNone : ByteArray := prog_2_method_12_code
def yX0_costsOrNone : MethodName := ⟨RX0, "costsOrNone", "(II)I"⟩
abbrev cX0_otherwise : ByteArray := prog_2_method_13_code
def yX0_otherwise : MethodName := ⟨RX0, "otherwise", "(LLawsLapse$Sheet;I)I"⟩
abbrev cX0_can : ByteArray := prog_2_method_14_code
def yX0_can : MethodName := ⟨RX0, "can", "(II)Z"⟩
abbrev cX0_deedsOf : ByteArray := prog_2_method_15_code
def yX0_deedsOf : MethodName := ⟨RX0, "deedsOf", "(I)I"⟩
abbrev cX0_breakBy : ByteArray := prog_2_method_16_code
def yX0_breakBy : MethodName := ⟨RX0, "breakBy", "(I)V"⟩
abbrev cX0_commit : ByteArray := prog_2_method_17_code
def yX0_commit : MethodName := ⟨RX0, "commit", "(II)V"⟩
abbrev cX0_endYear : ByteArray := prog_2_method_18_code
def yX0_endYear : MethodName := ⟨RX0, "endYear", "()I"⟩
abbrev cX0_passYears : ByteArray := prog_2_method_19_code
def yX0_passYears : MethodName := ⟨RX0, "passYears", "(I)I"⟩
abbrev cX0_firstOfUse : ByteArray := prog_2_method_20_code
def yX0_firstOfUse : MethodName := ⟨RX0, "firstOfUse", "(I)I"⟩
abbrev cX0_drawYears : ByteArray := prog_2_method_21_code
def yX0_drawYears : MethodName := ⟨RX0, "drawYears", "(II)V"⟩
abbrev cX0_next : ByteArray := prog_2_method_22_code
def yX0_next : MethodName := ⟨RX0, "next", "(I)I"⟩
abbrev cX0_harmOf : ByteArray := prog_2_method_23_code
def yX0_harmOf : MethodName := ⟨RX0, "harmOf", "(I)I"⟩
abbrev cX0_brokenBy : ByteArray := prog_2_method_24_code
def yX0_brokenBy : MethodName := ⟨RX0, "brokenBy", "(I)I"⟩
abbrev cX0_leastCover : ByteArray := prog_2_method_25_code
def yX0_leastCover : MethodName := ⟨RX0, "leastCover", "(IZ)I"⟩
abbrev cX0_leastHarm : ByteArray := prog_2_method_26_code
def yX0_leastHarm : MethodName := ⟨RX0, "leastHarm", "(I)I"⟩
def RX1 : String := "LawsLapse$Rota"
def TX1 : u_T := fun k => match k with
  | 0 => ("LawsLapse$Rota", "able", "[I", true)
  | 1 => ("LawsLapse$Rota", "breaks", "[I", true)
  | 2 => ("LawsLapse$Rota", "costsBy", "[I", true)
  | 3 => ("LawsLapse$Rota", "people", "I", false)
  | 4 => ("LawsLapse$Rota", "way", "I", false)
  | 5 => ("LawsLapse$Rota", "laws", "I", false)
  | _ => ("LawsLapse$Rota", "costs", "I", false)
def tyX1 : Nat → FieldType := fun k => match k with
  | 0 => .array .int
  | 1 => .array .int
  | 2 => .array .int
  | 3 => .int
  | 4 => .int
  | 5 => .int
  | _ => .int
theorem nmX1 : ∀ a, a < 7 → ∀ b, b < 7 → a ≠ b → (TX1 a).2.1 ≠ (TX1 b).2.1 := by decide +kernel
theorem tyX1_ok : ∀ k, k < 7 → parseFieldDescriptor (TX1 k).2.2.1 = some (tyX1 k) := by decide +kernel
abbrev cX1_init : ByteArray := prog_3_method_1_code
def yX1_init : MethodName := ⟨RX1, "<init>", "()V"⟩
abbrev cX1_seek : ByteArray := prog_3_method_2_code
def yX1_seek : MethodName := ⟨RX1, "seek", "(LLawsLapse$Republic;)V"⟩
abbrev cX1_place : ByteArray := prog_3_method_3_code
def yX1_place : MethodName := ⟨RX1, "place", "(LLawsLapse$Rota;IIIII)V"⟩
abbrev cX1_weigh : ByteArray := prog_3_method_4_code
def yX1_weigh : MethodName := ⟨RX1, "weigh", "(III)V"⟩
def RX2 : String := "LawsLapse$Sheet"
def TX2 : u_T := fun k => match k with
  | 0 => ("LawsLapse$Sheet", "sort", "I", false)
  | 1 => ("LawsLapse$Sheet", "size", "I", false)
  | _ => ("LawsLapse$Sheet", "cells", "[I", true)
def tyX2 : Nat → FieldType := fun k => match k with
  | 0 => .int
  | 1 => .int
  | _ => .array .int
theorem nmX2 : ∀ a, a < 3 → ∀ b, b < 3 → a ≠ b → (TX2 a).2.1 ≠ (TX2 b).2.1 := by decide +kernel
theorem tyX2_ok : ∀ k, k < 3 → parseFieldDescriptor (TX2 k).2.2.1 = some (tyX2 k) := by decide +kernel
abbrev cX2_init : ByteArray := prog_4_method_1_code
def yX2_init : MethodName := ⟨RX2, "<init>", "()V"⟩
abbrev cX2_become : ByteArray := prog_4_method_2_code
def yX2_become : MethodName := ⟨RX2, "become", "(II)V"⟩
abbrev cX2_has : ByteArray := prog_4_method_3_code
def yX2_has : MethodName := ⟨RX2, "has", "(II)Z"⟩
abbrev cX2_put : ByteArray := prog_4_method_4_code
def yX2_put : MethodName := ⟨RX2, "put", "(II)V"⟩
def RX3 : String := "LawsLapse$Tape"
def TX3 : u_T := fun k => match k with
  | 0 => ("LawsLapse$Tape", "bytes", "[I", true)
  | 1 => ("LawsLapse$Tape", "size", "I", false)
  | 2 => ("LawsLapse$Tape", "place", "I", false)
  | 3 => ("LawsLapse$Tape", "behind", "I", false)
  | 4 => ("LawsLapse$Tape", "token", "I", false)
  | 5 => ("LawsLapse$Tape", "code", "[I", false)
  | _ => ("LawsLapse$Tape", "written", "I", false)
def tyX3 : Nat → FieldType := fun k => match k with
  | 0 => .array .int
  | 1 => .int
  | 2 => .int
  | 3 => .int
  | 4 => .int
  | 5 => .array .int
  | _ => .int
theorem nmX3 : ∀ a, a < 7 → ∀ b, b < 7 → a ≠ b → (TX3 a).2.1 ≠ (TX3 b).2.1 := by decide +kernel
theorem tyX3_ok : ∀ k, k < 7 → parseFieldDescriptor (TX3 k).2.2.1 = some (tyX3 k) := by decide +kernel
abbrev cX3_init : ByteArray := prog_5_method_1_code
def yX3_init : MethodName := ⟨RX3, "<init>", "()V"⟩
abbrev cX3_add : ByteArray := prog_5_method_2_code
def yX3_add : MethodName := ⟨RX3, "add", "(I)V"⟩
abbrev cX3_reads : ByteArray := prog_5_method_3_code
def yX3_reads : MethodName := ⟨RX3, "reads", "([I[I)Z"⟩
abbrev cX3_either : ByteArray := prog_5_method_4_code
def yX3_either : MethodName := ⟨RX3, "either", "(I)Z"⟩
abbrev cX3_both : ByteArray := prog_5_method_5_code
def yX3_both : MethodName := ⟨RX3, "both", "(I)Z"⟩
abbrev cX3_negated : ByteArray := prog_5_method_6_code
def yX3_negated : MethodName := ⟨RX3, "negated", "(I)Z"⟩
abbrev cX3_compared : ByteArray := prog_5_method_7_code
def yX3_compared : MethodName := ⟨RX3, "compared", "(I)Z"⟩
abbrev cX3_sum : ByteArray := prog_5_method_8_code
def yX3_sum : MethodName := ⟨RX3, "sum", "(I)Z"⟩
abbrev cX3_product : ByteArray := prog_5_method_9_code
def yX3_product : MethodName := ⟨RX3, "product", "(I)Z"⟩
abbrev cX3_single : ByteArray := prog_5_method_10_code
def yX3_single : MethodName := ⟨RX3, "single", "(I)Z"⟩
abbrev cX3_bare : ByteArray := prog_5_method_11_code
def yX3_bare : MethodName := ⟨RX3, "bare", "(I)Z"⟩
abbrev cX3_write : ByteArray := prog_5_method_12_code
def yX3_write : MethodName := ⟨RX3, "write", "(I)V"⟩
abbrev cX3_step : ByteArray := prog_5_method_13_code
def yX3_step : MethodName := ⟨RX3, "step", "()V"⟩
abbrev cX3_isLetter : ByteArray := prog_5_method_14_code
def yX3_isLetter : MethodName := ⟨RX3, "isLetter", "(I)Z"⟩
abbrev cX3_isDigit : ByteArray := prog_5_method_15_code
def yX3_isDigit : MethodName := ⟨RX3, "isDigit", "(I)Z"⟩
abbrev cX3_digits : ByteArray := prog_5_method_16_code
def yX3_digits : MethodName := ⟨RX3, "digits", "()I"⟩
abbrev cX3_word : ByteArray := prog_5_method_17_code
def yX3_word : MethodName := ⟨RX3, "word", "()I"⟩
abbrev cX3_spells : ByteArray := prog_5_method_18_code
def yX3_spells : MethodName := ⟨RX3, "spells", "(Ljava/lang/String;)Z"⟩
abbrev cX3_signOf : ByteArray := prog_5_method_19_code
def yX3_signOf : MethodName := ⟨RX3, "signOf", "(I)I"⟩
def RX4 : String := "LawsLapse$Texts"
def TX4 : u_T := fun k => match k with
  | 0 => ("LawsLapse$Texts", "code", "[[I", true)
  | 1 => ("LawsLapse$Texts", "ends", "[[I", true)
  | 2 => ("LawsLapse$Texts", "size", "I", false)
  | _ => ("LawsLapse$Texts", "stack", "[I", true)
def tyX4 : Nat → FieldType := fun k => match k with
  | 0 => .array (.array .int)
  | 1 => .array (.array .int)
  | 2 => .int
  | _ => .array .int
theorem nmX4 : ∀ a, a < 4 → ∀ b, b < 4 → a ≠ b → (TX4 a).2.1 ≠ (TX4 b).2.1 := by decide +kernel
theorem tyX4_ok : ∀ k, k < 4 → parseFieldDescriptor (TX4 k).2.2.1 = some (tyX4 k) := by decide +kernel
abbrev cX4_init : ByteArray := prog_6_method_1_code
def yX4_init : MethodName := ⟨RX4, "<init>", "()V"⟩
abbrev cX4_value : ByteArray := prog_6_method_2_code
def yX4_value : MethodName := ⟨RX4, "value", "(ILLawsLapse$Republic;II)I"⟩
abbrev cX4_fact : ByteArray := prog_6_method_3_code
def yX4_fact : MethodName := ⟨RX4, "fact", "(ILLawsLapse$Republic;II)I"⟩
abbrev cX4_joined : ByteArray := prog_6_method_4_code
def yX4_joined : MethodName := ⟨RX4, "joined", "(III)I"⟩
def RX5 : String := "LawsLapse"
def TX5 : u_T := fun k => match k with
  | 0 => ("LawsLapse", "texts", "LLawsLapse$Texts;", true)
  | 1 => ("LawsLapse", "tape", "LLawsLapse$Tape;", true)
  | 2 => ("LawsLapse", "now", "LLawsLapse$Republic;", true)
  | 3 => ("LawsLapse", "thought", "LLawsLapse$Republic;", true)
  | 4 => ("LawsLapse", "kept", "LLawsLapse$Republic;", true)
  | 5 => ("LawsLapse", "isKept", "Z", false)
  | 6 => ("LawsLapse", "best", "LLawsLapse$Rota;", true)
  | _ => ("LawsLapse", "sheets", "[LLawsLapse$Sheet;", true)
def tyX5 : Nat → FieldType := fun k => match k with
  | 0 => .object "LawsLapse$Texts"
  | 1 => .object "LawsLapse$Tape"
  | 2 => .object "LawsLapse$Republic"
  | 3 => .object "LawsLapse$Republic"
  | 4 => .object "LawsLapse$Republic"
  | 5 => .boolean
  | 6 => .object "LawsLapse$Rota"
  | _ => .array (.object "LawsLapse$Sheet")
theorem nmX5 : ∀ a, a < 8 → ∀ b, b < 8 → a ≠ b → (TX5 a).2.1 ≠ (TX5 b).2.1 := by decide +kernel
theorem tyX5_ok : ∀ k, k < 8 → parseFieldDescriptor (TX5 k).2.2.1 = some (tyX5 k) := by decide +kernel
abbrev cX5_init : ByteArray := prog_1_method_1_code
def yX5_init : MethodName := ⟨RX5, "<init>", "()V"⟩
abbrev cX5_set : ByteArray := prog_1_method_2_code
def yX5_set : MethodName := ⟨RX5, "set", "(III)I"⟩
abbrev cX5_person : ByteArray := prog_1_method_3_code
def yX5_person : MethodName := ⟨RX5, "person", "(II)I"⟩
abbrev cX5_told : ByteArray := prog_1_method_4_code
def yX5_told : MethodName := ⟨RX5, "told", "(II)I"⟩
abbrev cX5_asks : ByteArray := prog_1_method_5_code
def yX5_asks : MethodName := ⟨RX5, "asks", "(III)I"⟩
abbrev cX5_feed : ByteArray := prog_1_method_6_code
def yX5_feed : MethodName := ⟨RX5, "feed", "(I)I"⟩
abbrev cX5_text : ByteArray := prog_1_method_7_code
def yX5_text : MethodName := ⟨RX5, "text", "()I"⟩
abbrev cX5_force : ByteArray := prog_1_method_8_code
def yX5_force : MethodName := ⟨RX5, "force", "(I)I"⟩
abbrev cX5_does : ByteArray := prog_1_method_9_code
def yX5_does : MethodName := ⟨RX5, "does", "(II)I"⟩
abbrev cX5_year : ByteArray := prog_1_method_10_code
def yX5_year : MethodName := ⟨RX5, "year", "()I"⟩
abbrev cX5_run : ByteArray := prog_1_method_11_code
def yX5_run : MethodName := ⟨RX5, "run", "(II)I"⟩
abbrev cX5_lasts : ByteArray := prog_1_method_12_code
def yX5_lasts : MethodName := ⟨RX5, "lasts", "(I)I"⟩
abbrev cX5_cover : ByteArray := prog_1_method_13_code
def yX5_cover : MethodName := ⟨RX5, "cover", "(II)I"⟩
abbrev cX5_rota : ByteArray := prog_1_method_14_code
def yX5_rota : MethodName := ⟨RX5, "rota", "(I)I"⟩
abbrev cX5_saves : ByteArray := prog_1_method_15_code
def yX5_saves : MethodName := ⟨RX5, "saves", "(II)I"⟩
abbrev cX5_letGo : ByteArray := prog_1_method_16_code
def yX5_letGo : MethodName := ⟨RX5, "letGo", "(I)I"⟩
abbrev cX5_share : ByteArray := prog_1_method_17_code
def yX5_share : MethodName := ⟨RX5, "share", "(I)J"⟩
abbrev cX5_tells : ByteArray := prog_1_method_18_code
def yX5_tells : MethodName := ⟨RX5, "tells", "(III)I"⟩
abbrev cX5_film : ByteArray := prog_1_method_19_code
def yX5_film : MethodName := ⟨RX5, "film", "(II)I"⟩
abbrev cX5_drawn : ByteArray := prog_1_method_20_code
def yX5_drawn : MethodName := ⟨RX5, "drawn", "(II)I"⟩
abbrev cX5_chance : ByteArray := prog_1_method_21_code
def yX5_chance : MethodName := ⟨RX5, "chance", "(IIII)J"⟩
abbrev cX5_image : ByteArray := prog_1_method_22_code
def yX5_image : MethodName := ⟨RX5, "image", "()I"⟩
abbrev cX5_back : ByteArray := prog_1_method_23_code
def yX5_back : MethodName := ⟨RX5, "back", "()I"⟩
abbrev cX5_count : ByteArray := prog_1_method_24_code
def yX5_count : MethodName := ⟨RX5, "count", "(I)I"⟩
abbrev cX5_sheet : ByteArray := prog_1_method_25_code
def yX5_sheet : MethodName := ⟨RX5, "sheet", "(III)I"⟩
abbrev cX5_cell : ByteArray := prog_1_method_26_code
def yX5_cell : MethodName := ⟨RX5, "cell", "(III)I"⟩
abbrev cX5_copy : ByteArray := prog_1_method_27_code
def yX5_copy : MethodName := ⟨RX5, "copy", "(IIIII)I"⟩
abbrev cX5_republic : ByteArray := prog_1_method_28_code
def yX5_republic : MethodName := ⟨RX5, "republic", "(IIII)I"⟩
abbrev cX5_taken : ByteArray := prog_1_method_29_code
def yX5_taken : MethodName := ⟨RX5, "taken", "(II)I"⟩
abbrev cX5_within : ByteArray := prog_1_method_30_code
def yX5_within : MethodName := ⟨RX5, "within", "(III)Z"⟩
abbrev cX5_isLaw : ByteArray := prog_1_method_31_code
def yX5_isLaw : MethodName := ⟨RX5, "isLaw", "(I)Z"⟩
abbrev cX5_isDeed : ByteArray := prog_1_method_32_code
def yX5_isDeed : MethodName := ⟨RX5, "isDeed", "(I)Z"⟩
abbrev cX5_isOne : ByteArray := prog_1_method_33_code
def yX5_isOne : MethodName := ⟨RX5, "isOne", "(I)Z"⟩
abbrev cX5_sheetAt : ByteArray := prog_1_method_34_code
def yX5_sheetAt : MethodName := ⟨RX5, "sheetAt", "(I)LLawsLapse$Sheet;"⟩
abbrev cX5_stands : ByteArray := prog_1_method_35_code
def yX5_stands : MethodName := ⟨RX5, "stands", "(II)Z"⟩
abbrev cX5_aliveBehind : ByteArray := prog_1_method_36_code
def yX5_aliveBehind : MethodName := ⟨RX5, "aliveBehind", "(II)I"⟩
abbrev cX5_aliveByDraw : ByteArray := prog_1_method_37_code
def yX5_aliveByDraw : MethodName := ⟨RX5, "aliveByDraw", "(II)I"⟩
abbrev cX5_fittingBits : ByteArray := prog_1_method_38_code
def yX5_fittingBits : MethodName := ⟨RX5, "fittingBits", "(LLawsLapse$Sheet;III)I"⟩
abbrev cX5_howManyFit : ByteArray := prog_1_method_39_code
def yX5_howManyFit : MethodName := ⟨RX5, "howManyFit", "(LLawsLapse$Sheet;II)I"⟩
abbrev cX5_leastFitting : ByteArray := prog_1_method_40_code
def yX5_leastFitting : MethodName := ⟨RX5, "leastFitting", "(LLawsLapse$Sheet;II)I"⟩
abbrev cX5_fittingPeople : ByteArray := prog_1_method_41_code
def yX5_fittingPeople : MethodName := ⟨RX5, "fittingPeople", "(LLawsLapse$Sheet;)I"⟩
abbrev cX5_fraction : ByteArray := prog_1_method_42_code
def yX5_fraction : MethodName := ⟨RX5, "fraction", "(III)J"⟩
abbrev cX5_commonDivisor : ByteArray := prog_1_method_43_code
def yX5_commonDivisor : MethodName := ⟨RX5, "commonDivisor", "(II)I"⟩
def RX6 : String := "LawsLapseModel"
def TX6 : u_T := fun k => match k with
  | 0 => ("LawsLapseModel", "thrown", "I", false)
  | 1 => ("LawsLapseModel", "texts", "[I", true)
  | 2 => ("LawsLapseModel", "textSize", "[I", true)
  | 3 => ("LawsLapseModel", "textCount", "I", false)
  | 4 => ("LawsLapseModel", "rule", "I", false)
  | 5 => ("LawsLapseModel", "tape", "[I", true)
  | 6 => ("LawsLapseModel", "taped", "I", false)
  | 7 => ("LawsLapseModel", "term", "I", false)
  | 8 => ("LawsLapseModel", "yearNow", "I", false)
  | 9 => ("LawsLapseModel", "broken", "I", false)
  | 10 => ("LawsLapseModel", "costNow", "I", false)
  | 11 => ("LawsLapseModel", "left", "[I", true)
  | 12 => ("LawsLapseModel", "breaks", "[I", true)
  | 13 => ("LawsLapseModel", "harm", "[I", true)
  | 14 => ("LawsLapseModel", "rows", "[I", true)
  | 15 => ("LawsLapseModel", "many", "I", false)
  | 16 => ("LawsLapseModel", "ofHarm", "I", false)
  | 17 => ("LawsLapseModel", "ofLaws", "I", false)
  | 18 => ("LawsLapseModel", "ofNumber", "I", false)
  | 19 => ("LawsLapseModel", "ofYear", "I", false)
  | 20 => ("LawsLapseModel", "ofServed", "I", false)
  | 21 => ("LawsLapseModel", "ofAlive", "I", false)
  | 22 => ("LawsLapseModel", "from", "I", false)
  | 23 => ("LawsLapseModel", "size", "I", false)
  | 24 => ("LawsLapseModel", "here", "I", false)
  | 25 => ("LawsLapseModel", "token", "I", false)
  | 26 => ("LawsLapseModel", "tokenAt", "I", false)
  | 27 => ("LawsLapseModel", "tokenWorth", "J", false)
  | 28 => ("LawsLapseModel", "open", "I", false)
  | 29 => ("LawsLapseModel", "bad", "Z", false)
  | 30 => ("LawsLapseModel", "fault", "I", false)
  | 31 => ("LawsLapseModel", "was", "[I", true)
  | 32 => ("LawsLapseModel", "bestRow", "I", false)
  | 33 => ("LawsLapseModel", "bestMany", "I", false)
  | 34 => ("LawsLapseModel", "bestCost", "I", false)
  | 35 => ("LawsLapseModel", "canNow", "[I", true)
  | 36 => ("LawsLapseModel", "rowsKept", "[I", true)
  | 37 => ("LawsLapseModel", "leftKept", "[I", true)
  | 38 => ("LawsLapseModel", "breaksKept", "[I", true)
  | 39 => ("LawsLapseModel", "harmKept", "[I", true)
  | 40 => ("LawsLapseModel", "manyKept", "I", false)
  | 41 => ("LawsLapseModel", "termKept", "I", false)
  | 42 => ("LawsLapseModel", "yearKept", "I", false)
  | 43 => ("LawsLapseModel", "brokenKept", "I", false)
  | 44 => ("LawsLapseModel", "costKept", "I", false)
  | 45 => ("LawsLapseModel", "ruleKept", "I", false)
  | 46 => ("LawsLapseModel", "isThere", "[Z", true)
  | 47 => ("LawsLapseModel", "sorts", "[I", true)
  | 48 => ("LawsLapseModel", "sheetSize", "[I", true)
  | _ => ("LawsLapseModel", "items", "[I", true)
def tyX6 : Nat → FieldType := fun k => match k with
  | 0 => .int
  | 1 => .array .int
  | 2 => .array .int
  | 3 => .int
  | 4 => .int
  | 5 => .array .int
  | 6 => .int
  | 7 => .int
  | 8 => .int
  | 9 => .int
  | 10 => .int
  | 11 => .array .int
  | 12 => .array .int
  | 13 => .array .int
  | 14 => .array .int
  | 15 => .int
  | 16 => .int
  | 17 => .int
  | 18 => .int
  | 19 => .int
  | 20 => .int
  | 21 => .int
  | 22 => .int
  | 23 => .int
  | 24 => .int
  | 25 => .int
  | 26 => .int
  | 27 => .long
  | 28 => .int
  | 29 => .boolean
  | 30 => .int
  | 31 => .array .int
  | 32 => .int
  | 33 => .int
  | 34 => .int
  | 35 => .array .int
  | 36 => .array .int
  | 37 => .array .int
  | 38 => .array .int
  | 39 => .array .int
  | 40 => .int
  | 41 => .int
  | 42 => .int
  | 43 => .int
  | 44 => .int
  | 45 => .int
  | 46 => .array .boolean
  | 47 => .array .int
  | 48 => .array .int
  | _ => .array .int
theorem nmX6 : ∀ a, a < 50 → ∀ b, b < 50 → a ≠ b → (TX6 a).2.1 ≠ (TX6 b).2.1 := by decide +kernel
theorem tyX6_ok : ∀ k, k < 50 → parseFieldDescriptor (TX6 k).2.2.1 = some (tyX6 k) := by decide +kernel
abbrev cX6_in : ByteArray := prog_8_method_2_code
def yX6_in : MethodName := ⟨RX6, "in", "(JJJ)Z"⟩
abbrev cX6_within : ByteArray := prog_8_method_3_code
def yX6_within : MethodName := ⟨RX6, "within", "(III)I"⟩
abbrev cX6_init : ByteArray := prog_8_method_4_code
def yX6_init : MethodName := ⟨RX6, "<init>", "()V"⟩
abbrev cX6_spell : ByteArray := prog_8_method_5_code
def yX6_spell : MethodName := ⟨RX6, "spell", "(IIIIIIIII)V"⟩
abbrev cX6_bitsOf : ByteArray := prog_8_method_6_code
def yX6_bitsOf : MethodName := ⟨RX6, "bitsOf", "(I)I"⟩
abbrev cX6_isOne : ByteArray := prog_8_method_7_code
def yX6_isOne : MethodName := ⟨RX6, "isOne", "(I)Z"⟩
abbrev cX6_isDeed : ByteArray := prog_8_method_8_code
def yX6_isDeed : MethodName := ⟨RX6, "isDeed", "(I)Z"⟩
abbrev cX6_isLaw : ByteArray := prog_8_method_9_code
def yX6_isLaw : MethodName := ⟨RX6, "isLaw", "(I)Z"⟩
abbrev cX6_isOf : ByteArray := prog_8_method_10_code
def yX6_isOf : MethodName := ⟨RX6, "isOf", "(II)Z"⟩
abbrev cX6_mostOf : ByteArray := prog_8_method_11_code
def yX6_mostOf : MethodName := ⟨RX6, "mostOf", "(I)I"⟩
abbrev cX6_set : ByteArray := prog_8_method_12_code
def yX6_set : MethodName := ⟨RX6, "set", "(III)I"⟩
abbrev cX6_lays : ByteArray := prog_8_method_13_code
def yX6_lays : MethodName := ⟨RX6, "lays", "(III)V"⟩
abbrev cX6_person : ByteArray := prog_8_method_14_code
def yX6_person : MethodName := ⟨RX6, "person", "(II)I"⟩
abbrev cX6_told : ByteArray := prog_8_method_15_code
def yX6_told : MethodName := ⟨RX6, "told", "(II)I"⟩
abbrev cX6_alive : ByteArray := prog_8_method_16_code
def yX6_alive : MethodName := ⟨RX6, "alive", "()I"⟩
abbrev cX6_feed : ByteArray := prog_8_method_17_code
def yX6_feed : MethodName := ⟨RX6, "feed", "(I)I"⟩
abbrev cX6_byteAt : ByteArray := prog_8_method_18_code
def yX6_byteAt : MethodName := ⟨RX6, "byteAt", "(I)I"⟩
abbrev cX6_next : ByteArray := prog_8_method_19_code
def yX6_next : MethodName := ⟨RX6, "next", "()V"⟩
abbrev cX6_fail : ByteArray := prog_8_method_20_code
def yX6_fail : MethodName := ⟨RX6, "fail", "()V"⟩
abbrev cX6_isLetter : ByteArray := prog_8_method_21_code
def yX6_isLetter : MethodName := ⟨RX6, "isLetter", "(II)Z"⟩
abbrev cX6_isWord : ByteArray := prog_8_method_22_code
def yX6_isWord : MethodName := ⟨RX6, "isWord", "(IIIIIIII)Z"⟩
abbrev cX6_isSign : ByteArray := prog_8_method_23_code
def yX6_isSign : MethodName := ⟨RX6, "isSign", "(I)Z"⟩
abbrev cX6_opens : ByteArray := prog_8_method_24_code
def yX6_opens : MethodName := ⟨RX6, "opens", "()Z"⟩
abbrev cX6_name : ByteArray := prog_8_method_25_code
def yX6_name : MethodName := ⟨RX6, "name", "()I"⟩
abbrev cX6_atom : ByteArray := prog_8_method_26_code
def yX6_atom : MethodName := ⟨RX6, "atom", "()I"⟩
abbrev cX6_term : ByteArray := prog_8_method_27_code
def yX6_term : MethodName := ⟨RX6, "term", "()I"⟩
abbrev cX6_added : ByteArray := prog_8_method_28_code
def yX6_added : MethodName := ⟨RX6, "added", "()I"⟩
abbrev cX6_not : ByteArray := prog_8_method_29_code
def yX6_not : MethodName := ⟨RX6, "not", "()I"⟩
abbrev cX6_both : ByteArray := prog_8_method_30_code
def yX6_both : MethodName := ⟨RX6, "both", "()I"⟩
abbrev cX6_either : ByteArray := prog_8_method_31_code
def yX6_either : MethodName := ⟨RX6, "either", "()I"⟩
abbrev cX6_part : ByteArray := prog_8_method_32_code
def yX6_part : MethodName := ⟨RX6, "part", "(Z)I"⟩
abbrev cX6_read : ByteArray := prog_8_method_33_code
def yX6_read : MethodName := ⟨RX6, "read", "(II)I"⟩
abbrev cX6_text : ByteArray := prog_8_method_34_code
def yX6_text : MethodName := ⟨RX6, "text", "()I"⟩
abbrev cX6_force : ByteArray := prog_8_method_35_code
def yX6_force : MethodName := ⟨RX6, "force", "(I)I"⟩
abbrev cX6_says : ByteArray := prog_8_method_36_code
def yX6_says : MethodName := ⟨RX6, "says", "(III)I"⟩
abbrev cX6_isLastCall : ByteArray := prog_8_method_37_code
def yX6_isLastCall : MethodName := ⟨RX6, "isLastCall", "(I)Z"⟩
abbrev cX6_dares : ByteArray := prog_8_method_38_code
def yX6_dares : MethodName := ⟨RX6, "dares", "(II)Z"⟩
abbrev cX6_costsOf : ByteArray := prog_8_method_39_code
def yX6_costsOf : MethodName := ⟨RX6, "costsOf", "(II)I"⟩
abbrev cX6_sitsBy : ByteArray := prog_8_method_40_code
def yX6_sitsBy : MethodName := ⟨RX6, "sitsBy", "(II)I"⟩
abbrev cX6_asks : ByteArray := prog_8_method_41_code
def yX6_asks : MethodName := ⟨RX6, "asks", "(III)I"⟩
abbrev cX6_can : ByteArray := prog_8_method_42_code
def yX6_can : MethodName := ⟨RX6, "can", "(II)Z"⟩
abbrev cX6_canSet : ByteArray := prog_8_method_43_code
def yX6_canSet : MethodName := ⟨RX6, "canSet", "(I)I"⟩
abbrev cX6_done : ByteArray := prog_8_method_44_code
def yX6_done : MethodName := ⟨RX6, "done", "(II)V"⟩
abbrev cX6_does : ByteArray := prog_8_method_45_code
def yX6_does : MethodName := ⟨RX6, "does", "(II)I"⟩
abbrev cX6_ends : ByteArray := prog_8_method_46_code
def yX6_ends : MethodName := ⟨RX6, "ends", "()I"⟩
abbrev cX6_year : ByteArray := prog_8_method_47_code
def yX6_year : MethodName := ⟨RX6, "year", "()I"⟩
abbrev cX6_all : ByteArray := prog_8_method_48_code
def yX6_all : MethodName := ⟨RX6, "all", "()I"⟩
abbrev cX6_laysAside : ByteArray := prog_8_method_49_code
def yX6_laysAside : MethodName := ⟨RX6, "laysAside", "()V"⟩
abbrev cX6_laysBack : ByteArray := prog_8_method_50_code
def yX6_laysBack : MethodName := ⟨RX6, "laysBack", "()V"⟩
abbrev cX6_go : ByteArray := prog_8_method_51_code
def yX6_go : MethodName := ⟨RX6, "go", "(I)I"⟩
abbrev cX6_run : ByteArray := prog_8_method_52_code
def yX6_run : MethodName := ⟨RX6, "run", "(II)I"⟩
abbrev cX6_lasts : ByteArray := prog_8_method_53_code
def yX6_lasts : MethodName := ⟨RX6, "lasts", "(I)I"⟩
abbrev cX6_unionOf : ByteArray := prog_8_method_54_code
def yX6_unionOf : MethodName := ⟨RX6, "unionOf", "(I)I"⟩
abbrev cX6_harmOf : ByteArray := prog_8_method_55_code
def yX6_harmOf : MethodName := ⟨RX6, "harmOf", "(I)I"⟩
abbrev cX6_cover : ByteArray := prog_8_method_56_code
def yX6_cover : MethodName := ⟨RX6, "cover", "(II)I"⟩
abbrev cX6_gives : ByteArray := prog_8_method_57_code
def yX6_gives : MethodName := ⟨RX6, "gives", "(IIIII)V"⟩
abbrev cX6_rota : ByteArray := prog_8_method_58_code
def yX6_rota : MethodName := ⟨RX6, "rota", "(I)I"⟩
abbrev cX6_aliveBehind : ByteArray := prog_8_method_59_code
def yX6_aliveBehind : MethodName := ⟨RX6, "aliveBehind", "(II)I"⟩
abbrev cX6_saves : ByteArray := prog_8_method_60_code
def yX6_saves : MethodName := ⟨RX6, "saves", "(II)I"⟩
abbrev cX6_letGo : ByteArray := prog_8_method_61_code
def yX6_letGo : MethodName := ⟨RX6, "letGo", "(I)I"⟩
abbrev cX6_lowest : ByteArray := prog_8_method_62_code
def yX6_lowest : MethodName := ⟨RX6, "lowest", "(JJI)J"⟩
abbrev cX6_share : ByteArray := prog_8_method_63_code
def yX6_share : MethodName := ⟨RX6, "share", "(I)J"⟩
abbrev cX6_firstOther : ByteArray := prog_8_method_64_code
def yX6_firstOther : MethodName := ⟨RX6, "firstOther", "(II)I"⟩
abbrev cX6_likeSet : ByteArray := prog_8_method_65_code
def yX6_likeSet : MethodName := ⟨RX6, "likeSet", "(I)I"⟩
abbrev cX6_tells : ByteArray := prog_8_method_66_code
def yX6_tells : MethodName := ⟨RX6, "tells", "(III)I"⟩
abbrev cX6_film : ByteArray := prog_8_method_67_code
def yX6_film : MethodName := ⟨RX6, "film", "(II)I"⟩
abbrev cX6_aliveDrawn : ByteArray := prog_8_method_68_code
def yX6_aliveDrawn : MethodName := ⟨RX6, "aliveDrawn", "(II)I"⟩
abbrev cX6_drawn : ByteArray := prog_8_method_69_code
def yX6_drawn : MethodName := ⟨RX6, "drawn", "(II)I"⟩
abbrev cX6_chance : ByteArray := prog_8_method_70_code
def yX6_chance : MethodName := ⟨RX6, "chance", "(IIII)J"⟩
abbrev cX6_image : ByteArray := prog_8_method_71_code
def yX6_image : MethodName := ⟨RX6, "image", "()I"⟩
abbrev cX6_back : ByteArray := prog_8_method_72_code
def yX6_back : MethodName := ⟨RX6, "back", "()I"⟩
abbrev cX6_count : ByteArray := prog_8_method_73_code
def yX6_count : MethodName := ⟨RX6, "count", "(I)I"⟩
abbrev cX6_isSheet : ByteArray := prog_8_method_74_code
def yX6_isSheet : MethodName := ⟨RX6, "isSheet", "(I)Z"⟩
abbrev cX6_sheet : ByteArray := prog_8_method_75_code
def yX6_sheet : MethodName := ⟨RX6, "sheet", "(III)I"⟩
abbrev cX6_cell : ByteArray := prog_8_method_76_code
def yX6_cell : MethodName := ⟨RX6, "cell", "(III)I"⟩
abbrev cX6_copy : ByteArray := prog_8_method_77_code
def yX6_copy : MethodName := ⟨RX6, "copy", "(IIIII)I"⟩
abbrev cX6_republic : ByteArray := prog_8_method_78_code
def yX6_republic : MethodName := ⟨RX6, "republic", "(IIII)I"⟩
abbrev cX6_over : ByteArray := prog_8_method_79_code
def yX6_over : MethodName := ⟨RX6, "over", "(I)I"⟩
abbrev cX6_taken : ByteArray := prog_8_method_80_code
def yX6_taken : MethodName := ⟨RX6, "taken", "(II)I"⟩
def RJ6 : String := "java/lang/Integer"
def TJ6 : u_T := fun k => match k with
  | _ => ("", "", "", false)
def tyJ6 : Nat → FieldType := fun k => match k with
  | _ => .int
theorem nmJ6 : ∀ a, a < 0 → ∀ b, b < 0 → a ≠ b → (TJ6 a).2.1 ≠ (TJ6 b).2.1 := by decide +kernel
theorem tyJ6_ok : ∀ k, k < 0 → parseFieldDescriptor (TJ6 k).2.2.1 = some (tyJ6 k) := by decide +kernel
abbrev cJ6_bitCount_0f7a4 : ByteArray := prog_9_method_49_code
def yJ6_bitCount_0f7a4 : MethodName := ⟨RJ6, "bitCount", "(I)I"⟩
def RJ9 : String := "java/lang/Math"
def TJ9 : u_T := fun k => match k with
  | _ => ("", "", "", false)
def tyJ9 : Nat → FieldType := fun k => match k with
  | _ => .int
theorem nmJ9 : ∀ a, a < 0 → ∀ b, b < 0 → a ≠ b → (TJ9 a).2.1 ≠ (TJ9 b).2.1 := by decide +kernel
theorem tyJ9_ok : ∀ k, k < 0 → parseFieldDescriptor (TJ9 k).2.2.1 = some (tyJ9 k) := by decide +kernel
abbrev cJ9_max_7cf53 : ByteArray := prog_10_method_65_code
def yJ9_max_7cf53 : MethodName := ⟨RJ9, "max", "(II)I"⟩
abbrev cJ9_min_7cf53 : ByteArray := prog_10_method_69_code
def yJ9_min_7cf53 : MethodName := ⟨RJ9, "min", "(II)I"⟩
def RJ0 : String := "java/lang/String"
def TJ0 : u_T := fun k => match k with
  | _ => ("", "", "", false)
def tyJ0 : Nat → FieldType := fun k => match k with
  | _ => .int
theorem nmJ0 : ∀ a, a < 0 → ∀ b, b < 0 → a ≠ b → (TJ0 a).2.1 ≠ (TJ0 b).2.1 := by decide +kernel
theorem tyJ0_ok : ∀ k, k < 0 → parseFieldDescriptor (TJ0 k).2.2.1 = some (tyJ0 k) := by decide +kernel
abbrev cJ0_length_8abf5 : ByteArray := prog_11_method_54_code
def yJ0_length_8abf5 : MethodName := ⟨RJ0, "length", "()I"⟩
abbrev cJ0_charAt_5068e : ByteArray := prog_11_method_56_code
def yJ0_charAt_5068e : MethodName := ⟨RJ0, "charAt", "(I)C"⟩
abbrev cJ0_coder_7d493 : ByteArray := prog_11_method_152_code
def yJ0_coder_7d493 : MethodName := ⟨RJ0, "coder", "()B"⟩
abbrev cJ0_isLatin1_aae02 : ByteArray := prog_11_method_154_code
def yJ0_isLatin1_aae02 : MethodName := ⟨RJ0, "isLatin1", "()Z"⟩
abbrev cJ0_checkIndex_df160 : ByteArray := prog_11_method_155_code
def yJ0_checkIndex_df160 : MethodName := ⟨RJ0, "checkIndex", "(II)V"⟩
def RJ1 : String := "java/lang/StringLatin1"
def TJ1 : u_T := fun k => match k with
  | _ => ("", "", "", false)
def tyJ1 : Nat → FieldType := fun k => match k with
  | _ => .int
theorem nmJ1 : ∀ a, a < 0 → ∀ b, b < 0 → a ≠ b → (TJ1 a).2.1 ≠ (TJ1 b).2.1 := by decide +kernel
theorem tyJ1_ok : ∀ k, k < 0 → parseFieldDescriptor (TJ1 k).2.2.1 = some (tyJ1 k) := by decide +kernel
abbrev cJ1_charAt_3b067 : ByteArray := prog_12_method_2_code
def yJ1_charAt_3b067 : MethodName := ⟨RJ1, "charAt", "([BI)C"⟩
def RJ2 : String := "java/lang/StringUTF16"
def TJ2 : u_T := fun k => match k with
  | _ => ("", "", "", false)
def tyJ2 : Nat → FieldType := fun k => match k with
  | _ => .int
theorem nmJ2 : ∀ a, a < 0 → ∀ b, b < 0 → a ≠ b → (TJ2 a).2.1 ≠ (TJ2 b).2.1 := by decide +kernel
theorem tyJ2_ok : ∀ k, k < 0 → parseFieldDescriptor (TJ2 k).2.2.1 = some (tyJ2 k) := by decide +kernel
abbrev cJ2_getChar_3b067 : ByteArray := prog_13_method_5_code
def yJ2_getChar_3b067 : MethodName := ⟨RJ2, "getChar", "([BI)C"⟩
abbrev cJ2_length_9d52b : ByteArray := prog_13_method_6_code
def yJ2_length_9d52b : MethodName := ⟨RJ2, "length", "([B)I"⟩
abbrev cJ2_charAt_3b067 : ByteArray := prog_13_method_83_code
def yJ2_charAt_3b067 : MethodName := ⟨RJ2, "charAt", "([BI)C"⟩
abbrev cJ2_checkIndex_2214a : ByteArray := prog_13_method_91_code
def yJ2_checkIndex_2214a : MethodName := ⟨RJ2, "checkIndex", "(I[B)V"⟩
def RJ10 : String := "java/lang/System"
def TJ10 : u_T := fun k => match k with
  | _ => ("", "", "", false)
def tyJ10 : Nat → FieldType := fun k => match k with
  | _ => .int
theorem nmJ10 : ∀ a, a < 0 → ∀ b, b < 0 → a ≠ b → (TJ10 a).2.1 ≠ (TJ10 b).2.1 := by decide +kernel
theorem tyJ10_ok : ∀ k, k < 0 → parseFieldDescriptor (TJ10 k).2.2.1 = some (tyJ10 k) := by decide +kernel
def RJ3 : String := "jdk/internal/util/Preconditions"
def TJ3 : u_T := fun k => match k with
  | _ => ("", "", "", false)
def tyJ3 : Nat → FieldType := fun k => match k with
  | _ => .int
theorem nmJ3 : ∀ a, a < 0 → ∀ b, b < 0 → a ≠ b → (TJ3 a).2.1 ≠ (TJ3 b).2.1 := by decide +kernel
theorem tyJ3_ok : ∀ k, k < 0 → parseFieldDescriptor (TJ3 k).2.2.1 = some (tyJ3 k) := by decide +kernel
abbrev cJ3_checkIndex_8e157 : ByteArray := prog_15_method_11_code
def yJ3_checkIndex_8e157 : MethodName := ⟨RJ3, "checkIndex", "(IILjava/util/function/BiFunction;)I"⟩
def RL : String := "LawsLapseLaw"
abbrev cL_law : ByteArray := code
def yL_law : MethodName := ⟨RL, "law", "([I)Z"⟩
end
section
/-! ===== THE ABSTRACT MACHINE: blocks of instructions as a function; worlds as a shape and a memory ===== -/
abbrev classes : List vw_C := [(RX0, TX0, 15), (RX1, TX1, 7), (RX2, TX2, 3), (RX3, TX3, 7), (RX4, TX4, 4), (RX5, TX5, 8), (RX6, TX6, 50)]
/-- the memory of a world: ints by place and index; longs; the one raw value -/
abbrev xMem : Type := (Nat → Nat → Int32) × (Nat → Nat → Int64) × Value
/-- a shape: a row a place: (0, class, codes of its fields) or (1, length, _) ints, (2, length, _) booleans, (3, length, places) int rows, (4, length, places) Sheets; codes: 0 int, 1 a long, 2 the raw value, 3 boolean, c + 4 the place c -/
abbrev xSh : Type := List (Nat × Nat × List Nat)
def xUp {α : Type} (f : Nat → α) (q : Nat) (g : α) : Nat → α := fun a => if a = q then g else f a
def xR (ad : Nat → Nat) : Value → Value
  | .ref q => .ref (ad q)
  | v => v
def xV (ad : Nat → Nat) (z : xMem) (q j : Nat) : Nat → Value
  | 0 => .int (z.1 q j)
  | 1 => .long (z.2.1 q j)
  | 2 => z.2.2
  | 3 => .int (z.1 q j)
  | c + 4 => .ref (ad c)
def xFs (g : Nat → Nat → Value) : Nat → List Nat → List Value
  | _, [] => []
  | j, c :: l => g j c :: xFs g (j + 1) l
def xCell (ad : Nat → Nat) (cs : Nat → ClassId) (z : xMem) (q : Nat) (x : Nat × Nat × List Nat) : va_E := match x with
  | (0, ci, fs) => .inr (ci, xFs (xV ad z q) 0 fs)
  | (1, n, _) => .inl (cs 0, (n, .inl (z.1 q)))
  | (2, n, _) => .inl (cs 1, (n, .inl (z.1 q)))
  | (3, n, l) => .inl (cs 2, (n, .inr (.inr (.inr (.inr (fun j => (l[j]?).map ad))))))
  | (_, n, l) => .inl (cs 3, (n, .inr (.inr (.inr (.inr (fun j => (l[j]?).map ad))))))
def xW (ad : Nat → Nat) (cs : Nat → ClassId) (z : xMem) : Nat → xSh → va_W
  | _, [] => []
  | q, x :: l => (ad q, xCell ad cs z q x) :: xW ad cs z (q + 1) l
def xTys (cs : Nat → ClassId) : List (ClassId × FieldType) := [(cs 0, .int), (cs 1, .boolean), (cs 2, .array .int), (cs 3, .object "LawsLapse$Sheet")]
theorem xFs_get (g : Nat → Nat → Value) : ∀ (l : List Nat) (j k : Nat), (xFs g j l)[k]? = (l[k]?).map (g (j + k))
  | [], j, k => by simp [xFs]
  | c :: l, j, 0 => by simp [xFs]
  | c :: l, j, k + 1 => by
    simp only [xFs, List.getElem?_cons_succ]
    rw [xFs_get g l (j + 1) k, show j + 1 + k = j + (k + 1) by omega]
theorem xFs_len (g : Nat → Nat → Value) : ∀ (l : List Nat) (j : Nat), (xFs g j l).length = l.length
  | [], j => rfl
  | c :: l, j => by simp [xFs, xFs_len g l (j + 1)]
theorem xW_get (ad : Nat → Nat) (cs : Nat → ClassId) (z : xMem) : ∀ (l : xSh) (q k : Nat), (xW ad cs z q l)[k]? = (l[k]?).map (fun x => (ad (q + k), xCell ad cs z (q + k) x))
  | [], q, k => by simp [xW]
  | c :: l, q, 0 => by simp [xW]
  | c :: l, q, k + 1 => by
    simp only [xW, List.getElem?_cons_succ]
    rw [xW_get ad cs z l (q + 1) k, show q + 1 + k = q + (k + 1) by omega]
theorem xW_at {ad : Nat → Nat} {cs : Nat → ClassId} {z : xMem} {l : xSh} {k : Nat} {x : Nat × Nat × List Nat} (h : l[k]? = some x) : (xW ad cs z 0 l)[k]? = some (ad k, xCell ad cs z k x) := by
  rw [xW_get, h]; simp
theorem xW_len (ad : Nat → Nat) (cs : Nat → ClassId) (z : xMem) : ∀ (l : xSh) (q : Nat), (xW ad cs z q l).length = l.length
  | [], q => rfl
  | c :: l, q => by simp [xW, xW_len ad cs z l (q + 1)]
/-- a world with one cell's contents changed -/
theorem xW_set {ad : Nat → Nat} {cs : Nat → ClassId} {z z' : xMem} {l : xSh} {k : Nat} {x : Nat × Nat × List Nat} {e : va_E} (h : l[k]? = some x) (he : e = xCell ad cs z' k x) (ho : ∀ q y, q ≠ k → l[q]? = some y → xCell ad cs z' q y = xCell ad cs z q y) : (xW ad cs z 0 l).set k (ad k, e) = xW ad cs z' 0 l := by
  apply List.ext_getElem?
  intro i
  by_cases hi : i = k
  · subst hi
    have hl : i < (xW ad cs z 0 l).length := by rw [xW_len]; exact (List.getElem?_eq_some_iff.mp h).1
    rw [List.getElem?_set_self hl, xW_at h, he]
  · rw [List.getElem?_set_ne (Ne.symm hi), xW_get, xW_get]
    cases hy : l[i]? with
    | none => rfl
    | some y => simp [ho i y hi hy]
theorem xUp_ne {α : Type} {f : Nat → α} {q a : Nat} {g : α} (h : a ≠ q) : xUp f q g a = f a := if_neg h
theorem xUp_eq {α : Type} {f : Nat → α} {q : Nat} {g : α} : xUp f q g q = g := if_pos rfl
theorem xCell_up {ad : Nat → Nat} {cs : Nat → ClassId} {z : xMem} {q a : Nat} {g : Nat → Int32} {x : Nat × Nat × List Nat} (h : a ≠ q) : xCell ad cs (xUp z.1 q g, z.2) a x = xCell ad cs z a x := by
  obtain ⟨t, n, l⟩ := x
  have hv : xV ad (xUp z.1 q g, z.2) a = xV ad z a := by
    funext j c
    match c with
    | 0 => simp [xV, xUp_ne h]
    | 1 => rfl
    | 2 => rfl
    | 3 => simp [xV, xUp_ne h]
    | c + 4 => rfl
  match t with
  | 0 => simp only [xCell, hv]
  | 1 => simp only [xCell, xUp_ne h]
  | 2 => simp only [xCell, xUp_ne h]
  | 3 => rfl
  | _ + 4 => rfl
/-- one int of an object changed -/
theorem xFs_put (ad : Nat → Nat) (z : xMem) (q k : Nat) (v : Int32) (fs : List Nat) (c : Nat) (hc : fs[k]? = some c) (h03 : c = 0 ∨ c = 3) : (xFs (xV ad z q) 0 fs).set k (.int v) = xFs (xV ad (xUp z.1 q (upd (z.1 q) k v), z.2) q) 0 fs := by
  apply List.ext_getElem?
  intro i
  have hl : k < (xFs (xV ad z q) 0 fs).length := by rw [xFs_len]; exact (List.getElem?_eq_some_iff.mp hc).1
  by_cases hi : i = k
  · subst hi
    rw [List.getElem?_set_self hl, xFs_get, hc]
    rcases h03 with rfl | rfl <;> simp [xV, xUp_eq, upd]
  · rw [List.getElem?_set_ne (Ne.symm hi), xFs_get, xFs_get]
    cases hy : fs[i]? with
    | none => rfl
    | some y =>
      match y with
      | 0 => simp [xV, xUp_eq, upd, hi]
      | 1 => rfl
      | 2 => rfl
      | 3 => simp [xV, xUp_eq, upd, hi]
      | c + 4 => rfl
theorem xCell_upL {ad : Nat → Nat} {cs : Nat → ClassId} {z : xMem} {q a : Nat} {g : Nat → Int64} {x : Nat × Nat × List Nat} (h : a ≠ q) : xCell ad cs (z.1, xUp z.2.1 q g, z.2.2) a x = xCell ad cs z a x := by
  obtain ⟨t, n, l⟩ := x
  have hv : xV ad (z.1, xUp z.2.1 q g, z.2.2) a = xV ad z a := by
    funext j c
    match c with
    | 0 => rfl
    | 1 => simp [xV, xUp_ne h]
    | 2 => rfl
    | 3 => rfl
    | c + 4 => rfl
  match t with
  | 0 => simp only [xCell, hv]
  | 1 => rfl
  | 2 => rfl
  | 3 => rfl
  | _ + 4 => rfl
theorem xFs_putL (ad : Nat → Nat) (z : xMem) (q k : Nat) (v : Int64) (fs : List Nat) (hc : fs[k]? = some 1) : (xFs (xV ad z q) 0 fs).set k (.long v) = xFs (xV ad (z.1, xUp z.2.1 q (vp_updL (z.2.1 q) k v), z.2.2) q) 0 fs := by
  apply List.ext_getElem?
  intro i
  have hl : k < (xFs (xV ad z q) 0 fs).length := by rw [xFs_len]; exact (List.getElem?_eq_some_iff.mp hc).1
  by_cases hi : i = k
  · subst hi
    rw [List.getElem?_set_self hl, xFs_get, hc]
    simp [xV, xUp_eq, vp_updL]
  · rw [List.getElem?_set_ne (Ne.symm hi), xFs_get, xFs_get]
    cases hy : fs[i]? with
    | none => rfl
    | some y =>
      match y with
      | 0 => rfl
      | 1 => simp [xV, xUp_eq, vp_updL, hi]
      | 2 => rfl
      | 3 => rfl
      | c + 4 => rfl
end
section
/-- the tables' words that hold in every state that a call can come to -/
def lw_gt : List Cond := lw_tbl.filter goodWord
theorem lw_gt_of {w : Cond} (h : w ∈ lw_tbl) (hg : goodWord w = true) : w ∈ lw_gt := List.mem_filter.mpr ⟨h, hg⟩
theorem lw_mem {i : Nat} {w : Cond} (h : lw_tbl[i]? = some w) (hg : goodWord w = true) : w ∈ lw_gt := lw_gt_of (List.mem_of_getElem? h) hg
theorem lw_u0 : ∀ w ∈ u_ws RX0 TX0 15, w ∈ lw_gt := fun w h => lw_gt_of ((by decide +kernel : ∀ w ∈ u_ws RX0 TX0 15, w ∈ lw_tbl) w h) (List.all_eq_true.mp (by decide +kernel : (u_ws RX0 TX0 15).all goodWord = true) w h)
theorem lw_u1 : ∀ w ∈ u_ws RX1 TX1 7, w ∈ lw_gt := fun w h => lw_gt_of ((by decide +kernel : ∀ w ∈ u_ws RX1 TX1 7, w ∈ lw_tbl) w h) (List.all_eq_true.mp (by decide +kernel : (u_ws RX1 TX1 7).all goodWord = true) w h)
theorem lw_u2 : ∀ w ∈ u_ws RX2 TX2 3, w ∈ lw_gt := fun w h => lw_gt_of ((by decide +kernel : ∀ w ∈ u_ws RX2 TX2 3, w ∈ lw_tbl) w h) (List.all_eq_true.mp (by decide +kernel : (u_ws RX2 TX2 3).all goodWord = true) w h)
theorem lw_u3 : ∀ w ∈ u_ws RX3 TX3 7, w ∈ lw_gt := fun w h => lw_gt_of ((by decide +kernel : ∀ w ∈ u_ws RX3 TX3 7, w ∈ lw_tbl) w h) (List.all_eq_true.mp (by decide +kernel : (u_ws RX3 TX3 7).all goodWord = true) w h)
theorem lw_u4 : ∀ w ∈ u_ws RX4 TX4 4, w ∈ lw_gt := fun w h => lw_gt_of ((by decide +kernel : ∀ w ∈ u_ws RX4 TX4 4, w ∈ lw_tbl) w h) (List.all_eq_true.mp (by decide +kernel : (u_ws RX4 TX4 4).all goodWord = true) w h)
theorem lw_u5 : ∀ w ∈ u_ws RX5 TX5 8, w ∈ lw_gt := fun w h => lw_gt_of ((by decide +kernel : ∀ w ∈ u_ws RX5 TX5 8, w ∈ lw_tbl) w h) (List.all_eq_true.mp (by decide +kernel : (u_ws RX5 TX5 8).all goodWord = true) w h)
theorem lw_u6 : ∀ w ∈ u_ws RX6 TX6 50, w ∈ lw_gt := fun w h => lw_gt_of ((by decide +kernel : ∀ w ∈ u_ws RX6 TX6 50, w ∈ lw_tbl) w h) (List.all_eq_true.mp (by decide +kernel : (u_ws RX6 TX6 50).all goodWord = true) w h)
/-- a class of the worlds: its words, its fields' types and names -/
theorem lw_cls {a : Nat} {C : String} {T : u_T} {N : Nat} (h : classes[a]? = some (C, T, N)) : (∀ w ∈ u_ws C T N, w ∈ lw_gt) ∧ (∃ ty : Nat → FieldType, ∀ k, k < N → parseFieldDescriptor (T k).2.2.1 = some (ty k)) ∧ (∀ i, i < N → ∀ j, j < N → i ≠ j → (T i).2.1 ≠ (T j).2.1) := by
  match a, h with
  | 0, h => cases h; exact ⟨lw_u0, ⟨tyX0, tyX0_ok⟩, nmX0⟩
  | 1, h => cases h; exact ⟨lw_u1, ⟨tyX1, tyX1_ok⟩, nmX1⟩
  | 2, h => cases h; exact ⟨lw_u2, ⟨tyX2, tyX2_ok⟩, nmX2⟩
  | 3, h => cases h; exact ⟨lw_u3, ⟨tyX3, tyX3_ok⟩, nmX3⟩
  | 4, h => cases h; exact ⟨lw_u4, ⟨tyX4, tyX4_ok⟩, nmX4⟩
  | 5, h => cases h; exact ⟨lw_u5, ⟨tyX5, tyX5_ok⟩, nmX5⟩
  | 6, h => cases h; exact ⟨lw_u6, ⟨tyX6, tyX6_ok⟩, nmX6⟩
  | a + 7, h => simp [classes] at h
end
section
/-! one instruction as a function: an instruction with its place, what a program resolved of it (word, class, field, kind) and its constant -/
abbrev xI : Type := Nat × Instr × (Nat × Nat × Nat × Nat) × Int32 × Int64
abbrev xLv : Type := List (Nat × Value)
abbrev xFr : Type := Nat × xLv × List Value × xMem
def xAll : List Prop → Prop
  | [] => True
  | [p] => p
  | p :: q :: l => p ∧ xAll (q :: l)
def xLd (lv : xLv) (i : Nat) : Option Value := (lv.find? (fun q => q.1 == i)).map (fun q => q.2)
def xSt1 (lv : xLv) (i : Nat) (v : Value) : xLv := (i, v) :: lv.filter (fun q => !(q.1 == i) && !(q.1 + 1 == i && q.2.category == 2))
def xSt2 (lv : xLv) (i : Nat) (v : Value) : xLv := (i, v) :: lv.filter (fun q => !(q.1 == i) && (!(q.1 == i + 1) && !(q.1 + 1 == i && q.2.category == 2)))
abbrev xRes : Type := List Prop × xFr
def xP1i (st : List Value) (f : Int32 → List Value → Option xRes) : Option xRes := match st with
  | .int x :: r => f x r
  | _ => none
def xP2i (st : List Value) (f : Int32 → Int32 → List Value → Option xRes) : Option xRes := match st with
  | .int y :: .int x :: r => f x y r
  | _ => none
def xP1l (st : List Value) (f : Int64 → List Value → Option xRes) : Option xRes := match st with
  | .long x :: r => f x r
  | _ => none
def xP2l (st : List Value) (f : Int64 → Int64 → List Value → Option xRes) : Option xRes := match st with
  | .long y :: .long x :: r => f x y r
  | _ => none
def xP1a (st : List Value) (f : Nat → List Value → Option xRes) : Option xRes := match st with
  | .ref q :: r => f q r
  | _ => none
def xPai (st : List Value) (f : Nat → Int32 → List Value → Option xRes) : Option xRes := match st with
  | .int x :: .ref q :: r => f q x r
  | _ => none
def xPaii (st : List Value) (f : Nat → Int32 → Int32 → List Value → Option xRes) : Option xRes := match st with
  | .int x :: .int i :: .ref q :: r => f q i x r
  | _ => none
theorem xP1i_of {st : List Value} {f : Int32 → List Value → Option xRes} {r : xRes} (h : xP1i st f = some r) : ∃ x s, st = .int x :: s ∧ f x s = some r := by
  unfold xP1i at h; split at h
  · exact ⟨_, _, rfl, h⟩
  · cases h
theorem xP2i_of {st : List Value} {f : Int32 → Int32 → List Value → Option xRes} {r : xRes} (h : xP2i st f = some r) : ∃ x y s, st = .int y :: .int x :: s ∧ f x y s = some r := by
  unfold xP2i at h; split at h
  · exact ⟨_, _, _, rfl, h⟩
  · cases h
theorem xP1l_of {st : List Value} {f : Int64 → List Value → Option xRes} {r : xRes} (h : xP1l st f = some r) : ∃ x s, st = .long x :: s ∧ f x s = some r := by
  unfold xP1l at h; split at h
  · exact ⟨_, _, rfl, h⟩
  · cases h
theorem xP2l_of {st : List Value} {f : Int64 → Int64 → List Value → Option xRes} {r : xRes} (h : xP2l st f = some r) : ∃ x y s, st = .long y :: .long x :: s ∧ f x y s = some r := by
  unfold xP2l at h; split at h
  · exact ⟨_, _, _, rfl, h⟩
  · cases h
theorem xP1a_of {st : List Value} {f : Nat → List Value → Option xRes} {r : xRes} (h : xP1a st f = some r) : ∃ x s, st = .ref x :: s ∧ f x s = some r := by
  unfold xP1a at h; split at h
  · exact ⟨_, _, rfl, h⟩
  · cases h
theorem xPai_of {st : List Value} {f : Nat → Int32 → List Value → Option xRes} {r : xRes} (h : xPai st f = some r) : ∃ q x s, st = .int x :: .ref q :: s ∧ f q x s = some r := by
  unfold xPai at h; split at h
  · exact ⟨_, _, _, rfl, h⟩
  · cases h
theorem xPaii_of {st : List Value} {f : Nat → Int32 → Int32 → List Value → Option xRes} {r : xRes} (h : xPaii st f = some r) : ∃ q i x s, st = .int x :: .int i :: .ref q :: s ∧ f q i x s = some r := by
  unfold xPaii at h; split at h
  · exact ⟨_, _, _, _, rfl, h⟩
  · cases h
/-- a constant of the kind that the instruction takes, or a load -/
def xPush (pc : Nat) (lv : xLv) (st : List Value) (z : xMem) (v : Value) : Option xRes := some ([], pc, lv, v :: st, z)
def xLoad (pc : Nat) (lv : xLv) (st : List Value) (z : xMem) (i : Nat) (k : Nat) : Option xRes := match xLd lv i, k with
  | some (.int x), 0 => some ([], pc, lv, .int x :: st, z)
  | some (.ref x), 1 => some ([], pc, lv, .ref x :: st, z)
  | some .null, 1 => some ([], pc, lv, .null :: st, z)
  | some (.long x), 2 => some ([], pc, lv, .long x :: st, z)
  | _, _ => none
def xStore (nL : Nat) (pc : Nat) (lv : xLv) (st : List Value) (z : xMem) (i : Nat) (k : Nat) : Option xRes := match st, k with
  | .int x :: r, 0 => if i < nL then some ([], pc, xSt1 lv i (.int x), r, z) else none
  | .ref x :: r, 1 => if i < nL then some ([], pc, xSt1 lv i (.ref x), r, z) else none
  | .null :: r, 1 => if i < nL then some ([], pc, xSt1 lv i .null, r, z) else none
  | .long x :: r, 2 => if i + 1 < nL then some ([], pc, xSt2 lv i (.long x), r, z) else none
  | _, _ => none
/-- the tables: static int rows that nobody writes -/
def xTabL (k : Nat) : List Int32 := match k with
  | 0 => [0, 1, 0, 0, 0, 0, 0, 0]
  | 1 => [9, 9, 999, 255, 99, 9, 99, 99]
  | _ => [-1, 0, 0, 1, 2, 0]
def xTab (k : Nat) (j : Nat) : Int32 := (xTabL k).getD j 0
def xTabN (k : Nat) : Nat := match k with
  | 0 => 8
  | 1 => 8
  | _ => 6
def xGet (sh : xSh) (pc : Nat) (lv : xLv) (z : xMem) (a b q : Nat) (r : List Value) : Option xRes := match sh[q]? with
  | some (0, ci, fs) => if ci = a then match fs[b]? with
    | some 0 => some ([], pc, lv, .int (z.1 q b) :: r, z)
    | some 3 => some ([], pc, lv, .int (z.1 q b) :: r, z)
    | some 1 => some ([], pc, lv, .long (z.2.1 q b) :: r, z)
    | some (c + 4) => some ([], pc, lv, .ref c :: r, z)
    | _ => none
    else none
  | _ => none
def xPut (sh : xSh) (pc : Nat) (lv : xLv) (z : xMem) (a b t q : Nat) (v : Value) (r : List Value) : Option xRes := match sh[q]? with
  | some (0, ci, fs) => if ci = a then match fs[b]?, t, v with
    | some 0, 0, .int x => some ([], pc, lv, r, (xUp z.1 q (upd (z.1 q) b x), z.2))
    | some 3, 3, .int x => some ([x = 0 ∨ x = 1], pc, lv, r, (xUp z.1 q (upd (z.1 q) b x), z.2))
    | some 1, 1, .long x => some ([], pc, lv, r, (z.1, xUp z.2.1 q (vp_updL (z.2.1 q) b x), z.2.2))
    | _, _, _ => none
    else none
  | _ => none
def xIald (sh : xSh) (pc : Nat) (lv : xLv) (z : xMem) (q : Nat) (i : Int32) (r : List Value) : Option xRes := match sh[q]? with
  | some (1, n, _) => some ([vp_in i n], pc, lv, .int (z.1 q i.toNatClampNeg) :: r, z)
  | some _ => none
  | none => if q = 1000 ∨ q = 1001 ∨ q = 1002 then some ([vp_in i (xTabN (q - 1000))], pc, lv, .int (xTab (q - 1000) i.toNatClampNeg) :: r, z) else none
def xBald (sh : xSh) (pc : Nat) (lv : xLv) (z : xMem) (q : Nat) (i : Int32) (r : List Value) : Option xRes := match sh[q]? with
  | some (2, n, _) => some ([vp_in i n], pc, lv, .int (z.1 q i.toNatClampNeg) :: r, z)
  | _ => none
def xIast (sh : xSh) (pc : Nat) (lv : xLv) (z : xMem) (q : Nat) (i x : Int32) (r : List Value) : Option xRes := match sh[q]? with
  | some (1, n, _) => some ([vp_in i n], pc, lv, r, (xUp z.1 q (upd (z.1 q) i.toNatClampNeg x), z.2))
  | _ => none
def xBast (sh : xSh) (pc : Nat) (lv : xLv) (z : xMem) (q : Nat) (i x : Int32) (r : List Value) : Option xRes := match sh[q]? with
  | some (2, n, _) => some ([vp_in i n, x = 0 ∨ x = 1], pc, lv, r, (xUp z.1 q (upd (z.1 q) i.toNatClampNeg x), z.2))
  | _ => none
def xAald (sh : xSh) (pc : Nat) (lv : xLv) (z : xMem) (q : Nat) (i : Int32) (r : List Value) : Option xRes := match sh[q]? with
  | some (3, n, l) => match l[i.toNatClampNeg]? with
    | some a => some ([vp_in i n], pc, lv, .ref a :: r, z)
    | none => none
  | some (4, n, l) => match l[i.toNatClampNeg]? with
    | some a => some ([vp_in i n], pc, lv, .ref a :: r, z)
    | none => none
  | _ => none
def xAlen (sh : xSh) (pc : Nat) (lv : xLv) (z : xMem) (v : Int32) (q : Nat) (r : List Value) : Option xRes := match sh[q]? with
  | some (1, n, _) => if Int32.ofNat n = v then some ([], pc, lv, .int v :: r, z) else none
  | _ => none
def xTg (pc : Nat) (off : Int) : Nat := ((pc : Int) + off).toNat
def xGo (pc : Nat) (lv : xLv) (st : List Value) (z : xMem) (off : Int) : Option xRes := if 0 ≤ (pc : Int) + off then some ([], xTg pc off, lv, st, z) else none
def xCopy (sh : xSh) (pc : Nat) (lv : xLv) (z : xMem) (st : List Value) : Option xRes := match st with
  | [.int n, .int dp, .ref q1, .int sp, .ref q0] => match sh[q0]?, sh[q1]? with
    | some (1, n0, _), some (1, n1, _) => some ([¬ sp < 0, ¬ dp < 0, ¬ n < 0, sp.toNatClampNeg + n.toNatClampNeg ≤ n0, dp.toNatClampNeg + n.toNatClampNeg ≤ n1], pc, lv, [], (xUp z.1 q1 (va_cpy (z.1 q0) (z.1 q1) sp.toNatClampNeg dp.toNatClampNeg n.toNatClampNeg), z.2))
    | _, _ => none
  | _ => none
/-- one instruction: what must hold, and the frame behind it -/
def xS1 (sh : xSh) (nL : Nat) (x : xI) (lv : xLv) (st : List Value) (z : xMem) : Option xRes := match x with
  | (pc, i, (w, a, b, t), v, u) => match i with
    | .iconst _ => xPush (pc + 1) lv st z (.int v)
    | .bipush _ => xPush (pc + 2) lv st z (.int v)
    | .sipush _ => xPush (pc + 3) lv st z (.int v)
    | .lconst _ => xPush (pc + 1) lv st z (.long u)
    | .ldc _ => if a = 0 then xPush (pc + 2) lv st z (.int v) else xPush (pc + 2) lv st z (.ref (2000 + b))
    | .ldc_w _ => xPush (pc + 3) lv st z (.int v)
    | .ldc2_w _ => xPush (pc + 3) lv st z (.long u)
    | .aconst_null => xPush (pc + 1) lv st z .null
    | .iload_n k => xLoad (pc + 1) lv st z k 0
    | .iload k => xLoad (pc + 2) lv st z k 0
    | .aload_n k => xLoad (pc + 1) lv st z k 1
    | .aload k => xLoad (pc + 2) lv st z k 1
    | .lload_n k => xLoad (pc + 1) lv st z k 2
    | .lload k => xLoad (pc + 2) lv st z k 2
    | .istore_n k => xStore nL (pc + 1) lv st z k 0
    | .istore k => xStore nL (pc + 2) lv st z k 0
    | .astore_n k => xStore nL (pc + 1) lv st z k 1
    | .astore k => xStore nL (pc + 2) lv st z k 1
    | .lstore_n k => xStore nL (pc + 1) lv st z k 2
    | .lstore k => xStore nL (pc + 2) lv st z k 2
    | .iinc k _ => match xLd lv k with
      | some (.int y) => if k < nL then some ([], pc + 3, xSt1 lv k (.int (y + v)), st, z) else none
      | _ => none
    | .iadd => xP2i st fun x y r => some ([], pc + 1, lv, .int (x + y) :: r, z)
    | .isub => xP2i st fun x y r => some ([], pc + 1, lv, .int (x - y) :: r, z)
    | .imul => xP2i st fun x y r => some ([], pc + 1, lv, .int (x * y) :: r, z)
    | .iand => xP2i st fun x y r => some ([], pc + 1, lv, .int (x &&& y) :: r, z)
    | .ior => xP2i st fun x y r => some ([], pc + 1, lv, .int (x ||| y) :: r, z)
    | .ixor => xP2i st fun x y r => some ([], pc + 1, lv, .int (x ^^^ y) :: r, z)
    | .idiv => xP2i st fun x y r => some ([¬ y = 0], pc + 1, lv, .int (x / y) :: r, z)
    | .irem => xP2i st fun x y r => some ([¬ y = 0], pc + 1, lv, .int (x - x / y * y) :: r, z)
    | .ishl => xP2i st fun x y r => some ([], pc + 1, lv, .int (x <<< (y &&& 31)) :: r, z)
    | .ishr => xP2i st fun x y r => some ([], pc + 1, lv, .int (x >>> (y &&& 31)) :: r, z)
    | .iushr => xP2i st fun x y r => some ([], pc + 1, lv, .int ((x.toUInt32 >>> (y.toUInt32 &&& Int32.toUInt32 31)).toInt32) :: r, z)
    | .ineg => xP1i st fun x r => some ([], pc + 1, lv, .int (-x) :: r, z)
    | .i2l => xP1i st fun x r => some ([], pc + 1, lv, .long x.toInt64 :: r, z)
    | .i2b => xP1i st fun x r => some ([], pc + 1, lv, .int x.toInt8.toInt32 :: r, z)
    | .i2s => xP1i st fun x r => some ([], pc + 1, lv, .int x.toInt16.toInt32 :: r, z)
    | .l2i => xP1l st fun x r => some ([], pc + 1, lv, .int x.toInt32 :: r, z)
    | .ladd => xP2l st fun x y r => some ([], pc + 1, lv, .long (x + y) :: r, z)
    | .lsub => xP2l st fun x y r => some ([], pc + 1, lv, .long (x - y) :: r, z)
    | .lmul => xP2l st fun x y r => some ([], pc + 1, lv, .long (x * y) :: r, z)
    | .ldiv => xP2l st fun x y r => some ([¬ y = 0], pc + 1, lv, .long (x / y) :: r, z)
    | .lrem => xP2l st fun x y r => some ([¬ y = 0], pc + 1, lv, .long (x - x / y * y) :: r, z)
    | .lcmp => xP2l st fun x y r => some ([], pc + 1, lv, .int (lg_cmp x y) :: r, z)
    | .dup => match st with
      | .int x :: r => some ([], pc + 1, lv, .int x :: .int x :: r, z)
      | .ref x :: r => some ([], pc + 1, lv, .ref x :: .ref x :: r, z)
      | _ => none
    | .dup2 => match st with
      | .int x :: .ref y :: r => some ([], pc + 1, lv, .int x :: .ref y :: .int x :: .ref y :: r, z)
      | _ => none
    | .pop => match st with
      | .int x :: r => some ([], pc + 1, lv, r, z)
      | .ref x :: r => some ([], pc + 1, lv, r, z)
      | _ => none
    | .goto off => xGo pc lv st z off
    | .ifnull off => match st with
      | .ref _ :: r => some ([], pc + 3, lv, r, z)
      | .null :: r => xGo pc lv r z off
      | _ => none
    | .ifnonnull off => match st with
      | .null :: r => some ([], pc + 3, lv, r, z)
      | .ref _ :: r => xGo pc lv r z off
      | _ => none
    | .getfield _ => xP1a st fun q r => xGet sh (pc + 3) lv z a b q r
    | .putfield _ => match st with
      | v :: .ref q :: r => xPut sh (pc + 3) lv z a b t q v r
      | _ => none
    | .getstatic _ => if a < 3 then xPush (pc + 3) lv st z (.ref (1000 + a)) else none
    | .iaload => xPai st fun q i r => xIald sh (pc + 1) lv z q i r
    | .iastore => xPaii st fun q i x r => xIast sh (pc + 1) lv z q i x r
    | .baload => xPai st fun q i r => xBald sh (pc + 1) lv z q i r
    | .bastore => xPaii st fun q i x r => xBast sh (pc + 1) lv z q i x r
    | .aaload => xPai st fun q i r => xAald sh (pc + 1) lv z q i r
    | .arraylength => xP1a st fun q r => xAlen sh (pc + 1) lv z v q r
    | .invokestatic _ => match a with
      | 0 => xP2i st fun x y r => if (r.map Value.category).sum ≤ 8 then some ([], pc + 3, lv, .int (if x < y then y else x) :: r, z) else none
      | 1 => xP2i st fun x y r => if (r.map Value.category).sum ≤ 8 then some ([], pc + 3, lv, .int (if y < x then y else x) :: r, z) else none
      | 2 => xCopy sh (pc + 3) lv z st
      | _ => none
    | _ => none
def xRun (sh : xSh) (nL : Nat) : List xI → Nat → xLv → List Value → xMem → Option xRes
  | [], pc, lv, st, z => some ([], pc, lv, st, z)
  | x :: l, pc, lv, st, z => if x.1 = pc then match xS1 sh nL x lv st z with
    | some (p, pc', lv', st', z') => match xRun sh nL l pc' lv' st' z' with
      | some (p2, fr) => some (p ++ p2, fr)
      | none => none
    | none => none
    else none
/-- what a program looked up of an instruction, checked -/
def xOkI (own : String) (i : Instr) (x : Nat × Nat × Nat × Nat) (v : Int32) (u : Int64) : Bool := match i, x with
  | .iconst k, _ => decide (Int32.ofInt k = v)
  | .bipush k, _ => decide ((Int8.ofInt k).toInt32 = v)
  | .sipush k, _ => decide ((Int16.ofInt k).toInt32 = v)
  | .lconst k, _ => decide (Int64.ofNat (k : Nat) = u)
  | .iinc _ k, _ => decide (Int32.ofInt k = v)
  | .ldc ix, (w, a, b, _) => if a = 0 then decide (lw_tbl[w]? = some (.constant own ix v)) else decide (own = RX3 ∧ b < 12 ∧ lw_tbl[w]? = some (.stringRef own ix (["harm", "laws", "number", "year", "served", "alive", "dares", "harms", "sits", "or", "and", "not"].getD b "")))
  | .ldc_w ix, (w, _, _, _) => decide (lw_tbl[w]? = some (.constant own ix v))
  | .ldc2_w ix, (w, _, _, _) => decide (lw_tbl[w]? = some (.constantLong own ix u))
  | .getfield ix, (w, a, b, _) => match classes[a]? with
    | some (_, T, N) => decide (b < N) && (decide (lw_tbl[w]? = some (.fieldLink own ix (T b).1 (T b).2.1 (T b).2.2.1)) || decide (lw_tbl[w]? = some (.fieldLinkNest own ix (T b).1 (T b).2.1 (T b).2.2.1 "LawsLapse")))
    | none => false
  | .putfield ix, (w, a, b, t) => match classes[a]? with
    | some (_, T, N) => decide (b < N) && (decide (lw_tbl[w]? = some (.fieldLink own ix (T b).1 (T b).2.1 (T b).2.2.1)) || decide (lw_tbl[w]? = some (.fieldLinkNest own ix (T b).1 (T b).2.1 (T b).2.2.1 "LawsLapse"))) && !(T b).2.2.2 && decide (parseFieldDescriptor (T b).2.2.1 = some (match t with | 0 => .int | 1 => .long | 9 => .array .int | _ => .boolean))
    | none => false
  | .getstatic ix, (w, a, _, _) => decide (own = RX5 ∧ a < 3 ∧ lw_tbl[w]? = some (.fieldLink own ix "LawsLapse" (["LOWEST", "HIGHEST", "PARENT"].getD a "") "[I"))
  | .invokestatic ix, (w, a, _, _) => match a with
    | 0 => decide (lw_tbl[w]? = some (.methodLink own ix Lib.Math.max.name))
    | 1 => decide (lw_tbl[w]? = some (.methodLink own ix Lib.Math.min.name))
    | 2 => decide (lw_tbl[w]? = some (.methodLink own ix arraycopyName))
    | _ => true
  | _, _ => true
def xLen (pc : Nat) : Instr → Nat
  | .tableswitch _ _ _ offs => 1 + (3 - pc % 4) + 12 + 4 * offs.size
  | .lookupswitch _ ps => 1 + (3 - pc % 4) + 8 + 8 * ps.size
  | .bipush _ => 2
  | .ldc _ => 2
  | .iload _ => 2
  | .aload _ => 2
  | .lload _ => 2
  | .istore _ => 2
  | .astore _ => 2
  | .lstore _ => 2
  | .newarray _ => 2
  | .sipush _ => 3
  | .ldc_w _ => 3
  | .ldc2_w _ => 3
  | .iinc _ _ => 3
  | .goto _ => 3
  | .ifnull _ => 3
  | .ifnonnull _ => 3
  | .ifCond _ _ => 3
  | .if_icmp _ _ => 3
  | .getfield _ => 3
  | .putfield _ => 3
  | .getstatic _ => 3
  | .invokestatic _ => 3
  | .invokevirtual _ => 3
  | .invokespecial _ => 3
  | .new _ => 3
  | .anewarray _ => 3
  | .multianewarray _ _ => 4
  | _ => 1
/-- an instruction of a method's code, at its place, looked up rightly -/
def xOk (own : String) (cc : ByteArray) (x : xI) : Bool := decide (decode cc x.1 = .ok (x.2.1, xLen x.1 x.2.1)) && xOkI own x.2.1 x.2.2.1 x.2.2.2.1 x.2.2.2.2
theorem xOk_d {own : String} {cc : ByteArray} {x : xI} (h : xOk own cc x = true) : decode cc x.1 = .ok (x.2.1, xLen x.1 x.2.1) := by
  simp only [xOk, Bool.and_eq_true, decide_eq_true_eq] at h
  exact h.1
theorem xOk_i {own : String} {cc : ByteArray} {x : xI} (h : xOk own cc x = true) : xOkI own x.2.1 x.2.2.1 x.2.2.2.1 x.2.2.2.2 = true := by
  simp only [xOk, Bool.and_eq_true, decide_eq_true_eq] at h
  exact h.2
end
section
/-! shapes of the worlds -/
def shM : xSh := [(0, 6, [0, 5, 6, 0, 0, 7, 0, 0, 0, 0, 0, 8, 9, 10, 11, 0, 0, 0, 0, 0, 0, 0, 0, 0, 0, 0, 0, 1, 0, 3, 0, 12, 0, 0, 0, 13, 14, 15, 16, 17, 0, 0, 0, 0, 0, 0, 18, 19, 20, 21]), (1, 960, []), (1, 6, []), (1, 160, []), (1, 8, []), (1, 10, []), (1, 10, []), (1, 16, []), (1, 27, []), (1, 4, []), (1, 16, []), (1, 8, []), (1, 10, []), (1, 10, []), (2, 4, []), (1, 4, []), (1, 4, []), (1, 160, [])]
def shR : xSh := [(0, 0, [12, 5, 0, 0, 0, 0, 0, 6, 7, 0, 8, 9, 10, 11, 0]), (1, 8, []), (1, 10, []), (1, 10, []), (1, 4, []), (1, 4, []), (1, 4, []), (1, 4, []), (0, 4, [13, 14, 0, 27]), (3, 6, [11, 12, 13, 14, 15, 16]), (3, 6, [17, 18, 19, 20, 21, 22]), (1, 160, []), (1, 160, []), (1, 160, []), (1, 160, []), (1, 160, []), (1, 160, []), (1, 3, []), (1, 3, []), (1, 3, []), (1, 3, []), (1, 3, []), (1, 3, []), (1, 160, [])]
def shRR : xSh := [(0, 0, [20, 5, 0, 0, 0, 0, 0, 6, 7, 0, 8, 9, 10, 11, 0]), (1, 8, []), (1, 10, []), (1, 10, []), (1, 4, []), (1, 4, []), (1, 4, []), (1, 4, []), (0, 0, [20, 13, 0, 0, 0, 0, 0, 14, 15, 0, 16, 17, 18, 19, 0]), (1, 8, []), (1, 10, []), (1, 10, []), (1, 4, []), (1, 4, []), (1, 4, []), (1, 4, []), (0, 4, [21, 22, 0, 35]), (3, 6, [19, 20, 21, 22, 23, 24]), (3, 6, [25, 26, 27, 28, 29, 30]), (1, 160, []), (1, 160, []), (1, 160, []), (1, 160, []), (1, 160, []), (1, 160, []), (1, 3, []), (1, 3, []), (1, 3, []), (1, 3, []), (1, 3, []), (1, 3, []), (1, 160, [])]
def shS : xSh := [(0, 2, [0, 0, 5]), (1, 40, [])]
def shRS : xSh := [(0, 0, [12, 5, 0, 0, 0, 0, 0, 6, 7, 0, 8, 9, 10, 11, 0]), (1, 8, []), (1, 10, []), (1, 10, []), (1, 4, []), (1, 4, []), (1, 4, []), (1, 4, []), (0, 4, [13, 14, 0, 27]), (3, 6, [11, 12, 13, 14, 15, 16]), (3, 6, [17, 18, 19, 20, 21, 22]), (1, 160, []), (1, 160, []), (1, 160, []), (1, 160, []), (1, 160, []), (1, 160, []), (1, 3, []), (1, 3, []), (1, 3, []), (1, 3, []), (1, 3, []), (1, 3, []), (1, 160, []), (0, 2, [0, 0, 29]), (1, 40, [])]
def shRo : xSh := [(0, 1, [5, 6, 7, 0, 0, 0, 0]), (1, 4, []), (1, 10, []), (1, 40, [])]
def shRRo : xSh := [(0, 0, [12, 5, 0, 0, 0, 0, 0, 6, 7, 0, 8, 9, 10, 11, 0]), (1, 8, []), (1, 10, []), (1, 10, []), (1, 4, []), (1, 4, []), (1, 4, []), (1, 4, []), (0, 4, [13, 14, 0, 27]), (3, 6, [11, 12, 13, 14, 15, 16]), (3, 6, [17, 18, 19, 20, 21, 22]), (1, 160, []), (1, 160, []), (1, 160, []), (1, 160, []), (1, 160, []), (1, 160, []), (1, 3, []), (1, 3, []), (1, 3, []), (1, 3, []), (1, 3, []), (1, 3, []), (1, 160, []), (0, 1, [29, 30, 31, 0, 0, 0, 0]), (1, 4, []), (1, 10, []), (1, 40, [])]
def shT : xSh := [(0, 3, [5, 0, 0, 0, 0, 2, 0]), (1, 160, []), (1, 160, []), (1, 3, [])]
def shT2 : xSh := [(0, 3, [5, 0, 0, 0, 0, 6, 0]), (1, 160, []), (1, 160, []), (1, 3, [])]
def shX : xSh := [(0, 5, [5, 21, 23, 31, 39, 3, 47, 51]), (0, 4, [6, 7, 0, 20]), (3, 6, [4, 5, 6, 7, 8, 9]), (3, 6, [10, 11, 12, 13, 14, 15]), (1, 160, []), (1, 160, []), (1, 160, []), (1, 160, []), (1, 160, []), (1, 160, []), (1, 3, []), (1, 3, []), (1, 3, []), (1, 3, []), (1, 3, []), (1, 3, []), (1, 160, []), (0, 3, [22, 0, 0, 0, 0, 2, 0]), (1, 160, []), (0, 0, [5, 24, 0, 0, 0, 0, 0, 25, 26, 0, 27, 28, 29, 30, 0]), (1, 8, []), (1, 10, []), (1, 10, []), (1, 4, []), (1, 4, []), (1, 4, []), (1, 4, []), (0, 0, [5, 32, 0, 0, 0, 0, 0, 33, 34, 0, 35, 36, 37, 38, 0]), (1, 8, []), (1, 10, []), (1, 10, []), (1, 4, []), (1, 4, []), (1, 4, []), (1, 4, []), (0, 0, [5, 40, 0, 0, 0, 0, 0, 41, 42, 0, 43, 44, 45, 46, 0]), (1, 8, []), (1, 10, []), (1, 10, []), (1, 4, []), (1, 4, []), (1, 4, []), (1, 4, []), (0, 1, [48, 49, 50, 0, 0, 0, 0]), (1, 4, []), (1, 10, []), (1, 40, []), (4, 4, [48, 50, 52, 54]), (0, 2, [0, 0, 53]), (1, 40, []), (0, 2, [0, 0, 55]), (1, 40, []), (0, 2, [0, 0, 57]), (1, 40, []), (0, 2, [0, 0, 59]), (1, 40, [])]
end
section
def kX6_in : List xI := [(0, .lload_n 0, (0, 0, 0, 0), 0, 0), (1, .lload_n 2, (0, 0, 0, 0), 0, 0), (2, .lcmp, (0, 0, 0, 0), 0, 0), (3, .ifCond .lt 14, (0, 0, 0, 0), 0, 0), (6, .lload_n 0, (0, 0, 0, 0), 0, 0), (7, .lload 4, (0, 0, 0, 0), 0, 0), (9, .lcmp, (0, 0, 0, 0), 0, 0), (10, .ifCond .gt 7, (0, 0, 0, 0), 0, 0), (13, .iconst 1, (0, 0, 0, 0), 1, 0), (14, .goto 4, (0, 0, 0, 0), 0, 0), (17, .iconst 0, (0, 0, 0, 0), 0, 0), (18, .ireturn, (0, 0, 0, 0), 0, 0)]
theorem okX6_in : kX6_in.all (xOk RX6 cX6_in) = true := by decide +kernel
def kX6_within : List xI := [(0, .iload_n 0, (0, 0, 0, 0), 0, 0), (1, .iload_n 1, (0, 0, 0, 0), 0, 0), (2, .if_icmp .ge 7, (0, 0, 0, 0), 0, 0), (5, .iload_n 1, (0, 0, 0, 0), 0, 0), (6, .goto 13, (0, 0, 0, 0), 0, 0), (9, .iload_n 0, (0, 0, 0, 0), 0, 0), (10, .iload_n 2, (0, 0, 0, 0), 0, 0), (11, .if_icmp .le 7, (0, 0, 0, 0), 0, 0), (14, .iload_n 2, (0, 0, 0, 0), 0, 0), (15, .goto 4, (0, 0, 0, 0), 0, 0), (18, .iload_n 0, (0, 0, 0, 0), 0, 0), (19, .ireturn, (0, 0, 0, 0), 0, 0)]
theorem okX6_within : kX6_within.all (xOk RX6 cX6_within) = true := by decide +kernel
def kX6_spell : List xI := [(0, .aload_n 0, (0, 0, 0, 0), 0, 0), (1, .getfield 13, (802, 6, 1, 0), 0, 0), (4, .iload_n 1, (0, 0, 0, 0), 0, 0), (5, .iload_n 2, (0, 0, 0, 0), 0, 0), (6, .iastore, (0, 0, 0, 0), 0, 0), (7, .aload_n 0, (0, 0, 0, 0), 0, 0), (8, .getfield 13, (802, 6, 1, 0), 0, 0), (11, .iload_n 1, (0, 0, 0, 0), 0, 0), (12, .iconst 1, (0, 0, 0, 0), 1, 0), (13, .iadd, (0, 0, 0, 0), 0, 0), (14, .iload_n 3, (0, 0, 0, 0), 0, 0), (15, .iastore, (0, 0, 0, 0), 0, 0), (16, .aload_n 0, (0, 0, 0, 0), 0, 0), (17, .getfield 13, (802, 6, 1, 0), 0, 0), (20, .iload_n 1, (0, 0, 0, 0), 0, 0), (21, .iconst 2, (0, 0, 0, 0), 2, 0), (22, .iadd, (0, 0, 0, 0), 0, 0), (23, .iload 4, (0, 0, 0, 0), 0, 0), (25, .iastore, (0, 0, 0, 0), 0, 0), (26, .aload_n 0, (0, 0, 0, 0), 0, 0), (27, .getfield 13, (802, 6, 1, 0), 0, 0), (30, .iload_n 1, (0, 0, 0, 0), 0, 0), (31, .iconst 3, (0, 0, 0, 0), 3, 0), (32, .iadd, (0, 0, 0, 0), 0, 0), (33, .iload 5, (0, 0, 0, 0), 0, 0), (35, .iastore, (0, 0, 0, 0), 0, 0), (36, .aload_n 0, (0, 0, 0, 0), 0, 0), (37, .getfield 13, (802, 6, 1, 0), 0, 0), (40, .iload_n 1, (0, 0, 0, 0), 0, 0), (41, .iconst 4, (0, 0, 0, 0), 4, 0), (42, .iadd, (0, 0, 0, 0), 0, 0), (43, .iload 6, (0, 0, 0, 0), 0, 0), (45, .iastore, (0, 0, 0, 0), 0, 0), (46, .aload_n 0, (0, 0, 0, 0), 0, 0), (47, .getfield 13, (802, 6, 1, 0), 0, 0), (50, .iload_n 1, (0, 0, 0, 0), 0, 0), (51, .iconst 5, (0, 0, 0, 0), 5, 0), (52, .iadd, (0, 0, 0, 0), 0, 0), (53, .iload 7, (0, 0, 0, 0), 0, 0), (55, .iastore, (0, 0, 0, 0), 0, 0), (56, .aload_n 0, (0, 0, 0, 0), 0, 0), (57, .getfield 13, (802, 6, 1, 0), 0, 0), (60, .iload_n 1, (0, 0, 0, 0), 0, 0), (61, .bipush 6, (0, 0, 0, 0), 6, 0), (63, .iadd, (0, 0, 0, 0), 0, 0), (64, .iload 8, (0, 0, 0, 0), 0, 0), (66, .iastore, (0, 0, 0, 0), 0, 0), (67, .aload_n 0, (0, 0, 0, 0), 0, 0), (68, .getfield 13, (802, 6, 1, 0), 0, 0), (71, .iload_n 1, (0, 0, 0, 0), 0, 0), (72, .bipush 7, (0, 0, 0, 0), 7, 0), (74, .iadd, (0, 0, 0, 0), 0, 0), (75, .iload 9, (0, 0, 0, 0), 0, 0), (77, .iastore, (0, 0, 0, 0), 0, 0), (78, .return_, (0, 0, 0, 0), 0, 0)]
theorem okX6_spell : kX6_spell.all (xOk RX6 cX6_spell) = true := by decide +kernel
def kX6_bitsOf : List xI := [(0, .iconst 0, (0, 0, 0, 0), 0, 0), (1, .istore_n 1, (0, 0, 0, 0), 0, 0), (2, .iload_n 0, (0, 0, 0, 0), 0, 0), (3, .istore_n 2, (0, 0, 0, 0), 0, 0), (4, .iload_n 2, (0, 0, 0, 0), 0, 0), (5, .ifCond .eq 15, (0, 0, 0, 0), 0, 0), (8, .iinc 1 1, (0, 0, 0, 0), 1, 0), (11, .iload_n 2, (0, 0, 0, 0), 0, 0), (12, .iload_n 2, (0, 0, 0, 0), 0, 0), (13, .iconst 1, (0, 0, 0, 0), 1, 0), (14, .isub, (0, 0, 0, 0), 0, 0), (15, .iand, (0, 0, 0, 0), 0, 0), (16, .istore_n 2, (0, 0, 0, 0), 0, 0), (17, .goto (-13), (0, 0, 0, 0), 0, 0), (20, .iload_n 1, (0, 0, 0, 0), 0, 0), (21, .ireturn, (0, 0, 0, 0), 0, 0)]
theorem okX6_bitsOf : kX6_bitsOf.all (xOk RX6 cX6_bitsOf) = true := by decide +kernel
def kX6_isOne : List xI := [(0, .iload_n 1, (0, 0, 0, 0), 0, 0), (1, .i2l, (0, 0, 0, 0), 0, 0), (2, .lconst 0, (0, 0, 0, 0), 0, 0), (3, .aload_n 0, (0, 0, 0, 0), 0, 0), (4, .getfield 79, (816, 6, 15, 0), 0, 0), (7, .iconst 1, (0, 0, 0, 0), 1, 0), (8, .isub, (0, 0, 0, 0), 0, 0), (9, .i2l, (0, 0, 0, 0), 0, 0), (10, .invokestatic 82, (0, 3, 0, 0), 0, 0), (13, .ireturn, (0, 0, 0, 0), 0, 0)]
theorem okX6_isOne : kX6_isOne.all (xOk RX6 cX6_isOne) = true := by decide +kernel
def kX6_isDeed : List xI := [(0, .iload_n 0, (0, 0, 0, 0), 0, 0), (1, .i2l, (0, 0, 0, 0), 0, 0), (2, .lconst 0, (0, 0, 0, 0), 0, 0), (3, .ldc2_w 86, (971, 0, 0, 0), 0, 9), (6, .invokestatic 82, (0, 3, 0, 0), 0, 0), (9, .ireturn, (0, 0, 0, 0), 0, 0)]
theorem okX6_isDeed : kX6_isDeed.all (xOk RX6 cX6_isDeed) = true := by decide +kernel
def kX6_isLaw : List xI := [(0, .iload_n 0, (0, 0, 0, 0), 0, 0), (1, .i2l, (0, 0, 0, 0), 0, 0), (2, .lconst 0, (0, 0, 0, 0), 0, 0), (3, .ldc2_w 88, (957, 0, 0, 0), 0, 7), (6, .invokestatic 82, (0, 3, 0, 0), 0, 0), (9, .ireturn, (0, 0, 0, 0), 0, 0)]
theorem okX6_isLaw : kX6_isLaw.all (xOk RX6 cX6_isLaw) = true := by decide +kernel
def kX6_isOf : List xI := [(0, .iload_n 1, (0, 0, 0, 0), 0, 0), (1, .iconst 1, (0, 0, 0, 0), 1, 0), (2, .if_icmp .eq 14, (0, 0, 0, 0), 0, 0), (5, .iload_n 1, (0, 0, 0, 0), 0, 0), (6, .iconst 2, (0, 0, 0, 0), 2, 0), (7, .if_icmp .eq 9, (0, 0, 0, 0), 0, 0), (10, .iload_n 1, (0, 0, 0, 0), 0, 0), (11, .bipush 9, (0, 0, 0, 0), 9, 0), (13, .if_icmp .le 5, (0, 0, 0, 0), 0, 0), (16, .iconst 1, (0, 0, 0, 0), 1, 0), (17, .ireturn, (0, 0, 0, 0), 0, 0), (18, .iload_n 1, (0, 0, 0, 0), 0, 0), (19, .ifCond .ne 10, (0, 0, 0, 0), 0, 0), (22, .iload_n 2, (0, 0, 0, 0), 0, 0), (23, .invokestatic 90, (0, 3, 0, 0), 0, 0), (26, .goto 20, (0, 0, 0, 0), 0, 0), (29, .iload_n 1, (0, 0, 0, 0), 0, 0), (30, .iconst 5, (0, 0, 0, 0), 5, 0), (31, .if_icmp .ge 10, (0, 0, 0, 0), 0, 0), (34, .iload_n 2, (0, 0, 0, 0), 0, 0), (35, .invokestatic 94, (0, 3, 0, 0), 0, 0), (38, .goto 8, (0, 0, 0, 0), 0, 0), (41, .aload_n 0, (0, 0, 0, 0), 0, 0), (42, .iload_n 2, (0, 0, 0, 0), 0, 0), (43, .invokevirtual 97, (0, 0, 0, 0), 0, 0), (46, .ireturn, (0, 0, 0, 0), 0, 0)]
theorem okX6_isOf : kX6_isOf.all (xOk RX6 cX6_isOf) = true := by decide +kernel
def kX6_mostOf : List xI := [(0, .iload_n 0, (0, 0, 0, 0), 0, 0), (1, .iconst 2, (0, 0, 0, 0), 2, 0), (2, .if_icmp .lt 8, (0, 0, 0, 0), 0, 0), (5, .iload_n 0, (0, 0, 0, 0), 0, 0), (6, .iconst 5, (0, 0, 0, 0), 5, 0), (7, .if_icmp .ne 8, (0, 0, 0, 0), 0, 0), (10, .bipush 9, (0, 0, 0, 0), 9, 0), (12, .goto 27, (0, 0, 0, 0), 0, 0), (15, .iload_n 0, (0, 0, 0, 0), 0, 0), (16, .iconst 2, (0, 0, 0, 0), 2, 0), (17, .if_icmp .ne 9, (0, 0, 0, 0), 0, 0), (20, .sipush 999, (0, 0, 0, 0), 999, 0), (23, .goto 16, (0, 0, 0, 0), 0, 0), (26, .iload_n 0, (0, 0, 0, 0), 0, 0), (27, .iconst 3, (0, 0, 0, 0), 3, 0), (28, .if_icmp .ne 9, (0, 0, 0, 0), 0, 0), (31, .sipush 255, (0, 0, 0, 0), 255, 0), (34, .goto 5, (0, 0, 0, 0), 0, 0), (37, .bipush 99, (0, 0, 0, 0), 99, 0), (39, .ireturn, (0, 0, 0, 0), 0, 0)]
theorem okX6_mostOf : kX6_mostOf.all (xOk RX6 cX6_mostOf) = true := by decide +kernel
def kX6_set : List xI := [(0, .iload_n 1, (0, 0, 0, 0), 0, 0), (1, .i2l, (0, 0, 0, 0), 0, 0), (2, .lconst 0, (0, 0, 0, 0), 0, 0), (3, .ldc2_w 88, (957, 0, 0, 0), 0, 7), (6, .invokestatic 82, (0, 3, 0, 0), 0, 0), (9, .ifCond .eq 35, (0, 0, 0, 0), 0, 0), (12, .aload_n 0, (0, 0, 0, 0), 0, 0), (13, .iload_n 1, (0, 0, 0, 0), 0, 0), (14, .iload_n 2, (0, 0, 0, 0), 0, 0), (15, .invokevirtual 100, (0, 0, 0, 0), 0, 0), (18, .ifCond .eq 26, (0, 0, 0, 0), 0, 0), (21, .iload_n 3, (0, 0, 0, 0), 0, 0), (22, .i2l, (0, 0, 0, 0), 0, 0), (23, .iload_n 1, (0, 0, 0, 0), 0, 0), (24, .iconst 1, (0, 0, 0, 0), 1, 0), (25, .if_icmp .ne 7, (0, 0, 0, 0), 0, 0), (28, .lconst 1, (0, 0, 0, 0), 0, 1), (29, .goto 4, (0, 0, 0, 0), 0, 0), (32, .lconst 0, (0, 0, 0, 0), 0, 0), (33, .iload_n 1, (0, 0, 0, 0), 0, 0), (34, .invokestatic 104, (0, 3, 0, 0), 0, 0), (37, .i2l, (0, 0, 0, 0), 0, 0), (38, .invokestatic 82, (0, 3, 0, 0), 0, 0), (41, .ifCond .ne 6, (0, 0, 0, 0), 0, 0), (44, .bipush (-2), (0, 0, 0, 0), (-2), 0), (46, .ireturn, (0, 0, 0, 0), 0, 0), (47, .aload_n 0, (0, 0, 0, 0), 0, 0), (48, .iload_n 2, (0, 0, 0, 0), 0, 0), (49, .iload_n 1, (0, 0, 0, 0), 0, 0), (50, .invokevirtual 108, (0, 0, 0, 0), 0, 0), (53, .istore 4, (0, 0, 0, 0), 0, 0), (55, .aload_n 0, (0, 0, 0, 0), 0, 0), (56, .iload_n 1, (0, 0, 0, 0), 0, 0), (57, .iload_n 2, (0, 0, 0, 0), 0, 0), (58, .iload_n 3, (0, 0, 0, 0), 0, 0), (59, .invokevirtual 112, (0, 0, 0, 0), 0, 0), (62, .iload 4, (0, 0, 0, 0), 0, 0), (64, .ireturn, (0, 0, 0, 0), 0, 0)]
theorem okX6_set : kX6_set.all (xOk RX6 cX6_set) = true := by decide +kernel
def kX6_lays : List xI := [(0, .iload_n 1, (0, 0, 0, 0), 0, 0), (1, .ifCond .ne 26, (0, 0, 0, 0), 0, 0), (4, .aload_n 0, (0, 0, 0, 0), 0, 0), (5, .getfield 26, (812, 6, 11, 0), 0, 0), (8, .iload_n 2, (0, 0, 0, 0), 0, 0), (9, .iload_n 3, (0, 0, 0, 0), 0, 0), (10, .iastore, (0, 0, 0, 0), 0, 0), (11, .aload_n 0, (0, 0, 0, 0), 0, 0), (12, .dup, (0, 0, 0, 0), 0, 0), (13, .getfield 116, (810, 6, 9, 0), 0, 0), (16, .aload_n 0, (0, 0, 0, 0), 0, 0), (17, .invokevirtual 119, (0, 0, 0, 0), 0, 0), (20, .iand, (0, 0, 0, 0), 0, 0), (21, .putfield 116, (810, 6, 9, 0), 0, 0), (24, .goto 102, (0, 0, 0, 0), 0, 0), (27, .iload_n 1, (0, 0, 0, 0), 0, 0), (28, .iconst 3, (0, 0, 0, 0), 3, 0), (29, .if_icmp .ge 40, (0, 0, 0, 0), 0, 0), (32, .aload_n 0, (0, 0, 0, 0), 0, 0), (33, .iload_n 1, (0, 0, 0, 0), 0, 0), (34, .iconst 1, (0, 0, 0, 0), 1, 0), (35, .if_icmp .ne 7, (0, 0, 0, 0), 0, 0), (38, .iload_n 3, (0, 0, 0, 0), 0, 0), (39, .goto 7, (0, 0, 0, 0), 0, 0), (42, .aload_n 0, (0, 0, 0, 0), 0, 0), (43, .getfield 23, (808, 6, 7, 0), 0, 0), (46, .putfield 23, (808, 6, 7, 0), 0, 0), (49, .aload_n 0, (0, 0, 0, 0), 0, 0), (50, .iload_n 1, (0, 0, 0, 0), 0, 0), (51, .iconst 2, (0, 0, 0, 0), 2, 0), (52, .if_icmp .ne 7, (0, 0, 0, 0), 0, 0), (55, .iload_n 3, (0, 0, 0, 0), 0, 0), (56, .goto 7, (0, 0, 0, 0), 0, 0), (59, .aload_n 0, (0, 0, 0, 0), 0, 0), (60, .getfield 123, (809, 6, 8, 0), 0, 0), (63, .putfield 123, (809, 6, 8, 0), 0, 0), (66, .goto 60, (0, 0, 0, 0), 0, 0), (69, .iload_n 1, (0, 0, 0, 0), 0, 0), (70, .iconst 3, (0, 0, 0, 0), 3, 0), (71, .if_icmp .ne 13, (0, 0, 0, 0), 0, 0), (74, .aload_n 0, (0, 0, 0, 0), 0, 0), (75, .getfield 29, (813, 6, 12, 0), 0, 0), (78, .iload_n 2, (0, 0, 0, 0), 0, 0), (79, .iload_n 3, (0, 0, 0, 0), 0, 0), (80, .iastore, (0, 0, 0, 0), 0, 0), (81, .goto 45, (0, 0, 0, 0), 0, 0), (84, .iload_n 1, (0, 0, 0, 0), 0, 0), (85, .iconst 4, (0, 0, 0, 0), 4, 0), (86, .if_icmp .ne 13, (0, 0, 0, 0), 0, 0), (89, .aload_n 0, (0, 0, 0, 0), 0, 0), (90, .getfield 32, (814, 6, 13, 0), 0, 0), (93, .iload_n 2, (0, 0, 0, 0), 0, 0), (94, .iload_n 3, (0, 0, 0, 0), 0, 0), (95, .iastore, (0, 0, 0, 0), 0, 0), (96, .goto 30, (0, 0, 0, 0), 0, 0), (99, .iload_n 1, (0, 0, 0, 0), 0, 0), (100, .bipush 9, (0, 0, 0, 0), 9, 0), (102, .if_icmp .ge 19, (0, 0, 0, 0), 0, 0), (105, .aload_n 0, (0, 0, 0, 0), 0, 0), (106, .getfield 35, (815, 6, 14, 0), 0, 0), (109, .iconst 4, (0, 0, 0, 0), 4, 0), (110, .iload_n 2, (0, 0, 0, 0), 0, 0), (111, .imul, (0, 0, 0, 0), 0, 0), (112, .iload_n 1, (0, 0, 0, 0), 0, 0), (113, .iadd, (0, 0, 0, 0), 0, 0), (114, .iconst 5, (0, 0, 0, 0), 5, 0), (115, .isub, (0, 0, 0, 0), 0, 0), (116, .iload_n 3, (0, 0, 0, 0), 0, 0), (117, .iastore, (0, 0, 0, 0), 0, 0), (118, .goto 8, (0, 0, 0, 0), 0, 0), (121, .aload_n 0, (0, 0, 0, 0), 0, 0), (122, .iload_n 3, (0, 0, 0, 0), 0, 0), (123, .putfield 126, (805, 6, 4, 0), 0, 0), (126, .return_, (0, 0, 0, 0), 0, 0)]
theorem okX6_lays : kX6_lays.all (xOk RX6 cX6_lays) = true := by decide +kernel
def kX6_person : List xI := [(0, .iload_n 1, (0, 0, 0, 0), 0, 0), (1, .i2l, (0, 0, 0, 0), 0, 0), (2, .lconst 0, (0, 0, 0, 0), 0, 0), (3, .ldc2_w 129, (1093, 0, 0, 0), 0, 5), (6, .invokestatic 82, (0, 3, 0, 0), 0, 0), (9, .ifCond .eq 15, (0, 0, 0, 0), 0, 0), (12, .iload_n 2, (0, 0, 0, 0), 0, 0), (13, .i2l, (0, 0, 0, 0), 0, 0), (14, .lconst 0, (0, 0, 0, 0), 0, 0), (15, .ldc2_w 86, (971, 0, 0, 0), 0, 9), (18, .invokestatic 82, (0, 3, 0, 0), 0, 0), (21, .ifCond .ne 6, (0, 0, 0, 0), 0, 0), (24, .bipush (-2), (0, 0, 0, 0), (-2), 0), (26, .ireturn, (0, 0, 0, 0), 0, 0), (27, .aload_n 0, (0, 0, 0, 0), 0, 0), (28, .getfield 79, (816, 6, 15, 0), 0, 0), (31, .iconst 4, (0, 0, 0, 0), 4, 0), (32, .if_icmp .ne 6, (0, 0, 0, 0), 0, 0), (35, .bipush (-4), (0, 0, 0, 0), (-4), 0), (37, .ireturn, (0, 0, 0, 0), 0, 0), (38, .aload_n 0, (0, 0, 0, 0), 0, 0), (39, .getfield 35, (815, 6, 14, 0), 0, 0), (42, .iconst 4, (0, 0, 0, 0), 4, 0), (43, .aload_n 0, (0, 0, 0, 0), 0, 0), (44, .getfield 79, (816, 6, 15, 0), 0, 0), (47, .imul, (0, 0, 0, 0), 0, 0), (48, .iload_n 2, (0, 0, 0, 0), 0, 0), (49, .iastore, (0, 0, 0, 0), 0, 0), (50, .aload_n 0, (0, 0, 0, 0), 0, 0), (51, .getfield 35, (815, 6, 14, 0), 0, 0), (54, .iconst 4, (0, 0, 0, 0), 4, 0), (55, .aload_n 0, (0, 0, 0, 0), 0, 0), (56, .getfield 79, (816, 6, 15, 0), 0, 0), (59, .imul, (0, 0, 0, 0), 0, 0), (60, .iconst 1, (0, 0, 0, 0), 1, 0), (61, .iadd, (0, 0, 0, 0), 0, 0), (62, .iconst 0, (0, 0, 0, 0), 0, 0), (63, .iastore, (0, 0, 0, 0), 0, 0), (64, .aload_n 0, (0, 0, 0, 0), 0, 0), (65, .getfield 35, (815, 6, 14, 0), 0, 0), (68, .iconst 4, (0, 0, 0, 0), 4, 0), (69, .aload_n 0, (0, 0, 0, 0), 0, 0), (70, .getfield 79, (816, 6, 15, 0), 0, 0), (73, .imul, (0, 0, 0, 0), 0, 0), (74, .iconst 2, (0, 0, 0, 0), 2, 0), (75, .iadd, (0, 0, 0, 0), 0, 0), (76, .iconst 0, (0, 0, 0, 0), 0, 0), (77, .iastore, (0, 0, 0, 0), 0, 0), (78, .aload_n 0, (0, 0, 0, 0), 0, 0), (79, .getfield 35, (815, 6, 14, 0), 0, 0), (82, .iconst 4, (0, 0, 0, 0), 4, 0), (83, .aload_n 0, (0, 0, 0, 0), 0, 0), (84, .getfield 79, (816, 6, 15, 0), 0, 0), (87, .imul, (0, 0, 0, 0), 0, 0), (88, .iconst 3, (0, 0, 0, 0), 3, 0), (89, .iadd, (0, 0, 0, 0), 0, 0), (90, .iload_n 1, (0, 0, 0, 0), 0, 0), (91, .iastore, (0, 0, 0, 0), 0, 0), (92, .aload_n 0, (0, 0, 0, 0), 0, 0), (93, .dup, (0, 0, 0, 0), 0, 0), (94, .getfield 79, (816, 6, 15, 0), 0, 0), (97, .iconst 1, (0, 0, 0, 0), 1, 0), (98, .iadd, (0, 0, 0, 0), 0, 0), (99, .putfield 79, (816, 6, 15, 0), 0, 0), (102, .aload_n 0, (0, 0, 0, 0), 0, 0), (103, .getfield 79, (816, 6, 15, 0), 0, 0), (106, .iconst 1, (0, 0, 0, 0), 1, 0), (107, .isub, (0, 0, 0, 0), 0, 0), (108, .ireturn, (0, 0, 0, 0), 0, 0)]
theorem okX6_person : kX6_person.all (xOk RX6 cX6_person) = true := by decide +kernel
def kX6_told : List xI := [(0, .iload_n 2, (0, 0, 0, 0), 0, 0), (1, .i2l, (0, 0, 0, 0), 0, 0), (2, .lconst 0, (0, 0, 0, 0), 0, 0), (3, .ldc2_w 131, (983, 0, 0, 0), 0, 12), (6, .invokestatic 82, (0, 3, 0, 0), 0, 0), (9, .ifCond .eq 12, (0, 0, 0, 0), 0, 0), (12, .aload_n 0, (0, 0, 0, 0), 0, 0), (13, .iload_n 2, (0, 0, 0, 0), 0, 0), (14, .iload_n 1, (0, 0, 0, 0), 0, 0), (15, .invokevirtual 100, (0, 0, 0, 0), 0, 0), (18, .ifCond .ne 7, (0, 0, 0, 0), 0, 0), (21, .sipush (-1000), (0, 0, 0, 0), (-1000), 0), (24, .ireturn, (0, 0, 0, 0), 0, 0), (25, .iload_n 2, (0, 0, 0, 0), 0, 0), (26, .iconst 3, (0, 0, 0, 0), 3, 0), (27, .if_icmp .ge 33, (0, 0, 0, 0), 0, 0), (30, .iload_n 2, (0, 0, 0, 0), 0, 0), (31, .ifCond .ne 12, (0, 0, 0, 0), 0, 0), (34, .aload_n 0, (0, 0, 0, 0), 0, 0), (35, .getfield 26, (812, 6, 11, 0), 0, 0), (38, .iload_n 1, (0, 0, 0, 0), 0, 0), (39, .iaload, (0, 0, 0, 0), 0, 0), (40, .goto 19, (0, 0, 0, 0), 0, 0), (43, .iload_n 2, (0, 0, 0, 0), 0, 0), (44, .iconst 1, (0, 0, 0, 0), 1, 0), (45, .if_icmp .ne 10, (0, 0, 0, 0), 0, 0), (48, .aload_n 0, (0, 0, 0, 0), 0, 0), (49, .getfield 23, (808, 6, 7, 0), 0, 0), (52, .goto 7, (0, 0, 0, 0), 0, 0), (55, .aload_n 0, (0, 0, 0, 0), 0, 0), (56, .getfield 123, (809, 6, 8, 0), 0, 0), (59, .ireturn, (0, 0, 0, 0), 0, 0), (60, .iload_n 2, (0, 0, 0, 0), 0, 0), (61, .bipush 9, (0, 0, 0, 0), 9, 0), (63, .if_icmp .ge 44, (0, 0, 0, 0), 0, 0), (66, .iload_n 2, (0, 0, 0, 0), 0, 0), (67, .iconst 3, (0, 0, 0, 0), 3, 0), (68, .if_icmp .ne 12, (0, 0, 0, 0), 0, 0), (71, .aload_n 0, (0, 0, 0, 0), 0, 0), (72, .getfield 29, (813, 6, 12, 0), 0, 0), (75, .iload_n 1, (0, 0, 0, 0), 0, 0), (76, .iaload, (0, 0, 0, 0), 0, 0), (77, .goto 29, (0, 0, 0, 0), 0, 0), (80, .iload_n 2, (0, 0, 0, 0), 0, 0), (81, .iconst 4, (0, 0, 0, 0), 4, 0), (82, .if_icmp .ne 12, (0, 0, 0, 0), 0, 0), (85, .aload_n 0, (0, 0, 0, 0), 0, 0), (86, .getfield 32, (814, 6, 13, 0), 0, 0), (89, .iload_n 1, (0, 0, 0, 0), 0, 0), (90, .iaload, (0, 0, 0, 0), 0, 0), (91, .goto 15, (0, 0, 0, 0), 0, 0), (94, .aload_n 0, (0, 0, 0, 0), 0, 0), (95, .getfield 35, (815, 6, 14, 0), 0, 0), (98, .iconst 4, (0, 0, 0, 0), 4, 0), (99, .iload_n 1, (0, 0, 0, 0), 0, 0), (100, .imul, (0, 0, 0, 0), 0, 0), (101, .iload_n 2, (0, 0, 0, 0), 0, 0), (102, .iadd, (0, 0, 0, 0), 0, 0), (103, .iconst 5, (0, 0, 0, 0), 5, 0), (104, .isub, (0, 0, 0, 0), 0, 0), (105, .iaload, (0, 0, 0, 0), 0, 0), (106, .ireturn, (0, 0, 0, 0), 0, 0), (107, .iload_n 2, (0, 0, 0, 0), 0, 0), (108, .bipush 9, (0, 0, 0, 0), 9, 0), (110, .if_icmp .ne 11, (0, 0, 0, 0), 0, 0), (113, .aload_n 0, (0, 0, 0, 0), 0, 0), (114, .iload_n 1, (0, 0, 0, 0), 0, 0), (115, .invokevirtual 133, (0, 0, 0, 0), 0, 0), (118, .goto 33, (0, 0, 0, 0), 0, 0), (121, .iload_n 2, (0, 0, 0, 0), 0, 0), (122, .bipush 10, (0, 0, 0, 0), 10, 0), (124, .if_icmp .ne 10, (0, 0, 0, 0), 0, 0), (127, .aload_n 0, (0, 0, 0, 0), 0, 0), (128, .invokevirtual 119, (0, 0, 0, 0), 0, 0), (131, .goto 20, (0, 0, 0, 0), 0, 0), (134, .iload_n 2, (0, 0, 0, 0), 0, 0), (135, .bipush 11, (0, 0, 0, 0), 11, 0), (137, .if_icmp .ne 10, (0, 0, 0, 0), 0, 0), (140, .aload_n 0, (0, 0, 0, 0), 0, 0), (141, .getfield 116, (810, 6, 9, 0), 0, 0), (144, .goto 7, (0, 0, 0, 0), 0, 0), (147, .aload_n 0, (0, 0, 0, 0), 0, 0), (148, .getfield 136, (811, 6, 10, 0), 0, 0), (151, .ireturn, (0, 0, 0, 0), 0, 0)]
theorem okX6_told : kX6_told.all (xOk RX6 cX6_told) = true := by decide +kernel
def kX6_alive : List xI := [(0, .iconst 0, (0, 0, 0, 0), 0, 0), (1, .istore_n 1, (0, 0, 0, 0), 0, 0), (2, .iconst 0, (0, 0, 0, 0), 0, 0), (3, .istore_n 2, (0, 0, 0, 0), 0, 0), (4, .iload_n 2, (0, 0, 0, 0), 0, 0), (5, .bipush 8, (0, 0, 0, 0), 8, 0), (7, .if_icmp .ge 28, (0, 0, 0, 0), 0, 0), (10, .iload_n 1, (0, 0, 0, 0), 0, 0), (11, .aload_n 0, (0, 0, 0, 0), 0, 0), (12, .getfield 26, (812, 6, 11, 0), 0, 0), (15, .iload_n 2, (0, 0, 0, 0), 0, 0), (16, .iaload, (0, 0, 0, 0), 0, 0), (17, .ifCond .le 7, (0, 0, 0, 0), 0, 0), (20, .iconst 1, (0, 0, 0, 0), 1, 0), (21, .goto 4, (0, 0, 0, 0), 0, 0), (24, .iconst 0, (0, 0, 0, 0), 0, 0), (25, .iload_n 2, (0, 0, 0, 0), 0, 0), (26, .ishl, (0, 0, 0, 0), 0, 0), (27, .ior, (0, 0, 0, 0), 0, 0), (28, .istore_n 1, (0, 0, 0, 0), 0, 0), (29, .iinc 2 1, (0, 0, 0, 0), 1, 0), (32, .goto (-28), (0, 0, 0, 0), 0, 0), (35, .iload_n 1, (0, 0, 0, 0), 0, 0), (36, .ireturn, (0, 0, 0, 0), 0, 0)]
theorem okX6_alive : kX6_alive.all (xOk RX6 cX6_alive) = true := by decide +kernel
def kX6_feed : List xI := [(0, .iload_n 1, (0, 0, 0, 0), 0, 0), (1, .i2l, (0, 0, 0, 0), 0, 0), (2, .lconst 0, (0, 0, 0, 0), 0, 0), (3, .ldc2_w 139, (1099, 0, 0, 0), 0, 255), (6, .invokestatic 82, (0, 3, 0, 0), 0, 0), (9, .ifCond .ne 6, (0, 0, 0, 0), 0, 0), (12, .bipush (-2), (0, 0, 0, 0), (-2), 0), (14, .ireturn, (0, 0, 0, 0), 0, 0), (15, .aload_n 0, (0, 0, 0, 0), 0, 0), (16, .getfield 141, (807, 6, 6, 0), 0, 0), (19, .sipush 160, (0, 0, 0, 0), 160, 0), (22, .if_icmp .ne 6, (0, 0, 0, 0), 0, 0), (25, .bipush (-4), (0, 0, 0, 0), (-4), 0), (27, .ireturn, (0, 0, 0, 0), 0, 0), (28, .aload_n 0, (0, 0, 0, 0), 0, 0), (29, .getfield 20, (806, 6, 5, 0), 0, 0), (32, .aload_n 0, (0, 0, 0, 0), 0, 0), (33, .getfield 141, (807, 6, 6, 0), 0, 0), (36, .iload_n 1, (0, 0, 0, 0), 0, 0), (37, .iastore, (0, 0, 0, 0), 0, 0), (38, .aload_n 0, (0, 0, 0, 0), 0, 0), (39, .dup, (0, 0, 0, 0), 0, 0), (40, .getfield 141, (807, 6, 6, 0), 0, 0), (43, .iconst 1, (0, 0, 0, 0), 1, 0), (44, .iadd, (0, 0, 0, 0), 0, 0), (45, .putfield 141, (807, 6, 6, 0), 0, 0), (48, .aload_n 0, (0, 0, 0, 0), 0, 0), (49, .getfield 141, (807, 6, 6, 0), 0, 0), (52, .ireturn, (0, 0, 0, 0), 0, 0)]
theorem okX6_feed : kX6_feed.all (xOk RX6 cX6_feed) = true := by decide +kernel
def kX6_byteAt : List xI := [(0, .iload_n 1, (0, 0, 0, 0), 0, 0), (1, .aload_n 0, (0, 0, 0, 0), 0, 0), (2, .getfield 144, (824, 6, 23, 0), 0, 0), (5, .if_icmp .ge 17, (0, 0, 0, 0), 0, 0), (8, .aload_n 0, (0, 0, 0, 0), 0, 0), (9, .getfield 13, (802, 6, 1, 0), 0, 0), (12, .aload_n 0, (0, 0, 0, 0), 0, 0), (13, .getfield 147, (823, 6, 22, 0), 0, 0), (16, .iload_n 1, (0, 0, 0, 0), 0, 0), (17, .iadd, (0, 0, 0, 0), 0, 0), (18, .iaload, (0, 0, 0, 0), 0, 0), (19, .goto 4, (0, 0, 0, 0), 0, 0), (22, .iconst (-1), (0, 0, 0, 0), (-1), 0), (23, .ireturn, (0, 0, 0, 0), 0, 0)]
theorem okX6_byteAt : kX6_byteAt.all (xOk RX6 cX6_byteAt) = true := by decide +kernel
def kX6_next : List xI := [(0, .aload_n 0, (0, 0, 0, 0), 0, 0), (1, .aload_n 0, (0, 0, 0, 0), 0, 0), (2, .getfield 150, (825, 6, 24, 0), 0, 0), (5, .invokevirtual 153, (0, 0, 0, 0), 0, 0), (8, .bipush 32, (0, 0, 0, 0), 32, 0), (10, .if_icmp .eq 16, (0, 0, 0, 0), 0, 0), (13, .aload_n 0, (0, 0, 0, 0), 0, 0), (14, .aload_n 0, (0, 0, 0, 0), 0, 0), (15, .getfield 150, (825, 6, 24, 0), 0, 0), (18, .invokevirtual 153, (0, 0, 0, 0), 0, 0), (21, .bipush 10, (0, 0, 0, 0), 10, 0), (23, .if_icmp .ne 16, (0, 0, 0, 0), 0, 0), (26, .aload_n 0, (0, 0, 0, 0), 0, 0), (27, .dup, (0, 0, 0, 0), 0, 0), (28, .getfield 150, (825, 6, 24, 0), 0, 0), (31, .iconst 1, (0, 0, 0, 0), 1, 0), (32, .iadd, (0, 0, 0, 0), 0, 0), (33, .putfield 150, (825, 6, 24, 0), 0, 0), (36, .goto (-36), (0, 0, 0, 0), 0, 0), (39, .aload_n 0, (0, 0, 0, 0), 0, 0), (40, .aload_n 0, (0, 0, 0, 0), 0, 0), (41, .getfield 150, (825, 6, 24, 0), 0, 0), (44, .putfield 156, (827, 6, 26, 0), 0, 0), (47, .aload_n 0, (0, 0, 0, 0), 0, 0), (48, .aload_n 0, (0, 0, 0, 0), 0, 0), (49, .getfield 150, (825, 6, 24, 0), 0, 0), (52, .invokevirtual 153, (0, 0, 0, 0), 0, 0), (55, .istore_n 1, (0, 0, 0, 0), 0, 0), (56, .aload_n 0, (0, 0, 0, 0), 0, 0), (57, .iconst 4, (0, 0, 0, 0), 4, 0), (58, .putfield 159, (826, 6, 25, 0), 0, 0), (61, .iload_n 1, (0, 0, 0, 0), 0, 0), (62, .ifCond .ge 19, (0, 0, 0, 0), 0, 0), (65, .aload_n 0, (0, 0, 0, 0), 0, 0), (66, .iconst 0, (0, 0, 0, 0), 0, 0), (67, .putfield 159, (826, 6, 25, 0), 0, 0), (70, .aload_n 0, (0, 0, 0, 0), 0, 0), (71, .aload_n 0, (0, 0, 0, 0), 0, 0), (72, .getfield 144, (824, 6, 23, 0), 0, 0), (75, .putfield 156, (827, 6, 26, 0), 0, 0), (78, .goto 243, (0, 0, 0, 0), 0, 0), (81, .iload_n 1, (0, 0, 0, 0), 0, 0), (82, .i2l, (0, 0, 0, 0), 0, 0), (83, .ldc2_w 162, (1019, 0, 0, 0), 0, 97), (86, .ldc2_w 164, (1020, 0, 0, 0), 0, 122), (89, .invokestatic 82, (0, 3, 0, 0), 0, 0), (92, .ifCond .eq 42, (0, 0, 0, 0), 0, 0), (95, .aload_n 0, (0, 0, 0, 0), 0, 0), (96, .iconst 1, (0, 0, 0, 0), 1, 0), (97, .putfield 159, (826, 6, 25, 0), 0, 0), (100, .aload_n 0, (0, 0, 0, 0), 0, 0), (101, .aload_n 0, (0, 0, 0, 0), 0, 0), (102, .getfield 150, (825, 6, 24, 0), 0, 0), (105, .invokevirtual 153, (0, 0, 0, 0), 0, 0), (108, .i2l, (0, 0, 0, 0), 0, 0), (109, .ldc2_w 162, (1019, 0, 0, 0), 0, 97), (112, .ldc2_w 164, (1020, 0, 0, 0), 0, 122), (115, .invokestatic 82, (0, 3, 0, 0), 0, 0), (118, .ifCond .eq 203, (0, 0, 0, 0), 0, 0), (121, .aload_n 0, (0, 0, 0, 0), 0, 0), (122, .dup, (0, 0, 0, 0), 0, 0), (123, .getfield 150, (825, 6, 24, 0), 0, 0), (126, .iconst 1, (0, 0, 0, 0), 1, 0), (127, .iadd, (0, 0, 0, 0), 0, 0), (128, .putfield 150, (825, 6, 24, 0), 0, 0), (131, .goto (-31), (0, 0, 0, 0), 0, 0), (134, .iload_n 1, (0, 0, 0, 0), 0, 0), (135, .i2l, (0, 0, 0, 0), 0, 0), (136, .ldc2_w 166, (1021, 0, 0, 0), 0, 48), (139, .ldc2_w 168, (1022, 0, 0, 0), 0, 57), (142, .invokestatic 82, (0, 3, 0, 0), 0, 0), (145, .ifCond .eq 107, (0, 0, 0, 0), 0, 0), (148, .aload_n 0, (0, 0, 0, 0), 0, 0), (149, .iconst 2, (0, 0, 0, 0), 2, 0), (150, .putfield 159, (826, 6, 25, 0), 0, 0), (153, .aload_n 0, (0, 0, 0, 0), 0, 0), (154, .lconst 0, (0, 0, 0, 0), 0, 0), (155, .putfield 170, (828, 6, 27, 1), 0, 0), (158, .iconst 0, (0, 0, 0, 0), 0, 0), (159, .istore_n 2, (0, 0, 0, 0), 0, 0), (160, .aload_n 0, (0, 0, 0, 0), 0, 0), (161, .aload_n 0, (0, 0, 0, 0), 0, 0), (162, .getfield 150, (825, 6, 24, 0), 0, 0), (165, .invokevirtual 153, (0, 0, 0, 0), 0, 0), (168, .i2l, (0, 0, 0, 0), 0, 0), (169, .ldc2_w 166, (1021, 0, 0, 0), 0, 48), (172, .ldc2_w 168, (1022, 0, 0, 0), 0, 57), (175, .invokestatic 82, (0, 3, 0, 0), 0, 0), (178, .ifCond .eq 57, (0, 0, 0, 0), 0, 0), (181, .aload_n 0, (0, 0, 0, 0), 0, 0), (182, .iload_n 2, (0, 0, 0, 0), 0, 0), (183, .iconst 4, (0, 0, 0, 0), 4, 0), (184, .if_icmp .ge 28, (0, 0, 0, 0), 0, 0), (187, .ldc2_w 174, (1023, 0, 0, 0), 0, 10), (190, .aload_n 0, (0, 0, 0, 0), 0, 0), (191, .getfield 170, (828, 6, 27, 0), 0, 0), (194, .lmul, (0, 0, 0, 0), 0, 0), (195, .aload_n 0, (0, 0, 0, 0), 0, 0), (196, .aload_n 0, (0, 0, 0, 0), 0, 0), (197, .getfield 150, (825, 6, 24, 0), 0, 0), (200, .invokevirtual 153, (0, 0, 0, 0), 0, 0), (203, .i2l, (0, 0, 0, 0), 0, 0), (204, .ladd, (0, 0, 0, 0), 0, 0), (205, .ldc2_w 166, (1021, 0, 0, 0), 0, 48), (208, .lsub, (0, 0, 0, 0), 0, 0), (209, .goto 7, (0, 0, 0, 0), 0, 0), (212, .aload_n 0, (0, 0, 0, 0), 0, 0), (213, .getfield 170, (828, 6, 27, 0), 0, 0), (216, .putfield 170, (828, 6, 27, 1), 0, 0), (219, .iinc 2 1, (0, 0, 0, 0), 1, 0), (222, .aload_n 0, (0, 0, 0, 0), 0, 0), (223, .dup, (0, 0, 0, 0), 0, 0), (224, .getfield 150, (825, 6, 24, 0), 0, 0), (227, .iconst 1, (0, 0, 0, 0), 1, 0), (228, .iadd, (0, 0, 0, 0), 0, 0), (229, .putfield 150, (825, 6, 24, 0), 0, 0), (232, .goto (-72), (0, 0, 0, 0), 0, 0), (235, .aload_n 0, (0, 0, 0, 0), 0, 0), (236, .iload_n 2, (0, 0, 0, 0), 0, 0), (237, .iconst 4, (0, 0, 0, 0), 4, 0), (238, .if_icmp .le 7, (0, 0, 0, 0), 0, 0), (241, .iconst 4, (0, 0, 0, 0), 4, 0), (242, .goto 4, (0, 0, 0, 0), 0, 0), (245, .iconst 2, (0, 0, 0, 0), 2, 0), (246, .putfield 159, (826, 6, 25, 0), 0, 0), (249, .goto 72, (0, 0, 0, 0), 0, 0), (252, .iload_n 1, (0, 0, 0, 0), 0, 0), (253, .bipush 40, (0, 0, 0, 0), 40, 0), (255, .if_icmp .eq 45, (0, 0, 0, 0), 0, 0), (258, .iload_n 1, (0, 0, 0, 0), 0, 0), (259, .bipush 41, (0, 0, 0, 0), 41, 0), (261, .if_icmp .eq 39, (0, 0, 0, 0), 0, 0), (264, .iload_n 1, (0, 0, 0, 0), 0, 0), (265, .bipush 59, (0, 0, 0, 0), 59, 0), (267, .if_icmp .eq 33, (0, 0, 0, 0), 0, 0), (270, .iload_n 1, (0, 0, 0, 0), 0, 0), (271, .bipush 43, (0, 0, 0, 0), 43, 0), (273, .if_icmp .eq 27, (0, 0, 0, 0), 0, 0), (276, .iload_n 1, (0, 0, 0, 0), 0, 0), (277, .bipush 45, (0, 0, 0, 0), 45, 0), (279, .if_icmp .eq 21, (0, 0, 0, 0), 0, 0), (282, .iload_n 1, (0, 0, 0, 0), 0, 0), (283, .bipush 42, (0, 0, 0, 0), 42, 0), (285, .if_icmp .eq 15, (0, 0, 0, 0), 0, 0), (288, .iload_n 1, (0, 0, 0, 0), 0, 0), (289, .bipush 60, (0, 0, 0, 0), 60, 0), (291, .if_icmp .eq 9, (0, 0, 0, 0), 0, 0), (294, .iload_n 1, (0, 0, 0, 0), 0, 0), (295, .bipush 61, (0, 0, 0, 0), 61, 0), (297, .if_icmp .ne 24, (0, 0, 0, 0), 0, 0), (300, .aload_n 0, (0, 0, 0, 0), 0, 0), (301, .iconst 3, (0, 0, 0, 0), 3, 0), (302, .putfield 159, (826, 6, 25, 0), 0, 0), (305, .aload_n 0, (0, 0, 0, 0), 0, 0), (306, .iload_n 1, (0, 0, 0, 0), 0, 0), (307, .i2l, (0, 0, 0, 0), 0, 0), (308, .putfield 170, (828, 6, 27, 1), 0, 0), (311, .aload_n 0, (0, 0, 0, 0), 0, 0), (312, .dup, (0, 0, 0, 0), 0, 0), (313, .getfield 150, (825, 6, 24, 0), 0, 0), (316, .iconst 1, (0, 0, 0, 0), 1, 0), (317, .iadd, (0, 0, 0, 0), 0, 0), (318, .putfield 150, (825, 6, 24, 0), 0, 0), (321, .return_, (0, 0, 0, 0), 0, 0)]
theorem okX6_next : kX6_next.all (xOk RX6 cX6_next) = true := by decide +kernel
def kX6_fail : List xI := [(0, .aload_n 0, (0, 0, 0, 0), 0, 0), (1, .getfield 176, (830, 6, 29, 0), 0, 0), (4, .ifCond .ne 16, (0, 0, 0, 0), 0, 0), (7, .aload_n 0, (0, 0, 0, 0), 0, 0), (8, .iconst 1, (0, 0, 0, 0), 1, 0), (9, .putfield 176, (830, 6, 29, 3), 0, 0), (12, .aload_n 0, (0, 0, 0, 0), 0, 0), (13, .aload_n 0, (0, 0, 0, 0), 0, 0), (14, .getfield 156, (827, 6, 26, 0), 0, 0), (17, .putfield 180, (831, 6, 30, 0), 0, 0), (20, .return_, (0, 0, 0, 0), 0, 0)]
theorem okX6_fail : kX6_fail.all (xOk RX6 cX6_fail) = true := by decide +kernel
def kX6_isLetter : List xI := [(0, .aload_n 0, (0, 0, 0, 0), 0, 0), (1, .getfield 156, (827, 6, 26, 0), 0, 0), (4, .iload_n 1, (0, 0, 0, 0), 0, 0), (5, .iadd, (0, 0, 0, 0), 0, 0), (6, .aload_n 0, (0, 0, 0, 0), 0, 0), (7, .getfield 150, (825, 6, 24, 0), 0, 0), (10, .if_icmp .ge 25, (0, 0, 0, 0), 0, 0), (13, .aload_n 0, (0, 0, 0, 0), 0, 0), (14, .aload_n 0, (0, 0, 0, 0), 0, 0), (15, .getfield 156, (827, 6, 26, 0), 0, 0), (18, .iload_n 1, (0, 0, 0, 0), 0, 0), (19, .iadd, (0, 0, 0, 0), 0, 0), (20, .invokevirtual 153, (0, 0, 0, 0), 0, 0), (23, .iload_n 2, (0, 0, 0, 0), 0, 0), (24, .if_icmp .ne 7, (0, 0, 0, 0), 0, 0), (27, .iconst 1, (0, 0, 0, 0), 1, 0), (28, .goto 16, (0, 0, 0, 0), 0, 0), (31, .iconst 0, (0, 0, 0, 0), 0, 0), (32, .goto 12, (0, 0, 0, 0), 0, 0), (35, .iload_n 2, (0, 0, 0, 0), 0, 0), (36, .ifCond .ne 7, (0, 0, 0, 0), 0, 0), (39, .iconst 1, (0, 0, 0, 0), 1, 0), (40, .goto 4, (0, 0, 0, 0), 0, 0), (43, .iconst 0, (0, 0, 0, 0), 0, 0), (44, .ireturn, (0, 0, 0, 0), 0, 0)]
theorem okX6_isLetter : kX6_isLetter.all (xOk RX6 cX6_isLetter) = true := by decide +kernel
def kX6_isWord : List xI := [(0, .aload_n 0, (0, 0, 0, 0), 0, 0), (1, .getfield 176, (830, 6, 29, 0), 0, 0), (4, .ifCond .ne 108, (0, 0, 0, 0), 0, 0), (7, .aload_n 0, (0, 0, 0, 0), 0, 0), (8, .getfield 159, (826, 6, 25, 0), 0, 0), (11, .iconst 1, (0, 0, 0, 0), 1, 0), (12, .if_icmp .ne 100, (0, 0, 0, 0), 0, 0), (15, .aload_n 0, (0, 0, 0, 0), 0, 0), (16, .getfield 150, (825, 6, 24, 0), 0, 0), (19, .aload_n 0, (0, 0, 0, 0), 0, 0), (20, .getfield 156, (827, 6, 26, 0), 0, 0), (23, .bipush 8, (0, 0, 0, 0), 8, 0), (25, .iadd, (0, 0, 0, 0), 0, 0), (26, .if_icmp .gt 86, (0, 0, 0, 0), 0, 0), (29, .aload_n 0, (0, 0, 0, 0), 0, 0), (30, .iconst 0, (0, 0, 0, 0), 0, 0), (31, .iload_n 1, (0, 0, 0, 0), 0, 0), (32, .invokevirtual 183, (0, 0, 0, 0), 0, 0), (35, .ifCond .eq 77, (0, 0, 0, 0), 0, 0), (38, .aload_n 0, (0, 0, 0, 0), 0, 0), (39, .iconst 1, (0, 0, 0, 0), 1, 0), (40, .iload_n 2, (0, 0, 0, 0), 0, 0), (41, .invokevirtual 183, (0, 0, 0, 0), 0, 0), (44, .ifCond .eq 68, (0, 0, 0, 0), 0, 0), (47, .aload_n 0, (0, 0, 0, 0), 0, 0), (48, .iconst 2, (0, 0, 0, 0), 2, 0), (49, .iload_n 3, (0, 0, 0, 0), 0, 0), (50, .invokevirtual 183, (0, 0, 0, 0), 0, 0), (53, .ifCond .eq 59, (0, 0, 0, 0), 0, 0), (56, .aload_n 0, (0, 0, 0, 0), 0, 0), (57, .iconst 3, (0, 0, 0, 0), 3, 0), (58, .iload 4, (0, 0, 0, 0), 0, 0), (60, .invokevirtual 183, (0, 0, 0, 0), 0, 0), (63, .ifCond .eq 49, (0, 0, 0, 0), 0, 0), (66, .aload_n 0, (0, 0, 0, 0), 0, 0), (67, .iconst 4, (0, 0, 0, 0), 4, 0), (68, .iload 5, (0, 0, 0, 0), 0, 0), (70, .invokevirtual 183, (0, 0, 0, 0), 0, 0), (73, .ifCond .eq 39, (0, 0, 0, 0), 0, 0), (76, .aload_n 0, (0, 0, 0, 0), 0, 0), (77, .iconst 5, (0, 0, 0, 0), 5, 0), (78, .iload 6, (0, 0, 0, 0), 0, 0), (80, .invokevirtual 183, (0, 0, 0, 0), 0, 0), (83, .ifCond .eq 29, (0, 0, 0, 0), 0, 0), (86, .aload_n 0, (0, 0, 0, 0), 0, 0), (87, .bipush 6, (0, 0, 0, 0), 6, 0), (89, .iload 7, (0, 0, 0, 0), 0, 0), (91, .invokevirtual 183, (0, 0, 0, 0), 0, 0), (94, .ifCond .eq 18, (0, 0, 0, 0), 0, 0), (97, .aload_n 0, (0, 0, 0, 0), 0, 0), (98, .bipush 7, (0, 0, 0, 0), 7, 0), (100, .iload 8, (0, 0, 0, 0), 0, 0), (102, .invokevirtual 183, (0, 0, 0, 0), 0, 0), (105, .ifCond .eq 7, (0, 0, 0, 0), 0, 0), (108, .iconst 1, (0, 0, 0, 0), 1, 0), (109, .goto 4, (0, 0, 0, 0), 0, 0), (112, .iconst 0, (0, 0, 0, 0), 0, 0), (113, .ireturn, (0, 0, 0, 0), 0, 0)]
theorem okX6_isWord : kX6_isWord.all (xOk RX6 cX6_isWord) = true := by decide +kernel
def kX6_isSign : List xI := [(0, .aload_n 0, (0, 0, 0, 0), 0, 0), (1, .getfield 176, (830, 6, 29, 0), 0, 0), (4, .ifCond .ne 25, (0, 0, 0, 0), 0, 0), (7, .aload_n 0, (0, 0, 0, 0), 0, 0), (8, .getfield 159, (826, 6, 25, 0), 0, 0), (11, .iconst 3, (0, 0, 0, 0), 3, 0), (12, .if_icmp .ne 17, (0, 0, 0, 0), 0, 0), (15, .aload_n 0, (0, 0, 0, 0), 0, 0), (16, .getfield 170, (828, 6, 27, 0), 0, 0), (19, .iload_n 1, (0, 0, 0, 0), 0, 0), (20, .i2l, (0, 0, 0, 0), 0, 0), (21, .lcmp, (0, 0, 0, 0), 0, 0), (22, .ifCond .ne 7, (0, 0, 0, 0), 0, 0), (25, .iconst 1, (0, 0, 0, 0), 1, 0), (26, .goto 4, (0, 0, 0, 0), 0, 0), (29, .iconst 0, (0, 0, 0, 0), 0, 0), (30, .ireturn, (0, 0, 0, 0), 0, 0)]
theorem okX6_isSign : kX6_isSign.all (xOk RX6 cX6_isSign) = true := by decide +kernel
def kX6_opens : List xI := [(0, .aload_n 0, (0, 0, 0, 0), 0, 0), (1, .getfield 186, (829, 6, 28, 0), 0, 0), (4, .iconst 5, (0, 0, 0, 0), 5, 0), (5, .if_icmp .ne 9, (0, 0, 0, 0), 0, 0), (8, .aload_n 0, (0, 0, 0, 0), 0, 0), (9, .invokevirtual 189, (0, 0, 0, 0), 0, 0), (12, .iconst 0, (0, 0, 0, 0), 0, 0), (13, .ireturn, (0, 0, 0, 0), 0, 0), (14, .aload_n 0, (0, 0, 0, 0), 0, 0), (15, .dup, (0, 0, 0, 0), 0, 0), (16, .getfield 186, (829, 6, 28, 0), 0, 0), (19, .iconst 1, (0, 0, 0, 0), 1, 0), (20, .iadd, (0, 0, 0, 0), 0, 0), (21, .putfield 186, (829, 6, 28, 0), 0, 0), (24, .aload_n 0, (0, 0, 0, 0), 0, 0), (25, .invokevirtual 192, (0, 0, 0, 0), 0, 0), (28, .iconst 1, (0, 0, 0, 0), 1, 0), (29, .ireturn, (0, 0, 0, 0), 0, 0)]
theorem okX6_opens : kX6_opens.all (xOk RX6 cX6_opens) = true := by decide +kernel
def kX6_name : List xI := [(0, .aload_n 0, (0, 0, 0, 0), 0, 0), (1, .bipush 104, (0, 0, 0, 0), 104, 0), (3, .bipush 97, (0, 0, 0, 0), 97, 0), (5, .bipush 114, (0, 0, 0, 0), 114, 0), (7, .bipush 109, (0, 0, 0, 0), 109, 0), (9, .iconst 0, (0, 0, 0, 0), 0, 0), (10, .iconst 0, (0, 0, 0, 0), 0, 0), (11, .iconst 0, (0, 0, 0, 0), 0, 0), (12, .iconst 0, (0, 0, 0, 0), 0, 0), (13, .invokevirtual 195, (0, 0, 0, 0), 0, 0), (16, .ifCond .eq 8, (0, 0, 0, 0), 0, 0), (19, .aload_n 0, (0, 0, 0, 0), 0, 0), (20, .getfield 199, (817, 6, 16, 0), 0, 0), (23, .ireturn, (0, 0, 0, 0), 0, 0), (24, .aload_n 0, (0, 0, 0, 0), 0, 0), (25, .bipush 108, (0, 0, 0, 0), 108, 0), (27, .bipush 97, (0, 0, 0, 0), 97, 0), (29, .bipush 119, (0, 0, 0, 0), 119, 0), (31, .bipush 115, (0, 0, 0, 0), 115, 0), (33, .iconst 0, (0, 0, 0, 0), 0, 0), (34, .iconst 0, (0, 0, 0, 0), 0, 0), (35, .iconst 0, (0, 0, 0, 0), 0, 0), (36, .iconst 0, (0, 0, 0, 0), 0, 0), (37, .invokevirtual 195, (0, 0, 0, 0), 0, 0), (40, .ifCond .eq 8, (0, 0, 0, 0), 0, 0), (43, .aload_n 0, (0, 0, 0, 0), 0, 0), (44, .getfield 202, (818, 6, 17, 0), 0, 0), (47, .ireturn, (0, 0, 0, 0), 0, 0), (48, .aload_n 0, (0, 0, 0, 0), 0, 0), (49, .bipush 110, (0, 0, 0, 0), 110, 0), (51, .bipush 117, (0, 0, 0, 0), 117, 0), (53, .bipush 109, (0, 0, 0, 0), 109, 0), (55, .bipush 98, (0, 0, 0, 0), 98, 0), (57, .bipush 101, (0, 0, 0, 0), 101, 0), (59, .bipush 114, (0, 0, 0, 0), 114, 0), (61, .iconst 0, (0, 0, 0, 0), 0, 0), (62, .iconst 0, (0, 0, 0, 0), 0, 0), (63, .invokevirtual 195, (0, 0, 0, 0), 0, 0), (66, .ifCond .eq 8, (0, 0, 0, 0), 0, 0), (69, .aload_n 0, (0, 0, 0, 0), 0, 0), (70, .getfield 205, (819, 6, 18, 0), 0, 0), (73, .ireturn, (0, 0, 0, 0), 0, 0), (74, .aload_n 0, (0, 0, 0, 0), 0, 0), (75, .bipush 121, (0, 0, 0, 0), 121, 0), (77, .bipush 101, (0, 0, 0, 0), 101, 0), (79, .bipush 97, (0, 0, 0, 0), 97, 0), (81, .bipush 114, (0, 0, 0, 0), 114, 0), (83, .iconst 0, (0, 0, 0, 0), 0, 0), (84, .iconst 0, (0, 0, 0, 0), 0, 0), (85, .iconst 0, (0, 0, 0, 0), 0, 0), (86, .iconst 0, (0, 0, 0, 0), 0, 0), (87, .invokevirtual 195, (0, 0, 0, 0), 0, 0), (90, .ifCond .eq 8, (0, 0, 0, 0), 0, 0), (93, .aload_n 0, (0, 0, 0, 0), 0, 0), (94, .getfield 208, (820, 6, 19, 0), 0, 0), (97, .ireturn, (0, 0, 0, 0), 0, 0), (98, .aload_n 0, (0, 0, 0, 0), 0, 0), (99, .bipush 115, (0, 0, 0, 0), 115, 0), (101, .bipush 101, (0, 0, 0, 0), 101, 0), (103, .bipush 114, (0, 0, 0, 0), 114, 0), (105, .bipush 118, (0, 0, 0, 0), 118, 0), (107, .bipush 101, (0, 0, 0, 0), 101, 0), (109, .bipush 100, (0, 0, 0, 0), 100, 0), (111, .iconst 0, (0, 0, 0, 0), 0, 0), (112, .iconst 0, (0, 0, 0, 0), 0, 0), (113, .invokevirtual 195, (0, 0, 0, 0), 0, 0), (116, .ifCond .eq 8, (0, 0, 0, 0), 0, 0), (119, .aload_n 0, (0, 0, 0, 0), 0, 0), (120, .getfield 211, (821, 6, 20, 0), 0, 0), (123, .ireturn, (0, 0, 0, 0), 0, 0), (124, .aload_n 0, (0, 0, 0, 0), 0, 0), (125, .bipush 97, (0, 0, 0, 0), 97, 0), (127, .bipush 108, (0, 0, 0, 0), 108, 0), (129, .bipush 105, (0, 0, 0, 0), 105, 0), (131, .bipush 118, (0, 0, 0, 0), 118, 0), (133, .bipush 101, (0, 0, 0, 0), 101, 0), (135, .iconst 0, (0, 0, 0, 0), 0, 0), (136, .iconst 0, (0, 0, 0, 0), 0, 0), (137, .iconst 0, (0, 0, 0, 0), 0, 0), (138, .invokevirtual 195, (0, 0, 0, 0), 0, 0), (141, .ifCond .eq 8, (0, 0, 0, 0), 0, 0), (144, .aload_n 0, (0, 0, 0, 0), 0, 0), (145, .getfield 214, (822, 6, 21, 0), 0, 0), (148, .ireturn, (0, 0, 0, 0), 0, 0), (149, .aload_n 0, (0, 0, 0, 0), 0, 0), (150, .invokevirtual 189, (0, 0, 0, 0), 0, 0), (153, .iconst 0, (0, 0, 0, 0), 0, 0), (154, .ireturn, (0, 0, 0, 0), 0, 0)]
theorem okX6_name : kX6_name.all (xOk RX6 cX6_name) = true := by decide +kernel
def kX6_atom : List xI := [(0, .iconst 0, (0, 0, 0, 0), 0, 0), (1, .istore_n 1, (0, 0, 0, 0), 0, 0), (2, .aload_n 0, (0, 0, 0, 0), 0, 0), (3, .bipush 45, (0, 0, 0, 0), 45, 0), (5, .invokevirtual 217, (0, 0, 0, 0), 0, 0), (8, .ifCond .eq 29, (0, 0, 0, 0), 0, 0), (11, .aload_n 0, (0, 0, 0, 0), 0, 0), (12, .invokevirtual 220, (0, 0, 0, 0), 0, 0), (15, .ifCond .eq 146, (0, 0, 0, 0), 0, 0), (18, .aload_n 0, (0, 0, 0, 0), 0, 0), (19, .invokevirtual 224, (0, 0, 0, 0), 0, 0), (22, .ineg, (0, 0, 0, 0), 0, 0), (23, .istore_n 1, (0, 0, 0, 0), 0, 0), (24, .aload_n 0, (0, 0, 0, 0), 0, 0), (25, .dup, (0, 0, 0, 0), 0, 0), (26, .getfield 186, (829, 6, 28, 0), 0, 0), (29, .iconst 1, (0, 0, 0, 0), 1, 0), (30, .isub, (0, 0, 0, 0), 0, 0), (31, .putfield 186, (829, 6, 28, 0), 0, 0), (34, .goto 127, (0, 0, 0, 0), 0, 0), (37, .aload_n 0, (0, 0, 0, 0), 0, 0), (38, .bipush 40, (0, 0, 0, 0), 40, 0), (40, .invokevirtual 217, (0, 0, 0, 0), 0, 0), (43, .ifCond .eq 52, (0, 0, 0, 0), 0, 0), (46, .aload_n 0, (0, 0, 0, 0), 0, 0), (47, .invokevirtual 220, (0, 0, 0, 0), 0, 0), (50, .ifCond .eq 111, (0, 0, 0, 0), 0, 0), (53, .aload_n 0, (0, 0, 0, 0), 0, 0), (54, .invokevirtual 227, (0, 0, 0, 0), 0, 0), (57, .istore_n 1, (0, 0, 0, 0), 0, 0), (58, .aload_n 0, (0, 0, 0, 0), 0, 0), (59, .bipush 41, (0, 0, 0, 0), 41, 0), (61, .invokevirtual 217, (0, 0, 0, 0), 0, 0), (64, .ifCond .ne 7, (0, 0, 0, 0), 0, 0), (67, .aload_n 0, (0, 0, 0, 0), 0, 0), (68, .invokevirtual 189, (0, 0, 0, 0), 0, 0), (71, .aload_n 0, (0, 0, 0, 0), 0, 0), (72, .dup, (0, 0, 0, 0), 0, 0), (73, .getfield 186, (829, 6, 28, 0), 0, 0), (76, .iconst 1, (0, 0, 0, 0), 1, 0), (77, .isub, (0, 0, 0, 0), 0, 0), (78, .putfield 186, (829, 6, 28, 0), 0, 0), (81, .aload_n 0, (0, 0, 0, 0), 0, 0), (82, .getfield 176, (830, 6, 29, 0), 0, 0), (85, .ifCond .ne 76, (0, 0, 0, 0), 0, 0), (88, .aload_n 0, (0, 0, 0, 0), 0, 0), (89, .invokevirtual 192, (0, 0, 0, 0), 0, 0), (92, .goto 69, (0, 0, 0, 0), 0, 0), (95, .aload_n 0, (0, 0, 0, 0), 0, 0), (96, .getfield 176, (830, 6, 29, 0), 0, 0), (99, .ifCond .ne 24, (0, 0, 0, 0), 0, 0), (102, .aload_n 0, (0, 0, 0, 0), 0, 0), (103, .getfield 159, (826, 6, 25, 0), 0, 0), (106, .iconst 2, (0, 0, 0, 0), 2, 0), (107, .if_icmp .ne 16, (0, 0, 0, 0), 0, 0), (110, .aload_n 0, (0, 0, 0, 0), 0, 0), (111, .getfield 170, (828, 6, 27, 0), 0, 0), (114, .l2i, (0, 0, 0, 0), 0, 0), (115, .istore_n 1, (0, 0, 0, 0), 0, 0), (116, .aload_n 0, (0, 0, 0, 0), 0, 0), (117, .invokevirtual 192, (0, 0, 0, 0), 0, 0), (120, .goto 41, (0, 0, 0, 0), 0, 0), (123, .aload_n 0, (0, 0, 0, 0), 0, 0), (124, .getfield 176, (830, 6, 29, 0), 0, 0), (127, .ifCond .ne 30, (0, 0, 0, 0), 0, 0), (130, .aload_n 0, (0, 0, 0, 0), 0, 0), (131, .getfield 159, (826, 6, 25, 0), 0, 0), (134, .iconst 1, (0, 0, 0, 0), 1, 0), (135, .if_icmp .ne 22, (0, 0, 0, 0), 0, 0), (138, .aload_n 0, (0, 0, 0, 0), 0, 0), (139, .invokevirtual 230, (0, 0, 0, 0), 0, 0), (142, .istore_n 1, (0, 0, 0, 0), 0, 0), (143, .aload_n 0, (0, 0, 0, 0), 0, 0), (144, .getfield 176, (830, 6, 29, 0), 0, 0), (147, .ifCond .ne 14, (0, 0, 0, 0), 0, 0), (150, .aload_n 0, (0, 0, 0, 0), 0, 0), (151, .invokevirtual 192, (0, 0, 0, 0), 0, 0), (154, .goto 7, (0, 0, 0, 0), 0, 0), (157, .aload_n 0, (0, 0, 0, 0), 0, 0), (158, .invokevirtual 189, (0, 0, 0, 0), 0, 0), (161, .iload_n 1, (0, 0, 0, 0), 0, 0), (162, .ireturn, (0, 0, 0, 0), 0, 0)]
theorem okX6_atom : kX6_atom.all (xOk RX6 cX6_atom) = true := by decide +kernel
def kX6_term : List xI := [(0, .aload_n 0, (0, 0, 0, 0), 0, 0), (1, .invokevirtual 224, (0, 0, 0, 0), 0, 0), (4, .istore_n 1, (0, 0, 0, 0), 0, 0), (5, .aload_n 0, (0, 0, 0, 0), 0, 0), (6, .bipush 42, (0, 0, 0, 0), 42, 0), (8, .invokevirtual 217, (0, 0, 0, 0), 0, 0), (11, .ifCond .eq 17, (0, 0, 0, 0), 0, 0), (14, .aload_n 0, (0, 0, 0, 0), 0, 0), (15, .invokevirtual 192, (0, 0, 0, 0), 0, 0), (18, .iload_n 1, (0, 0, 0, 0), 0, 0), (19, .aload_n 0, (0, 0, 0, 0), 0, 0), (20, .invokevirtual 224, (0, 0, 0, 0), 0, 0), (23, .imul, (0, 0, 0, 0), 0, 0), (24, .istore_n 1, (0, 0, 0, 0), 0, 0), (25, .goto (-20), (0, 0, 0, 0), 0, 0), (28, .iload_n 1, (0, 0, 0, 0), 0, 0), (29, .ireturn, (0, 0, 0, 0), 0, 0)]
theorem okX6_term : kX6_term.all (xOk RX6 cX6_term) = true := by decide +kernel
def kX6_added : List xI := [(0, .aload_n 0, (0, 0, 0, 0), 0, 0), (1, .invokevirtual 233, (0, 0, 0, 0), 0, 0), (4, .istore_n 1, (0, 0, 0, 0), 0, 0), (5, .aload_n 0, (0, 0, 0, 0), 0, 0), (6, .bipush 43, (0, 0, 0, 0), 43, 0), (8, .invokevirtual 217, (0, 0, 0, 0), 0, 0), (11, .ifCond .ne 12, (0, 0, 0, 0), 0, 0), (14, .aload_n 0, (0, 0, 0, 0), 0, 0), (15, .bipush 45, (0, 0, 0, 0), 45, 0), (17, .invokevirtual 217, (0, 0, 0, 0), 0, 0), (20, .ifCond .eq 46, (0, 0, 0, 0), 0, 0), (23, .aload_n 0, (0, 0, 0, 0), 0, 0), (24, .getfield 170, (828, 6, 27, 0), 0, 0), (27, .ldc2_w 235, (1076, 0, 0, 0), 0, 43), (30, .lcmp, (0, 0, 0, 0), 0, 0), (31, .ifCond .ne 7, (0, 0, 0, 0), 0, 0), (34, .iconst 1, (0, 0, 0, 0), 1, 0), (35, .goto 4, (0, 0, 0, 0), 0, 0), (38, .iconst 0, (0, 0, 0, 0), 0, 0), (39, .istore_n 2, (0, 0, 0, 0), 0, 0), (40, .aload_n 0, (0, 0, 0, 0), 0, 0), (41, .invokevirtual 192, (0, 0, 0, 0), 0, 0), (44, .aload_n 0, (0, 0, 0, 0), 0, 0), (45, .invokevirtual 233, (0, 0, 0, 0), 0, 0), (48, .istore_n 3, (0, 0, 0, 0), 0, 0), (49, .iload_n 2, (0, 0, 0, 0), 0, 0), (50, .ifCond .eq 9, (0, 0, 0, 0), 0, 0), (53, .iload_n 1, (0, 0, 0, 0), 0, 0), (54, .iload_n 3, (0, 0, 0, 0), 0, 0), (55, .iadd, (0, 0, 0, 0), 0, 0), (56, .goto 6, (0, 0, 0, 0), 0, 0), (59, .iload_n 1, (0, 0, 0, 0), 0, 0), (60, .iload_n 3, (0, 0, 0, 0), 0, 0), (61, .isub, (0, 0, 0, 0), 0, 0), (62, .istore_n 1, (0, 0, 0, 0), 0, 0), (63, .goto (-58), (0, 0, 0, 0), 0, 0), (66, .iload_n 1, (0, 0, 0, 0), 0, 0), (67, .ireturn, (0, 0, 0, 0), 0, 0)]
theorem okX6_added : kX6_added.all (xOk RX6 cX6_added) = true := by decide +kernel
def kX6_not : List xI := [(0, .aload_n 0, (0, 0, 0, 0), 0, 0), (1, .bipush 110, (0, 0, 0, 0), 110, 0), (3, .bipush 111, (0, 0, 0, 0), 111, 0), (5, .bipush 116, (0, 0, 0, 0), 116, 0), (7, .iconst 0, (0, 0, 0, 0), 0, 0), (8, .iconst 0, (0, 0, 0, 0), 0, 0), (9, .iconst 0, (0, 0, 0, 0), 0, 0), (10, .iconst 0, (0, 0, 0, 0), 0, 0), (11, .iconst 0, (0, 0, 0, 0), 0, 0), (12, .invokevirtual 195, (0, 0, 0, 0), 0, 0), (15, .ifCond .eq 37, (0, 0, 0, 0), 0, 0), (18, .aload_n 0, (0, 0, 0, 0), 0, 0), (19, .invokevirtual 220, (0, 0, 0, 0), 0, 0), (22, .ifCond .ne 5, (0, 0, 0, 0), 0, 0), (25, .iconst 0, (0, 0, 0, 0), 0, 0), (26, .ireturn, (0, 0, 0, 0), 0, 0), (27, .aload_n 0, (0, 0, 0, 0), 0, 0), (28, .invokevirtual 237, (0, 0, 0, 0), 0, 0), (31, .istore_n 1, (0, 0, 0, 0), 0, 0), (32, .aload_n 0, (0, 0, 0, 0), 0, 0), (33, .dup, (0, 0, 0, 0), 0, 0), (34, .getfield 186, (829, 6, 28, 0), 0, 0), (37, .iconst 1, (0, 0, 0, 0), 1, 0), (38, .isub, (0, 0, 0, 0), 0, 0), (39, .putfield 186, (829, 6, 28, 0), 0, 0), (42, .iload_n 1, (0, 0, 0, 0), 0, 0), (43, .ifCond .ne 7, (0, 0, 0, 0), 0, 0), (46, .iconst 1, (0, 0, 0, 0), 1, 0), (47, .goto 4, (0, 0, 0, 0), 0, 0), (50, .iconst 0, (0, 0, 0, 0), 0, 0), (51, .ireturn, (0, 0, 0, 0), 0, 0), (52, .aload_n 0, (0, 0, 0, 0), 0, 0), (53, .invokevirtual 240, (0, 0, 0, 0), 0, 0), (56, .istore_n 1, (0, 0, 0, 0), 0, 0), (57, .aload_n 0, (0, 0, 0, 0), 0, 0), (58, .bipush 60, (0, 0, 0, 0), 60, 0), (60, .invokevirtual 217, (0, 0, 0, 0), 0, 0), (63, .ifCond .ne 14, (0, 0, 0, 0), 0, 0), (66, .aload_n 0, (0, 0, 0, 0), 0, 0), (67, .bipush 61, (0, 0, 0, 0), 61, 0), (69, .invokevirtual 217, (0, 0, 0, 0), 0, 0), (72, .ifCond .ne 5, (0, 0, 0, 0), 0, 0), (75, .iload_n 1, (0, 0, 0, 0), 0, 0), (76, .ireturn, (0, 0, 0, 0), 0, 0), (77, .aload_n 0, (0, 0, 0, 0), 0, 0), (78, .getfield 170, (828, 6, 27, 0), 0, 0), (81, .ldc2_w 243, (1077, 0, 0, 0), 0, 60), (84, .lcmp, (0, 0, 0, 0), 0, 0), (85, .ifCond .ne 7, (0, 0, 0, 0), 0, 0), (88, .iconst 1, (0, 0, 0, 0), 1, 0), (89, .goto 4, (0, 0, 0, 0), 0, 0), (92, .iconst 0, (0, 0, 0, 0), 0, 0), (93, .istore_n 2, (0, 0, 0, 0), 0, 0), (94, .aload_n 0, (0, 0, 0, 0), 0, 0), (95, .invokevirtual 192, (0, 0, 0, 0), 0, 0), (98, .aload_n 0, (0, 0, 0, 0), 0, 0), (99, .invokevirtual 240, (0, 0, 0, 0), 0, 0), (102, .istore_n 3, (0, 0, 0, 0), 0, 0), (103, .iload_n 2, (0, 0, 0, 0), 0, 0), (104, .ifCond .eq 11, (0, 0, 0, 0), 0, 0), (107, .iload_n 1, (0, 0, 0, 0), 0, 0), (108, .iload_n 3, (0, 0, 0, 0), 0, 0), (109, .if_icmp .ge 15, (0, 0, 0, 0), 0, 0), (112, .goto 8, (0, 0, 0, 0), 0, 0), (115, .iload_n 1, (0, 0, 0, 0), 0, 0), (116, .iload_n 3, (0, 0, 0, 0), 0, 0), (117, .if_icmp .ne 7, (0, 0, 0, 0), 0, 0), (120, .iconst 1, (0, 0, 0, 0), 1, 0), (121, .goto 4, (0, 0, 0, 0), 0, 0), (124, .iconst 0, (0, 0, 0, 0), 0, 0), (125, .ireturn, (0, 0, 0, 0), 0, 0)]
theorem okX6_not : kX6_not.all (xOk RX6 cX6_not) = true := by decide +kernel
def kX6_both : List xI := [(0, .aload_n 0, (0, 0, 0, 0), 0, 0), (1, .invokevirtual 237, (0, 0, 0, 0), 0, 0), (4, .istore_n 1, (0, 0, 0, 0), 0, 0), (5, .aload_n 0, (0, 0, 0, 0), 0, 0), (6, .bipush 97, (0, 0, 0, 0), 97, 0), (8, .bipush 110, (0, 0, 0, 0), 110, 0), (10, .bipush 100, (0, 0, 0, 0), 100, 0), (12, .iconst 0, (0, 0, 0, 0), 0, 0), (13, .iconst 0, (0, 0, 0, 0), 0, 0), (14, .iconst 0, (0, 0, 0, 0), 0, 0), (15, .iconst 0, (0, 0, 0, 0), 0, 0), (16, .iconst 0, (0, 0, 0, 0), 0, 0), (17, .invokevirtual 195, (0, 0, 0, 0), 0, 0), (20, .ifCond .eq 29, (0, 0, 0, 0), 0, 0), (23, .aload_n 0, (0, 0, 0, 0), 0, 0), (24, .invokevirtual 192, (0, 0, 0, 0), 0, 0), (27, .aload_n 0, (0, 0, 0, 0), 0, 0), (28, .invokevirtual 237, (0, 0, 0, 0), 0, 0), (31, .istore_n 2, (0, 0, 0, 0), 0, 0), (32, .iload_n 1, (0, 0, 0, 0), 0, 0), (33, .ifCond .eq 11, (0, 0, 0, 0), 0, 0), (36, .iload_n 2, (0, 0, 0, 0), 0, 0), (37, .ifCond .eq 7, (0, 0, 0, 0), 0, 0), (40, .iconst 1, (0, 0, 0, 0), 1, 0), (41, .goto 4, (0, 0, 0, 0), 0, 0), (44, .iconst 0, (0, 0, 0, 0), 0, 0), (45, .istore_n 1, (0, 0, 0, 0), 0, 0), (46, .goto (-41), (0, 0, 0, 0), 0, 0), (49, .iload_n 1, (0, 0, 0, 0), 0, 0), (50, .ireturn, (0, 0, 0, 0), 0, 0)]
theorem okX6_both : kX6_both.all (xOk RX6 cX6_both) = true := by decide +kernel
def kX6_either : List xI := [(0, .aload_n 0, (0, 0, 0, 0), 0, 0), (1, .invokevirtual 245, (0, 0, 0, 0), 0, 0), (4, .istore_n 1, (0, 0, 0, 0), 0, 0), (5, .aload_n 0, (0, 0, 0, 0), 0, 0), (6, .bipush 111, (0, 0, 0, 0), 111, 0), (8, .bipush 114, (0, 0, 0, 0), 114, 0), (10, .iconst 0, (0, 0, 0, 0), 0, 0), (11, .iconst 0, (0, 0, 0, 0), 0, 0), (12, .iconst 0, (0, 0, 0, 0), 0, 0), (13, .iconst 0, (0, 0, 0, 0), 0, 0), (14, .iconst 0, (0, 0, 0, 0), 0, 0), (15, .iconst 0, (0, 0, 0, 0), 0, 0), (16, .invokevirtual 195, (0, 0, 0, 0), 0, 0), (19, .ifCond .eq 29, (0, 0, 0, 0), 0, 0), (22, .aload_n 0, (0, 0, 0, 0), 0, 0), (23, .invokevirtual 192, (0, 0, 0, 0), 0, 0), (26, .aload_n 0, (0, 0, 0, 0), 0, 0), (27, .invokevirtual 245, (0, 0, 0, 0), 0, 0), (30, .istore_n 2, (0, 0, 0, 0), 0, 0), (31, .iload_n 1, (0, 0, 0, 0), 0, 0), (32, .ifCond .ne 7, (0, 0, 0, 0), 0, 0), (35, .iload_n 2, (0, 0, 0, 0), 0, 0), (36, .ifCond .eq 7, (0, 0, 0, 0), 0, 0), (39, .iconst 1, (0, 0, 0, 0), 1, 0), (40, .goto 4, (0, 0, 0, 0), 0, 0), (43, .iconst 0, (0, 0, 0, 0), 0, 0), (44, .istore_n 1, (0, 0, 0, 0), 0, 0), (45, .goto (-40), (0, 0, 0, 0), 0, 0), (48, .iload_n 1, (0, 0, 0, 0), 0, 0), (49, .ireturn, (0, 0, 0, 0), 0, 0)]
theorem okX6_either : kX6_either.all (xOk RX6 cX6_either) = true := by decide +kernel
def kX6_part : List xI := [(0, .iload_n 1, (0, 0, 0, 0), 0, 0), (1, .ifCond .ne 7, (0, 0, 0, 0), 0, 0), (4, .aload_n 0, (0, 0, 0, 0), 0, 0), (5, .invokevirtual 189, (0, 0, 0, 0), 0, 0), (8, .aload_n 0, (0, 0, 0, 0), 0, 0), (9, .getfield 176, (830, 6, 29, 0), 0, 0), (12, .ifCond .ne 7, (0, 0, 0, 0), 0, 0), (15, .aload_n 0, (0, 0, 0, 0), 0, 0), (16, .invokevirtual 192, (0, 0, 0, 0), 0, 0), (19, .aload_n 0, (0, 0, 0, 0), 0, 0), (20, .getfield 176, (830, 6, 29, 0), 0, 0), (23, .ifCond .eq 7, (0, 0, 0, 0), 0, 0), (26, .iconst 0, (0, 0, 0, 0), 0, 0), (27, .goto 7, (0, 0, 0, 0), 0, 0), (30, .aload_n 0, (0, 0, 0, 0), 0, 0), (31, .invokevirtual 227, (0, 0, 0, 0), 0, 0), (34, .istore_n 2, (0, 0, 0, 0), 0, 0), (35, .aload_n 0, (0, 0, 0, 0), 0, 0), (36, .bipush 59, (0, 0, 0, 0), 59, 0), (38, .invokevirtual 217, (0, 0, 0, 0), 0, 0), (41, .ifCond .ne 7, (0, 0, 0, 0), 0, 0), (44, .aload_n 0, (0, 0, 0, 0), 0, 0), (45, .invokevirtual 189, (0, 0, 0, 0), 0, 0), (48, .aload_n 0, (0, 0, 0, 0), 0, 0), (49, .getfield 176, (830, 6, 29, 0), 0, 0), (52, .ifCond .ne 7, (0, 0, 0, 0), 0, 0), (55, .aload_n 0, (0, 0, 0, 0), 0, 0), (56, .invokevirtual 192, (0, 0, 0, 0), 0, 0), (59, .iload_n 2, (0, 0, 0, 0), 0, 0), (60, .ireturn, (0, 0, 0, 0), 0, 0)]
theorem okX6_part : kX6_part.all (xOk RX6 cX6_part) = true := by decide +kernel
def kX6_read : List xI := [(0, .aload_n 0, (0, 0, 0, 0), 0, 0), (1, .sipush 160, (0, 0, 0, 0), 160, 0), (4, .iload_n 1, (0, 0, 0, 0), 0, 0), (5, .imul, (0, 0, 0, 0), 0, 0), (6, .putfield 147, (823, 6, 22, 0), 0, 0), (9, .aload_n 0, (0, 0, 0, 0), 0, 0), (10, .aload_n 0, (0, 0, 0, 0), 0, 0), (11, .getfield 17, (803, 6, 2, 0), 0, 0), (14, .iload_n 1, (0, 0, 0, 0), 0, 0), (15, .iaload, (0, 0, 0, 0), 0, 0), (16, .putfield 144, (824, 6, 23, 0), 0, 0), (19, .aload_n 0, (0, 0, 0, 0), 0, 0), (20, .iconst 0, (0, 0, 0, 0), 0, 0), (21, .putfield 150, (825, 6, 24, 0), 0, 0), (24, .aload_n 0, (0, 0, 0, 0), 0, 0), (25, .iconst 0, (0, 0, 0, 0), 0, 0), (26, .putfield 186, (829, 6, 28, 0), 0, 0), (29, .aload_n 0, (0, 0, 0, 0), 0, 0), (30, .iconst 0, (0, 0, 0, 0), 0, 0), (31, .putfield 176, (830, 6, 29, 3), 0, 0), (34, .aload_n 0, (0, 0, 0, 0), 0, 0), (35, .invokevirtual 192, (0, 0, 0, 0), 0, 0), (38, .aload_n 0, (0, 0, 0, 0), 0, 0), (39, .aload_n 0, (0, 0, 0, 0), 0, 0), (40, .bipush 100, (0, 0, 0, 0), 100, 0), (42, .bipush 97, (0, 0, 0, 0), 97, 0), (44, .bipush 114, (0, 0, 0, 0), 114, 0), (46, .bipush 101, (0, 0, 0, 0), 101, 0), (48, .bipush 115, (0, 0, 0, 0), 115, 0), (50, .iconst 0, (0, 0, 0, 0), 0, 0), (51, .iconst 0, (0, 0, 0, 0), 0, 0), (52, .iconst 0, (0, 0, 0, 0), 0, 0), (53, .invokevirtual 195, (0, 0, 0, 0), 0, 0), (56, .invokevirtual 248, (0, 0, 0, 0), 0, 0), (59, .istore_n 3, (0, 0, 0, 0), 0, 0), (60, .aload_n 0, (0, 0, 0, 0), 0, 0), (61, .getfield 176, (830, 6, 29, 0), 0, 0), (64, .ifCond .eq 7, (0, 0, 0, 0), 0, 0), (67, .iconst 0, (0, 0, 0, 0), 0, 0), (68, .goto 24, (0, 0, 0, 0), 0, 0), (71, .aload_n 0, (0, 0, 0, 0), 0, 0), (72, .aload_n 0, (0, 0, 0, 0), 0, 0), (73, .bipush 104, (0, 0, 0, 0), 104, 0), (75, .bipush 97, (0, 0, 0, 0), 97, 0), (77, .bipush 114, (0, 0, 0, 0), 114, 0), (79, .bipush 109, (0, 0, 0, 0), 109, 0), (81, .bipush 115, (0, 0, 0, 0), 115, 0), (83, .iconst 0, (0, 0, 0, 0), 0, 0), (84, .iconst 0, (0, 0, 0, 0), 0, 0), (85, .iconst 0, (0, 0, 0, 0), 0, 0), (86, .invokevirtual 195, (0, 0, 0, 0), 0, 0), (89, .invokevirtual 248, (0, 0, 0, 0), 0, 0), (92, .istore 4, (0, 0, 0, 0), 0, 0), (94, .aload_n 0, (0, 0, 0, 0), 0, 0), (95, .getfield 176, (830, 6, 29, 0), 0, 0), (98, .ifCond .eq 7, (0, 0, 0, 0), 0, 0), (101, .iconst 0, (0, 0, 0, 0), 0, 0), (102, .goto 23, (0, 0, 0, 0), 0, 0), (105, .aload_n 0, (0, 0, 0, 0), 0, 0), (106, .aload_n 0, (0, 0, 0, 0), 0, 0), (107, .bipush 115, (0, 0, 0, 0), 115, 0), (109, .bipush 105, (0, 0, 0, 0), 105, 0), (111, .bipush 116, (0, 0, 0, 0), 116, 0), (113, .bipush 115, (0, 0, 0, 0), 115, 0), (115, .iconst 0, (0, 0, 0, 0), 0, 0), (116, .iconst 0, (0, 0, 0, 0), 0, 0), (117, .iconst 0, (0, 0, 0, 0), 0, 0), (118, .iconst 0, (0, 0, 0, 0), 0, 0), (119, .invokevirtual 195, (0, 0, 0, 0), 0, 0), (122, .invokevirtual 248, (0, 0, 0, 0), 0, 0), (125, .istore 5, (0, 0, 0, 0), 0, 0), (127, .aload_n 0, (0, 0, 0, 0), 0, 0), (128, .getfield 176, (830, 6, 29, 0), 0, 0), (131, .ifCond .ne 14, (0, 0, 0, 0), 0, 0), (134, .aload_n 0, (0, 0, 0, 0), 0, 0), (135, .getfield 159, (826, 6, 25, 0), 0, 0), (138, .ifCond .eq 7, (0, 0, 0, 0), 0, 0), (141, .aload_n 0, (0, 0, 0, 0), 0, 0), (142, .invokevirtual 189, (0, 0, 0, 0), 0, 0), (145, .iload_n 2, (0, 0, 0, 0), 0, 0), (146, .ifCond .ne 7, (0, 0, 0, 0), 0, 0), (149, .iload_n 3, (0, 0, 0, 0), 0, 0), (150, .goto 15, (0, 0, 0, 0), 0, 0), (153, .iload_n 2, (0, 0, 0, 0), 0, 0), (154, .iconst 1, (0, 0, 0, 0), 1, 0), (155, .if_icmp .ne 8, (0, 0, 0, 0), 0, 0), (158, .iload 4, (0, 0, 0, 0), 0, 0), (160, .goto 5, (0, 0, 0, 0), 0, 0), (163, .iload 5, (0, 0, 0, 0), 0, 0), (165, .ireturn, (0, 0, 0, 0), 0, 0)]
theorem okX6_read : kX6_read.all (xOk RX6 cX6_read) = true := by decide +kernel
def kX6_text : List xI := [(0, .aload_n 0, (0, 0, 0, 0), 0, 0), (1, .getfield 76, (804, 6, 3, 0), 0, 0), (4, .bipush 6, (0, 0, 0, 0), 6, 0), (6, .if_icmp .ne 6, (0, 0, 0, 0), 0, 0), (9, .bipush (-4), (0, 0, 0, 0), (-4), 0), (11, .ireturn, (0, 0, 0, 0), 0, 0), (12, .iconst 0, (0, 0, 0, 0), 0, 0), (13, .istore_n 1, (0, 0, 0, 0), 0, 0), (14, .iload_n 1, (0, 0, 0, 0), 0, 0), (15, .aload_n 0, (0, 0, 0, 0), 0, 0), (16, .getfield 141, (807, 6, 6, 0), 0, 0), (19, .if_icmp .ge 30, (0, 0, 0, 0), 0, 0), (22, .aload_n 0, (0, 0, 0, 0), 0, 0), (23, .getfield 13, (802, 6, 1, 0), 0, 0), (26, .sipush 160, (0, 0, 0, 0), 160, 0), (29, .aload_n 0, (0, 0, 0, 0), 0, 0), (30, .getfield 76, (804, 6, 3, 0), 0, 0), (33, .imul, (0, 0, 0, 0), 0, 0), (34, .iload_n 1, (0, 0, 0, 0), 0, 0), (35, .iadd, (0, 0, 0, 0), 0, 0), (36, .aload_n 0, (0, 0, 0, 0), 0, 0), (37, .getfield 20, (806, 6, 5, 0), 0, 0), (40, .iload_n 1, (0, 0, 0, 0), 0, 0), (41, .iaload, (0, 0, 0, 0), 0, 0), (42, .iastore, (0, 0, 0, 0), 0, 0), (43, .iinc 1 1, (0, 0, 0, 0), 1, 0), (46, .goto (-32), (0, 0, 0, 0), 0, 0), (49, .aload_n 0, (0, 0, 0, 0), 0, 0), (50, .getfield 17, (803, 6, 2, 0), 0, 0), (53, .aload_n 0, (0, 0, 0, 0), 0, 0), (54, .getfield 76, (804, 6, 3, 0), 0, 0), (57, .aload_n 0, (0, 0, 0, 0), 0, 0), (58, .getfield 141, (807, 6, 6, 0), 0, 0), (61, .iastore, (0, 0, 0, 0), 0, 0), (62, .aload_n 0, (0, 0, 0, 0), 0, 0), (63, .iconst 0, (0, 0, 0, 0), 0, 0), (64, .putfield 141, (807, 6, 6, 0), 0, 0), (67, .aload_n 0, (0, 0, 0, 0), 0, 0), (68, .aload_n 0, (0, 0, 0, 0), 0, 0), (69, .getfield 76, (804, 6, 3, 0), 0, 0), (72, .iconst 0, (0, 0, 0, 0), 0, 0), (73, .invokevirtual 252, (0, 0, 0, 0), 0, 0), (76, .istore_n 1, (0, 0, 0, 0), 0, 0), (77, .aload_n 0, (0, 0, 0, 0), 0, 0), (78, .getfield 176, (830, 6, 29, 0), 0, 0), (81, .ifCond .eq 11, (0, 0, 0, 0), 0, 0), (84, .bipush (-100), (0, 0, 0, 0), (-100), 0), (86, .aload_n 0, (0, 0, 0, 0), 0, 0), (87, .getfield 180, (831, 6, 30, 0), 0, 0), (90, .isub, (0, 0, 0, 0), 0, 0), (91, .ireturn, (0, 0, 0, 0), 0, 0), (92, .aload_n 0, (0, 0, 0, 0), 0, 0), (93, .dup, (0, 0, 0, 0), 0, 0), (94, .getfield 76, (804, 6, 3, 0), 0, 0), (97, .iconst 1, (0, 0, 0, 0), 1, 0), (98, .iadd, (0, 0, 0, 0), 0, 0), (99, .putfield 76, (804, 6, 3, 0), 0, 0), (102, .aload_n 0, (0, 0, 0, 0), 0, 0), (103, .getfield 76, (804, 6, 3, 0), 0, 0), (106, .iconst 1, (0, 0, 0, 0), 1, 0), (107, .isub, (0, 0, 0, 0), 0, 0), (108, .ireturn, (0, 0, 0, 0), 0, 0)]
theorem okX6_text : kX6_text.all (xOk RX6 cX6_text) = true := by decide +kernel
def kX6_force : List xI := [(0, .iload_n 1, (0, 0, 0, 0), 0, 0), (1, .i2l, (0, 0, 0, 0), 0, 0), (2, .lconst 0, (0, 0, 0, 0), 0, 0), (3, .aload_n 0, (0, 0, 0, 0), 0, 0), (4, .getfield 76, (804, 6, 3, 0), 0, 0), (7, .iconst 1, (0, 0, 0, 0), 1, 0), (8, .isub, (0, 0, 0, 0), 0, 0), (9, .i2l, (0, 0, 0, 0), 0, 0), (10, .invokestatic 82, (0, 3, 0, 0), 0, 0), (13, .ifCond .ne 6, (0, 0, 0, 0), 0, 0), (16, .bipush (-2), (0, 0, 0, 0), (-2), 0), (18, .ireturn, (0, 0, 0, 0), 0, 0), (19, .aload_n 0, (0, 0, 0, 0), 0, 0), (20, .getfield 126, (805, 6, 4, 0), 0, 0), (23, .istore_n 2, (0, 0, 0, 0), 0, 0), (24, .aload_n 0, (0, 0, 0, 0), 0, 0), (25, .iload_n 1, (0, 0, 0, 0), 0, 0), (26, .putfield 126, (805, 6, 4, 0), 0, 0), (29, .iload_n 2, (0, 0, 0, 0), 0, 0), (30, .ireturn, (0, 0, 0, 0), 0, 0)]
theorem okX6_force : kX6_force.all (xOk RX6 cX6_force) = true := by decide +kernel
def kX6_says : List xI := [(0, .aload_n 0, (0, 0, 0, 0), 0, 0), (1, .aload_n 0, (0, 0, 0, 0), 0, 0), (2, .getfield 32, (814, 6, 13, 0), 0, 0), (5, .iload_n 3, (0, 0, 0, 0), 0, 0), (6, .iaload, (0, 0, 0, 0), 0, 0), (7, .putfield 199, (817, 6, 16, 0), 0, 0), (10, .aload_n 0, (0, 0, 0, 0), 0, 0), (11, .aload_n 0, (0, 0, 0, 0), 0, 0), (12, .getfield 29, (813, 6, 12, 0), 0, 0), (15, .iload_n 3, (0, 0, 0, 0), 0, 0), (16, .iaload, (0, 0, 0, 0), 0, 0), (17, .invokestatic 255, (0, 3, 0, 0), 0, 0), (20, .putfield 202, (818, 6, 17, 0), 0, 0), (23, .aload_n 0, (0, 0, 0, 0), 0, 0), (24, .aload_n 0, (0, 0, 0, 0), 0, 0), (25, .getfield 35, (815, 6, 14, 0), 0, 0), (28, .iconst 4, (0, 0, 0, 0), 4, 0), (29, .iload_n 2, (0, 0, 0, 0), 0, 0), (30, .imul, (0, 0, 0, 0), 0, 0), (31, .iaload, (0, 0, 0, 0), 0, 0), (32, .putfield 205, (819, 6, 18, 0), 0, 0), (35, .aload_n 0, (0, 0, 0, 0), 0, 0), (36, .aload_n 0, (0, 0, 0, 0), 0, 0), (37, .getfield 123, (809, 6, 8, 0), 0, 0), (40, .putfield 208, (820, 6, 19, 0), 0, 0), (43, .aload_n 0, (0, 0, 0, 0), 0, 0), (44, .aload_n 0, (0, 0, 0, 0), 0, 0), (45, .getfield 35, (815, 6, 14, 0), 0, 0), (48, .iconst 4, (0, 0, 0, 0), 4, 0), (49, .iload_n 2, (0, 0, 0, 0), 0, 0), (50, .imul, (0, 0, 0, 0), 0, 0), (51, .iconst 2, (0, 0, 0, 0), 2, 0), (52, .iadd, (0, 0, 0, 0), 0, 0), (53, .iaload, (0, 0, 0, 0), 0, 0), (54, .putfield 211, (821, 6, 20, 0), 0, 0), (57, .aload_n 0, (0, 0, 0, 0), 0, 0), (58, .aload_n 0, (0, 0, 0, 0), 0, 0), (59, .invokevirtual 119, (0, 0, 0, 0), 0, 0), (62, .invokestatic 255, (0, 3, 0, 0), 0, 0), (65, .putfield 214, (822, 6, 21, 0), 0, 0), (68, .aload_n 0, (0, 0, 0, 0), 0, 0), (69, .aload_n 0, (0, 0, 0, 0), 0, 0), (70, .getfield 126, (805, 6, 4, 0), 0, 0), (73, .iload_n 1, (0, 0, 0, 0), 0, 0), (74, .invokevirtual 252, (0, 0, 0, 0), 0, 0), (77, .iconst 0, (0, 0, 0, 0), 0, 0), (78, .iload_n 1, (0, 0, 0, 0), 0, 0), (79, .iconst 2, (0, 0, 0, 0), 2, 0), (80, .if_icmp .ne 8, (0, 0, 0, 0), 0, 0), (83, .bipush 99, (0, 0, 0, 0), 99, 0), (85, .goto 6, (0, 0, 0, 0), 0, 0), (88, .sipush 999, (0, 0, 0, 0), 999, 0), (91, .invokestatic 258, (0, 3, 0, 0), 0, 0), (94, .ireturn, (0, 0, 0, 0), 0, 0)]
theorem okX6_says : kX6_says.all (xOk RX6 cX6_says) = true := by decide +kernel
def kX6_isLastCall : List xI := [(0, .aload_n 0, (0, 0, 0, 0), 0, 0), (1, .getfield 29, (813, 6, 12, 0), 0, 0), (4, .iload_n 1, (0, 0, 0, 0), 0, 0), (5, .iaload, (0, 0, 0, 0), 0, 0), (6, .ifCond .eq 7, (0, 0, 0, 0), 0, 0), (9, .iconst 1, (0, 0, 0, 0), 1, 0), (10, .goto 4, (0, 0, 0, 0), 0, 0), (13, .iconst 0, (0, 0, 0, 0), 0, 0), (14, .istore_n 2, (0, 0, 0, 0), 0, 0), (15, .iconst 0, (0, 0, 0, 0), 0, 0), (16, .istore_n 3, (0, 0, 0, 0), 0, 0), (17, .iload_n 3, (0, 0, 0, 0), 0, 0), (18, .bipush 8, (0, 0, 0, 0), 8, 0), (20, .if_icmp .ge 40, (0, 0, 0, 0), 0, 0), (23, .iload_n 2, (0, 0, 0, 0), 0, 0), (24, .aload_n 0, (0, 0, 0, 0), 0, 0), (25, .getfield 29, (813, 6, 12, 0), 0, 0), (28, .iload_n 1, (0, 0, 0, 0), 0, 0), (29, .iaload, (0, 0, 0, 0), 0, 0), (30, .iload_n 3, (0, 0, 0, 0), 0, 0), (31, .ishr, (0, 0, 0, 0), 0, 0), (32, .iconst 1, (0, 0, 0, 0), 1, 0), (33, .iand, (0, 0, 0, 0), 0, 0), (34, .ifCond .eq 13, (0, 0, 0, 0), 0, 0), (37, .aload_n 0, (0, 0, 0, 0), 0, 0), (38, .getfield 26, (812, 6, 11, 0), 0, 0), (41, .iload_n 3, (0, 0, 0, 0), 0, 0), (42, .iaload, (0, 0, 0, 0), 0, 0), (43, .iconst 1, (0, 0, 0, 0), 1, 0), (44, .if_icmp .ne 7, (0, 0, 0, 0), 0, 0), (47, .iconst 1, (0, 0, 0, 0), 1, 0), (48, .goto 4, (0, 0, 0, 0), 0, 0), (51, .iconst 0, (0, 0, 0, 0), 0, 0), (52, .iand, (0, 0, 0, 0), 0, 0), (53, .istore_n 2, (0, 0, 0, 0), 0, 0), (54, .iinc 3 1, (0, 0, 0, 0), 1, 0), (57, .goto (-40), (0, 0, 0, 0), 0, 0), (60, .iload_n 2, (0, 0, 0, 0), 0, 0), (61, .ireturn, (0, 0, 0, 0), 0, 0)]
theorem okX6_isLastCall : kX6_isLastCall.all (xOk RX6 cX6_isLastCall) = true := by decide +kernel
def kX6_dares : List xI := [(0, .aload_n 0, (0, 0, 0, 0), 0, 0), (1, .getfield 35, (815, 6, 14, 0), 0, 0), (4, .iconst 4, (0, 0, 0, 0), 4, 0), (5, .iload_n 1, (0, 0, 0, 0), 0, 0), (6, .imul, (0, 0, 0, 0), 0, 0), (7, .iconst 3, (0, 0, 0, 0), 3, 0), (8, .iadd, (0, 0, 0, 0), 0, 0), (9, .iaload, (0, 0, 0, 0), 0, 0), (10, .istore_n 3, (0, 0, 0, 0), 0, 0), (11, .aload_n 0, (0, 0, 0, 0), 0, 0), (12, .iconst 0, (0, 0, 0, 0), 0, 0), (13, .iload_n 1, (0, 0, 0, 0), 0, 0), (14, .iload_n 2, (0, 0, 0, 0), 0, 0), (15, .invokevirtual 262, (0, 0, 0, 0), 0, 0), (18, .ifCond .eq 7, (0, 0, 0, 0), 0, 0), (21, .iconst 1, (0, 0, 0, 0), 1, 0), (22, .goto 4, (0, 0, 0, 0), 0, 0), (25, .iconst 0, (0, 0, 0, 0), 0, 0), (26, .istore 4, (0, 0, 0, 0), 0, 0), (28, .iload 4, (0, 0, 0, 0), 0, 0), (30, .ifCond .ne 24, (0, 0, 0, 0), 0, 0), (33, .aload_n 0, (0, 0, 0, 0), 0, 0), (34, .getfield 29, (813, 6, 12, 0), 0, 0), (37, .iload_n 2, (0, 0, 0, 0), 0, 0), (38, .iaload, (0, 0, 0, 0), 0, 0), (39, .aload_n 0, (0, 0, 0, 0), 0, 0), (40, .getfield 35, (815, 6, 14, 0), 0, 0), (43, .iconst 4, (0, 0, 0, 0), 4, 0), (44, .iload_n 1, (0, 0, 0, 0), 0, 0), (45, .imul, (0, 0, 0, 0), 0, 0), (46, .iaload, (0, 0, 0, 0), 0, 0), (47, .ishr, (0, 0, 0, 0), 0, 0), (48, .iconst 1, (0, 0, 0, 0), 1, 0), (49, .iand, (0, 0, 0, 0), 0, 0), (50, .iconst 1, (0, 0, 0, 0), 1, 0), (51, .if_icmp .ne 7, (0, 0, 0, 0), 0, 0), (54, .iconst 1, (0, 0, 0, 0), 1, 0), (55, .goto 4, (0, 0, 0, 0), 0, 0), (58, .iconst 0, (0, 0, 0, 0), 0, 0), (59, .istore 5, (0, 0, 0, 0), 0, 0), (61, .iload 4, (0, 0, 0, 0), 0, 0), (63, .ifCond .eq 18, (0, 0, 0, 0), 0, 0), (66, .aload_n 0, (0, 0, 0, 0), 0, 0), (67, .getfield 32, (814, 6, 13, 0), 0, 0), (70, .iload_n 2, (0, 0, 0, 0), 0, 0), (71, .iaload, (0, 0, 0, 0), 0, 0), (72, .bipush 20, (0, 0, 0, 0), 20, 0), (74, .if_icmp .ge 7, (0, 0, 0, 0), 0, 0), (77, .iconst 1, (0, 0, 0, 0), 1, 0), (78, .goto 4, (0, 0, 0, 0), 0, 0), (81, .iconst 0, (0, 0, 0, 0), 0, 0), (82, .istore 6, (0, 0, 0, 0), 0, 0), (84, .iload_n 3, (0, 0, 0, 0), 0, 0), (85, .iconst 4, (0, 0, 0, 0), 4, 0), (86, .if_icmp .eq 8, (0, 0, 0, 0), 0, 0), (89, .iload_n 3, (0, 0, 0, 0), 0, 0), (90, .iconst 5, (0, 0, 0, 0), 5, 0), (91, .if_icmp .ne 54, (0, 0, 0, 0), 0, 0), (94, .iload_n 3, (0, 0, 0, 0), 0, 0), (95, .iconst 4, (0, 0, 0, 0), 4, 0), (96, .if_icmp .ne 24, (0, 0, 0, 0), 0, 0), (99, .iload 6, (0, 0, 0, 0), 0, 0), (101, .ifCond .ne 11, (0, 0, 0, 0), 0, 0), (104, .aload_n 0, (0, 0, 0, 0), 0, 0), (105, .iload_n 2, (0, 0, 0, 0), 0, 0), (106, .invokevirtual 265, (0, 0, 0, 0), 0, 0), (109, .ifCond .eq 7, (0, 0, 0, 0), 0, 0), (112, .iconst 1, (0, 0, 0, 0), 1, 0), (113, .goto 31, (0, 0, 0, 0), 0, 0), (116, .iconst 0, (0, 0, 0, 0), 0, 0), (117, .goto 27, (0, 0, 0, 0), 0, 0), (120, .iload 4, (0, 0, 0, 0), 0, 0), (122, .ifCond .ne 17, (0, 0, 0, 0), 0, 0), (125, .aload_n 0, (0, 0, 0, 0), 0, 0), (126, .getfield 29, (813, 6, 12, 0), 0, 0), (129, .iload_n 2, (0, 0, 0, 0), 0, 0), (130, .iaload, (0, 0, 0, 0), 0, 0), (131, .aload_n 0, (0, 0, 0, 0), 0, 0), (132, .invokevirtual 119, (0, 0, 0, 0), 0, 0), (135, .iand, (0, 0, 0, 0), 0, 0), (136, .ifCond .ne 7, (0, 0, 0, 0), 0, 0), (139, .iconst 1, (0, 0, 0, 0), 1, 0), (140, .goto 4, (0, 0, 0, 0), 0, 0), (143, .iconst 0, (0, 0, 0, 0), 0, 0), (144, .ireturn, (0, 0, 0, 0), 0, 0), (145, .iload_n 3, (0, 0, 0, 0), 0, 0), (146, .iconst 1, (0, 0, 0, 0), 1, 0), (147, .if_icmp .ne 8, (0, 0, 0, 0), 0, 0), (150, .iload 5, (0, 0, 0, 0), 0, 0), (152, .goto 35, (0, 0, 0, 0), 0, 0), (155, .iload_n 3, (0, 0, 0, 0), 0, 0), (156, .iconst 2, (0, 0, 0, 0), 2, 0), (157, .if_icmp .ne 8, (0, 0, 0, 0), 0, 0), (160, .iload 6, (0, 0, 0, 0), 0, 0), (162, .goto 25, (0, 0, 0, 0), 0, 0), (165, .iload_n 3, (0, 0, 0, 0), 0, 0), (166, .iconst 3, (0, 0, 0, 0), 3, 0), (167, .if_icmp .ne 18, (0, 0, 0, 0), 0, 0), (170, .aload_n 0, (0, 0, 0, 0), 0, 0), (171, .getfield 123, (809, 6, 8, 0), 0, 0), (174, .iconst 2, (0, 0, 0, 0), 2, 0), (175, .irem, (0, 0, 0, 0), 0, 0), (176, .iconst 1, (0, 0, 0, 0), 1, 0), (177, .if_icmp .ne 8, (0, 0, 0, 0), 0, 0), (180, .iload 5, (0, 0, 0, 0), 0, 0), (182, .goto 5, (0, 0, 0, 0), 0, 0), (185, .iload 4, (0, 0, 0, 0), 0, 0), (187, .ireturn, (0, 0, 0, 0), 0, 0)]
theorem okX6_dares : kX6_dares.all (xOk RX6 cX6_dares) = true := by decide +kernel
def kX6_costsOf : List xI := [(0, .aload_n 0, (0, 0, 0, 0), 0, 0), (1, .getfield 35, (815, 6, 14, 0), 0, 0), (4, .iconst 4, (0, 0, 0, 0), 4, 0), (5, .iload_n 1, (0, 0, 0, 0), 0, 0), (6, .imul, (0, 0, 0, 0), 0, 0), (7, .iconst 3, (0, 0, 0, 0), 3, 0), (8, .iadd, (0, 0, 0, 0), 0, 0), (9, .iaload, (0, 0, 0, 0), 0, 0), (10, .istore_n 3, (0, 0, 0, 0), 0, 0), (11, .aload_n 0, (0, 0, 0, 0), 0, 0), (12, .iconst 1, (0, 0, 0, 0), 1, 0), (13, .iload_n 1, (0, 0, 0, 0), 0, 0), (14, .iload_n 2, (0, 0, 0, 0), 0, 0), (15, .invokevirtual 262, (0, 0, 0, 0), 0, 0), (18, .istore 4, (0, 0, 0, 0), 0, 0), (20, .iload 4, (0, 0, 0, 0), 0, 0), (22, .aload_n 0, (0, 0, 0, 0), 0, 0), (23, .getfield 35, (815, 6, 14, 0), 0, 0), (26, .iconst 4, (0, 0, 0, 0), 4, 0), (27, .iload_n 1, (0, 0, 0, 0), 0, 0), (28, .imul, (0, 0, 0, 0), 0, 0), (29, .iaload, (0, 0, 0, 0), 0, 0), (30, .isub, (0, 0, 0, 0), 0, 0), (31, .iconst 0, (0, 0, 0, 0), 0, 0), (32, .sipush 999, (0, 0, 0, 0), 999, 0), (35, .invokestatic 258, (0, 3, 0, 0), 0, 0), (38, .istore 5, (0, 0, 0, 0), 0, 0), (40, .iload_n 3, (0, 0, 0, 0), 0, 0), (41, .iconst 1, (0, 0, 0, 0), 1, 0), (42, .if_icmp .ne 10, (0, 0, 0, 0), 0, 0), (45, .iload 4, (0, 0, 0, 0), 0, 0), (47, .iconst 2, (0, 0, 0, 0), 2, 0), (48, .idiv, (0, 0, 0, 0), 0, 0), (49, .goto 61, (0, 0, 0, 0), 0, 0), (52, .iload_n 3, (0, 0, 0, 0), 0, 0), (53, .iconst 3, (0, 0, 0, 0), 3, 0), (54, .if_icmp .ne 12, (0, 0, 0, 0), 0, 0), (57, .iload 4, (0, 0, 0, 0), 0, 0), (59, .iconst 2, (0, 0, 0, 0), 2, 0), (60, .idiv, (0, 0, 0, 0), 0, 0), (61, .iconst 5, (0, 0, 0, 0), 5, 0), (62, .iadd, (0, 0, 0, 0), 0, 0), (63, .goto 47, (0, 0, 0, 0), 0, 0), (66, .iload_n 3, (0, 0, 0, 0), 0, 0), (67, .iconst 2, (0, 0, 0, 0), 2, 0), (68, .if_icmp .ne 8, (0, 0, 0, 0), 0, 0), (71, .iload 5, (0, 0, 0, 0), 0, 0), (73, .goto 37, (0, 0, 0, 0), 0, 0), (76, .iload_n 3, (0, 0, 0, 0), 0, 0), (77, .iconst 4, (0, 0, 0, 0), 4, 0), (78, .if_icmp .ne 18, (0, 0, 0, 0), 0, 0), (81, .iload 5, (0, 0, 0, 0), 0, 0), (83, .aload_n 0, (0, 0, 0, 0), 0, 0), (84, .getfield 29, (813, 6, 12, 0), 0, 0), (87, .iload_n 2, (0, 0, 0, 0), 0, 0), (88, .iaload, (0, 0, 0, 0), 0, 0), (89, .invokestatic 255, (0, 3, 0, 0), 0, 0), (92, .iadd, (0, 0, 0, 0), 0, 0), (93, .goto 17, (0, 0, 0, 0), 0, 0), (96, .iload_n 3, (0, 0, 0, 0), 0, 0), (97, .iconst 5, (0, 0, 0, 0), 5, 0), (98, .if_icmp .ne 10, (0, 0, 0, 0), 0, 0), (101, .iconst 2, (0, 0, 0, 0), 2, 0), (102, .iload 4, (0, 0, 0, 0), 0, 0), (104, .imul, (0, 0, 0, 0), 0, 0), (105, .goto 5, (0, 0, 0, 0), 0, 0), (108, .iload 4, (0, 0, 0, 0), 0, 0), (110, .iconst 0, (0, 0, 0, 0), 0, 0), (111, .sipush 999, (0, 0, 0, 0), 999, 0), (114, .invokestatic 258, (0, 3, 0, 0), 0, 0), (117, .ireturn, (0, 0, 0, 0), 0, 0)]
theorem okX6_costsOf : kX6_costsOf.all (xOk RX6 cX6_costsOf) = true := by decide +kernel
def kX6_sitsBy : List xI := [(0, .aload_n 0, (0, 0, 0, 0), 0, 0), (1, .getfield 35, (815, 6, 14, 0), 0, 0), (4, .iconst 4, (0, 0, 0, 0), 4, 0), (5, .iload_n 1, (0, 0, 0, 0), 0, 0), (6, .imul, (0, 0, 0, 0), 0, 0), (7, .iconst 3, (0, 0, 0, 0), 3, 0), (8, .iadd, (0, 0, 0, 0), 0, 0), (9, .iaload, (0, 0, 0, 0), 0, 0), (10, .istore_n 3, (0, 0, 0, 0), 0, 0), (11, .iload_n 3, (0, 0, 0, 0), 0, 0), (12, .iconst 1, (0, 0, 0, 0), 1, 0), (13, .if_icmp .eq 8, (0, 0, 0, 0), 0, 0), (16, .iload_n 3, (0, 0, 0, 0), 0, 0), (17, .iconst 3, (0, 0, 0, 0), 3, 0), (18, .if_icmp .ne 26, (0, 0, 0, 0), 0, 0), (21, .iload_n 3, (0, 0, 0, 0), 0, 0), (22, .iconst 3, (0, 0, 0, 0), 3, 0), (23, .if_icmp .ne 19, (0, 0, 0, 0), 0, 0), (26, .aload_n 0, (0, 0, 0, 0), 0, 0), (27, .getfield 35, (815, 6, 14, 0), 0, 0), (30, .iconst 4, (0, 0, 0, 0), 4, 0), (31, .iload_n 1, (0, 0, 0, 0), 0, 0), (32, .imul, (0, 0, 0, 0), 0, 0), (33, .iaload, (0, 0, 0, 0), 0, 0), (34, .iconst 5, (0, 0, 0, 0), 5, 0), (35, .if_icmp .ge 7, (0, 0, 0, 0), 0, 0), (38, .iconst 1, (0, 0, 0, 0), 1, 0), (39, .goto 4, (0, 0, 0, 0), 0, 0), (42, .iconst 0, (0, 0, 0, 0), 0, 0), (43, .ireturn, (0, 0, 0, 0), 0, 0), (44, .aload_n 0, (0, 0, 0, 0), 0, 0), (45, .iconst 2, (0, 0, 0, 0), 2, 0), (46, .iload_n 1, (0, 0, 0, 0), 0, 0), (47, .iload_n 2, (0, 0, 0, 0), 0, 0), (48, .invokevirtual 262, (0, 0, 0, 0), 0, 0), (51, .istore 4, (0, 0, 0, 0), 0, 0), (53, .iload 4, (0, 0, 0, 0), 0, 0), (55, .iconst 3, (0, 0, 0, 0), 3, 0), (56, .if_icmp .ge 8, (0, 0, 0, 0), 0, 0), (59, .iload 4, (0, 0, 0, 0), 0, 0), (61, .goto 4, (0, 0, 0, 0), 0, 0), (64, .iconst 3, (0, 0, 0, 0), 3, 0), (65, .istore 5, (0, 0, 0, 0), 0, 0), (67, .iload_n 3, (0, 0, 0, 0), 0, 0), (68, .iconst 2, (0, 0, 0, 0), 2, 0), (69, .if_icmp .ne 8, (0, 0, 0, 0), 0, 0), (72, .iload 5, (0, 0, 0, 0), 0, 0), (74, .goto 37, (0, 0, 0, 0), 0, 0), (77, .iload_n 3, (0, 0, 0, 0), 0, 0), (78, .iconst 4, (0, 0, 0, 0), 4, 0), (79, .if_icmp .ne 10, (0, 0, 0, 0), 0, 0), (82, .iconst 2, (0, 0, 0, 0), 2, 0), (83, .iload 5, (0, 0, 0, 0), 0, 0), (85, .imul, (0, 0, 0, 0), 0, 0), (86, .goto 25, (0, 0, 0, 0), 0, 0), (89, .iload_n 3, (0, 0, 0, 0), 0, 0), (90, .iconst 5, (0, 0, 0, 0), 5, 0), (91, .if_icmp .ne 18, (0, 0, 0, 0), 0, 0), (94, .iconst 1, (0, 0, 0, 0), 1, 0), (95, .aload_n 0, (0, 0, 0, 0), 0, 0), (96, .getfield 35, (815, 6, 14, 0), 0, 0), (99, .iconst 4, (0, 0, 0, 0), 4, 0), (100, .iload_n 1, (0, 0, 0, 0), 0, 0), (101, .imul, (0, 0, 0, 0), 0, 0), (102, .iconst 2, (0, 0, 0, 0), 2, 0), (103, .iadd, (0, 0, 0, 0), 0, 0), (104, .iaload, (0, 0, 0, 0), 0, 0), (105, .iadd, (0, 0, 0, 0), 0, 0), (106, .goto 5, (0, 0, 0, 0), 0, 0), (109, .iload 4, (0, 0, 0, 0), 0, 0), (111, .iconst 0, (0, 0, 0, 0), 0, 0), (112, .bipush 99, (0, 0, 0, 0), 99, 0), (114, .invokestatic 258, (0, 3, 0, 0), 0, 0), (117, .ireturn, (0, 0, 0, 0), 0, 0)]
theorem okX6_sitsBy : kX6_sitsBy.all (xOk RX6 cX6_sitsBy) = true := by decide +kernel
def kX6_asks : List xI := [(0, .aload_n 0, (0, 0, 0, 0), 0, 0), (1, .iload_n 1, (0, 0, 0, 0), 0, 0), (2, .invokevirtual 97, (0, 0, 0, 0), 0, 0), (5, .ifCond .eq 22, (0, 0, 0, 0), 0, 0), (8, .iload_n 2, (0, 0, 0, 0), 0, 0), (9, .invokestatic 94, (0, 3, 0, 0), 0, 0), (12, .ifCond .eq 15, (0, 0, 0, 0), 0, 0), (15, .iload_n 3, (0, 0, 0, 0), 0, 0), (16, .i2l, (0, 0, 0, 0), 0, 0), (17, .lconst 0, (0, 0, 0, 0), 0, 0), (18, .ldc2_w 268, (1112, 0, 0, 0), 0, 2), (21, .invokestatic 82, (0, 3, 0, 0), 0, 0), (24, .ifCond .ne 6, (0, 0, 0, 0), 0, 0), (27, .bipush (-2), (0, 0, 0, 0), (-2), 0), (29, .ireturn, (0, 0, 0, 0), 0, 0), (30, .iload_n 3, (0, 0, 0, 0), 0, 0), (31, .ifCond .ne 20, (0, 0, 0, 0), 0, 0), (34, .aload_n 0, (0, 0, 0, 0), 0, 0), (35, .iload_n 1, (0, 0, 0, 0), 0, 0), (36, .iload_n 2, (0, 0, 0, 0), 0, 0), (37, .invokevirtual 270, (0, 0, 0, 0), 0, 0), (40, .ifCond .eq 7, (0, 0, 0, 0), 0, 0), (43, .iconst 1, (0, 0, 0, 0), 1, 0), (44, .goto 27, (0, 0, 0, 0), 0, 0), (47, .iconst 0, (0, 0, 0, 0), 0, 0), (48, .goto 23, (0, 0, 0, 0), 0, 0), (51, .iload_n 3, (0, 0, 0, 0), 0, 0), (52, .iconst 1, (0, 0, 0, 0), 1, 0), (53, .if_icmp .ne 12, (0, 0, 0, 0), 0, 0), (56, .aload_n 0, (0, 0, 0, 0), 0, 0), (57, .iload_n 1, (0, 0, 0, 0), 0, 0), (58, .iload_n 2, (0, 0, 0, 0), 0, 0), (59, .invokevirtual 273, (0, 0, 0, 0), 0, 0), (62, .goto 9, (0, 0, 0, 0), 0, 0), (65, .aload_n 0, (0, 0, 0, 0), 0, 0), (66, .iload_n 1, (0, 0, 0, 0), 0, 0), (67, .iload_n 2, (0, 0, 0, 0), 0, 0), (68, .invokevirtual 276, (0, 0, 0, 0), 0, 0), (71, .ireturn, (0, 0, 0, 0), 0, 0)]
theorem okX6_asks : kX6_asks.all (xOk RX6 cX6_asks) = true := by decide +kernel
def kX6_can : List xI := [(0, .aload_n 0, (0, 0, 0, 0), 0, 0), (1, .getfield 35, (815, 6, 14, 0), 0, 0), (4, .iconst 4, (0, 0, 0, 0), 4, 0), (5, .iload_n 1, (0, 0, 0, 0), 0, 0), (6, .imul, (0, 0, 0, 0), 0, 0), (7, .iconst 1, (0, 0, 0, 0), 1, 0), (8, .iadd, (0, 0, 0, 0), 0, 0), (9, .iaload, (0, 0, 0, 0), 0, 0), (10, .ifCond .ne 16, (0, 0, 0, 0), 0, 0), (13, .aload_n 0, (0, 0, 0, 0), 0, 0), (14, .iload_n 1, (0, 0, 0, 0), 0, 0), (15, .iload_n 2, (0, 0, 0, 0), 0, 0), (16, .invokevirtual 270, (0, 0, 0, 0), 0, 0), (19, .ifCond .eq 7, (0, 0, 0, 0), 0, 0), (22, .iconst 1, (0, 0, 0, 0), 1, 0), (23, .goto 4, (0, 0, 0, 0), 0, 0), (26, .iconst 0, (0, 0, 0, 0), 0, 0), (27, .ireturn, (0, 0, 0, 0), 0, 0)]
theorem okX6_can : kX6_can.all (xOk RX6 cX6_can) = true := by decide +kernel
def kX6_canSet : List xI := [(0, .iconst 0, (0, 0, 0, 0), 0, 0), (1, .istore_n 2, (0, 0, 0, 0), 0, 0), (2, .iconst 0, (0, 0, 0, 0), 0, 0), (3, .istore_n 3, (0, 0, 0, 0), 0, 0), (4, .iload_n 3, (0, 0, 0, 0), 0, 0), (5, .bipush 10, (0, 0, 0, 0), 10, 0), (7, .if_icmp .ge 28, (0, 0, 0, 0), 0, 0), (10, .iload_n 2, (0, 0, 0, 0), 0, 0), (11, .aload_n 0, (0, 0, 0, 0), 0, 0), (12, .iload_n 1, (0, 0, 0, 0), 0, 0), (13, .iload_n 3, (0, 0, 0, 0), 0, 0), (14, .invokevirtual 279, (0, 0, 0, 0), 0, 0), (17, .ifCond .eq 7, (0, 0, 0, 0), 0, 0), (20, .iconst 1, (0, 0, 0, 0), 1, 0), (21, .goto 4, (0, 0, 0, 0), 0, 0), (24, .iconst 0, (0, 0, 0, 0), 0, 0), (25, .iload_n 3, (0, 0, 0, 0), 0, 0), (26, .ishl, (0, 0, 0, 0), 0, 0), (27, .ior, (0, 0, 0, 0), 0, 0), (28, .istore_n 2, (0, 0, 0, 0), 0, 0), (29, .iinc 3 1, (0, 0, 0, 0), 1, 0), (32, .goto (-28), (0, 0, 0, 0), 0, 0), (35, .iload_n 2, (0, 0, 0, 0), 0, 0), (36, .ireturn, (0, 0, 0, 0), 0, 0)]
theorem okX6_canSet : kX6_canSet.all (xOk RX6 cX6_canSet) = true := by decide +kernel
def kX6_done : List xI := [(0, .aload_n 0, (0, 0, 0, 0), 0, 0), (1, .iload_n 1, (0, 0, 0, 0), 0, 0), (2, .iload_n 2, (0, 0, 0, 0), 0, 0), (3, .invokevirtual 273, (0, 0, 0, 0), 0, 0), (6, .istore_n 3, (0, 0, 0, 0), 0, 0), (7, .aload_n 0, (0, 0, 0, 0), 0, 0), (8, .iload_n 1, (0, 0, 0, 0), 0, 0), (9, .iload_n 2, (0, 0, 0, 0), 0, 0), (10, .invokevirtual 276, (0, 0, 0, 0), 0, 0), (13, .istore 4, (0, 0, 0, 0), 0, 0), (15, .aload_n 0, (0, 0, 0, 0), 0, 0), (16, .dup, (0, 0, 0, 0), 0, 0), (17, .getfield 116, (810, 6, 9, 0), 0, 0), (20, .aload_n 0, (0, 0, 0, 0), 0, 0), (21, .getfield 29, (813, 6, 12, 0), 0, 0), (24, .iload_n 2, (0, 0, 0, 0), 0, 0), (25, .iaload, (0, 0, 0, 0), 0, 0), (26, .aload_n 0, (0, 0, 0, 0), 0, 0), (27, .invokevirtual 119, (0, 0, 0, 0), 0, 0), (30, .iand, (0, 0, 0, 0), 0, 0), (31, .ior, (0, 0, 0, 0), 0, 0), (32, .putfield 116, (810, 6, 9, 0), 0, 0), (35, .aload_n 0, (0, 0, 0, 0), 0, 0), (36, .aload_n 0, (0, 0, 0, 0), 0, 0), (37, .getfield 136, (811, 6, 10, 0), 0, 0), (40, .iload_n 3, (0, 0, 0, 0), 0, 0), (41, .iadd, (0, 0, 0, 0), 0, 0), (42, .iconst 0, (0, 0, 0, 0), 0, 0), (43, .ldc_w 282, (1129, 0, 0, 0), 99999, 0), (46, .invokestatic 258, (0, 3, 0, 0), 0, 0), (49, .putfield 136, (811, 6, 10, 0), 0, 0), (52, .aload_n 0, (0, 0, 0, 0), 0, 0), (53, .getfield 35, (815, 6, 14, 0), 0, 0), (56, .iconst 4, (0, 0, 0, 0), 4, 0), (57, .iload_n 1, (0, 0, 0, 0), 0, 0), (58, .imul, (0, 0, 0, 0), 0, 0), (59, .iconst 1, (0, 0, 0, 0), 1, 0), (60, .iadd, (0, 0, 0, 0), 0, 0), (61, .iload 4, (0, 0, 0, 0), 0, 0), (63, .iastore, (0, 0, 0, 0), 0, 0), (64, .aload_n 0, (0, 0, 0, 0), 0, 0), (65, .getfield 35, (815, 6, 14, 0), 0, 0), (68, .iconst 4, (0, 0, 0, 0), 4, 0), (69, .iload_n 1, (0, 0, 0, 0), 0, 0), (70, .imul, (0, 0, 0, 0), 0, 0), (71, .iconst 2, (0, 0, 0, 0), 2, 0), (72, .iadd, (0, 0, 0, 0), 0, 0), (73, .aload_n 0, (0, 0, 0, 0), 0, 0), (74, .getfield 35, (815, 6, 14, 0), 0, 0), (77, .iconst 4, (0, 0, 0, 0), 4, 0), (78, .iload_n 1, (0, 0, 0, 0), 0, 0), (79, .imul, (0, 0, 0, 0), 0, 0), (80, .iconst 2, (0, 0, 0, 0), 2, 0), (81, .iadd, (0, 0, 0, 0), 0, 0), (82, .iaload, (0, 0, 0, 0), 0, 0), (83, .iconst 1, (0, 0, 0, 0), 1, 0), (84, .iadd, (0, 0, 0, 0), 0, 0), (85, .iconst 0, (0, 0, 0, 0), 0, 0), (86, .bipush 99, (0, 0, 0, 0), 99, 0), (88, .invokestatic 258, (0, 3, 0, 0), 0, 0), (91, .iastore, (0, 0, 0, 0), 0, 0), (92, .return_, (0, 0, 0, 0), 0, 0)]
theorem okX6_done : kX6_done.all (xOk RX6 cX6_done) = true := by decide +kernel
def kX6_does : List xI := [(0, .aload_n 0, (0, 0, 0, 0), 0, 0), (1, .iload_n 1, (0, 0, 0, 0), 0, 0), (2, .invokevirtual 97, (0, 0, 0, 0), 0, 0), (5, .ifCond .eq 10, (0, 0, 0, 0), 0, 0), (8, .iload_n 2, (0, 0, 0, 0), 0, 0), (9, .invokestatic 94, (0, 3, 0, 0), 0, 0), (12, .ifCond .ne 6, (0, 0, 0, 0), 0, 0), (15, .bipush (-2), (0, 0, 0, 0), (-2), 0), (17, .ireturn, (0, 0, 0, 0), 0, 0), (18, .aload_n 0, (0, 0, 0, 0), 0, 0), (19, .iload_n 1, (0, 0, 0, 0), 0, 0), (20, .iload_n 2, (0, 0, 0, 0), 0, 0), (21, .invokevirtual 279, (0, 0, 0, 0), 0, 0), (24, .ifCond .ne 6, (0, 0, 0, 0), 0, 0), (27, .bipush (-3), (0, 0, 0, 0), (-3), 0), (29, .ireturn, (0, 0, 0, 0), 0, 0), (30, .aload_n 0, (0, 0, 0, 0), 0, 0), (31, .iload_n 1, (0, 0, 0, 0), 0, 0), (32, .iload_n 2, (0, 0, 0, 0), 0, 0), (33, .invokevirtual 283, (0, 0, 0, 0), 0, 0), (36, .aload_n 0, (0, 0, 0, 0), 0, 0), (37, .getfield 116, (810, 6, 9, 0), 0, 0), (40, .ireturn, (0, 0, 0, 0), 0, 0)]
theorem okX6_does : kX6_does.all (xOk RX6 cX6_does) = true := by decide +kernel
def kX6_ends : List xI := [(0, .aload_n 0, (0, 0, 0, 0), 0, 0), (1, .invokevirtual 119, (0, 0, 0, 0), 0, 0), (4, .istore_n 1, (0, 0, 0, 0), 0, 0), (5, .iconst 0, (0, 0, 0, 0), 0, 0), (6, .istore_n 2, (0, 0, 0, 0), 0, 0), (7, .iload_n 2, (0, 0, 0, 0), 0, 0), (8, .bipush 8, (0, 0, 0, 0), 8, 0), (10, .if_icmp .ge 55, (0, 0, 0, 0), 0, 0), (13, .aload_n 0, (0, 0, 0, 0), 0, 0), (14, .getfield 26, (812, 6, 11, 0), 0, 0), (17, .iload_n 2, (0, 0, 0, 0), 0, 0), (18, .aload_n 0, (0, 0, 0, 0), 0, 0), (19, .getfield 26, (812, 6, 11, 0), 0, 0), (22, .iload_n 2, (0, 0, 0, 0), 0, 0), (23, .iaload, (0, 0, 0, 0), 0, 0), (24, .ifCond .ne 7, (0, 0, 0, 0), 0, 0), (27, .iconst 0, (0, 0, 0, 0), 0, 0), (28, .goto 30, (0, 0, 0, 0), 0, 0), (31, .aload_n 0, (0, 0, 0, 0), 0, 0), (32, .getfield 116, (810, 6, 9, 0), 0, 0), (35, .iload_n 2, (0, 0, 0, 0), 0, 0), (36, .ishr, (0, 0, 0, 0), 0, 0), (37, .iconst 1, (0, 0, 0, 0), 1, 0), (38, .iand, (0, 0, 0, 0), 0, 0), (39, .iconst 1, (0, 0, 0, 0), 1, 0), (40, .if_icmp .ne 10, (0, 0, 0, 0), 0, 0), (43, .aload_n 0, (0, 0, 0, 0), 0, 0), (44, .getfield 23, (808, 6, 7, 0), 0, 0), (47, .goto 11, (0, 0, 0, 0), 0, 0), (50, .aload_n 0, (0, 0, 0, 0), 0, 0), (51, .getfield 26, (812, 6, 11, 0), 0, 0), (54, .iload_n 2, (0, 0, 0, 0), 0, 0), (55, .iaload, (0, 0, 0, 0), 0, 0), (56, .iconst 1, (0, 0, 0, 0), 1, 0), (57, .isub, (0, 0, 0, 0), 0, 0), (58, .iastore, (0, 0, 0, 0), 0, 0), (59, .iinc 2 1, (0, 0, 0, 0), 1, 0), (62, .goto (-55), (0, 0, 0, 0), 0, 0), (65, .iconst 0, (0, 0, 0, 0), 0, 0), (66, .istore_n 2, (0, 0, 0, 0), 0, 0), (67, .iload_n 2, (0, 0, 0, 0), 0, 0), (68, .aload_n 0, (0, 0, 0, 0), 0, 0), (69, .getfield 79, (816, 6, 15, 0), 0, 0), (72, .if_icmp .ge 37, (0, 0, 0, 0), 0, 0), (75, .aload_n 0, (0, 0, 0, 0), 0, 0), (76, .getfield 35, (815, 6, 14, 0), 0, 0), (79, .iconst 4, (0, 0, 0, 0), 4, 0), (80, .iload_n 2, (0, 0, 0, 0), 0, 0), (81, .imul, (0, 0, 0, 0), 0, 0), (82, .iconst 1, (0, 0, 0, 0), 1, 0), (83, .iadd, (0, 0, 0, 0), 0, 0), (84, .aload_n 0, (0, 0, 0, 0), 0, 0), (85, .getfield 35, (815, 6, 14, 0), 0, 0), (88, .iconst 4, (0, 0, 0, 0), 4, 0), (89, .iload_n 2, (0, 0, 0, 0), 0, 0), (90, .imul, (0, 0, 0, 0), 0, 0), (91, .iconst 1, (0, 0, 0, 0), 1, 0), (92, .iadd, (0, 0, 0, 0), 0, 0), (93, .iaload, (0, 0, 0, 0), 0, 0), (94, .iconst 1, (0, 0, 0, 0), 1, 0), (95, .isub, (0, 0, 0, 0), 0, 0), (96, .iconst 0, (0, 0, 0, 0), 0, 0), (97, .bipush 99, (0, 0, 0, 0), 99, 0), (99, .invokestatic 258, (0, 3, 0, 0), 0, 0), (102, .iastore, (0, 0, 0, 0), 0, 0), (103, .iinc 2 1, (0, 0, 0, 0), 1, 0), (106, .goto (-39), (0, 0, 0, 0), 0, 0), (109, .aload_n 0, (0, 0, 0, 0), 0, 0), (110, .iconst 0, (0, 0, 0, 0), 0, 0), (111, .putfield 116, (810, 6, 9, 0), 0, 0), (114, .aload_n 0, (0, 0, 0, 0), 0, 0), (115, .dup, (0, 0, 0, 0), 0, 0), (116, .getfield 123, (809, 6, 8, 0), 0, 0), (119, .iconst 1, (0, 0, 0, 0), 1, 0), (120, .iadd, (0, 0, 0, 0), 0, 0), (121, .putfield 123, (809, 6, 8, 0), 0, 0), (124, .iload_n 1, (0, 0, 0, 0), 0, 0), (125, .aload_n 0, (0, 0, 0, 0), 0, 0), (126, .invokevirtual 119, (0, 0, 0, 0), 0, 0), (129, .iconst (-1), (0, 0, 0, 0), (-1), 0), (130, .ixor, (0, 0, 0, 0), 0, 0), (131, .iand, (0, 0, 0, 0), 0, 0), (132, .ireturn, (0, 0, 0, 0), 0, 0)]
theorem okX6_ends : kX6_ends.all (xOk RX6 cX6_ends) = true := by decide +kernel
def kX6_year : List xI := [(0, .aload_n 0, (0, 0, 0, 0), 0, 0), (1, .getfield 123, (809, 6, 8, 0), 0, 0), (4, .sipush 999, (0, 0, 0, 0), 999, 0), (7, .if_icmp .ne 8, (0, 0, 0, 0), 0, 0), (10, .bipush (-3), (0, 0, 0, 0), (-3), 0), (12, .goto 7, (0, 0, 0, 0), 0, 0), (15, .aload_n 0, (0, 0, 0, 0), 0, 0), (16, .invokevirtual 287, (0, 0, 0, 0), 0, 0), (19, .ireturn, (0, 0, 0, 0), 0, 0)]
theorem okX6_year : kX6_year.all (xOk RX6 cX6_year) = true := by decide +kernel
def kX6_all : List xI := [(0, .iconst 0, (0, 0, 0, 0), 0, 0), (1, .istore_n 1, (0, 0, 0, 0), 0, 0), (2, .iconst 0, (0, 0, 0, 0), 0, 0), (3, .istore_n 2, (0, 0, 0, 0), 0, 0), (4, .iload_n 2, (0, 0, 0, 0), 0, 0), (5, .aload_n 0, (0, 0, 0, 0), 0, 0), (6, .getfield 79, (816, 6, 15, 0), 0, 0), (9, .if_icmp .ge 85, (0, 0, 0, 0), 0, 0), (12, .iconst (-1), (0, 0, 0, 0), (-1), 0), (13, .istore_n 3, (0, 0, 0, 0), 0, 0), (14, .iconst 0, (0, 0, 0, 0), 0, 0), (15, .istore 4, (0, 0, 0, 0), 0, 0), (17, .iload 4, (0, 0, 0, 0), 0, 0), (19, .bipush 10, (0, 0, 0, 0), 10, 0), (21, .if_icmp .ge 53, (0, 0, 0, 0), 0, 0), (24, .iload_n 3, (0, 0, 0, 0), 0, 0), (25, .iconst (-1), (0, 0, 0, 0), (-1), 0), (26, .if_icmp .ne 48, (0, 0, 0, 0), 0, 0), (29, .aload_n 0, (0, 0, 0, 0), 0, 0), (30, .getfield 29, (813, 6, 12, 0), 0, 0), (33, .iload 4, (0, 0, 0, 0), 0, 0), (35, .iaload, (0, 0, 0, 0), 0, 0), (36, .aload_n 0, (0, 0, 0, 0), 0, 0), (37, .invokevirtual 119, (0, 0, 0, 0), 0, 0), (40, .iand, (0, 0, 0, 0), 0, 0), (41, .aload_n 0, (0, 0, 0, 0), 0, 0), (42, .getfield 116, (810, 6, 9, 0), 0, 0), (45, .iconst (-1), (0, 0, 0, 0), (-1), 0), (46, .ixor, (0, 0, 0, 0), 0, 0), (47, .iand, (0, 0, 0, 0), 0, 0), (48, .ifCond .eq 18, (0, 0, 0, 0), 0, 0), (51, .aload_n 0, (0, 0, 0, 0), 0, 0), (52, .iload_n 2, (0, 0, 0, 0), 0, 0), (53, .iload 4, (0, 0, 0, 0), 0, 0), (55, .invokevirtual 279, (0, 0, 0, 0), 0, 0), (58, .ifCond .eq 8, (0, 0, 0, 0), 0, 0), (61, .iload 4, (0, 0, 0, 0), 0, 0), (63, .goto 4, (0, 0, 0, 0), 0, 0), (66, .iconst (-1), (0, 0, 0, 0), (-1), 0), (67, .istore_n 3, (0, 0, 0, 0), 0, 0), (68, .iinc 4 1, (0, 0, 0, 0), 1, 0), (71, .goto (-54), (0, 0, 0, 0), 0, 0), (74, .iload_n 3, (0, 0, 0, 0), 0, 0), (75, .iconst (-1), (0, 0, 0, 0), (-1), 0), (76, .if_icmp .eq 12, (0, 0, 0, 0), 0, 0), (79, .aload_n 0, (0, 0, 0, 0), 0, 0), (80, .iload_n 2, (0, 0, 0, 0), 0, 0), (81, .iload_n 3, (0, 0, 0, 0), 0, 0), (82, .invokevirtual 283, (0, 0, 0, 0), 0, 0), (85, .iinc 1 1, (0, 0, 0, 0), 1, 0), (88, .iinc 2 1, (0, 0, 0, 0), 1, 0), (91, .goto (-87), (0, 0, 0, 0), 0, 0), (94, .iload_n 1, (0, 0, 0, 0), 0, 0), (95, .ireturn, (0, 0, 0, 0), 0, 0)]
theorem okX6_all : kX6_all.all (xOk RX6 cX6_all) = true := by decide +kernel
def kX6_laysAside : List xI := [(0, .iconst 0, (0, 0, 0, 0), 0, 0), (1, .istore_n 1, (0, 0, 0, 0), 0, 0), (2, .iload_n 1, (0, 0, 0, 0), 0, 0), (3, .bipush 16, (0, 0, 0, 0), 16, 0), (5, .if_icmp .ge 21, (0, 0, 0, 0), 0, 0), (8, .aload_n 0, (0, 0, 0, 0), 0, 0), (9, .getfield 38, (832, 6, 31, 0), 0, 0), (12, .iload_n 1, (0, 0, 0, 0), 0, 0), (13, .aload_n 0, (0, 0, 0, 0), 0, 0), (14, .getfield 35, (815, 6, 14, 0), 0, 0), (17, .iload_n 1, (0, 0, 0, 0), 0, 0), (18, .iaload, (0, 0, 0, 0), 0, 0), (19, .iastore, (0, 0, 0, 0), 0, 0), (20, .iinc 1 1, (0, 0, 0, 0), 1, 0), (23, .goto (-21), (0, 0, 0, 0), 0, 0), (26, .iconst 0, (0, 0, 0, 0), 0, 0), (27, .istore_n 1, (0, 0, 0, 0), 0, 0), (28, .iload_n 1, (0, 0, 0, 0), 0, 0), (29, .bipush 8, (0, 0, 0, 0), 8, 0), (31, .if_icmp .ge 24, (0, 0, 0, 0), 0, 0), (34, .aload_n 0, (0, 0, 0, 0), 0, 0), (35, .getfield 38, (832, 6, 31, 0), 0, 0), (38, .bipush 16, (0, 0, 0, 0), 16, 0), (40, .iload_n 1, (0, 0, 0, 0), 0, 0), (41, .iadd, (0, 0, 0, 0), 0, 0), (42, .aload_n 0, (0, 0, 0, 0), 0, 0), (43, .getfield 26, (812, 6, 11, 0), 0, 0), (46, .iload_n 1, (0, 0, 0, 0), 0, 0), (47, .iaload, (0, 0, 0, 0), 0, 0), (48, .iastore, (0, 0, 0, 0), 0, 0), (49, .iinc 1 1, (0, 0, 0, 0), 1, 0), (52, .goto (-24), (0, 0, 0, 0), 0, 0), (55, .aload_n 0, (0, 0, 0, 0), 0, 0), (56, .getfield 38, (832, 6, 31, 0), 0, 0), (59, .bipush 24, (0, 0, 0, 0), 24, 0), (61, .aload_n 0, (0, 0, 0, 0), 0, 0), (62, .getfield 123, (809, 6, 8, 0), 0, 0), (65, .iastore, (0, 0, 0, 0), 0, 0), (66, .aload_n 0, (0, 0, 0, 0), 0, 0), (67, .getfield 38, (832, 6, 31, 0), 0, 0), (70, .bipush 25, (0, 0, 0, 0), 25, 0), (72, .aload_n 0, (0, 0, 0, 0), 0, 0), (73, .getfield 116, (810, 6, 9, 0), 0, 0), (76, .iastore, (0, 0, 0, 0), 0, 0), (77, .aload_n 0, (0, 0, 0, 0), 0, 0), (78, .getfield 38, (832, 6, 31, 0), 0, 0), (81, .bipush 26, (0, 0, 0, 0), 26, 0), (83, .aload_n 0, (0, 0, 0, 0), 0, 0), (84, .getfield 136, (811, 6, 10, 0), 0, 0), (87, .iastore, (0, 0, 0, 0), 0, 0), (88, .return_, (0, 0, 0, 0), 0, 0)]
theorem okX6_laysAside : kX6_laysAside.all (xOk RX6 cX6_laysAside) = true := by decide +kernel
def kX6_laysBack : List xI := [(0, .iconst 0, (0, 0, 0, 0), 0, 0), (1, .istore_n 1, (0, 0, 0, 0), 0, 0), (2, .iload_n 1, (0, 0, 0, 0), 0, 0), (3, .bipush 16, (0, 0, 0, 0), 16, 0), (5, .if_icmp .ge 21, (0, 0, 0, 0), 0, 0), (8, .aload_n 0, (0, 0, 0, 0), 0, 0), (9, .getfield 35, (815, 6, 14, 0), 0, 0), (12, .iload_n 1, (0, 0, 0, 0), 0, 0), (13, .aload_n 0, (0, 0, 0, 0), 0, 0), (14, .getfield 38, (832, 6, 31, 0), 0, 0), (17, .iload_n 1, (0, 0, 0, 0), 0, 0), (18, .iaload, (0, 0, 0, 0), 0, 0), (19, .iastore, (0, 0, 0, 0), 0, 0), (20, .iinc 1 1, (0, 0, 0, 0), 1, 0), (23, .goto (-21), (0, 0, 0, 0), 0, 0), (26, .iconst 0, (0, 0, 0, 0), 0, 0), (27, .istore_n 1, (0, 0, 0, 0), 0, 0), (28, .iload_n 1, (0, 0, 0, 0), 0, 0), (29, .bipush 8, (0, 0, 0, 0), 8, 0), (31, .if_icmp .ge 24, (0, 0, 0, 0), 0, 0), (34, .aload_n 0, (0, 0, 0, 0), 0, 0), (35, .getfield 26, (812, 6, 11, 0), 0, 0), (38, .iload_n 1, (0, 0, 0, 0), 0, 0), (39, .aload_n 0, (0, 0, 0, 0), 0, 0), (40, .getfield 38, (832, 6, 31, 0), 0, 0), (43, .bipush 16, (0, 0, 0, 0), 16, 0), (45, .iload_n 1, (0, 0, 0, 0), 0, 0), (46, .iadd, (0, 0, 0, 0), 0, 0), (47, .iaload, (0, 0, 0, 0), 0, 0), (48, .iastore, (0, 0, 0, 0), 0, 0), (49, .iinc 1 1, (0, 0, 0, 0), 1, 0), (52, .goto (-24), (0, 0, 0, 0), 0, 0), (55, .aload_n 0, (0, 0, 0, 0), 0, 0), (56, .aload_n 0, (0, 0, 0, 0), 0, 0), (57, .getfield 38, (832, 6, 31, 0), 0, 0), (60, .bipush 24, (0, 0, 0, 0), 24, 0), (62, .iaload, (0, 0, 0, 0), 0, 0), (63, .putfield 123, (809, 6, 8, 0), 0, 0), (66, .aload_n 0, (0, 0, 0, 0), 0, 0), (67, .aload_n 0, (0, 0, 0, 0), 0, 0), (68, .getfield 38, (832, 6, 31, 0), 0, 0), (71, .bipush 25, (0, 0, 0, 0), 25, 0), (73, .iaload, (0, 0, 0, 0), 0, 0), (74, .putfield 116, (810, 6, 9, 0), 0, 0), (77, .aload_n 0, (0, 0, 0, 0), 0, 0), (78, .aload_n 0, (0, 0, 0, 0), 0, 0), (79, .getfield 38, (832, 6, 31, 0), 0, 0), (82, .bipush 26, (0, 0, 0, 0), 26, 0), (84, .iaload, (0, 0, 0, 0), 0, 0), (85, .putfield 136, (811, 6, 10, 0), 0, 0), (88, .return_, (0, 0, 0, 0), 0, 0)]
theorem okX6_laysBack : kX6_laysBack.all (xOk RX6 cX6_laysBack) = true := by decide +kernel
def kX6_go : List xI := [(0, .iconst 0, (0, 0, 0, 0), 0, 0), (1, .istore_n 2, (0, 0, 0, 0), 0, 0), (2, .iconst 0, (0, 0, 0, 0), 0, 0), (3, .istore_n 3, (0, 0, 0, 0), 0, 0), (4, .iload_n 3, (0, 0, 0, 0), 0, 0), (5, .iload_n 1, (0, 0, 0, 0), 0, 0), (6, .if_icmp .ge 21, (0, 0, 0, 0), 0, 0), (9, .iload_n 2, (0, 0, 0, 0), 0, 0), (10, .aload_n 0, (0, 0, 0, 0), 0, 0), (11, .invokevirtual 290, (0, 0, 0, 0), 0, 0), (14, .iadd, (0, 0, 0, 0), 0, 0), (15, .istore_n 2, (0, 0, 0, 0), 0, 0), (16, .aload_n 0, (0, 0, 0, 0), 0, 0), (17, .invokevirtual 287, (0, 0, 0, 0), 0, 0), (20, .pop, (0, 0, 0, 0), 0, 0), (21, .iinc 3 1, (0, 0, 0, 0), 1, 0), (24, .goto (-20), (0, 0, 0, 0), 0, 0), (27, .iload_n 2, (0, 0, 0, 0), 0, 0), (28, .ireturn, (0, 0, 0, 0), 0, 0)]
theorem okX6_go : kX6_go.all (xOk RX6 cX6_go) = true := by decide +kernel
def kX6_run : List xI := [(0, .iload_n 1, (0, 0, 0, 0), 0, 0), (1, .i2l, (0, 0, 0, 0), 0, 0), (2, .lconst 0, (0, 0, 0, 0), 0, 0), (3, .ldc2_w 293, (1142, 0, 0, 0), 0, 20), (6, .invokestatic 82, (0, 3, 0, 0), 0, 0), (9, .ifCond .eq 15, (0, 0, 0, 0), 0, 0), (12, .iload_n 2, (0, 0, 0, 0), 0, 0), (13, .i2l, (0, 0, 0, 0), 0, 0), (14, .lconst 0, (0, 0, 0, 0), 0, 0), (15, .ldc2_w 268, (1112, 0, 0, 0), 0, 2), (18, .invokestatic 82, (0, 3, 0, 0), 0, 0), (21, .ifCond .ne 6, (0, 0, 0, 0), 0, 0), (24, .bipush (-2), (0, 0, 0, 0), (-2), 0), (26, .ireturn, (0, 0, 0, 0), 0, 0), (27, .aload_n 0, (0, 0, 0, 0), 0, 0), (28, .invokevirtual 295, (0, 0, 0, 0), 0, 0), (31, .aload_n 0, (0, 0, 0, 0), 0, 0), (32, .iload_n 1, (0, 0, 0, 0), 0, 0), (33, .invokevirtual 298, (0, 0, 0, 0), 0, 0), (36, .istore_n 3, (0, 0, 0, 0), 0, 0), (37, .iload_n 2, (0, 0, 0, 0), 0, 0), (38, .ifCond .ne 10, (0, 0, 0, 0), 0, 0), (41, .aload_n 0, (0, 0, 0, 0), 0, 0), (42, .invokevirtual 119, (0, 0, 0, 0), 0, 0), (45, .goto 16, (0, 0, 0, 0), 0, 0), (48, .iload_n 2, (0, 0, 0, 0), 0, 0), (49, .iconst 1, (0, 0, 0, 0), 1, 0), (50, .if_icmp .ne 10, (0, 0, 0, 0), 0, 0), (53, .aload_n 0, (0, 0, 0, 0), 0, 0), (54, .getfield 136, (811, 6, 10, 0), 0, 0), (57, .goto 4, (0, 0, 0, 0), 0, 0), (60, .iload_n 3, (0, 0, 0, 0), 0, 0), (61, .istore 4, (0, 0, 0, 0), 0, 0), (63, .aload_n 0, (0, 0, 0, 0), 0, 0), (64, .invokevirtual 301, (0, 0, 0, 0), 0, 0), (67, .iload 4, (0, 0, 0, 0), 0, 0), (69, .ireturn, (0, 0, 0, 0), 0, 0)]
theorem okX6_run : kX6_run.all (xOk RX6 cX6_run) = true := by decide +kernel
def kX6_lasts : List xI := [(0, .iload_n 1, (0, 0, 0, 0), 0, 0), (1, .invokestatic 90, (0, 3, 0, 0), 0, 0), (4, .ifCond .ne 6, (0, 0, 0, 0), 0, 0), (7, .bipush (-2), (0, 0, 0, 0), (-2), 0), (9, .ireturn, (0, 0, 0, 0), 0, 0), (10, .aload_n 0, (0, 0, 0, 0), 0, 0), (11, .invokevirtual 295, (0, 0, 0, 0), 0, 0), (14, .iconst 0, (0, 0, 0, 0), 0, 0), (15, .istore_n 2, (0, 0, 0, 0), 0, 0), (16, .iload_n 2, (0, 0, 0, 0), 0, 0), (17, .bipush 40, (0, 0, 0, 0), 40, 0), (19, .if_icmp .gt 24, (0, 0, 0, 0), 0, 0), (22, .aload_n 0, (0, 0, 0, 0), 0, 0), (23, .getfield 26, (812, 6, 11, 0), 0, 0), (26, .iload_n 1, (0, 0, 0, 0), 0, 0), (27, .iaload, (0, 0, 0, 0), 0, 0), (28, .ifCond .le 15, (0, 0, 0, 0), 0, 0), (31, .aload_n 0, (0, 0, 0, 0), 0, 0), (32, .iconst 1, (0, 0, 0, 0), 1, 0), (33, .invokevirtual 298, (0, 0, 0, 0), 0, 0), (36, .pop, (0, 0, 0, 0), 0, 0), (37, .iinc 2 1, (0, 0, 0, 0), 1, 0), (40, .goto (-24), (0, 0, 0, 0), 0, 0), (43, .aload_n 0, (0, 0, 0, 0), 0, 0), (44, .invokevirtual 301, (0, 0, 0, 0), 0, 0), (47, .iload_n 2, (0, 0, 0, 0), 0, 0), (48, .bipush 40, (0, 0, 0, 0), 40, 0), (50, .if_icmp .le 7, (0, 0, 0, 0), 0, 0), (53, .iconst (-1), (0, 0, 0, 0), (-1), 0), (54, .goto 4, (0, 0, 0, 0), 0, 0), (57, .iload_n 2, (0, 0, 0, 0), 0, 0), (58, .ireturn, (0, 0, 0, 0), 0, 0)]
theorem okX6_lasts : kX6_lasts.all (xOk RX6 cX6_lasts) = true := by decide +kernel
def kX6_unionOf : List xI := [(0, .iconst 0, (0, 0, 0, 0), 0, 0), (1, .istore_n 2, (0, 0, 0, 0), 0, 0), (2, .iconst 0, (0, 0, 0, 0), 0, 0), (3, .istore_n 3, (0, 0, 0, 0), 0, 0), (4, .iload_n 3, (0, 0, 0, 0), 0, 0), (5, .bipush 10, (0, 0, 0, 0), 10, 0), (7, .if_icmp .ge 31, (0, 0, 0, 0), 0, 0), (10, .iload_n 2, (0, 0, 0, 0), 0, 0), (11, .iload_n 1, (0, 0, 0, 0), 0, 0), (12, .iload_n 3, (0, 0, 0, 0), 0, 0), (13, .ishr, (0, 0, 0, 0), 0, 0), (14, .iconst 1, (0, 0, 0, 0), 1, 0), (15, .iand, (0, 0, 0, 0), 0, 0), (16, .iconst 1, (0, 0, 0, 0), 1, 0), (17, .if_icmp .ne 12, (0, 0, 0, 0), 0, 0), (20, .aload_n 0, (0, 0, 0, 0), 0, 0), (21, .getfield 29, (813, 6, 12, 0), 0, 0), (24, .iload_n 3, (0, 0, 0, 0), 0, 0), (25, .iaload, (0, 0, 0, 0), 0, 0), (26, .goto 4, (0, 0, 0, 0), 0, 0), (29, .iconst 0, (0, 0, 0, 0), 0, 0), (30, .ior, (0, 0, 0, 0), 0, 0), (31, .istore_n 2, (0, 0, 0, 0), 0, 0), (32, .iinc 3 1, (0, 0, 0, 0), 1, 0), (35, .goto (-31), (0, 0, 0, 0), 0, 0), (38, .iload_n 2, (0, 0, 0, 0), 0, 0), (39, .ireturn, (0, 0, 0, 0), 0, 0)]
theorem okX6_unionOf : kX6_unionOf.all (xOk RX6 cX6_unionOf) = true := by decide +kernel
def kX6_harmOf : List xI := [(0, .iconst 0, (0, 0, 0, 0), 0, 0), (1, .istore_n 2, (0, 0, 0, 0), 0, 0), (2, .iconst 0, (0, 0, 0, 0), 0, 0), (3, .istore_n 3, (0, 0, 0, 0), 0, 0), (4, .iload_n 3, (0, 0, 0, 0), 0, 0), (5, .bipush 10, (0, 0, 0, 0), 10, 0), (7, .if_icmp .ge 31, (0, 0, 0, 0), 0, 0), (10, .iload_n 2, (0, 0, 0, 0), 0, 0), (11, .iload_n 1, (0, 0, 0, 0), 0, 0), (12, .iload_n 3, (0, 0, 0, 0), 0, 0), (13, .ishr, (0, 0, 0, 0), 0, 0), (14, .iconst 1, (0, 0, 0, 0), 1, 0), (15, .iand, (0, 0, 0, 0), 0, 0), (16, .iconst 1, (0, 0, 0, 0), 1, 0), (17, .if_icmp .ne 12, (0, 0, 0, 0), 0, 0), (20, .aload_n 0, (0, 0, 0, 0), 0, 0), (21, .getfield 32, (814, 6, 13, 0), 0, 0), (24, .iload_n 3, (0, 0, 0, 0), 0, 0), (25, .iaload, (0, 0, 0, 0), 0, 0), (26, .goto 4, (0, 0, 0, 0), 0, 0), (29, .iconst 0, (0, 0, 0, 0), 0, 0), (30, .iadd, (0, 0, 0, 0), 0, 0), (31, .istore_n 2, (0, 0, 0, 0), 0, 0), (32, .iinc 3 1, (0, 0, 0, 0), 1, 0), (35, .goto (-31), (0, 0, 0, 0), 0, 0), (38, .iload_n 2, (0, 0, 0, 0), 0, 0), (39, .ireturn, (0, 0, 0, 0), 0, 0)]
theorem okX6_harmOf : kX6_harmOf.all (xOk RX6 cX6_harmOf) = true := by decide +kernel
def kX6_cover : List xI := [(0, .iload_n 1, (0, 0, 0, 0), 0, 0), (1, .i2l, (0, 0, 0, 0), 0, 0), (2, .lconst 0, (0, 0, 0, 0), 0, 0), (3, .ldc2_w 139, (1099, 0, 0, 0), 0, 255), (6, .invokestatic 82, (0, 3, 0, 0), 0, 0), (9, .ifCond .eq 15, (0, 0, 0, 0), 0, 0), (12, .iload_n 2, (0, 0, 0, 0), 0, 0), (13, .i2l, (0, 0, 0, 0), 0, 0), (14, .lconst 0, (0, 0, 0, 0), 0, 0), (15, .ldc2_w 304, (1167, 0, 0, 0), 0, 3), (18, .invokestatic 82, (0, 3, 0, 0), 0, 0), (21, .ifCond .ne 6, (0, 0, 0, 0), 0, 0), (24, .bipush (-2), (0, 0, 0, 0), (-2), 0), (26, .ireturn, (0, 0, 0, 0), 0, 0), (27, .iconst (-1), (0, 0, 0, 0), (-1), 0), (28, .istore_n 3, (0, 0, 0, 0), 0, 0), (29, .iconst 0, (0, 0, 0, 0), 0, 0), (30, .istore 4, (0, 0, 0, 0), 0, 0), (32, .iconst 0, (0, 0, 0, 0), 0, 0), (33, .istore 5, (0, 0, 0, 0), 0, 0), (35, .iload 5, (0, 0, 0, 0), 0, 0), (37, .sipush 1024, (0, 0, 0, 0), 1024, 0), (40, .if_icmp .ge 83, (0, 0, 0, 0), 0, 0), (43, .iload_n 1, (0, 0, 0, 0), 0, 0), (44, .aload_n 0, (0, 0, 0, 0), 0, 0), (45, .iload 5, (0, 0, 0, 0), 0, 0), (47, .invokevirtual 306, (0, 0, 0, 0), 0, 0), (50, .iconst (-1), (0, 0, 0, 0), (-1), 0), (51, .ixor, (0, 0, 0, 0), 0, 0), (52, .iand, (0, 0, 0, 0), 0, 0), (53, .ifCond .ne 64, (0, 0, 0, 0), 0, 0), (56, .iload_n 2, (0, 0, 0, 0), 0, 0), (57, .iconst 2, (0, 0, 0, 0), 2, 0), (58, .if_icmp .ge 22, (0, 0, 0, 0), 0, 0), (61, .sipush 1000, (0, 0, 0, 0), 1000, 0), (64, .aload_n 0, (0, 0, 0, 0), 0, 0), (65, .iload 5, (0, 0, 0, 0), 0, 0), (67, .invokevirtual 309, (0, 0, 0, 0), 0, 0), (70, .imul, (0, 0, 0, 0), 0, 0), (71, .iload 5, (0, 0, 0, 0), 0, 0), (73, .invokestatic 255, (0, 3, 0, 0), 0, 0), (76, .iadd, (0, 0, 0, 0), 0, 0), (77, .goto 19, (0, 0, 0, 0), 0, 0), (80, .sipush 1000, (0, 0, 0, 0), 1000, 0), (83, .iload 5, (0, 0, 0, 0), 0, 0), (85, .invokestatic 255, (0, 3, 0, 0), 0, 0), (88, .imul, (0, 0, 0, 0), 0, 0), (89, .aload_n 0, (0, 0, 0, 0), 0, 0), (90, .iload 5, (0, 0, 0, 0), 0, 0), (92, .invokevirtual 309, (0, 0, 0, 0), 0, 0), (95, .iadd, (0, 0, 0, 0), 0, 0), (96, .istore 6, (0, 0, 0, 0), 0, 0), (98, .iload_n 3, (0, 0, 0, 0), 0, 0), (99, .iconst (-1), (0, 0, 0, 0), (-1), 0), (100, .if_icmp .eq 10, (0, 0, 0, 0), 0, 0), (103, .iload 6, (0, 0, 0, 0), 0, 0), (105, .iload 4, (0, 0, 0, 0), 0, 0), (107, .if_icmp .ge 10, (0, 0, 0, 0), 0, 0), (110, .iload 5, (0, 0, 0, 0), 0, 0), (112, .istore_n 3, (0, 0, 0, 0), 0, 0), (113, .iload 6, (0, 0, 0, 0), 0, 0), (115, .istore 4, (0, 0, 0, 0), 0, 0), (117, .iinc 5 1, (0, 0, 0, 0), 1, 0), (120, .goto (-85), (0, 0, 0, 0), 0, 0), (123, .iload_n 3, (0, 0, 0, 0), 0, 0), (124, .iconst (-1), (0, 0, 0, 0), (-1), 0), (125, .if_icmp .eq 12, (0, 0, 0, 0), 0, 0), (128, .iload_n 2, (0, 0, 0, 0), 0, 0), (129, .ifCond .eq 8, (0, 0, 0, 0), 0, 0), (132, .iload_n 2, (0, 0, 0, 0), 0, 0), (133, .iconst 2, (0, 0, 0, 0), 2, 0), (134, .if_icmp .ne 7, (0, 0, 0, 0), 0, 0), (137, .iload_n 3, (0, 0, 0, 0), 0, 0), (138, .goto 9, (0, 0, 0, 0), 0, 0), (141, .iload 4, (0, 0, 0, 0), 0, 0), (143, .sipush 1000, (0, 0, 0, 0), 1000, 0), (146, .idiv, (0, 0, 0, 0), 0, 0), (147, .ireturn, (0, 0, 0, 0), 0, 0)]
theorem okX6_cover : kX6_cover.all (xOk RX6 cX6_cover) = true := by decide +kernel
def kX6_gives : List xI := [(0, .iload_n 1, (0, 0, 0, 0), 0, 0), (1, .aload_n 0, (0, 0, 0, 0), 0, 0), (2, .getfield 79, (816, 6, 15, 0), 0, 0), (5, .if_icmp .ne 55, (0, 0, 0, 0), 0, 0), (8, .iload 4, (0, 0, 0, 0), 0, 0), (10, .invokestatic 255, (0, 3, 0, 0), 0, 0), (13, .istore 6, (0, 0, 0, 0), 0, 0), (15, .iload 6, (0, 0, 0, 0), 0, 0), (17, .aload_n 0, (0, 0, 0, 0), 0, 0), (18, .getfield 312, (834, 6, 33, 0), 0, 0), (21, .if_icmp .gt 21, (0, 0, 0, 0), 0, 0), (24, .iload 6, (0, 0, 0, 0), 0, 0), (26, .aload_n 0, (0, 0, 0, 0), 0, 0), (27, .getfield 312, (834, 6, 33, 0), 0, 0), (30, .if_icmp .ne 29, (0, 0, 0, 0), 0, 0), (33, .iload 5, (0, 0, 0, 0), 0, 0), (35, .aload_n 0, (0, 0, 0, 0), 0, 0), (36, .getfield 315, (835, 6, 34, 0), 0, 0), (39, .if_icmp .ge 20, (0, 0, 0, 0), 0, 0), (42, .aload_n 0, (0, 0, 0, 0), 0, 0), (43, .iload_n 3, (0, 0, 0, 0), 0, 0), (44, .putfield 318, (833, 6, 32, 0), 0, 0), (47, .aload_n 0, (0, 0, 0, 0), 0, 0), (48, .iload 6, (0, 0, 0, 0), 0, 0), (50, .putfield 312, (834, 6, 33, 0), 0, 0), (53, .aload_n 0, (0, 0, 0, 0), 0, 0), (54, .iload 5, (0, 0, 0, 0), 0, 0), (56, .putfield 315, (835, 6, 34, 0), 0, 0), (59, .return_, (0, 0, 0, 0), 0, 0), (60, .aload_n 0, (0, 0, 0, 0), 0, 0), (61, .iload_n 1, (0, 0, 0, 0), 0, 0), (62, .iconst 1, (0, 0, 0, 0), 1, 0), (63, .iadd, (0, 0, 0, 0), 0, 0), (64, .iload_n 2, (0, 0, 0, 0), 0, 0), (65, .bipush 11, (0, 0, 0, 0), 11, 0), (67, .iload_n 3, (0, 0, 0, 0), 0, 0), (68, .imul, (0, 0, 0, 0), 0, 0), (69, .iload 4, (0, 0, 0, 0), 0, 0), (71, .iload 5, (0, 0, 0, 0), 0, 0), (73, .invokevirtual 321, (0, 0, 0, 0), 0, 0), (76, .iconst 0, (0, 0, 0, 0), 0, 0), (77, .istore 6, (0, 0, 0, 0), 0, 0), (79, .iload 6, (0, 0, 0, 0), 0, 0), (81, .bipush 10, (0, 0, 0, 0), 10, 0), (83, .if_icmp .ge 75, (0, 0, 0, 0), 0, 0), (86, .aload_n 0, (0, 0, 0, 0), 0, 0), (87, .getfield 41, (836, 6, 35, 0), 0, 0), (90, .iload_n 1, (0, 0, 0, 0), 0, 0), (91, .iaload, (0, 0, 0, 0), 0, 0), (92, .iload_n 2, (0, 0, 0, 0), 0, 0), (93, .iconst (-1), (0, 0, 0, 0), (-1), 0), (94, .ixor, (0, 0, 0, 0), 0, 0), (95, .iand, (0, 0, 0, 0), 0, 0), (96, .iload 6, (0, 0, 0, 0), 0, 0), (98, .ishr, (0, 0, 0, 0), 0, 0), (99, .iconst 1, (0, 0, 0, 0), 1, 0), (100, .iand, (0, 0, 0, 0), 0, 0), (101, .iconst 1, (0, 0, 0, 0), 1, 0), (102, .if_icmp .ne 50, (0, 0, 0, 0), 0, 0), (105, .aload_n 0, (0, 0, 0, 0), 0, 0), (106, .iload_n 1, (0, 0, 0, 0), 0, 0), (107, .iconst 1, (0, 0, 0, 0), 1, 0), (108, .iadd, (0, 0, 0, 0), 0, 0), (109, .iload_n 2, (0, 0, 0, 0), 0, 0), (110, .iconst 1, (0, 0, 0, 0), 1, 0), (111, .iload 6, (0, 0, 0, 0), 0, 0), (113, .ishl, (0, 0, 0, 0), 0, 0), (114, .ior, (0, 0, 0, 0), 0, 0), (115, .bipush 11, (0, 0, 0, 0), 11, 0), (117, .iload_n 3, (0, 0, 0, 0), 0, 0), (118, .imul, (0, 0, 0, 0), 0, 0), (119, .iload 6, (0, 0, 0, 0), 0, 0), (121, .iadd, (0, 0, 0, 0), 0, 0), (122, .iconst 1, (0, 0, 0, 0), 1, 0), (123, .iadd, (0, 0, 0, 0), 0, 0), (124, .iload 4, (0, 0, 0, 0), 0, 0), (126, .aload_n 0, (0, 0, 0, 0), 0, 0), (127, .getfield 29, (813, 6, 12, 0), 0, 0), (130, .iload 6, (0, 0, 0, 0), 0, 0), (132, .iaload, (0, 0, 0, 0), 0, 0), (133, .aload_n 0, (0, 0, 0, 0), 0, 0), (134, .invokevirtual 119, (0, 0, 0, 0), 0, 0), (137, .iand, (0, 0, 0, 0), 0, 0), (138, .ior, (0, 0, 0, 0), 0, 0), (139, .iload 5, (0, 0, 0, 0), 0, 0), (141, .aload_n 0, (0, 0, 0, 0), 0, 0), (142, .iload_n 1, (0, 0, 0, 0), 0, 0), (143, .iload 6, (0, 0, 0, 0), 0, 0), (145, .invokevirtual 273, (0, 0, 0, 0), 0, 0), (148, .iadd, (0, 0, 0, 0), 0, 0), (149, .invokevirtual 321, (0, 0, 0, 0), 0, 0), (152, .iinc 6 1, (0, 0, 0, 0), 1, 0), (155, .goto (-76), (0, 0, 0, 0), 0, 0), (158, .return_, (0, 0, 0, 0), 0, 0)]
theorem okX6_gives : kX6_gives.all (xOk RX6 cX6_gives) = true := by decide +kernel
def kX6_rota : List xI := [(0, .iload_n 1, (0, 0, 0, 0), 0, 0), (1, .i2l, (0, 0, 0, 0), 0, 0), (2, .lconst 0, (0, 0, 0, 0), 0, 0), (3, .ldc2_w 268, (1112, 0, 0, 0), 0, 2), (6, .invokestatic 82, (0, 3, 0, 0), 0, 0), (9, .ifCond .ne 6, (0, 0, 0, 0), 0, 0), (12, .bipush (-2), (0, 0, 0, 0), (-2), 0), (14, .ireturn, (0, 0, 0, 0), 0, 0), (15, .iconst 0, (0, 0, 0, 0), 0, 0), (16, .istore_n 2, (0, 0, 0, 0), 0, 0), (17, .iload_n 2, (0, 0, 0, 0), 0, 0), (18, .aload_n 0, (0, 0, 0, 0), 0, 0), (19, .getfield 79, (816, 6, 15, 0), 0, 0), (22, .if_icmp .ge 20, (0, 0, 0, 0), 0, 0), (25, .aload_n 0, (0, 0, 0, 0), 0, 0), (26, .getfield 41, (836, 6, 35, 0), 0, 0), (29, .iload_n 2, (0, 0, 0, 0), 0, 0), (30, .aload_n 0, (0, 0, 0, 0), 0, 0), (31, .iload_n 2, (0, 0, 0, 0), 0, 0), (32, .invokevirtual 133, (0, 0, 0, 0), 0, 0), (35, .iastore, (0, 0, 0, 0), 0, 0), (36, .iinc 2 1, (0, 0, 0, 0), 1, 0), (39, .goto (-22), (0, 0, 0, 0), 0, 0), (42, .aload_n 0, (0, 0, 0, 0), 0, 0), (43, .iconst (-1), (0, 0, 0, 0), (-1), 0), (44, .putfield 312, (834, 6, 33, 0), 0, 0), (47, .aload_n 0, (0, 0, 0, 0), 0, 0), (48, .iconst 0, (0, 0, 0, 0), 0, 0), (49, .iconst 0, (0, 0, 0, 0), 0, 0), (50, .iconst 0, (0, 0, 0, 0), 0, 0), (51, .aload_n 0, (0, 0, 0, 0), 0, 0), (52, .getfield 116, (810, 6, 9, 0), 0, 0), (55, .iconst 0, (0, 0, 0, 0), 0, 0), (56, .invokevirtual 321, (0, 0, 0, 0), 0, 0), (59, .iload_n 1, (0, 0, 0, 0), 0, 0), (60, .ifCond .ne 10, (0, 0, 0, 0), 0, 0), (63, .aload_n 0, (0, 0, 0, 0), 0, 0), (64, .getfield 318, (833, 6, 32, 0), 0, 0), (67, .goto 19, (0, 0, 0, 0), 0, 0), (70, .iload_n 1, (0, 0, 0, 0), 0, 0), (71, .iconst 1, (0, 0, 0, 0), 1, 0), (72, .if_icmp .ne 10, (0, 0, 0, 0), 0, 0), (75, .aload_n 0, (0, 0, 0, 0), 0, 0), (76, .getfield 312, (834, 6, 33, 0), 0, 0), (79, .goto 7, (0, 0, 0, 0), 0, 0), (82, .aload_n 0, (0, 0, 0, 0), 0, 0), (83, .getfield 315, (835, 6, 34, 0), 0, 0), (86, .ireturn, (0, 0, 0, 0), 0, 0)]
theorem okX6_rota : kX6_rota.all (xOk RX6 cX6_rota) = true := by decide +kernel
def kX6_aliveBehind : List xI := [(0, .aload_n 0, (0, 0, 0, 0), 0, 0), (1, .invokevirtual 295, (0, 0, 0, 0), 0, 0), (4, .aload_n 0, (0, 0, 0, 0), 0, 0), (5, .dup, (0, 0, 0, 0), 0, 0), (6, .getfield 116, (810, 6, 9, 0), 0, 0), (9, .iload_n 1, (0, 0, 0, 0), 0, 0), (10, .aload_n 0, (0, 0, 0, 0), 0, 0), (11, .invokevirtual 119, (0, 0, 0, 0), 0, 0), (14, .iand, (0, 0, 0, 0), 0, 0), (15, .ior, (0, 0, 0, 0), 0, 0), (16, .putfield 116, (810, 6, 9, 0), 0, 0), (19, .aload_n 0, (0, 0, 0, 0), 0, 0), (20, .iload_n 2, (0, 0, 0, 0), 0, 0), (21, .invokevirtual 298, (0, 0, 0, 0), 0, 0), (24, .pop, (0, 0, 0, 0), 0, 0), (25, .aload_n 0, (0, 0, 0, 0), 0, 0), (26, .invokevirtual 119, (0, 0, 0, 0), 0, 0), (29, .invokestatic 255, (0, 3, 0, 0), 0, 0), (32, .istore_n 3, (0, 0, 0, 0), 0, 0), (33, .aload_n 0, (0, 0, 0, 0), 0, 0), (34, .invokevirtual 301, (0, 0, 0, 0), 0, 0), (37, .iload_n 3, (0, 0, 0, 0), 0, 0), (38, .ireturn, (0, 0, 0, 0), 0, 0)]
theorem okX6_aliveBehind : kX6_aliveBehind.all (xOk RX6 cX6_aliveBehind) = true := by decide +kernel
def kX6_saves : List xI := [(0, .iload_n 1, (0, 0, 0, 0), 0, 0), (1, .i2l, (0, 0, 0, 0), 0, 0), (2, .lconst 1, (0, 0, 0, 0), 0, 1), (3, .ldc2_w 174, (1023, 0, 0, 0), 0, 10), (6, .invokestatic 82, (0, 3, 0, 0), 0, 0), (9, .ifCond .eq 13, (0, 0, 0, 0), 0, 0), (12, .iload_n 2, (0, 0, 0, 0), 0, 0), (13, .i2l, (0, 0, 0, 0), 0, 0), (14, .lconst 0, (0, 0, 0, 0), 0, 0), (15, .lconst 1, (0, 0, 0, 0), 0, 1), (16, .invokestatic 82, (0, 3, 0, 0), 0, 0), (19, .ifCond .ne 6, (0, 0, 0, 0), 0, 0), (22, .bipush (-2), (0, 0, 0, 0), (-2), 0), (24, .ireturn, (0, 0, 0, 0), 0, 0), (25, .iconst (-1), (0, 0, 0, 0), (-1), 0), (26, .istore_n 3, (0, 0, 0, 0), 0, 0), (27, .aload_n 0, (0, 0, 0, 0), 0, 0), (28, .iconst 0, (0, 0, 0, 0), 0, 0), (29, .iload_n 1, (0, 0, 0, 0), 0, 0), (30, .invokevirtual 325, (0, 0, 0, 0), 0, 0), (33, .istore 4, (0, 0, 0, 0), 0, 0), (35, .iconst 0, (0, 0, 0, 0), 0, 0), (36, .istore 5, (0, 0, 0, 0), 0, 0), (38, .iload 5, (0, 0, 0, 0), 0, 0), (40, .bipush 10, (0, 0, 0, 0), 10, 0), (42, .if_icmp .ge 37, (0, 0, 0, 0), 0, 0), (45, .aload_n 0, (0, 0, 0, 0), 0, 0), (46, .aload_n 0, (0, 0, 0, 0), 0, 0), (47, .getfield 29, (813, 6, 12, 0), 0, 0), (50, .iload 5, (0, 0, 0, 0), 0, 0), (52, .iaload, (0, 0, 0, 0), 0, 0), (53, .iload_n 1, (0, 0, 0, 0), 0, 0), (54, .invokevirtual 325, (0, 0, 0, 0), 0, 0), (57, .istore 6, (0, 0, 0, 0), 0, 0), (59, .iload 6, (0, 0, 0, 0), 0, 0), (61, .iload 4, (0, 0, 0, 0), 0, 0), (63, .if_icmp .le 10, (0, 0, 0, 0), 0, 0), (66, .iload 5, (0, 0, 0, 0), 0, 0), (68, .istore_n 3, (0, 0, 0, 0), 0, 0), (69, .iload 6, (0, 0, 0, 0), 0, 0), (71, .istore 4, (0, 0, 0, 0), 0, 0), (73, .iinc 5 1, (0, 0, 0, 0), 1, 0), (76, .goto (-38), (0, 0, 0, 0), 0, 0), (79, .iload_n 2, (0, 0, 0, 0), 0, 0), (80, .ifCond .ne 7, (0, 0, 0, 0), 0, 0), (83, .iload_n 3, (0, 0, 0, 0), 0, 0), (84, .goto 5, (0, 0, 0, 0), 0, 0), (87, .iload 4, (0, 0, 0, 0), 0, 0), (89, .ireturn, (0, 0, 0, 0), 0, 0)]
theorem okX6_saves : kX6_saves.all (xOk RX6 cX6_saves) = true := by decide +kernel
def kX6_letGo : List xI := [(0, .iload_n 1, (0, 0, 0, 0), 0, 0), (1, .i2l, (0, 0, 0, 0), 0, 0), (2, .lconst 0, (0, 0, 0, 0), 0, 0), (3, .lconst 1, (0, 0, 0, 0), 0, 1), (4, .invokestatic 82, (0, 3, 0, 0), 0, 0), (7, .ifCond .ne 6, (0, 0, 0, 0), 0, 0), (10, .bipush (-2), (0, 0, 0, 0), (-2), 0), (12, .ireturn, (0, 0, 0, 0), 0, 0), (13, .iconst (-1), (0, 0, 0, 0), (-1), 0), (14, .istore_n 2, (0, 0, 0, 0), 0, 0), (15, .iconst (-1), (0, 0, 0, 0), (-1), 0), (16, .istore_n 3, (0, 0, 0, 0), 0, 0), (17, .iconst 0, (0, 0, 0, 0), 0, 0), (18, .istore 4, (0, 0, 0, 0), 0, 0), (20, .iload 4, (0, 0, 0, 0), 0, 0), (22, .bipush 8, (0, 0, 0, 0), 8, 0), (24, .if_icmp .ge 94, (0, 0, 0, 0), 0, 0), (27, .sipush 1000, (0, 0, 0, 0), 1000, 0), (30, .istore 5, (0, 0, 0, 0), 0, 0), (32, .iconst 0, (0, 0, 0, 0), 0, 0), (33, .istore 6, (0, 0, 0, 0), 0, 0), (35, .iload 6, (0, 0, 0, 0), 0, 0), (37, .bipush 10, (0, 0, 0, 0), 10, 0), (39, .if_icmp .ge 51, (0, 0, 0, 0), 0, 0), (42, .aload_n 0, (0, 0, 0, 0), 0, 0), (43, .getfield 29, (813, 6, 12, 0), 0, 0), (46, .iload 6, (0, 0, 0, 0), 0, 0), (48, .iaload, (0, 0, 0, 0), 0, 0), (49, .iload 4, (0, 0, 0, 0), 0, 0), (51, .ishr, (0, 0, 0, 0), 0, 0), (52, .iconst 1, (0, 0, 0, 0), 1, 0), (53, .iand, (0, 0, 0, 0), 0, 0), (54, .iconst 1, (0, 0, 0, 0), 1, 0), (55, .if_icmp .ne 25, (0, 0, 0, 0), 0, 0), (58, .aload_n 0, (0, 0, 0, 0), 0, 0), (59, .getfield 32, (814, 6, 13, 0), 0, 0), (62, .iload 6, (0, 0, 0, 0), 0, 0), (64, .iaload, (0, 0, 0, 0), 0, 0), (65, .iload 5, (0, 0, 0, 0), 0, 0), (67, .if_icmp .ge 13, (0, 0, 0, 0), 0, 0), (70, .aload_n 0, (0, 0, 0, 0), 0, 0), (71, .getfield 32, (814, 6, 13, 0), 0, 0), (74, .iload 6, (0, 0, 0, 0), 0, 0), (76, .iaload, (0, 0, 0, 0), 0, 0), (77, .goto 5, (0, 0, 0, 0), 0, 0), (80, .iload 5, (0, 0, 0, 0), 0, 0), (82, .istore 5, (0, 0, 0, 0), 0, 0), (84, .iinc 6 1, (0, 0, 0, 0), 1, 0), (87, .goto (-52), (0, 0, 0, 0), 0, 0), (90, .aload_n 0, (0, 0, 0, 0), 0, 0), (91, .getfield 26, (812, 6, 11, 0), 0, 0), (94, .iload 4, (0, 0, 0, 0), 0, 0), (96, .iaload, (0, 0, 0, 0), 0, 0), (97, .ifCond .le 15, (0, 0, 0, 0), 0, 0), (100, .iload 5, (0, 0, 0, 0), 0, 0), (102, .iload_n 3, (0, 0, 0, 0), 0, 0), (103, .if_icmp .le 9, (0, 0, 0, 0), 0, 0), (106, .iload 4, (0, 0, 0, 0), 0, 0), (108, .istore_n 2, (0, 0, 0, 0), 0, 0), (109, .iload 5, (0, 0, 0, 0), 0, 0), (111, .istore_n 3, (0, 0, 0, 0), 0, 0), (112, .iinc 4 1, (0, 0, 0, 0), 1, 0), (115, .goto (-95), (0, 0, 0, 0), 0, 0), (118, .iload_n 1, (0, 0, 0, 0), 0, 0), (119, .ifCond .ne 7, (0, 0, 0, 0), 0, 0), (122, .iload_n 2, (0, 0, 0, 0), 0, 0), (123, .goto 4, (0, 0, 0, 0), 0, 0), (126, .iload_n 3, (0, 0, 0, 0), 0, 0), (127, .ireturn, (0, 0, 0, 0), 0, 0)]
theorem okX6_letGo : kX6_letGo.all (xOk RX6 cX6_letGo) = true := by decide +kernel
def kX6_lowest : List xI := [(0, .lload_n 0, (0, 0, 0, 0), 0, 0), (1, .lstore 5, (0, 0, 0, 0), 0, 0), (3, .lload_n 2, (0, 0, 0, 0), 0, 0), (4, .lstore 7, (0, 0, 0, 0), 0, 0), (6, .lload 7, (0, 0, 0, 0), 0, 0), (8, .lconst 0, (0, 0, 0, 0), 0, 0), (9, .lcmp, (0, 0, 0, 0), 0, 0), (10, .ifCond .eq 21, (0, 0, 0, 0), 0, 0), (13, .lload 5, (0, 0, 0, 0), 0, 0), (15, .lload 7, (0, 0, 0, 0), 0, 0), (17, .lrem, (0, 0, 0, 0), 0, 0), (18, .lstore 9, (0, 0, 0, 0), 0, 0), (20, .lload 7, (0, 0, 0, 0), 0, 0), (22, .lstore 5, (0, 0, 0, 0), 0, 0), (24, .lload 9, (0, 0, 0, 0), 0, 0), (26, .lstore 7, (0, 0, 0, 0), 0, 0), (28, .goto (-22), (0, 0, 0, 0), 0, 0), (31, .iload 4, (0, 0, 0, 0), 0, 0), (33, .ifCond .ne 10, (0, 0, 0, 0), 0, 0), (36, .lload_n 0, (0, 0, 0, 0), 0, 0), (37, .lload 5, (0, 0, 0, 0), 0, 0), (39, .ldiv, (0, 0, 0, 0), 0, 0), (40, .goto 7, (0, 0, 0, 0), 0, 0), (43, .lload_n 2, (0, 0, 0, 0), 0, 0), (44, .lload 5, (0, 0, 0, 0), 0, 0), (46, .ldiv, (0, 0, 0, 0), 0, 0), (47, .lreturn, (0, 0, 0, 0), 0, 0)]
theorem okX6_lowest : kX6_lowest.all (xOk RX6 cX6_lowest) = true := by decide +kernel
def kX6_share : List xI := [(0, .iload_n 1, (0, 0, 0, 0), 0, 0), (1, .i2l, (0, 0, 0, 0), 0, 0), (2, .lconst 0, (0, 0, 0, 0), 0, 0), (3, .lconst 1, (0, 0, 0, 0), 0, 1), (4, .invokestatic 82, (0, 3, 0, 0), 0, 0), (7, .ifCond .eq 33, (0, 0, 0, 0), 0, 0), (10, .aload_n 0, (0, 0, 0, 0), 0, 0), (11, .invokevirtual 119, (0, 0, 0, 0), 0, 0), (14, .ifCond .eq 26, (0, 0, 0, 0), 0, 0), (17, .aload_n 0, (0, 0, 0, 0), 0, 0), (18, .getfield 116, (810, 6, 9, 0), 0, 0), (21, .invokestatic 255, (0, 3, 0, 0), 0, 0), (24, .i2l, (0, 0, 0, 0), 0, 0), (25, .aload_n 0, (0, 0, 0, 0), 0, 0), (26, .invokevirtual 119, (0, 0, 0, 0), 0, 0), (29, .invokestatic 255, (0, 3, 0, 0), 0, 0), (32, .i2l, (0, 0, 0, 0), 0, 0), (33, .iload_n 1, (0, 0, 0, 0), 0, 0), (34, .invokestatic 328, (0, 3, 0, 0), 0, 0), (37, .goto 6, (0, 0, 0, 0), 0, 0), (40, .ldc2_w 332, (1203, 0, 0, 0), 0, (-4611686018427387904)), (43, .lreturn, (0, 0, 0, 0), 0, 0)]
theorem okX6_share : kX6_share.all (xOk RX6 cX6_share) = true := by decide +kernel
def kX6_firstOther : List xI := [(0, .iconst 0, (0, 0, 0, 0), 0, 0), (1, .istore_n 3, (0, 0, 0, 0), 0, 0), (2, .iload_n 3, (0, 0, 0, 0), 0, 0), (3, .aload_n 0, (0, 0, 0, 0), 0, 0), (4, .getfield 66, (849, 6, 48, 0), 0, 0), (7, .iload_n 1, (0, 0, 0, 0), 0, 0), (8, .iaload, (0, 0, 0, 0), 0, 0), (9, .if_icmp .ge 44, (0, 0, 0, 0), 0, 0), (12, .aload_n 0, (0, 0, 0, 0), 0, 0), (13, .iload_n 2, (0, 0, 0, 0), 0, 0), (14, .iload_n 3, (0, 0, 0, 0), 0, 0), (15, .invokevirtual 270, (0, 0, 0, 0), 0, 0), (18, .ifCond .eq 12, (0, 0, 0, 0), 0, 0), (21, .aload_n 0, (0, 0, 0, 0), 0, 0), (22, .iload_n 2, (0, 0, 0, 0), 0, 0), (23, .iload_n 3, (0, 0, 0, 0), 0, 0), (24, .invokevirtual 273, (0, 0, 0, 0), 0, 0), (27, .goto 4, (0, 0, 0, 0), 0, 0), (30, .iconst (-1), (0, 0, 0, 0), (-1), 0), (31, .aload_n 0, (0, 0, 0, 0), 0, 0), (32, .getfield 69, (850, 6, 49, 0), 0, 0), (35, .bipush 40, (0, 0, 0, 0), 40, 0), (37, .iload_n 1, (0, 0, 0, 0), 0, 0), (38, .imul, (0, 0, 0, 0), 0, 0), (39, .iload_n 3, (0, 0, 0, 0), 0, 0), (40, .iadd, (0, 0, 0, 0), 0, 0), (41, .iaload, (0, 0, 0, 0), 0, 0), (42, .if_icmp .eq 5, (0, 0, 0, 0), 0, 0), (45, .iload_n 3, (0, 0, 0, 0), 0, 0), (46, .ireturn, (0, 0, 0, 0), 0, 0), (47, .iinc 3 1, (0, 0, 0, 0), 1, 0), (50, .goto (-48), (0, 0, 0, 0), 0, 0), (53, .iconst (-1), (0, 0, 0, 0), (-1), 0), (54, .ireturn, (0, 0, 0, 0), 0, 0)]
theorem okX6_firstOther : kX6_firstOther.all (xOk RX6 cX6_firstOther) = true := by decide +kernel
def kX6_likeSet : List xI := [(0, .iconst 0, (0, 0, 0, 0), 0, 0), (1, .istore_n 2, (0, 0, 0, 0), 0, 0), (2, .iconst 0, (0, 0, 0, 0), 0, 0), (3, .istore_n 3, (0, 0, 0, 0), 0, 0), (4, .iload_n 3, (0, 0, 0, 0), 0, 0), (5, .aload_n 0, (0, 0, 0, 0), 0, 0), (6, .getfield 79, (816, 6, 15, 0), 0, 0), (9, .if_icmp .ge 29, (0, 0, 0, 0), 0, 0), (12, .iload_n 2, (0, 0, 0, 0), 0, 0), (13, .aload_n 0, (0, 0, 0, 0), 0, 0), (14, .iload_n 1, (0, 0, 0, 0), 0, 0), (15, .iload_n 3, (0, 0, 0, 0), 0, 0), (16, .invokevirtual 334, (0, 0, 0, 0), 0, 0), (19, .iconst (-1), (0, 0, 0, 0), (-1), 0), (20, .if_icmp .ne 7, (0, 0, 0, 0), 0, 0), (23, .iconst 1, (0, 0, 0, 0), 1, 0), (24, .goto 4, (0, 0, 0, 0), 0, 0), (27, .iconst 0, (0, 0, 0, 0), 0, 0), (28, .iload_n 3, (0, 0, 0, 0), 0, 0), (29, .ishl, (0, 0, 0, 0), 0, 0), (30, .ior, (0, 0, 0, 0), 0, 0), (31, .istore_n 2, (0, 0, 0, 0), 0, 0), (32, .iinc 3 1, (0, 0, 0, 0), 1, 0), (35, .goto (-31), (0, 0, 0, 0), 0, 0), (38, .iload_n 2, (0, 0, 0, 0), 0, 0), (39, .ireturn, (0, 0, 0, 0), 0, 0)]
theorem okX6_likeSet : kX6_likeSet.all (xOk RX6 cX6_likeSet) = true := by decide +kernel
def kX6_tells : List xI := [(0, .iload_n 1, (0, 0, 0, 0), 0, 0), (1, .invokestatic 337, (0, 3, 0, 0), 0, 0), (4, .ifCond .eq 23, (0, 0, 0, 0), 0, 0), (7, .aload_n 0, (0, 0, 0, 0), 0, 0), (8, .iload_n 2, (0, 0, 0, 0), 0, 0), (9, .invokevirtual 97, (0, 0, 0, 0), 0, 0), (12, .ifCond .eq 15, (0, 0, 0, 0), 0, 0), (15, .iload_n 3, (0, 0, 0, 0), 0, 0), (16, .i2l, (0, 0, 0, 0), 0, 0), (17, .lconst 0, (0, 0, 0, 0), 0, 0), (18, .ldc2_w 340, (1211, 0, 0, 0), 0, 8), (21, .invokestatic 82, (0, 3, 0, 0), 0, 0), (24, .ifCond .ne 6, (0, 0, 0, 0), 0, 0), (27, .bipush (-2), (0, 0, 0, 0), (-2), 0), (29, .ireturn, (0, 0, 0, 0), 0, 0), (30, .aload_n 0, (0, 0, 0, 0), 0, 0), (31, .getfield 59, (847, 6, 46, 0), 0, 0), (34, .iload_n 1, (0, 0, 0, 0), 0, 0), (35, .baload, (0, 0, 0, 0), 0, 0), (36, .ifCond .ne 6, (0, 0, 0, 0), 0, 0), (39, .bipush (-11), (0, 0, 0, 0), (-11), 0), (41, .ireturn, (0, 0, 0, 0), 0, 0), (42, .aload_n 0, (0, 0, 0, 0), 0, 0), (43, .getfield 66, (849, 6, 48, 0), 0, 0), (46, .iload_n 1, (0, 0, 0, 0), 0, 0), (47, .iaload, (0, 0, 0, 0), 0, 0), (48, .bipush 10, (0, 0, 0, 0), 10, 0), (50, .if_icmp .le 6, (0, 0, 0, 0), 0, 0), (53, .bipush (-2), (0, 0, 0, 0), (-2), 0), (55, .ireturn, (0, 0, 0, 0), 0, 0), (56, .iload_n 3, (0, 0, 0, 0), 0, 0), (57, .ifCond .eq 9, (0, 0, 0, 0), 0, 0), (60, .iload_n 3, (0, 0, 0, 0), 0, 0), (61, .bipush 8, (0, 0, 0, 0), 8, 0), (63, .if_icmp .ne 22, (0, 0, 0, 0), 0, 0), (66, .iload_n 3, (0, 0, 0, 0), 0, 0), (67, .ifCond .ne 12, (0, 0, 0, 0), 0, 0), (70, .aload_n 0, (0, 0, 0, 0), 0, 0), (71, .iload_n 1, (0, 0, 0, 0), 0, 0), (72, .iload_n 2, (0, 0, 0, 0), 0, 0), (73, .invokevirtual 334, (0, 0, 0, 0), 0, 0), (76, .goto 8, (0, 0, 0, 0), 0, 0), (79, .aload_n 0, (0, 0, 0, 0), 0, 0), (80, .iload_n 1, (0, 0, 0, 0), 0, 0), (81, .invokevirtual 342, (0, 0, 0, 0), 0, 0), (84, .ireturn, (0, 0, 0, 0), 0, 0), (85, .iload_n 3, (0, 0, 0, 0), 0, 0), (86, .iconst 1, (0, 0, 0, 0), 1, 0), (87, .if_icmp .ne 8, (0, 0, 0, 0), 0, 0), (90, .bipush 8, (0, 0, 0, 0), 8, 0), (92, .goto 34, (0, 0, 0, 0), 0, 0), (95, .iload_n 3, (0, 0, 0, 0), 0, 0), (96, .iconst 2, (0, 0, 0, 0), 2, 0), (97, .if_icmp .ne 7, (0, 0, 0, 0), 0, 0), (100, .iconst 5, (0, 0, 0, 0), 5, 0), (101, .goto 25, (0, 0, 0, 0), 0, 0), (104, .iload_n 3, (0, 0, 0, 0), 0, 0), (105, .iconst 5, (0, 0, 0, 0), 5, 0), (106, .if_icmp .ge 7, (0, 0, 0, 0), 0, 0), (109, .iconst 2, (0, 0, 0, 0), 2, 0), (110, .goto 16, (0, 0, 0, 0), 0, 0), (113, .iload_n 3, (0, 0, 0, 0), 0, 0), (114, .bipush 7, (0, 0, 0, 0), 7, 0), (116, .if_icmp .ge 8, (0, 0, 0, 0), 0, 0), (119, .bipush 7, (0, 0, 0, 0), 7, 0), (121, .goto 5, (0, 0, 0, 0), 0, 0), (124, .bipush 9, (0, 0, 0, 0), 9, 0), (126, .istore 4, (0, 0, 0, 0), 0, 0), (128, .iload 4, (0, 0, 0, 0), 0, 0), (130, .bipush 9, (0, 0, 0, 0), 9, 0), (132, .if_icmp .ne 10, (0, 0, 0, 0), 0, 0), (135, .aload_n 0, (0, 0, 0, 0), 0, 0), (136, .getfield 126, (805, 6, 4, 0), 0, 0), (139, .goto 10, (0, 0, 0, 0), 0, 0), (142, .aload_n 0, (0, 0, 0, 0), 0, 0), (143, .iload_n 2, (0, 0, 0, 0), 0, 0), (144, .iload 4, (0, 0, 0, 0), 0, 0), (146, .invokevirtual 108, (0, 0, 0, 0), 0, 0), (149, .istore 5, (0, 0, 0, 0), 0, 0), (151, .iload 4, (0, 0, 0, 0), 0, 0), (153, .bipush 9, (0, 0, 0, 0), 9, 0), (155, .if_icmp .ne 12, (0, 0, 0, 0), 0, 0), (158, .aload_n 0, (0, 0, 0, 0), 0, 0), (159, .getfield 76, (804, 6, 3, 0), 0, 0), (162, .iconst 1, (0, 0, 0, 0), 1, 0), (163, .isub, (0, 0, 0, 0), 0, 0), (164, .goto 27, (0, 0, 0, 0), 0, 0), (167, .iload 4, (0, 0, 0, 0), 0, 0), (169, .bipush 8, (0, 0, 0, 0), 8, 0), (171, .if_icmp .ne 7, (0, 0, 0, 0), 0, 0), (174, .iconst 5, (0, 0, 0, 0), 5, 0), (175, .goto 16, (0, 0, 0, 0), 0, 0), (178, .iload 4, (0, 0, 0, 0), 0, 0), (180, .iconst 5, (0, 0, 0, 0), 5, 0), (181, .if_icmp .ne 8, (0, 0, 0, 0), 0, 0), (184, .bipush 9, (0, 0, 0, 0), 9, 0), (186, .goto 5, (0, 0, 0, 0), 0, 0), (189, .bipush 99, (0, 0, 0, 0), 99, 0), (191, .istore 6, (0, 0, 0, 0), 0, 0), (193, .iconst 0, (0, 0, 0, 0), 0, 0), (194, .istore 7, (0, 0, 0, 0), 0, 0), (196, .iconst 0, (0, 0, 0, 0), 0, 0), (197, .istore 8, (0, 0, 0, 0), 0, 0), (199, .iconst (-1), (0, 0, 0, 0), (-1), 0), (200, .istore 9, (0, 0, 0, 0), 0, 0), (202, .iload 6, (0, 0, 0, 0), 0, 0), (204, .istore 10, (0, 0, 0, 0), 0, 0), (206, .iload 10, (0, 0, 0, 0), 0, 0), (208, .ifCond .lt 55, (0, 0, 0, 0), 0, 0), (211, .aload_n 0, (0, 0, 0, 0), 0, 0), (212, .iload 4, (0, 0, 0, 0), 0, 0), (214, .iload_n 2, (0, 0, 0, 0), 0, 0), (215, .iload 10, (0, 0, 0, 0), 0, 0), (217, .invokevirtual 112, (0, 0, 0, 0), 0, 0), (220, .aload_n 0, (0, 0, 0, 0), 0, 0), (221, .iload_n 1, (0, 0, 0, 0), 0, 0), (222, .iload_n 2, (0, 0, 0, 0), 0, 0), (223, .invokevirtual 334, (0, 0, 0, 0), 0, 0), (226, .iconst (-1), (0, 0, 0, 0), (-1), 0), (227, .if_icmp .ne 30, (0, 0, 0, 0), 0, 0), (230, .iload 7, (0, 0, 0, 0), 0, 0), (232, .iload 10, (0, 0, 0, 0), 0, 0), (234, .bipush 10, (0, 0, 0, 0), 10, 0), (236, .if_icmp .ge 10, (0, 0, 0, 0), 0, 0), (239, .iconst 1, (0, 0, 0, 0), 1, 0), (240, .iload 10, (0, 0, 0, 0), 0, 0), (242, .ishl, (0, 0, 0, 0), 0, 0), (243, .goto 4, (0, 0, 0, 0), 0, 0), (246, .iconst 0, (0, 0, 0, 0), 0, 0), (247, .ior, (0, 0, 0, 0), 0, 0), (248, .istore 7, (0, 0, 0, 0), 0, 0), (250, .iinc 8 1, (0, 0, 0, 0), 1, 0), (253, .iload 10, (0, 0, 0, 0), 0, 0), (255, .istore 9, (0, 0, 0, 0), 0, 0), (257, .iinc 10 (-1), (0, 0, 0, 0), (-1), 0), (260, .goto (-54), (0, 0, 0, 0), 0, 0), (263, .aload_n 0, (0, 0, 0, 0), 0, 0), (264, .iload 4, (0, 0, 0, 0), 0, 0), (266, .iload_n 2, (0, 0, 0, 0), 0, 0), (267, .iload 5, (0, 0, 0, 0), 0, 0), (269, .invokevirtual 112, (0, 0, 0, 0), 0, 0), (272, .iload_n 3, (0, 0, 0, 0), 0, 0), (273, .iconst 3, (0, 0, 0, 0), 3, 0), (274, .if_icmp .eq 8, (0, 0, 0, 0), 0, 0), (277, .iload_n 3, (0, 0, 0, 0), 0, 0), (278, .iconst 5, (0, 0, 0, 0), 5, 0), (279, .if_icmp .ne 8, (0, 0, 0, 0), 0, 0), (282, .iload 8, (0, 0, 0, 0), 0, 0), (284, .goto 21, (0, 0, 0, 0), 0, 0), (287, .iload_n 3, (0, 0, 0, 0), 0, 0), (288, .iconst 4, (0, 0, 0, 0), 4, 0), (289, .if_icmp .eq 9, (0, 0, 0, 0), 0, 0), (292, .iload_n 3, (0, 0, 0, 0), 0, 0), (293, .bipush 6, (0, 0, 0, 0), 6, 0), (295, .if_icmp .ne 8, (0, 0, 0, 0), 0, 0), (298, .iload 9, (0, 0, 0, 0), 0, 0), (300, .goto 5, (0, 0, 0, 0), 0, 0), (303, .iload 7, (0, 0, 0, 0), 0, 0), (305, .ireturn, (0, 0, 0, 0), 0, 0)]
theorem okX6_tells : kX6_tells.all (xOk RX6 cX6_tells) = true := by decide +kernel
def kX6_film : List xI := [(0, .iload_n 1, (0, 0, 0, 0), 0, 0), (1, .invokestatic 337, (0, 3, 0, 0), 0, 0), (4, .ifCond .eq 11, (0, 0, 0, 0), 0, 0), (7, .aload_n 0, (0, 0, 0, 0), 0, 0), (8, .iload_n 2, (0, 0, 0, 0), 0, 0), (9, .invokevirtual 97, (0, 0, 0, 0), 0, 0), (12, .ifCond .ne 6, (0, 0, 0, 0), 0, 0), (15, .bipush (-2), (0, 0, 0, 0), (-2), 0), (17, .ireturn, (0, 0, 0, 0), 0, 0), (18, .aload_n 0, (0, 0, 0, 0), 0, 0), (19, .iload_n 1, (0, 0, 0, 0), 0, 0), (20, .iconst 1, (0, 0, 0, 0), 1, 0), (21, .bipush 10, (0, 0, 0, 0), 10, 0), (23, .invokevirtual 345, (0, 0, 0, 0), 0, 0), (26, .pop, (0, 0, 0, 0), 0, 0), (27, .iconst 0, (0, 0, 0, 0), 0, 0), (28, .istore_n 3, (0, 0, 0, 0), 0, 0), (29, .iconst 0, (0, 0, 0, 0), 0, 0), (30, .istore 4, (0, 0, 0, 0), 0, 0), (32, .iload 4, (0, 0, 0, 0), 0, 0), (34, .bipush 10, (0, 0, 0, 0), 10, 0), (36, .if_icmp .ge 59, (0, 0, 0, 0), 0, 0), (39, .aload_n 0, (0, 0, 0, 0), 0, 0), (40, .iload_n 2, (0, 0, 0, 0), 0, 0), (41, .iload 4, (0, 0, 0, 0), 0, 0), (43, .invokevirtual 270, (0, 0, 0, 0), 0, 0), (46, .istore 5, (0, 0, 0, 0), 0, 0), (48, .aload_n 0, (0, 0, 0, 0), 0, 0), (49, .getfield 69, (850, 6, 49, 0), 0, 0), (52, .bipush 40, (0, 0, 0, 0), 40, 0), (54, .iload_n 1, (0, 0, 0, 0), 0, 0), (55, .imul, (0, 0, 0, 0), 0, 0), (56, .iload 4, (0, 0, 0, 0), 0, 0), (58, .iadd, (0, 0, 0, 0), 0, 0), (59, .iload 5, (0, 0, 0, 0), 0, 0), (61, .ifCond .eq 13, (0, 0, 0, 0), 0, 0), (64, .aload_n 0, (0, 0, 0, 0), 0, 0), (65, .iload_n 2, (0, 0, 0, 0), 0, 0), (66, .iload 4, (0, 0, 0, 0), 0, 0), (68, .invokevirtual 273, (0, 0, 0, 0), 0, 0), (71, .goto 4, (0, 0, 0, 0), 0, 0), (74, .iconst (-1), (0, 0, 0, 0), (-1), 0), (75, .iastore, (0, 0, 0, 0), 0, 0), (76, .iload_n 3, (0, 0, 0, 0), 0, 0), (77, .iload 5, (0, 0, 0, 0), 0, 0), (79, .ifCond .eq 7, (0, 0, 0, 0), 0, 0), (82, .iconst 1, (0, 0, 0, 0), 1, 0), (83, .goto 4, (0, 0, 0, 0), 0, 0), (86, .iconst 0, (0, 0, 0, 0), 0, 0), (87, .iadd, (0, 0, 0, 0), 0, 0), (88, .istore_n 3, (0, 0, 0, 0), 0, 0), (89, .iinc 4 1, (0, 0, 0, 0), 1, 0), (92, .goto (-60), (0, 0, 0, 0), 0, 0), (95, .iload_n 3, (0, 0, 0, 0), 0, 0), (96, .ireturn, (0, 0, 0, 0), 0, 0)]
theorem okX6_film : kX6_film.all (xOk RX6 cX6_film) = true := by decide +kernel
def kX6_aliveDrawn : List xI := [(0, .aload_n 0, (0, 0, 0, 0), 0, 0), (1, .invokevirtual 295, (0, 0, 0, 0), 0, 0), (4, .iload_n 1, (0, 0, 0, 0), 0, 0), (5, .istore_n 3, (0, 0, 0, 0), 0, 0), (6, .iconst 0, (0, 0, 0, 0), 0, 0), (7, .istore 4, (0, 0, 0, 0), 0, 0), (9, .iload 4, (0, 0, 0, 0), 0, 0), (11, .iload_n 2, (0, 0, 0, 0), 0, 0), (12, .if_icmp .ge 80, (0, 0, 0, 0), 0, 0), (15, .iload_n 3, (0, 0, 0, 0), 0, 0), (16, .ldc_w 348, (1237, 0, 0, 0), 1103515245, 0), (19, .imul, (0, 0, 0, 0), 0, 0), (20, .sipush 12345, (0, 0, 0, 0), 12345, 0), (23, .iadd, (0, 0, 0, 0), 0, 0), (24, .istore_n 3, (0, 0, 0, 0), 0, 0), (25, .iload_n 3, (0, 0, 0, 0), 0, 0), (26, .bipush 9, (0, 0, 0, 0), 9, 0), (28, .iushr, (0, 0, 0, 0), 0, 0), (29, .bipush 8, (0, 0, 0, 0), 8, 0), (31, .irem, (0, 0, 0, 0), 0, 0), (32, .istore 5, (0, 0, 0, 0), 0, 0), (34, .iload_n 3, (0, 0, 0, 0), 0, 0), (35, .ldc_w 348, (1237, 0, 0, 0), 1103515245, 0), (38, .imul, (0, 0, 0, 0), 0, 0), (39, .sipush 12345, (0, 0, 0, 0), 12345, 0), (42, .iadd, (0, 0, 0, 0), 0, 0), (43, .istore_n 3, (0, 0, 0, 0), 0, 0), (44, .iload_n 3, (0, 0, 0, 0), 0, 0), (45, .bipush 9, (0, 0, 0, 0), 9, 0), (47, .iushr, (0, 0, 0, 0), 0, 0), (48, .bipush 10, (0, 0, 0, 0), 10, 0), (50, .irem, (0, 0, 0, 0), 0, 0), (51, .istore 6, (0, 0, 0, 0), 0, 0), (53, .aload_n 0, (0, 0, 0, 0), 0, 0), (54, .iload 5, (0, 0, 0, 0), 0, 0), (56, .invokevirtual 97, (0, 0, 0, 0), 0, 0), (59, .ifCond .eq 22, (0, 0, 0, 0), 0, 0), (62, .aload_n 0, (0, 0, 0, 0), 0, 0), (63, .iload 5, (0, 0, 0, 0), 0, 0), (65, .iload 6, (0, 0, 0, 0), 0, 0), (67, .invokevirtual 279, (0, 0, 0, 0), 0, 0), (70, .ifCond .eq 11, (0, 0, 0, 0), 0, 0), (73, .aload_n 0, (0, 0, 0, 0), 0, 0), (74, .iload 5, (0, 0, 0, 0), 0, 0), (76, .iload 6, (0, 0, 0, 0), 0, 0), (78, .invokevirtual 283, (0, 0, 0, 0), 0, 0), (81, .aload_n 0, (0, 0, 0, 0), 0, 0), (82, .invokevirtual 287, (0, 0, 0, 0), 0, 0), (85, .pop, (0, 0, 0, 0), 0, 0), (86, .iinc 4 1, (0, 0, 0, 0), 1, 0), (89, .goto (-80), (0, 0, 0, 0), 0, 0), (92, .aload_n 0, (0, 0, 0, 0), 0, 0), (93, .invokevirtual 119, (0, 0, 0, 0), 0, 0), (96, .invokestatic 255, (0, 3, 0, 0), 0, 0), (99, .istore 4, (0, 0, 0, 0), 0, 0), (101, .aload_n 0, (0, 0, 0, 0), 0, 0), (102, .invokevirtual 301, (0, 0, 0, 0), 0, 0), (105, .iload 4, (0, 0, 0, 0), 0, 0), (107, .ireturn, (0, 0, 0, 0), 0, 0)]
theorem okX6_aliveDrawn : kX6_aliveDrawn.all (xOk RX6 cX6_aliveDrawn) = true := by decide +kernel
def kX6_drawn : List xI := [(0, .iload_n 2, (0, 0, 0, 0), 0, 0), (1, .i2l, (0, 0, 0, 0), 0, 0), (2, .lconst 0, (0, 0, 0, 0), 0, 0), (3, .ldc2_w 293, (1142, 0, 0, 0), 0, 20), (6, .invokestatic 82, (0, 3, 0, 0), 0, 0), (9, .ifCond .eq 12, (0, 0, 0, 0), 0, 0), (12, .aload_n 0, (0, 0, 0, 0), 0, 0), (13, .iload_n 1, (0, 0, 0, 0), 0, 0), (14, .iload_n 2, (0, 0, 0, 0), 0, 0), (15, .invokevirtual 349, (0, 0, 0, 0), 0, 0), (18, .goto 5, (0, 0, 0, 0), 0, 0), (21, .bipush (-2), (0, 0, 0, 0), (-2), 0), (23, .ireturn, (0, 0, 0, 0), 0, 0)]
theorem okX6_drawn : kX6_drawn.all (xOk RX6 cX6_drawn) = true := by decide +kernel
def kX6_chance : List xI := [(0, .iload_n 2, (0, 0, 0, 0), 0, 0), (1, .i2l, (0, 0, 0, 0), 0, 0), (2, .lconst 1, (0, 0, 0, 0), 0, 1), (3, .ldc2_w 293, (1142, 0, 0, 0), 0, 20), (6, .invokestatic 82, (0, 3, 0, 0), 0, 0), (9, .ifCond .eq 26, (0, 0, 0, 0), 0, 0), (12, .iload_n 3, (0, 0, 0, 0), 0, 0), (13, .i2l, (0, 0, 0, 0), 0, 0), (14, .lconst 0, (0, 0, 0, 0), 0, 0), (15, .ldc2_w 340, (1211, 0, 0, 0), 0, 8), (18, .invokestatic 82, (0, 3, 0, 0), 0, 0), (21, .ifCond .eq 14, (0, 0, 0, 0), 0, 0), (24, .iload 4, (0, 0, 0, 0), 0, 0), (26, .i2l, (0, 0, 0, 0), 0, 0), (27, .lconst 0, (0, 0, 0, 0), 0, 0), (28, .lconst 1, (0, 0, 0, 0), 0, 1), (29, .invokestatic 82, (0, 3, 0, 0), 0, 0), (32, .ifCond .ne 7, (0, 0, 0, 0), 0, 0), (35, .ldc2_w 332, (1203, 0, 0, 0), 0, (-4611686018427387904)), (38, .lreturn, (0, 0, 0, 0), 0, 0), (39, .lconst 0, (0, 0, 0, 0), 0, 0), (40, .lstore 5, (0, 0, 0, 0), 0, 0), (42, .iconst 0, (0, 0, 0, 0), 0, 0), (43, .istore 7, (0, 0, 0, 0), 0, 0), (45, .iload 7, (0, 0, 0, 0), 0, 0), (47, .iload_n 2, (0, 0, 0, 0), 0, 0), (48, .if_icmp .ge 33, (0, 0, 0, 0), 0, 0), (51, .lload 5, (0, 0, 0, 0), 0, 0), (53, .aload_n 0, (0, 0, 0, 0), 0, 0), (54, .iload_n 1, (0, 0, 0, 0), 0, 0), (55, .iload 7, (0, 0, 0, 0), 0, 0), (57, .iadd, (0, 0, 0, 0), 0, 0), (58, .bipush 6, (0, 0, 0, 0), 6, 0), (60, .invokevirtual 349, (0, 0, 0, 0), 0, 0), (63, .iload_n 3, (0, 0, 0, 0), 0, 0), (64, .if_icmp .lt 7, (0, 0, 0, 0), 0, 0), (67, .lconst 1, (0, 0, 0, 0), 0, 1), (68, .goto 4, (0, 0, 0, 0), 0, 0), (71, .lconst 0, (0, 0, 0, 0), 0, 0), (72, .ladd, (0, 0, 0, 0), 0, 0), (73, .lstore 5, (0, 0, 0, 0), 0, 0), (75, .iinc 7 1, (0, 0, 0, 0), 1, 0), (78, .goto (-33), (0, 0, 0, 0), 0, 0), (81, .lload 5, (0, 0, 0, 0), 0, 0), (83, .iload_n 2, (0, 0, 0, 0), 0, 0), (84, .i2l, (0, 0, 0, 0), 0, 0), (85, .iload 4, (0, 0, 0, 0), 0, 0), (87, .invokestatic 328, (0, 3, 0, 0), 0, 0), (90, .lreturn, (0, 0, 0, 0), 0, 0)]
theorem okX6_chance : kX6_chance.all (xOk RX6 cX6_chance) = true := by decide +kernel
def kX6_image : List xI := [(0, .iconst 0, (0, 0, 0, 0), 0, 0), (1, .istore_n 1, (0, 0, 0, 0), 0, 0), (2, .iload_n 1, (0, 0, 0, 0), 0, 0), (3, .bipush 16, (0, 0, 0, 0), 16, 0), (5, .if_icmp .ge 21, (0, 0, 0, 0), 0, 0), (8, .aload_n 0, (0, 0, 0, 0), 0, 0), (9, .getfield 44, (837, 6, 36, 0), 0, 0), (12, .iload_n 1, (0, 0, 0, 0), 0, 0), (13, .aload_n 0, (0, 0, 0, 0), 0, 0), (14, .getfield 35, (815, 6, 14, 0), 0, 0), (17, .iload_n 1, (0, 0, 0, 0), 0, 0), (18, .iaload, (0, 0, 0, 0), 0, 0), (19, .iastore, (0, 0, 0, 0), 0, 0), (20, .iinc 1 1, (0, 0, 0, 0), 1, 0), (23, .goto (-21), (0, 0, 0, 0), 0, 0), (26, .iconst 0, (0, 0, 0, 0), 0, 0), (27, .istore_n 1, (0, 0, 0, 0), 0, 0), (28, .iload_n 1, (0, 0, 0, 0), 0, 0), (29, .bipush 8, (0, 0, 0, 0), 8, 0), (31, .if_icmp .ge 21, (0, 0, 0, 0), 0, 0), (34, .aload_n 0, (0, 0, 0, 0), 0, 0), (35, .getfield 47, (838, 6, 37, 0), 0, 0), (38, .iload_n 1, (0, 0, 0, 0), 0, 0), (39, .aload_n 0, (0, 0, 0, 0), 0, 0), (40, .getfield 26, (812, 6, 11, 0), 0, 0), (43, .iload_n 1, (0, 0, 0, 0), 0, 0), (44, .iaload, (0, 0, 0, 0), 0, 0), (45, .iastore, (0, 0, 0, 0), 0, 0), (46, .iinc 1 1, (0, 0, 0, 0), 1, 0), (49, .goto (-21), (0, 0, 0, 0), 0, 0), (52, .iconst 0, (0, 0, 0, 0), 0, 0), (53, .istore_n 1, (0, 0, 0, 0), 0, 0), (54, .iload_n 1, (0, 0, 0, 0), 0, 0), (55, .bipush 10, (0, 0, 0, 0), 10, 0), (57, .if_icmp .ge 33, (0, 0, 0, 0), 0, 0), (60, .aload_n 0, (0, 0, 0, 0), 0, 0), (61, .getfield 50, (839, 6, 38, 0), 0, 0), (64, .iload_n 1, (0, 0, 0, 0), 0, 0), (65, .aload_n 0, (0, 0, 0, 0), 0, 0), (66, .getfield 29, (813, 6, 12, 0), 0, 0), (69, .iload_n 1, (0, 0, 0, 0), 0, 0), (70, .iaload, (0, 0, 0, 0), 0, 0), (71, .iastore, (0, 0, 0, 0), 0, 0), (72, .aload_n 0, (0, 0, 0, 0), 0, 0), (73, .getfield 53, (840, 6, 39, 0), 0, 0), (76, .iload_n 1, (0, 0, 0, 0), 0, 0), (77, .aload_n 0, (0, 0, 0, 0), 0, 0), (78, .getfield 32, (814, 6, 13, 0), 0, 0), (81, .iload_n 1, (0, 0, 0, 0), 0, 0), (82, .iaload, (0, 0, 0, 0), 0, 0), (83, .iastore, (0, 0, 0, 0), 0, 0), (84, .iinc 1 1, (0, 0, 0, 0), 1, 0), (87, .goto (-33), (0, 0, 0, 0), 0, 0), (90, .aload_n 0, (0, 0, 0, 0), 0, 0), (91, .aload_n 0, (0, 0, 0, 0), 0, 0), (92, .getfield 79, (816, 6, 15, 0), 0, 0), (95, .putfield 56, (841, 6, 40, 0), 0, 0), (98, .aload_n 0, (0, 0, 0, 0), 0, 0), (99, .aload_n 0, (0, 0, 0, 0), 0, 0), (100, .getfield 23, (808, 6, 7, 0), 0, 0), (103, .putfield 352, (842, 6, 41, 0), 0, 0), (106, .aload_n 0, (0, 0, 0, 0), 0, 0), (107, .aload_n 0, (0, 0, 0, 0), 0, 0), (108, .getfield 123, (809, 6, 8, 0), 0, 0), (111, .putfield 355, (843, 6, 42, 0), 0, 0), (114, .aload_n 0, (0, 0, 0, 0), 0, 0), (115, .aload_n 0, (0, 0, 0, 0), 0, 0), (116, .getfield 116, (810, 6, 9, 0), 0, 0), (119, .putfield 358, (844, 6, 43, 0), 0, 0), (122, .aload_n 0, (0, 0, 0, 0), 0, 0), (123, .aload_n 0, (0, 0, 0, 0), 0, 0), (124, .getfield 136, (811, 6, 10, 0), 0, 0), (127, .putfield 361, (845, 6, 44, 0), 0, 0), (130, .aload_n 0, (0, 0, 0, 0), 0, 0), (131, .aload_n 0, (0, 0, 0, 0), 0, 0), (132, .getfield 126, (805, 6, 4, 0), 0, 0), (135, .putfield 364, (846, 6, 45, 0), 0, 0), (138, .aload_n 0, (0, 0, 0, 0), 0, 0), (139, .getfield 79, (816, 6, 15, 0), 0, 0), (142, .ireturn, (0, 0, 0, 0), 0, 0)]
theorem okX6_image : kX6_image.all (xOk RX6 cX6_image) = true := by decide +kernel
def kX6_back : List xI := [(0, .aload_n 0, (0, 0, 0, 0), 0, 0), (1, .getfield 56, (841, 6, 40, 0), 0, 0), (4, .iconst (-1), (0, 0, 0, 0), (-1), 0), (5, .if_icmp .ne 6, (0, 0, 0, 0), 0, 0), (8, .bipush (-3), (0, 0, 0, 0), (-3), 0), (10, .ireturn, (0, 0, 0, 0), 0, 0), (11, .iconst 0, (0, 0, 0, 0), 0, 0), (12, .istore_n 1, (0, 0, 0, 0), 0, 0), (13, .iload_n 1, (0, 0, 0, 0), 0, 0), (14, .bipush 16, (0, 0, 0, 0), 16, 0), (16, .if_icmp .ge 21, (0, 0, 0, 0), 0, 0), (19, .aload_n 0, (0, 0, 0, 0), 0, 0), (20, .getfield 35, (815, 6, 14, 0), 0, 0), (23, .iload_n 1, (0, 0, 0, 0), 0, 0), (24, .aload_n 0, (0, 0, 0, 0), 0, 0), (25, .getfield 44, (837, 6, 36, 0), 0, 0), (28, .iload_n 1, (0, 0, 0, 0), 0, 0), (29, .iaload, (0, 0, 0, 0), 0, 0), (30, .iastore, (0, 0, 0, 0), 0, 0), (31, .iinc 1 1, (0, 0, 0, 0), 1, 0), (34, .goto (-21), (0, 0, 0, 0), 0, 0), (37, .iconst 0, (0, 0, 0, 0), 0, 0), (38, .istore_n 1, (0, 0, 0, 0), 0, 0), (39, .iload_n 1, (0, 0, 0, 0), 0, 0), (40, .bipush 8, (0, 0, 0, 0), 8, 0), (42, .if_icmp .ge 21, (0, 0, 0, 0), 0, 0), (45, .aload_n 0, (0, 0, 0, 0), 0, 0), (46, .getfield 26, (812, 6, 11, 0), 0, 0), (49, .iload_n 1, (0, 0, 0, 0), 0, 0), (50, .aload_n 0, (0, 0, 0, 0), 0, 0), (51, .getfield 47, (838, 6, 37, 0), 0, 0), (54, .iload_n 1, (0, 0, 0, 0), 0, 0), (55, .iaload, (0, 0, 0, 0), 0, 0), (56, .iastore, (0, 0, 0, 0), 0, 0), (57, .iinc 1 1, (0, 0, 0, 0), 1, 0), (60, .goto (-21), (0, 0, 0, 0), 0, 0), (63, .iconst 0, (0, 0, 0, 0), 0, 0), (64, .istore_n 1, (0, 0, 0, 0), 0, 0), (65, .iload_n 1, (0, 0, 0, 0), 0, 0), (66, .bipush 10, (0, 0, 0, 0), 10, 0), (68, .if_icmp .ge 33, (0, 0, 0, 0), 0, 0), (71, .aload_n 0, (0, 0, 0, 0), 0, 0), (72, .getfield 29, (813, 6, 12, 0), 0, 0), (75, .iload_n 1, (0, 0, 0, 0), 0, 0), (76, .aload_n 0, (0, 0, 0, 0), 0, 0), (77, .getfield 50, (839, 6, 38, 0), 0, 0), (80, .iload_n 1, (0, 0, 0, 0), 0, 0), (81, .iaload, (0, 0, 0, 0), 0, 0), (82, .iastore, (0, 0, 0, 0), 0, 0), (83, .aload_n 0, (0, 0, 0, 0), 0, 0), (84, .getfield 32, (814, 6, 13, 0), 0, 0), (87, .iload_n 1, (0, 0, 0, 0), 0, 0), (88, .aload_n 0, (0, 0, 0, 0), 0, 0), (89, .getfield 53, (840, 6, 39, 0), 0, 0), (92, .iload_n 1, (0, 0, 0, 0), 0, 0), (93, .iaload, (0, 0, 0, 0), 0, 0), (94, .iastore, (0, 0, 0, 0), 0, 0), (95, .iinc 1 1, (0, 0, 0, 0), 1, 0), (98, .goto (-33), (0, 0, 0, 0), 0, 0), (101, .aload_n 0, (0, 0, 0, 0), 0, 0), (102, .aload_n 0, (0, 0, 0, 0), 0, 0), (103, .getfield 56, (841, 6, 40, 0), 0, 0), (106, .putfield 79, (816, 6, 15, 0), 0, 0), (109, .aload_n 0, (0, 0, 0, 0), 0, 0), (110, .aload_n 0, (0, 0, 0, 0), 0, 0), (111, .getfield 352, (842, 6, 41, 0), 0, 0), (114, .putfield 23, (808, 6, 7, 0), 0, 0), (117, .aload_n 0, (0, 0, 0, 0), 0, 0), (118, .aload_n 0, (0, 0, 0, 0), 0, 0), (119, .getfield 355, (843, 6, 42, 0), 0, 0), (122, .putfield 123, (809, 6, 8, 0), 0, 0), (125, .aload_n 0, (0, 0, 0, 0), 0, 0), (126, .aload_n 0, (0, 0, 0, 0), 0, 0), (127, .getfield 358, (844, 6, 43, 0), 0, 0), (130, .putfield 116, (810, 6, 9, 0), 0, 0), (133, .aload_n 0, (0, 0, 0, 0), 0, 0), (134, .aload_n 0, (0, 0, 0, 0), 0, 0), (135, .getfield 361, (845, 6, 44, 0), 0, 0), (138, .putfield 136, (811, 6, 10, 0), 0, 0), (141, .aload_n 0, (0, 0, 0, 0), 0, 0), (142, .aload_n 0, (0, 0, 0, 0), 0, 0), (143, .getfield 364, (846, 6, 45, 0), 0, 0), (146, .putfield 126, (805, 6, 4, 0), 0, 0), (149, .aload_n 0, (0, 0, 0, 0), 0, 0), (150, .getfield 79, (816, 6, 15, 0), 0, 0), (153, .ireturn, (0, 0, 0, 0), 0, 0)]
theorem okX6_back : kX6_back.all (xOk RX6 cX6_back) = true := by decide +kernel
def kX6_count : List xI := [(0, .iload_n 1, (0, 0, 0, 0), 0, 0), (1, .i2l, (0, 0, 0, 0), 0, 0), (2, .lconst 0, (0, 0, 0, 0), 0, 0), (3, .ldc2_w 129, (1093, 0, 0, 0), 0, 5), (6, .invokestatic 82, (0, 3, 0, 0), 0, 0), (9, .ifCond .ne 6, (0, 0, 0, 0), 0, 0), (12, .bipush (-2), (0, 0, 0, 0), (-2), 0), (14, .ireturn, (0, 0, 0, 0), 0, 0), (15, .iload_n 1, (0, 0, 0, 0), 0, 0), (16, .ifCond .ne 10, (0, 0, 0, 0), 0, 0), (19, .aload_n 0, (0, 0, 0, 0), 0, 0), (20, .getfield 79, (816, 6, 15, 0), 0, 0), (23, .goto 58, (0, 0, 0, 0), 0, 0), (26, .iload_n 1, (0, 0, 0, 0), 0, 0), (27, .iconst 1, (0, 0, 0, 0), 1, 0), (28, .if_icmp .ne 13, (0, 0, 0, 0), 0, 0), (31, .aload_n 0, (0, 0, 0, 0), 0, 0), (32, .invokevirtual 119, (0, 0, 0, 0), 0, 0), (35, .invokestatic 255, (0, 3, 0, 0), 0, 0), (38, .goto 43, (0, 0, 0, 0), 0, 0), (41, .iload_n 1, (0, 0, 0, 0), 0, 0), (42, .iconst 2, (0, 0, 0, 0), 2, 0), (43, .if_icmp .ne 10, (0, 0, 0, 0), 0, 0), (46, .aload_n 0, (0, 0, 0, 0), 0, 0), (47, .getfield 123, (809, 6, 8, 0), 0, 0), (50, .goto 31, (0, 0, 0, 0), 0, 0), (53, .iload_n 1, (0, 0, 0, 0), 0, 0), (54, .iconst 3, (0, 0, 0, 0), 3, 0), (55, .if_icmp .ne 10, (0, 0, 0, 0), 0, 0), (58, .aload_n 0, (0, 0, 0, 0), 0, 0), (59, .getfield 76, (804, 6, 3, 0), 0, 0), (62, .goto 19, (0, 0, 0, 0), 0, 0), (65, .iload_n 1, (0, 0, 0, 0), 0, 0), (66, .iconst 4, (0, 0, 0, 0), 4, 0), (67, .if_icmp .ne 10, (0, 0, 0, 0), 0, 0), (70, .aload_n 0, (0, 0, 0, 0), 0, 0), (71, .getfield 141, (807, 6, 6, 0), 0, 0), (74, .goto 7, (0, 0, 0, 0), 0, 0), (77, .aload_n 0, (0, 0, 0, 0), 0, 0), (78, .getfield 126, (805, 6, 4, 0), 0, 0), (81, .ireturn, (0, 0, 0, 0), 0, 0)]
theorem okX6_count : kX6_count.all (xOk RX6 cX6_count) = true := by decide +kernel
def kX6_isSheet : List xI := [(0, .iload_n 0, (0, 0, 0, 0), 0, 0), (1, .i2l, (0, 0, 0, 0), 0, 0), (2, .lconst 0, (0, 0, 0, 0), 0, 0), (3, .ldc2_w 304, (1167, 0, 0, 0), 0, 3), (6, .invokestatic 82, (0, 3, 0, 0), 0, 0), (9, .ireturn, (0, 0, 0, 0), 0, 0)]
theorem okX6_isSheet : kX6_isSheet.all (xOk RX6 cX6_isSheet) = true := by decide +kernel
def kX6_sheet : List xI := [(0, .iload_n 1, (0, 0, 0, 0), 0, 0), (1, .invokestatic 337, (0, 3, 0, 0), 0, 0), (4, .ifCond .eq 27, (0, 0, 0, 0), 0, 0), (7, .iload_n 2, (0, 0, 0, 0), 0, 0), (8, .i2l, (0, 0, 0, 0), 0, 0), (9, .ldc2_w 367, (1228, 0, 0, 0), 0, (-1)), (12, .ldc2_w 268, (1112, 0, 0, 0), 0, 2), (15, .invokestatic 82, (0, 3, 0, 0), 0, 0), (18, .ifCond .eq 13, (0, 0, 0, 0), 0, 0), (21, .iload_n 2, (0, 0, 0, 0), 0, 0), (22, .ifCond .lt 12, (0, 0, 0, 0), 0, 0), (25, .iload_n 3, (0, 0, 0, 0), 0, 0), (26, .bipush 40, (0, 0, 0, 0), 40, 0), (28, .if_icmp .le 6, (0, 0, 0, 0), 0, 0), (31, .bipush (-2), (0, 0, 0, 0), (-2), 0), (33, .ireturn, (0, 0, 0, 0), 0, 0), (34, .iload_n 2, (0, 0, 0, 0), 0, 0), (35, .ifCond .lt 10, (0, 0, 0, 0), 0, 0), (38, .iload_n 3, (0, 0, 0, 0), 0, 0), (39, .ifCond .ge 6, (0, 0, 0, 0), 0, 0), (42, .bipush (-14), (0, 0, 0, 0), (-14), 0), (44, .ireturn, (0, 0, 0, 0), 0, 0), (45, .aload_n 0, (0, 0, 0, 0), 0, 0), (46, .getfield 59, (847, 6, 46, 0), 0, 0), (49, .iload_n 1, (0, 0, 0, 0), 0, 0), (50, .iload_n 2, (0, 0, 0, 0), 0, 0), (51, .ifCond .lt 7, (0, 0, 0, 0), 0, 0), (54, .iconst 1, (0, 0, 0, 0), 1, 0), (55, .goto 4, (0, 0, 0, 0), 0, 0), (58, .iconst 0, (0, 0, 0, 0), 0, 0), (59, .bastore, (0, 0, 0, 0), 0, 0), (60, .aload_n 0, (0, 0, 0, 0), 0, 0), (61, .getfield 63, (848, 6, 47, 0), 0, 0), (64, .iload_n 1, (0, 0, 0, 0), 0, 0), (65, .iload_n 2, (0, 0, 0, 0), 0, 0), (66, .iastore, (0, 0, 0, 0), 0, 0), (67, .aload_n 0, (0, 0, 0, 0), 0, 0), (68, .getfield 66, (849, 6, 48, 0), 0, 0), (71, .iload_n 1, (0, 0, 0, 0), 0, 0), (72, .iload_n 3, (0, 0, 0, 0), 0, 0), (73, .iastore, (0, 0, 0, 0), 0, 0), (74, .iconst 0, (0, 0, 0, 0), 0, 0), (75, .istore 4, (0, 0, 0, 0), 0, 0), (77, .iload 4, (0, 0, 0, 0), 0, 0), (79, .iload_n 3, (0, 0, 0, 0), 0, 0), (80, .if_icmp .ge 26, (0, 0, 0, 0), 0, 0), (83, .iload_n 2, (0, 0, 0, 0), 0, 0), (84, .ifCond .lt 22, (0, 0, 0, 0), 0, 0), (87, .aload_n 0, (0, 0, 0, 0), 0, 0), (88, .getfield 69, (850, 6, 49, 0), 0, 0), (91, .bipush 40, (0, 0, 0, 0), 40, 0), (93, .iload_n 1, (0, 0, 0, 0), 0, 0), (94, .imul, (0, 0, 0, 0), 0, 0), (95, .iload 4, (0, 0, 0, 0), 0, 0), (97, .iadd, (0, 0, 0, 0), 0, 0), (98, .iconst 0, (0, 0, 0, 0), 0, 0), (99, .iastore, (0, 0, 0, 0), 0, 0), (100, .iinc 4 1, (0, 0, 0, 0), 1, 0), (103, .goto (-26), (0, 0, 0, 0), 0, 0), (106, .iconst 1, (0, 0, 0, 0), 1, 0), (107, .ireturn, (0, 0, 0, 0), 0, 0)]
theorem okX6_sheet : kX6_sheet.all (xOk RX6 cX6_sheet) = true := by decide +kernel
def kX6_cell : List xI := [(0, .iload_n 1, (0, 0, 0, 0), 0, 0), (1, .invokestatic 337, (0, 3, 0, 0), 0, 0), (4, .ifCond .ne 6, (0, 0, 0, 0), 0, 0), (7, .bipush (-2), (0, 0, 0, 0), (-2), 0), (9, .ireturn, (0, 0, 0, 0), 0, 0), (10, .aload_n 0, (0, 0, 0, 0), 0, 0), (11, .getfield 59, (847, 6, 46, 0), 0, 0), (14, .iload_n 1, (0, 0, 0, 0), 0, 0), (15, .baload, (0, 0, 0, 0), 0, 0), (16, .ifCond .ne 6, (0, 0, 0, 0), 0, 0), (19, .bipush (-11), (0, 0, 0, 0), (-11), 0), (21, .ireturn, (0, 0, 0, 0), 0, 0), (22, .iload_n 2, (0, 0, 0, 0), 0, 0), (23, .i2l, (0, 0, 0, 0), 0, 0), (24, .lconst 0, (0, 0, 0, 0), 0, 0), (25, .aload_n 0, (0, 0, 0, 0), 0, 0), (26, .getfield 66, (849, 6, 48, 0), 0, 0), (29, .iload_n 1, (0, 0, 0, 0), 0, 0), (30, .iaload, (0, 0, 0, 0), 0, 0), (31, .iconst 1, (0, 0, 0, 0), 1, 0), (32, .isub, (0, 0, 0, 0), 0, 0), (33, .i2l, (0, 0, 0, 0), 0, 0), (34, .invokestatic 82, (0, 3, 0, 0), 0, 0), (37, .ifCond .ne 6, (0, 0, 0, 0), 0, 0), (40, .bipush (-12), (0, 0, 0, 0), (-12), 0), (42, .ireturn, (0, 0, 0, 0), 0, 0), (43, .aload_n 0, (0, 0, 0, 0), 0, 0), (44, .getfield 69, (850, 6, 49, 0), 0, 0), (47, .bipush 40, (0, 0, 0, 0), 40, 0), (49, .iload_n 1, (0, 0, 0, 0), 0, 0), (50, .imul, (0, 0, 0, 0), 0, 0), (51, .iload_n 2, (0, 0, 0, 0), 0, 0), (52, .iadd, (0, 0, 0, 0), 0, 0), (53, .aload_n 0, (0, 0, 0, 0), 0, 0), (54, .getfield 63, (848, 6, 47, 0), 0, 0), (57, .iload_n 1, (0, 0, 0, 0), 0, 0), (58, .iaload, (0, 0, 0, 0), 0, 0), (59, .ifCond .ne 8, (0, 0, 0, 0), 0, 0), (62, .iload_n 3, (0, 0, 0, 0), 0, 0), (63, .i2b, (0, 0, 0, 0), 0, 0), (64, .goto 19, (0, 0, 0, 0), 0, 0), (67, .aload_n 0, (0, 0, 0, 0), 0, 0), (68, .getfield 63, (848, 6, 47, 0), 0, 0), (71, .iload_n 1, (0, 0, 0, 0), 0, 0), (72, .iaload, (0, 0, 0, 0), 0, 0), (73, .iconst 1, (0, 0, 0, 0), 1, 0), (74, .if_icmp .ne 8, (0, 0, 0, 0), 0, 0), (77, .iload_n 3, (0, 0, 0, 0), 0, 0), (78, .i2s, (0, 0, 0, 0), 0, 0), (79, .goto 4, (0, 0, 0, 0), 0, 0), (82, .iload_n 3, (0, 0, 0, 0), 0, 0), (83, .iastore, (0, 0, 0, 0), 0, 0), (84, .iconst 1, (0, 0, 0, 0), 1, 0), (85, .ireturn, (0, 0, 0, 0), 0, 0)]
theorem okX6_cell : kX6_cell.all (xOk RX6 cX6_cell) = true := by decide +kernel
def kX6_copy : List xI := [(0, .iload_n 1, (0, 0, 0, 0), 0, 0), (1, .invokestatic 337, (0, 3, 0, 0), 0, 0), (4, .ifCond .eq 10, (0, 0, 0, 0), 0, 0), (7, .iload_n 3, (0, 0, 0, 0), 0, 0), (8, .invokestatic 337, (0, 3, 0, 0), 0, 0), (11, .ifCond .ne 6, (0, 0, 0, 0), 0, 0), (14, .bipush (-2), (0, 0, 0, 0), (-2), 0), (16, .ireturn, (0, 0, 0, 0), 0, 0), (17, .aload_n 0, (0, 0, 0, 0), 0, 0), (18, .getfield 59, (847, 6, 46, 0), 0, 0), (21, .iload_n 1, (0, 0, 0, 0), 0, 0), (22, .baload, (0, 0, 0, 0), 0, 0), (23, .ifCond .eq 12, (0, 0, 0, 0), 0, 0), (26, .aload_n 0, (0, 0, 0, 0), 0, 0), (27, .getfield 59, (847, 6, 46, 0), 0, 0), (30, .iload_n 3, (0, 0, 0, 0), 0, 0), (31, .baload, (0, 0, 0, 0), 0, 0), (32, .ifCond .ne 6, (0, 0, 0, 0), 0, 0), (35, .bipush (-11), (0, 0, 0, 0), (-11), 0), (37, .ireturn, (0, 0, 0, 0), 0, 0), (38, .aload_n 0, (0, 0, 0, 0), 0, 0), (39, .getfield 63, (848, 6, 47, 0), 0, 0), (42, .iload_n 1, (0, 0, 0, 0), 0, 0), (43, .iaload, (0, 0, 0, 0), 0, 0), (44, .aload_n 0, (0, 0, 0, 0), 0, 0), (45, .getfield 63, (848, 6, 47, 0), 0, 0), (48, .iload_n 3, (0, 0, 0, 0), 0, 0), (49, .iaload, (0, 0, 0, 0), 0, 0), (50, .if_icmp .eq 6, (0, 0, 0, 0), 0, 0), (53, .bipush (-13), (0, 0, 0, 0), (-13), 0), (55, .ireturn, (0, 0, 0, 0), 0, 0), (56, .iload 5, (0, 0, 0, 0), 0, 0), (58, .ifCond .lt 39, (0, 0, 0, 0), 0, 0), (61, .iload_n 2, (0, 0, 0, 0), 0, 0), (62, .ifCond .lt 35, (0, 0, 0, 0), 0, 0), (65, .iload 4, (0, 0, 0, 0), 0, 0), (67, .ifCond .lt 30, (0, 0, 0, 0), 0, 0), (70, .iload_n 2, (0, 0, 0, 0), 0, 0), (71, .aload_n 0, (0, 0, 0, 0), 0, 0), (72, .getfield 66, (849, 6, 48, 0), 0, 0), (75, .iload_n 1, (0, 0, 0, 0), 0, 0), (76, .iaload, (0, 0, 0, 0), 0, 0), (77, .iload 5, (0, 0, 0, 0), 0, 0), (79, .isub, (0, 0, 0, 0), 0, 0), (80, .if_icmp .gt 17, (0, 0, 0, 0), 0, 0), (83, .iload 4, (0, 0, 0, 0), 0, 0), (85, .aload_n 0, (0, 0, 0, 0), 0, 0), (86, .getfield 66, (849, 6, 48, 0), 0, 0), (89, .iload_n 3, (0, 0, 0, 0), 0, 0), (90, .iaload, (0, 0, 0, 0), 0, 0), (91, .iload 5, (0, 0, 0, 0), 0, 0), (93, .isub, (0, 0, 0, 0), 0, 0), (94, .if_icmp .le 6, (0, 0, 0, 0), 0, 0), (97, .bipush (-12), (0, 0, 0, 0), (-12), 0), (99, .ireturn, (0, 0, 0, 0), 0, 0), (100, .iload_n 1, (0, 0, 0, 0), 0, 0), (101, .iload_n 3, (0, 0, 0, 0), 0, 0), (102, .if_icmp .ne 13, (0, 0, 0, 0), 0, 0), (105, .iload_n 2, (0, 0, 0, 0), 0, 0), (106, .iload 4, (0, 0, 0, 0), 0, 0), (108, .if_icmp .ge 7, (0, 0, 0, 0), 0, 0), (111, .iconst 1, (0, 0, 0, 0), 1, 0), (112, .goto 4, (0, 0, 0, 0), 0, 0), (115, .iconst 0, (0, 0, 0, 0), 0, 0), (116, .istore 6, (0, 0, 0, 0), 0, 0), (118, .iconst 0, (0, 0, 0, 0), 0, 0), (119, .istore 7, (0, 0, 0, 0), 0, 0), (121, .iload 7, (0, 0, 0, 0), 0, 0), (123, .iload 5, (0, 0, 0, 0), 0, 0), (125, .if_icmp .ge 57, (0, 0, 0, 0), 0, 0), (128, .iload 6, (0, 0, 0, 0), 0, 0), (130, .ifCond .eq 13, (0, 0, 0, 0), 0, 0), (133, .iload 5, (0, 0, 0, 0), 0, 0), (135, .iconst 1, (0, 0, 0, 0), 1, 0), (136, .isub, (0, 0, 0, 0), 0, 0), (137, .iload 7, (0, 0, 0, 0), 0, 0), (139, .isub, (0, 0, 0, 0), 0, 0), (140, .goto 5, (0, 0, 0, 0), 0, 0), (143, .iload 7, (0, 0, 0, 0), 0, 0), (145, .istore 8, (0, 0, 0, 0), 0, 0), (147, .aload_n 0, (0, 0, 0, 0), 0, 0), (148, .getfield 69, (850, 6, 49, 0), 0, 0), (151, .bipush 40, (0, 0, 0, 0), 40, 0), (153, .iload_n 3, (0, 0, 0, 0), 0, 0), (154, .imul, (0, 0, 0, 0), 0, 0), (155, .iload 4, (0, 0, 0, 0), 0, 0), (157, .iadd, (0, 0, 0, 0), 0, 0), (158, .iload 8, (0, 0, 0, 0), 0, 0), (160, .iadd, (0, 0, 0, 0), 0, 0), (161, .aload_n 0, (0, 0, 0, 0), 0, 0), (162, .getfield 69, (850, 6, 49, 0), 0, 0), (165, .bipush 40, (0, 0, 0, 0), 40, 0), (167, .iload_n 1, (0, 0, 0, 0), 0, 0), (168, .imul, (0, 0, 0, 0), 0, 0), (169, .iload_n 2, (0, 0, 0, 0), 0, 0), (170, .iadd, (0, 0, 0, 0), 0, 0), (171, .iload 8, (0, 0, 0, 0), 0, 0), (173, .iadd, (0, 0, 0, 0), 0, 0), (174, .iaload, (0, 0, 0, 0), 0, 0), (175, .iastore, (0, 0, 0, 0), 0, 0), (176, .iinc 7 1, (0, 0, 0, 0), 1, 0), (179, .goto (-58), (0, 0, 0, 0), 0, 0), (182, .iload 5, (0, 0, 0, 0), 0, 0), (184, .ireturn, (0, 0, 0, 0), 0, 0)]
theorem okX6_copy : kX6_copy.all (xOk RX6 cX6_copy) = true := by decide +kernel
def kX6_republic : List xI := [(0, .iload_n 1, (0, 0, 0, 0), 0, 0), (1, .invokestatic 337, (0, 3, 0, 0), 0, 0), (4, .ifCond .eq 28, (0, 0, 0, 0), 0, 0), (7, .iload_n 2, (0, 0, 0, 0), 0, 0), (8, .i2l, (0, 0, 0, 0), 0, 0), (9, .lconst 0, (0, 0, 0, 0), 0, 0), (10, .ldc2_w 268, (1112, 0, 0, 0), 0, 2), (13, .invokestatic 82, (0, 3, 0, 0), 0, 0), (16, .ifCond .eq 16, (0, 0, 0, 0), 0, 0), (19, .iload 4, (0, 0, 0, 0), 0, 0), (21, .i2l, (0, 0, 0, 0), 0, 0), (22, .lconst 0, (0, 0, 0, 0), 0, 0), (23, .ldc2_w 369, (1267, 0, 0, 0), 0, 4), (26, .invokestatic 82, (0, 3, 0, 0), 0, 0), (29, .ifCond .ne 6, (0, 0, 0, 0), 0, 0), (32, .bipush (-2), (0, 0, 0, 0), (-2), 0), (34, .ireturn, (0, 0, 0, 0), 0, 0), (35, .aload_n 0, (0, 0, 0, 0), 0, 0), (36, .getfield 59, (847, 6, 46, 0), 0, 0), (39, .iload_n 1, (0, 0, 0, 0), 0, 0), (40, .baload, (0, 0, 0, 0), 0, 0), (41, .ifCond .eq 16, (0, 0, 0, 0), 0, 0), (44, .aload_n 0, (0, 0, 0, 0), 0, 0), (45, .getfield 63, (848, 6, 47, 0), 0, 0), (48, .iload_n 1, (0, 0, 0, 0), 0, 0), (49, .iaload, (0, 0, 0, 0), 0, 0), (50, .iload_n 2, (0, 0, 0, 0), 0, 0), (51, .if_icmp .eq 6, (0, 0, 0, 0), 0, 0), (54, .bipush (-13), (0, 0, 0, 0), (-13), 0), (56, .ireturn, (0, 0, 0, 0), 0, 0), (57, .aload_n 0, (0, 0, 0, 0), 0, 0), (58, .getfield 59, (847, 6, 46, 0), 0, 0), (61, .iload_n 1, (0, 0, 0, 0), 0, 0), (62, .baload, (0, 0, 0, 0), 0, 0), (63, .ifCond .ne 6, (0, 0, 0, 0), 0, 0), (66, .bipush (-11), (0, 0, 0, 0), (-11), 0), (68, .ireturn, (0, 0, 0, 0), 0, 0), (69, .iconst 0, (0, 0, 0, 0), 0, 0), (70, .istore 5, (0, 0, 0, 0), 0, 0), (72, .iconst 0, (0, 0, 0, 0), 0, 0), (73, .istore 6, (0, 0, 0, 0), 0, 0), (75, .iload 6, (0, 0, 0, 0), 0, 0), (77, .iload 4, (0, 0, 0, 0), 0, 0), (79, .if_icmp .ge 79, (0, 0, 0, 0), 0, 0), (82, .iload_n 3, (0, 0, 0, 0), 0, 0), (83, .ifCond .lt 20, (0, 0, 0, 0), 0, 0), (86, .iload_n 3, (0, 0, 0, 0), 0, 0), (87, .aload_n 0, (0, 0, 0, 0), 0, 0), (88, .getfield 66, (849, 6, 48, 0), 0, 0), (91, .iload_n 1, (0, 0, 0, 0), 0, 0), (92, .iaload, (0, 0, 0, 0), 0, 0), (93, .iconst 2, (0, 0, 0, 0), 2, 0), (94, .iload 6, (0, 0, 0, 0), 0, 0), (96, .imul, (0, 0, 0, 0), 0, 0), (97, .isub, (0, 0, 0, 0), 0, 0), (98, .iconst 2, (0, 0, 0, 0), 2, 0), (99, .isub, (0, 0, 0, 0), 0, 0), (100, .if_icmp .le 6, (0, 0, 0, 0), 0, 0), (103, .bipush (-12), (0, 0, 0, 0), (-12), 0), (105, .ireturn, (0, 0, 0, 0), 0, 0), (106, .bipush 40, (0, 0, 0, 0), 40, 0), (108, .iload_n 1, (0, 0, 0, 0), 0, 0), (109, .imul, (0, 0, 0, 0), 0, 0), (110, .iload_n 3, (0, 0, 0, 0), 0, 0), (111, .iadd, (0, 0, 0, 0), 0, 0), (112, .iconst 2, (0, 0, 0, 0), 2, 0), (113, .iload 6, (0, 0, 0, 0), 0, 0), (115, .imul, (0, 0, 0, 0), 0, 0), (116, .iadd, (0, 0, 0, 0), 0, 0), (117, .istore 7, (0, 0, 0, 0), 0, 0), (119, .iload 5, (0, 0, 0, 0), 0, 0), (121, .aload_n 0, (0, 0, 0, 0), 0, 0), (122, .aload_n 0, (0, 0, 0, 0), 0, 0), (123, .getfield 69, (850, 6, 49, 0), 0, 0), (126, .iload 7, (0, 0, 0, 0), 0, 0), (128, .iaload, (0, 0, 0, 0), 0, 0), (129, .aload_n 0, (0, 0, 0, 0), 0, 0), (130, .getfield 69, (850, 6, 49, 0), 0, 0), (133, .iload 7, (0, 0, 0, 0), 0, 0), (135, .iconst 1, (0, 0, 0, 0), 1, 0), (136, .iadd, (0, 0, 0, 0), 0, 0), (137, .iaload, (0, 0, 0, 0), 0, 0), (138, .invokevirtual 371, (0, 0, 0, 0), 0, 0), (141, .ifCond .lt 7, (0, 0, 0, 0), 0, 0), (144, .iconst 1, (0, 0, 0, 0), 1, 0), (145, .goto 4, (0, 0, 0, 0), 0, 0), (148, .iconst 0, (0, 0, 0, 0), 0, 0), (149, .iadd, (0, 0, 0, 0), 0, 0), (150, .istore 5, (0, 0, 0, 0), 0, 0), (152, .iinc 6 1, (0, 0, 0, 0), 1, 0), (155, .goto (-80), (0, 0, 0, 0), 0, 0), (158, .iload 5, (0, 0, 0, 0), 0, 0), (160, .ireturn, (0, 0, 0, 0), 0, 0)]
theorem okX6_republic : kX6_republic.all (xOk RX6 cX6_republic) = true := by decide +kernel
def kX6_over : List xI := [(0, .iload_n 0, (0, 0, 0, 0), 0, 0), (1, .ifCond .ne 7, (0, 0, 0, 0), 0, 0), (4, .iconst (-1), (0, 0, 0, 0), (-1), 0), (5, .goto 22, (0, 0, 0, 0), 0, 0), (8, .iload_n 0, (0, 0, 0, 0), 0, 0), (9, .iconst 3, (0, 0, 0, 0), 3, 0), (10, .if_icmp .ne 7, (0, 0, 0, 0), 0, 0), (13, .iconst 1, (0, 0, 0, 0), 1, 0), (14, .goto 13, (0, 0, 0, 0), 0, 0), (17, .iload_n 0, (0, 0, 0, 0), 0, 0), (18, .iconst 4, (0, 0, 0, 0), 4, 0), (19, .if_icmp .ne 7, (0, 0, 0, 0), 0, 0), (22, .iconst 2, (0, 0, 0, 0), 2, 0), (23, .goto 4, (0, 0, 0, 0), 0, 0), (26, .iconst 0, (0, 0, 0, 0), 0, 0), (27, .ireturn, (0, 0, 0, 0), 0, 0)]
theorem okX6_over : kX6_over.all (xOk RX6 cX6_over) = true := by decide +kernel
def kX6_taken : List xI := [(0, .iload_n 2, (0, 0, 0, 0), 0, 0), (1, .i2l, (0, 0, 0, 0), 0, 0), (2, .lconst 0, (0, 0, 0, 0), 0, 0), (3, .ldc2_w 129, (1093, 0, 0, 0), 0, 5), (6, .invokestatic 82, (0, 3, 0, 0), 0, 0), (9, .ifCond .ne 6, (0, 0, 0, 0), 0, 0), (12, .bipush (-2), (0, 0, 0, 0), (-2), 0), (14, .ireturn, (0, 0, 0, 0), 0, 0), (15, .aload_n 0, (0, 0, 0, 0), 0, 0), (16, .iload_n 1, (0, 0, 0, 0), 0, 0), (17, .invokevirtual 97, (0, 0, 0, 0), 0, 0), (20, .ifCond .ne 6, (0, 0, 0, 0), 0, 0), (23, .bipush (-11), (0, 0, 0, 0), (-11), 0), (25, .ireturn, (0, 0, 0, 0), 0, 0), (26, .aload_n 0, (0, 0, 0, 0), 0, 0), (27, .getfield 35, (815, 6, 14, 0), 0, 0), (30, .iconst 4, (0, 0, 0, 0), 4, 0), (31, .iload_n 1, (0, 0, 0, 0), 0, 0), (32, .imul, (0, 0, 0, 0), 0, 0), (33, .iconst 3, (0, 0, 0, 0), 3, 0), (34, .iadd, (0, 0, 0, 0), 0, 0), (35, .iaload, (0, 0, 0, 0), 0, 0), (36, .istore_n 3, (0, 0, 0, 0), 0, 0), (37, .iload_n 3, (0, 0, 0, 0), 0, 0), (38, .iconst (-1), (0, 0, 0, 0), (-1), 0), (39, .if_icmp .eq 16, (0, 0, 0, 0), 0, 0), (42, .iload_n 3, (0, 0, 0, 0), 0, 0), (43, .iload_n 2, (0, 0, 0, 0), 0, 0), (44, .if_icmp .eq 11, (0, 0, 0, 0), 0, 0), (47, .iload_n 3, (0, 0, 0, 0), 0, 0), (48, .invokestatic 374, (0, 3, 0, 0), 0, 0), (51, .istore_n 3, (0, 0, 0, 0), 0, 0), (52, .goto (-15), (0, 0, 0, 0), 0, 0), (55, .iload_n 3, (0, 0, 0, 0), 0, 0), (56, .iload_n 2, (0, 0, 0, 0), 0, 0), (57, .if_icmp .ne 14, (0, 0, 0, 0), 0, 0), (60, .aload_n 0, (0, 0, 0, 0), 0, 0), (61, .getfield 35, (815, 6, 14, 0), 0, 0), (64, .iconst 4, (0, 0, 0, 0), 4, 0), (65, .iload_n 1, (0, 0, 0, 0), 0, 0), (66, .imul, (0, 0, 0, 0), 0, 0), (67, .iaload, (0, 0, 0, 0), 0, 0), (68, .goto 5, (0, 0, 0, 0), 0, 0), (71, .bipush (-13), (0, 0, 0, 0), (-13), 0), (73, .ireturn, (0, 0, 0, 0), 0, 0)]
theorem okX6_taken : kX6_taken.all (xOk RX6 cX6_taken) = true := by decide +kernel
end
section
def kX0_takeFrom : List xI := [(0, .aload_n 1, (0, 0, 0, 0), 0, 0), (1, .getfield 9, (180, 0, 1, 0), 0, 0), (4, .iconst 0, (0, 0, 0, 0), 0, 0), (5, .aload_n 0, (0, 0, 0, 0), 0, 0), (6, .getfield 9, (180, 0, 1, 0), 0, 0), (9, .iconst 0, (0, 0, 0, 0), 0, 0), (10, .bipush 8, (0, 0, 0, 0), 8, 0), (12, .invokestatic 44, (603, 2, 0, 0), 0, 0), (15, .aload_n 0, (0, 0, 0, 0), 0, 0), (16, .aload_n 1, (0, 0, 0, 0), 0, 0), (17, .getfield 15, (182, 0, 2, 0), 0, 0), (20, .putfield 15, (182, 0, 2, 0), 0, 0), (23, .aload_n 0, (0, 0, 0, 0), 0, 0), (24, .aload_n 1, (0, 0, 0, 0), 0, 0), (25, .getfield 50, (186, 0, 3, 0), 0, 0), (28, .putfield 50, (186, 0, 3, 0), 0, 0), (31, .aload_n 0, (0, 0, 0, 0), 0, 0), (32, .aload_n 1, (0, 0, 0, 0), 0, 0), (33, .getfield 19, (189, 0, 4, 0), 0, 0), (36, .putfield 19, (189, 0, 4, 0), 0, 0), (39, .aload_n 0, (0, 0, 0, 0), 0, 0), (40, .aload_n 1, (0, 0, 0, 0), 0, 0), (41, .getfield 53, (190, 0, 5, 0), 0, 0), (44, .putfield 53, (190, 0, 5, 0), 0, 0), (47, .aload_n 0, (0, 0, 0, 0), 0, 0), (48, .aload_n 1, (0, 0, 0, 0), 0, 0), (49, .getfield 56, (193, 0, 6, 0), 0, 0), (52, .putfield 56, (193, 0, 6, 0), 0, 0), (55, .aload_n 1, (0, 0, 0, 0), 0, 0), (56, .getfield 22, (195, 0, 7, 0), 0, 0), (59, .iconst 0, (0, 0, 0, 0), 0, 0), (60, .aload_n 0, (0, 0, 0, 0), 0, 0), (61, .getfield 22, (195, 0, 7, 0), 0, 0), (64, .iconst 0, (0, 0, 0, 0), 0, 0), (65, .bipush 10, (0, 0, 0, 0), 10, 0), (67, .invokestatic 44, (603, 2, 0, 0), 0, 0), (70, .aload_n 1, (0, 0, 0, 0), 0, 0), (71, .getfield 25, (198, 0, 8, 0), 0, 0), (74, .iconst 0, (0, 0, 0, 0), 0, 0), (75, .aload_n 0, (0, 0, 0, 0), 0, 0), (76, .getfield 25, (198, 0, 8, 0), 0, 0), (79, .iconst 0, (0, 0, 0, 0), 0, 0), (80, .bipush 10, (0, 0, 0, 0), 10, 0), (82, .invokestatic 44, (603, 2, 0, 0), 0, 0), (85, .aload_n 0, (0, 0, 0, 0), 0, 0), (86, .aload_n 1, (0, 0, 0, 0), 0, 0), (87, .getfield 59, (201, 0, 9, 0), 0, 0), (90, .putfield 59, (201, 0, 9, 0), 0, 0), (93, .aload_n 1, (0, 0, 0, 0), 0, 0), (94, .getfield 28, (203, 0, 10, 0), 0, 0), (97, .iconst 0, (0, 0, 0, 0), 0, 0), (98, .aload_n 0, (0, 0, 0, 0), 0, 0), (99, .getfield 28, (203, 0, 10, 0), 0, 0), (102, .iconst 0, (0, 0, 0, 0), 0, 0), (103, .iconst 4, (0, 0, 0, 0), 4, 0), (104, .invokestatic 44, (603, 2, 0, 0), 0, 0), (107, .aload_n 1, (0, 0, 0, 0), 0, 0), (108, .getfield 31, (205, 0, 11, 0), 0, 0), (111, .iconst 0, (0, 0, 0, 0), 0, 0), (112, .aload_n 0, (0, 0, 0, 0), 0, 0), (113, .getfield 31, (205, 0, 11, 0), 0, 0), (116, .iconst 0, (0, 0, 0, 0), 0, 0), (117, .iconst 4, (0, 0, 0, 0), 4, 0), (118, .invokestatic 44, (603, 2, 0, 0), 0, 0), (121, .aload_n 1, (0, 0, 0, 0), 0, 0), (122, .getfield 34, (208, 0, 12, 0), 0, 0), (125, .iconst 0, (0, 0, 0, 0), 0, 0), (126, .aload_n 0, (0, 0, 0, 0), 0, 0), (127, .getfield 34, (208, 0, 12, 0), 0, 0), (130, .iconst 0, (0, 0, 0, 0), 0, 0), (131, .iconst 4, (0, 0, 0, 0), 4, 0), (132, .invokestatic 44, (603, 2, 0, 0), 0, 0), (135, .aload_n 1, (0, 0, 0, 0), 0, 0), (136, .getfield 37, (209, 0, 13, 0), 0, 0), (139, .iconst 0, (0, 0, 0, 0), 0, 0), (140, .aload_n 0, (0, 0, 0, 0), 0, 0), (141, .getfield 37, (209, 0, 13, 0), 0, 0), (144, .iconst 0, (0, 0, 0, 0), 0, 0), (145, .iconst 4, (0, 0, 0, 0), 4, 0), (146, .invokestatic 44, (603, 2, 0, 0), 0, 0), (149, .aload_n 0, (0, 0, 0, 0), 0, 0), (150, .aload_n 1, (0, 0, 0, 0), 0, 0), (151, .getfield 62, (212, 0, 14, 0), 0, 0), (154, .putfield 62, (212, 0, 14, 0), 0, 0), (157, .return_, (0, 0, 0, 0), 0, 0)]
theorem okX0_takeFrom : kX0_takeFrom.all (xOk RX0 cX0_takeFrom) = true := by decide +kernel
def kX0_valueOf : List xI := [(0, .iload_n 2, (0, 0, 0, 0), 0, 0), (1, .tableswitch 147 0 12 #[67, 74, 79, 84, 91, 98, 105, 112, 119, 126, 132, 137, 142], (0, 0, 0, 0), 0, 0), (68, .aload_n 0, (0, 0, 0, 0), 0, 0), (69, .getfield 9, (180, 0, 1, 0), 0, 0), (72, .iload_n 1, (0, 0, 0, 0), 0, 0), (73, .iaload, (0, 0, 0, 0), 0, 0), (74, .ireturn, (0, 0, 0, 0), 0, 0), (75, .aload_n 0, (0, 0, 0, 0), 0, 0), (76, .getfield 19, (189, 0, 4, 0), 0, 0), (79, .ireturn, (0, 0, 0, 0), 0, 0), (80, .aload_n 0, (0, 0, 0, 0), 0, 0), (81, .getfield 53, (190, 0, 5, 0), 0, 0), (84, .ireturn, (0, 0, 0, 0), 0, 0), (85, .aload_n 0, (0, 0, 0, 0), 0, 0), (86, .getfield 22, (195, 0, 7, 0), 0, 0), (89, .iload_n 1, (0, 0, 0, 0), 0, 0), (90, .iaload, (0, 0, 0, 0), 0, 0), (91, .ireturn, (0, 0, 0, 0), 0, 0), (92, .aload_n 0, (0, 0, 0, 0), 0, 0), (93, .getfield 25, (198, 0, 8, 0), 0, 0), (96, .iload_n 1, (0, 0, 0, 0), 0, 0), (97, .iaload, (0, 0, 0, 0), 0, 0), (98, .ireturn, (0, 0, 0, 0), 0, 0), (99, .aload_n 0, (0, 0, 0, 0), 0, 0), (100, .getfield 31, (205, 0, 11, 0), 0, 0), (103, .iload_n 1, (0, 0, 0, 0), 0, 0), (104, .iaload, (0, 0, 0, 0), 0, 0), (105, .ireturn, (0, 0, 0, 0), 0, 0), (106, .aload_n 0, (0, 0, 0, 0), 0, 0), (107, .getfield 34, (208, 0, 12, 0), 0, 0), (110, .iload_n 1, (0, 0, 0, 0), 0, 0), (111, .iaload, (0, 0, 0, 0), 0, 0), (112, .ireturn, (0, 0, 0, 0), 0, 0), (113, .aload_n 0, (0, 0, 0, 0), 0, 0), (114, .getfield 37, (209, 0, 13, 0), 0, 0), (117, .iload_n 1, (0, 0, 0, 0), 0, 0), (118, .iaload, (0, 0, 0, 0), 0, 0), (119, .ireturn, (0, 0, 0, 0), 0, 0), (120, .aload_n 0, (0, 0, 0, 0), 0, 0), (121, .getfield 28, (203, 0, 10, 0), 0, 0), (124, .iload_n 1, (0, 0, 0, 0), 0, 0), (125, .iaload, (0, 0, 0, 0), 0, 0), (126, .ireturn, (0, 0, 0, 0), 0, 0), (127, .aload_n 0, (0, 0, 0, 0), 0, 0), (128, .iload_n 1, (0, 0, 0, 0), 0, 0), (129, .invokevirtual 65, (0, 0, 0, 0), 0, 0), (132, .ireturn, (0, 0, 0, 0), 0, 0), (133, .aload_n 0, (0, 0, 0, 0), 0, 0), (134, .getfield 15, (182, 0, 2, 0), 0, 0), (137, .ireturn, (0, 0, 0, 0), 0, 0), (138, .aload_n 0, (0, 0, 0, 0), 0, 0), (139, .getfield 50, (186, 0, 3, 0), 0, 0), (142, .ireturn, (0, 0, 0, 0), 0, 0), (143, .aload_n 0, (0, 0, 0, 0), 0, 0), (144, .getfield 56, (193, 0, 6, 0), 0, 0), (147, .ireturn, (0, 0, 0, 0), 0, 0), (148, .sipush (-1000), (0, 0, 0, 0), (-1000), 0), (151, .ireturn, (0, 0, 0, 0), 0, 0)]
theorem okX0_valueOf : kX0_valueOf.all (xOk RX0 cX0_valueOf) = true := by decide +kernel
def kX0_put : List xI := [(0, .iload_n 2, (0, 0, 0, 0), 0, 0), (1, .tableswitch 164 0 13 #[71, 80, 88, 96, 106, 116, 126, 136, 146, 164, 164, 164, 164, 156], (0, 0, 0, 0), 0, 0), (72, .aload_n 0, (0, 0, 0, 0), 0, 0), (73, .iload_n 1, (0, 0, 0, 0), 0, 0), (74, .iload_n 3, (0, 0, 0, 0), 0, 0), (75, .invokevirtual 69, (0, 0, 0, 0), 0, 0), (78, .goto 87, (0, 0, 0, 0), 0, 0), (81, .aload_n 0, (0, 0, 0, 0), 0, 0), (82, .iload_n 3, (0, 0, 0, 0), 0, 0), (83, .putfield 19, (189, 0, 4, 0), 0, 0), (86, .goto 79, (0, 0, 0, 0), 0, 0), (89, .aload_n 0, (0, 0, 0, 0), 0, 0), (90, .iload_n 3, (0, 0, 0, 0), 0, 0), (91, .putfield 53, (190, 0, 5, 0), 0, 0), (94, .goto 71, (0, 0, 0, 0), 0, 0), (97, .aload_n 0, (0, 0, 0, 0), 0, 0), (98, .getfield 22, (195, 0, 7, 0), 0, 0), (101, .iload_n 1, (0, 0, 0, 0), 0, 0), (102, .iload_n 3, (0, 0, 0, 0), 0, 0), (103, .iastore, (0, 0, 0, 0), 0, 0), (104, .goto 61, (0, 0, 0, 0), 0, 0), (107, .aload_n 0, (0, 0, 0, 0), 0, 0), (108, .getfield 25, (198, 0, 8, 0), 0, 0), (111, .iload_n 1, (0, 0, 0, 0), 0, 0), (112, .iload_n 3, (0, 0, 0, 0), 0, 0), (113, .iastore, (0, 0, 0, 0), 0, 0), (114, .goto 51, (0, 0, 0, 0), 0, 0), (117, .aload_n 0, (0, 0, 0, 0), 0, 0), (118, .getfield 31, (205, 0, 11, 0), 0, 0), (121, .iload_n 1, (0, 0, 0, 0), 0, 0), (122, .iload_n 3, (0, 0, 0, 0), 0, 0), (123, .iastore, (0, 0, 0, 0), 0, 0), (124, .goto 41, (0, 0, 0, 0), 0, 0), (127, .aload_n 0, (0, 0, 0, 0), 0, 0), (128, .getfield 34, (208, 0, 12, 0), 0, 0), (131, .iload_n 1, (0, 0, 0, 0), 0, 0), (132, .iload_n 3, (0, 0, 0, 0), 0, 0), (133, .iastore, (0, 0, 0, 0), 0, 0), (134, .goto 31, (0, 0, 0, 0), 0, 0), (137, .aload_n 0, (0, 0, 0, 0), 0, 0), (138, .getfield 37, (209, 0, 13, 0), 0, 0), (141, .iload_n 1, (0, 0, 0, 0), 0, 0), (142, .iload_n 3, (0, 0, 0, 0), 0, 0), (143, .iastore, (0, 0, 0, 0), 0, 0), (144, .goto 21, (0, 0, 0, 0), 0, 0), (147, .aload_n 0, (0, 0, 0, 0), 0, 0), (148, .getfield 28, (203, 0, 10, 0), 0, 0), (151, .iload_n 1, (0, 0, 0, 0), 0, 0), (152, .iload_n 3, (0, 0, 0, 0), 0, 0), (153, .iastore, (0, 0, 0, 0), 0, 0), (154, .goto 11, (0, 0, 0, 0), 0, 0), (157, .aload_n 0, (0, 0, 0, 0), 0, 0), (158, .iload_n 3, (0, 0, 0, 0), 0, 0), (159, .putfield 62, (212, 0, 14, 0), 0, 0), (162, .goto 3, (0, 0, 0, 0), 0, 0), (165, .return_, (0, 0, 0, 0), 0, 0)]
theorem okX0_put : kX0_put.all (xOk RX0 cX0_put) = true := by decide +kernel
def kX0_putLeft : List xI := [(0, .aload_n 0, (0, 0, 0, 0), 0, 0), (1, .getfield 9, (180, 0, 1, 0), 0, 0), (4, .iload_n 1, (0, 0, 0, 0), 0, 0), (5, .iload_n 2, (0, 0, 0, 0), 0, 0), (6, .iastore, (0, 0, 0, 0), 0, 0), (7, .iload_n 2, (0, 0, 0, 0), 0, 0), (8, .ifCond .le 18, (0, 0, 0, 0), 0, 0), (11, .aload_n 0, (0, 0, 0, 0), 0, 0), (12, .dup, (0, 0, 0, 0), 0, 0), (13, .getfield 15, (182, 0, 2, 0), 0, 0), (16, .iconst 1, (0, 0, 0, 0), 1, 0), (17, .iload_n 1, (0, 0, 0, 0), 0, 0), (18, .ishl, (0, 0, 0, 0), 0, 0), (19, .ior, (0, 0, 0, 0), 0, 0), (20, .putfield 15, (182, 0, 2, 0), 0, 0), (23, .goto 30, (0, 0, 0, 0), 0, 0), (26, .aload_n 0, (0, 0, 0, 0), 0, 0), (27, .dup, (0, 0, 0, 0), 0, 0), (28, .getfield 15, (182, 0, 2, 0), 0, 0), (31, .iconst 1, (0, 0, 0, 0), 1, 0), (32, .iload_n 1, (0, 0, 0, 0), 0, 0), (33, .ishl, (0, 0, 0, 0), 0, 0), (34, .iconst (-1), (0, 0, 0, 0), (-1), 0), (35, .ixor, (0, 0, 0, 0), 0, 0), (36, .iand, (0, 0, 0, 0), 0, 0), (37, .putfield 15, (182, 0, 2, 0), 0, 0), (40, .aload_n 0, (0, 0, 0, 0), 0, 0), (41, .dup, (0, 0, 0, 0), 0, 0), (42, .getfield 50, (186, 0, 3, 0), 0, 0), (45, .aload_n 0, (0, 0, 0, 0), 0, 0), (46, .getfield 15, (182, 0, 2, 0), 0, 0), (49, .iand, (0, 0, 0, 0), 0, 0), (50, .putfield 50, (186, 0, 3, 0), 0, 0), (53, .return_, (0, 0, 0, 0), 0, 0)]
theorem okX0_putLeft : kX0_putLeft.all (xOk RX0 cX0_putLeft) = true := by decide +kernel
def kX0_add : List xI := [(0, .aload_n 0, (0, 0, 0, 0), 0, 0), (1, .getfield 59, (201, 0, 9, 0), 0, 0), (4, .istore_n 3, (0, 0, 0, 0), 0, 0), (5, .aload_n 0, (0, 0, 0, 0), 0, 0), (6, .getfield 28, (203, 0, 10, 0), 0, 0), (9, .iload_n 3, (0, 0, 0, 0), 0, 0), (10, .iload_n 1, (0, 0, 0, 0), 0, 0), (11, .iastore, (0, 0, 0, 0), 0, 0), (12, .aload_n 0, (0, 0, 0, 0), 0, 0), (13, .getfield 31, (205, 0, 11, 0), 0, 0), (16, .iload_n 3, (0, 0, 0, 0), 0, 0), (17, .iload_n 2, (0, 0, 0, 0), 0, 0), (18, .iastore, (0, 0, 0, 0), 0, 0), (19, .aload_n 0, (0, 0, 0, 0), 0, 0), (20, .getfield 34, (208, 0, 12, 0), 0, 0), (23, .iload_n 3, (0, 0, 0, 0), 0, 0), (24, .iconst 0, (0, 0, 0, 0), 0, 0), (25, .iastore, (0, 0, 0, 0), 0, 0), (26, .aload_n 0, (0, 0, 0, 0), 0, 0), (27, .getfield 37, (209, 0, 13, 0), 0, 0), (30, .iload_n 3, (0, 0, 0, 0), 0, 0), (31, .iconst 0, (0, 0, 0, 0), 0, 0), (32, .iastore, (0, 0, 0, 0), 0, 0), (33, .aload_n 0, (0, 0, 0, 0), 0, 0), (34, .dup, (0, 0, 0, 0), 0, 0), (35, .getfield 59, (201, 0, 9, 0), 0, 0), (38, .iconst 1, (0, 0, 0, 0), 1, 0), (39, .iadd, (0, 0, 0, 0), 0, 0), (40, .putfield 59, (201, 0, 9, 0), 0, 0), (43, .iload_n 3, (0, 0, 0, 0), 0, 0), (44, .ireturn, (0, 0, 0, 0), 0, 0)]
theorem okX0_add : kX0_add.all (xOk RX0 cX0_add) = true := by decide +kernel
def kX0_dares : List xI := [(0, .aload_n 0, (0, 0, 0, 0), 0, 0), (1, .getfield 40, (179, 0, 0, 0), 0, 0), (4, .iconst 0, (0, 0, 0, 0), 0, 0), (5, .aload_n 0, (0, 0, 0, 0), 0, 0), (6, .iload_n 1, (0, 0, 0, 0), 0, 0), (7, .iload_n 2, (0, 0, 0, 0), 0, 0), (8, .invokevirtual 73, (0, 0, 0, 0), 0, 0), (11, .ifCond .eq 7, (0, 0, 0, 0), 0, 0), (14, .iconst 1, (0, 0, 0, 0), 1, 0), (15, .goto 4, (0, 0, 0, 0), 0, 0), (18, .iconst 0, (0, 0, 0, 0), 0, 0), (19, .istore_n 3, (0, 0, 0, 0), 0, 0), (20, .aload_n 0, (0, 0, 0, 0), 0, 0), (21, .getfield 28, (203, 0, 10, 0), 0, 0), (24, .iload_n 1, (0, 0, 0, 0), 0, 0), (25, .iaload, (0, 0, 0, 0), 0, 0), (26, .tableswitch 155 1 5 #[34, 53, 74, 102, 131], (0, 0, 0, 0), 0, 0), (60, .iload_n 3, (0, 0, 0, 0), 0, 0), (61, .ifCond .ne 12, (0, 0, 0, 0), 0, 0), (64, .aload_n 0, (0, 0, 0, 0), 0, 0), (65, .iload_n 1, (0, 0, 0, 0), 0, 0), (66, .iload_n 2, (0, 0, 0, 0), 0, 0), (67, .invokevirtual 79, (0, 0, 0, 0), 0, 0), (70, .ifCond .eq 7, (0, 0, 0, 0), 0, 0), (73, .iconst 1, (0, 0, 0, 0), 1, 0), (74, .goto 4, (0, 0, 0, 0), 0, 0), (77, .iconst 0, (0, 0, 0, 0), 0, 0), (78, .ireturn, (0, 0, 0, 0), 0, 0), (79, .iload_n 3, (0, 0, 0, 0), 0, 0), (80, .ifCond .eq 18, (0, 0, 0, 0), 0, 0), (83, .aload_n 0, (0, 0, 0, 0), 0, 0), (84, .getfield 25, (198, 0, 8, 0), 0, 0), (87, .iload_n 2, (0, 0, 0, 0), 0, 0), (88, .iaload, (0, 0, 0, 0), 0, 0), (89, .bipush 20, (0, 0, 0, 0), 20, 0), (91, .if_icmp .ge 7, (0, 0, 0, 0), 0, 0), (94, .iconst 1, (0, 0, 0, 0), 1, 0), (95, .goto 4, (0, 0, 0, 0), 0, 0), (98, .iconst 0, (0, 0, 0, 0), 0, 0), (99, .ireturn, (0, 0, 0, 0), 0, 0), (100, .iload_n 3, (0, 0, 0, 0), 0, 0), (101, .ifCond .ne 21, (0, 0, 0, 0), 0, 0), (104, .aload_n 0, (0, 0, 0, 0), 0, 0), (105, .getfield 53, (190, 0, 5, 0), 0, 0), (108, .iconst 2, (0, 0, 0, 0), 2, 0), (109, .irem, (0, 0, 0, 0), 0, 0), (110, .ifCond .eq 16, (0, 0, 0, 0), 0, 0), (113, .aload_n 0, (0, 0, 0, 0), 0, 0), (114, .iload_n 1, (0, 0, 0, 0), 0, 0), (115, .iload_n 2, (0, 0, 0, 0), 0, 0), (116, .invokevirtual 79, (0, 0, 0, 0), 0, 0), (119, .ifCond .eq 7, (0, 0, 0, 0), 0, 0), (122, .iconst 1, (0, 0, 0, 0), 1, 0), (123, .goto 4, (0, 0, 0, 0), 0, 0), (126, .iconst 0, (0, 0, 0, 0), 0, 0), (127, .ireturn, (0, 0, 0, 0), 0, 0), (128, .iload_n 3, (0, 0, 0, 0), 0, 0), (129, .ifCond .eq 14, (0, 0, 0, 0), 0, 0), (132, .aload_n 0, (0, 0, 0, 0), 0, 0), (133, .getfield 25, (198, 0, 8, 0), 0, 0), (136, .iload_n 2, (0, 0, 0, 0), 0, 0), (137, .iaload, (0, 0, 0, 0), 0, 0), (138, .bipush 20, (0, 0, 0, 0), 20, 0), (140, .if_icmp .lt 11, (0, 0, 0, 0), 0, 0), (143, .aload_n 0, (0, 0, 0, 0), 0, 0), (144, .iload_n 2, (0, 0, 0, 0), 0, 0), (145, .invokevirtual 83, (0, 0, 0, 0), 0, 0), (148, .ifCond .eq 7, (0, 0, 0, 0), 0, 0), (151, .iconst 1, (0, 0, 0, 0), 1, 0), (152, .goto 4, (0, 0, 0, 0), 0, 0), (155, .iconst 0, (0, 0, 0, 0), 0, 0), (156, .ireturn, (0, 0, 0, 0), 0, 0), (157, .iload_n 3, (0, 0, 0, 0), 0, 0), (158, .ifCond .ne 17, (0, 0, 0, 0), 0, 0), (161, .aload_n 0, (0, 0, 0, 0), 0, 0), (162, .getfield 22, (195, 0, 7, 0), 0, 0), (165, .iload_n 2, (0, 0, 0, 0), 0, 0), (166, .iaload, (0, 0, 0, 0), 0, 0), (167, .aload_n 0, (0, 0, 0, 0), 0, 0), (168, .getfield 15, (182, 0, 2, 0), 0, 0), (171, .iand, (0, 0, 0, 0), 0, 0), (172, .ifCond .ne 7, (0, 0, 0, 0), 0, 0), (175, .iconst 1, (0, 0, 0, 0), 1, 0), (176, .goto 4, (0, 0, 0, 0), 0, 0), (179, .iconst 0, (0, 0, 0, 0), 0, 0), (180, .ireturn, (0, 0, 0, 0), 0, 0), (181, .iload_n 3, (0, 0, 0, 0), 0, 0), (182, .ireturn, (0, 0, 0, 0), 0, 0)]
theorem okX0_dares : kX0_dares.all (xOk RX0 cX0_dares) = true := by decide +kernel
def kX0_breaksNumber : List xI := [(0, .aload_n 0, (0, 0, 0, 0), 0, 0), (1, .getfield 31, (205, 0, 11, 0), 0, 0), (4, .iload_n 1, (0, 0, 0, 0), 0, 0), (5, .iaload, (0, 0, 0, 0), 0, 0), (6, .istore_n 3, (0, 0, 0, 0), 0, 0), (7, .iload_n 3, (0, 0, 0, 0), 0, 0), (8, .bipush 8, (0, 0, 0, 0), 8, 0), (10, .if_icmp .ge 20, (0, 0, 0, 0), 0, 0), (13, .aload_n 0, (0, 0, 0, 0), 0, 0), (14, .getfield 22, (195, 0, 7, 0), 0, 0), (17, .iload_n 2, (0, 0, 0, 0), 0, 0), (18, .iaload, (0, 0, 0, 0), 0, 0), (19, .iconst 1, (0, 0, 0, 0), 1, 0), (20, .iload_n 3, (0, 0, 0, 0), 0, 0), (21, .ishl, (0, 0, 0, 0), 0, 0), (22, .iand, (0, 0, 0, 0), 0, 0), (23, .ifCond .eq 7, (0, 0, 0, 0), 0, 0), (26, .iconst 1, (0, 0, 0, 0), 1, 0), (27, .goto 4, (0, 0, 0, 0), 0, 0), (30, .iconst 0, (0, 0, 0, 0), 0, 0), (31, .ireturn, (0, 0, 0, 0), 0, 0)]
theorem okX0_breaksNumber : kX0_breaksNumber.all (xOk RX0 cX0_breaksNumber) = true := by decide +kernel
def kX0_breaksOnlyLast : List xI := [(0, .iconst 0, (0, 0, 0, 0), 0, 0), (1, .istore_n 2, (0, 0, 0, 0), 0, 0), (2, .iload_n 2, (0, 0, 0, 0), 0, 0), (3, .bipush 8, (0, 0, 0, 0), 8, 0), (5, .if_icmp .ge 34, (0, 0, 0, 0), 0, 0), (8, .aload_n 0, (0, 0, 0, 0), 0, 0), (9, .getfield 22, (195, 0, 7, 0), 0, 0), (12, .iload_n 1, (0, 0, 0, 0), 0, 0), (13, .iaload, (0, 0, 0, 0), 0, 0), (14, .iconst 1, (0, 0, 0, 0), 1, 0), (15, .iload_n 2, (0, 0, 0, 0), 0, 0), (16, .ishl, (0, 0, 0, 0), 0, 0), (17, .iand, (0, 0, 0, 0), 0, 0), (18, .ifCond .eq 15, (0, 0, 0, 0), 0, 0), (21, .aload_n 0, (0, 0, 0, 0), 0, 0), (22, .getfield 9, (180, 0, 1, 0), 0, 0), (25, .iload_n 2, (0, 0, 0, 0), 0, 0), (26, .iaload, (0, 0, 0, 0), 0, 0), (27, .iconst 1, (0, 0, 0, 0), 1, 0), (28, .if_icmp .eq 5, (0, 0, 0, 0), 0, 0), (31, .iconst 0, (0, 0, 0, 0), 0, 0), (32, .ireturn, (0, 0, 0, 0), 0, 0), (33, .iinc 2 1, (0, 0, 0, 0), 1, 0), (36, .goto (-34), (0, 0, 0, 0), 0, 0), (39, .aload_n 0, (0, 0, 0, 0), 0, 0), (40, .getfield 22, (195, 0, 7, 0), 0, 0), (43, .iload_n 1, (0, 0, 0, 0), 0, 0), (44, .iaload, (0, 0, 0, 0), 0, 0), (45, .ifCond .eq 7, (0, 0, 0, 0), 0, 0), (48, .iconst 1, (0, 0, 0, 0), 1, 0), (49, .goto 4, (0, 0, 0, 0), 0, 0), (52, .iconst 0, (0, 0, 0, 0), 0, 0), (53, .ireturn, (0, 0, 0, 0), 0, 0)]
theorem okX0_breaksOnlyLast : kX0_breaksOnlyLast.all (xOk RX0 cX0_breaksOnlyLast) = true := by decide +kernel
def kX0_costs : List xI := [(0, .iconst 0, (0, 0, 0, 0), 0, 0), (1, .sipush 999, (0, 0, 0, 0), 999, 0), (4, .aload_n 0, (0, 0, 0, 0), 0, 0), (5, .getfield 40, (179, 0, 0, 0), 0, 0), (8, .iconst 1, (0, 0, 0, 0), 1, 0), (9, .aload_n 0, (0, 0, 0, 0), 0, 0), (10, .iload_n 1, (0, 0, 0, 0), 0, 0), (11, .iload_n 2, (0, 0, 0, 0), 0, 0), (12, .invokevirtual 73, (0, 0, 0, 0), 0, 0), (15, .invokestatic 87, (417, 1, 0, 0), 0, 0), (18, .invokestatic 93, (420, 0, 0, 0), 0, 0), (21, .istore_n 3, (0, 0, 0, 0), 0, 0), (22, .iconst 0, (0, 0, 0, 0), 0, 0), (23, .iload_n 3, (0, 0, 0, 0), 0, 0), (24, .aload_n 0, (0, 0, 0, 0), 0, 0), (25, .getfield 31, (205, 0, 11, 0), 0, 0), (28, .iload_n 1, (0, 0, 0, 0), 0, 0), (29, .iaload, (0, 0, 0, 0), 0, 0), (30, .isub, (0, 0, 0, 0), 0, 0), (31, .invokestatic 93, (420, 0, 0, 0), 0, 0), (34, .istore 4, (0, 0, 0, 0), 0, 0), (36, .aload_n 0, (0, 0, 0, 0), 0, 0), (37, .getfield 28, (203, 0, 10, 0), 0, 0), (40, .iload_n 1, (0, 0, 0, 0), 0, 0), (41, .iaload, (0, 0, 0, 0), 0, 0), (42, .tableswitch 76 1 5 #[34, 38, 41, 47, 66], (0, 0, 0, 0), 0, 0), (76, .iload_n 3, (0, 0, 0, 0), 0, 0), (77, .iconst 2, (0, 0, 0, 0), 2, 0), (78, .idiv, (0, 0, 0, 0), 0, 0), (79, .ireturn, (0, 0, 0, 0), 0, 0), (80, .iload 4, (0, 0, 0, 0), 0, 0), (82, .ireturn, (0, 0, 0, 0), 0, 0), (83, .iload_n 3, (0, 0, 0, 0), 0, 0), (84, .iconst 2, (0, 0, 0, 0), 2, 0), (85, .idiv, (0, 0, 0, 0), 0, 0), (86, .iconst 5, (0, 0, 0, 0), 5, 0), (87, .iadd, (0, 0, 0, 0), 0, 0), (88, .ireturn, (0, 0, 0, 0), 0, 0), (89, .sipush 999, (0, 0, 0, 0), 999, 0), (92, .iload 4, (0, 0, 0, 0), 0, 0), (94, .aload_n 0, (0, 0, 0, 0), 0, 0), (95, .getfield 22, (195, 0, 7, 0), 0, 0), (98, .iload_n 2, (0, 0, 0, 0), 0, 0), (99, .iaload, (0, 0, 0, 0), 0, 0), (100, .invokestatic 96, (0, 3, 0, 0), 0, 0), (103, .iadd, (0, 0, 0, 0), 0, 0), (104, .invokestatic 87, (417, 1, 0, 0), 0, 0), (107, .ireturn, (0, 0, 0, 0), 0, 0), (108, .sipush 999, (0, 0, 0, 0), 999, 0), (111, .iconst 2, (0, 0, 0, 0), 2, 0), (112, .iload_n 3, (0, 0, 0, 0), 0, 0), (113, .imul, (0, 0, 0, 0), 0, 0), (114, .invokestatic 87, (417, 1, 0, 0), 0, 0), (117, .ireturn, (0, 0, 0, 0), 0, 0), (118, .iload_n 3, (0, 0, 0, 0), 0, 0), (119, .ireturn, (0, 0, 0, 0), 0, 0)]
theorem okX0_costs : kX0_costs.all (xOk RX0 cX0_costs) = true := by decide +kernel
def kX0_sentence : List xI := [(0, .iconst 0, (0, 0, 0, 0), 0, 0), (1, .bipush 99, (0, 0, 0, 0), 99, 0), (3, .aload_n 0, (0, 0, 0, 0), 0, 0), (4, .getfield 40, (179, 0, 0, 0), 0, 0), (7, .iconst 2, (0, 0, 0, 0), 2, 0), (8, .aload_n 0, (0, 0, 0, 0), 0, 0), (9, .iload_n 1, (0, 0, 0, 0), 0, 0), (10, .iload_n 2, (0, 0, 0, 0), 0, 0), (11, .invokevirtual 73, (0, 0, 0, 0), 0, 0), (14, .invokestatic 87, (417, 1, 0, 0), 0, 0), (17, .invokestatic 93, (420, 0, 0, 0), 0, 0), (20, .istore_n 3, (0, 0, 0, 0), 0, 0), (21, .aload_n 0, (0, 0, 0, 0), 0, 0), (22, .getfield 28, (203, 0, 10, 0), 0, 0), (25, .iload_n 1, (0, 0, 0, 0), 0, 0), (26, .iaload, (0, 0, 0, 0), 0, 0), (27, .tableswitch 79 1 5 #[33, 35, 41, 57, 65], (0, 0, 0, 0), 0, 0), (60, .iconst 0, (0, 0, 0, 0), 0, 0), (61, .ireturn, (0, 0, 0, 0), 0, 0), (62, .iconst 3, (0, 0, 0, 0), 3, 0), (63, .iload_n 3, (0, 0, 0, 0), 0, 0), (64, .invokestatic 87, (417, 1, 0, 0), 0, 0), (67, .ireturn, (0, 0, 0, 0), 0, 0), (68, .aload_n 0, (0, 0, 0, 0), 0, 0), (69, .getfield 31, (205, 0, 11, 0), 0, 0), (72, .iload_n 1, (0, 0, 0, 0), 0, 0), (73, .iaload, (0, 0, 0, 0), 0, 0), (74, .iconst 5, (0, 0, 0, 0), 5, 0), (75, .if_icmp .ge 7, (0, 0, 0, 0), 0, 0), (78, .iconst 1, (0, 0, 0, 0), 1, 0), (79, .goto 4, (0, 0, 0, 0), 0, 0), (82, .iconst 0, (0, 0, 0, 0), 0, 0), (83, .ireturn, (0, 0, 0, 0), 0, 0), (84, .iconst 2, (0, 0, 0, 0), 2, 0), (85, .iconst 3, (0, 0, 0, 0), 3, 0), (86, .iload_n 3, (0, 0, 0, 0), 0, 0), (87, .invokestatic 87, (417, 1, 0, 0), 0, 0), (90, .imul, (0, 0, 0, 0), 0, 0), (91, .ireturn, (0, 0, 0, 0), 0, 0), (92, .bipush 99, (0, 0, 0, 0), 99, 0), (94, .iconst 1, (0, 0, 0, 0), 1, 0), (95, .aload_n 0, (0, 0, 0, 0), 0, 0), (96, .getfield 37, (209, 0, 13, 0), 0, 0), (99, .iload_n 1, (0, 0, 0, 0), 0, 0), (100, .iaload, (0, 0, 0, 0), 0, 0), (101, .iadd, (0, 0, 0, 0), 0, 0), (102, .invokestatic 87, (417, 1, 0, 0), 0, 0), (105, .ireturn, (0, 0, 0, 0), 0, 0), (106, .iload_n 3, (0, 0, 0, 0), 0, 0), (107, .ireturn, (0, 0, 0, 0), 0, 0)]
theorem okX0_sentence : kX0_sentence.all (xOk RX0 cX0_sentence) = true := by decide +kernel
def kX0_costsOrNone : List xI := [(0, .aload_n 0, (0, 0, 0, 0), 0, 0), (1, .iload_n 1, (0, 0, 0, 0), 0, 0), (2, .iload_n 2, (0, 0, 0, 0), 0, 0), (3, .invokevirtual 101, (0, 0, 0, 0), 0, 0), (6, .ifCond .eq 12, (0, 0, 0, 0), 0, 0), (9, .aload_n 0, (0, 0, 0, 0), 0, 0), (10, .iload_n 1, (0, 0, 0, 0), 0, 0), (11, .iload_n 2, (0, 0, 0, 0), 0, 0), (12, .invokevirtual 104, (0, 0, 0, 0), 0, 0), (15, .goto 4, (0, 0, 0, 0), 0, 0), (18, .iconst (-1), (0, 0, 0, 0), (-1), 0), (19, .ireturn, (0, 0, 0, 0), 0, 0)]
theorem okX0_costsOrNone : kX0_costsOrNone.all (xOk RX0 cX0_costsOrNone) = true := by decide +kernel
def kX0_otherwise : List xI := [(0, .iconst 0, (0, 0, 0, 0), 0, 0), (1, .istore_n 3, (0, 0, 0, 0), 0, 0), (2, .iload_n 3, (0, 0, 0, 0), 0, 0), (3, .aload_n 1, (0, 0, 0, 0), 0, 0), (4, .getfield 107, (286, 2, 1, 0), 0, 0), (7, .if_icmp .ge 32, (0, 0, 0, 0), 0, 0), (10, .iload_n 3, (0, 0, 0, 0), 0, 0), (11, .bipush 10, (0, 0, 0, 0), 10, 0), (13, .if_icmp .ge 26, (0, 0, 0, 0), 0, 0), (16, .aload_n 1, (0, 0, 0, 0), 0, 0), (17, .getfield 112, (289, 2, 2, 0), 0, 0), (20, .iload_n 3, (0, 0, 0, 0), 0, 0), (21, .iaload, (0, 0, 0, 0), 0, 0), (22, .aload_n 0, (0, 0, 0, 0), 0, 0), (23, .iload_n 2, (0, 0, 0, 0), 0, 0), (24, .iload_n 3, (0, 0, 0, 0), 0, 0), (25, .invokevirtual 115, (0, 0, 0, 0), 0, 0), (28, .if_icmp .eq 5, (0, 0, 0, 0), 0, 0), (31, .iload_n 3, (0, 0, 0, 0), 0, 0), (32, .ireturn, (0, 0, 0, 0), 0, 0), (33, .iinc 3 1, (0, 0, 0, 0), 1, 0), (36, .goto (-34), (0, 0, 0, 0), 0, 0), (39, .iconst (-1), (0, 0, 0, 0), (-1), 0), (40, .ireturn, (0, 0, 0, 0), 0, 0)]
theorem okX0_otherwise : kX0_otherwise.all (xOk RX0 cX0_otherwise) = true := by decide +kernel
def kX0_can : List xI := [(0, .aload_n 0, (0, 0, 0, 0), 0, 0), (1, .getfield 34, (208, 0, 12, 0), 0, 0), (4, .iload_n 1, (0, 0, 0, 0), 0, 0), (5, .iaload, (0, 0, 0, 0), 0, 0), (6, .ifCond .ne 16, (0, 0, 0, 0), 0, 0), (9, .aload_n 0, (0, 0, 0, 0), 0, 0), (10, .iload_n 1, (0, 0, 0, 0), 0, 0), (11, .iload_n 2, (0, 0, 0, 0), 0, 0), (12, .invokevirtual 101, (0, 0, 0, 0), 0, 0), (15, .ifCond .eq 7, (0, 0, 0, 0), 0, 0), (18, .iconst 1, (0, 0, 0, 0), 1, 0), (19, .goto 4, (0, 0, 0, 0), 0, 0), (22, .iconst 0, (0, 0, 0, 0), 0, 0), (23, .ireturn, (0, 0, 0, 0), 0, 0)]
theorem okX0_can : kX0_can.all (xOk RX0 cX0_can) = true := by decide +kernel
def kX0_deedsOf : List xI := [(0, .iconst 0, (0, 0, 0, 0), 0, 0), (1, .istore_n 2, (0, 0, 0, 0), 0, 0), (2, .iconst 0, (0, 0, 0, 0), 0, 0), (3, .istore_n 3, (0, 0, 0, 0), 0, 0), (4, .iload_n 3, (0, 0, 0, 0), 0, 0), (5, .bipush 10, (0, 0, 0, 0), 10, 0), (7, .if_icmp .ge 24, (0, 0, 0, 0), 0, 0), (10, .aload_n 0, (0, 0, 0, 0), 0, 0), (11, .iload_n 1, (0, 0, 0, 0), 0, 0), (12, .iload_n 3, (0, 0, 0, 0), 0, 0), (13, .invokevirtual 118, (0, 0, 0, 0), 0, 0), (16, .ifCond .eq 9, (0, 0, 0, 0), 0, 0), (19, .iload_n 2, (0, 0, 0, 0), 0, 0), (20, .iconst 1, (0, 0, 0, 0), 1, 0), (21, .iload_n 3, (0, 0, 0, 0), 0, 0), (22, .ishl, (0, 0, 0, 0), 0, 0), (23, .ior, (0, 0, 0, 0), 0, 0), (24, .istore_n 2, (0, 0, 0, 0), 0, 0), (25, .iinc 3 1, (0, 0, 0, 0), 1, 0), (28, .goto (-24), (0, 0, 0, 0), 0, 0), (31, .iload_n 2, (0, 0, 0, 0), 0, 0), (32, .ireturn, (0, 0, 0, 0), 0, 0)]
theorem okX0_deedsOf : kX0_deedsOf.all (xOk RX0 cX0_deedsOf) = true := by decide +kernel
def kX0_breakBy : List xI := [(0, .aload_n 0, (0, 0, 0, 0), 0, 0), (1, .dup, (0, 0, 0, 0), 0, 0), (2, .getfield 50, (186, 0, 3, 0), 0, 0), (5, .aload_n 0, (0, 0, 0, 0), 0, 0), (6, .getfield 22, (195, 0, 7, 0), 0, 0), (9, .iload_n 1, (0, 0, 0, 0), 0, 0), (10, .iaload, (0, 0, 0, 0), 0, 0), (11, .aload_n 0, (0, 0, 0, 0), 0, 0), (12, .getfield 15, (182, 0, 2, 0), 0, 0), (15, .iand, (0, 0, 0, 0), 0, 0), (16, .ior, (0, 0, 0, 0), 0, 0), (17, .putfield 50, (186, 0, 3, 0), 0, 0), (20, .return_, (0, 0, 0, 0), 0, 0)]
theorem okX0_breakBy : kX0_breakBy.all (xOk RX0 cX0_breakBy) = true := by decide +kernel
def kX0_commit : List xI := [(0, .aload_n 0, (0, 0, 0, 0), 0, 0), (1, .iload_n 1, (0, 0, 0, 0), 0, 0), (2, .iload_n 2, (0, 0, 0, 0), 0, 0), (3, .invokevirtual 104, (0, 0, 0, 0), 0, 0), (6, .istore_n 3, (0, 0, 0, 0), 0, 0), (7, .aload_n 0, (0, 0, 0, 0), 0, 0), (8, .iload_n 1, (0, 0, 0, 0), 0, 0), (9, .iload_n 2, (0, 0, 0, 0), 0, 0), (10, .invokevirtual 121, (0, 0, 0, 0), 0, 0), (13, .istore 4, (0, 0, 0, 0), 0, 0), (15, .aload_n 0, (0, 0, 0, 0), 0, 0), (16, .iload_n 2, (0, 0, 0, 0), 0, 0), (17, .invokevirtual 124, (0, 0, 0, 0), 0, 0), (20, .aload_n 0, (0, 0, 0, 0), 0, 0), (21, .ldc 128, (586, 0, 0, 0), 99999, 0), (23, .aload_n 0, (0, 0, 0, 0), 0, 0), (24, .getfield 56, (193, 0, 6, 0), 0, 0), (27, .iload_n 3, (0, 0, 0, 0), 0, 0), (28, .iadd, (0, 0, 0, 0), 0, 0), (29, .invokestatic 87, (417, 1, 0, 0), 0, 0), (32, .putfield 56, (193, 0, 6, 0), 0, 0), (35, .aload_n 0, (0, 0, 0, 0), 0, 0), (36, .getfield 34, (208, 0, 12, 0), 0, 0), (39, .iload_n 1, (0, 0, 0, 0), 0, 0), (40, .iload 4, (0, 0, 0, 0), 0, 0), (42, .iastore, (0, 0, 0, 0), 0, 0), (43, .aload_n 0, (0, 0, 0, 0), 0, 0), (44, .getfield 37, (209, 0, 13, 0), 0, 0), (47, .iload_n 1, (0, 0, 0, 0), 0, 0), (48, .bipush 99, (0, 0, 0, 0), 99, 0), (50, .aload_n 0, (0, 0, 0, 0), 0, 0), (51, .getfield 37, (209, 0, 13, 0), 0, 0), (54, .iload_n 1, (0, 0, 0, 0), 0, 0), (55, .iaload, (0, 0, 0, 0), 0, 0), (56, .iconst 1, (0, 0, 0, 0), 1, 0), (57, .iadd, (0, 0, 0, 0), 0, 0), (58, .invokestatic 87, (417, 1, 0, 0), 0, 0), (61, .iastore, (0, 0, 0, 0), 0, 0), (62, .return_, (0, 0, 0, 0), 0, 0)]
theorem okX0_commit : kX0_commit.all (xOk RX0 cX0_commit) = true := by decide +kernel
def kX0_endYear : List xI := [(0, .aload_n 0, (0, 0, 0, 0), 0, 0), (1, .getfield 15, (182, 0, 2, 0), 0, 0), (4, .istore_n 1, (0, 0, 0, 0), 0, 0), (5, .iconst 0, (0, 0, 0, 0), 0, 0), (6, .istore_n 2, (0, 0, 0, 0), 0, 0), (7, .iload_n 2, (0, 0, 0, 0), 0, 0), (8, .bipush 8, (0, 0, 0, 0), 8, 0), (10, .if_icmp .ge 54, (0, 0, 0, 0), 0, 0), (13, .aload_n 0, (0, 0, 0, 0), 0, 0), (14, .getfield 50, (186, 0, 3, 0), 0, 0), (17, .iconst 1, (0, 0, 0, 0), 1, 0), (18, .iload_n 2, (0, 0, 0, 0), 0, 0), (19, .ishl, (0, 0, 0, 0), 0, 0), (20, .iand, (0, 0, 0, 0), 0, 0), (21, .ifCond .eq 15, (0, 0, 0, 0), 0, 0), (24, .aload_n 0, (0, 0, 0, 0), 0, 0), (25, .iload_n 2, (0, 0, 0, 0), 0, 0), (26, .aload_n 0, (0, 0, 0, 0), 0, 0), (27, .getfield 19, (189, 0, 4, 0), 0, 0), (30, .invokevirtual 69, (0, 0, 0, 0), 0, 0), (33, .goto 25, (0, 0, 0, 0), 0, 0), (36, .aload_n 0, (0, 0, 0, 0), 0, 0), (37, .getfield 9, (180, 0, 1, 0), 0, 0), (40, .iload_n 2, (0, 0, 0, 0), 0, 0), (41, .iaload, (0, 0, 0, 0), 0, 0), (42, .ifCond .le 16, (0, 0, 0, 0), 0, 0), (45, .aload_n 0, (0, 0, 0, 0), 0, 0), (46, .iload_n 2, (0, 0, 0, 0), 0, 0), (47, .aload_n 0, (0, 0, 0, 0), 0, 0), (48, .getfield 9, (180, 0, 1, 0), 0, 0), (51, .iload_n 2, (0, 0, 0, 0), 0, 0), (52, .iaload, (0, 0, 0, 0), 0, 0), (53, .iconst 1, (0, 0, 0, 0), 1, 0), (54, .isub, (0, 0, 0, 0), 0, 0), (55, .invokevirtual 69, (0, 0, 0, 0), 0, 0), (58, .iinc 2 1, (0, 0, 0, 0), 1, 0), (61, .goto (-54), (0, 0, 0, 0), 0, 0), (64, .aload_n 0, (0, 0, 0, 0), 0, 0), (65, .iconst 0, (0, 0, 0, 0), 0, 0), (66, .putfield 50, (186, 0, 3, 0), 0, 0), (69, .iconst 0, (0, 0, 0, 0), 0, 0), (70, .istore_n 2, (0, 0, 0, 0), 0, 0), (71, .iload_n 2, (0, 0, 0, 0), 0, 0), (72, .aload_n 0, (0, 0, 0, 0), 0, 0), (73, .getfield 59, (201, 0, 9, 0), 0, 0), (76, .if_icmp .ge 28, (0, 0, 0, 0), 0, 0), (79, .aload_n 0, (0, 0, 0, 0), 0, 0), (80, .getfield 34, (208, 0, 12, 0), 0, 0), (83, .iload_n 2, (0, 0, 0, 0), 0, 0), (84, .iaload, (0, 0, 0, 0), 0, 0), (85, .ifCond .le 13, (0, 0, 0, 0), 0, 0), (88, .aload_n 0, (0, 0, 0, 0), 0, 0), (89, .getfield 34, (208, 0, 12, 0), 0, 0), (92, .iload_n 2, (0, 0, 0, 0), 0, 0), (93, .dup2, (0, 0, 0, 0), 0, 0), (94, .iaload, (0, 0, 0, 0), 0, 0), (95, .iconst 1, (0, 0, 0, 0), 1, 0), (96, .isub, (0, 0, 0, 0), 0, 0), (97, .iastore, (0, 0, 0, 0), 0, 0), (98, .iinc 2 1, (0, 0, 0, 0), 1, 0), (101, .goto (-30), (0, 0, 0, 0), 0, 0), (104, .aload_n 0, (0, 0, 0, 0), 0, 0), (105, .dup, (0, 0, 0, 0), 0, 0), (106, .getfield 53, (190, 0, 5, 0), 0, 0), (109, .iconst 1, (0, 0, 0, 0), 1, 0), (110, .iadd, (0, 0, 0, 0), 0, 0), (111, .putfield 53, (190, 0, 5, 0), 0, 0), (114, .iload_n 1, (0, 0, 0, 0), 0, 0), (115, .aload_n 0, (0, 0, 0, 0), 0, 0), (116, .getfield 15, (182, 0, 2, 0), 0, 0), (119, .iconst (-1), (0, 0, 0, 0), (-1), 0), (120, .ixor, (0, 0, 0, 0), 0, 0), (121, .iand, (0, 0, 0, 0), 0, 0), (122, .ireturn, (0, 0, 0, 0), 0, 0)]
theorem okX0_endYear : kX0_endYear.all (xOk RX0 cX0_endYear) = true := by decide +kernel
def kX0_passYears : List xI := [(0, .iconst 0, (0, 0, 0, 0), 0, 0), (1, .istore_n 2, (0, 0, 0, 0), 0, 0), (2, .iconst 0, (0, 0, 0, 0), 0, 0), (3, .istore_n 3, (0, 0, 0, 0), 0, 0), (4, .iload_n 3, (0, 0, 0, 0), 0, 0), (5, .iload_n 1, (0, 0, 0, 0), 0, 0), (6, .if_icmp .ge 57, (0, 0, 0, 0), 0, 0), (9, .iconst 0, (0, 0, 0, 0), 0, 0), (10, .istore 4, (0, 0, 0, 0), 0, 0), (12, .iload 4, (0, 0, 0, 0), 0, 0), (14, .aload_n 0, (0, 0, 0, 0), 0, 0), (15, .getfield 59, (201, 0, 9, 0), 0, 0), (18, .if_icmp .ge 34, (0, 0, 0, 0), 0, 0), (21, .aload_n 0, (0, 0, 0, 0), 0, 0), (22, .iload 4, (0, 0, 0, 0), 0, 0), (24, .invokevirtual 129, (0, 0, 0, 0), 0, 0), (27, .istore 5, (0, 0, 0, 0), 0, 0), (29, .iload 5, (0, 0, 0, 0), 0, 0), (31, .iconst (-1), (0, 0, 0, 0), (-1), 0), (32, .if_icmp .eq 14, (0, 0, 0, 0), 0, 0), (35, .aload_n 0, (0, 0, 0, 0), 0, 0), (36, .iload 4, (0, 0, 0, 0), 0, 0), (38, .iload 5, (0, 0, 0, 0), 0, 0), (40, .invokevirtual 132, (0, 0, 0, 0), 0, 0), (43, .iinc 2 1, (0, 0, 0, 0), 1, 0), (46, .iinc 4 1, (0, 0, 0, 0), 1, 0), (49, .goto (-37), (0, 0, 0, 0), 0, 0), (52, .aload_n 0, (0, 0, 0, 0), 0, 0), (53, .invokevirtual 135, (0, 0, 0, 0), 0, 0), (56, .pop, (0, 0, 0, 0), 0, 0), (57, .iinc 3 1, (0, 0, 0, 0), 1, 0), (60, .goto (-56), (0, 0, 0, 0), 0, 0), (63, .iload_n 2, (0, 0, 0, 0), 0, 0), (64, .ireturn, (0, 0, 0, 0), 0, 0)]
theorem okX0_passYears : kX0_passYears.all (xOk RX0 cX0_passYears) = true := by decide +kernel
def kX0_firstOfUse : List xI := [(0, .aload_n 0, (0, 0, 0, 0), 0, 0), (1, .getfield 34, (208, 0, 12, 0), 0, 0), (4, .iload_n 1, (0, 0, 0, 0), 0, 0), (5, .iaload, (0, 0, 0, 0), 0, 0), (6, .ifCond .le 5, (0, 0, 0, 0), 0, 0), (9, .iconst (-1), (0, 0, 0, 0), (-1), 0), (10, .ireturn, (0, 0, 0, 0), 0, 0), (11, .iconst 0, (0, 0, 0, 0), 0, 0), (12, .istore_n 2, (0, 0, 0, 0), 0, 0), (13, .iload_n 2, (0, 0, 0, 0), 0, 0), (14, .bipush 10, (0, 0, 0, 0), 10, 0), (16, .if_icmp .ge 41, (0, 0, 0, 0), 0, 0), (19, .aload_n 0, (0, 0, 0, 0), 0, 0), (20, .getfield 22, (195, 0, 7, 0), 0, 0), (23, .iload_n 2, (0, 0, 0, 0), 0, 0), (24, .iaload, (0, 0, 0, 0), 0, 0), (25, .aload_n 0, (0, 0, 0, 0), 0, 0), (26, .getfield 15, (182, 0, 2, 0), 0, 0), (29, .iand, (0, 0, 0, 0), 0, 0), (30, .aload_n 0, (0, 0, 0, 0), 0, 0), (31, .getfield 50, (186, 0, 3, 0), 0, 0), (34, .iconst (-1), (0, 0, 0, 0), (-1), 0), (35, .ixor, (0, 0, 0, 0), 0, 0), (36, .iand, (0, 0, 0, 0), 0, 0), (37, .ifCond .eq 14, (0, 0, 0, 0), 0, 0), (40, .aload_n 0, (0, 0, 0, 0), 0, 0), (41, .iload_n 1, (0, 0, 0, 0), 0, 0), (42, .iload_n 2, (0, 0, 0, 0), 0, 0), (43, .invokevirtual 101, (0, 0, 0, 0), 0, 0), (46, .ifCond .eq 5, (0, 0, 0, 0), 0, 0), (49, .iload_n 2, (0, 0, 0, 0), 0, 0), (50, .ireturn, (0, 0, 0, 0), 0, 0), (51, .iinc 2 1, (0, 0, 0, 0), 1, 0), (54, .goto (-41), (0, 0, 0, 0), 0, 0), (57, .iconst (-1), (0, 0, 0, 0), (-1), 0), (58, .ireturn, (0, 0, 0, 0), 0, 0)]
theorem okX0_firstOfUse : kX0_firstOfUse.all (xOk RX0 cX0_firstOfUse) = true := by decide +kernel
def kX0_drawYears : List xI := [(0, .iload_n 1, (0, 0, 0, 0), 0, 0), (1, .istore_n 3, (0, 0, 0, 0), 0, 0), (2, .iconst 0, (0, 0, 0, 0), 0, 0), (3, .istore 4, (0, 0, 0, 0), 0, 0), (5, .iload 4, (0, 0, 0, 0), 0, 0), (7, .iload_n 2, (0, 0, 0, 0), 0, 0), (8, .if_icmp .ge 70, (0, 0, 0, 0), 0, 0), (11, .iload_n 3, (0, 0, 0, 0), 0, 0), (12, .invokestatic 139, (0, 3, 0, 0), 0, 0), (15, .istore_n 3, (0, 0, 0, 0), 0, 0), (16, .iload_n 3, (0, 0, 0, 0), 0, 0), (17, .bipush 9, (0, 0, 0, 0), 9, 0), (19, .iushr, (0, 0, 0, 0), 0, 0), (20, .bipush 8, (0, 0, 0, 0), 8, 0), (22, .irem, (0, 0, 0, 0), 0, 0), (23, .istore 5, (0, 0, 0, 0), 0, 0), (25, .iload_n 3, (0, 0, 0, 0), 0, 0), (26, .invokestatic 139, (0, 3, 0, 0), 0, 0), (29, .istore_n 3, (0, 0, 0, 0), 0, 0), (30, .iload_n 3, (0, 0, 0, 0), 0, 0), (31, .bipush 9, (0, 0, 0, 0), 9, 0), (33, .iushr, (0, 0, 0, 0), 0, 0), (34, .bipush 10, (0, 0, 0, 0), 10, 0), (36, .irem, (0, 0, 0, 0), 0, 0), (37, .istore 6, (0, 0, 0, 0), 0, 0), (39, .iload 5, (0, 0, 0, 0), 0, 0), (41, .aload_n 0, (0, 0, 0, 0), 0, 0), (42, .getfield 59, (201, 0, 9, 0), 0, 0), (45, .if_icmp .ge 22, (0, 0, 0, 0), 0, 0), (48, .aload_n 0, (0, 0, 0, 0), 0, 0), (49, .iload 5, (0, 0, 0, 0), 0, 0), (51, .iload 6, (0, 0, 0, 0), 0, 0), (53, .invokevirtual 118, (0, 0, 0, 0), 0, 0), (56, .ifCond .eq 11, (0, 0, 0, 0), 0, 0), (59, .aload_n 0, (0, 0, 0, 0), 0, 0), (60, .iload 5, (0, 0, 0, 0), 0, 0), (62, .iload 6, (0, 0, 0, 0), 0, 0), (64, .invokevirtual 132, (0, 0, 0, 0), 0, 0), (67, .aload_n 0, (0, 0, 0, 0), 0, 0), (68, .invokevirtual 135, (0, 0, 0, 0), 0, 0), (71, .pop, (0, 0, 0, 0), 0, 0), (72, .iinc 4 1, (0, 0, 0, 0), 1, 0), (75, .goto (-70), (0, 0, 0, 0), 0, 0), (78, .return_, (0, 0, 0, 0), 0, 0)]
theorem okX0_drawYears : kX0_drawYears.all (xOk RX0 cX0_drawYears) = true := by decide +kernel
def kX0_next : List xI := [(0, .iload_n 0, (0, 0, 0, 0), 0, 0), (1, .ldc 142, (750, 0, 0, 0), 1103515245, 0), (3, .imul, (0, 0, 0, 0), 0, 0), (4, .sipush 12345, (0, 0, 0, 0), 12345, 0), (7, .iadd, (0, 0, 0, 0), 0, 0), (8, .ireturn, (0, 0, 0, 0), 0, 0)]
theorem okX0_next : kX0_next.all (xOk RX0 cX0_next) = true := by decide +kernel
def kX0_harmOf : List xI := [(0, .iconst 0, (0, 0, 0, 0), 0, 0), (1, .istore_n 2, (0, 0, 0, 0), 0, 0), (2, .iconst 0, (0, 0, 0, 0), 0, 0), (3, .istore_n 3, (0, 0, 0, 0), 0, 0), (4, .iload_n 3, (0, 0, 0, 0), 0, 0), (5, .bipush 10, (0, 0, 0, 0), 10, 0), (7, .if_icmp .ge 26, (0, 0, 0, 0), 0, 0), (10, .iload_n 1, (0, 0, 0, 0), 0, 0), (11, .iconst 1, (0, 0, 0, 0), 1, 0), (12, .iload_n 3, (0, 0, 0, 0), 0, 0), (13, .ishl, (0, 0, 0, 0), 0, 0), (14, .iand, (0, 0, 0, 0), 0, 0), (15, .ifCond .eq 12, (0, 0, 0, 0), 0, 0), (18, .iload_n 2, (0, 0, 0, 0), 0, 0), (19, .aload_n 0, (0, 0, 0, 0), 0, 0), (20, .getfield 25, (198, 0, 8, 0), 0, 0), (23, .iload_n 3, (0, 0, 0, 0), 0, 0), (24, .iaload, (0, 0, 0, 0), 0, 0), (25, .iadd, (0, 0, 0, 0), 0, 0), (26, .istore_n 2, (0, 0, 0, 0), 0, 0), (27, .iinc 3 1, (0, 0, 0, 0), 1, 0), (30, .goto (-26), (0, 0, 0, 0), 0, 0), (33, .iload_n 2, (0, 0, 0, 0), 0, 0), (34, .ireturn, (0, 0, 0, 0), 0, 0)]
theorem okX0_harmOf : kX0_harmOf.all (xOk RX0 cX0_harmOf) = true := by decide +kernel
def kX0_brokenBy : List xI := [(0, .iconst 0, (0, 0, 0, 0), 0, 0), (1, .istore_n 2, (0, 0, 0, 0), 0, 0), (2, .iconst 0, (0, 0, 0, 0), 0, 0), (3, .istore_n 3, (0, 0, 0, 0), 0, 0), (4, .iload_n 3, (0, 0, 0, 0), 0, 0), (5, .bipush 10, (0, 0, 0, 0), 10, 0), (7, .if_icmp .ge 26, (0, 0, 0, 0), 0, 0), (10, .iload_n 1, (0, 0, 0, 0), 0, 0), (11, .iconst 1, (0, 0, 0, 0), 1, 0), (12, .iload_n 3, (0, 0, 0, 0), 0, 0), (13, .ishl, (0, 0, 0, 0), 0, 0), (14, .iand, (0, 0, 0, 0), 0, 0), (15, .ifCond .eq 12, (0, 0, 0, 0), 0, 0), (18, .iload_n 2, (0, 0, 0, 0), 0, 0), (19, .aload_n 0, (0, 0, 0, 0), 0, 0), (20, .getfield 22, (195, 0, 7, 0), 0, 0), (23, .iload_n 3, (0, 0, 0, 0), 0, 0), (24, .iaload, (0, 0, 0, 0), 0, 0), (25, .ior, (0, 0, 0, 0), 0, 0), (26, .istore_n 2, (0, 0, 0, 0), 0, 0), (27, .iinc 3 1, (0, 0, 0, 0), 1, 0), (30, .goto (-26), (0, 0, 0, 0), 0, 0), (33, .iload_n 2, (0, 0, 0, 0), 0, 0), (34, .ireturn, (0, 0, 0, 0), 0, 0)]
theorem okX0_brokenBy : kX0_brokenBy.all (xOk RX0 cX0_brokenBy) = true := by decide +kernel
def kX0_leastCover : List xI := [(0, .iconst (-1), (0, 0, 0, 0), (-1), 0), (1, .istore_n 3, (0, 0, 0, 0), 0, 0), (2, .iconst 0, (0, 0, 0, 0), 0, 0), (3, .istore 4, (0, 0, 0, 0), 0, 0), (5, .iconst 0, (0, 0, 0, 0), 0, 0), (6, .istore 5, (0, 0, 0, 0), 0, 0), (8, .iload 5, (0, 0, 0, 0), 0, 0), (10, .sipush 1024, (0, 0, 0, 0), 1024, 0), (13, .if_icmp .ge 86, (0, 0, 0, 0), 0, 0), (16, .iload_n 1, (0, 0, 0, 0), 0, 0), (17, .aload_n 0, (0, 0, 0, 0), 0, 0), (18, .iload 5, (0, 0, 0, 0), 0, 0), (20, .invokevirtual 143, (0, 0, 0, 0), 0, 0), (23, .iconst (-1), (0, 0, 0, 0), (-1), 0), (24, .ixor, (0, 0, 0, 0), 0, 0), (25, .iand, (0, 0, 0, 0), 0, 0), (26, .ifCond .eq 6, (0, 0, 0, 0), 0, 0), (29, .goto 64, (0, 0, 0, 0), 0, 0), (32, .iload 5, (0, 0, 0, 0), 0, 0), (34, .invokestatic 96, (0, 3, 0, 0), 0, 0), (37, .istore 6, (0, 0, 0, 0), 0, 0), (39, .iload_n 2, (0, 0, 0, 0), 0, 0), (40, .ifCond .eq 19, (0, 0, 0, 0), 0, 0), (43, .aload_n 0, (0, 0, 0, 0), 0, 0), (44, .iload 5, (0, 0, 0, 0), 0, 0), (46, .invokevirtual 146, (0, 0, 0, 0), 0, 0), (49, .sipush 1000, (0, 0, 0, 0), 1000, 0), (52, .imul, (0, 0, 0, 0), 0, 0), (53, .iload 6, (0, 0, 0, 0), 0, 0), (55, .iadd, (0, 0, 0, 0), 0, 0), (56, .goto 16, (0, 0, 0, 0), 0, 0), (59, .iload 6, (0, 0, 0, 0), 0, 0), (61, .sipush 1000, (0, 0, 0, 0), 1000, 0), (64, .imul, (0, 0, 0, 0), 0, 0), (65, .aload_n 0, (0, 0, 0, 0), 0, 0), (66, .iload 5, (0, 0, 0, 0), 0, 0), (68, .invokevirtual 146, (0, 0, 0, 0), 0, 0), (71, .iadd, (0, 0, 0, 0), 0, 0), (72, .istore 7, (0, 0, 0, 0), 0, 0), (74, .iload_n 3, (0, 0, 0, 0), 0, 0), (75, .iconst (-1), (0, 0, 0, 0), (-1), 0), (76, .if_icmp .eq 10, (0, 0, 0, 0), 0, 0), (79, .iload 7, (0, 0, 0, 0), 0, 0), (81, .iload 4, (0, 0, 0, 0), 0, 0), (83, .if_icmp .ge 10, (0, 0, 0, 0), 0, 0), (86, .iload 5, (0, 0, 0, 0), 0, 0), (88, .istore_n 3, (0, 0, 0, 0), 0, 0), (89, .iload 7, (0, 0, 0, 0), 0, 0), (91, .istore 4, (0, 0, 0, 0), 0, 0), (93, .iinc 5 1, (0, 0, 0, 0), 1, 0), (96, .goto (-88), (0, 0, 0, 0), 0, 0), (99, .iload_n 3, (0, 0, 0, 0), 0, 0), (100, .ireturn, (0, 0, 0, 0), 0, 0)]
theorem okX0_leastCover : kX0_leastCover.all (xOk RX0 cX0_leastCover) = true := by decide +kernel
def kX0_leastHarm : List xI := [(0, .sipush 1000, (0, 0, 0, 0), 1000, 0), (3, .istore_n 2, (0, 0, 0, 0), 0, 0), (4, .iconst 0, (0, 0, 0, 0), 0, 0), (5, .istore_n 3, (0, 0, 0, 0), 0, 0), (6, .iload_n 3, (0, 0, 0, 0), 0, 0), (7, .bipush 10, (0, 0, 0, 0), 10, 0), (9, .if_icmp .ge 33, (0, 0, 0, 0), 0, 0), (12, .aload_n 0, (0, 0, 0, 0), 0, 0), (13, .getfield 22, (195, 0, 7, 0), 0, 0), (16, .iload_n 3, (0, 0, 0, 0), 0, 0), (17, .iaload, (0, 0, 0, 0), 0, 0), (18, .iconst 1, (0, 0, 0, 0), 1, 0), (19, .iload_n 1, (0, 0, 0, 0), 0, 0), (20, .ishl, (0, 0, 0, 0), 0, 0), (21, .iand, (0, 0, 0, 0), 0, 0), (22, .ifCond .eq 14, (0, 0, 0, 0), 0, 0), (25, .iload_n 2, (0, 0, 0, 0), 0, 0), (26, .aload_n 0, (0, 0, 0, 0), 0, 0), (27, .getfield 25, (198, 0, 8, 0), 0, 0), (30, .iload_n 3, (0, 0, 0, 0), 0, 0), (31, .iaload, (0, 0, 0, 0), 0, 0), (32, .invokestatic 87, (417, 1, 0, 0), 0, 0), (35, .istore_n 2, (0, 0, 0, 0), 0, 0), (36, .iinc 3 1, (0, 0, 0, 0), 1, 0), (39, .goto (-33), (0, 0, 0, 0), 0, 0), (42, .iload_n 2, (0, 0, 0, 0), 0, 0), (43, .ireturn, (0, 0, 0, 0), 0, 0)]
theorem okX0_leastHarm : kX0_leastHarm.all (xOk RX0 cX0_leastHarm) = true := by decide +kernel
def kX1_seek : List xI := [(0, .aload_n 0, (0, 0, 0, 0), 0, 0), (1, .aload_n 1, (0, 0, 0, 0), 0, 0), (2, .getfield 21, (200, 0, 9, 0), 0, 0), (5, .putfield 27, (254, 1, 3, 0), 0, 0), (8, .iconst 0, (0, 0, 0, 0), 0, 0), (9, .istore_n 2, (0, 0, 0, 0), 0, 0), (10, .iload_n 2, (0, 0, 0, 0), 0, 0), (11, .bipush 10, (0, 0, 0, 0), 10, 0), (13, .if_icmp .ge 26, (0, 0, 0, 0), 0, 0), (16, .aload_n 0, (0, 0, 0, 0), 0, 0), (17, .getfield 15, (252, 1, 1, 0), 0, 0), (20, .iload_n 2, (0, 0, 0, 0), 0, 0), (21, .aload_n 1, (0, 0, 0, 0), 0, 0), (22, .getfield 28, (196, 0, 7, 0), 0, 0), (25, .iload_n 2, (0, 0, 0, 0), 0, 0), (26, .iaload, (0, 0, 0, 0), 0, 0), (27, .aload_n 1, (0, 0, 0, 0), 0, 0), (28, .getfield 29, (183, 0, 2, 0), 0, 0), (31, .iand, (0, 0, 0, 0), 0, 0), (32, .iastore, (0, 0, 0, 0), 0, 0), (33, .iinc 2 1, (0, 0, 0, 0), 1, 0), (36, .goto (-26), (0, 0, 0, 0), 0, 0), (39, .iconst 0, (0, 0, 0, 0), 0, 0), (40, .istore_n 2, (0, 0, 0, 0), 0, 0), (41, .iload_n 2, (0, 0, 0, 0), 0, 0), (42, .aload_n 0, (0, 0, 0, 0), 0, 0), (43, .getfield 27, (254, 1, 3, 0), 0, 0), (46, .if_icmp .ge 51, (0, 0, 0, 0), 0, 0), (49, .aload_n 0, (0, 0, 0, 0), 0, 0), (50, .getfield 9, (251, 1, 0, 0), 0, 0), (53, .iload_n 2, (0, 0, 0, 0), 0, 0), (54, .aload_n 1, (0, 0, 0, 0), 0, 0), (55, .iload_n 2, (0, 0, 0, 0), 0, 0), (56, .invokevirtual 32, (0, 0, 0, 0), 0, 0), (59, .iastore, (0, 0, 0, 0), 0, 0), (60, .iconst 0, (0, 0, 0, 0), 0, 0), (61, .istore_n 3, (0, 0, 0, 0), 0, 0), (62, .iload_n 3, (0, 0, 0, 0), 0, 0), (63, .bipush 10, (0, 0, 0, 0), 10, 0), (65, .if_icmp .ge 26, (0, 0, 0, 0), 0, 0), (68, .aload_n 0, (0, 0, 0, 0), 0, 0), (69, .getfield 18, (253, 1, 2, 0), 0, 0), (72, .iload_n 2, (0, 0, 0, 0), 0, 0), (73, .bipush 10, (0, 0, 0, 0), 10, 0), (75, .imul, (0, 0, 0, 0), 0, 0), (76, .iload_n 3, (0, 0, 0, 0), 0, 0), (77, .iadd, (0, 0, 0, 0), 0, 0), (78, .aload_n 1, (0, 0, 0, 0), 0, 0), (79, .iload_n 2, (0, 0, 0, 0), 0, 0), (80, .iload_n 3, (0, 0, 0, 0), 0, 0), (81, .invokevirtual 36, (0, 0, 0, 0), 0, 0), (84, .iastore, (0, 0, 0, 0), 0, 0), (85, .iinc 3 1, (0, 0, 0, 0), 1, 0), (88, .goto (-26), (0, 0, 0, 0), 0, 0), (91, .iinc 2 1, (0, 0, 0, 0), 1, 0), (94, .goto (-53), (0, 0, 0, 0), 0, 0), (97, .aload_n 0, (0, 0, 0, 0), 0, 0), (98, .iconst (-1), (0, 0, 0, 0), (-1), 0), (99, .putfield 40, (257, 1, 5, 0), 0, 0), (102, .aload_n 0, (0, 0, 0, 0), 0, 0), (103, .iconst 0, (0, 0, 0, 0), 0, 0), (104, .iconst 0, (0, 0, 0, 0), 0, 0), (105, .iconst 0, (0, 0, 0, 0), 0, 0), (106, .aload_n 1, (0, 0, 0, 0), 0, 0), (107, .getfield 43, (187, 0, 3, 0), 0, 0), (110, .iconst 0, (0, 0, 0, 0), 0, 0), (111, .invokestatic 46, (0, 3, 0, 0), 0, 0), (114, .return_, (0, 0, 0, 0), 0, 0)]
theorem okX1_seek : kX1_seek.all (xOk RX1 cX1_seek) = true := by decide +kernel
def kX1_place : List xI := [(0, .iload_n 1, (0, 0, 0, 0), 0, 0), (1, .aload_n 0, (0, 0, 0, 0), 0, 0), (2, .getfield 27, (254, 1, 3, 0), 0, 0), (5, .if_icmp .ge 8, (0, 0, 0, 0), 0, 0), (8, .iload_n 1, (0, 0, 0, 0), 0, 0), (9, .iconst 4, (0, 0, 0, 0), 4, 0), (10, .if_icmp .lt 16, (0, 0, 0, 0), 0, 0), (13, .aload_n 0, (0, 0, 0, 0), 0, 0), (14, .iload_n 2, (0, 0, 0, 0), 0, 0), (15, .iload 4, (0, 0, 0, 0), 0, 0), (17, .invokestatic 50, (0, 3, 0, 0), 0, 0), (20, .iload 5, (0, 0, 0, 0), 0, 0), (22, .invokevirtual 55, (0, 0, 0, 0), 0, 0), (25, .return_, (0, 0, 0, 0), 0, 0), (26, .iload_n 2, (0, 0, 0, 0), 0, 0), (27, .bipush 11, (0, 0, 0, 0), 11, 0), (29, .imul, (0, 0, 0, 0), 0, 0), (30, .istore 6, (0, 0, 0, 0), 0, 0), (32, .aload_n 0, (0, 0, 0, 0), 0, 0), (33, .iload_n 1, (0, 0, 0, 0), 0, 0), (34, .iconst 1, (0, 0, 0, 0), 1, 0), (35, .iadd, (0, 0, 0, 0), 0, 0), (36, .iload 6, (0, 0, 0, 0), 0, 0), (38, .iload_n 3, (0, 0, 0, 0), 0, 0), (39, .iload 4, (0, 0, 0, 0), 0, 0), (41, .iload 5, (0, 0, 0, 0), 0, 0), (43, .invokestatic 46, (0, 3, 0, 0), 0, 0), (46, .aload_n 0, (0, 0, 0, 0), 0, 0), (47, .getfield 9, (251, 1, 0, 0), 0, 0), (50, .iload_n 1, (0, 0, 0, 0), 0, 0), (51, .iaload, (0, 0, 0, 0), 0, 0), (52, .iload_n 3, (0, 0, 0, 0), 0, 0), (53, .iconst (-1), (0, 0, 0, 0), (-1), 0), (54, .ixor, (0, 0, 0, 0), 0, 0), (55, .iand, (0, 0, 0, 0), 0, 0), (56, .istore 7, (0, 0, 0, 0), 0, 0), (58, .iconst 0, (0, 0, 0, 0), 0, 0), (59, .istore 8, (0, 0, 0, 0), 0, 0), (61, .iload 8, (0, 0, 0, 0), 0, 0), (63, .bipush 10, (0, 0, 0, 0), 10, 0), (65, .if_icmp .ge 71, (0, 0, 0, 0), 0, 0), (68, .iload 7, (0, 0, 0, 0), 0, 0), (70, .iconst 1, (0, 0, 0, 0), 1, 0), (71, .iload 8, (0, 0, 0, 0), 0, 0), (73, .ishl, (0, 0, 0, 0), 0, 0), (74, .iand, (0, 0, 0, 0), 0, 0), (75, .ifCond .ne 6, (0, 0, 0, 0), 0, 0), (78, .goto 52, (0, 0, 0, 0), 0, 0), (81, .iload 5, (0, 0, 0, 0), 0, 0), (83, .aload_n 0, (0, 0, 0, 0), 0, 0), (84, .getfield 18, (253, 1, 2, 0), 0, 0), (87, .iload_n 1, (0, 0, 0, 0), 0, 0), (88, .bipush 10, (0, 0, 0, 0), 10, 0), (90, .imul, (0, 0, 0, 0), 0, 0), (91, .iload 8, (0, 0, 0, 0), 0, 0), (93, .iadd, (0, 0, 0, 0), 0, 0), (94, .iaload, (0, 0, 0, 0), 0, 0), (95, .iadd, (0, 0, 0, 0), 0, 0), (96, .istore 9, (0, 0, 0, 0), 0, 0), (98, .aload_n 0, (0, 0, 0, 0), 0, 0), (99, .iload_n 1, (0, 0, 0, 0), 0, 0), (100, .iconst 1, (0, 0, 0, 0), 1, 0), (101, .iadd, (0, 0, 0, 0), 0, 0), (102, .iload 6, (0, 0, 0, 0), 0, 0), (104, .iload 8, (0, 0, 0, 0), 0, 0), (106, .iadd, (0, 0, 0, 0), 0, 0), (107, .iconst 1, (0, 0, 0, 0), 1, 0), (108, .iadd, (0, 0, 0, 0), 0, 0), (109, .iload_n 3, (0, 0, 0, 0), 0, 0), (110, .iconst 1, (0, 0, 0, 0), 1, 0), (111, .iload 8, (0, 0, 0, 0), 0, 0), (113, .ishl, (0, 0, 0, 0), 0, 0), (114, .ior, (0, 0, 0, 0), 0, 0), (115, .iload 4, (0, 0, 0, 0), 0, 0), (117, .aload_n 0, (0, 0, 0, 0), 0, 0), (118, .getfield 15, (252, 1, 1, 0), 0, 0), (121, .iload 8, (0, 0, 0, 0), 0, 0), (123, .iaload, (0, 0, 0, 0), 0, 0), (124, .ior, (0, 0, 0, 0), 0, 0), (125, .iload 9, (0, 0, 0, 0), 0, 0), (127, .invokestatic 46, (0, 3, 0, 0), 0, 0), (130, .iinc 8 1, (0, 0, 0, 0), 1, 0), (133, .goto (-72), (0, 0, 0, 0), 0, 0), (136, .return_, (0, 0, 0, 0), 0, 0)]
theorem okX1_place : kX1_place.all (xOk RX1 cX1_place) = true := by decide +kernel
def kX1_weigh : List xI := [(0, .iload_n 2, (0, 0, 0, 0), 0, 0), (1, .aload_n 0, (0, 0, 0, 0), 0, 0), (2, .getfield 40, (257, 1, 5, 0), 0, 0), (5, .if_icmp .lt 19, (0, 0, 0, 0), 0, 0), (8, .iload_n 2, (0, 0, 0, 0), 0, 0), (9, .aload_n 0, (0, 0, 0, 0), 0, 0), (10, .getfield 40, (257, 1, 5, 0), 0, 0), (13, .if_icmp .ne 12, (0, 0, 0, 0), 0, 0), (16, .iload_n 3, (0, 0, 0, 0), 0, 0), (17, .aload_n 0, (0, 0, 0, 0), 0, 0), (18, .getfield 59, (259, 1, 6, 0), 0, 0), (21, .if_icmp .lt 4, (0, 0, 0, 0), 0, 0), (24, .return_, (0, 0, 0, 0), 0, 0), (25, .aload_n 0, (0, 0, 0, 0), 0, 0), (26, .iload_n 1, (0, 0, 0, 0), 0, 0), (27, .putfield 61, (255, 1, 4, 0), 0, 0), (30, .aload_n 0, (0, 0, 0, 0), 0, 0), (31, .iload_n 2, (0, 0, 0, 0), 0, 0), (32, .putfield 40, (257, 1, 5, 0), 0, 0), (35, .aload_n 0, (0, 0, 0, 0), 0, 0), (36, .iload_n 3, (0, 0, 0, 0), 0, 0), (37, .putfield 59, (259, 1, 6, 0), 0, 0), (40, .return_, (0, 0, 0, 0), 0, 0)]
theorem okX1_weigh : kX1_weigh.all (xOk RX1 cX1_weigh) = true := by decide +kernel
def kX2_become : List xI := [(0, .aload_n 0, (0, 0, 0, 0), 0, 0), (1, .iload_n 1, (0, 0, 0, 0), 0, 0), (2, .putfield 9, (283, 2, 0, 0), 0, 0), (5, .aload_n 0, (0, 0, 0, 0), 0, 0), (6, .iconst 0, (0, 0, 0, 0), 0, 0), (7, .bipush 40, (0, 0, 0, 0), 40, 0), (9, .iload_n 2, (0, 0, 0, 0), 0, 0), (10, .invokestatic 19, (724, 1, 0, 0), 0, 0), (13, .invokestatic 25, (725, 0, 0, 0), 0, 0), (16, .putfield 28, (285, 2, 1, 0), 0, 0), (19, .iconst 0, (0, 0, 0, 0), 0, 0), (20, .istore_n 3, (0, 0, 0, 0), 0, 0), (21, .iload_n 3, (0, 0, 0, 0), 0, 0), (22, .bipush 40, (0, 0, 0, 0), 40, 0), (24, .if_icmp .ge 16, (0, 0, 0, 0), 0, 0), (27, .aload_n 0, (0, 0, 0, 0), 0, 0), (28, .getfield 15, (288, 2, 2, 0), 0, 0), (31, .iload_n 3, (0, 0, 0, 0), 0, 0), (32, .iconst 0, (0, 0, 0, 0), 0, 0), (33, .iastore, (0, 0, 0, 0), 0, 0), (34, .iinc 3 1, (0, 0, 0, 0), 1, 0), (37, .goto (-16), (0, 0, 0, 0), 0, 0), (40, .return_, (0, 0, 0, 0), 0, 0)]
theorem okX2_become : kX2_become.all (xOk RX2 cX2_become) = true := by decide +kernel
def kX2_has : List xI := [(0, .iload_n 1, (0, 0, 0, 0), 0, 0), (1, .ifCond .lt 29, (0, 0, 0, 0), 0, 0), (4, .iload_n 2, (0, 0, 0, 0), 0, 0), (5, .ifCond .lt 25, (0, 0, 0, 0), 0, 0), (8, .iload_n 1, (0, 0, 0, 0), 0, 0), (9, .aload_n 0, (0, 0, 0, 0), 0, 0), (10, .getfield 28, (285, 2, 1, 0), 0, 0), (13, .if_icmp .gt 17, (0, 0, 0, 0), 0, 0), (16, .iload_n 2, (0, 0, 0, 0), 0, 0), (17, .aload_n 0, (0, 0, 0, 0), 0, 0), (18, .getfield 28, (285, 2, 1, 0), 0, 0), (21, .iload_n 1, (0, 0, 0, 0), 0, 0), (22, .isub, (0, 0, 0, 0), 0, 0), (23, .if_icmp .gt 7, (0, 0, 0, 0), 0, 0), (26, .iconst 1, (0, 0, 0, 0), 1, 0), (27, .goto 4, (0, 0, 0, 0), 0, 0), (30, .iconst 0, (0, 0, 0, 0), 0, 0), (31, .ireturn, (0, 0, 0, 0), 0, 0)]
theorem okX2_has : kX2_has.all (xOk RX2 cX2_has) = true := by decide +kernel
def kX2_put : List xI := [(0, .aload_n 0, (0, 0, 0, 0), 0, 0), (1, .iload_n 1, (0, 0, 0, 0), 0, 0), (2, .iconst 1, (0, 0, 0, 0), 1, 0), (3, .invokevirtual 31, (0, 0, 0, 0), 0, 0), (6, .ifCond .ne 4, (0, 0, 0, 0), 0, 0), (9, .return_, (0, 0, 0, 0), 0, 0), (10, .aload_n 0, (0, 0, 0, 0), 0, 0), (11, .getfield 15, (288, 2, 2, 0), 0, 0), (14, .iload_n 1, (0, 0, 0, 0), 0, 0), (15, .aload_n 0, (0, 0, 0, 0), 0, 0), (16, .getfield 9, (283, 2, 0, 0), 0, 0), (19, .ifCond .ne 8, (0, 0, 0, 0), 0, 0), (22, .iload_n 2, (0, 0, 0, 0), 0, 0), (23, .i2b, (0, 0, 0, 0), 0, 0), (24, .goto 17, (0, 0, 0, 0), 0, 0), (27, .aload_n 0, (0, 0, 0, 0), 0, 0), (28, .getfield 9, (283, 2, 0, 0), 0, 0), (31, .iconst 1, (0, 0, 0, 0), 1, 0), (32, .if_icmp .ne 8, (0, 0, 0, 0), 0, 0), (35, .iload_n 2, (0, 0, 0, 0), 0, 0), (36, .i2s, (0, 0, 0, 0), 0, 0), (37, .goto 4, (0, 0, 0, 0), 0, 0), (40, .iload_n 2, (0, 0, 0, 0), 0, 0), (41, .iastore, (0, 0, 0, 0), 0, 0), (42, .return_, (0, 0, 0, 0), 0, 0)]
theorem okX2_put : kX2_put.all (xOk RX2 cX2_put) = true := by decide +kernel
def kX3_add : List xI := [(0, .aload_n 0, (0, 0, 0, 0), 0, 0), (1, .getfield 15, (150, 3, 1, 0), 0, 0), (4, .sipush 160, (0, 0, 0, 0), 160, 0), (7, .if_icmp .lt 4, (0, 0, 0, 0), 0, 0), (10, .return_, (0, 0, 0, 0), 0, 0), (11, .aload_n 0, (0, 0, 0, 0), 0, 0), (12, .getfield 9, (149, 3, 0, 0), 0, 0), (15, .aload_n 0, (0, 0, 0, 0), 0, 0), (16, .getfield 15, (150, 3, 1, 0), 0, 0), (19, .iload_n 1, (0, 0, 0, 0), 0, 0), (20, .iastore, (0, 0, 0, 0), 0, 0), (21, .aload_n 0, (0, 0, 0, 0), 0, 0), (22, .dup, (0, 0, 0, 0), 0, 0), (23, .getfield 15, (150, 3, 1, 0), 0, 0), (26, .iconst 1, (0, 0, 0, 0), 1, 0), (27, .iadd, (0, 0, 0, 0), 0, 0), (28, .putfield 15, (150, 3, 1, 0), 0, 0), (31, .return_, (0, 0, 0, 0), 0, 0)]
theorem okX3_add : kX3_add.all (xOk RX3 cX3_add) = true := by decide +kernel
def kX3_reads : List xI := [(0, .aload_n 0, (0, 0, 0, 0), 0, 0), (1, .aload_n 1, (0, 0, 0, 0), 0, 0), (2, .putfield 19, (156, 3, 5, 9), 0, 0), (5, .aload_n 0, (0, 0, 0, 0), 0, 0), (6, .iconst 0, (0, 0, 0, 0), 0, 0), (7, .putfield 22, (157, 3, 6, 0), 0, 0), (10, .aload_n 0, (0, 0, 0, 0), 0, 0), (11, .iconst 0, (0, 0, 0, 0), 0, 0), (12, .putfield 25, (154, 3, 3, 0), 0, 0), (15, .aload_n 0, (0, 0, 0, 0), 0, 0), (16, .invokevirtual 28, (0, 0, 0, 0), 0, 0), (19, .iconst 0, (0, 0, 0, 0), 0, 0), (20, .istore_n 3, (0, 0, 0, 0), 0, 0), (21, .iload_n 3, (0, 0, 0, 0), 0, 0), (22, .iconst 3, (0, 0, 0, 0), 3, 0), (23, .if_icmp .ge 58, (0, 0, 0, 0), 0, 0), (26, .aload_n 0, (0, 0, 0, 0), 0, 0), (27, .getfield 31, (155, 3, 4, 0), 0, 0), (30, .sipush 10015, (0, 0, 0, 0), 10015, 0), (33, .iload_n 3, (0, 0, 0, 0), 0, 0), (34, .iadd, (0, 0, 0, 0), 0, 0), (35, .if_icmp .eq 5, (0, 0, 0, 0), 0, 0), (38, .iconst 0, (0, 0, 0, 0), 0, 0), (39, .ireturn, (0, 0, 0, 0), 0, 0), (40, .aload_n 0, (0, 0, 0, 0), 0, 0), (41, .invokevirtual 28, (0, 0, 0, 0), 0, 0), (44, .aload_n 0, (0, 0, 0, 0), 0, 0), (45, .iconst 0, (0, 0, 0, 0), 0, 0), (46, .invokevirtual 34, (0, 0, 0, 0), 0, 0), (49, .ifCond .eq 13, (0, 0, 0, 0), 0, 0), (52, .aload_n 0, (0, 0, 0, 0), 0, 0), (53, .getfield 31, (155, 3, 4, 0), 0, 0), (56, .sipush 10020, (0, 0, 0, 0), 10020, 0), (59, .if_icmp .eq 5, (0, 0, 0, 0), 0, 0), (62, .iconst 0, (0, 0, 0, 0), 0, 0), (63, .ireturn, (0, 0, 0, 0), 0, 0), (64, .aload_n 0, (0, 0, 0, 0), 0, 0), (65, .invokevirtual 28, (0, 0, 0, 0), 0, 0), (68, .aload_n 2, (0, 0, 0, 0), 0, 0), (69, .iload_n 3, (0, 0, 0, 0), 0, 0), (70, .aload_n 0, (0, 0, 0, 0), 0, 0), (71, .getfield 22, (157, 3, 6, 0), 0, 0), (74, .iastore, (0, 0, 0, 0), 0, 0), (75, .iinc 3 1, (0, 0, 0, 0), 1, 0), (78, .goto (-57), (0, 0, 0, 0), 0, 0), (81, .aload_n 0, (0, 0, 0, 0), 0, 0), (82, .getfield 31, (155, 3, 4, 0), 0, 0), (85, .sipush 10021, (0, 0, 0, 0), 10021, 0), (88, .if_icmp .ne 7, (0, 0, 0, 0), 0, 0), (91, .iconst 1, (0, 0, 0, 0), 1, 0), (92, .goto 4, (0, 0, 0, 0), 0, 0), (95, .iconst 0, (0, 0, 0, 0), 0, 0), (96, .ireturn, (0, 0, 0, 0), 0, 0)]
theorem okX3_reads : kX3_reads.all (xOk RX3 cX3_reads) = true := by decide +kernel
def kX3_either : List xI := [(0, .aload_n 0, (0, 0, 0, 0), 0, 0), (1, .iload_n 1, (0, 0, 0, 0), 0, 0), (2, .invokevirtual 38, (0, 0, 0, 0), 0, 0), (5, .ifCond .ne 5, (0, 0, 0, 0), 0, 0), (8, .iconst 0, (0, 0, 0, 0), 0, 0), (9, .ireturn, (0, 0, 0, 0), 0, 0), (10, .iconst 0, (0, 0, 0, 0), 0, 0), (11, .istore_n 2, (0, 0, 0, 0), 0, 0), (12, .iload_n 2, (0, 0, 0, 0), 0, 0), (13, .sipush 160, (0, 0, 0, 0), 160, 0), (16, .if_icmp .ge 40, (0, 0, 0, 0), 0, 0), (19, .aload_n 0, (0, 0, 0, 0), 0, 0), (20, .getfield 31, (155, 3, 4, 0), 0, 0), (23, .sipush 10006, (0, 0, 0, 0), 10006, 0), (26, .if_icmp .ne 30, (0, 0, 0, 0), 0, 0), (29, .aload_n 0, (0, 0, 0, 0), 0, 0), (30, .invokevirtual 28, (0, 0, 0, 0), 0, 0), (33, .aload_n 0, (0, 0, 0, 0), 0, 0), (34, .iload_n 1, (0, 0, 0, 0), 0, 0), (35, .invokevirtual 38, (0, 0, 0, 0), 0, 0), (38, .ifCond .ne 5, (0, 0, 0, 0), 0, 0), (41, .iconst 0, (0, 0, 0, 0), 0, 0), (42, .ireturn, (0, 0, 0, 0), 0, 0), (43, .aload_n 0, (0, 0, 0, 0), 0, 0), (44, .sipush 10006, (0, 0, 0, 0), 10006, 0), (47, .invokevirtual 41, (0, 0, 0, 0), 0, 0), (50, .iinc 2 1, (0, 0, 0, 0), 1, 0), (53, .goto (-41), (0, 0, 0, 0), 0, 0), (56, .iconst 1, (0, 0, 0, 0), 1, 0), (57, .ireturn, (0, 0, 0, 0), 0, 0)]
theorem okX3_either : kX3_either.all (xOk RX3 cX3_either) = true := by decide +kernel
def kX3_both : List xI := [(0, .aload_n 0, (0, 0, 0, 0), 0, 0), (1, .iload_n 1, (0, 0, 0, 0), 0, 0), (2, .invokevirtual 45, (0, 0, 0, 0), 0, 0), (5, .ifCond .ne 5, (0, 0, 0, 0), 0, 0), (8, .iconst 0, (0, 0, 0, 0), 0, 0), (9, .ireturn, (0, 0, 0, 0), 0, 0), (10, .iconst 0, (0, 0, 0, 0), 0, 0), (11, .istore_n 2, (0, 0, 0, 0), 0, 0), (12, .iload_n 2, (0, 0, 0, 0), 0, 0), (13, .sipush 160, (0, 0, 0, 0), 160, 0), (16, .if_icmp .ge 40, (0, 0, 0, 0), 0, 0), (19, .aload_n 0, (0, 0, 0, 0), 0, 0), (20, .getfield 31, (155, 3, 4, 0), 0, 0), (23, .sipush 10007, (0, 0, 0, 0), 10007, 0), (26, .if_icmp .ne 30, (0, 0, 0, 0), 0, 0), (29, .aload_n 0, (0, 0, 0, 0), 0, 0), (30, .invokevirtual 28, (0, 0, 0, 0), 0, 0), (33, .aload_n 0, (0, 0, 0, 0), 0, 0), (34, .iload_n 1, (0, 0, 0, 0), 0, 0), (35, .invokevirtual 45, (0, 0, 0, 0), 0, 0), (38, .ifCond .ne 5, (0, 0, 0, 0), 0, 0), (41, .iconst 0, (0, 0, 0, 0), 0, 0), (42, .ireturn, (0, 0, 0, 0), 0, 0), (43, .aload_n 0, (0, 0, 0, 0), 0, 0), (44, .sipush 10007, (0, 0, 0, 0), 10007, 0), (47, .invokevirtual 41, (0, 0, 0, 0), 0, 0), (50, .iinc 2 1, (0, 0, 0, 0), 1, 0), (53, .goto (-41), (0, 0, 0, 0), 0, 0), (56, .iconst 1, (0, 0, 0, 0), 1, 0), (57, .ireturn, (0, 0, 0, 0), 0, 0)]
theorem okX3_both : kX3_both.all (xOk RX3 cX3_both) = true := by decide +kernel
def kX3_negated : List xI := [(0, .iconst 0, (0, 0, 0, 0), 0, 0), (1, .istore_n 2, (0, 0, 0, 0), 0, 0), (2, .iload_n 2, (0, 0, 0, 0), 0, 0), (3, .sipush 160, (0, 0, 0, 0), 160, 0), (6, .if_icmp .ge 32, (0, 0, 0, 0), 0, 0), (9, .aload_n 0, (0, 0, 0, 0), 0, 0), (10, .getfield 31, (155, 3, 4, 0), 0, 0), (13, .sipush 10013, (0, 0, 0, 0), 10013, 0), (16, .if_icmp .ne 22, (0, 0, 0, 0), 0, 0), (19, .iload_n 1, (0, 0, 0, 0), 0, 0), (20, .iload_n 2, (0, 0, 0, 0), 0, 0), (21, .iadd, (0, 0, 0, 0), 0, 0), (22, .iconst 5, (0, 0, 0, 0), 5, 0), (23, .if_icmp .lt 5, (0, 0, 0, 0), 0, 0), (26, .iconst 0, (0, 0, 0, 0), 0, 0), (27, .ireturn, (0, 0, 0, 0), 0, 0), (28, .aload_n 0, (0, 0, 0, 0), 0, 0), (29, .invokevirtual 28, (0, 0, 0, 0), 0, 0), (32, .iinc 2 1, (0, 0, 0, 0), 1, 0), (35, .goto (-33), (0, 0, 0, 0), 0, 0), (38, .aload_n 0, (0, 0, 0, 0), 0, 0), (39, .iload_n 1, (0, 0, 0, 0), 0, 0), (40, .iload_n 2, (0, 0, 0, 0), 0, 0), (41, .iadd, (0, 0, 0, 0), 0, 0), (42, .invokevirtual 48, (0, 0, 0, 0), 0, 0), (45, .ifCond .ne 5, (0, 0, 0, 0), 0, 0), (48, .iconst 0, (0, 0, 0, 0), 0, 0), (49, .ireturn, (0, 0, 0, 0), 0, 0), (50, .iconst 0, (0, 0, 0, 0), 0, 0), (51, .istore_n 3, (0, 0, 0, 0), 0, 0), (52, .iload_n 3, (0, 0, 0, 0), 0, 0), (53, .iload_n 2, (0, 0, 0, 0), 0, 0), (54, .if_icmp .ge 16, (0, 0, 0, 0), 0, 0), (57, .aload_n 0, (0, 0, 0, 0), 0, 0), (58, .sipush 10013, (0, 0, 0, 0), 10013, 0), (61, .invokevirtual 41, (0, 0, 0, 0), 0, 0), (64, .iinc 3 1, (0, 0, 0, 0), 1, 0), (67, .goto (-15), (0, 0, 0, 0), 0, 0), (70, .iconst 1, (0, 0, 0, 0), 1, 0), (71, .ireturn, (0, 0, 0, 0), 0, 0)]
theorem okX3_negated : kX3_negated.all (xOk RX3 cX3_negated) = true := by decide +kernel
def kX3_compared : List xI := [(0, .aload_n 0, (0, 0, 0, 0), 0, 0), (1, .iload_n 1, (0, 0, 0, 0), 0, 0), (2, .invokevirtual 51, (0, 0, 0, 0), 0, 0), (5, .ifCond .ne 5, (0, 0, 0, 0), 0, 0), (8, .iconst 0, (0, 0, 0, 0), 0, 0), (9, .ireturn, (0, 0, 0, 0), 0, 0), (10, .aload_n 0, (0, 0, 0, 0), 0, 0), (11, .getfield 31, (155, 3, 4, 0), 0, 0), (14, .sipush 10008, (0, 0, 0, 0), 10008, 0), (17, .if_icmp .eq 15, (0, 0, 0, 0), 0, 0), (20, .aload_n 0, (0, 0, 0, 0), 0, 0), (21, .getfield 31, (155, 3, 4, 0), 0, 0), (24, .sipush 10009, (0, 0, 0, 0), 10009, 0), (27, .if_icmp .eq 5, (0, 0, 0, 0), 0, 0), (30, .iconst 1, (0, 0, 0, 0), 1, 0), (31, .ireturn, (0, 0, 0, 0), 0, 0), (32, .aload_n 0, (0, 0, 0, 0), 0, 0), (33, .getfield 31, (155, 3, 4, 0), 0, 0), (36, .istore_n 2, (0, 0, 0, 0), 0, 0), (37, .aload_n 0, (0, 0, 0, 0), 0, 0), (38, .invokevirtual 28, (0, 0, 0, 0), 0, 0), (41, .aload_n 0, (0, 0, 0, 0), 0, 0), (42, .iload_n 1, (0, 0, 0, 0), 0, 0), (43, .invokevirtual 51, (0, 0, 0, 0), 0, 0), (46, .ifCond .ne 5, (0, 0, 0, 0), 0, 0), (49, .iconst 0, (0, 0, 0, 0), 0, 0), (50, .ireturn, (0, 0, 0, 0), 0, 0), (51, .aload_n 0, (0, 0, 0, 0), 0, 0), (52, .iload_n 2, (0, 0, 0, 0), 0, 0), (53, .invokevirtual 41, (0, 0, 0, 0), 0, 0), (56, .iconst 1, (0, 0, 0, 0), 1, 0), (57, .ireturn, (0, 0, 0, 0), 0, 0)]
theorem okX3_compared : kX3_compared.all (xOk RX3 cX3_compared) = true := by decide +kernel
def kX3_sum : List xI := [(0, .aload_n 0, (0, 0, 0, 0), 0, 0), (1, .iload_n 1, (0, 0, 0, 0), 0, 0), (2, .invokevirtual 54, (0, 0, 0, 0), 0, 0), (5, .ifCond .ne 5, (0, 0, 0, 0), 0, 0), (8, .iconst 0, (0, 0, 0, 0), 0, 0), (9, .ireturn, (0, 0, 0, 0), 0, 0), (10, .iconst 0, (0, 0, 0, 0), 0, 0), (11, .istore_n 2, (0, 0, 0, 0), 0, 0), (12, .iload_n 2, (0, 0, 0, 0), 0, 0), (13, .sipush 160, (0, 0, 0, 0), 160, 0), (16, .if_icmp .ge 53, (0, 0, 0, 0), 0, 0), (19, .aload_n 0, (0, 0, 0, 0), 0, 0), (20, .getfield 31, (155, 3, 4, 0), 0, 0), (23, .sipush 10010, (0, 0, 0, 0), 10010, 0), (26, .if_icmp .eq 13, (0, 0, 0, 0), 0, 0), (29, .aload_n 0, (0, 0, 0, 0), 0, 0), (30, .getfield 31, (155, 3, 4, 0), 0, 0), (33, .sipush 10011, (0, 0, 0, 0), 10011, 0), (36, .if_icmp .ne 33, (0, 0, 0, 0), 0, 0), (39, .aload_n 0, (0, 0, 0, 0), 0, 0), (40, .getfield 31, (155, 3, 4, 0), 0, 0), (43, .istore_n 3, (0, 0, 0, 0), 0, 0), (44, .aload_n 0, (0, 0, 0, 0), 0, 0), (45, .invokevirtual 28, (0, 0, 0, 0), 0, 0), (48, .aload_n 0, (0, 0, 0, 0), 0, 0), (49, .iload_n 1, (0, 0, 0, 0), 0, 0), (50, .invokevirtual 54, (0, 0, 0, 0), 0, 0), (53, .ifCond .ne 5, (0, 0, 0, 0), 0, 0), (56, .iconst 0, (0, 0, 0, 0), 0, 0), (57, .ireturn, (0, 0, 0, 0), 0, 0), (58, .aload_n 0, (0, 0, 0, 0), 0, 0), (59, .iload_n 3, (0, 0, 0, 0), 0, 0), (60, .invokevirtual 41, (0, 0, 0, 0), 0, 0), (63, .iinc 2 1, (0, 0, 0, 0), 1, 0), (66, .goto (-54), (0, 0, 0, 0), 0, 0), (69, .iconst 1, (0, 0, 0, 0), 1, 0), (70, .ireturn, (0, 0, 0, 0), 0, 0)]
theorem okX3_sum : kX3_sum.all (xOk RX3 cX3_sum) = true := by decide +kernel
def kX3_product : List xI := [(0, .aload_n 0, (0, 0, 0, 0), 0, 0), (1, .iload_n 1, (0, 0, 0, 0), 0, 0), (2, .invokevirtual 57, (0, 0, 0, 0), 0, 0), (5, .ifCond .ne 5, (0, 0, 0, 0), 0, 0), (8, .iconst 0, (0, 0, 0, 0), 0, 0), (9, .ireturn, (0, 0, 0, 0), 0, 0), (10, .iconst 0, (0, 0, 0, 0), 0, 0), (11, .istore_n 2, (0, 0, 0, 0), 0, 0), (12, .iload_n 2, (0, 0, 0, 0), 0, 0), (13, .sipush 160, (0, 0, 0, 0), 160, 0), (16, .if_icmp .ge 40, (0, 0, 0, 0), 0, 0), (19, .aload_n 0, (0, 0, 0, 0), 0, 0), (20, .getfield 31, (155, 3, 4, 0), 0, 0), (23, .sipush 10012, (0, 0, 0, 0), 10012, 0), (26, .if_icmp .ne 30, (0, 0, 0, 0), 0, 0), (29, .aload_n 0, (0, 0, 0, 0), 0, 0), (30, .invokevirtual 28, (0, 0, 0, 0), 0, 0), (33, .aload_n 0, (0, 0, 0, 0), 0, 0), (34, .iload_n 1, (0, 0, 0, 0), 0, 0), (35, .invokevirtual 57, (0, 0, 0, 0), 0, 0), (38, .ifCond .ne 5, (0, 0, 0, 0), 0, 0), (41, .iconst 0, (0, 0, 0, 0), 0, 0), (42, .ireturn, (0, 0, 0, 0), 0, 0), (43, .aload_n 0, (0, 0, 0, 0), 0, 0), (44, .sipush 10012, (0, 0, 0, 0), 10012, 0), (47, .invokevirtual 41, (0, 0, 0, 0), 0, 0), (50, .iinc 2 1, (0, 0, 0, 0), 1, 0), (53, .goto (-41), (0, 0, 0, 0), 0, 0), (56, .iconst 1, (0, 0, 0, 0), 1, 0), (57, .ireturn, (0, 0, 0, 0), 0, 0)]
theorem okX3_product : kX3_product.all (xOk RX3 cX3_product) = true := by decide +kernel
def kX3_single : List xI := [(0, .iconst 0, (0, 0, 0, 0), 0, 0), (1, .istore_n 2, (0, 0, 0, 0), 0, 0), (2, .iload_n 2, (0, 0, 0, 0), 0, 0), (3, .sipush 160, (0, 0, 0, 0), 160, 0), (6, .if_icmp .ge 32, (0, 0, 0, 0), 0, 0), (9, .aload_n 0, (0, 0, 0, 0), 0, 0), (10, .getfield 31, (155, 3, 4, 0), 0, 0), (13, .sipush 10011, (0, 0, 0, 0), 10011, 0), (16, .if_icmp .ne 22, (0, 0, 0, 0), 0, 0), (19, .iload_n 1, (0, 0, 0, 0), 0, 0), (20, .iload_n 2, (0, 0, 0, 0), 0, 0), (21, .iadd, (0, 0, 0, 0), 0, 0), (22, .iconst 5, (0, 0, 0, 0), 5, 0), (23, .if_icmp .lt 5, (0, 0, 0, 0), 0, 0), (26, .iconst 0, (0, 0, 0, 0), 0, 0), (27, .ireturn, (0, 0, 0, 0), 0, 0), (28, .aload_n 0, (0, 0, 0, 0), 0, 0), (29, .invokevirtual 28, (0, 0, 0, 0), 0, 0), (32, .iinc 2 1, (0, 0, 0, 0), 1, 0), (35, .goto (-33), (0, 0, 0, 0), 0, 0), (38, .aload_n 0, (0, 0, 0, 0), 0, 0), (39, .iload_n 1, (0, 0, 0, 0), 0, 0), (40, .iload_n 2, (0, 0, 0, 0), 0, 0), (41, .iadd, (0, 0, 0, 0), 0, 0), (42, .invokevirtual 60, (0, 0, 0, 0), 0, 0), (45, .ifCond .ne 5, (0, 0, 0, 0), 0, 0), (48, .iconst 0, (0, 0, 0, 0), 0, 0), (49, .ireturn, (0, 0, 0, 0), 0, 0), (50, .iconst 0, (0, 0, 0, 0), 0, 0), (51, .istore_n 3, (0, 0, 0, 0), 0, 0), (52, .iload_n 3, (0, 0, 0, 0), 0, 0), (53, .iload_n 2, (0, 0, 0, 0), 0, 0), (54, .if_icmp .ge 16, (0, 0, 0, 0), 0, 0), (57, .aload_n 0, (0, 0, 0, 0), 0, 0), (58, .sipush 10014, (0, 0, 0, 0), 10014, 0), (61, .invokevirtual 41, (0, 0, 0, 0), 0, 0), (64, .iinc 3 1, (0, 0, 0, 0), 1, 0), (67, .goto (-15), (0, 0, 0, 0), 0, 0), (70, .iconst 1, (0, 0, 0, 0), 1, 0), (71, .ireturn, (0, 0, 0, 0), 0, 0)]
theorem okX3_single : kX3_single.all (xOk RX3 cX3_single) = true := by decide +kernel
def kX3_bare : List xI := [(0, .aload_n 0, (0, 0, 0, 0), 0, 0), (1, .getfield 31, (155, 3, 4, 0), 0, 0), (4, .sipush 10005, (0, 0, 0, 0), 10005, 0), (7, .if_icmp .gt 17, (0, 0, 0, 0), 0, 0), (10, .aload_n 0, (0, 0, 0, 0), 0, 0), (11, .aload_n 0, (0, 0, 0, 0), 0, 0), (12, .getfield 31, (155, 3, 4, 0), 0, 0), (15, .invokevirtual 41, (0, 0, 0, 0), 0, 0), (18, .aload_n 0, (0, 0, 0, 0), 0, 0), (19, .invokevirtual 28, (0, 0, 0, 0), 0, 0), (22, .iconst 1, (0, 0, 0, 0), 1, 0), (23, .ireturn, (0, 0, 0, 0), 0, 0), (24, .aload_n 0, (0, 0, 0, 0), 0, 0), (25, .getfield 31, (155, 3, 4, 0), 0, 0), (28, .sipush 10018, (0, 0, 0, 0), 10018, 0), (31, .if_icmp .ne 8, (0, 0, 0, 0), 0, 0), (34, .iload_n 1, (0, 0, 0, 0), 0, 0), (35, .iconst 5, (0, 0, 0, 0), 5, 0), (36, .if_icmp .lt 5, (0, 0, 0, 0), 0, 0), (39, .iconst 0, (0, 0, 0, 0), 0, 0), (40, .ireturn, (0, 0, 0, 0), 0, 0), (41, .aload_n 0, (0, 0, 0, 0), 0, 0), (42, .invokevirtual 28, (0, 0, 0, 0), 0, 0), (45, .aload_n 0, (0, 0, 0, 0), 0, 0), (46, .iload_n 1, (0, 0, 0, 0), 0, 0), (47, .iconst 1, (0, 0, 0, 0), 1, 0), (48, .iadd, (0, 0, 0, 0), 0, 0), (49, .invokevirtual 34, (0, 0, 0, 0), 0, 0), (52, .ifCond .eq 13, (0, 0, 0, 0), 0, 0), (55, .aload_n 0, (0, 0, 0, 0), 0, 0), (56, .getfield 31, (155, 3, 4, 0), 0, 0), (59, .sipush 10019, (0, 0, 0, 0), 10019, 0), (62, .if_icmp .eq 5, (0, 0, 0, 0), 0, 0), (65, .iconst 0, (0, 0, 0, 0), 0, 0), (66, .ireturn, (0, 0, 0, 0), 0, 0), (67, .aload_n 0, (0, 0, 0, 0), 0, 0), (68, .invokevirtual 28, (0, 0, 0, 0), 0, 0), (71, .iconst 1, (0, 0, 0, 0), 1, 0), (72, .ireturn, (0, 0, 0, 0), 0, 0)]
theorem okX3_bare : kX3_bare.all (xOk RX3 cX3_bare) = true := by decide +kernel
def kX3_write : List xI := [(0, .aload_n 0, (0, 0, 0, 0), 0, 0), (1, .getfield 19, (156, 3, 5, 0), 0, 0), (4, .ifnull 15, (0, 0, 0, 0), 0, 0), (7, .aload_n 0, (0, 0, 0, 0), 0, 0), (8, .getfield 22, (157, 3, 6, 0), 0, 0), (11, .aload_n 0, (0, 0, 0, 0), 0, 0), (12, .getfield 19, (156, 3, 5, 0), 0, 0), (15, .arraylength, (0, 0, 0, 0), 160, 0), (16, .if_icmp .lt 4, (0, 0, 0, 0), 0, 0), (19, .return_, (0, 0, 0, 0), 0, 0), (20, .aload_n 0, (0, 0, 0, 0), 0, 0), (21, .getfield 19, (156, 3, 5, 0), 0, 0), (24, .aload_n 0, (0, 0, 0, 0), 0, 0), (25, .getfield 22, (157, 3, 6, 0), 0, 0), (28, .iload_n 1, (0, 0, 0, 0), 0, 0), (29, .iastore, (0, 0, 0, 0), 0, 0), (30, .aload_n 0, (0, 0, 0, 0), 0, 0), (31, .dup, (0, 0, 0, 0), 0, 0), (32, .getfield 22, (157, 3, 6, 0), 0, 0), (35, .iconst 1, (0, 0, 0, 0), 1, 0), (36, .iadd, (0, 0, 0, 0), 0, 0), (37, .putfield 22, (157, 3, 6, 0), 0, 0), (40, .return_, (0, 0, 0, 0), 0, 0)]
theorem okX3_write : kX3_write.all (xOk RX3 cX3_write) = true := by decide +kernel
def kX3_step : List xI := [(0, .aload_n 0, (0, 0, 0, 0), 0, 0), (1, .getfield 25, (154, 3, 3, 0), 0, 0), (4, .aload_n 0, (0, 0, 0, 0), 0, 0), (5, .getfield 15, (150, 3, 1, 0), 0, 0), (8, .if_icmp .ge 44, (0, 0, 0, 0), 0, 0), (11, .aload_n 0, (0, 0, 0, 0), 0, 0), (12, .getfield 9, (149, 3, 0, 0), 0, 0), (15, .aload_n 0, (0, 0, 0, 0), 0, 0), (16, .getfield 25, (154, 3, 3, 0), 0, 0), (19, .iaload, (0, 0, 0, 0), 0, 0), (20, .bipush 32, (0, 0, 0, 0), 32, 0), (22, .if_icmp .eq 17, (0, 0, 0, 0), 0, 0), (25, .aload_n 0, (0, 0, 0, 0), 0, 0), (26, .getfield 9, (149, 3, 0, 0), 0, 0), (29, .aload_n 0, (0, 0, 0, 0), 0, 0), (30, .getfield 25, (154, 3, 3, 0), 0, 0), (33, .iaload, (0, 0, 0, 0), 0, 0), (34, .bipush 10, (0, 0, 0, 0), 10, 0), (36, .if_icmp .ne 16, (0, 0, 0, 0), 0, 0), (39, .aload_n 0, (0, 0, 0, 0), 0, 0), (40, .dup, (0, 0, 0, 0), 0, 0), (41, .getfield 25, (154, 3, 3, 0), 0, 0), (44, .iconst 1, (0, 0, 0, 0), 1, 0), (45, .iadd, (0, 0, 0, 0), 0, 0), (46, .putfield 25, (154, 3, 3, 0), 0, 0), (49, .goto (-49), (0, 0, 0, 0), 0, 0), (52, .aload_n 0, (0, 0, 0, 0), 0, 0), (53, .aload_n 0, (0, 0, 0, 0), 0, 0), (54, .getfield 25, (154, 3, 3, 0), 0, 0), (57, .putfield 63, (153, 3, 2, 0), 0, 0), (60, .aload_n 0, (0, 0, 0, 0), 0, 0), (61, .getfield 63, (153, 3, 2, 0), 0, 0), (64, .aload_n 0, (0, 0, 0, 0), 0, 0), (65, .getfield 15, (150, 3, 1, 0), 0, 0), (68, .if_icmp .lt 13, (0, 0, 0, 0), 0, 0), (71, .aload_n 0, (0, 0, 0, 0), 0, 0), (72, .sipush 10021, (0, 0, 0, 0), 10021, 0), (75, .putfield 31, (155, 3, 4, 0), 0, 0), (78, .goto 81, (0, 0, 0, 0), 0, 0), (81, .aload_n 0, (0, 0, 0, 0), 0, 0), (82, .getfield 9, (149, 3, 0, 0), 0, 0), (85, .aload_n 0, (0, 0, 0, 0), 0, 0), (86, .getfield 63, (153, 3, 2, 0), 0, 0), (89, .iaload, (0, 0, 0, 0), 0, 0), (90, .invokestatic 66, (0, 3, 0, 0), 0, 0), (93, .ifCond .eq 14, (0, 0, 0, 0), 0, 0), (96, .aload_n 0, (0, 0, 0, 0), 0, 0), (97, .aload_n 0, (0, 0, 0, 0), 0, 0), (98, .invokevirtual 69, (0, 0, 0, 0), 0, 0), (101, .putfield 31, (155, 3, 4, 0), 0, 0), (104, .goto 55, (0, 0, 0, 0), 0, 0), (107, .aload_n 0, (0, 0, 0, 0), 0, 0), (108, .getfield 9, (149, 3, 0, 0), 0, 0), (111, .aload_n 0, (0, 0, 0, 0), 0, 0), (112, .getfield 63, (153, 3, 2, 0), 0, 0), (115, .iaload, (0, 0, 0, 0), 0, 0), (116, .invokestatic 73, (0, 3, 0, 0), 0, 0), (119, .ifCond .eq 14, (0, 0, 0, 0), 0, 0), (122, .aload_n 0, (0, 0, 0, 0), 0, 0), (123, .aload_n 0, (0, 0, 0, 0), 0, 0), (124, .invokevirtual 76, (0, 0, 0, 0), 0, 0), (127, .putfield 31, (155, 3, 4, 0), 0, 0), (130, .goto 29, (0, 0, 0, 0), 0, 0), (133, .aload_n 0, (0, 0, 0, 0), 0, 0), (134, .dup, (0, 0, 0, 0), 0, 0), (135, .getfield 25, (154, 3, 3, 0), 0, 0), (138, .iconst 1, (0, 0, 0, 0), 1, 0), (139, .iadd, (0, 0, 0, 0), 0, 0), (140, .putfield 25, (154, 3, 3, 0), 0, 0), (143, .aload_n 0, (0, 0, 0, 0), 0, 0), (144, .aload_n 0, (0, 0, 0, 0), 0, 0), (145, .getfield 9, (149, 3, 0, 0), 0, 0), (148, .aload_n 0, (0, 0, 0, 0), 0, 0), (149, .getfield 63, (153, 3, 2, 0), 0, 0), (152, .iaload, (0, 0, 0, 0), 0, 0), (153, .invokestatic 79, (0, 3, 0, 0), 0, 0), (156, .putfield 31, (155, 3, 4, 0), 0, 0), (159, .return_, (0, 0, 0, 0), 0, 0)]
theorem okX3_step : kX3_step.all (xOk RX3 cX3_step) = true := by decide +kernel
def kX3_isLetter : List xI := [(0, .iload_n 0, (0, 0, 0, 0), 0, 0), (1, .bipush 97, (0, 0, 0, 0), 97, 0), (3, .bipush 122, (0, 0, 0, 0), 122, 0), (5, .invokestatic 83, (0, 3, 0, 0), 0, 0), (8, .ireturn, (0, 0, 0, 0), 0, 0)]
theorem okX3_isLetter : kX3_isLetter.all (xOk RX3 cX3_isLetter) = true := by decide +kernel
def kX3_isDigit : List xI := [(0, .iload_n 0, (0, 0, 0, 0), 0, 0), (1, .bipush 48, (0, 0, 0, 0), 48, 0), (3, .bipush 57, (0, 0, 0, 0), 57, 0), (5, .invokestatic 83, (0, 3, 0, 0), 0, 0), (8, .ireturn, (0, 0, 0, 0), 0, 0)]
theorem okX3_isDigit : kX3_isDigit.all (xOk RX3 cX3_isDigit) = true := by decide +kernel
def kX3_digits : List xI := [(0, .iconst 0, (0, 0, 0, 0), 0, 0), (1, .istore_n 1, (0, 0, 0, 0), 0, 0), (2, .aload_n 0, (0, 0, 0, 0), 0, 0), (3, .getfield 25, (154, 3, 3, 0), 0, 0), (6, .aload_n 0, (0, 0, 0, 0), 0, 0), (7, .getfield 15, (150, 3, 1, 0), 0, 0), (10, .if_icmp .ge 49, (0, 0, 0, 0), 0, 0), (13, .aload_n 0, (0, 0, 0, 0), 0, 0), (14, .getfield 9, (149, 3, 0, 0), 0, 0), (17, .aload_n 0, (0, 0, 0, 0), 0, 0), (18, .getfield 25, (154, 3, 3, 0), 0, 0), (21, .iaload, (0, 0, 0, 0), 0, 0), (22, .invokestatic 73, (0, 3, 0, 0), 0, 0), (25, .ifCond .eq 34, (0, 0, 0, 0), 0, 0), (28, .iload_n 1, (0, 0, 0, 0), 0, 0), (29, .bipush 10, (0, 0, 0, 0), 10, 0), (31, .imul, (0, 0, 0, 0), 0, 0), (32, .aload_n 0, (0, 0, 0, 0), 0, 0), (33, .getfield 9, (149, 3, 0, 0), 0, 0), (36, .aload_n 0, (0, 0, 0, 0), 0, 0), (37, .getfield 25, (154, 3, 3, 0), 0, 0), (40, .iaload, (0, 0, 0, 0), 0, 0), (41, .iadd, (0, 0, 0, 0), 0, 0), (42, .bipush 48, (0, 0, 0, 0), 48, 0), (44, .isub, (0, 0, 0, 0), 0, 0), (45, .istore_n 1, (0, 0, 0, 0), 0, 0), (46, .aload_n 0, (0, 0, 0, 0), 0, 0), (47, .dup, (0, 0, 0, 0), 0, 0), (48, .getfield 25, (154, 3, 3, 0), 0, 0), (51, .iconst 1, (0, 0, 0, 0), 1, 0), (52, .iadd, (0, 0, 0, 0), 0, 0), (53, .putfield 25, (154, 3, 3, 0), 0, 0), (56, .goto (-54), (0, 0, 0, 0), 0, 0), (59, .aload_n 0, (0, 0, 0, 0), 0, 0), (60, .getfield 25, (154, 3, 3, 0), 0, 0), (63, .aload_n 0, (0, 0, 0, 0), 0, 0), (64, .getfield 63, (153, 3, 2, 0), 0, 0), (67, .isub, (0, 0, 0, 0), 0, 0), (68, .iconst 4, (0, 0, 0, 0), 4, 0), (69, .if_icmp .le 9, (0, 0, 0, 0), 0, 0), (72, .sipush 10022, (0, 0, 0, 0), 10022, 0), (75, .goto 4, (0, 0, 0, 0), 0, 0), (78, .iload_n 1, (0, 0, 0, 0), 0, 0), (79, .ireturn, (0, 0, 0, 0), 0, 0)]
theorem okX3_digits : kX3_digits.all (xOk RX3 cX3_digits) = true := by decide +kernel
def kX3_word : List xI := [(0, .aload_n 0, (0, 0, 0, 0), 0, 0), (1, .getfield 25, (154, 3, 3, 0), 0, 0), (4, .aload_n 0, (0, 0, 0, 0), 0, 0), (5, .getfield 15, (150, 3, 1, 0), 0, 0), (8, .if_icmp .ge 31, (0, 0, 0, 0), 0, 0), (11, .aload_n 0, (0, 0, 0, 0), 0, 0), (12, .getfield 9, (149, 3, 0, 0), 0, 0), (15, .aload_n 0, (0, 0, 0, 0), 0, 0), (16, .getfield 25, (154, 3, 3, 0), 0, 0), (19, .iaload, (0, 0, 0, 0), 0, 0), (20, .invokestatic 66, (0, 3, 0, 0), 0, 0), (23, .ifCond .eq 16, (0, 0, 0, 0), 0, 0), (26, .aload_n 0, (0, 0, 0, 0), 0, 0), (27, .dup, (0, 0, 0, 0), 0, 0), (28, .getfield 25, (154, 3, 3, 0), 0, 0), (31, .iconst 1, (0, 0, 0, 0), 1, 0), (32, .iadd, (0, 0, 0, 0), 0, 0), (33, .putfield 25, (154, 3, 3, 0), 0, 0), (36, .goto (-36), (0, 0, 0, 0), 0, 0), (39, .aload_n 0, (0, 0, 0, 0), 0, 0), (40, .ldc 87, (456, 1, 0, 0), 0, 0), (42, .invokevirtual 89, (0, 0, 0, 0), 0, 0), (45, .ifCond .eq 7, (0, 0, 0, 0), 0, 0), (48, .sipush 10000, (0, 0, 0, 0), 10000, 0), (51, .ireturn, (0, 0, 0, 0), 0, 0), (52, .aload_n 0, (0, 0, 0, 0), 0, 0), (53, .ldc 93, (509, 1, 1, 0), 0, 0), (55, .invokevirtual 89, (0, 0, 0, 0), 0, 0), (58, .ifCond .eq 7, (0, 0, 0, 0), 0, 0), (61, .sipush 10001, (0, 0, 0, 0), 10001, 0), (64, .ireturn, (0, 0, 0, 0), 0, 0), (65, .aload_n 0, (0, 0, 0, 0), 0, 0), (66, .ldc 95, (510, 1, 2, 0), 0, 0), (68, .invokevirtual 89, (0, 0, 0, 0), 0, 0), (71, .ifCond .eq 7, (0, 0, 0, 0), 0, 0), (74, .sipush 10002, (0, 0, 0, 0), 10002, 0), (77, .ireturn, (0, 0, 0, 0), 0, 0), (78, .aload_n 0, (0, 0, 0, 0), 0, 0), (79, .ldc 97, (511, 1, 3, 0), 0, 0), (81, .invokevirtual 89, (0, 0, 0, 0), 0, 0), (84, .ifCond .eq 7, (0, 0, 0, 0), 0, 0), (87, .sipush 10003, (0, 0, 0, 0), 10003, 0), (90, .ireturn, (0, 0, 0, 0), 0, 0), (91, .aload_n 0, (0, 0, 0, 0), 0, 0), (92, .ldc 99, (512, 1, 4, 0), 0, 0), (94, .invokevirtual 89, (0, 0, 0, 0), 0, 0), (97, .ifCond .eq 7, (0, 0, 0, 0), 0, 0), (100, .sipush 10004, (0, 0, 0, 0), 10004, 0), (103, .ireturn, (0, 0, 0, 0), 0, 0), (104, .aload_n 0, (0, 0, 0, 0), 0, 0), (105, .ldc 101, (513, 1, 5, 0), 0, 0), (107, .invokevirtual 89, (0, 0, 0, 0), 0, 0), (110, .ifCond .eq 7, (0, 0, 0, 0), 0, 0), (113, .sipush 10005, (0, 0, 0, 0), 10005, 0), (116, .ireturn, (0, 0, 0, 0), 0, 0), (117, .aload_n 0, (0, 0, 0, 0), 0, 0), (118, .ldc 103, (514, 1, 6, 0), 0, 0), (120, .invokevirtual 89, (0, 0, 0, 0), 0, 0), (123, .ifCond .eq 7, (0, 0, 0, 0), 0, 0), (126, .sipush 10015, (0, 0, 0, 0), 10015, 0), (129, .ireturn, (0, 0, 0, 0), 0, 0), (130, .aload_n 0, (0, 0, 0, 0), 0, 0), (131, .ldc 105, (515, 1, 7, 0), 0, 0), (133, .invokevirtual 89, (0, 0, 0, 0), 0, 0), (136, .ifCond .eq 7, (0, 0, 0, 0), 0, 0), (139, .sipush 10016, (0, 0, 0, 0), 10016, 0), (142, .ireturn, (0, 0, 0, 0), 0, 0), (143, .aload_n 0, (0, 0, 0, 0), 0, 0), (144, .ldc 107, (516, 1, 8, 0), 0, 0), (146, .invokevirtual 89, (0, 0, 0, 0), 0, 0), (149, .ifCond .eq 7, (0, 0, 0, 0), 0, 0), (152, .sipush 10017, (0, 0, 0, 0), 10017, 0), (155, .ireturn, (0, 0, 0, 0), 0, 0), (156, .aload_n 0, (0, 0, 0, 0), 0, 0), (157, .ldc 109, (517, 1, 9, 0), 0, 0), (159, .invokevirtual 89, (0, 0, 0, 0), 0, 0), (162, .ifCond .eq 7, (0, 0, 0, 0), 0, 0), (165, .sipush 10006, (0, 0, 0, 0), 10006, 0), (168, .ireturn, (0, 0, 0, 0), 0, 0), (169, .aload_n 0, (0, 0, 0, 0), 0, 0), (170, .ldc 111, (518, 1, 10, 0), 0, 0), (172, .invokevirtual 89, (0, 0, 0, 0), 0, 0), (175, .ifCond .eq 7, (0, 0, 0, 0), 0, 0), (178, .sipush 10007, (0, 0, 0, 0), 10007, 0), (181, .ireturn, (0, 0, 0, 0), 0, 0), (182, .aload_n 0, (0, 0, 0, 0), 0, 0), (183, .ldc 113, (519, 1, 11, 0), 0, 0), (185, .invokevirtual 89, (0, 0, 0, 0), 0, 0), (188, .ifCond .eq 7, (0, 0, 0, 0), 0, 0), (191, .sipush 10013, (0, 0, 0, 0), 10013, 0), (194, .ireturn, (0, 0, 0, 0), 0, 0), (195, .sipush 10022, (0, 0, 0, 0), 10022, 0), (198, .ireturn, (0, 0, 0, 0), 0, 0)]
theorem okX3_word : kX3_word.all (xOk RX3 cX3_word) = true := by decide +kernel
def kX3_spells : List xI := [(0, .aload_n 1, (0, 0, 0, 0), 0, 0), (1, .invokevirtual 115, (0, 0, 0, 0), 0, 0), (4, .istore_n 2, (0, 0, 0, 0), 0, 0), (5, .aload_n 0, (0, 0, 0, 0), 0, 0), (6, .getfield 25, (154, 3, 3, 0), 0, 0), (9, .aload_n 0, (0, 0, 0, 0), 0, 0), (10, .getfield 63, (153, 3, 2, 0), 0, 0), (13, .isub, (0, 0, 0, 0), 0, 0), (14, .iload_n 2, (0, 0, 0, 0), 0, 0), (15, .if_icmp .eq 5, (0, 0, 0, 0), 0, 0), (18, .iconst 0, (0, 0, 0, 0), 0, 0), (19, .ireturn, (0, 0, 0, 0), 0, 0), (20, .iconst 0, (0, 0, 0, 0), 0, 0), (21, .istore_n 3, (0, 0, 0, 0), 0, 0), (22, .iload_n 3, (0, 0, 0, 0), 0, 0), (23, .iload_n 2, (0, 0, 0, 0), 0, 0), (24, .if_icmp .ge 30, (0, 0, 0, 0), 0, 0), (27, .aload_n 0, (0, 0, 0, 0), 0, 0), (28, .getfield 9, (149, 3, 0, 0), 0, 0), (31, .aload_n 0, (0, 0, 0, 0), 0, 0), (32, .getfield 63, (153, 3, 2, 0), 0, 0), (35, .iload_n 3, (0, 0, 0, 0), 0, 0), (36, .iadd, (0, 0, 0, 0), 0, 0), (37, .iaload, (0, 0, 0, 0), 0, 0), (38, .aload_n 1, (0, 0, 0, 0), 0, 0), (39, .iload_n 3, (0, 0, 0, 0), 0, 0), (40, .invokevirtual 120, (0, 0, 0, 0), 0, 0), (43, .if_icmp .eq 5, (0, 0, 0, 0), 0, 0), (46, .iconst 0, (0, 0, 0, 0), 0, 0), (47, .ireturn, (0, 0, 0, 0), 0, 0), (48, .iinc 3 1, (0, 0, 0, 0), 1, 0), (51, .goto (-29), (0, 0, 0, 0), 0, 0), (54, .iconst 1, (0, 0, 0, 0), 1, 0), (55, .ireturn, (0, 0, 0, 0), 0, 0)]
theorem okX3_spells : kX3_spells.all (xOk RX3 cX3_spells) = true := by decide +kernel
def kX3_signOf : List xI := [(0, .iload_n 0, (0, 0, 0, 0), 0, 0), (1, .tableswitch 135 40 61 #[103, 107, 123, 115, 135, 119, 135, 135, 135, 135, 135, 135, 135, 135, 135, 135, 135, 135, 135, 111, 127, 131], (0, 0, 0, 0), 0, 0), (104, .sipush 10018, (0, 0, 0, 0), 10018, 0), (107, .ireturn, (0, 0, 0, 0), 0, 0), (108, .sipush 10019, (0, 0, 0, 0), 10019, 0), (111, .ireturn, (0, 0, 0, 0), 0, 0), (112, .sipush 10020, (0, 0, 0, 0), 10020, 0), (115, .ireturn, (0, 0, 0, 0), 0, 0), (116, .sipush 10010, (0, 0, 0, 0), 10010, 0), (119, .ireturn, (0, 0, 0, 0), 0, 0), (120, .sipush 10011, (0, 0, 0, 0), 10011, 0), (123, .ireturn, (0, 0, 0, 0), 0, 0), (124, .sipush 10012, (0, 0, 0, 0), 10012, 0), (127, .ireturn, (0, 0, 0, 0), 0, 0), (128, .sipush 10008, (0, 0, 0, 0), 10008, 0), (131, .ireturn, (0, 0, 0, 0), 0, 0), (132, .sipush 10009, (0, 0, 0, 0), 10009, 0), (135, .ireturn, (0, 0, 0, 0), 0, 0), (136, .sipush 10022, (0, 0, 0, 0), 10022, 0), (139, .ireturn, (0, 0, 0, 0), 0, 0)]
theorem okX3_signOf : kX3_signOf.all (xOk RX3 cX3_signOf) = true := by decide +kernel
def kX4_value : List xI := [(0, .aload_n 0, (0, 0, 0, 0), 0, 0), (1, .getfield 11, (126, 4, 0, 0), 0, 0), (4, .aload_n 2, (0, 0, 0, 0), 0, 0), (5, .getfield 27, (211, 0, 14, 0), 0, 0), (8, .aaload, (0, 0, 0, 0), 0, 0), (9, .astore 5, (0, 0, 0, 0), 0, 0), (11, .aload_n 0, (0, 0, 0, 0), 0, 0), (12, .getfield 16, (128, 4, 1, 0), 0, 0), (15, .aload_n 2, (0, 0, 0, 0), 0, 0), (16, .getfield 27, (211, 0, 14, 0), 0, 0), (19, .aaload, (0, 0, 0, 0), 0, 0), (20, .astore 6, (0, 0, 0, 0), 0, 0), (22, .iconst 0, (0, 0, 0, 0), 0, 0), (23, .istore 7, (0, 0, 0, 0), 0, 0), (25, .iload_n 1, (0, 0, 0, 0), 0, 0), (26, .ifCond .ne 7, (0, 0, 0, 0), 0, 0), (29, .iconst 0, (0, 0, 0, 0), 0, 0), (30, .goto 9, (0, 0, 0, 0), 0, 0), (33, .aload 6, (0, 0, 0, 0), 0, 0), (35, .iload_n 1, (0, 0, 0, 0), 0, 0), (36, .iconst 1, (0, 0, 0, 0), 1, 0), (37, .isub, (0, 0, 0, 0), 0, 0), (38, .iaload, (0, 0, 0, 0), 0, 0), (39, .istore 8, (0, 0, 0, 0), 0, 0), (41, .iload 8, (0, 0, 0, 0), 0, 0), (43, .aload 6, (0, 0, 0, 0), 0, 0), (45, .iload_n 1, (0, 0, 0, 0), 0, 0), (46, .iaload, (0, 0, 0, 0), 0, 0), (47, .if_icmp .ge 183, (0, 0, 0, 0), 0, 0), (50, .aload 5, (0, 0, 0, 0), 0, 0), (52, .iload 8, (0, 0, 0, 0), 0, 0), (54, .iaload, (0, 0, 0, 0), 0, 0), (55, .istore 9, (0, 0, 0, 0), 0, 0), (57, .iload 9, (0, 0, 0, 0), 0, 0), (59, .sipush 10005, (0, 0, 0, 0), 10005, 0), (62, .if_icmp .gt 50, (0, 0, 0, 0), 0, 0), (65, .iload 7, (0, 0, 0, 0), 0, 0), (67, .aload_n 0, (0, 0, 0, 0), 0, 0), (68, .getfield 23, (132, 4, 3, 0), 0, 0), (71, .arraylength, (0, 0, 0, 0), 160, 0), (72, .if_icmp .lt 5, (0, 0, 0, 0), 0, 0), (75, .iconst 0, (0, 0, 0, 0), 0, 0), (76, .ireturn, (0, 0, 0, 0), 0, 0), (77, .aload_n 0, (0, 0, 0, 0), 0, 0), (78, .getfield 23, (132, 4, 3, 0), 0, 0), (81, .iload 7, (0, 0, 0, 0), 0, 0), (83, .iload 9, (0, 0, 0, 0), 0, 0), (85, .sipush 10000, (0, 0, 0, 0), 10000, 0), (88, .if_icmp .ge 8, (0, 0, 0, 0), 0, 0), (91, .iload 9, (0, 0, 0, 0), 0, 0), (93, .goto 12, (0, 0, 0, 0), 0, 0), (96, .iload 9, (0, 0, 0, 0), 0, 0), (98, .aload_n 2, (0, 0, 0, 0), 0, 0), (99, .iload_n 3, (0, 0, 0, 0), 0, 0), (100, .iload 4, (0, 0, 0, 0), 0, 0), (102, .invokestatic 32, (0, 3, 0, 0), 0, 0), (105, .iastore, (0, 0, 0, 0), 0, 0), (106, .iinc 7 1, (0, 0, 0, 0), 1, 0), (109, .goto 115, (0, 0, 0, 0), 0, 0), (112, .iload 9, (0, 0, 0, 0), 0, 0), (114, .sipush 10013, (0, 0, 0, 0), 10013, 0), (117, .if_icmp .eq 11, (0, 0, 0, 0), 0, 0), (120, .iload 9, (0, 0, 0, 0), 0, 0), (122, .sipush 10014, (0, 0, 0, 0), 10014, 0), (125, .if_icmp .ne 58, (0, 0, 0, 0), 0, 0), (128, .iload 7, (0, 0, 0, 0), 0, 0), (130, .iconst 1, (0, 0, 0, 0), 1, 0), (131, .if_icmp .ge 5, (0, 0, 0, 0), 0, 0), (134, .iconst 0, (0, 0, 0, 0), 0, 0), (135, .ireturn, (0, 0, 0, 0), 0, 0), (136, .aload_n 0, (0, 0, 0, 0), 0, 0), (137, .getfield 23, (132, 4, 3, 0), 0, 0), (140, .iload 7, (0, 0, 0, 0), 0, 0), (142, .iconst 1, (0, 0, 0, 0), 1, 0), (143, .isub, (0, 0, 0, 0), 0, 0), (144, .iaload, (0, 0, 0, 0), 0, 0), (145, .istore 10, (0, 0, 0, 0), 0, 0), (147, .aload_n 0, (0, 0, 0, 0), 0, 0), (148, .getfield 23, (132, 4, 3, 0), 0, 0), (151, .iload 7, (0, 0, 0, 0), 0, 0), (153, .iconst 1, (0, 0, 0, 0), 1, 0), (154, .isub, (0, 0, 0, 0), 0, 0), (155, .iload 9, (0, 0, 0, 0), 0, 0), (157, .sipush 10014, (0, 0, 0, 0), 10014, 0), (160, .if_icmp .ne 9, (0, 0, 0, 0), 0, 0), (163, .iload 10, (0, 0, 0, 0), 0, 0), (165, .ineg, (0, 0, 0, 0), 0, 0), (166, .goto 13, (0, 0, 0, 0), 0, 0), (169, .iload 10, (0, 0, 0, 0), 0, 0), (171, .ifCond .ne 7, (0, 0, 0, 0), 0, 0), (174, .iconst 1, (0, 0, 0, 0), 1, 0), (175, .goto 4, (0, 0, 0, 0), 0, 0), (178, .iconst 0, (0, 0, 0, 0), 0, 0), (179, .iastore, (0, 0, 0, 0), 0, 0), (180, .goto 44, (0, 0, 0, 0), 0, 0), (183, .iload 7, (0, 0, 0, 0), 0, 0), (185, .iconst 2, (0, 0, 0, 0), 2, 0), (186, .if_icmp .ge 5, (0, 0, 0, 0), 0, 0), (189, .iconst 0, (0, 0, 0, 0), 0, 0), (190, .ireturn, (0, 0, 0, 0), 0, 0), (191, .iinc 7 (-1), (0, 0, 0, 0), (-1), 0), (194, .aload_n 0, (0, 0, 0, 0), 0, 0), (195, .getfield 23, (132, 4, 3, 0), 0, 0), (198, .iload 7, (0, 0, 0, 0), 0, 0), (200, .iconst 1, (0, 0, 0, 0), 1, 0), (201, .isub, (0, 0, 0, 0), 0, 0), (202, .iload 9, (0, 0, 0, 0), 0, 0), (204, .aload_n 0, (0, 0, 0, 0), 0, 0), (205, .getfield 23, (132, 4, 3, 0), 0, 0), (208, .iload 7, (0, 0, 0, 0), 0, 0), (210, .iconst 1, (0, 0, 0, 0), 1, 0), (211, .isub, (0, 0, 0, 0), 0, 0), (212, .iaload, (0, 0, 0, 0), 0, 0), (213, .aload_n 0, (0, 0, 0, 0), 0, 0), (214, .getfield 23, (132, 4, 3, 0), 0, 0), (217, .iload 7, (0, 0, 0, 0), 0, 0), (219, .iaload, (0, 0, 0, 0), 0, 0), (220, .invokestatic 36, (0, 3, 0, 0), 0, 0), (223, .iastore, (0, 0, 0, 0), 0, 0), (224, .iinc 8 1, (0, 0, 0, 0), 1, 0), (227, .goto (-186), (0, 0, 0, 0), 0, 0), (230, .aload_n 0, (0, 0, 0, 0), 0, 0), (231, .getfield 23, (132, 4, 3, 0), 0, 0), (234, .iconst 0, (0, 0, 0, 0), 0, 0), (235, .iaload, (0, 0, 0, 0), 0, 0), (236, .ireturn, (0, 0, 0, 0), 0, 0)]
theorem okX4_value : kX4_value.all (xOk RX4 cX4_value) = true := by decide +kernel
def kX4_fact : List xI := [(0, .iload_n 0, (0, 0, 0, 0), 0, 0), (1, .tableswitch 71 10000 10004 #[35, 42, 52, 59, 64], (0, 0, 0, 0), 0, 0), (36, .aload_n 1, (0, 0, 0, 0), 0, 0), (37, .getfield 40, (199, 0, 8, 0), 0, 0), (40, .iload_n 3, (0, 0, 0, 0), 0, 0), (41, .iaload, (0, 0, 0, 0), 0, 0), (42, .ireturn, (0, 0, 0, 0), 0, 0), (43, .aload_n 1, (0, 0, 0, 0), 0, 0), (44, .getfield 43, (197, 0, 7, 0), 0, 0), (47, .iload_n 3, (0, 0, 0, 0), 0, 0), (48, .iaload, (0, 0, 0, 0), 0, 0), (49, .invokestatic 46, (0, 3, 0, 0), 0, 0), (52, .ireturn, (0, 0, 0, 0), 0, 0), (53, .aload_n 1, (0, 0, 0, 0), 0, 0), (54, .getfield 52, (206, 0, 11, 0), 0, 0), (57, .iload_n 2, (0, 0, 0, 0), 0, 0), (58, .iaload, (0, 0, 0, 0), 0, 0), (59, .ireturn, (0, 0, 0, 0), 0, 0), (60, .aload_n 1, (0, 0, 0, 0), 0, 0), (61, .getfield 55, (191, 0, 5, 0), 0, 0), (64, .ireturn, (0, 0, 0, 0), 0, 0), (65, .aload_n 1, (0, 0, 0, 0), 0, 0), (66, .getfield 58, (210, 0, 13, 0), 0, 0), (69, .iload_n 2, (0, 0, 0, 0), 0, 0), (70, .iaload, (0, 0, 0, 0), 0, 0), (71, .ireturn, (0, 0, 0, 0), 0, 0), (72, .aload_n 1, (0, 0, 0, 0), 0, 0), (73, .getfield 61, (184, 0, 2, 0), 0, 0), (76, .invokestatic 46, (0, 3, 0, 0), 0, 0), (79, .ireturn, (0, 0, 0, 0), 0, 0)]
theorem okX4_fact : kX4_fact.all (xOk RX4 cX4_fact) = true := by decide +kernel
def kX4_joined : List xI := [(0, .iload_n 0, (0, 0, 0, 0), 0, 0), (1, .tableswitch 97 10006 10011 #[39, 53, 67, 78, 89, 93], (0, 0, 0, 0), 0, 0), (40, .iload_n 1, (0, 0, 0, 0), 0, 0), (41, .ifCond .ne 7, (0, 0, 0, 0), 0, 0), (44, .iload_n 2, (0, 0, 0, 0), 0, 0), (45, .ifCond .eq 7, (0, 0, 0, 0), 0, 0), (48, .iconst 1, (0, 0, 0, 0), 1, 0), (49, .goto 4, (0, 0, 0, 0), 0, 0), (52, .iconst 0, (0, 0, 0, 0), 0, 0), (53, .ireturn, (0, 0, 0, 0), 0, 0), (54, .iload_n 1, (0, 0, 0, 0), 0, 0), (55, .ifCond .eq 11, (0, 0, 0, 0), 0, 0), (58, .iload_n 2, (0, 0, 0, 0), 0, 0), (59, .ifCond .eq 7, (0, 0, 0, 0), 0, 0), (62, .iconst 1, (0, 0, 0, 0), 1, 0), (63, .goto 4, (0, 0, 0, 0), 0, 0), (66, .iconst 0, (0, 0, 0, 0), 0, 0), (67, .ireturn, (0, 0, 0, 0), 0, 0), (68, .iload_n 1, (0, 0, 0, 0), 0, 0), (69, .iload_n 2, (0, 0, 0, 0), 0, 0), (70, .if_icmp .ge 7, (0, 0, 0, 0), 0, 0), (73, .iconst 1, (0, 0, 0, 0), 1, 0), (74, .goto 4, (0, 0, 0, 0), 0, 0), (77, .iconst 0, (0, 0, 0, 0), 0, 0), (78, .ireturn, (0, 0, 0, 0), 0, 0), (79, .iload_n 1, (0, 0, 0, 0), 0, 0), (80, .iload_n 2, (0, 0, 0, 0), 0, 0), (81, .if_icmp .ne 7, (0, 0, 0, 0), 0, 0), (84, .iconst 1, (0, 0, 0, 0), 1, 0), (85, .goto 4, (0, 0, 0, 0), 0, 0), (88, .iconst 0, (0, 0, 0, 0), 0, 0), (89, .ireturn, (0, 0, 0, 0), 0, 0), (90, .iload_n 1, (0, 0, 0, 0), 0, 0), (91, .iload_n 2, (0, 0, 0, 0), 0, 0), (92, .iadd, (0, 0, 0, 0), 0, 0), (93, .ireturn, (0, 0, 0, 0), 0, 0), (94, .iload_n 1, (0, 0, 0, 0), 0, 0), (95, .iload_n 2, (0, 0, 0, 0), 0, 0), (96, .isub, (0, 0, 0, 0), 0, 0), (97, .ireturn, (0, 0, 0, 0), 0, 0), (98, .iload_n 1, (0, 0, 0, 0), 0, 0), (99, .iload_n 2, (0, 0, 0, 0), 0, 0), (100, .imul, (0, 0, 0, 0), 0, 0), (101, .ireturn, (0, 0, 0, 0), 0, 0)]
theorem okX4_joined : kX4_joined.all (xOk RX4 cX4_joined) = true := by decide +kernel
def kX5_set : List xI := [(0, .iload_n 1, (0, 0, 0, 0), 0, 0), (1, .iconst 0, (0, 0, 0, 0), 0, 0), (2, .bipush 7, (0, 0, 0, 0), 7, 0), (4, .invokestatic 52, (0, 3, 0, 0), 0, 0), (7, .ifCond .eq 12, (0, 0, 0, 0), 0, 0), (10, .aload_n 0, (0, 0, 0, 0), 0, 0), (11, .iload_n 2, (0, 0, 0, 0), 0, 0), (12, .iload_n 1, (0, 0, 0, 0), 0, 0), (13, .invokevirtual 56, (0, 0, 0, 0), 0, 0), (16, .ifCond .ne 6, (0, 0, 0, 0), 0, 0), (19, .bipush (-2), (0, 0, 0, 0), (-2), 0), (21, .ireturn, (0, 0, 0, 0), 0, 0), (22, .iload_n 3, (0, 0, 0, 0), 0, 0), (23, .getstatic 60, (344, 0, 0, 0), 0, 0), (26, .iload_n 1, (0, 0, 0, 0), 0, 0), (27, .iaload, (0, 0, 0, 0), 0, 0), (28, .getstatic 64, (346, 1, 0, 0), 0, 0), (31, .iload_n 1, (0, 0, 0, 0), 0, 0), (32, .iaload, (0, 0, 0, 0), 0, 0), (33, .invokestatic 52, (0, 3, 0, 0), 0, 0), (36, .ifCond .ne 6, (0, 0, 0, 0), 0, 0), (39, .bipush (-2), (0, 0, 0, 0), (-2), 0), (41, .ireturn, (0, 0, 0, 0), 0, 0), (42, .aload_n 0, (0, 0, 0, 0), 0, 0), (43, .getfield 28, (300, 5, 2, 0), 0, 0), (46, .iload_n 2, (0, 0, 0, 0), 0, 0), (47, .iload_n 1, (0, 0, 0, 0), 0, 0), (48, .invokevirtual 67, (0, 0, 0, 0), 0, 0), (51, .istore 4, (0, 0, 0, 0), 0, 0), (53, .aload_n 0, (0, 0, 0, 0), 0, 0), (54, .getfield 28, (300, 5, 2, 0), 0, 0), (57, .iload_n 2, (0, 0, 0, 0), 0, 0), (58, .iload_n 1, (0, 0, 0, 0), 0, 0), (59, .iload_n 3, (0, 0, 0, 0), 0, 0), (60, .invokevirtual 71, (0, 0, 0, 0), 0, 0), (63, .iload 4, (0, 0, 0, 0), 0, 0), (65, .ireturn, (0, 0, 0, 0), 0, 0)]
theorem okX5_set : kX5_set.all (xOk RX5 cX5_set) = true := by decide +kernel
def kX5_person : List xI := [(0, .iload_n 1, (0, 0, 0, 0), 0, 0), (1, .iconst 0, (0, 0, 0, 0), 0, 0), (2, .iconst 5, (0, 0, 0, 0), 5, 0), (3, .invokestatic 52, (0, 3, 0, 0), 0, 0), (6, .ifCond .eq 13, (0, 0, 0, 0), 0, 0), (9, .iload_n 2, (0, 0, 0, 0), 0, 0), (10, .iconst 0, (0, 0, 0, 0), 0, 0), (11, .bipush 9, (0, 0, 0, 0), 9, 0), (13, .invokestatic 52, (0, 3, 0, 0), 0, 0), (16, .ifCond .ne 6, (0, 0, 0, 0), 0, 0), (19, .bipush (-2), (0, 0, 0, 0), (-2), 0), (21, .ireturn, (0, 0, 0, 0), 0, 0), (22, .aload_n 0, (0, 0, 0, 0), 0, 0), (23, .getfield 28, (300, 5, 2, 0), 0, 0), (26, .getfield 75, (202, 0, 9, 0), 0, 0), (29, .iconst 4, (0, 0, 0, 0), 4, 0), (30, .if_icmp .lt 6, (0, 0, 0, 0), 0, 0), (33, .bipush (-4), (0, 0, 0, 0), (-4), 0), (35, .ireturn, (0, 0, 0, 0), 0, 0), (36, .aload_n 0, (0, 0, 0, 0), 0, 0), (37, .getfield 28, (300, 5, 2, 0), 0, 0), (40, .iload_n 1, (0, 0, 0, 0), 0, 0), (41, .iload_n 2, (0, 0, 0, 0), 0, 0), (42, .invokevirtual 79, (0, 0, 0, 0), 0, 0), (45, .ireturn, (0, 0, 0, 0), 0, 0)]
theorem okX5_person : kX5_person.all (xOk RX5 cX5_person) = true := by decide +kernel
def kX5_told : List xI := [(0, .aload_n 0, (0, 0, 0, 0), 0, 0), (1, .iload_n 1, (0, 0, 0, 0), 0, 0), (2, .iload_n 2, (0, 0, 0, 0), 0, 0), (3, .invokevirtual 56, (0, 0, 0, 0), 0, 0), (6, .ifCond .eq 15, (0, 0, 0, 0), 0, 0), (9, .aload_n 0, (0, 0, 0, 0), 0, 0), (10, .getfield 28, (300, 5, 2, 0), 0, 0), (13, .iload_n 1, (0, 0, 0, 0), 0, 0), (14, .iload_n 2, (0, 0, 0, 0), 0, 0), (15, .invokevirtual 67, (0, 0, 0, 0), 0, 0), (18, .goto 6, (0, 0, 0, 0), 0, 0), (21, .sipush (-1000), (0, 0, 0, 0), (-1000), 0), (24, .ireturn, (0, 0, 0, 0), 0, 0)]
theorem okX5_told : kX5_told.all (xOk RX5 cX5_told) = true := by decide +kernel
def kX5_asks : List xI := [(0, .aload_n 0, (0, 0, 0, 0), 0, 0), (1, .iload_n 1, (0, 0, 0, 0), 0, 0), (2, .invokevirtual 82, (0, 0, 0, 0), 0, 0), (5, .ifCond .eq 10, (0, 0, 0, 0), 0, 0), (8, .iload_n 2, (0, 0, 0, 0), 0, 0), (9, .invokestatic 86, (0, 3, 0, 0), 0, 0), (12, .ifCond .ne 6, (0, 0, 0, 0), 0, 0), (15, .bipush (-2), (0, 0, 0, 0), (-2), 0), (17, .ireturn, (0, 0, 0, 0), 0, 0), (18, .iload_n 3, (0, 0, 0, 0), 0, 0), (19, .tableswitch 63 0 2 #[25, 43, 53], (0, 0, 0, 0), 0, 0), (44, .aload_n 0, (0, 0, 0, 0), 0, 0), (45, .getfield 28, (300, 5, 2, 0), 0, 0), (48, .iload_n 1, (0, 0, 0, 0), 0, 0), (49, .iload_n 2, (0, 0, 0, 0), 0, 0), (50, .invokevirtual 89, (0, 0, 0, 0), 0, 0), (53, .ifCond .eq 7, (0, 0, 0, 0), 0, 0), (56, .iconst 1, (0, 0, 0, 0), 1, 0), (57, .goto 4, (0, 0, 0, 0), 0, 0), (60, .iconst 0, (0, 0, 0, 0), 0, 0), (61, .ireturn, (0, 0, 0, 0), 0, 0), (62, .aload_n 0, (0, 0, 0, 0), 0, 0), (63, .getfield 28, (300, 5, 2, 0), 0, 0), (66, .iload_n 1, (0, 0, 0, 0), 0, 0), (67, .iload_n 2, (0, 0, 0, 0), 0, 0), (68, .invokevirtual 92, (0, 0, 0, 0), 0, 0), (71, .ireturn, (0, 0, 0, 0), 0, 0), (72, .aload_n 0, (0, 0, 0, 0), 0, 0), (73, .getfield 28, (300, 5, 2, 0), 0, 0), (76, .iload_n 1, (0, 0, 0, 0), 0, 0), (77, .iload_n 2, (0, 0, 0, 0), 0, 0), (78, .invokevirtual 95, (0, 0, 0, 0), 0, 0), (81, .ireturn, (0, 0, 0, 0), 0, 0), (82, .bipush (-2), (0, 0, 0, 0), (-2), 0), (84, .ireturn, (0, 0, 0, 0), 0, 0)]
theorem okX5_asks : kX5_asks.all (xOk RX5 cX5_asks) = true := by decide +kernel
def kX5_feed : List xI := [(0, .iload_n 1, (0, 0, 0, 0), 0, 0), (1, .iconst 0, (0, 0, 0, 0), 0, 0), (2, .sipush 255, (0, 0, 0, 0), 255, 0), (5, .invokestatic 52, (0, 3, 0, 0), 0, 0), (8, .ifCond .ne 6, (0, 0, 0, 0), 0, 0), (11, .bipush (-2), (0, 0, 0, 0), (-2), 0), (13, .ireturn, (0, 0, 0, 0), 0, 0), (14, .aload_n 0, (0, 0, 0, 0), 0, 0), (15, .getfield 19, (299, 5, 1, 0), 0, 0), (18, .getfield 98, (151, 3, 1, 0), 0, 0), (21, .sipush 160, (0, 0, 0, 0), 160, 0), (24, .if_icmp .lt 6, (0, 0, 0, 0), 0, 0), (27, .bipush (-4), (0, 0, 0, 0), (-4), 0), (29, .ireturn, (0, 0, 0, 0), 0, 0), (30, .aload_n 0, (0, 0, 0, 0), 0, 0), (31, .getfield 19, (299, 5, 1, 0), 0, 0), (34, .iload_n 1, (0, 0, 0, 0), 0, 0), (35, .invokevirtual 101, (0, 0, 0, 0), 0, 0), (38, .aload_n 0, (0, 0, 0, 0), 0, 0), (39, .getfield 19, (299, 5, 1, 0), 0, 0), (42, .getfield 98, (151, 3, 1, 0), 0, 0), (45, .ireturn, (0, 0, 0, 0), 0, 0)]
theorem okX5_feed : kX5_feed.all (xOk RX5 cX5_feed) = true := by decide +kernel
def kX5_text : List xI := [(0, .aload_n 0, (0, 0, 0, 0), 0, 0), (1, .getfield 10, (298, 5, 0, 0), 0, 0), (4, .getfield 104, (131, 4, 2, 0), 0, 0), (7, .istore_n 1, (0, 0, 0, 0), 0, 0), (8, .iload_n 1, (0, 0, 0, 0), 0, 0), (9, .bipush 6, (0, 0, 0, 0), 6, 0), (11, .if_icmp .lt 6, (0, 0, 0, 0), 0, 0), (14, .bipush (-4), (0, 0, 0, 0), (-4), 0), (16, .ireturn, (0, 0, 0, 0), 0, 0), (17, .aload_n 0, (0, 0, 0, 0), 0, 0), (18, .getfield 19, (299, 5, 1, 0), 0, 0), (21, .aload_n 0, (0, 0, 0, 0), 0, 0), (22, .getfield 10, (298, 5, 0, 0), 0, 0), (25, .getfield 105, (127, 4, 0, 0), 0, 0), (28, .iload_n 1, (0, 0, 0, 0), 0, 0), (29, .aaload, (0, 0, 0, 0), 0, 0), (30, .aload_n 0, (0, 0, 0, 0), 0, 0), (31, .getfield 10, (298, 5, 0, 0), 0, 0), (34, .getfield 109, (129, 4, 1, 0), 0, 0), (37, .iload_n 1, (0, 0, 0, 0), 0, 0), (38, .aaload, (0, 0, 0, 0), 0, 0), (39, .invokevirtual 112, (0, 0, 0, 0), 0, 0), (42, .istore_n 2, (0, 0, 0, 0), 0, 0), (43, .aload_n 0, (0, 0, 0, 0), 0, 0), (44, .getfield 19, (299, 5, 1, 0), 0, 0), (47, .iconst 0, (0, 0, 0, 0), 0, 0), (48, .putfield 98, (151, 3, 1, 0), 0, 0), (51, .iload_n 2, (0, 0, 0, 0), 0, 0), (52, .ifCond .ne 14, (0, 0, 0, 0), 0, 0), (55, .bipush (-100), (0, 0, 0, 0), (-100), 0), (57, .aload_n 0, (0, 0, 0, 0), 0, 0), (58, .getfield 19, (299, 5, 1, 0), 0, 0), (61, .getfield 116, (152, 3, 2, 0), 0, 0), (64, .isub, (0, 0, 0, 0), 0, 0), (65, .ireturn, (0, 0, 0, 0), 0, 0), (66, .aload_n 0, (0, 0, 0, 0), 0, 0), (67, .getfield 10, (298, 5, 0, 0), 0, 0), (70, .dup, (0, 0, 0, 0), 0, 0), (71, .getfield 104, (131, 4, 2, 0), 0, 0), (74, .iconst 1, (0, 0, 0, 0), 1, 0), (75, .iadd, (0, 0, 0, 0), 0, 0), (76, .putfield 104, (131, 4, 2, 0), 0, 0), (79, .iload_n 1, (0, 0, 0, 0), 0, 0), (80, .ireturn, (0, 0, 0, 0), 0, 0)]
theorem okX5_text : kX5_text.all (xOk RX5 cX5_text) = true := by decide +kernel
def kX5_force : List xI := [(0, .iload_n 1, (0, 0, 0, 0), 0, 0), (1, .iconst 0, (0, 0, 0, 0), 0, 0), (2, .aload_n 0, (0, 0, 0, 0), 0, 0), (3, .getfield 10, (298, 5, 0, 0), 0, 0), (6, .getfield 104, (131, 4, 2, 0), 0, 0), (9, .iconst 1, (0, 0, 0, 0), 1, 0), (10, .isub, (0, 0, 0, 0), 0, 0), (11, .invokestatic 52, (0, 3, 0, 0), 0, 0), (14, .ifCond .ne 6, (0, 0, 0, 0), 0, 0), (17, .bipush (-2), (0, 0, 0, 0), (-2), 0), (19, .ireturn, (0, 0, 0, 0), 0, 0), (20, .aload_n 0, (0, 0, 0, 0), 0, 0), (21, .getfield 28, (300, 5, 2, 0), 0, 0), (24, .getfield 119, (213, 0, 14, 0), 0, 0), (27, .istore_n 2, (0, 0, 0, 0), 0, 0), (28, .aload_n 0, (0, 0, 0, 0), 0, 0), (29, .getfield 28, (300, 5, 2, 0), 0, 0), (32, .iload_n 1, (0, 0, 0, 0), 0, 0), (33, .putfield 119, (213, 0, 14, 0), 0, 0), (36, .iload_n 2, (0, 0, 0, 0), 0, 0), (37, .ireturn, (0, 0, 0, 0), 0, 0)]
theorem okX5_force : kX5_force.all (xOk RX5 cX5_force) = true := by decide +kernel
def kX5_does : List xI := [(0, .aload_n 0, (0, 0, 0, 0), 0, 0), (1, .iload_n 1, (0, 0, 0, 0), 0, 0), (2, .invokevirtual 82, (0, 0, 0, 0), 0, 0), (5, .ifCond .eq 10, (0, 0, 0, 0), 0, 0), (8, .iload_n 2, (0, 0, 0, 0), 0, 0), (9, .invokestatic 86, (0, 3, 0, 0), 0, 0), (12, .ifCond .ne 6, (0, 0, 0, 0), 0, 0), (15, .bipush (-2), (0, 0, 0, 0), (-2), 0), (17, .ireturn, (0, 0, 0, 0), 0, 0), (18, .aload_n 0, (0, 0, 0, 0), 0, 0), (19, .getfield 28, (300, 5, 2, 0), 0, 0), (22, .iload_n 1, (0, 0, 0, 0), 0, 0), (23, .iload_n 2, (0, 0, 0, 0), 0, 0), (24, .invokevirtual 122, (0, 0, 0, 0), 0, 0), (27, .ifCond .ne 6, (0, 0, 0, 0), 0, 0), (30, .bipush (-3), (0, 0, 0, 0), (-3), 0), (32, .ireturn, (0, 0, 0, 0), 0, 0), (33, .aload_n 0, (0, 0, 0, 0), 0, 0), (34, .getfield 28, (300, 5, 2, 0), 0, 0), (37, .iload_n 1, (0, 0, 0, 0), 0, 0), (38, .iload_n 2, (0, 0, 0, 0), 0, 0), (39, .invokevirtual 125, (0, 0, 0, 0), 0, 0), (42, .aload_n 0, (0, 0, 0, 0), 0, 0), (43, .getfield 28, (300, 5, 2, 0), 0, 0), (46, .getfield 129, (188, 0, 3, 0), 0, 0), (49, .ireturn, (0, 0, 0, 0), 0, 0)]
theorem okX5_does : kX5_does.all (xOk RX5 cX5_does) = true := by decide +kernel
def kX5_year : List xI := [(0, .aload_n 0, (0, 0, 0, 0), 0, 0), (1, .getfield 28, (300, 5, 2, 0), 0, 0), (4, .getfield 132, (192, 0, 5, 0), 0, 0), (7, .sipush 999, (0, 0, 0, 0), 999, 0), (10, .if_icmp .lt 8, (0, 0, 0, 0), 0, 0), (13, .bipush (-3), (0, 0, 0, 0), (-3), 0), (15, .goto 10, (0, 0, 0, 0), 0, 0), (18, .aload_n 0, (0, 0, 0, 0), 0, 0), (19, .getfield 28, (300, 5, 2, 0), 0, 0), (22, .invokevirtual 135, (0, 0, 0, 0), 0, 0), (25, .ireturn, (0, 0, 0, 0), 0, 0)]
theorem okX5_year : kX5_year.all (xOk RX5 cX5_year) = true := by decide +kernel
def kX5_run : List xI := [(0, .iload_n 1, (0, 0, 0, 0), 0, 0), (1, .iconst 0, (0, 0, 0, 0), 0, 0), (2, .bipush 20, (0, 0, 0, 0), 20, 0), (4, .invokestatic 52, (0, 3, 0, 0), 0, 0), (7, .ifCond .eq 12, (0, 0, 0, 0), 0, 0), (10, .iload_n 2, (0, 0, 0, 0), 0, 0), (11, .iconst 0, (0, 0, 0, 0), 0, 0), (12, .iconst 2, (0, 0, 0, 0), 2, 0), (13, .invokestatic 52, (0, 3, 0, 0), 0, 0), (16, .ifCond .ne 6, (0, 0, 0, 0), 0, 0), (19, .bipush (-2), (0, 0, 0, 0), (-2), 0), (21, .ireturn, (0, 0, 0, 0), 0, 0), (22, .aload_n 0, (0, 0, 0, 0), 0, 0), (23, .getfield 32, (301, 5, 3, 0), 0, 0), (26, .aload_n 0, (0, 0, 0, 0), 0, 0), (27, .getfield 28, (300, 5, 2, 0), 0, 0), (30, .invokevirtual 139, (0, 0, 0, 0), 0, 0), (33, .aload_n 0, (0, 0, 0, 0), 0, 0), (34, .getfield 32, (301, 5, 3, 0), 0, 0), (37, .iload_n 1, (0, 0, 0, 0), 0, 0), (38, .invokevirtual 143, (0, 0, 0, 0), 0, 0), (41, .istore_n 3, (0, 0, 0, 0), 0, 0), (42, .iload_n 2, (0, 0, 0, 0), 0, 0), (43, .lookupswitch 41 #[(0, 25), (1, 33)], (0, 0, 0, 0), 0, 0), (68, .aload_n 0, (0, 0, 0, 0), 0, 0), (69, .getfield 32, (301, 5, 3, 0), 0, 0), (72, .getfield 147, (185, 0, 2, 0), 0, 0), (75, .ireturn, (0, 0, 0, 0), 0, 0), (76, .aload_n 0, (0, 0, 0, 0), 0, 0), (77, .getfield 32, (301, 5, 3, 0), 0, 0), (80, .getfield 150, (194, 0, 6, 0), 0, 0), (83, .ireturn, (0, 0, 0, 0), 0, 0), (84, .iload_n 3, (0, 0, 0, 0), 0, 0), (85, .ireturn, (0, 0, 0, 0), 0, 0)]
theorem okX5_run : kX5_run.all (xOk RX5 cX5_run) = true := by decide +kernel
def kX5_lasts : List xI := [(0, .iload_n 1, (0, 0, 0, 0), 0, 0), (1, .invokestatic 153, (0, 3, 0, 0), 0, 0), (4, .ifCond .ne 6, (0, 0, 0, 0), 0, 0), (7, .bipush (-2), (0, 0, 0, 0), (-2), 0), (9, .ireturn, (0, 0, 0, 0), 0, 0), (10, .aload_n 0, (0, 0, 0, 0), 0, 0), (11, .getfield 32, (301, 5, 3, 0), 0, 0), (14, .aload_n 0, (0, 0, 0, 0), 0, 0), (15, .getfield 28, (300, 5, 2, 0), 0, 0), (18, .invokevirtual 139, (0, 0, 0, 0), 0, 0), (21, .iconst 0, (0, 0, 0, 0), 0, 0), (22, .istore_n 2, (0, 0, 0, 0), 0, 0), (23, .iload_n 2, (0, 0, 0, 0), 0, 0), (24, .bipush 40, (0, 0, 0, 0), 40, 0), (26, .if_icmp .gt 32, (0, 0, 0, 0), 0, 0), (29, .aload_n 0, (0, 0, 0, 0), 0, 0), (30, .getfield 32, (301, 5, 3, 0), 0, 0), (33, .getfield 156, (181, 0, 1, 0), 0, 0), (36, .iload_n 1, (0, 0, 0, 0), 0, 0), (37, .iaload, (0, 0, 0, 0), 0, 0), (38, .ifCond .ne 5, (0, 0, 0, 0), 0, 0), (41, .iload_n 2, (0, 0, 0, 0), 0, 0), (42, .ireturn, (0, 0, 0, 0), 0, 0), (43, .aload_n 0, (0, 0, 0, 0), 0, 0), (44, .getfield 32, (301, 5, 3, 0), 0, 0), (47, .iconst 1, (0, 0, 0, 0), 1, 0), (48, .invokevirtual 143, (0, 0, 0, 0), 0, 0), (51, .pop, (0, 0, 0, 0), 0, 0), (52, .iinc 2 1, (0, 0, 0, 0), 1, 0), (55, .goto (-32), (0, 0, 0, 0), 0, 0), (58, .iconst (-1), (0, 0, 0, 0), (-1), 0), (59, .ireturn, (0, 0, 0, 0), 0, 0)]
theorem okX5_lasts : kX5_lasts.all (xOk RX5 cX5_lasts) = true := by decide +kernel
def kX5_cover : List xI := [(0, .iload_n 1, (0, 0, 0, 0), 0, 0), (1, .iconst 0, (0, 0, 0, 0), 0, 0), (2, .sipush 255, (0, 0, 0, 0), 255, 0), (5, .invokestatic 52, (0, 3, 0, 0), 0, 0), (8, .ifCond .eq 12, (0, 0, 0, 0), 0, 0), (11, .iload_n 2, (0, 0, 0, 0), 0, 0), (12, .iconst 0, (0, 0, 0, 0), 0, 0), (13, .iconst 3, (0, 0, 0, 0), 3, 0), (14, .invokestatic 52, (0, 3, 0, 0), 0, 0), (17, .ifCond .ne 6, (0, 0, 0, 0), 0, 0), (20, .bipush (-2), (0, 0, 0, 0), (-2), 0), (22, .ireturn, (0, 0, 0, 0), 0, 0), (23, .aload_n 0, (0, 0, 0, 0), 0, 0), (24, .getfield 28, (300, 5, 2, 0), 0, 0), (27, .iload_n 1, (0, 0, 0, 0), 0, 0), (28, .iload_n 2, (0, 0, 0, 0), 0, 0), (29, .iconst 2, (0, 0, 0, 0), 2, 0), (30, .if_icmp .ge 7, (0, 0, 0, 0), 0, 0), (33, .iconst 1, (0, 0, 0, 0), 1, 0), (34, .goto 4, (0, 0, 0, 0), 0, 0), (37, .iconst 0, (0, 0, 0, 0), 0, 0), (38, .invokevirtual 159, (0, 0, 0, 0), 0, 0), (41, .istore_n 3, (0, 0, 0, 0), 0, 0), (42, .iload_n 3, (0, 0, 0, 0), 0, 0), (43, .iconst (-1), (0, 0, 0, 0), (-1), 0), (44, .if_icmp .ne 5, (0, 0, 0, 0), 0, 0), (47, .iconst (-1), (0, 0, 0, 0), (-1), 0), (48, .ireturn, (0, 0, 0, 0), 0, 0), (49, .iload_n 2, (0, 0, 0, 0), 0, 0), (50, .lookupswitch 40 #[(1, 26), (3, 35)], (0, 0, 0, 0), 0, 0), (76, .aload_n 0, (0, 0, 0, 0), 0, 0), (77, .getfield 28, (300, 5, 2, 0), 0, 0), (80, .iload_n 3, (0, 0, 0, 0), 0, 0), (81, .invokevirtual 163, (0, 0, 0, 0), 0, 0), (84, .ireturn, (0, 0, 0, 0), 0, 0), (85, .iload_n 3, (0, 0, 0, 0), 0, 0), (86, .invokestatic 166, (0, 3, 0, 0), 0, 0), (89, .ireturn, (0, 0, 0, 0), 0, 0), (90, .iload_n 3, (0, 0, 0, 0), 0, 0), (91, .ireturn, (0, 0, 0, 0), 0, 0)]
theorem okX5_cover : kX5_cover.all (xOk RX5 cX5_cover) = true := by decide +kernel
def kX5_rota : List xI := [(0, .iload_n 1, (0, 0, 0, 0), 0, 0), (1, .iconst 0, (0, 0, 0, 0), 0, 0), (2, .iconst 2, (0, 0, 0, 0), 2, 0), (3, .invokestatic 52, (0, 3, 0, 0), 0, 0), (6, .ifCond .ne 6, (0, 0, 0, 0), 0, 0), (9, .bipush (-2), (0, 0, 0, 0), (-2), 0), (11, .ireturn, (0, 0, 0, 0), 0, 0), (12, .aload_n 0, (0, 0, 0, 0), 0, 0), (13, .getfield 41, (304, 5, 6, 0), 0, 0), (16, .aload_n 0, (0, 0, 0, 0), 0, 0), (17, .getfield 28, (300, 5, 2, 0), 0, 0), (20, .invokevirtual 171, (0, 0, 0, 0), 0, 0), (23, .iload_n 1, (0, 0, 0, 0), 0, 0), (24, .lookupswitch 44 #[(0, 28), (1, 36)], (0, 0, 0, 0), 0, 0), (52, .aload_n 0, (0, 0, 0, 0), 0, 0), (53, .getfield 41, (304, 5, 6, 0), 0, 0), (56, .getfield 174, (256, 1, 4, 0), 0, 0), (59, .ireturn, (0, 0, 0, 0), 0, 0), (60, .aload_n 0, (0, 0, 0, 0), 0, 0), (61, .getfield 41, (304, 5, 6, 0), 0, 0), (64, .getfield 177, (258, 1, 5, 0), 0, 0), (67, .ireturn, (0, 0, 0, 0), 0, 0), (68, .aload_n 0, (0, 0, 0, 0), 0, 0), (69, .getfield 41, (304, 5, 6, 0), 0, 0), (72, .getfield 180, (260, 1, 6, 0), 0, 0), (75, .ireturn, (0, 0, 0, 0), 0, 0)]
theorem okX5_rota : kX5_rota.all (xOk RX5 cX5_rota) = true := by decide +kernel
def kX5_saves : List xI := [(0, .iload_n 1, (0, 0, 0, 0), 0, 0), (1, .iconst 1, (0, 0, 0, 0), 1, 0), (2, .bipush 10, (0, 0, 0, 0), 10, 0), (4, .invokestatic 52, (0, 3, 0, 0), 0, 0), (7, .ifCond .eq 12, (0, 0, 0, 0), 0, 0), (10, .iload_n 2, (0, 0, 0, 0), 0, 0), (11, .iconst 0, (0, 0, 0, 0), 0, 0), (12, .iconst 1, (0, 0, 0, 0), 1, 0), (13, .invokestatic 52, (0, 3, 0, 0), 0, 0), (16, .ifCond .ne 6, (0, 0, 0, 0), 0, 0), (19, .bipush (-2), (0, 0, 0, 0), (-2), 0), (21, .ireturn, (0, 0, 0, 0), 0, 0), (22, .iconst (-1), (0, 0, 0, 0), (-1), 0), (23, .istore_n 3, (0, 0, 0, 0), 0, 0), (24, .aload_n 0, (0, 0, 0, 0), 0, 0), (25, .iload_n 1, (0, 0, 0, 0), 0, 0), (26, .iconst (-1), (0, 0, 0, 0), (-1), 0), (27, .invokevirtual 182, (0, 0, 0, 0), 0, 0), (30, .istore 4, (0, 0, 0, 0), 0, 0), (32, .iconst 0, (0, 0, 0, 0), 0, 0), (33, .istore 5, (0, 0, 0, 0), 0, 0), (35, .iload 5, (0, 0, 0, 0), 0, 0), (37, .bipush 10, (0, 0, 0, 0), 10, 0), (39, .if_icmp .ge 32, (0, 0, 0, 0), 0, 0), (42, .aload_n 0, (0, 0, 0, 0), 0, 0), (43, .iload_n 1, (0, 0, 0, 0), 0, 0), (44, .iload 5, (0, 0, 0, 0), 0, 0), (46, .invokevirtual 182, (0, 0, 0, 0), 0, 0), (49, .istore 6, (0, 0, 0, 0), 0, 0), (51, .iload 6, (0, 0, 0, 0), 0, 0), (53, .iload 4, (0, 0, 0, 0), 0, 0), (55, .if_icmp .le 10, (0, 0, 0, 0), 0, 0), (58, .iload 6, (0, 0, 0, 0), 0, 0), (60, .istore 4, (0, 0, 0, 0), 0, 0), (62, .iload 5, (0, 0, 0, 0), 0, 0), (64, .istore_n 3, (0, 0, 0, 0), 0, 0), (65, .iinc 5 1, (0, 0, 0, 0), 1, 0), (68, .goto (-33), (0, 0, 0, 0), 0, 0), (71, .iload_n 2, (0, 0, 0, 0), 0, 0), (72, .ifCond .ne 7, (0, 0, 0, 0), 0, 0), (75, .iload_n 3, (0, 0, 0, 0), 0, 0), (76, .goto 5, (0, 0, 0, 0), 0, 0), (79, .iload 4, (0, 0, 0, 0), 0, 0), (81, .ireturn, (0, 0, 0, 0), 0, 0)]
theorem okX5_saves : kX5_saves.all (xOk RX5 cX5_saves) = true := by decide +kernel
def kX5_letGo : List xI := [(0, .iload_n 1, (0, 0, 0, 0), 0, 0), (1, .iconst 0, (0, 0, 0, 0), 0, 0), (2, .iconst 1, (0, 0, 0, 0), 1, 0), (3, .invokestatic 52, (0, 3, 0, 0), 0, 0), (6, .ifCond .ne 6, (0, 0, 0, 0), 0, 0), (9, .bipush (-2), (0, 0, 0, 0), (-2), 0), (11, .ireturn, (0, 0, 0, 0), 0, 0), (12, .iconst (-1), (0, 0, 0, 0), (-1), 0), (13, .istore_n 2, (0, 0, 0, 0), 0, 0), (14, .iconst (-1), (0, 0, 0, 0), (-1), 0), (15, .istore_n 3, (0, 0, 0, 0), 0, 0), (16, .iconst 0, (0, 0, 0, 0), 0, 0), (17, .istore 4, (0, 0, 0, 0), 0, 0), (19, .iload 4, (0, 0, 0, 0), 0, 0), (21, .bipush 8, (0, 0, 0, 0), 8, 0), (23, .if_icmp .ge 45, (0, 0, 0, 0), 0, 0), (26, .aload_n 0, (0, 0, 0, 0), 0, 0), (27, .getfield 28, (300, 5, 2, 0), 0, 0), (30, .iload 4, (0, 0, 0, 0), 0, 0), (32, .invokevirtual 185, (0, 0, 0, 0), 0, 0), (35, .istore 5, (0, 0, 0, 0), 0, 0), (37, .aload_n 0, (0, 0, 0, 0), 0, 0), (38, .getfield 28, (300, 5, 2, 0), 0, 0), (41, .getfield 156, (181, 0, 1, 0), 0, 0), (44, .iload 4, (0, 0, 0, 0), 0, 0), (46, .iaload, (0, 0, 0, 0), 0, 0), (47, .ifCond .le 15, (0, 0, 0, 0), 0, 0), (50, .iload 5, (0, 0, 0, 0), 0, 0), (52, .iload_n 3, (0, 0, 0, 0), 0, 0), (53, .if_icmp .le 9, (0, 0, 0, 0), 0, 0), (56, .iload 5, (0, 0, 0, 0), 0, 0), (58, .istore_n 3, (0, 0, 0, 0), 0, 0), (59, .iload 4, (0, 0, 0, 0), 0, 0), (61, .istore_n 2, (0, 0, 0, 0), 0, 0), (62, .iinc 4 1, (0, 0, 0, 0), 1, 0), (65, .goto (-46), (0, 0, 0, 0), 0, 0), (68, .iload_n 1, (0, 0, 0, 0), 0, 0), (69, .ifCond .ne 7, (0, 0, 0, 0), 0, 0), (72, .iload_n 2, (0, 0, 0, 0), 0, 0), (73, .goto 4, (0, 0, 0, 0), 0, 0), (76, .iload_n 3, (0, 0, 0, 0), 0, 0), (77, .ireturn, (0, 0, 0, 0), 0, 0)]
theorem okX5_letGo : kX5_letGo.all (xOk RX5 cX5_letGo) = true := by decide +kernel
def kX5_share : List xI := [(0, .aload_n 0, (0, 0, 0, 0), 0, 0), (1, .getfield 28, (300, 5, 2, 0), 0, 0), (4, .getfield 129, (188, 0, 3, 0), 0, 0), (7, .invokestatic 166, (0, 3, 0, 0), 0, 0), (10, .aload_n 0, (0, 0, 0, 0), 0, 0), (11, .getfield 28, (300, 5, 2, 0), 0, 0), (14, .getfield 147, (185, 0, 2, 0), 0, 0), (17, .invokestatic 166, (0, 3, 0, 0), 0, 0), (20, .iload_n 1, (0, 0, 0, 0), 0, 0), (21, .invokestatic 188, (0, 3, 0, 0), 0, 0), (24, .lreturn, (0, 0, 0, 0), 0, 0)]
theorem okX5_share : kX5_share.all (xOk RX5 cX5_share) = true := by decide +kernel
def kX5_tells : List xI := [(0, .aload_n 0, (0, 0, 0, 0), 0, 0), (1, .iload_n 1, (0, 0, 0, 0), 0, 0), (2, .invokevirtual 192, (0, 0, 0, 0), 0, 0), (5, .astore 4, (0, 0, 0, 0), 0, 0), (7, .aload 4, (0, 0, 0, 0), 0, 0), (9, .ifnull 21, (0, 0, 0, 0), 0, 0), (12, .aload_n 0, (0, 0, 0, 0), 0, 0), (13, .iload_n 2, (0, 0, 0, 0), 0, 0), (14, .invokevirtual 82, (0, 0, 0, 0), 0, 0), (17, .ifCond .eq 13, (0, 0, 0, 0), 0, 0), (20, .iload_n 3, (0, 0, 0, 0), 0, 0), (21, .iconst 0, (0, 0, 0, 0), 0, 0), (22, .bipush 8, (0, 0, 0, 0), 8, 0), (24, .invokestatic 52, (0, 3, 0, 0), 0, 0), (27, .ifCond .ne 6, (0, 0, 0, 0), 0, 0), (30, .bipush (-2), (0, 0, 0, 0), (-2), 0), (32, .ireturn, (0, 0, 0, 0), 0, 0), (33, .aload 4, (0, 0, 0, 0), 0, 0), (35, .getfield 196, (284, 2, 0, 0), 0, 0), (38, .iconst (-1), (0, 0, 0, 0), (-1), 0), (39, .if_icmp .ne 6, (0, 0, 0, 0), 0, 0), (42, .bipush (-11), (0, 0, 0, 0), (-11), 0), (44, .ireturn, (0, 0, 0, 0), 0, 0), (45, .aload 4, (0, 0, 0, 0), 0, 0), (47, .getfield 199, (287, 2, 1, 0), 0, 0), (50, .bipush 10, (0, 0, 0, 0), 10, 0), (52, .if_icmp .le 6, (0, 0, 0, 0), 0, 0), (55, .bipush (-2), (0, 0, 0, 0), (-2), 0), (57, .ireturn, (0, 0, 0, 0), 0, 0), (58, .aload_n 0, (0, 0, 0, 0), 0, 0), (59, .getfield 32, (301, 5, 3, 0), 0, 0), (62, .aload_n 0, (0, 0, 0, 0), 0, 0), (63, .getfield 28, (300, 5, 2, 0), 0, 0), (66, .invokevirtual 139, (0, 0, 0, 0), 0, 0), (69, .iload_n 3, (0, 0, 0, 0), 0, 0), (70, .tableswitch 135 0 7 #[46, 57, 69, 80, 89, 98, 108, 118], (0, 0, 0, 0), 0, 0), (116, .aload_n 0, (0, 0, 0, 0), 0, 0), (117, .getfield 28, (300, 5, 2, 0), 0, 0), (120, .aload 4, (0, 0, 0, 0), 0, 0), (122, .iload_n 2, (0, 0, 0, 0), 0, 0), (123, .invokevirtual 200, (0, 0, 0, 0), 0, 0), (126, .ireturn, (0, 0, 0, 0), 0, 0), (127, .aload_n 0, (0, 0, 0, 0), 0, 0), (128, .aload 4, (0, 0, 0, 0), 0, 0), (130, .iload_n 2, (0, 0, 0, 0), 0, 0), (131, .bipush 8, (0, 0, 0, 0), 8, 0), (133, .bipush 6, (0, 0, 0, 0), 6, 0), (135, .invokevirtual 204, (0, 0, 0, 0), 0, 0), (138, .ireturn, (0, 0, 0, 0), 0, 0), (139, .aload_n 0, (0, 0, 0, 0), 0, 0), (140, .aload 4, (0, 0, 0, 0), 0, 0), (142, .iload_n 2, (0, 0, 0, 0), 0, 0), (143, .iconst 5, (0, 0, 0, 0), 5, 0), (144, .bipush 10, (0, 0, 0, 0), 10, 0), (146, .invokevirtual 204, (0, 0, 0, 0), 0, 0), (149, .ireturn, (0, 0, 0, 0), 0, 0), (150, .aload_n 0, (0, 0, 0, 0), 0, 0), (151, .aload 4, (0, 0, 0, 0), 0, 0), (153, .iload_n 2, (0, 0, 0, 0), 0, 0), (154, .iconst 2, (0, 0, 0, 0), 2, 0), (155, .invokevirtual 208, (0, 0, 0, 0), 0, 0), (158, .ireturn, (0, 0, 0, 0), 0, 0), (159, .aload_n 0, (0, 0, 0, 0), 0, 0), (160, .aload 4, (0, 0, 0, 0), 0, 0), (162, .iload_n 2, (0, 0, 0, 0), 0, 0), (163, .iconst 2, (0, 0, 0, 0), 2, 0), (164, .invokevirtual 212, (0, 0, 0, 0), 0, 0), (167, .ireturn, (0, 0, 0, 0), 0, 0), (168, .aload_n 0, (0, 0, 0, 0), 0, 0), (169, .aload 4, (0, 0, 0, 0), 0, 0), (171, .iload_n 2, (0, 0, 0, 0), 0, 0), (172, .bipush 7, (0, 0, 0, 0), 7, 0), (174, .invokevirtual 208, (0, 0, 0, 0), 0, 0), (177, .ireturn, (0, 0, 0, 0), 0, 0), (178, .aload_n 0, (0, 0, 0, 0), 0, 0), (179, .aload 4, (0, 0, 0, 0), 0, 0), (181, .iload_n 2, (0, 0, 0, 0), 0, 0), (182, .bipush 7, (0, 0, 0, 0), 7, 0), (184, .invokevirtual 212, (0, 0, 0, 0), 0, 0), (187, .ireturn, (0, 0, 0, 0), 0, 0), (188, .aload_n 0, (0, 0, 0, 0), 0, 0), (189, .aload 4, (0, 0, 0, 0), 0, 0), (191, .iload_n 2, (0, 0, 0, 0), 0, 0), (192, .bipush 13, (0, 0, 0, 0), 13, 0), (194, .aload_n 0, (0, 0, 0, 0), 0, 0), (195, .getfield 10, (298, 5, 0, 0), 0, 0), (198, .getfield 104, (131, 4, 2, 0), 0, 0), (201, .invokevirtual 204, (0, 0, 0, 0), 0, 0), (204, .ireturn, (0, 0, 0, 0), 0, 0), (205, .aload_n 0, (0, 0, 0, 0), 0, 0), (206, .aload 4, (0, 0, 0, 0), 0, 0), (208, .invokevirtual 215, (0, 0, 0, 0), 0, 0), (211, .ireturn, (0, 0, 0, 0), 0, 0)]
theorem okX5_tells : kX5_tells.all (xOk RX5 cX5_tells) = true := by decide +kernel
def kX5_film : List xI := [(0, .aload_n 0, (0, 0, 0, 0), 0, 0), (1, .iload_n 1, (0, 0, 0, 0), 0, 0), (2, .invokevirtual 192, (0, 0, 0, 0), 0, 0), (5, .astore_n 3, (0, 0, 0, 0), 0, 0), (6, .aload_n 3, (0, 0, 0, 0), 0, 0), (7, .ifnull 11, (0, 0, 0, 0), 0, 0), (10, .aload_n 0, (0, 0, 0, 0), 0, 0), (11, .iload_n 2, (0, 0, 0, 0), 0, 0), (12, .invokevirtual 82, (0, 0, 0, 0), 0, 0), (15, .ifCond .ne 6, (0, 0, 0, 0), 0, 0), (18, .bipush (-2), (0, 0, 0, 0), (-2), 0), (20, .ireturn, (0, 0, 0, 0), 0, 0), (21, .aload_n 3, (0, 0, 0, 0), 0, 0), (22, .iconst 1, (0, 0, 0, 0), 1, 0), (23, .bipush 10, (0, 0, 0, 0), 10, 0), (25, .invokevirtual 219, (0, 0, 0, 0), 0, 0), (28, .iconst 0, (0, 0, 0, 0), 0, 0), (29, .istore 4, (0, 0, 0, 0), 0, 0), (31, .iconst 0, (0, 0, 0, 0), 0, 0), (32, .istore 5, (0, 0, 0, 0), 0, 0), (34, .iload 5, (0, 0, 0, 0), 0, 0), (36, .bipush 10, (0, 0, 0, 0), 10, 0), (38, .if_icmp .ge 38, (0, 0, 0, 0), 0, 0), (41, .aload_n 0, (0, 0, 0, 0), 0, 0), (42, .getfield 28, (300, 5, 2, 0), 0, 0), (45, .iload_n 2, (0, 0, 0, 0), 0, 0), (46, .iload 5, (0, 0, 0, 0), 0, 0), (48, .invokevirtual 222, (0, 0, 0, 0), 0, 0), (51, .istore 6, (0, 0, 0, 0), 0, 0), (53, .aload_n 3, (0, 0, 0, 0), 0, 0), (54, .iload 5, (0, 0, 0, 0), 0, 0), (56, .iload 6, (0, 0, 0, 0), 0, 0), (58, .invokevirtual 225, (0, 0, 0, 0), 0, 0), (61, .iload 6, (0, 0, 0, 0), 0, 0), (63, .iconst (-1), (0, 0, 0, 0), (-1), 0), (64, .if_icmp .eq 6, (0, 0, 0, 0), 0, 0), (67, .iinc 4 1, (0, 0, 0, 0), 1, 0), (70, .iinc 5 1, (0, 0, 0, 0), 1, 0), (73, .goto (-39), (0, 0, 0, 0), 0, 0), (76, .iload 4, (0, 0, 0, 0), 0, 0), (78, .ireturn, (0, 0, 0, 0), 0, 0)]
theorem okX5_film : kX5_film.all (xOk RX5 cX5_film) = true := by decide +kernel
def kX5_drawn : List xI := [(0, .iload_n 2, (0, 0, 0, 0), 0, 0), (1, .iconst 0, (0, 0, 0, 0), 0, 0), (2, .bipush 20, (0, 0, 0, 0), 20, 0), (4, .invokestatic 52, (0, 3, 0, 0), 0, 0), (7, .ifCond .eq 12, (0, 0, 0, 0), 0, 0), (10, .aload_n 0, (0, 0, 0, 0), 0, 0), (11, .iload_n 1, (0, 0, 0, 0), 0, 0), (12, .iload_n 2, (0, 0, 0, 0), 0, 0), (13, .invokevirtual 227, (0, 0, 0, 0), 0, 0), (16, .goto 5, (0, 0, 0, 0), 0, 0), (19, .bipush (-2), (0, 0, 0, 0), (-2), 0), (21, .ireturn, (0, 0, 0, 0), 0, 0)]
theorem okX5_drawn : kX5_drawn.all (xOk RX5 cX5_drawn) = true := by decide +kernel
def kX5_chance : List xI := [(0, .iload_n 2, (0, 0, 0, 0), 0, 0), (1, .iconst 1, (0, 0, 0, 0), 1, 0), (2, .bipush 20, (0, 0, 0, 0), 20, 0), (4, .invokestatic 52, (0, 3, 0, 0), 0, 0), (7, .ifCond .eq 13, (0, 0, 0, 0), 0, 0), (10, .iload_n 3, (0, 0, 0, 0), 0, 0), (11, .iconst 0, (0, 0, 0, 0), 0, 0), (12, .bipush 8, (0, 0, 0, 0), 8, 0), (14, .invokestatic 52, (0, 3, 0, 0), 0, 0), (17, .ifCond .ne 7, (0, 0, 0, 0), 0, 0), (20, .ldc2_w 230, (680, 0, 0, 0), 0, (-4611686018427387904)), (23, .lreturn, (0, 0, 0, 0), 0, 0), (24, .iconst 0, (0, 0, 0, 0), 0, 0), (25, .istore 5, (0, 0, 0, 0), 0, 0), (27, .iconst 0, (0, 0, 0, 0), 0, 0), (28, .istore 6, (0, 0, 0, 0), 0, 0), (30, .iload 6, (0, 0, 0, 0), 0, 0), (32, .iload_n 2, (0, 0, 0, 0), 0, 0), (33, .if_icmp .ge 26, (0, 0, 0, 0), 0, 0), (36, .aload_n 0, (0, 0, 0, 0), 0, 0), (37, .iload_n 1, (0, 0, 0, 0), 0, 0), (38, .iload 6, (0, 0, 0, 0), 0, 0), (40, .iadd, (0, 0, 0, 0), 0, 0), (41, .bipush 6, (0, 0, 0, 0), 6, 0), (43, .invokevirtual 227, (0, 0, 0, 0), 0, 0), (46, .iload_n 3, (0, 0, 0, 0), 0, 0), (47, .if_icmp .lt 6, (0, 0, 0, 0), 0, 0), (50, .iinc 5 1, (0, 0, 0, 0), 1, 0), (53, .iinc 6 1, (0, 0, 0, 0), 1, 0), (56, .goto (-26), (0, 0, 0, 0), 0, 0), (59, .iload 5, (0, 0, 0, 0), 0, 0), (61, .iload_n 2, (0, 0, 0, 0), 0, 0), (62, .iload 4, (0, 0, 0, 0), 0, 0), (64, .invokestatic 188, (0, 3, 0, 0), 0, 0), (67, .lreturn, (0, 0, 0, 0), 0, 0)]
theorem okX5_chance : kX5_chance.all (xOk RX5 cX5_chance) = true := by decide +kernel
def kX5_image : List xI := [(0, .aload_n 0, (0, 0, 0, 0), 0, 0), (1, .getfield 35, (302, 5, 4, 0), 0, 0), (4, .aload_n 0, (0, 0, 0, 0), 0, 0), (5, .getfield 28, (300, 5, 2, 0), 0, 0), (8, .invokevirtual 139, (0, 0, 0, 0), 0, 0), (11, .aload_n 0, (0, 0, 0, 0), 0, 0), (12, .iconst 1, (0, 0, 0, 0), 1, 0), (13, .putfield 232, (303, 5, 5, 3), 0, 0), (16, .aload_n 0, (0, 0, 0, 0), 0, 0), (17, .getfield 28, (300, 5, 2, 0), 0, 0), (20, .getfield 75, (202, 0, 9, 0), 0, 0), (23, .ireturn, (0, 0, 0, 0), 0, 0)]
theorem okX5_image : kX5_image.all (xOk RX5 cX5_image) = true := by decide +kernel
def kX5_back : List xI := [(0, .aload_n 0, (0, 0, 0, 0), 0, 0), (1, .getfield 232, (303, 5, 5, 0), 0, 0), (4, .ifCond .ne 6, (0, 0, 0, 0), 0, 0), (7, .bipush (-3), (0, 0, 0, 0), (-3), 0), (9, .ireturn, (0, 0, 0, 0), 0, 0), (10, .aload_n 0, (0, 0, 0, 0), 0, 0), (11, .getfield 28, (300, 5, 2, 0), 0, 0), (14, .aload_n 0, (0, 0, 0, 0), 0, 0), (15, .getfield 35, (302, 5, 4, 0), 0, 0), (18, .invokevirtual 139, (0, 0, 0, 0), 0, 0), (21, .aload_n 0, (0, 0, 0, 0), 0, 0), (22, .getfield 28, (300, 5, 2, 0), 0, 0), (25, .getfield 75, (202, 0, 9, 0), 0, 0), (28, .ireturn, (0, 0, 0, 0), 0, 0)]
theorem okX5_back : kX5_back.all (xOk RX5 cX5_back) = true := by decide +kernel
def kX5_count : List xI := [(0, .iload_n 1, (0, 0, 0, 0), 0, 0), (1, .tableswitch 90 0 5 #[39, 47, 58, 66, 74, 82], (0, 0, 0, 0), 0, 0), (40, .aload_n 0, (0, 0, 0, 0), 0, 0), (41, .getfield 28, (300, 5, 2, 0), 0, 0), (44, .getfield 75, (202, 0, 9, 0), 0, 0), (47, .ireturn, (0, 0, 0, 0), 0, 0), (48, .aload_n 0, (0, 0, 0, 0), 0, 0), (49, .getfield 28, (300, 5, 2, 0), 0, 0), (52, .getfield 147, (185, 0, 2, 0), 0, 0), (55, .invokestatic 166, (0, 3, 0, 0), 0, 0), (58, .ireturn, (0, 0, 0, 0), 0, 0), (59, .aload_n 0, (0, 0, 0, 0), 0, 0), (60, .getfield 28, (300, 5, 2, 0), 0, 0), (63, .getfield 132, (192, 0, 5, 0), 0, 0), (66, .ireturn, (0, 0, 0, 0), 0, 0), (67, .aload_n 0, (0, 0, 0, 0), 0, 0), (68, .getfield 10, (298, 5, 0, 0), 0, 0), (71, .getfield 104, (131, 4, 2, 0), 0, 0), (74, .ireturn, (0, 0, 0, 0), 0, 0), (75, .aload_n 0, (0, 0, 0, 0), 0, 0), (76, .getfield 19, (299, 5, 1, 0), 0, 0), (79, .getfield 98, (151, 3, 1, 0), 0, 0), (82, .ireturn, (0, 0, 0, 0), 0, 0), (83, .aload_n 0, (0, 0, 0, 0), 0, 0), (84, .getfield 28, (300, 5, 2, 0), 0, 0), (87, .getfield 119, (213, 0, 14, 0), 0, 0), (90, .ireturn, (0, 0, 0, 0), 0, 0), (91, .bipush (-2), (0, 0, 0, 0), (-2), 0), (93, .ireturn, (0, 0, 0, 0), 0, 0)]
theorem okX5_count : kX5_count.all (xOk RX5 cX5_count) = true := by decide +kernel
def kX5_sheet : List xI := [(0, .aload_n 0, (0, 0, 0, 0), 0, 0), (1, .iload_n 1, (0, 0, 0, 0), 0, 0), (2, .invokevirtual 192, (0, 0, 0, 0), 0, 0), (5, .astore 4, (0, 0, 0, 0), 0, 0), (7, .aload 4, (0, 0, 0, 0), 0, 0), (9, .ifnull 12, (0, 0, 0, 0), 0, 0), (12, .iload_n 2, (0, 0, 0, 0), 0, 0), (13, .iconst (-1), (0, 0, 0, 0), (-1), 0), (14, .iconst 2, (0, 0, 0, 0), 2, 0), (15, .invokestatic 52, (0, 3, 0, 0), 0, 0), (18, .ifCond .ne 6, (0, 0, 0, 0), 0, 0), (21, .bipush (-2), (0, 0, 0, 0), (-2), 0), (23, .ireturn, (0, 0, 0, 0), 0, 0), (24, .iload_n 2, (0, 0, 0, 0), 0, 0), (25, .iconst (-1), (0, 0, 0, 0), (-1), 0), (26, .if_icmp .ne 12, (0, 0, 0, 0), 0, 0), (29, .aload 4, (0, 0, 0, 0), 0, 0), (31, .iconst (-1), (0, 0, 0, 0), (-1), 0), (32, .iconst 0, (0, 0, 0, 0), 0, 0), (33, .invokevirtual 219, (0, 0, 0, 0), 0, 0), (36, .iconst 1, (0, 0, 0, 0), 1, 0), (37, .ireturn, (0, 0, 0, 0), 0, 0), (38, .iload_n 3, (0, 0, 0, 0), 0, 0), (39, .bipush 40, (0, 0, 0, 0), 40, 0), (41, .if_icmp .le 6, (0, 0, 0, 0), 0, 0), (44, .bipush (-2), (0, 0, 0, 0), (-2), 0), (46, .ireturn, (0, 0, 0, 0), 0, 0), (47, .iload_n 3, (0, 0, 0, 0), 0, 0), (48, .ifCond .ge 6, (0, 0, 0, 0), 0, 0), (51, .bipush (-14), (0, 0, 0, 0), (-14), 0), (53, .ireturn, (0, 0, 0, 0), 0, 0), (54, .aload 4, (0, 0, 0, 0), 0, 0), (56, .iload_n 2, (0, 0, 0, 0), 0, 0), (57, .iload_n 3, (0, 0, 0, 0), 0, 0), (58, .invokevirtual 219, (0, 0, 0, 0), 0, 0), (61, .iconst 1, (0, 0, 0, 0), 1, 0), (62, .ireturn, (0, 0, 0, 0), 0, 0)]
theorem okX5_sheet : kX5_sheet.all (xOk RX5 cX5_sheet) = true := by decide +kernel
def kX5_cell : List xI := [(0, .aload_n 0, (0, 0, 0, 0), 0, 0), (1, .iload_n 1, (0, 0, 0, 0), 0, 0), (2, .invokevirtual 192, (0, 0, 0, 0), 0, 0), (5, .astore 4, (0, 0, 0, 0), 0, 0), (7, .aload 4, (0, 0, 0, 0), 0, 0), (9, .ifnonnull 6, (0, 0, 0, 0), 0, 0), (12, .bipush (-2), (0, 0, 0, 0), (-2), 0), (14, .ireturn, (0, 0, 0, 0), 0, 0), (15, .aload 4, (0, 0, 0, 0), 0, 0), (17, .getfield 196, (284, 2, 0, 0), 0, 0), (20, .iconst (-1), (0, 0, 0, 0), (-1), 0), (21, .if_icmp .ne 6, (0, 0, 0, 0), 0, 0), (24, .bipush (-11), (0, 0, 0, 0), (-11), 0), (26, .ireturn, (0, 0, 0, 0), 0, 0), (27, .aload 4, (0, 0, 0, 0), 0, 0), (29, .iload_n 2, (0, 0, 0, 0), 0, 0), (30, .iconst 1, (0, 0, 0, 0), 1, 0), (31, .invokevirtual 236, (0, 0, 0, 0), 0, 0), (34, .ifCond .ne 6, (0, 0, 0, 0), 0, 0), (37, .bipush (-12), (0, 0, 0, 0), (-12), 0), (39, .ireturn, (0, 0, 0, 0), 0, 0), (40, .aload 4, (0, 0, 0, 0), 0, 0), (42, .iload_n 2, (0, 0, 0, 0), 0, 0), (43, .iload_n 3, (0, 0, 0, 0), 0, 0), (44, .invokevirtual 225, (0, 0, 0, 0), 0, 0), (47, .iconst 1, (0, 0, 0, 0), 1, 0), (48, .ireturn, (0, 0, 0, 0), 0, 0)]
theorem okX5_cell : kX5_cell.all (xOk RX5 cX5_cell) = true := by decide +kernel
def kX5_copy : List xI := [(0, .aload_n 0, (0, 0, 0, 0), 0, 0), (1, .iload_n 1, (0, 0, 0, 0), 0, 0), (2, .invokevirtual 192, (0, 0, 0, 0), 0, 0), (5, .astore 6, (0, 0, 0, 0), 0, 0), (7, .aload_n 0, (0, 0, 0, 0), 0, 0), (8, .iload_n 3, (0, 0, 0, 0), 0, 0), (9, .invokevirtual 192, (0, 0, 0, 0), 0, 0), (12, .astore 7, (0, 0, 0, 0), 0, 0), (14, .aload 6, (0, 0, 0, 0), 0, 0), (16, .ifnull 8, (0, 0, 0, 0), 0, 0), (19, .aload 7, (0, 0, 0, 0), 0, 0), (21, .ifnonnull 6, (0, 0, 0, 0), 0, 0), (24, .bipush (-2), (0, 0, 0, 0), (-2), 0), (26, .ireturn, (0, 0, 0, 0), 0, 0), (27, .aload 6, (0, 0, 0, 0), 0, 0), (29, .getfield 196, (284, 2, 0, 0), 0, 0), (32, .iconst (-1), (0, 0, 0, 0), (-1), 0), (33, .if_icmp .eq 12, (0, 0, 0, 0), 0, 0), (36, .aload 7, (0, 0, 0, 0), 0, 0), (38, .getfield 196, (284, 2, 0, 0), 0, 0), (41, .iconst (-1), (0, 0, 0, 0), (-1), 0), (42, .if_icmp .ne 6, (0, 0, 0, 0), 0, 0), (45, .bipush (-11), (0, 0, 0, 0), (-11), 0), (47, .ireturn, (0, 0, 0, 0), 0, 0), (48, .aload 6, (0, 0, 0, 0), 0, 0), (50, .getfield 196, (284, 2, 0, 0), 0, 0), (53, .aload 7, (0, 0, 0, 0), 0, 0), (55, .getfield 196, (284, 2, 0, 0), 0, 0), (58, .if_icmp .eq 6, (0, 0, 0, 0), 0, 0), (61, .bipush (-13), (0, 0, 0, 0), (-13), 0), (63, .ireturn, (0, 0, 0, 0), 0, 0), (64, .aload 6, (0, 0, 0, 0), 0, 0), (66, .iload_n 2, (0, 0, 0, 0), 0, 0), (67, .iload 5, (0, 0, 0, 0), 0, 0), (69, .invokevirtual 236, (0, 0, 0, 0), 0, 0), (72, .ifCond .eq 15, (0, 0, 0, 0), 0, 0), (75, .aload 7, (0, 0, 0, 0), 0, 0), (77, .iload 4, (0, 0, 0, 0), 0, 0), (79, .iload 5, (0, 0, 0, 0), 0, 0), (81, .invokevirtual 236, (0, 0, 0, 0), 0, 0), (84, .ifCond .ne 6, (0, 0, 0, 0), 0, 0), (87, .bipush (-12), (0, 0, 0, 0), (-12), 0), (89, .ireturn, (0, 0, 0, 0), 0, 0), (90, .aload 6, (0, 0, 0, 0), 0, 0), (92, .getfield 239, (290, 2, 2, 0), 0, 0), (95, .iload_n 2, (0, 0, 0, 0), 0, 0), (96, .aload 7, (0, 0, 0, 0), 0, 0), (98, .getfield 239, (290, 2, 2, 0), 0, 0), (101, .iload 4, (0, 0, 0, 0), 0, 0), (103, .iload 5, (0, 0, 0, 0), 0, 0), (105, .invokestatic 242, (780, 2, 0, 0), 0, 0), (108, .iload 5, (0, 0, 0, 0), 0, 0), (110, .ireturn, (0, 0, 0, 0), 0, 0)]
theorem okX5_copy : kX5_copy.all (xOk RX5 cX5_copy) = true := by decide +kernel
def kX5_republic : List xI := [(0, .aload_n 0, (0, 0, 0, 0), 0, 0), (1, .iload_n 1, (0, 0, 0, 0), 0, 0), (2, .invokevirtual 192, (0, 0, 0, 0), 0, 0), (5, .astore 5, (0, 0, 0, 0), 0, 0), (7, .aload 5, (0, 0, 0, 0), 0, 0), (9, .ifnull 22, (0, 0, 0, 0), 0, 0), (12, .iload_n 2, (0, 0, 0, 0), 0, 0), (13, .iconst 0, (0, 0, 0, 0), 0, 0), (14, .iconst 2, (0, 0, 0, 0), 2, 0), (15, .invokestatic 52, (0, 3, 0, 0), 0, 0), (18, .ifCond .eq 13, (0, 0, 0, 0), 0, 0), (21, .iload 4, (0, 0, 0, 0), 0, 0), (23, .iconst 0, (0, 0, 0, 0), 0, 0), (24, .iconst 4, (0, 0, 0, 0), 4, 0), (25, .invokestatic 52, (0, 3, 0, 0), 0, 0), (28, .ifCond .ne 6, (0, 0, 0, 0), 0, 0), (31, .bipush (-2), (0, 0, 0, 0), (-2), 0), (33, .ireturn, (0, 0, 0, 0), 0, 0), (34, .aload 5, (0, 0, 0, 0), 0, 0), (36, .getfield 196, (284, 2, 0, 0), 0, 0), (39, .iconst (-1), (0, 0, 0, 0), (-1), 0), (40, .if_icmp .ne 6, (0, 0, 0, 0), 0, 0), (43, .bipush (-11), (0, 0, 0, 0), (-11), 0), (45, .ireturn, (0, 0, 0, 0), 0, 0), (46, .aload 5, (0, 0, 0, 0), 0, 0), (48, .getfield 196, (284, 2, 0, 0), 0, 0), (51, .iload_n 2, (0, 0, 0, 0), 0, 0), (52, .if_icmp .eq 6, (0, 0, 0, 0), 0, 0), (55, .bipush (-13), (0, 0, 0, 0), (-13), 0), (57, .ireturn, (0, 0, 0, 0), 0, 0), (58, .iconst 0, (0, 0, 0, 0), 0, 0), (59, .istore 6, (0, 0, 0, 0), 0, 0), (61, .iconst 0, (0, 0, 0, 0), 0, 0), (62, .istore 7, (0, 0, 0, 0), 0, 0), (64, .iload 7, (0, 0, 0, 0), 0, 0), (66, .iload 4, (0, 0, 0, 0), 0, 0), (68, .if_icmp .ge 59, (0, 0, 0, 0), 0, 0), (71, .iload_n 3, (0, 0, 0, 0), 0, 0), (72, .iconst 2, (0, 0, 0, 0), 2, 0), (73, .iload 7, (0, 0, 0, 0), 0, 0), (75, .imul, (0, 0, 0, 0), 0, 0), (76, .iadd, (0, 0, 0, 0), 0, 0), (77, .istore 8, (0, 0, 0, 0), 0, 0), (79, .aload 5, (0, 0, 0, 0), 0, 0), (81, .iload 8, (0, 0, 0, 0), 0, 0), (83, .iconst 2, (0, 0, 0, 0), 2, 0), (84, .invokevirtual 236, (0, 0, 0, 0), 0, 0), (87, .ifCond .ne 6, (0, 0, 0, 0), 0, 0), (90, .bipush (-12), (0, 0, 0, 0), (-12), 0), (92, .ireturn, (0, 0, 0, 0), 0, 0), (93, .aload_n 0, (0, 0, 0, 0), 0, 0), (94, .aload 5, (0, 0, 0, 0), 0, 0), (96, .getfield 239, (290, 2, 2, 0), 0, 0), (99, .iload 8, (0, 0, 0, 0), 0, 0), (101, .iaload, (0, 0, 0, 0), 0, 0), (102, .aload 5, (0, 0, 0, 0), 0, 0), (104, .getfield 239, (290, 2, 2, 0), 0, 0), (107, .iload 8, (0, 0, 0, 0), 0, 0), (109, .iconst 1, (0, 0, 0, 0), 1, 0), (110, .iadd, (0, 0, 0, 0), 0, 0), (111, .iaload, (0, 0, 0, 0), 0, 0), (112, .invokevirtual 248, (0, 0, 0, 0), 0, 0), (115, .ifCond .lt 6, (0, 0, 0, 0), 0, 0), (118, .iinc 6 1, (0, 0, 0, 0), 1, 0), (121, .iinc 7 1, (0, 0, 0, 0), 1, 0), (124, .goto (-60), (0, 0, 0, 0), 0, 0), (127, .iload 6, (0, 0, 0, 0), 0, 0), (129, .ireturn, (0, 0, 0, 0), 0, 0)]
theorem okX5_republic : kX5_republic.all (xOk RX5 cX5_republic) = true := by decide +kernel
def kX5_taken : List xI := [(0, .iload_n 2, (0, 0, 0, 0), 0, 0), (1, .iconst 0, (0, 0, 0, 0), 0, 0), (2, .iconst 5, (0, 0, 0, 0), 5, 0), (3, .invokestatic 52, (0, 3, 0, 0), 0, 0), (6, .ifCond .ne 6, (0, 0, 0, 0), 0, 0), (9, .bipush (-2), (0, 0, 0, 0), (-2), 0), (11, .ireturn, (0, 0, 0, 0), 0, 0), (12, .aload_n 0, (0, 0, 0, 0), 0, 0), (13, .iload_n 1, (0, 0, 0, 0), 0, 0), (14, .invokevirtual 82, (0, 0, 0, 0), 0, 0), (17, .ifCond .ne 6, (0, 0, 0, 0), 0, 0), (20, .bipush (-11), (0, 0, 0, 0), (-11), 0), (22, .ireturn, (0, 0, 0, 0), 0, 0), (23, .aload_n 0, (0, 0, 0, 0), 0, 0), (24, .getfield 28, (300, 5, 2, 0), 0, 0), (27, .getfield 251, (204, 0, 10, 0), 0, 0), (30, .iload_n 1, (0, 0, 0, 0), 0, 0), (31, .iaload, (0, 0, 0, 0), 0, 0), (32, .istore_n 3, (0, 0, 0, 0), 0, 0), (33, .iconst 0, (0, 0, 0, 0), 0, 0), (34, .istore 4, (0, 0, 0, 0), 0, 0), (36, .iload 4, (0, 0, 0, 0), 0, 0), (38, .bipush 6, (0, 0, 0, 0), 6, 0), (40, .if_icmp .ge 25, (0, 0, 0, 0), 0, 0), (43, .iload_n 3, (0, 0, 0, 0), 0, 0), (44, .iload_n 2, (0, 0, 0, 0), 0, 0), (45, .if_icmp .eq 20, (0, 0, 0, 0), 0, 0), (48, .iload_n 3, (0, 0, 0, 0), 0, 0), (49, .iconst (-1), (0, 0, 0, 0), (-1), 0), (50, .if_icmp .eq 15, (0, 0, 0, 0), 0, 0), (53, .getstatic 254, (790, 2, 0, 0), 0, 0), (56, .iload_n 3, (0, 0, 0, 0), 0, 0), (57, .iaload, (0, 0, 0, 0), 0, 0), (58, .istore_n 3, (0, 0, 0, 0), 0, 0), (59, .iinc 4 1, (0, 0, 0, 0), 1, 0), (62, .goto (-26), (0, 0, 0, 0), 0, 0), (65, .iload_n 3, (0, 0, 0, 0), 0, 0), (66, .iload_n 2, (0, 0, 0, 0), 0, 0), (67, .if_icmp .ne 15, (0, 0, 0, 0), 0, 0), (70, .aload_n 0, (0, 0, 0, 0), 0, 0), (71, .getfield 28, (300, 5, 2, 0), 0, 0), (74, .getfield 257, (207, 0, 11, 0), 0, 0), (77, .iload_n 1, (0, 0, 0, 0), 0, 0), (78, .iaload, (0, 0, 0, 0), 0, 0), (79, .goto 5, (0, 0, 0, 0), 0, 0), (82, .bipush (-13), (0, 0, 0, 0), (-13), 0), (84, .ireturn, (0, 0, 0, 0), 0, 0)]
theorem okX5_taken : kX5_taken.all (xOk RX5 cX5_taken) = true := by decide +kernel
def kX5_within : List xI := [(0, .iload_n 0, (0, 0, 0, 0), 0, 0), (1, .iload_n 1, (0, 0, 0, 0), 0, 0), (2, .if_icmp .lt 12, (0, 0, 0, 0), 0, 0), (5, .iload_n 0, (0, 0, 0, 0), 0, 0), (6, .iload_n 2, (0, 0, 0, 0), 0, 0), (7, .if_icmp .gt 7, (0, 0, 0, 0), 0, 0), (10, .iconst 1, (0, 0, 0, 0), 1, 0), (11, .goto 4, (0, 0, 0, 0), 0, 0), (14, .iconst 0, (0, 0, 0, 0), 0, 0), (15, .ireturn, (0, 0, 0, 0), 0, 0)]
theorem okX5_within : kX5_within.all (xOk RX5 cX5_within) = true := by decide +kernel
def kX5_isLaw : List xI := [(0, .iload_n 0, (0, 0, 0, 0), 0, 0), (1, .iconst 0, (0, 0, 0, 0), 0, 0), (2, .bipush 7, (0, 0, 0, 0), 7, 0), (4, .invokestatic 52, (0, 3, 0, 0), 0, 0), (7, .ireturn, (0, 0, 0, 0), 0, 0)]
theorem okX5_isLaw : kX5_isLaw.all (xOk RX5 cX5_isLaw) = true := by decide +kernel
def kX5_isDeed : List xI := [(0, .iload_n 0, (0, 0, 0, 0), 0, 0), (1, .iconst 0, (0, 0, 0, 0), 0, 0), (2, .bipush 9, (0, 0, 0, 0), 9, 0), (4, .invokestatic 52, (0, 3, 0, 0), 0, 0), (7, .ireturn, (0, 0, 0, 0), 0, 0)]
theorem okX5_isDeed : kX5_isDeed.all (xOk RX5 cX5_isDeed) = true := by decide +kernel
def kX5_isOne : List xI := [(0, .iload_n 1, (0, 0, 0, 0), 0, 0), (1, .iconst 0, (0, 0, 0, 0), 0, 0), (2, .aload_n 0, (0, 0, 0, 0), 0, 0), (3, .getfield 28, (300, 5, 2, 0), 0, 0), (6, .getfield 75, (202, 0, 9, 0), 0, 0), (9, .iconst 1, (0, 0, 0, 0), 1, 0), (10, .isub, (0, 0, 0, 0), 0, 0), (11, .invokestatic 52, (0, 3, 0, 0), 0, 0), (14, .ireturn, (0, 0, 0, 0), 0, 0)]
theorem okX5_isOne : kX5_isOne.all (xOk RX5 cX5_isOne) = true := by decide +kernel
def kX5_sheetAt : List xI := [(0, .iload_n 1, (0, 0, 0, 0), 0, 0), (1, .iconst 0, (0, 0, 0, 0), 0, 0), (2, .iconst 3, (0, 0, 0, 0), 3, 0), (3, .invokestatic 52, (0, 3, 0, 0), 0, 0), (6, .ifCond .eq 12, (0, 0, 0, 0), 0, 0), (9, .aload_n 0, (0, 0, 0, 0), 0, 0), (10, .getfield 48, (305, 5, 7, 0), 0, 0), (13, .iload_n 1, (0, 0, 0, 0), 0, 0), (14, .aaload, (0, 0, 0, 0), 0, 0), (15, .goto 4, (0, 0, 0, 0), 0, 0), (18, .aconst_null, (0, 0, 0, 0), 0, 0), (19, .areturn, (0, 0, 0, 0), 0, 0)]
theorem okX5_sheetAt : kX5_sheetAt.all (xOk RX5 cX5_sheetAt) = true := by decide +kernel
def kX5_stands : List xI := [(0, .iload_n 2, (0, 0, 0, 0), 0, 0), (1, .tableswitch 85 0 12 #[67, 83, 83, 72, 72, 77, 77, 77, 77, 77, 83, 83, 83], (0, 0, 0, 0), 0, 0), (68, .iload_n 1, (0, 0, 0, 0), 0, 0), (69, .invokestatic 153, (0, 3, 0, 0), 0, 0), (72, .ireturn, (0, 0, 0, 0), 0, 0), (73, .iload_n 1, (0, 0, 0, 0), 0, 0), (74, .invokestatic 86, (0, 3, 0, 0), 0, 0), (77, .ireturn, (0, 0, 0, 0), 0, 0), (78, .aload_n 0, (0, 0, 0, 0), 0, 0), (79, .iload_n 1, (0, 0, 0, 0), 0, 0), (80, .invokevirtual 82, (0, 0, 0, 0), 0, 0), (83, .ireturn, (0, 0, 0, 0), 0, 0), (84, .iconst 1, (0, 0, 0, 0), 1, 0), (85, .ireturn, (0, 0, 0, 0), 0, 0), (86, .iconst 0, (0, 0, 0, 0), 0, 0), (87, .ireturn, (0, 0, 0, 0), 0, 0)]
theorem okX5_stands : kX5_stands.all (xOk RX5 cX5_stands) = true := by decide +kernel
def kX5_aliveBehind : List xI := [(0, .aload_n 0, (0, 0, 0, 0), 0, 0), (1, .getfield 32, (301, 5, 3, 0), 0, 0), (4, .aload_n 0, (0, 0, 0, 0), 0, 0), (5, .getfield 28, (300, 5, 2, 0), 0, 0), (8, .invokevirtual 139, (0, 0, 0, 0), 0, 0), (11, .iload_n 2, (0, 0, 0, 0), 0, 0), (12, .iconst (-1), (0, 0, 0, 0), (-1), 0), (13, .if_icmp .eq 11, (0, 0, 0, 0), 0, 0), (16, .aload_n 0, (0, 0, 0, 0), 0, 0), (17, .getfield 32, (301, 5, 3, 0), 0, 0), (20, .iload_n 2, (0, 0, 0, 0), 0, 0), (21, .invokevirtual 260, (0, 0, 0, 0), 0, 0), (24, .aload_n 0, (0, 0, 0, 0), 0, 0), (25, .getfield 32, (301, 5, 3, 0), 0, 0), (28, .iload_n 1, (0, 0, 0, 0), 0, 0), (29, .invokevirtual 143, (0, 0, 0, 0), 0, 0), (32, .pop, (0, 0, 0, 0), 0, 0), (33, .aload_n 0, (0, 0, 0, 0), 0, 0), (34, .getfield 32, (301, 5, 3, 0), 0, 0), (37, .getfield 147, (185, 0, 2, 0), 0, 0), (40, .invokestatic 166, (0, 3, 0, 0), 0, 0), (43, .ireturn, (0, 0, 0, 0), 0, 0)]
theorem okX5_aliveBehind : kX5_aliveBehind.all (xOk RX5 cX5_aliveBehind) = true := by decide +kernel
def kX5_aliveByDraw : List xI := [(0, .aload_n 0, (0, 0, 0, 0), 0, 0), (1, .getfield 32, (301, 5, 3, 0), 0, 0), (4, .aload_n 0, (0, 0, 0, 0), 0, 0), (5, .getfield 28, (300, 5, 2, 0), 0, 0), (8, .invokevirtual 139, (0, 0, 0, 0), 0, 0), (11, .aload_n 0, (0, 0, 0, 0), 0, 0), (12, .getfield 32, (301, 5, 3, 0), 0, 0), (15, .iload_n 1, (0, 0, 0, 0), 0, 0), (16, .iload_n 2, (0, 0, 0, 0), 0, 0), (17, .invokevirtual 263, (0, 0, 0, 0), 0, 0), (20, .aload_n 0, (0, 0, 0, 0), 0, 0), (21, .getfield 32, (301, 5, 3, 0), 0, 0), (24, .getfield 147, (185, 0, 2, 0), 0, 0), (27, .invokestatic 166, (0, 3, 0, 0), 0, 0), (30, .ireturn, (0, 0, 0, 0), 0, 0)]
theorem okX5_aliveByDraw : kX5_aliveByDraw.all (xOk RX5 cX5_aliveByDraw) = true := by decide +kernel
def kX5_fittingBits : List xI := [(0, .iconst 0, (0, 0, 0, 0), 0, 0), (1, .istore 5, (0, 0, 0, 0), 0, 0), (3, .iconst 0, (0, 0, 0, 0), 0, 0), (4, .istore 6, (0, 0, 0, 0), 0, 0), (6, .iload 6, (0, 0, 0, 0), 0, 0), (8, .iload 4, (0, 0, 0, 0), 0, 0), (10, .if_icmp .ge 42, (0, 0, 0, 0), 0, 0), (13, .aload_n 0, (0, 0, 0, 0), 0, 0), (14, .getfield 32, (301, 5, 3, 0), 0, 0), (17, .iload_n 2, (0, 0, 0, 0), 0, 0), (18, .iload_n 3, (0, 0, 0, 0), 0, 0), (19, .iload 6, (0, 0, 0, 0), 0, 0), (21, .invokevirtual 71, (0, 0, 0, 0), 0, 0), (24, .aload_n 0, (0, 0, 0, 0), 0, 0), (25, .getfield 32, (301, 5, 3, 0), 0, 0), (28, .aload_n 1, (0, 0, 0, 0), 0, 0), (29, .iload_n 2, (0, 0, 0, 0), 0, 0), (30, .invokevirtual 200, (0, 0, 0, 0), 0, 0), (33, .iconst (-1), (0, 0, 0, 0), (-1), 0), (34, .if_icmp .ne 12, (0, 0, 0, 0), 0, 0), (37, .iload 5, (0, 0, 0, 0), 0, 0), (39, .iconst 1, (0, 0, 0, 0), 1, 0), (40, .iload 6, (0, 0, 0, 0), 0, 0), (42, .ishl, (0, 0, 0, 0), 0, 0), (43, .ior, (0, 0, 0, 0), 0, 0), (44, .istore 5, (0, 0, 0, 0), 0, 0), (46, .iinc 6 1, (0, 0, 0, 0), 1, 0), (49, .goto (-43), (0, 0, 0, 0), 0, 0), (52, .iload 5, (0, 0, 0, 0), 0, 0), (54, .ireturn, (0, 0, 0, 0), 0, 0)]
theorem okX5_fittingBits : kX5_fittingBits.all (xOk RX5 cX5_fittingBits) = true := by decide +kernel
def kX5_howManyFit : List xI := [(0, .iconst 0, (0, 0, 0, 0), 0, 0), (1, .istore 4, (0, 0, 0, 0), 0, 0), (3, .iconst 0, (0, 0, 0, 0), 0, 0), (4, .istore 5, (0, 0, 0, 0), 0, 0), (6, .iload 5, (0, 0, 0, 0), 0, 0), (8, .bipush 100, (0, 0, 0, 0), 100, 0), (10, .if_icmp .ge 36, (0, 0, 0, 0), 0, 0), (13, .aload_n 0, (0, 0, 0, 0), 0, 0), (14, .getfield 32, (301, 5, 3, 0), 0, 0), (17, .iload_n 2, (0, 0, 0, 0), 0, 0), (18, .iload_n 3, (0, 0, 0, 0), 0, 0), (19, .iload 5, (0, 0, 0, 0), 0, 0), (21, .invokevirtual 71, (0, 0, 0, 0), 0, 0), (24, .aload_n 0, (0, 0, 0, 0), 0, 0), (25, .getfield 32, (301, 5, 3, 0), 0, 0), (28, .aload_n 1, (0, 0, 0, 0), 0, 0), (29, .iload_n 2, (0, 0, 0, 0), 0, 0), (30, .invokevirtual 200, (0, 0, 0, 0), 0, 0), (33, .iconst (-1), (0, 0, 0, 0), (-1), 0), (34, .if_icmp .ne 6, (0, 0, 0, 0), 0, 0), (37, .iinc 4 1, (0, 0, 0, 0), 1, 0), (40, .iinc 5 1, (0, 0, 0, 0), 1, 0), (43, .goto (-37), (0, 0, 0, 0), 0, 0), (46, .iload 4, (0, 0, 0, 0), 0, 0), (48, .ireturn, (0, 0, 0, 0), 0, 0)]
theorem okX5_howManyFit : kX5_howManyFit.all (xOk RX5 cX5_howManyFit) = true := by decide +kernel
def kX5_leastFitting : List xI := [(0, .iconst 0, (0, 0, 0, 0), 0, 0), (1, .istore 4, (0, 0, 0, 0), 0, 0), (3, .iload 4, (0, 0, 0, 0), 0, 0), (5, .bipush 100, (0, 0, 0, 0), 100, 0), (7, .if_icmp .ge 36, (0, 0, 0, 0), 0, 0), (10, .aload_n 0, (0, 0, 0, 0), 0, 0), (11, .getfield 32, (301, 5, 3, 0), 0, 0), (14, .iload_n 2, (0, 0, 0, 0), 0, 0), (15, .iload_n 3, (0, 0, 0, 0), 0, 0), (16, .iload 4, (0, 0, 0, 0), 0, 0), (18, .invokevirtual 71, (0, 0, 0, 0), 0, 0), (21, .aload_n 0, (0, 0, 0, 0), 0, 0), (22, .getfield 32, (301, 5, 3, 0), 0, 0), (25, .aload_n 1, (0, 0, 0, 0), 0, 0), (26, .iload_n 2, (0, 0, 0, 0), 0, 0), (27, .invokevirtual 200, (0, 0, 0, 0), 0, 0), (30, .iconst (-1), (0, 0, 0, 0), (-1), 0), (31, .if_icmp .ne 6, (0, 0, 0, 0), 0, 0), (34, .iload 4, (0, 0, 0, 0), 0, 0), (36, .ireturn, (0, 0, 0, 0), 0, 0), (37, .iinc 4 1, (0, 0, 0, 0), 1, 0), (40, .goto (-37), (0, 0, 0, 0), 0, 0), (43, .iconst (-1), (0, 0, 0, 0), (-1), 0), (44, .ireturn, (0, 0, 0, 0), 0, 0)]
theorem okX5_leastFitting : kX5_leastFitting.all (xOk RX5 cX5_leastFitting) = true := by decide +kernel
def kX5_fittingPeople : List xI := [(0, .iconst 0, (0, 0, 0, 0), 0, 0), (1, .istore_n 2, (0, 0, 0, 0), 0, 0), (2, .iconst 0, (0, 0, 0, 0), 0, 0), (3, .istore_n 3, (0, 0, 0, 0), 0, 0), (4, .iload_n 3, (0, 0, 0, 0), 0, 0), (5, .aload_n 0, (0, 0, 0, 0), 0, 0), (6, .getfield 28, (300, 5, 2, 0), 0, 0), (9, .getfield 75, (202, 0, 9, 0), 0, 0), (12, .if_icmp .ge 28, (0, 0, 0, 0), 0, 0), (15, .aload_n 0, (0, 0, 0, 0), 0, 0), (16, .getfield 28, (300, 5, 2, 0), 0, 0), (19, .aload_n 1, (0, 0, 0, 0), 0, 0), (20, .iload_n 3, (0, 0, 0, 0), 0, 0), (21, .invokevirtual 200, (0, 0, 0, 0), 0, 0), (24, .iconst (-1), (0, 0, 0, 0), (-1), 0), (25, .if_icmp .ne 9, (0, 0, 0, 0), 0, 0), (28, .iload_n 2, (0, 0, 0, 0), 0, 0), (29, .iconst 1, (0, 0, 0, 0), 1, 0), (30, .iload_n 3, (0, 0, 0, 0), 0, 0), (31, .ishl, (0, 0, 0, 0), 0, 0), (32, .ior, (0, 0, 0, 0), 0, 0), (33, .istore_n 2, (0, 0, 0, 0), 0, 0), (34, .iinc 3 1, (0, 0, 0, 0), 1, 0), (37, .goto (-33), (0, 0, 0, 0), 0, 0), (40, .iload_n 2, (0, 0, 0, 0), 0, 0), (41, .ireturn, (0, 0, 0, 0), 0, 0)]
theorem okX5_fittingPeople : kX5_fittingPeople.all (xOk RX5 cX5_fittingPeople) = true := by decide +kernel
def kX5_fraction : List xI := [(0, .iload_n 1, (0, 0, 0, 0), 0, 0), (1, .ifCond .eq 12, (0, 0, 0, 0), 0, 0), (4, .iload_n 2, (0, 0, 0, 0), 0, 0), (5, .iconst 0, (0, 0, 0, 0), 0, 0), (6, .iconst 1, (0, 0, 0, 0), 1, 0), (7, .invokestatic 52, (0, 3, 0, 0), 0, 0), (10, .ifCond .ne 7, (0, 0, 0, 0), 0, 0), (13, .ldc2_w 230, (680, 0, 0, 0), 0, (-4611686018427387904)), (16, .lreturn, (0, 0, 0, 0), 0, 0), (17, .iload_n 0, (0, 0, 0, 0), 0, 0), (18, .iload_n 1, (0, 0, 0, 0), 0, 0), (19, .invokestatic 266, (0, 3, 0, 0), 0, 0), (22, .istore_n 3, (0, 0, 0, 0), 0, 0), (23, .iload_n 3, (0, 0, 0, 0), 0, 0), (24, .ifCond .ne 7, (0, 0, 0, 0), 0, 0), (27, .ldc2_w 230, (680, 0, 0, 0), 0, (-4611686018427387904)), (30, .lreturn, (0, 0, 0, 0), 0, 0), (31, .iload_n 2, (0, 0, 0, 0), 0, 0), (32, .ifCond .ne 10, (0, 0, 0, 0), 0, 0), (35, .iload_n 0, (0, 0, 0, 0), 0, 0), (36, .iload_n 3, (0, 0, 0, 0), 0, 0), (37, .idiv, (0, 0, 0, 0), 0, 0), (38, .i2l, (0, 0, 0, 0), 0, 0), (39, .goto 7, (0, 0, 0, 0), 0, 0), (42, .iload_n 1, (0, 0, 0, 0), 0, 0), (43, .iload_n 3, (0, 0, 0, 0), 0, 0), (44, .idiv, (0, 0, 0, 0), 0, 0), (45, .i2l, (0, 0, 0, 0), 0, 0), (46, .lreturn, (0, 0, 0, 0), 0, 0)]
theorem okX5_fraction : kX5_fraction.all (xOk RX5 cX5_fraction) = true := by decide +kernel
def kX5_commonDivisor : List xI := [(0, .iconst 0, (0, 0, 0, 0), 0, 0), (1, .istore_n 2, (0, 0, 0, 0), 0, 0), (2, .iload_n 2, (0, 0, 0, 0), 0, 0), (3, .bipush 100, (0, 0, 0, 0), 100, 0), (5, .if_icmp .ge 21, (0, 0, 0, 0), 0, 0), (8, .iload_n 1, (0, 0, 0, 0), 0, 0), (9, .ifCond .eq 17, (0, 0, 0, 0), 0, 0), (12, .iload_n 0, (0, 0, 0, 0), 0, 0), (13, .iload_n 1, (0, 0, 0, 0), 0, 0), (14, .irem, (0, 0, 0, 0), 0, 0), (15, .istore_n 3, (0, 0, 0, 0), 0, 0), (16, .iload_n 1, (0, 0, 0, 0), 0, 0), (17, .istore_n 0, (0, 0, 0, 0), 0, 0), (18, .iload_n 3, (0, 0, 0, 0), 0, 0), (19, .istore_n 1, (0, 0, 0, 0), 0, 0), (20, .iinc 2 1, (0, 0, 0, 0), 1, 0), (23, .goto (-21), (0, 0, 0, 0), 0, 0), (26, .iload_n 0, (0, 0, 0, 0), 0, 0), (27, .ireturn, (0, 0, 0, 0), 0, 0)]
theorem okX5_commonDivisor : kX5_commonDivisor.all (xOk RX5 cX5_commonDivisor) = true := by decide +kernel
def kJ6_bitCount_0f7a4 : List xI := [(0, .iload_n 0, (0, 0, 0, 0), 0, 0), (1, .iload_n 0, (0, 0, 0, 0), 0, 0), (2, .iconst 1, (0, 0, 0, 0), 1, 0), (3, .iushr, (0, 0, 0, 0), 0, 0), (4, .ldc_w 265, (374, 0, 0, 0), 1431655765, 0), (7, .iand, (0, 0, 0, 0), 0, 0), (8, .isub, (0, 0, 0, 0), 0, 0), (9, .istore_n 0, (0, 0, 0, 0), 0, 0), (10, .iload_n 0, (0, 0, 0, 0), 0, 0), (11, .ldc_w 266, (375, 0, 0, 0), 858993459, 0), (14, .iand, (0, 0, 0, 0), 0, 0), (15, .iload_n 0, (0, 0, 0, 0), 0, 0), (16, .iconst 2, (0, 0, 0, 0), 2, 0), (17, .iushr, (0, 0, 0, 0), 0, 0), (18, .ldc_w 266, (375, 0, 0, 0), 858993459, 0), (21, .iand, (0, 0, 0, 0), 0, 0), (22, .iadd, (0, 0, 0, 0), 0, 0), (23, .istore_n 0, (0, 0, 0, 0), 0, 0), (24, .iload_n 0, (0, 0, 0, 0), 0, 0), (25, .iload_n 0, (0, 0, 0, 0), 0, 0), (26, .iconst 4, (0, 0, 0, 0), 4, 0), (27, .iushr, (0, 0, 0, 0), 0, 0), (28, .iadd, (0, 0, 0, 0), 0, 0), (29, .ldc_w 267, (376, 0, 0, 0), 252645135, 0), (32, .iand, (0, 0, 0, 0), 0, 0), (33, .istore_n 0, (0, 0, 0, 0), 0, 0), (34, .iload_n 0, (0, 0, 0, 0), 0, 0), (35, .iload_n 0, (0, 0, 0, 0), 0, 0), (36, .bipush 8, (0, 0, 0, 0), 8, 0), (38, .iushr, (0, 0, 0, 0), 0, 0), (39, .iadd, (0, 0, 0, 0), 0, 0), (40, .istore_n 0, (0, 0, 0, 0), 0, 0), (41, .iload_n 0, (0, 0, 0, 0), 0, 0), (42, .iload_n 0, (0, 0, 0, 0), 0, 0), (43, .bipush 16, (0, 0, 0, 0), 16, 0), (45, .iushr, (0, 0, 0, 0), 0, 0), (46, .iadd, (0, 0, 0, 0), 0, 0), (47, .istore_n 0, (0, 0, 0, 0), 0, 0), (48, .iload_n 0, (0, 0, 0, 0), 0, 0), (49, .bipush 63, (0, 0, 0, 0), 63, 0), (51, .iand, (0, 0, 0, 0), 0, 0), (52, .ireturn, (0, 0, 0, 0), 0, 0)]
theorem okJ6_bitCount_0f7a4 : kJ6_bitCount_0f7a4.all (xOk RJ6 cJ6_bitCount_0f7a4) = true := by decide +kernel
end
section
/-! the walk over an abstract frame, and what is given all along -/
def xStr : List String := ["harm", "laws", "number", "year", "served", "alive", "dares", "harms", "sits", "or", "and", "not"]
def xStrL : List Nat := [4, 4, 6, 4, 6, 5, 5, 5, 4, 2, 3, 3]
def xStrB : List (List Int32) := [[104, 97, 114, 109], [108, 97, 119, 115], [110, 117, 109, 98, 101, 114], [121, 101, 97, 114], [115, 101, 114, 118, 101, 100], [97, 108, 105, 118, 101], [100, 97, 114, 101, 115], [104, 97, 114, 109, 115], [115, 105, 116, 115], [111, 114], [97, 110, 100], [110, 111, 116]]
def xTabNm (k : Nat) : String := ["LOWEST", "HIGHEST", "PARENT"].getD k ""
def xNw : Cond → Bool
  | .fieldLinkNest .. => true
  | .methodLinkNest .. => true
  | _ => false
theorem xNw_warm {w : Cond} {s U : State} (hW : s.WarmedH U.vm) (hw : xNw w = true) (h : va_Nw w s) : va_Nw w U := by
  cases w <;> first | (cases hw; done) | exact va_Nw.warmF hW h | exact va_Nw.warmM hW h
theorem xNw_same {w : Cond} {s U : State} (hv : s.vm = U.vm) (hw : xNw w = true) (h : va_Nw w s) : va_Nw w U := by
  refine va_Nw.same ?_ hv h
  cases w <;> first | (cases hw; done) | rfl
/-- what lies outside every world and stays: the static tables, the String constants -/
def xEnv (ad : Nat → Nat) (A : Nat → Prop) (U : State) (H : Heap) : Prop :=
  (∀ k : Nat, k < 3 → va_Z "LawsLapse" (xTabNm k) "[I" (.ref (ad (1000 + k))) A U H ∧ va_T .int (ad (1000 + k)) (xTabN k) (fun j => .int (xTab k j)) A U H) ∧
  vk_S 12 xStrL xStrB (fun i => ad (2000 + i)) (fun i => ad (3000 + i)) A U H ∧
  (∀ (i ix : Nat), i < 12 → Cond.stringRef RX3 ix (xStr.getD i "") ∈ lw_tbl → vk_R RX3 ix (xStr.getD i "") (ad (2000 + i)) U) ∧
  va_Z "java/lang/String" "COMPACT_STRINGS" "Z" (.int 1) A U H ∧ (∀ w ∈ lw_tbl, xNw w = true → va_Nw w U) ∧
  (va_Z "java/lang/String" "SIOOBE_FORMATTER" "Ljava/util/function/BiFunction;" .null A U H ∨ va_Z "java/lang/String" "SIOOBE_FORMATTER" "Ljava/util/function/BiFunction;" (.ref (ad 4000)) A U H)
theorem xEnv.warm {ad : Nat → Nat} {A : Nat → Prop} {s U : State} {H : Heap} (hW : s.WarmedH U.vm) (h : xEnv ad A s H) : xEnv ad A U H :=
  ⟨fun k hk => ⟨(h.1 k hk).1.moved hW.alike, (h.1 k hk).2.moved hW.alike⟩, h.2.1.moved hW.alike, fun i ix hi hm => (h.2.2.1 i ix hi hm).warm hW, h.2.2.2.1.moved hW.alike, fun w hw hn => xNw_warm hW hn (h.2.2.2.2.1 w hw hn), h.2.2.2.2.2.imp (fun q => q.moved hW.alike) (fun q => q.moved hW.alike)⟩
theorem xEnv.kept {ad : Nat → Nat} {A : Nat → Prop} {U : State} {H H1 : Heap} (h : xEnv ad A U H) (hq : ∀ a : Nat, a < H.size → ¬ A a → H1[a]? = H[a]?) : xEnv ad A U H1 :=
  ⟨fun k hk => ⟨(h.1 k hk).1.kept hq, (h.1 k hk).2.kept hq⟩, h.2.1.kept hq, h.2.2.1, h.2.2.2.1.kept hq, h.2.2.2.2.1, h.2.2.2.2.2.imp (fun q => q.kept hq) (fun q => q.kept hq)⟩
theorem xEnv.narrow {ad : Nat → Nat} {A B : Nat → Prop} {U : State} {H : Heap} (h : xEnv ad A U H) (hAB : ∀ q, B q → A q) : xEnv ad B U H :=
  ⟨fun k hk => ⟨(h.1 k hk).1.narrow hAB, (h.1 k hk).2.narrow hAB⟩, h.2.1.narrow hAB, h.2.2.1, h.2.2.2.1.narrow hAB, h.2.2.2.2.1, h.2.2.2.2.2.imp (fun q => q.narrow hAB) (fun q => q.narrow hAB)⟩
theorem xEnv.ad {ad ad' : Nat → Nat} {A : Nat → Prop} {U : State} {H : Heap} (h : xEnv ad A U H) (e : ∀ q, 1000 ≤ q → ad' q = ad q) : xEnv ad' A U H := by
  refine ⟨fun k hk => ?_, ?_, fun i ix hi hm => ?_, h.2.2.2.1, h.2.2.2.2.1, ?_⟩
  · rw [e _ (by omega)]; exact h.1 k hk
  · have e2 : (fun i => ad' (2000 + i)) = fun i => ad (2000 + i) := funext fun i => e _ (by omega)
    have e3 : (fun i => ad' (3000 + i)) = fun i => ad (3000 + i) := funext fun i => e _ (by omega)
    rw [e2, e3]; exact h.2.1
  · rw [e _ (by omega)]; exact h.2.2.1 i ix hi hm
  · rw [e _ (by omega)]; exact h.2.2.2.2.2
theorem xEnv.blind {ad : Nat → Nat} {A : Nat → Prop} {U : State} {H : Heap} {g : JFrame} {mk : MethodId} {a : Array Value} (h : xEnv ad A U H) : xEnv ad A (U.calling g mk a) H :=
  ⟨fun k hk => ⟨(h.1 k hk).1.moved (Vm.Alike.refl U.vm), (h.1 k hk).2.moved (Vm.Alike.refl U.vm)⟩, h.2.1.moved (Vm.Alike.refl U.vm), fun i ix hi hm => (h.2.2.1 i ix hi hm).same rfl, h.2.2.2.1.moved (Vm.Alike.refl U.vm), fun w hw hn => xNw_same (s := U) (U := U.calling g mk a) rfl hn (h.2.2.2.2.1 w hw hn), h.2.2.2.2.2.imp (fun q => q.moved (Vm.Alike.refl U.vm)) (fun q => q.moved (Vm.Alike.refl U.vm))⟩
def xL (ad : Nat → Nat) (lv : xLv) : xLv := lv.map (fun q => (q.1, xR ad q.2))
theorem xR_cat (ad : Nat → Nat) (v : Value) : (xR ad v).category = v.category := by cases v <;> rfl
theorem xL_st1 (ad : Nat → Nat) (lv : xLv) (i : Nat) (v : Value) : (i, xR ad v) :: (xL ad lv).filter (fun q => !(q.1 == i) && !(q.1 + 1 == i && q.2.category == 2)) = xL ad (xSt1 lv i v) := by
  unfold xL xSt1
  rw [List.map_cons, List.filter_map]
  congr 2
  apply List.filter_congr
  intro q _
  simp only [Function.comp, xR_cat]
theorem xL_st2 (ad : Nat → Nat) (lv : xLv) (i : Nat) (v : Value) : (i, xR ad v) :: (xL ad lv).filter (fun q => !(q.1 == i) && (!(q.1 == i + 1) && !(q.1 + 1 == i && q.2.category == 2))) = xL ad (xSt2 lv i v) := by
  unfold xL xSt2
  rw [List.map_cons, List.filter_map]
  congr 2
  apply List.filter_congr
  intro q _
  simp only [Function.comp, xR_cat]
theorem xLd_of {ad : Nat → Nat} {lv : xLv} {i : Nat} {v : Value} {ls : Array Slot} {nL : Nat} (h : xLd lv i = some v) (hl : lv_has ls nL (xL ad lv)) : ls[i]? = some (.val (xR ad v)) := by
  unfold xLd at h
  cases hf : lv.find? (fun q => q.1 == i) with
  | none => rw [hf] at h; cases h
  | some q =>
    rw [hf] at h
    cases h
    have h1 := List.find?_some hf
    have h2 := List.mem_of_find?_eq_some hf
    have h3 : q.1 = i := by simpa using h1
    have := hl.2.2 (q.1, xR ad q.2) (List.mem_map.mpr ⟨q, h2, rfl⟩)
    rw [h3] at this
    exact this
theorem xLd_k {ad : Nat → Nat} {lv : xLv} {i : Nat} {v : Value} (h : xLd lv i = some v) : ∃ k : Nat, (xL ad lv)[k]? = some (i, xR ad v) := by
  unfold xLd at h
  cases hf : lv.find? (fun q => q.1 == i) with
  | none => rw [hf] at h; cases h
  | some q =>
    rw [hf] at h
    cases h
    have h1 := List.find?_some hf
    have h3 : q.1 = i := by simpa using h1
    obtain ⟨k, hk⟩ := List.getElem?_of_mem (List.mem_map.mpr ⟨q, List.mem_of_find?_eq_some hf, rfl⟩ : (q.1, xR ad q.2) ∈ xL ad lv)
    rw [h3] at hk
    exact ⟨k, hk⟩
/-- what is given all along a walk: the machine, the method's code, the tables' words, the world's classes and places -/
def xC (p : Program) (R : Room) (s : State) (m : MethodId) (args : Array Value) (meth : Method) (c : Code) (own : String) (cc : ByteArray) (nL : Nat) (D : va_G) (cs : Nat → ClassId) (ad : Nat → Nat) (sh : xSh) (A : Nat → Prop) : Prop :=
  p.tables.exec = Jvm.exec ∧ c.code = cc ∧ c.maxLocals = nL ∧ s.vm.findClass own = some m.cls ∧ (∀ w ∈ lw_gt, w.before args s = true) ∧ meth.locks = false ∧ va_K D classes (xTys cs) s ∧ (∀ i j : Nat, i < sh.length → j < sh.length → ad i = ad j → i = j) ∧ (∀ i : Nat, i < sh.length → A (ad i)) ∧ (∀ q : Nat, s.heap.size ≤ q → A q) ∧ xEnv ad A s s.heap ∧ (1 ≤ R.frames ∧ 40 ≤ R.locals)
def ww (p : Program) (l : Launch) (e : Env) (R : Room) (s : State) (m : MethodId) (args : Array Value) (below : List Frame) (meth : Method) (c : Code) (nL : Nat) (D : va_G) (cs : Nat → ClassId) (ad : Nat → Nat) (sh : xSh) (A : Nat → Prop) (Q : State → Prop) (pc : Nat) (lv : xLv) (st : List Value) (z : xMem) : Prop :=
  ∀ (H : Heap) (locs : List Loc) (ls : Array Slot), va_P D classes (xW ad cs z 0 sh) H → va_S A s.heap H locs → lv_has ls nL (xL ad lv) → W p l e R s m args below meth c H locs 0 0 Q (F0 m pc ls (st.map (xR ad)))
theorem xW_D {A : Nat → Prop} {ad : Nat → Nat} {cs : Nat → ClassId} {sh : xSh} {z : xMem} (h1 : ∀ i j : Nat, i < sh.length → j < sh.length → ad i = ad j → i = j) (h2 : ∀ i : Nat, i < sh.length → A (ad i)) : va_D A (xW ad cs z 0 sh) := by
  have key : ∀ (k : Nat) (q : Nat × va_E), (xW ad cs z 0 sh)[k]? = some q → k < sh.length ∧ q.1 = ad k := by
    intro k q hk
    rw [xW_get] at hk
    cases hs : sh[k]? with
    | none => rw [hs] at hk; cases hk
    | some x =>
      rw [hs] at hk
      cases hk
      exact ⟨(List.getElem?_eq_some_iff.mp hs).1, by simp⟩
  refine ⟨fun i j p q hi hj hpq => ?_, fun k q hk => ?_⟩
  · obtain ⟨a1, a2⟩ := key i p hi
    obtain ⟨b1, b2⟩ := key j q hj
    exact h1 i j a1 b1 (by rw [← a2, ← b2]; exact hpq)
  · obtain ⟨a1, a2⟩ := key k q hk
    rw [a2]
    exact h2 k a1
end
section
section XS
variable {p : Program} {l : Launch} {e : Env} {R : Room} {s : State} {m : MethodId} {args : Array Value} {below : List Frame} {meth : Method} {c : Code} {own : String} {cc : ByteArray} {nL : Nat} {D : va_G} {cs : Nat → ClassId} {ad : Nat → Nat} {sh : xSh} {A : Nat → Prop} {Q : State → Prop}
theorem xPush_ok {pc pc0 : Nat} {lv : xLv} {st : List Value} {z : xMem} {v : Value} {ps : List Prop} {pc' : Nat} {lv' : xLv} {st' : List Value} {z' : xMem} (h : xPush pc lv st z v = some (ps, pc', lv', st', z'))
    (k : ww p l e R s m args below meth c nL D cs ad sh A Q pc' lv' st' z')
    (r : ∀ (H : Heap) (locs : List Loc) (ls : Array Slot), lv_has ls nL (xL ad lv) → va_S A s.heap H locs → W p l e R s m args below meth c H locs 0 0 Q (F0 m pc ls (xR ad v :: st.map (xR ad))) → W p l e R s m args below meth c H locs 0 0 Q (F0 m pc0 ls (st.map (xR ad)))) : ww p l e R s m args below meth c nL D cs ad sh A Q pc0 lv st z := by
  unfold xPush at h
  cases h
  intro H locs ls hP hS hl
  exact r H locs ls hl hS (k H locs ls hP hS hl)
theorem xLoad_ok {pc pc0 i t : Nat} {lv : xLv} {st : List Value} {z : xMem} {ps : List Prop} {pc' : Nat} {lv' : xLv} {st' : List Value} {z' : xMem} (h : xLoad pc lv st z i t = some (ps, pc', lv', st', z'))
    (k : ww p l e R s m args below meth c nL D cs ad sh A Q pc' lv' st' z')
    (r0 : t = 0 → ∀ (H : Heap) (locs : List Loc) (ls : Array Slot) (x : Int32), ls[i]? = some (.val (.int x)) → W p l e R s m args below meth c H locs 0 0 Q (F0 m pc ls (.int x :: st.map (xR ad))) → W p l e R s m args below meth c H locs 0 0 Q (F0 m pc0 ls (st.map (xR ad))))
    (r1 : t = 1 → ∀ (H : Heap) (locs : List Loc) (ls : Array Slot) (x : Nat), ls[i]? = some (.val (.ref x)) → W p l e R s m args below meth c H locs 0 0 Q (F0 m pc ls (.ref x :: st.map (xR ad))) → W p l e R s m args below meth c H locs 0 0 Q (F0 m pc0 ls (st.map (xR ad))))
    (r2 : t = 1 → ∀ (H : Heap) (locs : List Loc) (ls : Array Slot), ls[i]? = some (.val .null) → W p l e R s m args below meth c H locs 0 0 Q (F0 m pc ls (.null :: st.map (xR ad))) → W p l e R s m args below meth c H locs 0 0 Q (F0 m pc0 ls (st.map (xR ad))))
    (r3 : t = 2 → ∀ (H : Heap) (locs : List Loc) (ls : Array Slot) (x : Int64), ls[i]? = some (.val (.long x)) → W p l e R s m args below meth c H locs 0 0 Q (F0 m pc ls (.long x :: st.map (xR ad))) → W p l e R s m args below meth c H locs 0 0 Q (F0 m pc0 ls (st.map (xR ad)))) : ww p l e R s m args below meth c nL D cs ad sh A Q pc0 lv st z := by
  unfold xLoad at h
  split at h
  · rename_i x hx
    cases h
    intro H locs ls hP hS hl
    exact r0 rfl H locs ls x (xLd_of hx hl) (k H locs ls hP hS hl)
  · rename_i x hx
    cases h
    intro H locs ls hP hS hl
    exact r1 rfl H locs ls (ad x) (xLd_of hx hl) (k H locs ls hP hS hl)
  · rename_i hx
    cases h
    intro H locs ls hP hS hl
    exact r2 rfl H locs ls (xLd_of hx hl) (k H locs ls hP hS hl)
  · rename_i x hx
    cases h
    intro H locs ls hP hS hl
    exact r3 rfl H locs ls x (xLd_of hx hl) (k H locs ls hP hS hl)
  · cases h
theorem xStore_ok {pc pc0 i t : Nat} {lv : xLv} {st : List Value} {z : xMem} {ps : List Prop} {pc' : Nat} {lv' : xLv} {st' : List Value} {z' : xMem} (h : xStore nL pc lv st z i t = some (ps, pc', lv', st', z'))
    (k : ww p l e R s m args below meth c nL D cs ad sh A Q pc' lv' st' z')
    (r0 : t = 0 → i < nL → ∀ (H : Heap) (locs : List Loc) (ls : Array Slot) (x : Int32) (rest : List Value), lv_has ls nL (xL ad lv) → (∀ ls' : Array Slot, lv_has ls' nL (xL ad (xSt1 lv i (.int x))) → W p l e R s m args below meth c H locs 0 0 Q (F0 m pc ls' rest)) → W p l e R s m args below meth c H locs 0 0 Q (F0 m pc0 ls (.int x :: rest)))
    (r1 : t = 1 → i < nL → ∀ (H : Heap) (locs : List Loc) (ls : Array Slot) (x : Nat) (rest : List Value), lv_has ls nL (xL ad lv) → (∀ ls' : Array Slot, lv_has ls' nL (xL ad (xSt1 lv i (.ref x))) → W p l e R s m args below meth c H locs 0 0 Q (F0 m pc ls' rest)) → W p l e R s m args below meth c H locs 0 0 Q (F0 m pc0 ls (.ref (ad x) :: rest)))
    (r2 : t = 1 → i < nL → ∀ (H : Heap) (locs : List Loc) (ls : Array Slot) (rest : List Value), lv_has ls nL (xL ad lv) → (∀ ls' : Array Slot, lv_has ls' nL (xL ad (xSt1 lv i .null)) → W p l e R s m args below meth c H locs 0 0 Q (F0 m pc ls' rest)) → W p l e R s m args below meth c H locs 0 0 Q (F0 m pc0 ls (.null :: rest)))
    (r3 : t = 2 → i + 1 < nL → ∀ (H : Heap) (locs : List Loc) (ls : Array Slot) (x : Int64) (rest : List Value), lv_has ls nL (xL ad lv) → (∀ ls' : Array Slot, lv_has ls' nL (xL ad (xSt2 lv i (.long x))) → W p l e R s m args below meth c H locs 0 0 Q (F0 m pc ls' rest)) → W p l e R s m args below meth c H locs 0 0 Q (F0 m pc0 ls (.long x :: rest))) : ww p l e R s m args below meth c nL D cs ad sh A Q pc0 lv st z := by
  unfold xStore at h
  split at h
  · split at h
    · rename_i hi
      cases h
      intro H locs ls hP hS hl
      exact r0 rfl hi H locs ls _ _ hl (fun ls' hl' => k H locs ls' hP hS hl')
    · cases h
  · split at h
    · rename_i hi
      cases h
      intro H locs ls hP hS hl
      exact r1 rfl hi H locs ls _ _ hl (fun ls' hl' => k H locs ls' hP hS hl')
    · cases h
  · split at h
    · rename_i hi
      cases h
      intro H locs ls hP hS hl
      exact r2 rfl hi H locs ls _ hl (fun ls' hl' => k H locs ls' hP hS hl')
    · cases h
  · split at h
    · rename_i hi
      cases h
      intro H locs ls hP hS hl
      exact r3 rfl hi H locs ls _ _ hl (fun ls' hl' => k H locs ls' hP hS hl')
    · cases h
  · cases h
theorem xTg_eq {pc : Nat} {off : Int} (h : 0 ≤ (pc : Int) + off) : (pc : Int) + off = ((xTg pc off : Nat) : Int) := by
  unfold xTg
  omega
theorem xC_ls {ls : Array Slot} {lv : xLv} (h : lv_has ls nL (xL ad lv)) (hml : c.maxLocals = nL) : c.maxLocals = ls.size := by rw [hml, h.1]
theorem xW_len0 {cl : List vw_C} : (cl[3]? : Option vw_C) = cl[3]? := rfl
/-- reading a field: the value that the shape tells -/
theorem xGet_ok (C : xC p R s m args meth c own cc nL D cs ad sh A) {ix w a b t : Nat} {v : Int32} {u : Int64} {pc q : Nat} {lv : xLv} {r : List Value} {z : xMem} {ps : List Prop} {pc' : Nat} {lv' : xLv} {st' : List Value} {z' : xMem} (hd : decode cc pc = .ok (.getfield ix, 3)) (hok : xOkI own (.getfield ix) (w, a, b, t) v u = true) (h : xGet sh (pc + 3) lv z a b q r = some (ps, pc', lv', st', z'))
    (k : ww p l e R s m args below meth c nL D cs ad sh A Q pc' lv' st' z') : ww p l e R s m args below meth c nL D cs ad sh A Q pc lv (.ref q :: r) z := by
  obtain ⟨hx, hb, hml, hown, hts, hlk, hK, hi1, hi2, hA, hE, hR⟩ := C
  simp only [xOkI] at hok
  cases hcl : classes[a]? with
  | none => rw [hcl] at hok; cases hok
  | some x =>
    obtain ⟨Cn, T, N⟩ := x
    rw [hcl] at hok
    simp only [Bool.and_eq_true, Bool.or_eq_true, decide_eq_true_eq] at hok
    obtain ⟨hbN, hw⟩ := hok
    obtain ⟨hu, -, -⟩ := lw_cls hcl
    have key : ∀ (fs : List Nat) (cd : Nat) (av : Value), sh[q]? = some (0, a, fs) → fs[b]? = some cd → xR ad av = xV ad z q b cd → ww p l e R s m args below meth c nL D cs ad sh A Q (pc + 3) lv (av :: r) z → ww p l e R s m args below meth c nL D cs ad sh A Q pc lv (.ref q :: r) z := by
      intro fs cd av hs hf hav kk H locs ls hP hS hl
      have h1 := kk H locs ls hP hS hl
      have hv : (xFs (xV ad z q) 0 fs)[b]? = some (xR ad av) := by rw [xFs_get, hf, hav]; simp
      rcases hw with hw | hw
      · exact va_get (D := D) (C := Cn) (T := T) (N := N) (ci := a) hx hb hts hu hown hK hP q (xW_at hs) hcl b hbN (hts _ (lw_mem hw rfl)) (fun _ h9 => h9) hv hd h1
      · exact va_getN (D := D) (C := Cn) (T := T) (N := N) (ci := a) hx hb hts hu hown hK hP q (xW_at hs) hcl b hbN (va_Nw.use rfl (hE.2.2.2.2.1 _ (List.mem_of_getElem? hw) rfl)) (fun _ h9 => h9) hv hd h1
    unfold xGet at h
    split at h
    · rename_i ci fs hs
      split at h
      · rename_i hci
        subst hci
        split at h
        · rename_i hf
          cases h
          exact key fs 0 _ hs hf rfl k
        · rename_i hf
          cases h
          exact key fs 3 _ hs hf rfl k
        · rename_i hf
          cases h
          exact key fs 1 _ hs hf rfl k
        · rename_i cd hf
          cases h
          exact key fs (cd + 4) _ hs hf rfl k
        · cases h
      · cases h
    · cases h
/-- storing into the world: a cell's contents change -/
theorem xW_upd {z : xMem} {q : Nat} {x : Nat × Nat × List Nat} {g : Nat → Int32} {e1 : va_E} (hs : sh[q]? = some x) (he : e1 = xCell ad cs (xUp z.1 q g, z.2) q x) : (xW ad cs z 0 sh).set q (ad q, e1) = xW ad cs (xUp z.1 q g, z.2) 0 sh := xW_set hs he (fun a y hne _ => xCell_up hne)
theorem xPut_ok (C : xC p R s m args meth c own cc nL D cs ad sh A) {ix w a b t : Nat} {v : Int32} {u : Int64} {pc q : Nat} {lv : xLv} {r : List Value} {z : xMem} {w0 : Value} {ps : List Prop} {pc' : Nat} {lv' : xLv} {st' : List Value} {z' : xMem} (hd : decode cc pc = .ok (.putfield ix, 3)) (hok : xOkI own (.putfield ix) (w, a, b, t) v u = true) (h : xPut sh (pc + 3) lv z a b t q w0 r = some (ps, pc', lv', st', z')) (hp : xAll ps)
    (k : ww p l e R s m args below meth c nL D cs ad sh A Q pc' lv' st' z') : ww p l e R s m args below meth c nL D cs ad sh A Q pc lv (w0 :: .ref q :: r) z := by
  obtain ⟨hx, hb, hml, hown, hts, hlk, hK, hi1, hi2, hA, hE, hR⟩ := C
  simp only [xOkI] at hok
  cases hcl : classes[a]? with
  | none => rw [hcl] at hok; cases hok
  | some x =>
    obtain ⟨Cn, T, N⟩ := x
    rw [hcl] at hok
    simp only [Bool.and_eq_true, Bool.or_eq_true, decide_eq_true_eq, Bool.not_eq_true'] at hok
    obtain ⟨⟨⟨hbN, hw⟩, hfin⟩, hty⟩ := hok
    obtain ⟨hu, ⟨ty, htyok⟩, hnm⟩ := lw_cls hcl
    have key : ∀ (fs : List Nat) (rv : Value) (z1 : xMem), sh[q]? = some (0, a, fs) → b < fs.length → (∀ T0 : FieldType, parseFieldDescriptor (T b).2.2.1 = some T0 → narrow T0 rv = rv ∧ fits T0 rv = true) → (xW ad cs z 0 sh).set q (ad q, .inr (a, (xFs (xV ad z q) 0 fs).set b rv)) = xW ad cs z1 0 sh → xR ad w0 = rv → ww p l e R s m args below meth c nL D cs ad sh A Q (pc + 3) lv r z1 → ww p l e R s m args below meth c nL D cs ad sh A Q pc lv (w0 :: .ref q :: r) z := by
      intro fs rv z1 hs hlen hnf hset hrv kk H locs ls hP hS hl
      have hD : va_D A (xW ad cs z 0 sh) := xW_D hi1 hi2
      obtain ⟨n1, n2⟩ := hnf _ hty
      have kk2 : ∀ (H1 : Heap) (locs1 : List Loc), va_P D classes ((xW ad cs z 0 sh).set q (ad q, .inr (a, (xFs (xV ad z q) 0 fs).set b rv))) H1 → va_D A ((xW ad cs z 0 sh).set q (ad q, .inr (a, (xFs (xV ad z q) 0 fs).set b rv))) → va_S A s.heap H1 locs1 → W p l e R s m args below meth c H1 locs1 0 0 Q (F0 m (pc + 3) ls (r.map (xR ad))) := by
        intro H1 locs1 hP1 _ hS1
        rw [hset] at hP1
        exact kk H1 locs1 ls hP1 hS1 hl
      show W p l e R s m args below meth c H locs 0 0 Q (F0 m pc ls (xR ad w0 :: .ref (ad q) :: r.map (xR ad)))
      rw [hrv]
      rcases hw with hw | hw
      · exact va_put (D := D) (C := Cn) (T := T) (N := N) (ci := a) hx hb hts hu ty htyok hnm hown hK hP hD hS q (xW_at hs) hcl b hbN (hts _ (lw_mem hw rfl)) (fun _ h9 => h9) hfin hty n1 n2 (by rw [xFs_len]; exact hlen) hd kk2
      · exact va_putN (D := D) (C := Cn) (T := T) (N := N) (ci := a) hx hb hts hu ty htyok hnm hown hK hP hD hS q (xW_at hs) hcl b hbN (va_Nw.use rfl (hE.2.2.2.2.1 _ (List.mem_of_getElem? hw) rfl)) (fun _ h9 => h9) hfin hty n1 n2 (by rw [xFs_len]; exact hlen) hd kk2
    unfold xPut at h
    split at h
    · rename_i ci fs hs
      split at h
      · rename_i hci
        subst hci
        split at h
        · rename_i x hf
          cases h
          refine key fs (.int x) _ hs (List.getElem?_eq_some_iff.mp hf).1 ?_ (xW_upd hs ?_) rfl k
          · intro T0 hT0
            rw [hty] at hT0
            cases hT0
            exact ⟨rfl, rfl⟩
          · show (Sum.inr _ : va_E) = Sum.inr _
            rw [xFs_put ad z q b x fs 0 hf (Or.inl rfl)]
        · rename_i x hf
          cases h
          refine key fs (.int x) _ hs (List.getElem?_eq_some_iff.mp hf).1 ?_ (xW_upd hs ?_) rfl k
          · intro T0 hT0
            rw [hty] at hT0
            cases hT0
            rcases (hp : x = 0 ∨ x = 1) with rfl | rfl <;> exact ⟨by decide, by decide⟩
          · show (Sum.inr _ : va_E) = Sum.inr _
            rw [xFs_put ad z q b x fs 3 hf (Or.inr rfl)]
        · rename_i x hf
          cases h
          refine key fs (.long x) _ hs (List.getElem?_eq_some_iff.mp hf).1 ?_ (xW_set hs ?_ (fun a y hne _ => xCell_upL hne)) rfl k
          · intro T0 hT0
            rw [hty] at hT0
            cases hT0
            exact ⟨rfl, rfl⟩
          · show (Sum.inr _ : va_E) = Sum.inr _
            rw [xFs_putL ad z q b x fs hf]
        · cases h
      · cases h
    · cases h
end XS
end
section
section XS2
variable {p : Program} {l : Launch} {e : Env} {R : Room} {s : State} {m : MethodId} {args : Array Value} {below : List Frame} {meth : Method} {c : Code} {own : String} {cc : ByteArray} {nL : Nat} {D : va_G} {cs : Nat → ClassId} {ad : Nat → Nat} {sh : xSh} {A : Nat → Prop} {Q : State → Prop}
theorem xIald_ok (C : xC p R s m args meth c own cc nL D cs ad sh A) {pc q : Nat} {i : Int32} {lv : xLv} {r : List Value} {z : xMem} {ps : List Prop} {pc' : Nat} {lv' : xLv} {st' : List Value} {z' : xMem} (hd : decode cc pc = .ok (.iaload, 1)) (h : xIald sh (pc + 1) lv z q i r = some (ps, pc', lv', st', z')) (hp : xAll ps)
    (k : ww p l e R s m args below meth c nL D cs ad sh A Q pc' lv' st' z') : ww p l e R s m args below meth c nL D cs ad sh A Q pc lv (.int i :: .ref q :: r) z := by
  obtain ⟨hx, hb, hml, hown, hts, hlk, hK, hi1, hi2, hA, hE, hR⟩ := C
  unfold xIald at h
  split at h
  · rename_i n x hs
    cases h
    intro H locs ls hP hS hl
    exact va_iald (D := D) (tys := xTys cs) hx hb hK hP q 0 (xW_at hs) rfl hp hd (k H locs ls hP hS hl)
  · cases h
  · split at h
    · rename_i hq
      cases h
      intro H locs ls hP hS hl
      obtain ⟨t, ht, rfl⟩ : ∃ t : Nat, t < 3 ∧ q = 1000 + t := ⟨q - 1000, by omega, by omega⟩
      have e1 : 1000 + t - 1000 = t := by omega
      rw [e1] at hp k
      exact va_ti (N := xTabN t) (f := fun j => .int (xTab t j)) hx hb (hE.1 t ht).2 hS hp rfl hd (k H locs ls hP hS hl)
    · cases h
theorem xBald_ok (C : xC p R s m args meth c own cc nL D cs ad sh A) {pc q : Nat} {i : Int32} {lv : xLv} {r : List Value} {z : xMem} {ps : List Prop} {pc' : Nat} {lv' : xLv} {st' : List Value} {z' : xMem} (hd : decode cc pc = .ok (.baload, 1)) (h : xBald sh (pc + 1) lv z q i r = some (ps, pc', lv', st', z')) (hp : xAll ps)
    (k : ww p l e R s m args below meth c nL D cs ad sh A Q pc' lv' st' z') : ww p l e R s m args below meth c nL D cs ad sh A Q pc lv (.int i :: .ref q :: r) z := by
  obtain ⟨hx, hb, hml, hown, hts, hlk, hK, hi1, hi2, hA, hE, hR⟩ := C
  unfold xBald at h
  split at h
  · rename_i n x hs
    cases h
    intro H locs ls hP hS hl
    exact va_zald (D := D) (tys := xTys cs) hx hb hK hP q 1 (xW_at hs) rfl hp hd (k H locs ls hP hS hl)
  · cases h
theorem xIast_ok (C : xC p R s m args meth c own cc nL D cs ad sh A) {pc q : Nat} {i x : Int32} {lv : xLv} {r : List Value} {z : xMem} {ps : List Prop} {pc' : Nat} {lv' : xLv} {st' : List Value} {z' : xMem} (hd : decode cc pc = .ok (.iastore, 1)) (h : xIast sh (pc + 1) lv z q i x r = some (ps, pc', lv', st', z')) (hp : xAll ps)
    (k : ww p l e R s m args below meth c nL D cs ad sh A Q pc' lv' st' z') : ww p l e R s m args below meth c nL D cs ad sh A Q pc lv (.int x :: .int i :: .ref q :: r) z := by
  obtain ⟨hx, hb, hml, hown, hts, hlk, hK, hi1, hi2, hA, hE, hR⟩ := C
  unfold xIast at h
  split at h
  · rename_i n y hs
    cases h
    intro H locs ls hP hS hl
    refine va_iast (D := D) (tys := xTys cs) hx hb hK hP (xW_D hi1 hi2) hS q 0 (xW_at hs) rfl hp hd (fun H1 locs1 hP1 _ hS1 => ?_)
    have e1 : (xW ad cs z 0 sh).set q (ad q, .inl (cs 0, n, .inl (upd (z.1 q) i.toNatClampNeg x))) = xW ad cs (xUp z.1 q (upd (z.1 q) i.toNatClampNeg x), z.2) 0 sh := xW_upd hs (by
      show (Sum.inl _ : va_E) = Sum.inl _
      dsimp only; rw [xUp_eq])
    rw [e1] at hP1
    exact k H1 locs1 ls hP1 hS1 hl
  · cases h
theorem xBast_ok (C : xC p R s m args meth c own cc nL D cs ad sh A) {pc q : Nat} {i x : Int32} {lv : xLv} {r : List Value} {z : xMem} {ps : List Prop} {pc' : Nat} {lv' : xLv} {st' : List Value} {z' : xMem} (hd : decode cc pc = .ok (.bastore, 1)) (h : xBast sh (pc + 1) lv z q i x r = some (ps, pc', lv', st', z')) (hp : xAll ps)
    (k : ww p l e R s m args below meth c nL D cs ad sh A Q pc' lv' st' z') : ww p l e R s m args below meth c nL D cs ad sh A Q pc lv (.int x :: .int i :: .ref q :: r) z := by
  obtain ⟨hx, hb, hml, hown, hts, hlk, hK, hi1, hi2, hA, hE, hR⟩ := C
  unfold xBast at h
  split at h
  · rename_i n y hs
    cases h
    obtain ⟨hp1, hp2⟩ : vp_in i n ∧ (x = 0 ∨ x = 1) := hp
    intro H locs ls hP hS hl
    refine va_zast (D := D) (tys := xTys cs) hx hb hK hP (xW_D hi1 hi2) hS q 1 (xW_at hs) rfl hp1 hd (fun H1 locs1 hP1 _ hS1 => ?_)
    have e0 : vp_nar .boolean x = x := by rcases hp2 with rfl | rfl <;> decide
    rw [e0] at hP1
    have e1 : (xW ad cs z 0 sh).set q (ad q, .inl (cs 1, n, .inl (upd (z.1 q) i.toNatClampNeg x))) = xW ad cs (xUp z.1 q (upd (z.1 q) i.toNatClampNeg x), z.2) 0 sh := xW_upd hs (by
      show (Sum.inl _ : va_E) = Sum.inl _
      dsimp only; rw [xUp_eq])
    rw [e1] at hP1
    exact k H1 locs1 ls hP1 hS1 hl
  · cases h
theorem xAald_ok (C : xC p R s m args meth c own cc nL D cs ad sh A) {pc q : Nat} {i : Int32} {lv : xLv} {r : List Value} {z : xMem} {ps : List Prop} {pc' : Nat} {lv' : xLv} {st' : List Value} {z' : xMem} (hd : decode cc pc = .ok (.aaload, 1)) (h : xAald sh (pc + 1) lv z q i r = some (ps, pc', lv', st', z')) (hp : xAll ps)
    (k : ww p l e R s m args below meth c nL D cs ad sh A Q pc' lv' st' z') : ww p l e R s m args below meth c nL D cs ad sh A Q pc lv (.int i :: .ref q :: r) z := by
  obtain ⟨hx, hb, hml, hown, hts, hlk, hK, hi1, hi2, hA, hE, hR⟩ := C
  unfold xAald at h
  split at h
  · rename_i n y hs
    split at h
    · rename_i a ha
      cases h
      have hp : vp_in i n := hp
      intro H locs ls hP hS hl
      have h1 := k H locs ls hP hS hl
      have h2 := hP q _ (xW_at hs)
      have h3 : H[ad q]? = some (arrV (cs 2) n (fun j => va_rf ((y[j]?).map ad))) := h2
      have hlt : i.toNatClampNeg < n := Nat.not_le.mp fun q => hp (Or.inr q)
      exact W.aald (v := .ref (ad a)) (ty := .array .int) hx hb h3 ((hK.2 2 _ rfl).1 n _) rfl (fun q => by cases q) (by show ¬ (i < 0 ∨ (arrV _ _ _).slots.size ≤ _); rw [arrV_size]; exact hp) (by show (arrV _ _ _).slots[_]? = _; rw [arrV_read _ _ hlt, ha]; rfl) rfl rfl hd h1
    · cases h
  · rename_i n y hs
    split at h
    · rename_i a ha
      cases h
      have hp : vp_in i n := hp
      intro H locs ls hP hS hl
      have h1 := k H locs ls hP hS hl
      have h2 := hP q _ (xW_at hs)
      have h3 : H[ad q]? = some (arrV (cs 3) n (fun j => va_rf ((y[j]?).map ad))) := h2
      have hlt : i.toNatClampNeg < n := Nat.not_le.mp fun q => hp (Or.inr q)
      exact W.aald (v := .ref (ad a)) (ty := .object "LawsLapse$Sheet") hx hb h3 ((hK.2 3 _ rfl).1 n _) rfl (fun q => by cases q) (by show ¬ (i < 0 ∨ (arrV _ _ _).slots.size ≤ _); rw [arrV_size]; exact hp) (by show (arrV _ _ _).slots[_]? = _; rw [arrV_read _ _ hlt, ha]; rfl) rfl rfl hd h1
    · cases h
  · cases h
theorem xAlen_ok (C : xC p R s m args meth c own cc nL D cs ad sh A) {pc q : Nat} {v : Int32} {lv : xLv} {r : List Value} {z : xMem} {ps : List Prop} {pc' : Nat} {lv' : xLv} {st' : List Value} {z' : xMem} (hd : decode cc pc = .ok (.arraylength, 1)) (h : xAlen sh (pc + 1) lv z v q r = some (ps, pc', lv', st', z'))
    (k : ww p l e R s m args below meth c nL D cs ad sh A Q pc' lv' st' z') : ww p l e R s m args below meth c nL D cs ad sh A Q pc lv (.ref q :: r) z := by
  obtain ⟨hx, hb, hml, hown, hts, hlk, hK, hi1, hi2, hA, hE, hR⟩ := C
  unfold xAlen at h
  split at h
  · rename_i n y hs
    split at h
    · rename_i hv
      cases h
      intro H locs ls hP hS hl
      exact va_alen (D := D) (tys := xTys cs) hx hb hK hP q 0 (xW_at hs) (ty := .int) rfl hv hd (k H locs ls hP hS hl)
    · cases h
  · cases h
theorem xR_sum (ad : Nat → Nat) (r : List Value) : ((r.map (xR ad)).map fun v => v.category).sum = (r.map Value.category).sum := by
  rw [List.map_map]
  congr 1
  apply List.map_congr_left
  intro v _
  exact xR_cat ad v
theorem xCopy_ok (C : xC p R s m args meth c own cc nL D cs ad sh A) {ix w : Nat} {pc : Nat} {lv : xLv} {st : List Value} {z : xMem} {ps : List Prop} {pc' : Nat} {lv' : xLv} {st' : List Value} {z' : xMem} (hd : decode cc pc = .ok (.invokestatic ix, 3)) (hw : lw_tbl[w]? = some (.methodLink own ix arraycopyName)) (h : xCopy sh (pc + 3) lv z st = some (ps, pc', lv', st', z')) (hp : xAll ps)
    (k : ww p l e R s m args below meth c nL D cs ad sh A Q pc' lv' st' z') : ww p l e R s m args below meth c nL D cs ad sh A Q pc lv st z := by
  obtain ⟨hx, hb, hml, hown, hts, hlk, hK, hi1, hi2, hA, hE, hR⟩ := C
  unfold xCopy at h
  split at h
  · rename_i n dp q1 sp q0
    split at h
    · rename_i n0 y0 n1 y1 hs0 hs1
      cases h
      obtain ⟨p1, p2, p3, p4, p5⟩ : (¬ sp < 0) ∧ (¬ dp < 0) ∧ (¬ n < 0) ∧ sp.toNatClampNeg + n.toNatClampNeg ≤ n0 ∧ dp.toNatClampNeg + n.toNatClampNeg ≤ n1 := hp
      intro H locs ls hP hS hl
      refine va_copyi (D := D) (tys := xTys cs) (ty := .int) hx hb (xC_ls hl hml) hown (hts _ (lw_mem hw rfl)) (hts (.native arraycopyName) (lw_gt_of (by decide +kernel) rfl)) (hts (.static arraycopyName) (lw_gt_of (by decide +kernel) rfl)) (hts (.initialized "java/lang/System") (lw_gt_of (by decide +kernel) rfl)) hK hP (xW_D hi1 hi2) hS q0 q1 0 0 (xW_at hs0) (xW_at hs1) rfl rfl rfl p1 p2 p3 p4 p5 (fun _ _ => rfl) hR.1 (Nat.le_trans (Nat.le_of_ble_eq_true rfl) hR.2) hd (fun H1 locs1 hP1 _ hS1 => ?_)
      have e1 : (xW ad cs z 0 sh).set q1 (ad q1, .inl (cs 0, n1, .inl (va_cpy (z.1 q0) (z.1 q1) sp.toNatClampNeg dp.toNatClampNeg n.toNatClampNeg))) = xW ad cs (xUp z.1 q1 (va_cpy (z.1 q0) (z.1 q1) sp.toNatClampNeg dp.toNatClampNeg n.toNatClampNeg), z.2) 0 sh := xW_upd hs1 (by
        show (Sum.inl _ : va_E) = Sum.inl _
        dsimp only; rw [xUp_eq])
      have hP1 : va_P D classes ((xW ad cs z 0 sh).set q1 (ad q1, .inl (cs 0, n1, .inl (va_cpy (z.1 q0) (z.1 q1) sp.toNatClampNeg dp.toNatClampNeg n.toNatClampNeg)))) H1 := hP1
      rw [e1] at hP1
      exact k H1 locs1 ls hP1 hS1 hl
    · cases h
  · cases h
end XS2
end
section
section XS3
variable {p : Program} {l : Launch} {e : Env} {R : Room} {s : State} {m : MethodId} {args : Array Value} {below : List Frame} {meth : Method} {c : Code} {own : String} {cc : ByteArray} {nL : Nat} {D : va_G} {cs : Nat → ClassId} {ad : Nat → Nat} {sh : xSh} {A : Nat → Prop} {Q : State → Prop}
set_option maxHeartbeats 2000000 in
theorem xS1_ok (C : xC p R s m args meth c own cc nL D cs ad sh A) {x : xI} {lv : xLv} {st : List Value} {z : xMem} {ps : List Prop} {pc' : Nat} {lv' : xLv} {st' : List Value} {z' : xMem} (hok : xOk own cc x = true) (h : xS1 sh nL x lv st z = some (ps, pc', lv', st', z')) (hp : xAll ps)
    (k : ww p l e R s m args below meth c nL D cs ad sh A Q pc' lv' st' z') : ww p l e R s m args below meth c nL D cs ad sh A Q x.1 lv st z := by
  have hd := xOk_d hok
  have hi := xOk_i hok
  obtain ⟨pc, i, ⟨w, a, b, t⟩, v, u⟩ := x
  have C0 := C
  obtain ⟨hx, hb, hml, hown, hts, hlk, hK, hi1, hi2, hA, hE, hR⟩ := C0
  dsimp only at hd hi ⊢
  cases i

  case iconst n =>
    exact xPush_ok h k (fun H locs ls _ _ kk => lv_iconst hx hb hd (of_decide_eq_true hi) kk)
  case bipush n =>
    exact xPush_ok h k (fun H locs ls _ _ kk => lv_bipush hx hb hd (of_decide_eq_true hi) kk)
  case sipush n =>
    exact xPush_ok h k (fun H locs ls _ _ kk => lv_sipush hx hb hd (of_decide_eq_true hi) kk)
  case lconst n =>
    exact xPush_ok h k (fun H locs ls _ _ kk => lv_lconst hx hb hd (of_decide_eq_true hi) kk)
  case ldc ix =>
    simp only [xOkI] at hi
    simp only [xS1] at h
    split at h
    · rename_i ha
      rw [if_pos ha] at hi
      exact xPush_ok h k (fun H locs ls _ _ kk => lv_ldc hx hb hown (hts _ (lw_mem (of_decide_eq_true hi) rfl)) hd kk)
    · rename_i ha
      rw [if_neg ha] at hi
      obtain ⟨h1, h2, h3⟩ := of_decide_eq_true hi
      exact xPush_ok h k (fun H locs ls _ hS kk => va_ldcS hx hb hown (by rw [h1] at h3 ⊢; exact hE.2.2.1 b ix h2 (List.mem_of_getElem? h3)) hd kk)
  case ldc_w ix =>
    exact xPush_ok h k (fun H locs ls _ _ kk => lv_ldcw hx hb hown (hts _ (lw_mem (of_decide_eq_true hi) rfl)) hd kk)
  case ldc2_w ix =>
    exact xPush_ok h k (fun H locs ls _ _ kk => lv_ldc2 hx hb hown (hts _ (lw_mem (of_decide_eq_true hi) rfl)) hd kk)
  case aconst_null =>
    exact xPush_ok h k (fun H locs ls _ _ kk => lv_null hx hb hd kk)
  case iload_n n =>
    exact xLoad_ok h k (fun _ H locs ls x hl kk => lv_iload_n hx hb hd rfl hl kk) (fun q => by cases q) (fun q => by cases q) (fun q => by cases q)
  case iload n =>
    exact xLoad_ok h k (fun _ H locs ls x hl kk => lv_iload hx hb hd hl kk) (fun q => by cases q) (fun q => by cases q) (fun q => by cases q)
  case aload_n n =>
    exact xLoad_ok h k (fun q => by cases q) (fun _ H locs ls x hl kk => lv_aload_n hx hb hd rfl hl kk) (fun _ H locs ls hl kk => lv_aload_nN hx hb hd rfl hl kk) (fun q => by cases q)
  case aload n =>
    exact xLoad_ok h k (fun q => by cases q) (fun _ H locs ls x hl kk => lv_aload hx hb hd hl kk) (fun _ H locs ls hl kk => lv_aloadN hx hb hd hl kk) (fun q => by cases q)
  case lload_n n =>
    exact xLoad_ok h k (fun q => by cases q) (fun q => by cases q) (fun q => by cases q) (fun _ H locs ls x hl kk => lv_lload_n hx hb hd rfl hl kk)
  case lload n =>
    exact xLoad_ok h k (fun q => by cases q) (fun q => by cases q) (fun q => by cases q) (fun _ H locs ls x hl kk => lv_lload hx hb hd hl kk)
  case istore_n n =>
    exact xStore_ok h k (fun _ hn H locs ls x rest hl kk => lv_istore_n hx hb hd rfl hl hn (xL_st1 ad lv _ (.int x)) kk) (fun q => by cases q) (fun q => by cases q) (fun q => by cases q)
  case istore n =>
    exact xStore_ok h k (fun _ hn H locs ls x rest hl kk => lv_istore hx hb hd hl hn (xL_st1 ad lv _ (.int x)) kk) (fun q => by cases q) (fun q => by cases q) (fun q => by cases q)
  case astore_n n =>
    exact xStore_ok h k (fun q => by cases q) (fun _ hn H locs ls x rest hl kk => lv_astore_n hx hb hd rfl hl hn (xL_st1 ad lv _ (.ref x)) kk) (fun _ hn H locs ls rest hl kk => lv_astore_nN hx hb hd rfl hl hn (xL_st1 ad lv _ .null) kk) (fun q => by cases q)
  case astore n =>
    exact xStore_ok h k (fun q => by cases q) (fun _ hn H locs ls x rest hl kk => lv_astore hx hb hd hl hn (xL_st1 ad lv _ (.ref x)) kk) (fun _ hn H locs ls rest hl kk => lv_astoreN hx hb hd hl hn (xL_st1 ad lv _ .null) kk) (fun q => by cases q)
  case lstore_n n =>
    exact xStore_ok h k (fun q => by cases q) (fun q => by cases q) (fun q => by cases q) (fun _ hn H locs ls x rest hl kk => lv_lstore_n hx hb hd rfl hl hn (xL_st2 ad lv _ (.long x)) kk)
  case lstore n =>
    exact xStore_ok h k (fun q => by cases q) (fun q => by cases q) (fun q => by cases q) (fun _ hn H locs ls x rest hl kk => lv_lstore hx hb hd hl hn (xL_st2 ad lv _ (.long x)) kk)
  case iinc n n2 =>
    simp only [xS1] at h
    split at h
    · rename_i y hy
      split at h
      · rename_i hn
        cases h
        intro H locs ls hP hS hl
        obtain ⟨k9, hk9⟩ := xLd_k (ad := ad) hy
        have hv : Int32.ofInt n2 = v := of_decide_eq_true hi
        exact lv_iinc hx hb hd hl hk9 (by rw [hv]) hn (xL_st1 ad lv n (.int (y + v))) (fun ls' hl' => k H locs ls' hP hS hl')
      · cases h
    · cases h
  case iadd =>
    obtain ⟨x, y, r, rfl, h⟩ := xP2i_of h
    cases h
    intro H locs ls hP hS hl
    exact lv_iadd hx hb hd (k H locs ls hP hS hl)
  case isub =>
    obtain ⟨x, y, r, rfl, h⟩ := xP2i_of h
    cases h
    intro H locs ls hP hS hl
    exact lv_isub hx hb hd (k H locs ls hP hS hl)
  case imul =>
    obtain ⟨x, y, r, rfl, h⟩ := xP2i_of h
    cases h
    intro H locs ls hP hS hl
    exact lv_imul hx hb hd (k H locs ls hP hS hl)
  case iand =>
    obtain ⟨x, y, r, rfl, h⟩ := xP2i_of h
    cases h
    intro H locs ls hP hS hl
    exact lv_iand hx hb hd (k H locs ls hP hS hl)
  case ior =>
    obtain ⟨x, y, r, rfl, h⟩ := xP2i_of h
    cases h
    intro H locs ls hP hS hl
    exact lv_ior hx hb hd (k H locs ls hP hS hl)
  case ixor =>
    obtain ⟨x, y, r, rfl, h⟩ := xP2i_of h
    cases h
    intro H locs ls hP hS hl
    exact lv_ixor hx hb hd (k H locs ls hP hS hl)
  case ishl =>
    obtain ⟨x, y, r, rfl, h⟩ := xP2i_of h
    cases h
    intro H locs ls hP hS hl
    exact lv_ishl hx hb hd (k H locs ls hP hS hl)
  case ishr =>
    obtain ⟨x, y, r, rfl, h⟩ := xP2i_of h
    cases h
    intro H locs ls hP hS hl
    exact lv_ishr hx hb hd (k H locs ls hP hS hl)
  case idiv =>
    obtain ⟨x, y, r, rfl, h⟩ := xP2i_of h
    cases h
    intro H locs ls hP hS hl
    exact lv_idiv hx hb hd hp (k H locs ls hP hS hl)
  case irem =>
    obtain ⟨x, y, r, rfl, h⟩ := xP2i_of h
    cases h
    intro H locs ls hP hS hl
    exact lv_irem hx hb hd hp (k H locs ls hP hS hl)
  case iushr =>
    obtain ⟨x, y, r, rfl, h⟩ := xP2i_of h
    cases h
    intro H locs ls hP hS hl
    exact lv_iushr hx hb hd rfl (k H locs ls hP hS hl)
  case ineg =>
    obtain ⟨x, r, rfl, h⟩ := xP1i_of h
    cases h
    intro H locs ls hP hS hl
    exact lv_ineg hx hb hd (k H locs ls hP hS hl)
  case i2l =>
    obtain ⟨x, r, rfl, h⟩ := xP1i_of h
    cases h
    intro H locs ls hP hS hl
    exact lv_i2l hx hb hd rfl (k H locs ls hP hS hl)
  case i2b =>
    obtain ⟨x, r, rfl, h⟩ := xP1i_of h
    cases h
    intro H locs ls hP hS hl
    exact lv_i2b hx hb hd rfl (k H locs ls hP hS hl)
  case i2s =>
    obtain ⟨x, r, rfl, h⟩ := xP1i_of h
    cases h
    intro H locs ls hP hS hl
    exact lv_i2s hx hb hd rfl (k H locs ls hP hS hl)
  case l2i =>
    obtain ⟨x, r, rfl, h⟩ := xP1l_of h
    cases h
    intro H locs ls hP hS hl
    exact lv_l2i hx hb hd rfl (k H locs ls hP hS hl)
  case ladd =>
    obtain ⟨x, y, r, rfl, h⟩ := xP2l_of h
    cases h
    intro H locs ls hP hS hl
    exact lv_ladd hx hb hd (k H locs ls hP hS hl)
  case lsub =>
    obtain ⟨x, y, r, rfl, h⟩ := xP2l_of h
    cases h
    intro H locs ls hP hS hl
    exact lv_lsub hx hb hd (k H locs ls hP hS hl)
  case lmul =>
    obtain ⟨x, y, r, rfl, h⟩ := xP2l_of h
    cases h
    intro H locs ls hP hS hl
    exact lv_lmul hx hb hd (k H locs ls hP hS hl)
  case ldiv =>
    obtain ⟨x, y, r, rfl, h⟩ := xP2l_of h
    cases h
    intro H locs ls hP hS hl
    exact lv_ldiv hx hb hd hp (k H locs ls hP hS hl)
  case lrem =>
    obtain ⟨x, y, r, rfl, h⟩ := xP2l_of h
    cases h
    intro H locs ls hP hS hl
    exact lv_lrem hx hb hd hp (k H locs ls hP hS hl)
  case lcmp =>
    obtain ⟨x, y, r, rfl, h⟩ := xP2l_of h
    cases h
    intro H locs ls hP hS hl
    exact W.lcmp hx hb hd (k H locs ls hP hS hl)
  case dup =>
    simp only [xS1] at h
    split at h
    · cases h
      intro H locs ls hP hS hl
      exact lv_dup hx hb hd rfl (k H locs ls hP hS hl)
    · cases h
      intro H locs ls hP hS hl
      exact lv_dup hx hb hd rfl (k H locs ls hP hS hl)
    · cases h
  case dup2 =>
    simp only [xS1] at h
    split at h
    · cases h
      intro H locs ls hP hS hl
      exact lv_dup2_11 hx hb hd rfl rfl (k H locs ls hP hS hl)
    · cases h
  case pop =>
    simp only [xS1] at h
    split at h
    · cases h
      intro H locs ls hP hS hl
      exact lv_pop hx hb hd rfl (k H locs ls hP hS hl)
    · cases h
      intro H locs ls hP hS hl
      exact lv_pop hx hb hd rfl (k H locs ls hP hS hl)
    · cases h
  case goto off =>
    simp only [xS1, xGo] at h
    split at h
    · rename_i ho
      cases h
      intro H locs ls hP hS hl
      exact lv_goto hx hb hd (xTg_eq ho) (k H locs ls hP hS hl)
    · cases h
  case ifnull off =>
    simp only [xS1, xGo] at h
    split at h
    · cases h
      intro H locs ls hP hS hl
      exact lv_ifnull hx hb hd (k H locs ls hP hS hl)
    · split at h
      · rename_i ho
        cases h
        intro H locs ls hP hS hl
        exact lv_ifnullN hx hb hd (xTg_eq ho) (k H locs ls hP hS hl)
      · cases h
    · cases h
  case ifnonnull off =>
    simp only [xS1, xGo] at h
    split at h
    · cases h
      intro H locs ls hP hS hl
      exact lv_ifnonnullN hx hb hd (k H locs ls hP hS hl)
    · split at h
      · rename_i ho
        cases h
        intro H locs ls hP hS hl
        exact lv_ifnonnull hx hb hd (xTg_eq ho) (k H locs ls hP hS hl)
      · cases h
    · cases h
  case getfield ix =>
    obtain ⟨q, r, rfl, h⟩ := xP1a_of h
    exact xGet_ok C hd hi h k
  case putfield ix =>
    simp only [xS1] at h
    split at h
    · exact xPut_ok C hd hi h hp k
    · cases h
  case getstatic ix =>
    simp only [xS1] at h
    split at h
    · rename_i ha
      obtain ⟨h1, h2, h3⟩ := of_decide_eq_true hi
      exact xPush_ok h k (fun H locs ls _ hS kk => va_gets hx hb (hE.1 a ha).1 hS hown (hts _ (lw_mem h3 rfl)) (fun _ h9 => h9) hd kk)
    · cases h
  case iaload =>
    obtain ⟨q, i, r, rfl, h⟩ := xPai_of h
    exact xIald_ok C hd h hp k
  case baload =>
    obtain ⟨q, i, r, rfl, h⟩ := xPai_of h
    exact xBald_ok C hd h hp k
  case aaload =>
    obtain ⟨q, i, r, rfl, h⟩ := xPai_of h
    exact xAald_ok C hd h hp k
  case iastore =>
    obtain ⟨q, i, x, r, rfl, h⟩ := xPaii_of h
    exact xIast_ok C hd h hp k
  case bastore =>
    obtain ⟨q, i, x, r, rfl, h⟩ := xPaii_of h
    exact xBast_ok C hd h hp k
  case arraylength =>
    obtain ⟨q, r, rfl, h⟩ := xP1a_of h
    exact xAlen_ok C hd h k
  case invokestatic ix =>
    match a, h, hi with
    | 0, h, hi =>
      simp only [xS1] at h
      obtain ⟨x, y, r, rfl, h2⟩ := xP2i_of h
      clear h
      split at h2
      · rename_i hr
        cases h2
        have hi : decide (lw_tbl[w]? = some (.methodLink own ix Lib.Math.max.name)) = true := hi
        intro H locs ls hP hS hl
        exact va_mmax hx hb (xC_ls hl hml) hown (hts _ (lw_mem (of_decide_eq_true hi) rfl)) (hts (.static Lib.Math.max.name) (lw_gt_of (by decide +kernel) rfl)) (hts (.initialized "java/lang/Math") (lw_gt_of (by decide +kernel) rfl)) (hts (.code Lib.Math.max.name Lib.Math.max.code 2 (some .int)) (lw_gt_of (by decide +kernel) rfl)) hR.1 (by rw [xR_sum]; omega) (Nat.zero_le _) (Nat.zero_le _) hd (k H locs ls hP hS hl)
      · cases h2
    | 1, h, hi =>
      simp only [xS1] at h
      obtain ⟨x, y, r, rfl, h2⟩ := xP2i_of h
      clear h
      split at h2
      · rename_i hr
        cases h2
        have hi : decide (lw_tbl[w]? = some (.methodLink own ix Lib.Math.min.name)) = true := hi
        intro H locs ls hP hS hl
        exact va_mmin hx hb (xC_ls hl hml) hown (hts _ (lw_mem (of_decide_eq_true hi) rfl)) (hts (.static Lib.Math.min.name) (lw_gt_of (by decide +kernel) rfl)) (hts (.initialized "java/lang/Math") (lw_gt_of (by decide +kernel) rfl)) (hts (.code Lib.Math.min.name Lib.Math.min.code 2 (some .int)) (lw_gt_of (by decide +kernel) rfl)) hR.1 (by rw [xR_sum]; omega) (Nat.zero_le _) (Nat.zero_le _) hd (k H locs ls hP hS hl)
      · cases h2
    | 2, h, hi =>
      simp only [xS1] at h
      have hi : decide (lw_tbl[w]? = some (.methodLink own ix arraycopyName)) = true := hi
      exact xCopy_ok C hd (of_decide_eq_true hi) h hp k
    | a + 3, h, hi => cases h
  all_goals cases h

theorem xAll_app {a b : List Prop} (h : xAll (a ++ b)) : xAll a ∧ xAll b := by
  induction a with
  | nil => exact ⟨trivial, h⟩
  | cons x a ih =>
    cases a with
    | nil =>
      cases b with
      | nil => exact ⟨h, trivial⟩
      | cons y b => exact ⟨h.1, h.2⟩
    | cons y a =>
      obtain ⟨h1, h2⟩ := ih h.2
      exact ⟨⟨h.1, h1⟩, h2⟩
theorem xRun_ok (C : xC p R s m args meth c own cc nL D cs ad sh A) : ∀ (L : List xI) {pc : Nat} {lv : xLv} {st : List Value} {z : xMem} {ps : List Prop} {pc' : Nat} {lv' : xLv} {st' : List Value} {z' : xMem}, (∀ x ∈ L, xOk own cc x = true) → xRun sh nL L pc lv st z = some (ps, pc', lv', st', z') → xAll ps →
    ww p l e R s m args below meth c nL D cs ad sh A Q pc' lv' st' z' → ww p l e R s m args below meth c nL D cs ad sh A Q pc lv st z
  | [], pc, lv, st, z, ps, pc', lv', st', z', _, h, _, k => by
    cases h
    exact k
  | x :: L, pc, lv, st, z, ps, pc', lv', st', z', hok, h, hp, k => by
    simp only [xRun] at h
    split at h
    · rename_i hpc
      split at h
      · rename_i p1 pc1 lv1 st1 z1 h1
        split at h
        · rename_i p2 fr h2
          cases h
          obtain ⟨a1, a2⟩ := xAll_app hp
          rw [← hpc]
          exact xS1_ok C (hok x List.mem_cons_self) h1 a1 (xRun_ok C L (fun y hy => hok y (List.mem_cons_of_mem _ hy)) h2 a2 k)
        · cases h
      · cases h
    · cases h
/-- a block: n instructions of the method's list, from its a-th on -/
theorem ww_blk (C : xC p R s m args meth c own cc nL D cs ad sh A) {K : List xI} (hK : K.all (xOk own cc) = true) (a n : Nat) {pc : Nat} {lv : xLv} {st : List Value} {z : xMem} {ps : List Prop} {pc' : Nat} {lv' : xLv} {st' : List Value} {z' : xMem} (h : xRun sh nL ((K.drop a).take n) pc lv st z = some (ps, pc', lv', st', z')) (hp : xAll ps)
    (k : ww p l e R s m args below meth c nL D cs ad sh A Q pc' lv' st' z') : ww p l e R s m args below meth c nL D cs ad sh A Q pc lv st z :=
  xRun_ok C _ (fun x hx => List.all_eq_true.mp hK x (List.mem_of_mem_drop (List.mem_of_mem_take hx))) h hp k
end XS3
end
section
/-! places of a callee's world in the caller's; contracts; calls, branches, ends -/
def xEs (es : List Nat) (q : Nat) : Nat := if q < es.length then es.getD q 0 else q
def xIx : List Nat → Nat → Nat → Option Nat
  | [], _, _ => none
  | b :: l, a, k => if a = b then some k else xIx l a (k + 1)
def xPull (es : List Nat) (z : xMem) : xMem := (fun q => z.1 (xEs es q), fun q => z.2.1 (xEs es q), z.2.2)
def xBack (es : List Nat) (rw : Bool) (z z' : xMem) : xMem := (fun a => match xIx es a 0 with | some i => z'.1 i | none => z.1 a, fun a => match xIx es a 0 with | some i => z'.2.1 i | none => z.2.1 a, if rw then z'.2.2 else z.2.2)
/-- a field's code, a row's places, told in the caller's places -/
def xEc (es : List Nat) : Nat → Nat
  | 0 => 0
  | 1 => 1
  | 2 => 2
  | 3 => 3
  | c + 4 => xEs es c + 4
def xEx (es : List Nat) (x : Nat × Nat × List Nat) : Nat × Nat × List Nat := match x with
  | (0, n, l) => (0, n, l.map (xEc es))
  | (1, n, l) => (1, n, l)
  | (2, n, l) => (2, n, l)
  | (t, n, l) => (t, n, l.map (xEs es))
def xHasRaw (sh : xSh) : Bool := sh.any (fun x => x.1 == 0 && x.2.2.contains 2)
def xNd : List Nat → Bool
  | [] => true
  | a :: l => !l.contains a && xNd l
/-- the callee's shape is what the caller's shape tells at these places -/
def xSub (sh : xSh) (es : List Nat) (shc : xSh) : Bool := decide (es.length = shc.length) && xNd es && decide (es.map (fun q => sh[q]?) = shc.map (fun x => some (xEx es x)))
def xA (ad : Nat → Nat) (n : Nat) (sz : Nat) : Nat → Prop := fun q => (∃ i : Nat, i < n ∧ q = ad i) ∨ sz ≤ q
def xRm (d : Nat) : Room := { frames := d + 1, cells := 0, slots := 0, locals := 40 * d + 40 }
def xWs (y : MethodName) (cc : ByteArray) (maxL : Nat) (ret : Option FieldType) : List Cond := .code y cc maxL ret :: lw_gt
def xPc (D : va_G) (cs : Nat → ClassId) (ad : Nat → Nat) (sh : xSh) (sz : Nat) (as : List Value) (z : xMem) : Array Value → State → Prop :=
  va_Pc (as.map (xR ad)) (fun U => U.heap.size = sz ∧ va_P D classes (xW ad cs z 0 sh) U.heap ∧ va_K D classes (xTys cs) U ∧ (∀ i j : Nat, i < sh.length → j < sh.length → ad i = ad j → i = j) ∧ xEnv ad (xA ad sh.length sz) U U.heap)
def xQc (D : va_G) (cs : Nat → ClassId) (ad : Nat → Nat) (sh : xSh) (A : Nat → Prop) (post : Option Value → xMem → Prop) : Array Value → State → Outcome → State → Prop := fun _ st oc t =>
  (∃ (r : Option Value) (z' : xMem), oc = .returned (r.map (xR ad)) ∧ post r z' ∧ va_P D classes (xW ad cs z' 0 sh) t.heap) ∧ va_F A st t
/-- a contract: with these arguments and this memory the method comes to an end that 'post' tells -/
def XM (l : Launch) (d : Nat) (y : MethodName) (cc : ByteArray) (maxL : Nat) (ret : Option FieldType) (sh : xSh) (as : List Value) (z : xMem) (post : Option Value → xMem → Prop) : Prop :=
  ∀ (D : va_G) (cs : Nat → ClassId) (ad : Nat → Nat) (sz : Nat), Met l y (xWs y cc maxL ret) (xRm d) (xPc D cs ad sh sz as z) (xQc D cs ad sh (xA ad sh.length sz) post) 0 0 (xA ad sh.length sz)
theorem lw_in {y : MethodName} {cc : ByteArray} {maxL : Nat} {ret : Option FieldType} (h : Cond.code y cc maxL ret ∈ lw_gt) : GoodIn lw_gt (xWs y cc maxL ret) := by
  intro w hw
  have hm : w ∈ lw_gt := by
    rcases List.mem_cons.mp hw with rfl | h2
    · exact h
    · exact h2
  exact ⟨hm, good_of_word (List.mem_filter.mp hm).2⟩
theorem xNd_ix : ∀ (es : List Nat) (i k a : Nat), xNd es = true → es[i]? = some a → xIx es a k = some (k + i)
  | [], i, k, a, _, h => by simp at h
  | b :: l, 0, k, a, hn, h => by
    simp at h
    simp [xIx, h]
  | b :: l, i + 1, k, a, hn, h => by
    simp only [List.getElem?_cons_succ] at h
    simp only [xNd, Bool.and_eq_true, Bool.not_eq_true', List.contains_eq_mem, decide_eq_false_iff_not] at hn
    have hne : ¬ a = b := fun q => hn.1 (q ▸ List.mem_of_getElem? h)
    simp only [xIx, if_neg hne]
    rw [xNd_ix l i (k + 1) a hn.2 h]
    congr 1
    omega
theorem xIx_some : ∀ (es : List Nat) (i k a : Nat), xIx es a k = some i → k ≤ i ∧ es[i - k]? = some a
  | [], i, k, a, h => by cases h
  | b :: l, i, k, a, h => by
    simp only [xIx] at h
    split at h
    · rename_i hab
      cases h
      simp [hab]
    · obtain ⟨h1, h2⟩ := xIx_some l i (k + 1) a h
      refine ⟨by omega, ?_⟩
      rw [show i - k = (i - (k + 1)) + 1 by omega]
      simpa using h2
theorem xEs_at {es : List Nat} {q a : Nat} (h : es[q]? = some a) : xEs es q = a := by
  unfold xEs
  rw [if_pos (List.getElem?_eq_some_iff.mp h).1]
  simp [List.getD, h]
theorem xR_xR (ad : Nat → Nat) (es : List Nat) (v : Value) : xR ad (xR (xEs es) v) = xR (fun q => ad (xEs es q)) v := by cases v <;> rfl
theorem xV_es (ad : Nat → Nat) (es : List Nat) (z zc : xMem) (q a j : Nat) (c : Nat) (h1 : zc.1 q = z.1 a) (h2 : zc.2.1 q = z.2.1 a) (h3 : c = 2 → zc.2.2 = z.2.2) : xV (fun q => ad (xEs es q)) zc q j c = xV ad z a j (xEc es c) := by
  match c with
  | 0 => simp [xV, xEc, h1]
  | 1 => simp [xV, xEc, h2]
  | 2 => simp [xV, xEc, h3]
  | 3 => simp [xV, xEc, h1]
  | c + 4 => rfl
theorem xFs_es (ad : Nat → Nat) (es : List Nat) (z zc : xMem) (q a : Nat) (h1 : zc.1 q = z.1 a) (h2 : zc.2.1 q = z.2.1 a) : ∀ (l : List Nat) (j : Nat), (2 ∈ l → zc.2.2 = z.2.2) → xFs (xV (fun q => ad (xEs es q)) zc q) j l = xFs (xV ad z a) j (l.map (xEc es))
  | [], j, _ => rfl
  | c :: l, j, h3 => by
    simp only [xFs, List.map_cons]
    rw [xV_es ad es z zc q a j c h1 h2 (fun e => h3 (e ▸ List.mem_cons_self)), xFs_es ad es z zc q a h1 h2 l (j + 1) (fun e => h3 (List.mem_cons_of_mem _ e))]
theorem xCell_es (ad : Nat → Nat) (cs : Nat → ClassId) (es : List Nat) (z zc : xMem) (q a : Nat) (x : Nat × Nat × List Nat) (h1 : zc.1 q = z.1 a) (h2 : zc.2.1 q = z.2.1 a) (h3 : (x.1 = 0 ∧ 2 ∈ x.2.2) → zc.2.2 = z.2.2) : xCell (fun q => ad (xEs es q)) cs zc q x = xCell ad cs z a (xEx es x) := by
  obtain ⟨t, n, l⟩ := x
  match t with
  | 0 =>
    simp only [xCell, xEx]
    rw [xFs_es ad es z zc q a h1 h2 l 0 (fun e => h3 ⟨rfl, e⟩)]
  | 1 => simp only [xCell, xEx, h1]
  | 2 => simp only [xCell, xEx, h1]
  | 3 =>
    simp only [xCell, xEx]
    have e : (fun j : Nat => Option.map (fun q => ad (xEs es q)) l[j]?) = fun j : Nat => Option.map ad (List.map (xEs es) l)[j]? := by
      funext j
      simp [Function.comp_def]
    rw [e]
  | t + 4 =>
    simp only [xCell, xEx]
    have e : (fun j : Nat => Option.map (fun q => ad (xEs es q)) l[j]?) = fun j : Nat => Option.map ad (List.map (xEs es) l)[j]? := by
      funext j
      simp [Function.comp_def]
    rw [e]
theorem xRaw_of {sh : xSh} {x : Nat × Nat × List Nat} (hm : x ∈ sh) (h : x.1 = 0 ∧ 2 ∈ x.2.2) : xHasRaw sh = true := by
  unfold xHasRaw
  rw [List.any_eq_true]
  exact ⟨x, hm, by simp [h.1, h.2]⟩
/-- the callee's world, out of the caller's -/
theorem xSub_P {D : va_G} {ad : Nat → Nat} {cs : Nat → ClassId} {sh shc : xSh} {es : List Nat} {z : xMem} {H : Heap} (hs : xSub sh es shc = true) (hP : va_P D classes (xW ad cs z 0 sh) H) : va_P D classes (xW (fun q => ad (xEs es q)) cs (xPull es z) 0 shc) H := by
  simp only [xSub, Bool.and_eq_true, decide_eq_true_eq] at hs
  obtain ⟨⟨hl, hn⟩, he⟩ := hs
  intro k q hk
  rw [xW_get] at hk
  cases hx : shc[k]? with
  | none => rw [hx] at hk; cases hk
  | some x =>
    rw [hx] at hk
    cases hk
    have hk1 : k < es.length := by rw [hl]; exact (List.getElem?_eq_some_iff.mp hx).1
    have ha : es[k]? = some es[k] := List.getElem?_eq_getElem hk1
    have h1 := congrArg (fun L => L[k]?) he
    simp only [List.getElem?_map, ha, hx, Option.map_some] at h1
    have h2 : sh[es[k]]? = some (xEx es x) := Option.some.inj h1
    have h3 := hP es[k] _ (xW_at h2)
    have e1 : xEs es (0 + k) = es[k] := by rw [Nat.zero_add]; exact xEs_at ha
    show va_at D classes (ad (xEs es (0 + k)), _) H
    rw [xCell_es ad cs es z (xPull es z) (0 + k) es[k] x (by show z.1 (xEs es (0 + k)) = _; rw [e1]) (by show z.2.1 (xEs es (0 + k)) = _; rw [e1]) (fun _ => rfl), e1]
    exact h3
/-- the caller's world behind a call -/
theorem xSub_back {D : va_G} {ad : Nat → Nat} {cs : Nat → ClassId} {sh shc : xSh} {es : List Nat} {z z' : xMem} {H H1 : Heap} {sz : Nat} (hs : xSub sh es shc = true) (hraw : xHasRaw shc = true → ∀ (k n : Nat) (l : List Nat), sh[k]? = some (0, n, l) → 2 ∈ l → xIx es k 0 ≠ none) (hinj : ∀ i j : Nat, i < sh.length → j < sh.length → ad i = ad j → i = j) (hP : va_P D classes (xW ad cs z 0 sh) H) (hsz : H.size = sz) (hk : ∀ q : Nat, q < H.size → ¬ xA (fun q => ad (xEs es q)) shc.length sz q → H1[q]? = H[q]?) (hP1 : va_P D classes (xW (fun q => ad (xEs es q)) cs z' 0 shc) H1) : va_P D classes (xW ad cs (xBack es (xHasRaw shc) z z') 0 sh) H1 := by
  simp only [xSub, Bool.and_eq_true, decide_eq_true_eq] at hs
  obtain ⟨⟨hl, hn⟩, he⟩ := hs
  intro k q hq
  rw [xW_get] at hq
  cases hx : sh[k]? with
  | none => rw [hx] at hq; cases hq
  | some x =>
    rw [hx] at hq
    cases hq
    have hk0 : k < sh.length := (List.getElem?_eq_some_iff.mp hx).1
    rw [Nat.zero_add]
    cases hi : xIx es k 0 with
    | some i =>
      obtain ⟨-, h0⟩ := xIx_some es i 0 k hi
      rw [Nat.sub_zero] at h0
      have hi1 : i < shc.length := by rw [← hl]; exact (List.getElem?_eq_some_iff.mp h0).1
      have hc : shc[i]? = some shc[i] := List.getElem?_eq_getElem hi1
      have h1 := congrArg (fun L => L[i]?) he
      simp only [List.getElem?_map, h0, hc, Option.map_some] at h1
      have h2 : sh[k]? = some (xEx es shc[i]) := Option.some.inj h1
      have h3 := hP1 i _ (xW_at hc)
      have e1 : xEs es i = k := xEs_at h0
      have e2 : x = xEx es shc[i] := Option.some.inj (hx.symm.trans h2)
      show va_at D classes (ad k, xCell ad cs (xBack es (xHasRaw shc) z z') k x) H1
      rw [e2, ← xCell_es ad cs es (xBack es (xHasRaw shc) z z') z' i k shc[i] (by simp [xBack, hi]) (by simp [xBack, hi]) (fun h => by
        have := xRaw_of (List.mem_of_getElem? hc) h
        simp [xBack, this])]
      have h3 : va_at D classes (ad (xEs es i), xCell (fun q => ad (xEs es q)) cs z' i shc[i]) H1 := h3
      rw [e1] at h3
      exact h3
    | none =>
      have hne : ∀ i : Nat, i < shc.length → ad (xEs es i) ≠ ad k := by
        intro i hi1 hq
        have hi2 : i < es.length := by rw [hl]; exact hi1
        have h0 : es[i]? = some es[i] := List.getElem?_eq_getElem hi2
        have hc : shc[i]? = some shc[i] := List.getElem?_eq_getElem hi1
        have h1 := congrArg (fun L => L[i]?) he
        simp only [List.getElem?_map, h0, hc, Option.map_some] at h1
        have h2 : sh[es[i]]? = some (xEx es shc[i]) := Option.some.inj h1
        rw [xEs_at h0] at hq
        have h4 := hinj _ _ (List.getElem?_eq_some_iff.mp h2).1 hk0 hq
        rw [h4] at h0
        rw [xNd_ix es i 0 k hn h0] at hi
        cases hi
      have h3 := hP k _ (xW_at hx)
      have hlt : ad k < H.size := h3.lt
      have h5 : va_at D classes (ad k, xCell ad cs z k x) H1 := h3.kept (hk (ad k) hlt (fun h => by
        rcases h with ⟨i, hi1, hi2⟩ | h
        · exact hne i hi1 hi2.symm
        · omega))
      have e3 : xCell ad cs (xBack es (xHasRaw shc) z z') k x = xCell ad cs z k x := by
        have g1 : (xBack es (xHasRaw shc) z z').1 k = z.1 k := by simp [xBack, hi]
        have g2 : (xBack es (xHasRaw shc) z z').2.1 k = z.2.1 k := by simp [xBack, hi]
        obtain ⟨t, n, l⟩ := x
        match t with
        | 0 =>
          have hv : ∀ (l : List Nat) (j : Nat), (2 ∈ l → (xBack es (xHasRaw shc) z z').2.2 = z.2.2) → xFs (xV ad (xBack es (xHasRaw shc) z z') k) j l = xFs (xV ad z k) j l := by
            intro l
            induction l with
            | nil => intro j _; rfl
            | cons c l ih =>
              intro j h2
              simp only [xFs]
              rw [ih (j + 1) (fun e => h2 (List.mem_cons_of_mem _ e))]
              congr 1
              match c with
              | 0 => simp only [xV, g1]
              | 1 => simp only [xV, g2]
              | 2 => exact h2 List.mem_cons_self
              | 3 => simp only [xV, g1]
              | c + 4 => rfl
          simp only [xCell]
          rw [hv l 0 (fun h2 => ?_)]
          by_cases hr : xHasRaw shc = true
          · exact absurd (hraw hr k n l hx h2) (by rw [hi]; simp)
          · simp [xBack, hr]
        | 1 => simp only [xCell, g1]
        | 2 => simp only [xCell, g1]
        | 3 => rfl
        | _ + 4 => rfl
      show va_at D classes (ad k, xCell ad cs (xBack es (xHasRaw shc) z z') k x) H1
      rw [e3]
      exact h5
end
section
section XRU
variable {p : Program} {l : Launch} {e : Env} {R : Room} {s : State} {m : MethodId} {args : Array Value} {below : List Frame} {meth : Method} {c : Code} {own : String} {cc : ByteArray} {nL : Nat} {D : va_G} {cs : Nat → ClassId} {ad : Nat → Nat} {sh : xSh} {A : Nat → Prop} {Q : State → Prop}
theorem xK_d {K : List xI} (hK : K.all (xOk own cc) = true) {a : Nat} {x : xI} (h : K[a]? = some x) : decode cc x.1 = .ok (x.2.1, xLen x.1 x.2.1) := xOk_d (List.all_eq_true.mp hK x (List.mem_of_getElem? h))
/-- a branch: the condition, where it goes when it holds, where else -/
def xBr (i : Instr) (pc : Nat) (st : List Value) : Option (Prop × Nat × Nat × List Value) := match i, st with
  | .ifCond .eq off, .int x :: r => if 0 ≤ (pc : Int) + off then some (x = 0, xTg pc off, pc + 3, r) else none
  | .ifCond .ne off, .int x :: r => if 0 ≤ (pc : Int) + off then some (x = 0, pc + 3, xTg pc off, r) else none
  | .ifCond .lt off, .int x :: r => if 0 ≤ (pc : Int) + off then some (x < 0, xTg pc off, pc + 3, r) else none
  | .ifCond .ge off, .int x :: r => if 0 ≤ (pc : Int) + off then some (0 ≤ x, xTg pc off, pc + 3, r) else none
  | .ifCond .gt off, .int x :: r => if 0 ≤ (pc : Int) + off then some (0 < x, xTg pc off, pc + 3, r) else none
  | .ifCond .le off, .int x :: r => if 0 ≤ (pc : Int) + off then some (x ≤ 0, xTg pc off, pc + 3, r) else none
  | .if_icmp .eq off, .int y :: .int x :: r => if 0 ≤ (pc : Int) + off then some (x = y, xTg pc off, pc + 3, r) else none
  | .if_icmp .ne off, .int y :: .int x :: r => if 0 ≤ (pc : Int) + off then some (x = y, pc + 3, xTg pc off, r) else none
  | .if_icmp .lt off, .int y :: .int x :: r => if 0 ≤ (pc : Int) + off then some (x < y, xTg pc off, pc + 3, r) else none
  | .if_icmp .ge off, .int y :: .int x :: r => if 0 ≤ (pc : Int) + off then some (y ≤ x, xTg pc off, pc + 3, r) else none
  | .if_icmp .gt off, .int y :: .int x :: r => if 0 ≤ (pc : Int) + off then some (y < x, xTg pc off, pc + 3, r) else none
  | .if_icmp .le off, .int y :: .int x :: r => if 0 ≤ (pc : Int) + off then some (x ≤ y, xTg pc off, pc + 3, r) else none
  | _, _ => none
def xBrK (K : List xI) (a pc : Nat) (st : List Value) : Option (Prop × Nat × Nat × List Value) := match K[a]? with
  | some x => if x.1 = pc then xBr x.2.1 pc st else none
  | none => none
theorem ww_br (C : xC p R s m args meth c own cc nL D cs ad sh A) {K : List xI} (hK : K.all (xOk own cc) = true) (a : Nat) {pc : Nat} {lv : xLv} {st : List Value} {z : xMem} {P : Prop} {t1 t2 : Nat} {r : List Value} (h : xBrK K a pc st = some (P, t1, t2, r))
    (k1 : P → ww p l e R s m args below meth c nL D cs ad sh A Q t1 lv r z) (k2 : ¬ P → ww p l e R s m args below meth c nL D cs ad sh A Q t2 lv r z) : ww p l e R s m args below meth c nL D cs ad sh A Q pc lv st z := by
  obtain ⟨hx, hb, -⟩ := C
  unfold xBrK at h
  split at h
  · rename_i x hxK
    split at h
    · rename_i hpc
      have hd := xK_d hK hxK
      rw [hpc] at hd
      obtain ⟨pc0, i, y⟩ := x
      dsimp only at hd h hpc
      intro H locs ls hP hS hl
      unfold xBr at h
      split at h
      all_goals first
        | (split at h
           · rename_i ho
             cases h
             first
               | exact lv_if_eq hx hb hd (xTg_eq ho) (fun q => k1 q H locs ls hP hS hl) (fun q => k2 q H locs ls hP hS hl)
               | exact lv_if_ne hx hb hd (xTg_eq ho) (fun q => k2 q H locs ls hP hS hl) (fun q => k1 q H locs ls hP hS hl)
               | exact lv_if_lt hx hb hd (xTg_eq ho) (fun q => k1 q H locs ls hP hS hl) (fun q => k2 q H locs ls hP hS hl)
               | exact lv_if_ge hx hb hd (xTg_eq ho) (fun q => k1 q H locs ls hP hS hl) (fun q => k2 q H locs ls hP hS hl)
               | exact lv_if_gt hx hb hd (xTg_eq ho) (fun q => k1 q H locs ls hP hS hl) (fun q => k2 q H locs ls hP hS hl)
               | exact lv_if_le hx hb hd (xTg_eq ho) (fun q => k1 q H locs ls hP hS hl) (fun q => k2 q H locs ls hP hS hl)
               | exact lv_icmp_eq hx hb hd (xTg_eq ho) (fun q => k1 q H locs ls hP hS hl) (fun q => k2 q H locs ls hP hS hl)
               | exact lv_icmp_ne hx hb hd (xTg_eq ho) (fun q => k2 q H locs ls hP hS hl) (fun q => k1 q H locs ls hP hS hl)
               | exact lv_icmp_lt hx hb hd (xTg_eq ho) (fun q => k1 q H locs ls hP hS hl) (fun q => k2 q H locs ls hP hS hl)
               | exact lv_icmp_ge hx hb hd (xTg_eq ho) (fun q => k1 q H locs ls hP hS hl) (fun q => k2 q H locs ls hP hS hl)
               | exact lv_icmp_gt hx hb hd (xTg_eq ho) (fun q => k1 q H locs ls hP hS hl) (fun q => k2 q H locs ls hP hS hl)
               | exact lv_icmp_le hx hb hd (xTg_eq ho) (fun q => k1 q H locs ls hP hS hl) (fun q => k2 q H locs ls hP hS hl)
           · cases h)
        | cases h
    · cases h
  · cases h
/-- switches: each case's value with its place; the rest -/
def xTbs (pc : Nat) : Int → List Int → List (Int32 × Nat)
  | _, [] => []
  | k, o :: l => (Int32.ofInt k, xTg pc o) :: xTbs pc (k + 1) l
def xLks (pc : Nat) : List (Int × Int) → List (Int32 × Nat)
  | [] => []
  | (k, o) :: l => (Int32.ofInt k, xTg pc o) :: xLks pc l
def xSwK (K : List xI) (a pc : Nat) (st : List Value) : Option (Int32 × List (Int32 × Nat) × Prop × Nat × List Value) := match K[a]?, st with
  | some (pc0, .tableswitch df lo hi offs, _), .int x :: r => if pc0 = pc ∧ 0 ≤ (pc : Int) + df ∧ (offs.toList.all (fun o => decide (0 ≤ (pc : Int) + o))) = true ∧ hi < lo + offs.toList.length then some (x, xTbs pc lo offs.toList, (x.toInt < lo ∨ hi < x.toInt), xTg pc df, r) else none
  | some (pc0, .lookupswitch df ps, _), .int x :: r => if pc0 = pc ∧ 0 ≤ (pc : Int) + df ∧ (ps.toList.all (fun o => decide (0 ≤ (pc : Int) + o.2))) = true ∧ (ps.toList.zip (ps.toList.drop 1)).all (fun (a, next) => a.1 < next.1) = true then some (x, xLks pc ps.toList, (∀ q ∈ ps.toList, x.toInt ≠ q.1), xTg pc df, r) else none
  | _, _ => none
theorem xTbs_of {W0 : Nat → Prop} {x : Int32} {pc : Nat} : ∀ (l : List Int) (lo : Int) (k : Nat) (o : Int), l[k]? = some o → x.toInt = lo + k → xAll ((xTbs pc lo l).map (fun q => x = q.1 → W0 q.2)) → W0 (xTg pc o)
  | [], lo, k, o, h, _, _ => by simp at h
  | o1 :: l, lo, 0, o, h, hx, ha => by
    simp at h
    subst h
    have e1 : x = Int32.ofInt lo := by rw [← Int32.ofInt_toInt x, hx]; simp
    simp only [xTbs, List.map_cons] at ha
    cases hm : (xTbs pc (lo + 1) l).map (fun q => x = q.1 → W0 q.2) with
    | nil => rw [hm] at ha; exact ha e1
    | cons b bs => rw [hm] at ha; exact ha.1 e1
  | o1 :: l, lo, k + 1, o, h, hx, ha => by
    refine xTbs_of (W0 := W0) (x := x) l (lo + 1) k o (by simpa using h) (by omega) ?_
    simp only [xTbs, List.map_cons] at ha
    cases hm : (xTbs pc (lo + 1) l).map (fun q => x = q.1 → W0 q.2) with
    | nil => trivial
    | cons b bs => rw [hm] at ha; exact ha.2
theorem ww_sw (C : xC p R s m args meth c own cc nL D cs ad sh A) {K : List xI} (hK : K.all (xOk own cc) = true) (a : Nat) {pc : Nat} {lv : xLv} {st : List Value} {z : xMem} {x : Int32} {L : List (Int32 × Nat)} {P : Prop} {t0 : Nat} {r : List Value} (h : xSwK K a pc st = some (x, L, P, t0, r))
    (k0 : P → ww p l e R s m args below meth c nL D cs ad sh A Q t0 lv r z) (k1 : xAll (L.map (fun q => x = q.1 → ww p l e R s m args below meth c nL D cs ad sh A Q q.2 lv r z))) : ww p l e R s m args below meth c nL D cs ad sh A Q pc lv st z := by
  obtain ⟨hx, hb, -⟩ := C
  unfold xSwK at h
  split at h
  · rename_i pc0 df lo hi offs y x' r' hxK
    split at h
    · rename_i hc
      cases h
      obtain ⟨hpc, h1, h2, h3⟩ := hc
      have hd := xK_d hK hxK
      dsimp only at hd
      rw [hpc] at hd
      intro H locs ls hP hS hl
      by_cases hlo : x.toInt < lo ∨ hi < x.toInt
      · exact lv_tableOut hx hb hd hlo (xTg_eq h1) (k0 hlo H locs ls hP hS hl)
      · have g1 : ¬ x.toInt < lo := fun q => hlo (Or.inl q)
        have g2 : ¬ hi < x.toInt := fun q => hlo (Or.inr q)
        have hk : (x.toInt - lo).toNat < offs.toList.length := by omega
        have ho : offs.toList[(x.toInt - lo).toNat]? = some offs.toList[(x.toInt - lo).toNat] := List.getElem?_eq_getElem hk
        have hw := xTbs_of (W0 := fun t => ww p l e R s m args below meth c nL D cs ad sh A Q t lv r z) (x := x) (pc := pc) offs.toList lo _ _ ho (by omega) k1
        have hge := List.all_eq_true.mp h2 _ (List.mem_of_getElem? ho)
        exact lv_tableIn hx hb hd g1 g2 (by rw [← Array.getElem?_toList]; exact ho) (xTg_eq (of_decide_eq_true hge)) (hw H locs ls hP hS hl)
    · cases h
  · rename_i pc0 df ps y x' r' hxK
    split at h
    · rename_i hc
      cases h
      obtain ⟨hpc, h1, h2, h3⟩ := hc
      have hd := xK_d hK hxK
      dsimp only at hd
      rw [hpc] at hd
      intro H locs ls hP hS hl
      have key : ∀ (k : List (Int × Int)), (∀ o ∈ k, 0 ≤ (pc : Int) + o.2) → xAll ((xLks pc k).map (fun q => x = q.1 → ww p l e R s m args below meth c nL D cs ad sh A Q q.2 lv r z)) → ((∀ q ∈ k, x.toInt ≠ q.1) ∧ Op.lookupswitch.offset k df x.toInt = df) ∨ ∃ t : Nat, (pc : Int) + Op.lookupswitch.offset k df x.toInt = (t : Int) ∧ ww p l e R s m args below meth c nL D cs ad sh A Q t lv r z := by
        intro k
        induction k with
        | nil => intro _ _; exact Or.inl ⟨fun q hq => (by cases hq), rfl⟩
        | cons b k ih =>
          intro hge ha
          obtain ⟨kb, ob⟩ := b
          by_cases hb1 : kb = x.toInt
          · refine Or.inr ⟨xTg pc ob, ?_, ?_⟩
            · rw [Op.lookupswitch.offset_cons, if_pos hb1]
              exact xTg_eq (hge (kb, ob) List.mem_cons_self)
            · have e1 : x = Int32.ofInt kb := by rw [hb1, Int32.ofInt_toInt]
              simp only [xLks, List.map_cons] at ha
              cases hm : (xLks pc k).map (fun q => x = q.1 → ww p l e R s m args below meth c nL D cs ad sh A Q q.2 lv r z) with
              | nil => rw [hm] at ha; exact ha e1
              | cons b bs => rw [hm] at ha; exact ha.1 e1
          · have ha2 : xAll ((xLks pc k).map (fun q => x = q.1 → ww p l e R s m args below meth c nL D cs ad sh A Q q.2 lv r z)) := by
              simp only [xLks, List.map_cons] at ha
              cases hm : (xLks pc k).map (fun q => x = q.1 → ww p l e R s m args below meth c nL D cs ad sh A Q q.2 lv r z) with
              | nil => trivial
              | cons b bs => rw [hm] at ha; exact ha.2
            rcases ih (fun o ho => hge o (List.mem_cons_of_mem _ ho)) ha2 with ⟨g1, g2⟩ | ⟨t, g1, g2⟩
            · refine Or.inl ⟨fun q hq => ?_, ?_⟩
              · rcases List.mem_cons.mp hq with rfl | hq
                · exact fun e => hb1 e.symm
                · exact g1 q hq
              · rw [Op.lookupswitch.offset_cons, if_neg hb1]; exact g2
            · exact Or.inr ⟨t, by rw [Op.lookupswitch.offset_cons, if_neg hb1]; exact g1, g2⟩
      rcases key ps.toList (fun o ho => of_decide_eq_true (List.all_eq_true.mp h2 o ho)) k1 with ⟨g1, g2⟩ | ⟨t, g1, g2⟩
      · exact lv_lookup hx hb hd h3 g2 (xTg_eq h1) (k0 g1 H locs ls hP hS hl)
      · exact lv_lookup hx hb hd h3 rfl g1 (g2 H locs ls hP hS hl)
    · cases h
  · cases h
end XRU
end
section
section XEN
variable {p : Program} {l : Launch} {e : Env} {R : Room} {s : State} {m : MethodId} {args : Array Value} {below : List Frame} {meth : Method} {c : Code} {own : String} {cc : ByteArray} {nL : Nat} {D : va_G} {cs : Nat → ClassId} {ad : Nat → Nat} {sh : xSh} {A : Nat → Prop} {Q : State → Prop}
theorem lv_args_map (ad : Nat → Nat) : ∀ (as : List Value) (k : Nat), lv_args k (as.map (xR ad)) = xL ad (lv_args k as)
  | [], k => rfl
  | v :: as, k => by
    simp only [List.map_cons, lv_args, xR_cat, xL]
    rw [lv_args_map ad as]
    rfl
theorem lg_sl_len (ad : Nat → Nat) : ∀ (as : List Value), (lg_sl (as.map (xR ad))).length = (lg_sl as).length := by
  intro as
  induction as with
  | nil => rfl
  | cons v as ih =>
    cases v <;> simp_all [lg_sl, xR, Value.category]
/-- the end of a method: an int -/
theorem ww_iret {post : Option Value → xMem → Prop} (C : xC p R s m args meth c own cc nL D cs ad sh A) {K : List xI} (hK : K.all (xOk own cc) = true) (a : Nat) {pc : Nat} {lv : xLv} {z : xMem} {v : Int32} {ty : FieldType} (hr : meth.sig.returnType = some ty) (h : (K[a]?).map (fun q => (q.1, q.2.1)) = some (pc, .ireturn)) (hn : narrow ty (.int v) = .int v) (hq : post (some (.int v)) z) : ww p l e R s m args below meth c nL D cs ad sh A (MQ below (xQc D cs ad sh A post) args s 0 0 A) pc lv [.int v] z := by
  obtain ⟨hx, hb, hml, hown, hts, hlk, hCK, hi1, hi2, hA, hE, hR⟩ := C
  cases hx0 : K[a]? with
  | none => rw [hx0] at h; cases h
  | some x =>
    rw [hx0] at h
    obtain ⟨pc0, i, y⟩ := x
    simp only [Option.map_some, Option.some.injEq, Prod.mk.injEq] at h
    obtain ⟨h1, h2⟩ := h
    have hd := xK_d hK hx0
    dsimp only at hd
    rw [h1, h2] at hd
    intro H locs ls hP hS hl
    exact W.zret hx hb hr hn (fun t ht hW => ⟨⟨some (.int v), z, rfl, hq, by rw [ht]; exact hP⟩, hS.F ht⟩) hS.2.2 hd
theorem ww_lret {post : Option Value → xMem → Prop} (C : xC p R s m args meth c own cc nL D cs ad sh A) {K : List xI} (hK : K.all (xOk own cc) = true) (a : Nat) {pc : Nat} {lv : xLv} {z : xMem} {v : Int64} (hr : meth.sig.returnType = some .long) (h : (K[a]?).map (fun q => (q.1, q.2.1)) = some (pc, .lreturn)) (hq : post (some (.long v)) z) : ww p l e R s m args below meth c nL D cs ad sh A (MQ below (xQc D cs ad sh A post) args s 0 0 A) pc lv [.long v] z := by
  obtain ⟨hx, hb, hml, hown, hts, hlk, hCK, hi1, hi2, hA, hE, hR⟩ := C
  cases hx0 : K[a]? with
  | none => rw [hx0] at h; cases h
  | some x =>
    rw [hx0] at h
    obtain ⟨pc0, i, y⟩ := x
    simp only [Option.map_some, Option.some.injEq, Prod.mk.injEq] at h
    obtain ⟨h1, h2⟩ := h
    have hd := xK_d hK hx0
    dsimp only at hd
    rw [h1, h2] at hd
    intro H locs ls hP hS hl
    exact W.lret hx hb hr (fun t ht hW => ⟨⟨some (.long v), z, rfl, hq, by rw [ht]; exact hP⟩, hS.F ht⟩) hS.2.2 hd
theorem ww_vret {post : Option Value → xMem → Prop} (C : xC p R s m args meth c own cc nL D cs ad sh A) {K : List xI} (hK : K.all (xOk own cc) = true) (a : Nat) {pc : Nat} {lv : xLv} {z : xMem} (hr : meth.sig.returnType = none) (h : (K[a]?).map (fun q => (q.1, q.2.1)) = some (pc, .return_)) (hq : post none z) : ww p l e R s m args below meth c nL D cs ad sh A (MQ below (xQc D cs ad sh A post) args s 0 0 A) pc lv [] z := by
  obtain ⟨hx, hb, hml, hown, hts, hlk, hCK, hi1, hi2, hA, hE, hR⟩ := C
  cases hx0 : K[a]? with
  | none => rw [hx0] at h; cases h
  | some x =>
    rw [hx0] at h
    obtain ⟨pc0, i, y⟩ := x
    simp only [Option.map_some, Option.some.injEq, Prod.mk.injEq] at h
    obtain ⟨h1, h2⟩ := h
    have hd := xK_d hK hx0
    dsimp only at hd
    rw [h1, h2] at hd
    intro H locs ls hP hS hl
    exact W.vret hx hb hr (fun t ht hW => ⟨⟨none, z, rfl, hq, by rw [ht]; exact hP⟩, hS.F ht⟩) hS.2.2 hd
theorem ww_aret {post : Option Value → xMem → Prop} (C : xC p R s m args meth c own cc nL D cs ad sh A) {K : List xI} (hK : K.all (xOk own cc) = true) (a : Nat) {pc : Nat} {lv : xLv} {z : xMem} {v : Value} {rt : FieldType} (hr : meth.sig.returnType = some rt) (hrt : (∃ n, rt = .object n) ∨ ∃ t, rt = .array t) (hv : v = .null ∨ ∃ q, v = .ref q) (h : (K[a]?).map (fun q => (q.1, q.2.1)) = some (pc, .areturn)) (hq : post (some v) z) : ww p l e R s m args below meth c nL D cs ad sh A (MQ below (xQc D cs ad sh A post) args s 0 0 A) pc lv [v] z := by
  obtain ⟨hx, hb, hml, hown, hts, hlk, hCK, hi1, hi2, hA, hE, hR⟩ := C
  cases hx0 : K[a]? with
  | none => rw [hx0] at h; cases h
  | some x =>
    rw [hx0] at h
    obtain ⟨pc0, i, y⟩ := x
    simp only [Option.map_some, Option.some.injEq, Prod.mk.injEq] at h
    obtain ⟨h1, h2⟩ := h
    have hd := xK_d hK hx0
    dsimp only at hd
    rw [h1, h2] at hd
    intro H locs ls hP hS hl
    have hv2 : xR ad v = .null ∨ ∃ b, xR ad v = .ref b := by
      rcases hv with rfl | ⟨q, rfl⟩
      · exact Or.inl rfl
      · exact Or.inr ⟨ad q, rfl⟩
    exact W.aret hx hb hr hrt hv2 (fun t ht hW => ⟨⟨some v, z, rfl, hq, by rw [ht]; exact hP⟩, hS.F ht⟩) hS.2.2 hd
/-- a contract out of a walk from the method's entry -/
theorem XM.of {d : Nat} {y : MethodName} {cc : ByteArray} {maxL : Nat} {ret : Option FieldType} {sh : xSh} {as : List Value} {z : xMem} {post : Option Value → xMem → Prop} (hy : plainName y.cls = true) (hn : (lg_sl as).length ≤ maxL)
    (body : ∀ (p : Program) (e : Env) (s : State) (m : MethodId) (args : Array Value) (below : List Frame) (meth : Method) (c : Code) (D : va_G) (cs : Nat → ClassId) (ad : Nat → Nat) (A : Nat → Prop), xC p (xRm d) s m args meth c y.cls cc maxL D cs ad sh A → meth.sig.returnType = ret → ww p l e (xRm d) s m args below meth c maxL D cs ad sh A (MQ below (xQc D cs ad sh A post) args s 0 0 A) 0 (lv_args 0 as) [] z) : XM l d y cc maxL ret sh as z post := by
  intro D cs ad sz
  refine Met.ofW (cc := cc) (maxL := maxL) (ret := ret) hy rfl ?_
  intro p e s m args below meth c s₁ B hml hv
  obtain ⟨rfl, hsz, hP, hK, hinj, hE⟩ := hv
  have hts := atoms_spec (ws := xWs y cc maxL ret) B.pre
  have hown : s.vm.findClass y.cls = some m.cls := findClass_of_methodNamed B.named
  subst hsz
  have hC : xC p (xRm d) s m (as.map (xR ad)).toArray meth c y.cls cc maxL D cs ad sh (xA ad sh.length s.heap.size) := ⟨B.exec, B.bytes, hml, hown, fun w hw => hts w (List.mem_cons_of_mem _ hw), B.notSynchronized, hK, hinj, fun i hi => Or.inl ⟨i, hi, rfl⟩, fun q hq => Or.inr hq, hE, ⟨by show 1 ≤ d + 1; omega, by show 40 ≤ 40 * d + 40; omega⟩⟩
  have hW := body p e s m _ below meth c D cs ad _ hC B.returns
  have hl := lv_entry (as.map (xR ad)) (n := maxL) (by rw [lg_sl_len]; exact hn)
  rw [lg_entry_eq]
  rw [lv_args_map] at hl
  exact hW s.heap [] _ hP va_S.rf hl
end XEN
end
section
section XCA
variable {p : Program} {l : Launch} {e : Env} {R : Room} {s : State} {m : MethodId} {args : Array Value} {below : List Frame} {meth : Method} {c : Code} {own : String} {cc : ByteArray} {nL : Nat} {D : va_G} {cs : Nat → ClassId} {ad : Nat → Nat} {sh : xSh} {A : Nat → Prop} {Q : State → Prop}
theorem xPc_blind {D : va_G} {cs : Nat → ClassId} {ad : Nat → Nat} {sh : xSh} {sz : Nat} {as : List Value} {z : xMem} : FrameBlind (xPc D cs ad sh sz as z) := by
  intro a U g mk h
  obtain ⟨h1, h2, h3, h4, h5, h6⟩ := h
  exact ⟨h1, h2, h3, va_K.moved (u := U) (U := U.calling g mk a) (Vm.Alike.refl U.vm) h4, h5, h6.blind⟩
theorem xEs_out {es : List Nat} {n q : Nat} (h : es.length = n) (hn : n ≤ 1000) (hq : 1000 ≤ q) : xEs es q = q := by
  unfold xEs
  rw [if_neg (by omega)]
/-- what a call gives its callee -/
theorem xCall_pre (C : xC p R s m args meth c own cc nL D cs ad sh A) {shc : xSh} {es : List Nat} {as : List Value} {z : xMem} {H : Heap} {locs : List Loc} (hs : xSub sh es shc = true) (hlen : shc.length ≤ 1000) (hP : va_P D classes (xW ad cs z 0 sh) H) (hS : va_S A s.heap H locs) : ∀ U : State, U.heap = H → s.WarmedH U.vm → xPc D cs (fun q => ad (xEs es q)) shc H.size as (xPull es z) (as.map (xR (fun q => ad (xEs es q)))).toArray U := by
  obtain ⟨hx, hb, hml, hown, hts, hlk, hK, hi1, hi2, hA, hE, hR⟩ := C
  have hs0 := hs
  simp only [xSub, Bool.and_eq_true, decide_eq_true_eq] at hs
  obtain ⟨⟨hl, hn⟩, he⟩ := hs
  have hat : ∀ i : Nat, i < shc.length → ∃ a : Nat, es[i]? = some a ∧ a < sh.length ∧ xEs es i = a := by
    intro i hi
    have h0 : es[i]? = some (es[i]'(by omega)) := List.getElem?_eq_getElem (by omega)
    have h1 := congrArg (fun L => L[i]?) he
    simp only [List.getElem?_map, h0, List.getElem?_eq_getElem hi, Option.map_some] at h1
    exact ⟨_, h0, (List.getElem?_eq_some_iff.mp (Option.some.inj h1)).1, xEs_at h0⟩
  intro U hU hW
  refine ⟨rfl, by rw [hU], by rw [hU]; exact xSub_P hs0 hP, va_K.moved hW.alike hK, ?_, ?_⟩
  · intro i j hi hj hij
    obtain ⟨a, a1, a2, a3⟩ := hat i hi
    obtain ⟨b, b1, b2, b3⟩ := hat j hj
    dsimp only at hij
    rw [a3, b3] at hij
    have := hi1 a b a2 b2 hij
    subst this
    have e1 := xNd_ix es i 0 a hn a1
    have e2 := xNd_ix es j 0 a hn b1
    rw [e1] at e2
    simpa using e2
  · have hE2 : xEnv (fun q => ad (xEs es q)) A s s.heap := hE.ad (fun q hq => by show ad (xEs es q) = ad q; rw [xEs_out hl hlen hq])
    rw [hU]
    refine ((hE2.kept (H1 := H) (fun a h1 h2 => hS.2.1 a h1 h2)).warm hW).narrow ?_
    intro q hq
    rcases hq with ⟨i, hi, rfl⟩ | hq
    · obtain ⟨a, a1, a2, a3⟩ := hat i hi
      show A (ad (xEs es i))
      rw [a3]
      exact hi2 a a2
    · exact hA q (Nat.le_trans hS.1 hq)
theorem xA_in (C : xC p R s m args meth c own cc nL D cs ad sh A) {shc : xSh} {es : List Nat} {H : Heap} {locs : List Loc} (hs : xSub sh es shc = true) (hS : va_S A s.heap H locs) : ∀ q, xA (fun q => ad (xEs es q)) shc.length H.size q → A q := by
  obtain ⟨hx, hb, hml, hown, hts, hlk, hK, hi1, hi2, hA, hE, hR⟩ := C
  simp only [xSub, Bool.and_eq_true, decide_eq_true_eq] at hs
  obtain ⟨⟨hl, hn⟩, he⟩ := hs
  intro q hq
  rcases hq with ⟨i, hi, rfl⟩ | hq
  · have h0 : es[i]? = some (es[i]'(by omega)) := List.getElem?_eq_getElem (by omega)
    have h1 := congrArg (fun L => L[i]?) he
    simp only [List.getElem?_map, h0, List.getElem?_eq_getElem hi, Option.map_some] at h1
    show A (ad (xEs es i))
    rw [xEs_at h0]
    exact hi2 _ (List.getElem?_eq_some_iff.mp (Option.some.inj h1)).1
  · exact hA q (Nat.le_trans hS.1 hq)
/-- behind a call, whatever its kind -/
theorem xCall_go (C : xC p R s m args meth c own cc nL D cs ad sh A) {shc : xSh} {es : List Nat} {z : xMem} {post : Option Value → xMem → Prop} (hs : xSub sh es shc = true) (hraw : xHasRaw shc = true → ∀ (k n : Nat) (l : List Nat), sh[k]? = some (0, n, l) → 2 ∈ l → xIx es k 0 ≠ none) {H : Heap} {locs : List Loc} {ls : Array Slot} (hP : va_P D classes (xW ad cs z 0 sh) H) (hS : va_S A s.heap H locs) {pc : Nat} {st0 rest : List Value} {a : Array Value}
    (hr : va_Run p l e R s m args below meth c H locs 0 0 0 0 (F0 m pc ls st0) (rest.map (xR ad)) (xQc D cs (fun q => ad (xEs es q)) shc (xA (fun q => ad (xEs es q)) shc.length H.size) post a) (xA (fun q => ad (xEs es q)) shc.length H.size))
    (kk : ∀ (r : Option Value) (z' : xMem), post r z' → ∀ (H1 : Heap) (locs1 : List Loc), va_P D classes (xW ad cs (xBack es (xHasRaw shc) z z') 0 sh) H1 → va_S A s.heap H1 locs1 → W p l e R s m args below meth c H1 locs1 0 0 Q (F0 m (pc + 3) ls (((r.map (xR (xEs es))).toList ++ rest).map (xR ad)))) : W p l e R s m args below meth c H locs 0 0 Q (F0 m pc ls st0) := by
  have hAi := xA_in C hs hS
  have hinj := C.2.2.2.2.2.2.2.1
  intro T hT X
  obtain ⟨v, st₀, t, T', L, h0, X', hL, e1, e2, ⟨⟨r, z', hv, hp, hP1⟩, hz, hk⟩, st⟩ := hr T hT X
  rw [h0] at hz hk
  have hPn := xSub_back (z' := z') (H1 := T'.heap) hs hraw hinj hP rfl (fun q h1 h2 => by rw [e1]; exact hk q h1 h2) (by rw [e1]; exact hP1)
  have hSn : va_S A s.heap T'.heap (locs ++ L) := ⟨Nat.le_trans hS.1 (by rw [e1]; exact hz), fun q h1 h2 => by rw [e1, hk q (Nat.lt_of_lt_of_le h1 hS.1) (fun zz => h2 (hAi q zz))]; exact hS.2.1 q h1 h2, fun q hq => by
      rcases List.mem_append.mp hq with h | h
      · exact hS.2.2 q h
      · exact hAi _ (hL q h)⟩
  obtain ⟨t2, a1, b1⟩ := kk r z' hp T'.heap (locs ++ L) hPn hSn T' rfl X'
  refine ⟨t2, st t2 ?_, b1⟩
  have hv2 : v = r.map (xR (fun q => ad (xEs es q))) := by
    cases hv
    rfl
  rw [hv2]
  cases r with
  | none => exact a1
  | some w =>
    have ew : xR ad (xR (xEs es) w) = xR (fun q => ad (xEs es q)) w := xR_xR ad es w
    simp only [Option.map_some, Option.toList_some, List.map_cons, List.cons_append, List.nil_append, ew] at a1 ⊢
    exact a1
/-- what the tables say of a callee -/
def xY (y : MethodName) (cy : ByteArray) (maxLy : Nat) (rety : Option FieldType) (n : Nat) : Prop := Cond.code y cy maxLy rety ∈ lw_gt ∧ Cond.initialized y.cls ∈ lw_gt ∧ (y.cls ≠ "java/lang/invoke/MethodHandle" ∧ y.cls ≠ "java/lang/invoke/VarHandle" ∧ (parseMethodDescriptor y.desc).map (fun d => d.parameters.length) = some n)
theorem xFit {d dc maxLy : Nat} (h : dc < d) (hm : maxLy ≤ 20) : (xRm dc).frames + 1 ≤ (xRm d).frames ∧ 8 + (maxLy + 11) + (xRm dc).locals ≤ (xRm d).locals := by
  refine ⟨by show dc + 1 + 1 ≤ d + 1; omega, by show 8 + (maxLy + 11) + (40 * dc + 40) ≤ 40 * d + 40; omega⟩
/-- a link of this class's file to a method, its own or a nest mate's -/
def xLk (own : String) (ix : Nat) (y : MethodName) : Prop := Cond.methodLink own ix y ∈ lw_gt ∨ Cond.methodLinkNest own ix y "LawsLapse" ∈ lw_tbl
/-- a call of an object's method -/
theorem ww_callV {d dc : Nat} (C : xC p (xRm d) s m args meth c own cc nL D cs ad sh A) {K : List xI} (hK : K.all (xOk own cc) = true) (a : Nat) {ix : Nat} {y : MethodName} {cy : ByteArray} {maxLy : Nat} {rety : Option FieldType} {n : Nat} {shc : xSh} {es : List Nat} {as rest : List Value} {b0 q0 : Nat} {z : xMem} {post : Option Value → xMem → Prop} {pc : Nat} {lv : xLv} {ci : Nat} {T : u_T} {N : Nat} {fs : List Nat}
    (hM : XM l dc y cy maxLy rety shc (.ref b0 :: as) (xPull es z) post) (hd : dc < d) (hm : maxLy ≤ 20) (hy : xY y cy maxLy rety n) (hyi : Cond.instanceMethod y ∈ lw_gt ∧ Cond.selects y.cls y y ∈ lw_gt) (hlk : xLk own ix y) (hs : xSub sh es shc = true) (hlen : shc.length ≤ 1000) (hraw : xHasRaw shc = true → ∀ (k n : Nat) (l : List Nat), sh[k]? = some (0, n, l) → 2 ∈ l → xIx es k 0 ≠ none)
    (hq0 : xEs es b0 = q0) (hcell : sh[q0]? = some (0, ci, fs)) (hcls : classes[ci]? = some (y.cls, T, N)) (hn : as.length = n) {st : List Value} (hst : st = (as.map (xR (xEs es))).reverse ++ .ref q0 :: rest) (hrest : (rest.map Value.category).sum ≤ 8) (h : (K[a]?).map (fun q => (q.1, q.2.1)) = some (pc, .invokevirtual ix))
    (kk : ∀ (r : Option Value) (z' : xMem), post r z' → ww p l e (xRm d) s m args below meth c nL D cs ad sh A Q (pc + 3) lv ((r.map (xR (xEs es))).toList ++ rest) (xBack es (xHasRaw shc) z z')) : ww p l e (xRm d) s m args below meth c nL D cs ad sh A Q pc lv st z := by
  have C0 := C
  obtain ⟨hx, hb, hml, hown, hts, hlocks, hCK, hi1, hi2, hA, hE, hR⟩ := C0
  cases hx0 : K[a]? with
  | none => rw [hx0] at h; cases h
  | some x =>
    rw [hx0] at h
    obtain ⟨pc0, i, y9⟩ := x
    simp only [Option.map_some, Option.some.injEq, Prod.mk.injEq] at h
    obtain ⟨h1, h2⟩ := h
    have hdg := xK_d hK hx0
    dsimp only at hdg
    rw [h1, h2] at hdg
    intro H locs ls hP hS hl
    have hpre := xCall_pre C (as := .ref b0 :: as) hs hlen hP hS
    have hMe := hM D cs (fun q => ad (xEs es q)) H.size
    have hrec := va_recv hCK hP (ci := ci) (q0 := q0) hcls (xW_at hcell)
    have hpv : PreV s H y.cls (ad q0) (xPc D cs (fun q => ad (xEs es q)) shc H.size (.ref b0 :: as) (xPull es z)) (as.map (xR (fun q => ad (xEs es q)))) := by
      refine ⟨xPc_blind, hrec, fun U hU hW => ?_⟩
      have h9 := hpre U hU hW
      simp only [List.map_cons, xR, hq0] at h9
      exact h9
    have hfull : (st.map (xR ad)) = (as.map (xR (fun q => ad (xEs es q)))).reverse ++ .ref (ad q0) :: rest.map (xR ad) := by
      rw [hst]
      simp only [List.map_append, List.map_reverse, List.map_map, List.map_cons]
      congr 2
      apply List.map_congr_left
      intro v _
      exact xR_xR ad es v
    have hrun : va_Run p l e (xRm d) s m args below meth c H locs 0 0 0 0 (F0 m pc ls (st.map (xR ad))) (rest.map (xR ad)) (xQc D cs (fun q => ad (xEs es q)) shc (xA (fun q => ad (xEs es q)) shc.length H.size) post (Value.ref (ad q0) :: as.map (xR (fun q => ad (xEs es q)))).toArray) (xA (fun q => ad (xEs es q)) shc.length H.size) := by
      rcases hlk with hlk | hlk
      · exact va_runV (C := y.cls) (n := n) ⟨hx, hb, hml, hown, hts⟩ hMe ⟨callB_of n hts (lw_in hy.1) rfl rfl rfl (hts _ hy.2.1) (hts _ hlk) hy.2.2 (xFit hd hm), hts _ hyi.1, hts _ hyi.2⟩ hpv rfl (by rw [List.length_map]; exact hn) hl.1 hfull (lv_room (by rw [xR_sum]; exact hrest)) hdg ⟨Nat.zero_le _, Nat.zero_le _⟩
      · exact va_runVN (C := y.cls) (n := n) ⟨hx, hb, hml, hown, hts⟩ hMe ⟨va_cnB n hts (lw_in hy.1) rfl rfl rfl (hE.2.2.2.2.1 _ hlk rfl) (hts _ hy.2.1) hy.2.2 (xFit hd hm), hts _ hyi.1, hts _ hyi.2⟩ hpv rfl (by rw [List.length_map]; exact hn) hl.1 hfull (lv_room (by rw [xR_sum]; exact hrest)) hdg ⟨Nat.zero_le _, Nat.zero_le _⟩
    exact xCall_go C hs hraw hP hS hrun (fun r z' hp H1 locs1 hP1 hS1 => kk r z' hp H1 locs1 ls hP1 hS1 hl)
/-- a call of a static method -/
theorem ww_callS {d dc : Nat} (C : xC p (xRm d) s m args meth c own cc nL D cs ad sh A) {K : List xI} (hK : K.all (xOk own cc) = true) (a : Nat) {ix : Nat} {y : MethodName} {cy : ByteArray} {maxLy : Nat} {rety : Option FieldType} {n : Nat} {shc : xSh} {es : List Nat} {as rest : List Value} {z : xMem} {post : Option Value → xMem → Prop} {pc : Nat} {lv : xLv}
    (hM : XM l dc y cy maxLy rety shc as (xPull es z) post) (hd : dc < d) (hm : maxLy ≤ 20) (hy : xY y cy maxLy rety n) (hyi : Cond.static y ∈ lw_gt) (hlk : xLk own ix y) (hs : xSub sh es shc = true) (hlen : shc.length ≤ 1000) (hraw : xHasRaw shc = true → ∀ (k n : Nat) (l : List Nat), sh[k]? = some (0, n, l) → 2 ∈ l → xIx es k 0 ≠ none)
    (hn : as.length = n) {st : List Value} (hst : st = (as.map (xR (xEs es))).reverse ++ rest) (hrest : (rest.map Value.category).sum ≤ 8) (h : (K[a]?).map (fun q => (q.1, q.2.1)) = some (pc, .invokestatic ix))
    (kk : ∀ (r : Option Value) (z' : xMem), post r z' → ww p l e (xRm d) s m args below meth c nL D cs ad sh A Q (pc + 3) lv ((r.map (xR (xEs es))).toList ++ rest) (xBack es (xHasRaw shc) z z')) : ww p l e (xRm d) s m args below meth c nL D cs ad sh A Q pc lv st z := by
  have C0 := C
  obtain ⟨hx, hb, hml, hown, hts, hlocks, hCK, hi1, hi2, hA, hE, hR⟩ := C0
  cases hx0 : K[a]? with
  | none => rw [hx0] at h; cases h
  | some x =>
    rw [hx0] at h
    obtain ⟨pc0, i, y9⟩ := x
    simp only [Option.map_some, Option.some.injEq, Prod.mk.injEq] at h
    obtain ⟨h1, h2⟩ := h
    have hdg := xK_d hK hx0
    dsimp only at hdg
    rw [h1, h2] at hdg
    intro H locs ls hP hS hl
    have hpre := xCall_pre C (as := as) hs hlen hP hS
    have hMe := hM D cs (fun q => ad (xEs es q)) H.size
    have hps : PreS s H (xPc D cs (fun q => ad (xEs es q)) shc H.size as (xPull es z)) (as.map (xR (fun q => ad (xEs es q)))) := ⟨xPc_blind, hpre⟩
    have hfull : (st.map (xR ad)) = (as.map (xR (fun q => ad (xEs es q)))).reverse ++ rest.map (xR ad) := by
      rw [hst]
      simp only [List.map_append, List.map_reverse, List.map_map]
      congr 2
      apply List.map_congr_left
      intro v _
      exact xR_xR ad es v
    have hrun : va_Run p l e (xRm d) s m args below meth c H locs 0 0 0 0 (F0 m pc ls (st.map (xR ad))) (rest.map (xR ad)) (xQc D cs (fun q => ad (xEs es q)) shc (xA (fun q => ad (xEs es q)) shc.length H.size) post (as.map (xR (fun q => ad (xEs es q)))).toArray) (xA (fun q => ad (xEs es q)) shc.length H.size) := by
      rcases hlk with hlk | hlk
      · exact va_runS (n := n) ⟨hx, hb, hml, hown, hts⟩ hMe ⟨callB_of n hts (lw_in hy.1) rfl rfl rfl (hts _ hy.2.1) (hts _ hlk) hy.2.2 (xFit hd hm), hts _ hyi⟩ hps rfl (by rw [List.length_map]; exact hn) hl.1 hfull (lv_room (by rw [xR_sum]; exact hrest)) hdg ⟨Nat.zero_le _, Nat.zero_le _⟩
      · exact va_runSN (n := n) ⟨hx, hb, hml, hown, hts⟩ hMe ⟨va_cnB n hts (lw_in hy.1) rfl rfl rfl (hE.2.2.2.2.1 _ hlk rfl) (hts _ hy.2.1) hy.2.2 (xFit hd hm), hts _ hyi, trivial⟩ hps rfl (by rw [List.length_map]; exact hn) hl.1 hfull (lv_room (by rw [xR_sum]; exact hrest)) hdg ⟨Nat.zero_le _, Nat.zero_le _⟩
    exact xCall_go C hs hraw hP hS hrun (fun r z' hp H1 locs1 hP1 hS1 => kk r z' hp H1 locs1 ls hP1 hS1 hl)
end XCA
end
section
section XCB
variable {p : Program} {l : Launch} {e : Env} {R : Room} {s : State} {m : MethodId} {args : Array Value} {below : List Frame} {meth : Method} {c : Code} {own : String} {cc : ByteArray} {nL : Nat} {D : va_G} {cs : Nat → ClassId} {ad : Nat → Nat} {sh : xSh} {A : Nat → Prop} {Q : State → Prop}
def mPut (z : xMem) (q j : Nat) (x : Int32) : xMem := (xUp z.1 q (upd (z.1 q) j x), z.2)
def mPutL (z : xMem) (q j : Nat) (x : Int64) : xMem := (z.1, xUp z.2.1 q (vp_updL (z.2.1 q) j x), z.2.2)
def mCpy (z : xMem) (q0 q1 : Nat) (sp dp n : Int32) : xMem := (xUp z.1 q1 (va_cpy (z.1 q0) (z.1 q1) sp.toNatClampNeg dp.toNatClampNeg n.toNatClampNeg), z.2)
abbrev XMi (l : Launch) (d : Nat) (y : MethodName) (cc : ByteArray) (maxL : Nat) (ret : Option FieldType) (sh : xSh) (as : List Value) (z : xMem) (P : Int32 → xMem → Prop) : Prop := XM l d y cc maxL ret sh as z (fun r z' => ∃ v : Int32, r = some (.int v) ∧ P v z')
abbrev XMl (l : Launch) (d : Nat) (y : MethodName) (cc : ByteArray) (maxL : Nat) (ret : Option FieldType) (sh : xSh) (as : List Value) (z : xMem) (P : Int64 → xMem → Prop) : Prop := XM l d y cc maxL ret sh as z (fun r z' => ∃ v : Int64, r = some (.long v) ∧ P v z')
abbrev XMv (l : Launch) (d : Nat) (y : MethodName) (cc : ByteArray) (maxL : Nat) (ret : Option FieldType) (sh : xSh) (as : List Value) (z : xMem) (P : xMem → Prop) : Prop := XM l d y cc maxL ret sh as z (fun r z' => r = none ∧ P z')
abbrev XMz (l : Launch) (d : Nat) (y : MethodName) (cc : ByteArray) (maxL : Nat) (ret : Option FieldType) (sh : xSh) (as : List Value) (z : xMem) (P N : xMem → Prop) : Prop := XM l d y cc maxL ret sh as z (fun r z' => (r = some (.int 1) ∧ P z') ∨ (r = some (.int 0) ∧ N z'))
theorem xCallI_pre (C : xC p R s m args meth c own cc nL D cs ad sh A) {as : List Value} {z : xMem} {H : Heap} {locs : List Loc} (hP : va_P D classes (xW ad cs z 0 sh) H) (hS : va_S A s.heap H locs) : ∀ U : State, U.heap = H → s.WarmedH U.vm → xPc D cs ad sh H.size as z (as.map (xR ad)).toArray U := by
  obtain ⟨hx, hb, hml, hown, hts, hlk, hK, hi1, hi2, hA, hE, hR⟩ := C
  intro U hU hW
  refine ⟨rfl, by rw [hU], by rw [hU]; exact hP, va_K.moved hW.alike hK, hi1, ?_⟩
  rw [hU]
  refine ((hE.kept (H1 := H) (fun a h1 h2 => hS.2.1 a h1 h2)).warm hW).narrow ?_
  intro q hq
  rcases hq with ⟨i, hi, rfl⟩ | hq
  · exact hi2 i hi
  · exact hA q (Nat.le_trans hS.1 hq)
theorem xCallI_go (C : xC p R s m args meth c own cc nL D cs ad sh A) {z : xMem} {post : Option Value → xMem → Prop} {H : Heap} {locs : List Loc} {ls : Array Slot} (hS : va_S A s.heap H locs) {pc : Nat} {st0 rest : List Value} {a : Array Value}
    (hr : va_Run p l e R s m args below meth c H locs 0 0 0 0 (F0 m pc ls st0) (rest.map (xR ad)) (xQc D cs ad sh (xA ad sh.length H.size) post a) (xA ad sh.length H.size))
    (kk : ∀ (r : Option Value) (z' : xMem), post r z' → ∀ (H1 : Heap) (locs1 : List Loc), va_P D classes (xW ad cs z' 0 sh) H1 → va_S A s.heap H1 locs1 → W p l e R s m args below meth c H1 locs1 0 0 Q (F0 m (pc + 3) ls ((r.toList ++ rest).map (xR ad)))) : W p l e R s m args below meth c H locs 0 0 Q (F0 m pc ls st0) := by
  have hAi : ∀ q, xA ad sh.length H.size q → A q := by
    intro q hq
    rcases hq with ⟨i, hi, rfl⟩ | hq
    · exact C.2.2.2.2.2.2.2.2.1 i hi
    · exact C.2.2.2.2.2.2.2.2.2.1 q (Nat.le_trans hS.1 hq)
  intro T hT X
  obtain ⟨v, st₀, t, T', L, h0, X', hL, e1, e2, ⟨⟨r, z', hv, hp, hP1⟩, hz, hk⟩, st⟩ := hr T hT X
  rw [h0] at hz hk
  have hSn : va_S A s.heap T'.heap (locs ++ L) := ⟨Nat.le_trans hS.1 (by rw [e1]; exact hz), fun q h1 h2 => by rw [e1, hk q (Nat.lt_of_lt_of_le h1 hS.1) (fun zz => h2 (hAi q zz))]; exact hS.2.1 q h1 h2, fun q hq => by
      rcases List.mem_append.mp hq with h | h
      · exact hS.2.2 q h
      · exact hAi _ (hL q h)⟩
  obtain ⟨t2, a1, b1⟩ := kk r z' hp T'.heap (locs ++ L) (by rw [e1]; exact hP1) hSn T' rfl X'
  refine ⟨t2, st t2 ?_, b1⟩
  have hv2 : v = r.map (xR ad) := by
    cases hv
    rfl
  rw [hv2]
  cases r with
  | none => exact a1
  | some w => exact a1
theorem ww_callVI {d dc : Nat} (C : xC p (xRm d) s m args meth c own cc nL D cs ad sh A) {K : List xI} (hK : K.all (xOk own cc) = true) (a : Nat) {ix : Nat} {y : MethodName} {cy : ByteArray} {maxLy : Nat} {rety : Option FieldType} {n : Nat} {as rest : List Value} {b0 : Nat} {z : xMem} {post : Option Value → xMem → Prop} {pc : Nat} {lv : xLv} {ci : Nat} {T : u_T} {N : Nat} {fs : List Nat}
    (hM : XM l dc y cy maxLy rety sh (.ref b0 :: as) z post) (hd : dc < d) (hm : maxLy ≤ 20) (hy : xY y cy maxLy rety n) (hyi : Cond.instanceMethod y ∈ lw_gt ∧ Cond.selects y.cls y y ∈ lw_gt) (hlk : xLk own ix y)
    (hcell : sh[b0]? = some (0, ci, fs)) (hcls : classes[ci]? = some (y.cls, T, N)) (hn : as.length = n) {st : List Value} (hst : st = as.reverse ++ .ref b0 :: rest) (hrest : (rest.map Value.category).sum ≤ 8) (h : (K[a]?).map (fun q => (q.1, q.2.1)) = some (pc, .invokevirtual ix))
    (kk : ∀ (r : Option Value) (z' : xMem), post r z' → ww p l e (xRm d) s m args below meth c nL D cs ad sh A Q (pc + 3) lv (r.toList ++ rest) z') : ww p l e (xRm d) s m args below meth c nL D cs ad sh A Q pc lv st z := by
  have C0 := C
  obtain ⟨hx, hb, hml, hown, hts, hlocks, hCK, hi1, hi2, hA, hE, hR⟩ := C0
  cases hx0 : K[a]? with
  | none => rw [hx0] at h; cases h
  | some x =>
    rw [hx0] at h
    obtain ⟨pc0, i, y9⟩ := x
    simp only [Option.map_some, Option.some.injEq, Prod.mk.injEq] at h
    obtain ⟨h1, h2⟩ := h
    have hdg := xK_d hK hx0
    dsimp only at hdg
    rw [h1, h2] at hdg
    intro H locs ls hP hS hl
    have hpre := xCallI_pre C (as := .ref b0 :: as) hP hS
    have hMe := hM D cs ad H.size
    have hrec := va_recv hCK hP (ci := ci) (q0 := b0) hcls (xW_at hcell)
    have hpv : PreV s H y.cls (ad b0) (xPc D cs ad sh H.size (.ref b0 :: as) z) (as.map (xR ad)) := ⟨xPc_blind, hrec, fun U hU hW => hpre U hU hW⟩
    have hfull : (st.map (xR ad)) = (as.map (xR ad)).reverse ++ .ref (ad b0) :: rest.map (xR ad) := by
      rw [hst]
      simp only [List.map_append, List.map_reverse, List.map_cons]
      rfl
    have hrun : va_Run p l e (xRm d) s m args below meth c H locs 0 0 0 0 (F0 m pc ls (st.map (xR ad))) (rest.map (xR ad)) (xQc D cs ad sh (xA ad sh.length H.size) post (Value.ref (ad b0) :: as.map (xR ad)).toArray) (xA ad sh.length H.size) := by
      rcases hlk with hlk | hlk
      · exact va_runV (C := y.cls) (n := n) ⟨hx, hb, hml, hown, hts⟩ hMe ⟨callB_of n hts (lw_in hy.1) rfl rfl rfl (hts _ hy.2.1) (hts _ hlk) hy.2.2 (xFit hd hm), hts _ hyi.1, hts _ hyi.2⟩ hpv rfl (by rw [List.length_map]; exact hn) hl.1 hfull (lv_room (by rw [xR_sum]; exact hrest)) hdg ⟨Nat.zero_le _, Nat.zero_le _⟩
      · exact va_runVN (C := y.cls) (n := n) ⟨hx, hb, hml, hown, hts⟩ hMe ⟨va_cnB n hts (lw_in hy.1) rfl rfl rfl (hE.2.2.2.2.1 _ hlk rfl) (hts _ hy.2.1) hy.2.2 (xFit hd hm), hts _ hyi.1, hts _ hyi.2⟩ hpv rfl (by rw [List.length_map]; exact hn) hl.1 hfull (lv_room (by rw [xR_sum]; exact hrest)) hdg ⟨Nat.zero_le _, Nat.zero_le _⟩
    exact xCallI_go C (z := z) hS hrun (fun r z' hp H1 locs1 hP1 hS1 => kk r z' hp H1 locs1 ls hP1 hS1 hl)
theorem ww_callSI {d dc : Nat} (C : xC p (xRm d) s m args meth c own cc nL D cs ad sh A) {K : List xI} (hK : K.all (xOk own cc) = true) (a : Nat) {ix : Nat} {y : MethodName} {cy : ByteArray} {maxLy : Nat} {rety : Option FieldType} {n : Nat} {as rest : List Value} {z : xMem} {post : Option Value → xMem → Prop} {pc : Nat} {lv : xLv}
    (hM : XM l dc y cy maxLy rety sh as z post) (hd : dc < d) (hm : maxLy ≤ 20) (hy : xY y cy maxLy rety n) (hyi : Cond.static y ∈ lw_gt) (hlk : xLk own ix y)
    (hn : as.length = n) {st : List Value} (hst : st = as.reverse ++ rest) (hrest : (rest.map Value.category).sum ≤ 8) (h : (K[a]?).map (fun q => (q.1, q.2.1)) = some (pc, .invokestatic ix))
    (kk : ∀ (r : Option Value) (z' : xMem), post r z' → ww p l e (xRm d) s m args below meth c nL D cs ad sh A Q (pc + 3) lv (r.toList ++ rest) z') : ww p l e (xRm d) s m args below meth c nL D cs ad sh A Q pc lv st z := by
  have C0 := C
  obtain ⟨hx, hb, hml, hown, hts, hlocks, hCK, hi1, hi2, hA, hE, hR⟩ := C0
  cases hx0 : K[a]? with
  | none => rw [hx0] at h; cases h
  | some x =>
    rw [hx0] at h
    obtain ⟨pc0, i, y9⟩ := x
    simp only [Option.map_some, Option.some.injEq, Prod.mk.injEq] at h
    obtain ⟨h1, h2⟩ := h
    have hdg := xK_d hK hx0
    dsimp only at hdg
    rw [h1, h2] at hdg
    intro H locs ls hP hS hl
    have hpre := xCallI_pre C (as := as) hP hS
    have hMe := hM D cs ad H.size
    have hps : PreS s H (xPc D cs ad sh H.size as z) (as.map (xR ad)) := ⟨xPc_blind, fun U hU hW => hpre U hU hW⟩
    have hfull : (st.map (xR ad)) = (as.map (xR ad)).reverse ++ rest.map (xR ad) := by
      rw [hst]
      simp only [List.map_append, List.map_reverse]
    have hrun : va_Run p l e (xRm d) s m args below meth c H locs 0 0 0 0 (F0 m pc ls (st.map (xR ad))) (rest.map (xR ad)) (xQc D cs ad sh (xA ad sh.length H.size) post (as.map (xR ad)).toArray) (xA ad sh.length H.size) := by
      rcases hlk with hlk | hlk
      · exact va_runS (n := n) ⟨hx, hb, hml, hown, hts⟩ hMe ⟨callB_of n hts (lw_in hy.1) rfl rfl rfl (hts _ hy.2.1) (hts _ hlk) hy.2.2 (xFit hd hm), hts _ hyi⟩ hps rfl (by rw [List.length_map]; exact hn) hl.1 hfull (lv_room (by rw [xR_sum]; exact hrest)) hdg ⟨Nat.zero_le _, Nat.zero_le _⟩
      · exact va_runSN (n := n) ⟨hx, hb, hml, hown, hts⟩ hMe ⟨va_cnB n hts (lw_in hy.1) rfl rfl rfl (hE.2.2.2.2.1 _ hlk rfl) (hts _ hy.2.1) hy.2.2 (xFit hd hm), hts _ hyi, trivial⟩ hps rfl (by rw [List.length_map]; exact hn) hl.1 hfull (lv_room (by rw [xR_sum]; exact hrest)) hdg ⟨Nat.zero_le _, Nat.zero_le _⟩
    exact xCallI_go C (z := z) hS hrun (fun r z' hp H1 locs1 hP1 hS1 => kk r z' hp H1 locs1 ls hP1 hS1 hl)

theorem ww_callVIi {d dc : Nat} (C : xC p (xRm d) s m args meth c own cc nL D cs ad sh A) {K : List xI} (hK : K.all (xOk own cc) = true) (a : Nat) {ix : Nat} {y : MethodName} {cy : ByteArray} {maxLy : Nat} {rety : Option FieldType} {n : Nat} {as rest : List Value} {z : xMem} {pc : Nat} {lv : xLv} {b0 : Nat} {ci : Nat} {T : u_T} {N : Nat} {fs : List Nat} {P : Int32 → xMem → Prop}
    (hM : XMi l dc y cy maxLy rety sh (.ref b0 :: as) z P) (hd : dc < d) (hm : maxLy ≤ 20) (hy : xY y cy maxLy rety n) (hyi : Cond.instanceMethod y ∈ lw_gt ∧ Cond.selects y.cls y y ∈ lw_gt) (hlk : xLk own ix y) (hcell : sh[b0]? = some (0, ci, fs)) (hcls : classes[ci]? = some (y.cls, T, N)) (hn : as.length = n) {st : List Value} (hst : st = as.reverse ++ .ref b0 :: rest) (hrest : (rest.map Value.category).sum ≤ 8) (h : (K[a]?).map (fun q => (q.1, q.2.1)) = some (pc, .invokevirtual ix))
    (kk : ∀ (v : Int32) (z' : xMem), P v z' → ww p l e (xRm d) s m args below meth c nL D cs ad sh A Q (pc + 3) lv (.int v :: rest) z') : ww p l e (xRm d) s m args below meth c nL D cs ad sh A Q pc lv st z :=
  ww_callVI C hK a hM hd hm hy hyi hlk hcell hcls hn hst hrest h (fun r z' hp => by
    obtain ⟨v, rfl, h9⟩ := hp
    exact kk v z' h9)
theorem ww_callVIl {d dc : Nat} (C : xC p (xRm d) s m args meth c own cc nL D cs ad sh A) {K : List xI} (hK : K.all (xOk own cc) = true) (a : Nat) {ix : Nat} {y : MethodName} {cy : ByteArray} {maxLy : Nat} {rety : Option FieldType} {n : Nat} {as rest : List Value} {z : xMem} {pc : Nat} {lv : xLv} {b0 : Nat} {ci : Nat} {T : u_T} {N : Nat} {fs : List Nat} {P : Int64 → xMem → Prop}
    (hM : XMl l dc y cy maxLy rety sh (.ref b0 :: as) z P) (hd : dc < d) (hm : maxLy ≤ 20) (hy : xY y cy maxLy rety n) (hyi : Cond.instanceMethod y ∈ lw_gt ∧ Cond.selects y.cls y y ∈ lw_gt) (hlk : xLk own ix y) (hcell : sh[b0]? = some (0, ci, fs)) (hcls : classes[ci]? = some (y.cls, T, N)) (hn : as.length = n) {st : List Value} (hst : st = as.reverse ++ .ref b0 :: rest) (hrest : (rest.map Value.category).sum ≤ 8) (h : (K[a]?).map (fun q => (q.1, q.2.1)) = some (pc, .invokevirtual ix))
    (kk : ∀ (v : Int64) (z' : xMem), P v z' → ww p l e (xRm d) s m args below meth c nL D cs ad sh A Q (pc + 3) lv (.long v :: rest) z') : ww p l e (xRm d) s m args below meth c nL D cs ad sh A Q pc lv st z :=
  ww_callVI C hK a hM hd hm hy hyi hlk hcell hcls hn hst hrest h (fun r z' hp => by
    obtain ⟨v, rfl, h9⟩ := hp
    exact kk v z' h9)
theorem ww_callVIv {d dc : Nat} (C : xC p (xRm d) s m args meth c own cc nL D cs ad sh A) {K : List xI} (hK : K.all (xOk own cc) = true) (a : Nat) {ix : Nat} {y : MethodName} {cy : ByteArray} {maxLy : Nat} {rety : Option FieldType} {n : Nat} {as rest : List Value} {z : xMem} {pc : Nat} {lv : xLv} {b0 : Nat} {ci : Nat} {T : u_T} {N : Nat} {fs : List Nat} {P : xMem → Prop}
    (hM : XMv l dc y cy maxLy rety sh (.ref b0 :: as) z P) (hd : dc < d) (hm : maxLy ≤ 20) (hy : xY y cy maxLy rety n) (hyi : Cond.instanceMethod y ∈ lw_gt ∧ Cond.selects y.cls y y ∈ lw_gt) (hlk : xLk own ix y) (hcell : sh[b0]? = some (0, ci, fs)) (hcls : classes[ci]? = some (y.cls, T, N)) (hn : as.length = n) {st : List Value} (hst : st = as.reverse ++ .ref b0 :: rest) (hrest : (rest.map Value.category).sum ≤ 8) (h : (K[a]?).map (fun q => (q.1, q.2.1)) = some (pc, .invokevirtual ix))
    (kk : ∀ (z' : xMem), P z' → ww p l e (xRm d) s m args below meth c nL D cs ad sh A Q (pc + 3) lv (rest) z') : ww p l e (xRm d) s m args below meth c nL D cs ad sh A Q pc lv st z :=
  ww_callVI C hK a hM hd hm hy hyi hlk hcell hcls hn hst hrest h (fun r z' hp => by
    obtain ⟨rfl, h9⟩ := hp
    exact kk z' h9)
theorem ww_callVIz {d dc : Nat} (C : xC p (xRm d) s m args meth c own cc nL D cs ad sh A) {K : List xI} (hK : K.all (xOk own cc) = true) (a : Nat) {ix : Nat} {y : MethodName} {cy : ByteArray} {maxLy : Nat} {rety : Option FieldType} {n : Nat} {as rest : List Value} {z : xMem} {pc : Nat} {lv : xLv} {b0 : Nat} {ci : Nat} {T : u_T} {N : Nat} {fs : List Nat} {P N0 : xMem → Prop}
    (hM : XMz l dc y cy maxLy rety sh (.ref b0 :: as) z P N0) (hd : dc < d) (hm : maxLy ≤ 20) (hy : xY y cy maxLy rety n) (hyi : Cond.instanceMethod y ∈ lw_gt ∧ Cond.selects y.cls y y ∈ lw_gt) (hlk : xLk own ix y) (hcell : sh[b0]? = some (0, ci, fs)) (hcls : classes[ci]? = some (y.cls, T, N)) (hn : as.length = n) {st : List Value} (hst : st = as.reverse ++ .ref b0 :: rest) (hrest : (rest.map Value.category).sum ≤ 8) (h : (K[a]?).map (fun q => (q.1, q.2.1)) = some (pc, .invokevirtual ix))
    (k1 : ∀ z' : xMem, P z' → ww p l e (xRm d) s m args below meth c nL D cs ad sh A Q (pc + 3) lv (.int 1 :: rest) z') (k0 : ∀ z' : xMem, N0 z' → ww p l e (xRm d) s m args below meth c nL D cs ad sh A Q (pc + 3) lv (.int 0 :: rest) z') : ww p l e (xRm d) s m args below meth c nL D cs ad sh A Q pc lv st z :=
  ww_callVI C hK a hM hd hm hy hyi hlk hcell hcls hn hst hrest h (fun r z' hp => by
    rcases hp with ⟨rfl, h9⟩ | ⟨rfl, h9⟩
    · exact k1 z' h9
    · exact k0 z' h9)
theorem ww_callVEi {d dc : Nat} (C : xC p (xRm d) s m args meth c own cc nL D cs ad sh A) {K : List xI} (hK : K.all (xOk own cc) = true) (a : Nat) {ix : Nat} {y : MethodName} {cy : ByteArray} {maxLy : Nat} {rety : Option FieldType} {n : Nat} {as rest : List Value} {z : xMem} {pc : Nat} {lv : xLv} {shc : xSh} {es : List Nat} {b0 : Nat} {ci : Nat} {T : u_T} {N : Nat} {fs : List Nat} {q0 : Nat} {P : Int32 → xMem → Prop}
    (hM : XMi l dc y cy maxLy rety shc (.ref b0 :: as) (xPull es z) P) (hd : dc < d) (hm : maxLy ≤ 20) (hy : xY y cy maxLy rety n) (hyi : Cond.instanceMethod y ∈ lw_gt ∧ Cond.selects y.cls y y ∈ lw_gt) (hlk : xLk own ix y) (hs : xSub sh es shc = true) (hlen : shc.length ≤ 1000) (hraw : xHasRaw shc = true → ∀ (k n : Nat) (l : List Nat), sh[k]? = some (0, n, l) → 2 ∈ l → xIx es k 0 ≠ none) (hq0 : xEs es b0 = q0) (hcell : sh[q0]? = some (0, ci, fs)) (hcls : classes[ci]? = some (y.cls, T, N)) (hn : as.length = n) {st : List Value} (hst : st = (as.map (xR (xEs es))).reverse ++ .ref q0 :: rest) (hrest : (rest.map Value.category).sum ≤ 8) (h : (K[a]?).map (fun q => (q.1, q.2.1)) = some (pc, .invokevirtual ix))
    (kk : ∀ (v : Int32) (z' : xMem), P v z' → ww p l e (xRm d) s m args below meth c nL D cs ad sh A Q (pc + 3) lv (.int v :: rest) (xBack es (xHasRaw shc) z z')) : ww p l e (xRm d) s m args below meth c nL D cs ad sh A Q pc lv st z :=
  ww_callV C hK a hM hd hm hy hyi hlk hs hlen hraw hq0 hcell hcls hn hst hrest h (fun r z' hp => by
    obtain ⟨v, rfl, h9⟩ := hp
    exact kk v z' h9)
theorem ww_callVEl {d dc : Nat} (C : xC p (xRm d) s m args meth c own cc nL D cs ad sh A) {K : List xI} (hK : K.all (xOk own cc) = true) (a : Nat) {ix : Nat} {y : MethodName} {cy : ByteArray} {maxLy : Nat} {rety : Option FieldType} {n : Nat} {as rest : List Value} {z : xMem} {pc : Nat} {lv : xLv} {shc : xSh} {es : List Nat} {b0 : Nat} {ci : Nat} {T : u_T} {N : Nat} {fs : List Nat} {q0 : Nat} {P : Int64 → xMem → Prop}
    (hM : XMl l dc y cy maxLy rety shc (.ref b0 :: as) (xPull es z) P) (hd : dc < d) (hm : maxLy ≤ 20) (hy : xY y cy maxLy rety n) (hyi : Cond.instanceMethod y ∈ lw_gt ∧ Cond.selects y.cls y y ∈ lw_gt) (hlk : xLk own ix y) (hs : xSub sh es shc = true) (hlen : shc.length ≤ 1000) (hraw : xHasRaw shc = true → ∀ (k n : Nat) (l : List Nat), sh[k]? = some (0, n, l) → 2 ∈ l → xIx es k 0 ≠ none) (hq0 : xEs es b0 = q0) (hcell : sh[q0]? = some (0, ci, fs)) (hcls : classes[ci]? = some (y.cls, T, N)) (hn : as.length = n) {st : List Value} (hst : st = (as.map (xR (xEs es))).reverse ++ .ref q0 :: rest) (hrest : (rest.map Value.category).sum ≤ 8) (h : (K[a]?).map (fun q => (q.1, q.2.1)) = some (pc, .invokevirtual ix))
    (kk : ∀ (v : Int64) (z' : xMem), P v z' → ww p l e (xRm d) s m args below meth c nL D cs ad sh A Q (pc + 3) lv (.long v :: rest) (xBack es (xHasRaw shc) z z')) : ww p l e (xRm d) s m args below meth c nL D cs ad sh A Q pc lv st z :=
  ww_callV C hK a hM hd hm hy hyi hlk hs hlen hraw hq0 hcell hcls hn hst hrest h (fun r z' hp => by
    obtain ⟨v, rfl, h9⟩ := hp
    exact kk v z' h9)
theorem ww_callVEv {d dc : Nat} (C : xC p (xRm d) s m args meth c own cc nL D cs ad sh A) {K : List xI} (hK : K.all (xOk own cc) = true) (a : Nat) {ix : Nat} {y : MethodName} {cy : ByteArray} {maxLy : Nat} {rety : Option FieldType} {n : Nat} {as rest : List Value} {z : xMem} {pc : Nat} {lv : xLv} {shc : xSh} {es : List Nat} {b0 : Nat} {ci : Nat} {T : u_T} {N : Nat} {fs : List Nat} {q0 : Nat} {P : xMem → Prop}
    (hM : XMv l dc y cy maxLy rety shc (.ref b0 :: as) (xPull es z) P) (hd : dc < d) (hm : maxLy ≤ 20) (hy : xY y cy maxLy rety n) (hyi : Cond.instanceMethod y ∈ lw_gt ∧ Cond.selects y.cls y y ∈ lw_gt) (hlk : xLk own ix y) (hs : xSub sh es shc = true) (hlen : shc.length ≤ 1000) (hraw : xHasRaw shc = true → ∀ (k n : Nat) (l : List Nat), sh[k]? = some (0, n, l) → 2 ∈ l → xIx es k 0 ≠ none) (hq0 : xEs es b0 = q0) (hcell : sh[q0]? = some (0, ci, fs)) (hcls : classes[ci]? = some (y.cls, T, N)) (hn : as.length = n) {st : List Value} (hst : st = (as.map (xR (xEs es))).reverse ++ .ref q0 :: rest) (hrest : (rest.map Value.category).sum ≤ 8) (h : (K[a]?).map (fun q => (q.1, q.2.1)) = some (pc, .invokevirtual ix))
    (kk : ∀ (z' : xMem), P z' → ww p l e (xRm d) s m args below meth c nL D cs ad sh A Q (pc + 3) lv (rest) (xBack es (xHasRaw shc) z z')) : ww p l e (xRm d) s m args below meth c nL D cs ad sh A Q pc lv st z :=
  ww_callV C hK a hM hd hm hy hyi hlk hs hlen hraw hq0 hcell hcls hn hst hrest h (fun r z' hp => by
    obtain ⟨rfl, h9⟩ := hp
    exact kk z' h9)
theorem ww_callVEz {d dc : Nat} (C : xC p (xRm d) s m args meth c own cc nL D cs ad sh A) {K : List xI} (hK : K.all (xOk own cc) = true) (a : Nat) {ix : Nat} {y : MethodName} {cy : ByteArray} {maxLy : Nat} {rety : Option FieldType} {n : Nat} {as rest : List Value} {z : xMem} {pc : Nat} {lv : xLv} {shc : xSh} {es : List Nat} {b0 : Nat} {ci : Nat} {T : u_T} {N : Nat} {fs : List Nat} {q0 : Nat} {P N0 : xMem → Prop}
    (hM : XMz l dc y cy maxLy rety shc (.ref b0 :: as) (xPull es z) P N0) (hd : dc < d) (hm : maxLy ≤ 20) (hy : xY y cy maxLy rety n) (hyi : Cond.instanceMethod y ∈ lw_gt ∧ Cond.selects y.cls y y ∈ lw_gt) (hlk : xLk own ix y) (hs : xSub sh es shc = true) (hlen : shc.length ≤ 1000) (hraw : xHasRaw shc = true → ∀ (k n : Nat) (l : List Nat), sh[k]? = some (0, n, l) → 2 ∈ l → xIx es k 0 ≠ none) (hq0 : xEs es b0 = q0) (hcell : sh[q0]? = some (0, ci, fs)) (hcls : classes[ci]? = some (y.cls, T, N)) (hn : as.length = n) {st : List Value} (hst : st = (as.map (xR (xEs es))).reverse ++ .ref q0 :: rest) (hrest : (rest.map Value.category).sum ≤ 8) (h : (K[a]?).map (fun q => (q.1, q.2.1)) = some (pc, .invokevirtual ix))
    (k1 : ∀ z' : xMem, P z' → ww p l e (xRm d) s m args below meth c nL D cs ad sh A Q (pc + 3) lv (.int 1 :: rest) (xBack es (xHasRaw shc) z z')) (k0 : ∀ z' : xMem, N0 z' → ww p l e (xRm d) s m args below meth c nL D cs ad sh A Q (pc + 3) lv (.int 0 :: rest) (xBack es (xHasRaw shc) z z')) : ww p l e (xRm d) s m args below meth c nL D cs ad sh A Q pc lv st z :=
  ww_callV C hK a hM hd hm hy hyi hlk hs hlen hraw hq0 hcell hcls hn hst hrest h (fun r z' hp => by
    rcases hp with ⟨rfl, h9⟩ | ⟨rfl, h9⟩
    · exact k1 z' h9
    · exact k0 z' h9)
theorem ww_callSIi {d dc : Nat} (C : xC p (xRm d) s m args meth c own cc nL D cs ad sh A) {K : List xI} (hK : K.all (xOk own cc) = true) (a : Nat) {ix : Nat} {y : MethodName} {cy : ByteArray} {maxLy : Nat} {rety : Option FieldType} {n : Nat} {as rest : List Value} {z : xMem} {pc : Nat} {lv : xLv} {P : Int32 → xMem → Prop}
    (hM : XMi l dc y cy maxLy rety sh as z P) (hd : dc < d) (hm : maxLy ≤ 20) (hy : xY y cy maxLy rety n) (hyi : Cond.static y ∈ lw_gt) (hlk : xLk own ix y) (hn : as.length = n) {st : List Value} (hst : st = as.reverse ++ rest) (hrest : (rest.map Value.category).sum ≤ 8) (h : (K[a]?).map (fun q => (q.1, q.2.1)) = some (pc, .invokestatic ix))
    (kk : ∀ (v : Int32) (z' : xMem), P v z' → ww p l e (xRm d) s m args below meth c nL D cs ad sh A Q (pc + 3) lv (.int v :: rest) z') : ww p l e (xRm d) s m args below meth c nL D cs ad sh A Q pc lv st z :=
  ww_callSI C hK a hM hd hm hy hyi hlk hn hst hrest h (fun r z' hp => by
    obtain ⟨v, rfl, h9⟩ := hp
    exact kk v z' h9)
theorem ww_callSIl {d dc : Nat} (C : xC p (xRm d) s m args meth c own cc nL D cs ad sh A) {K : List xI} (hK : K.all (xOk own cc) = true) (a : Nat) {ix : Nat} {y : MethodName} {cy : ByteArray} {maxLy : Nat} {rety : Option FieldType} {n : Nat} {as rest : List Value} {z : xMem} {pc : Nat} {lv : xLv} {P : Int64 → xMem → Prop}
    (hM : XMl l dc y cy maxLy rety sh as z P) (hd : dc < d) (hm : maxLy ≤ 20) (hy : xY y cy maxLy rety n) (hyi : Cond.static y ∈ lw_gt) (hlk : xLk own ix y) (hn : as.length = n) {st : List Value} (hst : st = as.reverse ++ rest) (hrest : (rest.map Value.category).sum ≤ 8) (h : (K[a]?).map (fun q => (q.1, q.2.1)) = some (pc, .invokestatic ix))
    (kk : ∀ (v : Int64) (z' : xMem), P v z' → ww p l e (xRm d) s m args below meth c nL D cs ad sh A Q (pc + 3) lv (.long v :: rest) z') : ww p l e (xRm d) s m args below meth c nL D cs ad sh A Q pc lv st z :=
  ww_callSI C hK a hM hd hm hy hyi hlk hn hst hrest h (fun r z' hp => by
    obtain ⟨v, rfl, h9⟩ := hp
    exact kk v z' h9)
theorem ww_callSIv {d dc : Nat} (C : xC p (xRm d) s m args meth c own cc nL D cs ad sh A) {K : List xI} (hK : K.all (xOk own cc) = true) (a : Nat) {ix : Nat} {y : MethodName} {cy : ByteArray} {maxLy : Nat} {rety : Option FieldType} {n : Nat} {as rest : List Value} {z : xMem} {pc : Nat} {lv : xLv} {P : xMem → Prop}
    (hM : XMv l dc y cy maxLy rety sh as z P) (hd : dc < d) (hm : maxLy ≤ 20) (hy : xY y cy maxLy rety n) (hyi : Cond.static y ∈ lw_gt) (hlk : xLk own ix y) (hn : as.length = n) {st : List Value} (hst : st = as.reverse ++ rest) (hrest : (rest.map Value.category).sum ≤ 8) (h : (K[a]?).map (fun q => (q.1, q.2.1)) = some (pc, .invokestatic ix))
    (kk : ∀ (z' : xMem), P z' → ww p l e (xRm d) s m args below meth c nL D cs ad sh A Q (pc + 3) lv (rest) z') : ww p l e (xRm d) s m args below meth c nL D cs ad sh A Q pc lv st z :=
  ww_callSI C hK a hM hd hm hy hyi hlk hn hst hrest h (fun r z' hp => by
    obtain ⟨rfl, h9⟩ := hp
    exact kk z' h9)
theorem ww_callSIz {d dc : Nat} (C : xC p (xRm d) s m args meth c own cc nL D cs ad sh A) {K : List xI} (hK : K.all (xOk own cc) = true) (a : Nat) {ix : Nat} {y : MethodName} {cy : ByteArray} {maxLy : Nat} {rety : Option FieldType} {n : Nat} {as rest : List Value} {z : xMem} {pc : Nat} {lv : xLv} {P N0 : xMem → Prop}
    (hM : XMz l dc y cy maxLy rety sh as z P N0) (hd : dc < d) (hm : maxLy ≤ 20) (hy : xY y cy maxLy rety n) (hyi : Cond.static y ∈ lw_gt) (hlk : xLk own ix y) (hn : as.length = n) {st : List Value} (hst : st = as.reverse ++ rest) (hrest : (rest.map Value.category).sum ≤ 8) (h : (K[a]?).map (fun q => (q.1, q.2.1)) = some (pc, .invokestatic ix))
    (k1 : ∀ z' : xMem, P z' → ww p l e (xRm d) s m args below meth c nL D cs ad sh A Q (pc + 3) lv (.int 1 :: rest) z') (k0 : ∀ z' : xMem, N0 z' → ww p l e (xRm d) s m args below meth c nL D cs ad sh A Q (pc + 3) lv (.int 0 :: rest) z') : ww p l e (xRm d) s m args below meth c nL D cs ad sh A Q pc lv st z :=
  ww_callSI C hK a hM hd hm hy hyi hlk hn hst hrest h (fun r z' hp => by
    rcases hp with ⟨rfl, h9⟩ | ⟨rfl, h9⟩
    · exact k1 z' h9
    · exact k0 z' h9)
theorem ww_callSEi {d dc : Nat} (C : xC p (xRm d) s m args meth c own cc nL D cs ad sh A) {K : List xI} (hK : K.all (xOk own cc) = true) (a : Nat) {ix : Nat} {y : MethodName} {cy : ByteArray} {maxLy : Nat} {rety : Option FieldType} {n : Nat} {as rest : List Value} {z : xMem} {pc : Nat} {lv : xLv} {shc : xSh} {es : List Nat} {P : Int32 → xMem → Prop}
    (hM : XMi l dc y cy maxLy rety shc as (xPull es z) P) (hd : dc < d) (hm : maxLy ≤ 20) (hy : xY y cy maxLy rety n) (hyi : Cond.static y ∈ lw_gt) (hlk : xLk own ix y) (hs : xSub sh es shc = true) (hlen : shc.length ≤ 1000) (hraw : xHasRaw shc = true → ∀ (k n : Nat) (l : List Nat), sh[k]? = some (0, n, l) → 2 ∈ l → xIx es k 0 ≠ none) (hn : as.length = n) {st : List Value} (hst : st = (as.map (xR (xEs es))).reverse ++ rest) (hrest : (rest.map Value.category).sum ≤ 8) (h : (K[a]?).map (fun q => (q.1, q.2.1)) = some (pc, .invokestatic ix))
    (kk : ∀ (v : Int32) (z' : xMem), P v z' → ww p l e (xRm d) s m args below meth c nL D cs ad sh A Q (pc + 3) lv (.int v :: rest) (xBack es (xHasRaw shc) z z')) : ww p l e (xRm d) s m args below meth c nL D cs ad sh A Q pc lv st z :=
  ww_callS C hK a hM hd hm hy hyi hlk hs hlen hraw hn hst hrest h (fun r z' hp => by
    obtain ⟨v, rfl, h9⟩ := hp
    exact kk v z' h9)
theorem ww_callSEl {d dc : Nat} (C : xC p (xRm d) s m args meth c own cc nL D cs ad sh A) {K : List xI} (hK : K.all (xOk own cc) = true) (a : Nat) {ix : Nat} {y : MethodName} {cy : ByteArray} {maxLy : Nat} {rety : Option FieldType} {n : Nat} {as rest : List Value} {z : xMem} {pc : Nat} {lv : xLv} {shc : xSh} {es : List Nat} {P : Int64 → xMem → Prop}
    (hM : XMl l dc y cy maxLy rety shc as (xPull es z) P) (hd : dc < d) (hm : maxLy ≤ 20) (hy : xY y cy maxLy rety n) (hyi : Cond.static y ∈ lw_gt) (hlk : xLk own ix y) (hs : xSub sh es shc = true) (hlen : shc.length ≤ 1000) (hraw : xHasRaw shc = true → ∀ (k n : Nat) (l : List Nat), sh[k]? = some (0, n, l) → 2 ∈ l → xIx es k 0 ≠ none) (hn : as.length = n) {st : List Value} (hst : st = (as.map (xR (xEs es))).reverse ++ rest) (hrest : (rest.map Value.category).sum ≤ 8) (h : (K[a]?).map (fun q => (q.1, q.2.1)) = some (pc, .invokestatic ix))
    (kk : ∀ (v : Int64) (z' : xMem), P v z' → ww p l e (xRm d) s m args below meth c nL D cs ad sh A Q (pc + 3) lv (.long v :: rest) (xBack es (xHasRaw shc) z z')) : ww p l e (xRm d) s m args below meth c nL D cs ad sh A Q pc lv st z :=
  ww_callS C hK a hM hd hm hy hyi hlk hs hlen hraw hn hst hrest h (fun r z' hp => by
    obtain ⟨v, rfl, h9⟩ := hp
    exact kk v z' h9)
theorem ww_callSEv {d dc : Nat} (C : xC p (xRm d) s m args meth c own cc nL D cs ad sh A) {K : List xI} (hK : K.all (xOk own cc) = true) (a : Nat) {ix : Nat} {y : MethodName} {cy : ByteArray} {maxLy : Nat} {rety : Option FieldType} {n : Nat} {as rest : List Value} {z : xMem} {pc : Nat} {lv : xLv} {shc : xSh} {es : List Nat} {P : xMem → Prop}
    (hM : XMv l dc y cy maxLy rety shc as (xPull es z) P) (hd : dc < d) (hm : maxLy ≤ 20) (hy : xY y cy maxLy rety n) (hyi : Cond.static y ∈ lw_gt) (hlk : xLk own ix y) (hs : xSub sh es shc = true) (hlen : shc.length ≤ 1000) (hraw : xHasRaw shc = true → ∀ (k n : Nat) (l : List Nat), sh[k]? = some (0, n, l) → 2 ∈ l → xIx es k 0 ≠ none) (hn : as.length = n) {st : List Value} (hst : st = (as.map (xR (xEs es))).reverse ++ rest) (hrest : (rest.map Value.category).sum ≤ 8) (h : (K[a]?).map (fun q => (q.1, q.2.1)) = some (pc, .invokestatic ix))
    (kk : ∀ (z' : xMem), P z' → ww p l e (xRm d) s m args below meth c nL D cs ad sh A Q (pc + 3) lv (rest) (xBack es (xHasRaw shc) z z')) : ww p l e (xRm d) s m args below meth c nL D cs ad sh A Q pc lv st z :=
  ww_callS C hK a hM hd hm hy hyi hlk hs hlen hraw hn hst hrest h (fun r z' hp => by
    obtain ⟨rfl, h9⟩ := hp
    exact kk z' h9)
theorem ww_callSEz {d dc : Nat} (C : xC p (xRm d) s m args meth c own cc nL D cs ad sh A) {K : List xI} (hK : K.all (xOk own cc) = true) (a : Nat) {ix : Nat} {y : MethodName} {cy : ByteArray} {maxLy : Nat} {rety : Option FieldType} {n : Nat} {as rest : List Value} {z : xMem} {pc : Nat} {lv : xLv} {shc : xSh} {es : List Nat} {P N0 : xMem → Prop}
    (hM : XMz l dc y cy maxLy rety shc as (xPull es z) P N0) (hd : dc < d) (hm : maxLy ≤ 20) (hy : xY y cy maxLy rety n) (hyi : Cond.static y ∈ lw_gt) (hlk : xLk own ix y) (hs : xSub sh es shc = true) (hlen : shc.length ≤ 1000) (hraw : xHasRaw shc = true → ∀ (k n : Nat) (l : List Nat), sh[k]? = some (0, n, l) → 2 ∈ l → xIx es k 0 ≠ none) (hn : as.length = n) {st : List Value} (hst : st = (as.map (xR (xEs es))).reverse ++ rest) (hrest : (rest.map Value.category).sum ≤ 8) (h : (K[a]?).map (fun q => (q.1, q.2.1)) = some (pc, .invokestatic ix))
    (k1 : ∀ z' : xMem, P z' → ww p l e (xRm d) s m args below meth c nL D cs ad sh A Q (pc + 3) lv (.int 1 :: rest) (xBack es (xHasRaw shc) z z')) (k0 : ∀ z' : xMem, N0 z' → ww p l e (xRm d) s m args below meth c nL D cs ad sh A Q (pc + 3) lv (.int 0 :: rest) (xBack es (xHasRaw shc) z z')) : ww p l e (xRm d) s m args below meth c nL D cs ad sh A Q pc lv st z :=
  ww_callS C hK a hM hd hm hy hyi hlk hs hlen hraw hn hst hrest h (fun r z' hp => by
    rcases hp with ⟨rfl, h9⟩ | ⟨rfl, h9⟩
    · exact k1 z' h9
    · exact k0 z' h9)
theorem ww_callSNi {d dc : Nat} (C : xC p (xRm d) s m args meth c own cc nL D cs ad sh A) {K : List xI} (hK : K.all (xOk own cc) = true) (a : Nat) {ix : Nat} {y : MethodName} {cy : ByteArray} {maxLy : Nat} {rety : Option FieldType} {n : Nat} {as rest : List Value} {z : xMem} {pc : Nat} {lv : xLv} {P : Int32 → xMem → Prop}
    (hM : XMi l dc y cy maxLy rety [] as (xPull [] z) P) (hd : dc < d) (hm : maxLy ≤ 20) (hy : xY y cy maxLy rety n) (hyi : Cond.static y ∈ lw_gt) (hlk : xLk own ix y) (hn : as.length = n) {st : List Value} (hst : st = (as.map (xR (xEs []))).reverse ++ rest) (hrest : (rest.map Value.category).sum ≤ 8) (h : (K[a]?).map (fun q => (q.1, q.2.1)) = some (pc, .invokestatic ix))
    (kk : ∀ (v : Int32) (z' : xMem), P v z' → ww p l e (xRm d) s m args below meth c nL D cs ad sh A Q (pc + 3) lv (.int v :: rest) z) : ww p l e (xRm d) s m args below meth c nL D cs ad sh A Q pc lv st z :=
  ww_callS C hK a hM hd hm hy hyi hlk (es := []) (by rfl) (Nat.zero_le _) (fun q => by cases q) hn hst hrest h (fun r z' hp => by
    obtain ⟨v, rfl, h9⟩ := hp
    exact kk v z' h9)
theorem ww_callSNl {d dc : Nat} (C : xC p (xRm d) s m args meth c own cc nL D cs ad sh A) {K : List xI} (hK : K.all (xOk own cc) = true) (a : Nat) {ix : Nat} {y : MethodName} {cy : ByteArray} {maxLy : Nat} {rety : Option FieldType} {n : Nat} {as rest : List Value} {z : xMem} {pc : Nat} {lv : xLv} {P : Int64 → xMem → Prop}
    (hM : XMl l dc y cy maxLy rety [] as (xPull [] z) P) (hd : dc < d) (hm : maxLy ≤ 20) (hy : xY y cy maxLy rety n) (hyi : Cond.static y ∈ lw_gt) (hlk : xLk own ix y) (hn : as.length = n) {st : List Value} (hst : st = (as.map (xR (xEs []))).reverse ++ rest) (hrest : (rest.map Value.category).sum ≤ 8) (h : (K[a]?).map (fun q => (q.1, q.2.1)) = some (pc, .invokestatic ix))
    (kk : ∀ (v : Int64) (z' : xMem), P v z' → ww p l e (xRm d) s m args below meth c nL D cs ad sh A Q (pc + 3) lv (.long v :: rest) z) : ww p l e (xRm d) s m args below meth c nL D cs ad sh A Q pc lv st z :=
  ww_callS C hK a hM hd hm hy hyi hlk (es := []) (by rfl) (Nat.zero_le _) (fun q => by cases q) hn hst hrest h (fun r z' hp => by
    obtain ⟨v, rfl, h9⟩ := hp
    exact kk v z' h9)
theorem ww_callSNv {d dc : Nat} (C : xC p (xRm d) s m args meth c own cc nL D cs ad sh A) {K : List xI} (hK : K.all (xOk own cc) = true) (a : Nat) {ix : Nat} {y : MethodName} {cy : ByteArray} {maxLy : Nat} {rety : Option FieldType} {n : Nat} {as rest : List Value} {z : xMem} {pc : Nat} {lv : xLv} {P : xMem → Prop}
    (hM : XMv l dc y cy maxLy rety [] as (xPull [] z) P) (hd : dc < d) (hm : maxLy ≤ 20) (hy : xY y cy maxLy rety n) (hyi : Cond.static y ∈ lw_gt) (hlk : xLk own ix y) (hn : as.length = n) {st : List Value} (hst : st = (as.map (xR (xEs []))).reverse ++ rest) (hrest : (rest.map Value.category).sum ≤ 8) (h : (K[a]?).map (fun q => (q.1, q.2.1)) = some (pc, .invokestatic ix))
    (kk : ∀ (z' : xMem), P z' → ww p l e (xRm d) s m args below meth c nL D cs ad sh A Q (pc + 3) lv (rest) z) : ww p l e (xRm d) s m args below meth c nL D cs ad sh A Q pc lv st z :=
  ww_callS C hK a hM hd hm hy hyi hlk (es := []) (by rfl) (Nat.zero_le _) (fun q => by cases q) hn hst hrest h (fun r z' hp => by
    obtain ⟨rfl, h9⟩ := hp
    exact kk z' h9)
theorem ww_callSNz {d dc : Nat} (C : xC p (xRm d) s m args meth c own cc nL D cs ad sh A) {K : List xI} (hK : K.all (xOk own cc) = true) (a : Nat) {ix : Nat} {y : MethodName} {cy : ByteArray} {maxLy : Nat} {rety : Option FieldType} {n : Nat} {as rest : List Value} {z : xMem} {pc : Nat} {lv : xLv} {P N0 : xMem → Prop}
    (hM : XMz l dc y cy maxLy rety [] as (xPull [] z) P N0) (hd : dc < d) (hm : maxLy ≤ 20) (hy : xY y cy maxLy rety n) (hyi : Cond.static y ∈ lw_gt) (hlk : xLk own ix y) (hn : as.length = n) {st : List Value} (hst : st = (as.map (xR (xEs []))).reverse ++ rest) (hrest : (rest.map Value.category).sum ≤ 8) (h : (K[a]?).map (fun q => (q.1, q.2.1)) = some (pc, .invokestatic ix))
    (k1 : ∀ z' : xMem, P z' → ww p l e (xRm d) s m args below meth c nL D cs ad sh A Q (pc + 3) lv (.int 1 :: rest) z) (k0 : ∀ z' : xMem, N0 z' → ww p l e (xRm d) s m args below meth c nL D cs ad sh A Q (pc + 3) lv (.int 0 :: rest) z) : ww p l e (xRm d) s m args below meth c nL D cs ad sh A Q pc lv st z :=
  ww_callS C hK a hM hd hm hy hyi hlk (es := []) (by rfl) (Nat.zero_le _) (fun q => by cases q) hn hst hrest h (fun r z' hp => by
    rcases hp with ⟨rfl, h9⟩ | ⟨rfl, h9⟩
    · exact k1 z' h9
    · exact k0 z' h9)
end XCB
end
section
section XPK
variable {p : Program} {l : Launch} {e : Env} {R : Room} {s : State} {m : MethodId} {args : Array Value} {below : List Frame} {meth : Method} {c : Code} {own : String} {cc : ByteArray} {nL : Nat} {D : va_G} {cs : Nat → ClassId} {ad : Nat → Nat} {sh : xSh} {A : Nat → Prop} {Q : State → Prop}
theorem xL_pick (ad : Nat → Nat) (lv : xLv) (ks : List Nat) : lv_pick (xL ad lv) ks = xL ad (lv_pick lv ks) := by
  unfold lv_pick xL
  rw [List.map_filterMap]
  congr 1
  funext k
  rw [List.getElem?_map]
theorem ww_pick (ks : List Nat) {pc : Nat} {lv lv' : xLv} {st : List Value} {z : xMem} (h : lv_pick lv ks = lv') (k : ww p l e R s m args below meth c nL D cs ad sh A Q pc lv' st z) : ww p l e R s m args below meth c nL D cs ad sh A Q pc lv st z := by
  intro H locs ls hP hS hl
  exact k H locs ls hP hS (lv_sub hl ks (by rw [xL_pick, h]))
end XPK
theorem xvp_lit {i : Int32} {n : Nat} (h1 : ¬ i < 0) (h2 : i.toNatClampNeg < n) : vp_in i n := fun q => by
  rcases q with q | q
  · exact h1 q
  · omega
theorem xlc {i : Nat} {v v' : Value} {l l' : xLv} (h : v = v') (h2 : l = l') : (i, v) :: l = (i, v') :: l' := by rw [h, h2]
theorem xsc {v v' : Value} {l l' : List Value} (h : v = v') (h2 : l = l') : v :: l = v' :: l' := by rw [h, h2]
section XPK2
variable {p : Program} {l : Launch} {e : Env} {R : Room} {s : State} {m : MethodId} {args : Array Value} {below : List Frame} {meth : Method} {c : Code} {nL : Nat} {D : va_G} {cs : Nat → ClassId} {ad : Nat → Nat} {sh : xSh} {A : Nat → Prop} {Q : State → Prop}
theorem ww_cut (ks : List Nat) {pc : Nat} {lv lv' : xLv} {st st' : List Value} {z z' : xMem} (h : lv_pick lv ks = lv') (h2 : st = st') (h3 : z = z') (k : ww p l e R s m args below meth c nL D cs ad sh A Q pc lv' st' z') : ww p l e R s m args below meth c nL D cs ad sh A Q pc lv st z := by
  subst h2; subst h3
  exact ww_pick ks h k
end XPK2
end
section
theorem xyX0_init : xY yX0_init cX0_init 3 none 1 := ⟨lw_mem (i := 177) (by decide +kernel) rfl, lw_mem (i := 99) (by decide +kernel) rfl, by decide, by decide, by decide +kernel⟩
theorem xyX0_takeFrom : xY yX0_takeFrom cX0_takeFrom 2 none 1 := ⟨lw_mem (i := 602) (by decide +kernel) rfl, lw_mem (i := 99) (by decide +kernel) rfl, by decide, by decide, by decide +kernel⟩
theorem xiX0_takeFrom : Cond.instanceMethod yX0_takeFrom ∈ lw_gt ∧ Cond.selects yX0_takeFrom.cls yX0_takeFrom yX0_takeFrom ∈ lw_gt := ⟨lw_mem (i := 601) (by decide +kernel) rfl, lw_mem (i := 32) (by decide +kernel) rfl⟩
theorem xyX0_valueOf : xY yX0_valueOf cX0_valueOf 3 (some .int) 2 := ⟨lw_mem (i := 351) (by decide +kernel) rfl, lw_mem (i := 99) (by decide +kernel) rfl, by decide, by decide, by decide +kernel⟩
theorem xiX0_valueOf : Cond.instanceMethod yX0_valueOf ∈ lw_gt ∧ Cond.selects yX0_valueOf.cls yX0_valueOf yX0_valueOf ∈ lw_gt := ⟨lw_mem (i := 350) (by decide +kernel) rfl, lw_mem (i := 2) (by decide +kernel) rfl⟩
theorem xyX0_put : xY yX0_put cX0_put 4 none 3 := ⟨lw_mem (i := 391) (by decide +kernel) rfl, lw_mem (i := 99) (by decide +kernel) rfl, by decide, by decide, by decide +kernel⟩
theorem xiX0_put : Cond.instanceMethod yX0_put ∈ lw_gt ∧ Cond.selects yX0_put.cls yX0_put yX0_put ∈ lw_gt := ⟨lw_mem (i := 390) (by decide +kernel) rfl, lw_mem (i := 9) (by decide +kernel) rfl⟩
theorem xyX0_putLeft : xY yX0_putLeft cX0_putLeft 3 none 2 := ⟨lw_mem (i := 395) (by decide +kernel) rfl, lw_mem (i := 99) (by decide +kernel) rfl, by decide, by decide, by decide +kernel⟩
theorem xiX0_putLeft : Cond.instanceMethod yX0_putLeft ∈ lw_gt ∧ Cond.selects yX0_putLeft.cls yX0_putLeft yX0_putLeft ∈ lw_gt := ⟨lw_mem (i := 394) (by decide +kernel) rfl, lw_mem (i := 10) (by decide +kernel) rfl⟩
theorem xyX0_add : xY yX0_add cX0_add 4 (some .int) 2 := ⟨lw_mem (i := 403) (by decide +kernel) rfl, lw_mem (i := 99) (by decide +kernel) rfl, by decide, by decide, by decide +kernel⟩
theorem xiX0_add : Cond.instanceMethod yX0_add ∈ lw_gt ∧ Cond.selects yX0_add.cls yX0_add yX0_add ∈ lw_gt := ⟨lw_mem (i := 402) (by decide +kernel) rfl, lw_mem (i := 11) (by decide +kernel) rfl⟩
theorem xyX0_dares : xY yX0_dares cX0_dares 4 (some .boolean) 2 := ⟨lw_mem (i := 363) (by decide +kernel) rfl, lw_mem (i := 99) (by decide +kernel) rfl, by decide, by decide, by decide +kernel⟩
theorem xiX0_dares : Cond.instanceMethod yX0_dares ∈ lw_gt ∧ Cond.selects yX0_dares.cls yX0_dares yX0_dares ∈ lw_gt := ⟨lw_mem (i := 362) (by decide +kernel) rfl, lw_mem (i := 5) (by decide +kernel) rfl⟩
theorem xyX0_breaksNumber : xY yX0_breaksNumber cX0_breaksNumber 4 (some .boolean) 2 := ⟨lw_mem (i := 383) (by decide +kernel) rfl, lw_mem (i := 99) (by decide +kernel) rfl, by decide, by decide, by decide +kernel⟩
theorem xiX0_breaksNumber : Cond.instanceMethod yX0_breaksNumber ∈ lw_gt ∧ Cond.selects yX0_breaksNumber.cls yX0_breaksNumber yX0_breaksNumber ∈ lw_gt := ⟨lw_mem (i := 382) (by decide +kernel) rfl, lw_mem (i := 7) (by decide +kernel) rfl⟩
theorem xyX0_breaksOnlyLast : xY yX0_breaksOnlyLast cX0_breaksOnlyLast 3 (some .boolean) 1 := ⟨lw_mem (i := 387) (by decide +kernel) rfl, lw_mem (i := 99) (by decide +kernel) rfl, by decide, by decide, by decide +kernel⟩
theorem xiX0_breaksOnlyLast : Cond.instanceMethod yX0_breaksOnlyLast ∈ lw_gt ∧ Cond.selects yX0_breaksOnlyLast.cls yX0_breaksOnlyLast yX0_breaksOnlyLast ∈ lw_gt := ⟨lw_mem (i := 386) (by decide +kernel) rfl, lw_mem (i := 8) (by decide +kernel) rfl⟩
theorem xyX0_costs : xY yX0_costs cX0_costs 5 (some .int) 2 := ⟨lw_mem (i := 416) (by decide +kernel) rfl, lw_mem (i := 99) (by decide +kernel) rfl, by decide, by decide, by decide +kernel⟩
theorem xiX0_costs : Cond.instanceMethod yX0_costs ∈ lw_gt ∧ Cond.selects yX0_costs.cls yX0_costs yX0_costs ∈ lw_gt := ⟨lw_mem (i := 415) (by decide +kernel) rfl, lw_mem (i := 12) (by decide +kernel) rfl⟩
theorem xyX0_sentence : xY yX0_sentence cX0_sentence 4 (some .int) 2 := ⟨lw_mem (i := 427) (by decide +kernel) rfl, lw_mem (i := 99) (by decide +kernel) rfl, by decide, by decide, by decide +kernel⟩
theorem xiX0_sentence : Cond.instanceMethod yX0_sentence ∈ lw_gt ∧ Cond.selects yX0_sentence.cls yX0_sentence yX0_sentence ∈ lw_gt := ⟨lw_mem (i := 426) (by decide +kernel) rfl, lw_mem (i := 13) (by decide +kernel) rfl⟩
theorem xyX0_costsOrNone : xY yX0_costsOrNone cX0_costsOrNone 3 (some .int) 2 := ⟨lw_mem (i := 699) (by decide +kernel) rfl, lw_mem (i := 99) (by decide +kernel) rfl, by decide, by decide, by decide +kernel⟩
theorem xiX0_costsOrNone : Cond.instanceMethod yX0_costsOrNone ∈ lw_gt ∧ Cond.selects yX0_costsOrNone.cls yX0_costsOrNone yX0_costsOrNone ∈ lw_gt := ⟨lw_mem (i := 698) (by decide +kernel) rfl, lw_mem (i := 44) (by decide +kernel) rfl⟩
theorem xyX0_otherwise : xY yX0_otherwise cX0_otherwise 4 (some .int) 2 := ⟨lw_mem (i := 695) (by decide +kernel) rfl, lw_mem (i := 99) (by decide +kernel) rfl, by decide, by decide, by decide +kernel⟩
theorem xiX0_otherwise : Cond.instanceMethod yX0_otherwise ∈ lw_gt ∧ Cond.selects yX0_otherwise.cls yX0_otherwise yX0_otherwise ∈ lw_gt := ⟨lw_mem (i := 694) (by decide +kernel) rfl, lw_mem (i := 43) (by decide +kernel) rfl⟩
theorem xyX0_can : xY yX0_can cX0_can 3 (some .boolean) 2 := ⟨lw_mem (i := 359) (by decide +kernel) rfl, lw_mem (i := 99) (by decide +kernel) rfl, by decide, by decide, by decide +kernel⟩
theorem xiX0_can : Cond.instanceMethod yX0_can ∈ lw_gt ∧ Cond.selects yX0_can.cls yX0_can yX0_can ∈ lw_gt := ⟨lw_mem (i := 358) (by decide +kernel) rfl, lw_mem (i := 4) (by decide +kernel) rfl⟩
theorem xyX0_deedsOf : xY yX0_deedsOf cX0_deedsOf 4 (some .int) 1 := ⟨lw_mem (i := 355) (by decide +kernel) rfl, lw_mem (i := 99) (by decide +kernel) rfl, by decide, by decide, by decide +kernel⟩
theorem xiX0_deedsOf : Cond.instanceMethod yX0_deedsOf ∈ lw_gt ∧ Cond.selects yX0_deedsOf.cls yX0_deedsOf yX0_deedsOf ∈ lw_gt := ⟨lw_mem (i := 354) (by decide +kernel) rfl, lw_mem (i := 3) (by decide +kernel) rfl⟩
theorem xyX0_breakBy : xY yX0_breakBy cX0_breakBy 2 none 1 := ⟨lw_mem (i := 585) (by decide +kernel) rfl, lw_mem (i := 99) (by decide +kernel) rfl, by decide, by decide, by decide +kernel⟩
theorem xiX0_breakBy : Cond.instanceMethod yX0_breakBy ∈ lw_gt ∧ Cond.selects yX0_breakBy.cls yX0_breakBy yX0_breakBy ∈ lw_gt := ⟨lw_mem (i := 584) (by decide +kernel) rfl, lw_mem (i := 30) (by decide +kernel) rfl⟩
theorem xyX0_commit : xY yX0_commit cX0_commit 5 none 2 := ⟨lw_mem (i := 579) (by decide +kernel) rfl, lw_mem (i := 99) (by decide +kernel) rfl, by decide, by decide, by decide +kernel⟩
theorem xiX0_commit : Cond.instanceMethod yX0_commit ∈ lw_gt ∧ Cond.selects yX0_commit.cls yX0_commit yX0_commit ∈ lw_gt := ⟨lw_mem (i := 578) (by decide +kernel) rfl, lw_mem (i := 29) (by decide +kernel) rfl⟩
theorem xyX0_endYear : xY yX0_endYear cX0_endYear 3 (some .int) 0 := ⟨lw_mem (i := 594) (by decide +kernel) rfl, lw_mem (i := 99) (by decide +kernel) rfl, by decide, by decide, by decide +kernel⟩
theorem xiX0_endYear : Cond.instanceMethod yX0_endYear ∈ lw_gt ∧ Cond.selects yX0_endYear.cls yX0_endYear yX0_endYear ∈ lw_gt := ⟨lw_mem (i := 593) (by decide +kernel) rfl, lw_mem (i := 31) (by decide +kernel) rfl⟩
theorem xyX0_passYears : xY yX0_passYears cX0_passYears 6 (some .int) 1 := ⟨lw_mem (i := 609) (by decide +kernel) rfl, lw_mem (i := 99) (by decide +kernel) rfl, by decide, by decide, by decide +kernel⟩
theorem xiX0_passYears : Cond.instanceMethod yX0_passYears ∈ lw_gt ∧ Cond.selects yX0_passYears.cls yX0_passYears yX0_passYears ∈ lw_gt := ⟨lw_mem (i := 608) (by decide +kernel) rfl, lw_mem (i := 33) (by decide +kernel) rfl⟩
theorem xyX0_firstOfUse : xY yX0_firstOfUse cX0_firstOfUse 3 (some .int) 1 := ⟨lw_mem (i := 613) (by decide +kernel) rfl, lw_mem (i := 99) (by decide +kernel) rfl, by decide, by decide, by decide +kernel⟩
theorem xiX0_firstOfUse : Cond.instanceMethod yX0_firstOfUse ∈ lw_gt ∧ Cond.selects yX0_firstOfUse.cls yX0_firstOfUse yX0_firstOfUse ∈ lw_gt := ⟨lw_mem (i := 612) (by decide +kernel) rfl, lw_mem (i := 34) (by decide +kernel) rfl⟩
theorem xyX0_drawYears : xY yX0_drawYears cX0_drawYears 7 none 2 := ⟨lw_mem (i := 746) (by decide +kernel) rfl, lw_mem (i := 99) (by decide +kernel) rfl, by decide, by decide, by decide +kernel⟩
theorem xiX0_drawYears : Cond.instanceMethod yX0_drawYears ∈ lw_gt ∧ Cond.selects yX0_drawYears.cls yX0_drawYears yX0_drawYears ∈ lw_gt := ⟨lw_mem (i := 745) (by decide +kernel) rfl, lw_mem (i := 53) (by decide +kernel) rfl⟩
theorem xyX0_next : xY yX0_next cX0_next 1 (some .int) 1 := ⟨lw_mem (i := 749) (by decide +kernel) rfl, lw_mem (i := 99) (by decide +kernel) rfl, by decide, by decide, by decide +kernel⟩
theorem xiX0_next : Cond.static yX0_next ∈ lw_gt := lw_mem (i := 748) (by decide +kernel) rfl
theorem xyX0_harmOf : xY yX0_harmOf cX0_harmOf 4 (some .int) 1 := ⟨lw_mem (i := 635) (by decide +kernel) rfl, lw_mem (i := 99) (by decide +kernel) rfl, by decide, by decide, by decide +kernel⟩
theorem xiX0_harmOf : Cond.instanceMethod yX0_harmOf ∈ lw_gt ∧ Cond.selects yX0_harmOf.cls yX0_harmOf yX0_harmOf ∈ lw_gt := ⟨lw_mem (i := 634) (by decide +kernel) rfl, lw_mem (i := 37) (by decide +kernel) rfl⟩
theorem xyX0_brokenBy : xY yX0_brokenBy cX0_brokenBy 4 (some .int) 1 := ⟨lw_mem (i := 631) (by decide +kernel) rfl, lw_mem (i := 99) (by decide +kernel) rfl, by decide, by decide, by decide +kernel⟩
theorem xiX0_brokenBy : Cond.instanceMethod yX0_brokenBy ∈ lw_gt ∧ Cond.selects yX0_brokenBy.cls yX0_brokenBy yX0_brokenBy ∈ lw_gt := ⟨lw_mem (i := 630) (by decide +kernel) rfl, lw_mem (i := 36) (by decide +kernel) rfl⟩
theorem xyX0_leastCover : xY yX0_leastCover cX0_leastCover 8 (some .int) 2 := ⟨lw_mem (i := 627) (by decide +kernel) rfl, lw_mem (i := 99) (by decide +kernel) rfl, by decide, by decide, by decide +kernel⟩
theorem xiX0_leastCover : Cond.instanceMethod yX0_leastCover ∈ lw_gt ∧ Cond.selects yX0_leastCover.cls yX0_leastCover yX0_leastCover ∈ lw_gt := ⟨lw_mem (i := 626) (by decide +kernel) rfl, lw_mem (i := 35) (by decide +kernel) rfl⟩
theorem xyX0_leastHarm : xY yX0_leastHarm cX0_leastHarm 4 (some .int) 1 := ⟨lw_mem (i := 672) (by decide +kernel) rfl, lw_mem (i := 99) (by decide +kernel) rfl, by decide, by decide, by decide +kernel⟩
theorem xiX0_leastHarm : Cond.instanceMethod yX0_leastHarm ∈ lw_gt ∧ Cond.selects yX0_leastHarm.cls yX0_leastHarm yX0_leastHarm ∈ lw_gt := ⟨lw_mem (i := 671) (by decide +kernel) rfl, lw_mem (i := 41) (by decide +kernel) rfl⟩
theorem xyX1_init : xY yX1_init cX1_init 1 none 0 := ⟨lw_mem (i := 249) (by decide +kernel) rfl, lw_mem (i := 100) (by decide +kernel) rfl, by decide, by decide, by decide +kernel⟩
theorem xyX1_seek : xY yX1_seek cX1_seek 4 none 1 := ⟨lw_mem (i := 645) (by decide +kernel) rfl, lw_mem (i := 100) (by decide +kernel) rfl, by decide, by decide, by decide +kernel⟩
theorem xiX1_seek : Cond.instanceMethod yX1_seek ∈ lw_gt ∧ Cond.selects yX1_seek.cls yX1_seek yX1_seek ∈ lw_gt := ⟨lw_mem (i := 644) (by decide +kernel) rfl, lw_mem (i := 38) (by decide +kernel) rfl⟩
theorem xyX1_place : xY yX1_place cX1_place 10 none 6 := ⟨lw_mem (i := 650) (by decide +kernel) rfl, lw_mem (i := 100) (by decide +kernel) rfl, by decide, by decide, by decide +kernel⟩
theorem xiX1_place : Cond.static yX1_place ∈ lw_gt := lw_mem (i := 649) (by decide +kernel) rfl
theorem xyX1_weigh : xY yX1_weigh cX1_weigh 4 none 3 := ⟨lw_mem (i := 655) (by decide +kernel) rfl, lw_mem (i := 100) (by decide +kernel) rfl, by decide, by decide, by decide +kernel⟩
theorem xiX1_weigh : Cond.instanceMethod yX1_weigh ∈ lw_gt ∧ Cond.selects yX1_weigh.cls yX1_weigh yX1_weigh ∈ lw_gt := ⟨lw_mem (i := 654) (by decide +kernel) rfl, lw_mem (i := 39) (by decide +kernel) rfl⟩
theorem xyX2_init : xY yX2_init cX2_init 1 none 0 := ⟨lw_mem (i := 281) (by decide +kernel) rfl, lw_mem (i := 101) (by decide +kernel) rfl, by decide, by decide, by decide +kernel⟩
theorem xyX2_become : xY yX2_become cX2_become 4 none 2 := ⟨lw_mem (i := 723) (by decide +kernel) rfl, lw_mem (i := 101) (by decide +kernel) rfl, by decide, by decide, by decide +kernel⟩
theorem xiX2_become : Cond.instanceMethod yX2_become ∈ lw_gt ∧ Cond.selects yX2_become.cls yX2_become yX2_become ∈ lw_gt := ⟨lw_mem (i := 722) (by decide +kernel) rfl, lw_mem (i := 49) (by decide +kernel) rfl⟩
theorem xyX2_has : xY yX2_has cX2_has 3 (some .boolean) 2 := ⟨lw_mem (i := 734) (by decide +kernel) rfl, lw_mem (i := 101) (by decide +kernel) rfl, by decide, by decide, by decide +kernel⟩
theorem xiX2_has : Cond.instanceMethod yX2_has ∈ lw_gt ∧ Cond.selects yX2_has.cls yX2_has yX2_has ∈ lw_gt := ⟨lw_mem (i := 733) (by decide +kernel) rfl, lw_mem (i := 51) (by decide +kernel) rfl⟩
theorem xyX2_put : xY yX2_put cX2_put 3 none 2 := ⟨lw_mem (i := 730) (by decide +kernel) rfl, lw_mem (i := 101) (by decide +kernel) rfl, by decide, by decide, by decide +kernel⟩
theorem xiX2_put : Cond.instanceMethod yX2_put ∈ lw_gt ∧ Cond.selects yX2_put.cls yX2_put yX2_put ∈ lw_gt := ⟨lw_mem (i := 729) (by decide +kernel) rfl, lw_mem (i := 50) (by decide +kernel) rfl⟩
theorem xyX3_init : xY yX3_init cX3_init 1 none 0 := ⟨lw_mem (i := 147) (by decide +kernel) rfl, lw_mem (i := 98) (by decide +kernel) rfl, by decide, by decide, by decide +kernel⟩
theorem xyX3_add : xY yX3_add cX3_add 2 none 1 := ⟨lw_mem (i := 435) (by decide +kernel) rfl, lw_mem (i := 98) (by decide +kernel) rfl, by decide, by decide, by decide +kernel⟩
theorem xiX3_add : Cond.instanceMethod yX3_add ∈ lw_gt ∧ Cond.selects yX3_add.cls yX3_add yX3_add ∈ lw_gt := ⟨lw_mem (i := 434) (by decide +kernel) rfl, lw_mem (i := 14) (by decide +kernel) rfl⟩
theorem xyX3_reads : xY yX3_reads cX3_reads 4 (some .boolean) 2 := ⟨lw_mem (i := 443) (by decide +kernel) rfl, lw_mem (i := 98) (by decide +kernel) rfl, by decide, by decide, by decide +kernel⟩
theorem xiX3_reads : Cond.instanceMethod yX3_reads ∈ lw_gt ∧ Cond.selects yX3_reads.cls yX3_reads yX3_reads ∈ lw_gt := ⟨lw_mem (i := 442) (by decide +kernel) rfl, lw_mem (i := 15) (by decide +kernel) rfl⟩
theorem xyX3_either : xY yX3_either cX3_either 3 (some .boolean) 1 := ⟨lw_mem (i := 533) (by decide +kernel) rfl, lw_mem (i := 98) (by decide +kernel) rfl, by decide, by decide, by decide +kernel⟩
theorem xiX3_either : Cond.instanceMethod yX3_either ∈ lw_gt ∧ Cond.selects yX3_either.cls yX3_either yX3_either ∈ lw_gt := ⟨lw_mem (i := 532) (by decide +kernel) rfl, lw_mem (i := 20) (by decide +kernel) rfl⟩
theorem xyX3_both : xY yX3_both cX3_both 3 (some .boolean) 1 := ⟨lw_mem (i := 537) (by decide +kernel) rfl, lw_mem (i := 98) (by decide +kernel) rfl, by decide, by decide, by decide +kernel⟩
theorem xiX3_both : Cond.instanceMethod yX3_both ∈ lw_gt ∧ Cond.selects yX3_both.cls yX3_both yX3_both ∈ lw_gt := ⟨lw_mem (i := 536) (by decide +kernel) rfl, lw_mem (i := 21) (by decide +kernel) rfl⟩
theorem xyX3_negated : xY yX3_negated cX3_negated 4 (some .boolean) 1 := ⟨lw_mem (i := 541) (by decide +kernel) rfl, lw_mem (i := 98) (by decide +kernel) rfl, by decide, by decide, by decide +kernel⟩
theorem xiX3_negated : Cond.instanceMethod yX3_negated ∈ lw_gt ∧ Cond.selects yX3_negated.cls yX3_negated yX3_negated ∈ lw_gt := ⟨lw_mem (i := 540) (by decide +kernel) rfl, lw_mem (i := 22) (by decide +kernel) rfl⟩
theorem xyX3_compared : xY yX3_compared cX3_compared 3 (some .boolean) 1 := ⟨lw_mem (i := 545) (by decide +kernel) rfl, lw_mem (i := 98) (by decide +kernel) rfl, by decide, by decide, by decide +kernel⟩
theorem xiX3_compared : Cond.instanceMethod yX3_compared ∈ lw_gt ∧ Cond.selects yX3_compared.cls yX3_compared yX3_compared ∈ lw_gt := ⟨lw_mem (i := 544) (by decide +kernel) rfl, lw_mem (i := 23) (by decide +kernel) rfl⟩
theorem xyX3_sum : xY yX3_sum cX3_sum 4 (some .boolean) 1 := ⟨lw_mem (i := 549) (by decide +kernel) rfl, lw_mem (i := 98) (by decide +kernel) rfl, by decide, by decide, by decide +kernel⟩
theorem xiX3_sum : Cond.instanceMethod yX3_sum ∈ lw_gt ∧ Cond.selects yX3_sum.cls yX3_sum yX3_sum ∈ lw_gt := ⟨lw_mem (i := 548) (by decide +kernel) rfl, lw_mem (i := 24) (by decide +kernel) rfl⟩
theorem xyX3_product : xY yX3_product cX3_product 3 (some .boolean) 1 := ⟨lw_mem (i := 553) (by decide +kernel) rfl, lw_mem (i := 98) (by decide +kernel) rfl, by decide, by decide, by decide +kernel⟩
theorem xiX3_product : Cond.instanceMethod yX3_product ∈ lw_gt ∧ Cond.selects yX3_product.cls yX3_product yX3_product ∈ lw_gt := ⟨lw_mem (i := 552) (by decide +kernel) rfl, lw_mem (i := 25) (by decide +kernel) rfl⟩
theorem xyX3_single : xY yX3_single cX3_single 4 (some .boolean) 1 := ⟨lw_mem (i := 557) (by decide +kernel) rfl, lw_mem (i := 98) (by decide +kernel) rfl, by decide, by decide, by decide +kernel⟩
theorem xiX3_single : Cond.instanceMethod yX3_single ∈ lw_gt ∧ Cond.selects yX3_single.cls yX3_single yX3_single ∈ lw_gt := ⟨lw_mem (i := 556) (by decide +kernel) rfl, lw_mem (i := 26) (by decide +kernel) rfl⟩
theorem xyX3_bare : xY yX3_bare cX3_bare 2 (some .boolean) 1 := ⟨lw_mem (i := 561) (by decide +kernel) rfl, lw_mem (i := 98) (by decide +kernel) rfl, by decide, by decide, by decide +kernel⟩
theorem xiX3_bare : Cond.instanceMethod yX3_bare ∈ lw_gt ∧ Cond.selects yX3_bare.cls yX3_bare yX3_bare ∈ lw_gt := ⟨lw_mem (i := 560) (by decide +kernel) rfl, lw_mem (i := 27) (by decide +kernel) rfl⟩
theorem xyX3_write : xY yX3_write cX3_write 2 none 1 := ⟨lw_mem (i := 565) (by decide +kernel) rfl, lw_mem (i := 98) (by decide +kernel) rfl, by decide, by decide, by decide +kernel⟩
theorem xiX3_write : Cond.instanceMethod yX3_write ∈ lw_gt ∧ Cond.selects yX3_write.cls yX3_write yX3_write ∈ lw_gt := ⟨lw_mem (i := 564) (by decide +kernel) rfl, lw_mem (i := 28) (by decide +kernel) rfl⟩
theorem xyX3_step : xY yX3_step cX3_step 1 none 0 := ⟨lw_mem (i := 447) (by decide +kernel) rfl, lw_mem (i := 98) (by decide +kernel) rfl, by decide, by decide, by decide +kernel⟩
theorem xiX3_step : Cond.instanceMethod yX3_step ∈ lw_gt ∧ Cond.selects yX3_step.cls yX3_step yX3_step ∈ lw_gt := ⟨lw_mem (i := 446) (by decide +kernel) rfl, lw_mem (i := 16) (by decide +kernel) rfl⟩
theorem xyX3_isLetter : xY yX3_isLetter cX3_isLetter 1 (some .boolean) 1 := ⟨lw_mem (i := 450) (by decide +kernel) rfl, lw_mem (i := 98) (by decide +kernel) rfl, by decide, by decide, by decide +kernel⟩
theorem xiX3_isLetter : Cond.static yX3_isLetter ∈ lw_gt := lw_mem (i := 449) (by decide +kernel) rfl
theorem xyX3_isDigit : xY yX3_isDigit cX3_isDigit 1 (some .boolean) 1 := ⟨lw_mem (i := 522) (by decide +kernel) rfl, lw_mem (i := 98) (by decide +kernel) rfl, by decide, by decide, by decide +kernel⟩
theorem xiX3_isDigit : Cond.static yX3_isDigit ∈ lw_gt := lw_mem (i := 521) (by decide +kernel) rfl
theorem xyX3_digits : xY yX3_digits cX3_digits 2 (some .int) 0 := ⟨lw_mem (i := 526) (by decide +kernel) rfl, lw_mem (i := 98) (by decide +kernel) rfl, by decide, by decide, by decide +kernel⟩
theorem xiX3_digits : Cond.instanceMethod yX3_digits ∈ lw_gt ∧ Cond.selects yX3_digits.cls yX3_digits yX3_digits ∈ lw_gt := ⟨lw_mem (i := 525) (by decide +kernel) rfl, lw_mem (i := 19) (by decide +kernel) rfl⟩
theorem xyX3_word : xY yX3_word cX3_word 1 (some .int) 0 := ⟨lw_mem (i := 455) (by decide +kernel) rfl, lw_mem (i := 98) (by decide +kernel) rfl, by decide, by decide, by decide +kernel⟩
theorem xiX3_word : Cond.instanceMethod yX3_word ∈ lw_gt ∧ Cond.selects yX3_word.cls yX3_word yX3_word ∈ lw_gt := ⟨lw_mem (i := 454) (by decide +kernel) rfl, lw_mem (i := 17) (by decide +kernel) rfl⟩
theorem xyX3_spells : xY yX3_spells cX3_spells 4 (some .boolean) 1 := ⟨lw_mem (i := 460) (by decide +kernel) rfl, lw_mem (i := 98) (by decide +kernel) rfl, by decide, by decide, by decide +kernel⟩
theorem xiX3_spells : Cond.instanceMethod yX3_spells ∈ lw_gt ∧ Cond.selects yX3_spells.cls yX3_spells yX3_spells ∈ lw_gt := ⟨lw_mem (i := 459) (by decide +kernel) rfl, lw_mem (i := 18) (by decide +kernel) rfl⟩
theorem xyX3_signOf : xY yX3_signOf cX3_signOf 1 (some .int) 1 := ⟨lw_mem (i := 529) (by decide +kernel) rfl, lw_mem (i := 98) (by decide +kernel) rfl, by decide, by decide, by decide +kernel⟩
theorem xiX3_signOf : Cond.static yX3_signOf ∈ lw_gt := lw_mem (i := 528) (by decide +kernel) rfl
theorem xyX4_init : xY yX4_init cX4_init 1 none 0 := ⟨lw_mem (i := 122) (by decide +kernel) rfl, lw_mem (i := 97) (by decide +kernel) rfl, by decide, by decide, by decide +kernel⟩
theorem xyX4_value : xY yX4_value cX4_value 11 (some .int) 4 := ⟨lw_mem (i := 367) (by decide +kernel) rfl, lw_mem (i := 97) (by decide +kernel) rfl, by decide, by decide, by decide +kernel⟩
theorem xiX4_value : Cond.instanceMethod yX4_value ∈ lw_gt ∧ Cond.selects yX4_value.cls yX4_value yX4_value ∈ lw_gt := ⟨lw_mem (i := 366) (by decide +kernel) rfl, lw_mem (i := 6) (by decide +kernel) rfl⟩
theorem xyX4_fact : xY yX4_fact cX4_fact 4 (some .int) 4 := ⟨lw_mem (i := 370) (by decide +kernel) rfl, lw_mem (i := 97) (by decide +kernel) rfl, by decide, by decide, by decide +kernel⟩
theorem xiX4_fact : Cond.static yX4_fact ∈ lw_gt := lw_mem (i := 369) (by decide +kernel) rfl
theorem xyX4_joined : xY yX4_joined cX4_joined 3 (some .int) 3 := ⟨lw_mem (i := 379) (by decide +kernel) rfl, lw_mem (i := 97) (by decide +kernel) rfl, by decide, by decide, by decide +kernel⟩
theorem xiX4_joined : Cond.static yX4_joined ∈ lw_gt := lw_mem (i := 378) (by decide +kernel) rfl
theorem xyX5_init : xY yX5_init cX5_init 1 none 0 := ⟨lw_mem (i := 114) (by decide +kernel) rfl, lw_mem (i := 96) (by decide +kernel) rfl, by decide, by decide, by decide +kernel⟩
theorem xyX5_set : xY yX5_set cX5_set 5 (some .int) 3 := ⟨lw_mem (i := 326) (by decide +kernel) rfl, lw_mem (i := 96) (by decide +kernel) rfl, by decide, by decide, by decide +kernel⟩
theorem xiX5_set : Cond.instanceMethod yX5_set ∈ lw_gt ∧ Cond.selects yX5_set.cls yX5_set yX5_set ∈ lw_gt := ⟨lw_mem (i := 324) (by decide +kernel) rfl, lw_mem (i := 325) (by decide +kernel) rfl⟩
theorem xyX5_person : xY yX5_person cX5_person 3 (some .int) 2 := ⟨lw_mem (i := 399) (by decide +kernel) rfl, lw_mem (i := 96) (by decide +kernel) rfl, by decide, by decide, by decide +kernel⟩
theorem xiX5_person : Cond.instanceMethod yX5_person ∈ lw_gt ∧ Cond.selects yX5_person.cls yX5_person yX5_person ∈ lw_gt := ⟨lw_mem (i := 397) (by decide +kernel) rfl, lw_mem (i := 398) (by decide +kernel) rfl⟩
theorem xyX5_told : xY yX5_told cX5_told 3 (some .int) 2 := ⟨lw_mem (i := 407) (by decide +kernel) rfl, lw_mem (i := 96) (by decide +kernel) rfl, by decide, by decide, by decide +kernel⟩
theorem xiX5_told : Cond.instanceMethod yX5_told ∈ lw_gt ∧ Cond.selects yX5_told.cls yX5_told yX5_told ∈ lw_gt := ⟨lw_mem (i := 405) (by decide +kernel) rfl, lw_mem (i := 406) (by decide +kernel) rfl⟩
theorem xyX5_asks : xY yX5_asks cX5_asks 4 (some .int) 3 := ⟨lw_mem (i := 411) (by decide +kernel) rfl, lw_mem (i := 96) (by decide +kernel) rfl, by decide, by decide, by decide +kernel⟩
theorem xiX5_asks : Cond.instanceMethod yX5_asks ∈ lw_gt ∧ Cond.selects yX5_asks.cls yX5_asks yX5_asks ∈ lw_gt := ⟨lw_mem (i := 409) (by decide +kernel) rfl, lw_mem (i := 410) (by decide +kernel) rfl⟩
theorem xyX5_feed : xY yX5_feed cX5_feed 2 (some .int) 1 := ⟨lw_mem (i := 431) (by decide +kernel) rfl, lw_mem (i := 96) (by decide +kernel) rfl, by decide, by decide, by decide +kernel⟩
theorem xiX5_feed : Cond.instanceMethod yX5_feed ∈ lw_gt ∧ Cond.selects yX5_feed.cls yX5_feed yX5_feed ∈ lw_gt := ⟨lw_mem (i := 429) (by decide +kernel) rfl, lw_mem (i := 430) (by decide +kernel) rfl⟩
theorem xyX5_text : xY yX5_text cX5_text 3 (some .int) 0 := ⟨lw_mem (i := 439) (by decide +kernel) rfl, lw_mem (i := 96) (by decide +kernel) rfl, by decide, by decide, by decide +kernel⟩
theorem xiX5_text : Cond.instanceMethod yX5_text ∈ lw_gt ∧ Cond.selects yX5_text.cls yX5_text yX5_text ∈ lw_gt := ⟨lw_mem (i := 437) (by decide +kernel) rfl, lw_mem (i := 438) (by decide +kernel) rfl⟩
theorem xyX5_force : xY yX5_force cX5_force 3 (some .int) 1 := ⟨lw_mem (i := 570) (by decide +kernel) rfl, lw_mem (i := 96) (by decide +kernel) rfl, by decide, by decide, by decide +kernel⟩
theorem xiX5_force : Cond.instanceMethod yX5_force ∈ lw_gt ∧ Cond.selects yX5_force.cls yX5_force yX5_force ∈ lw_gt := ⟨lw_mem (i := 568) (by decide +kernel) rfl, lw_mem (i := 569) (by decide +kernel) rfl⟩
theorem xyX5_does : xY yX5_does cX5_does 3 (some .int) 2 := ⟨lw_mem (i := 574) (by decide +kernel) rfl, lw_mem (i := 96) (by decide +kernel) rfl, by decide, by decide, by decide +kernel⟩
theorem xiX5_does : Cond.instanceMethod yX5_does ∈ lw_gt ∧ Cond.selects yX5_does.cls yX5_does yX5_does ∈ lw_gt := ⟨lw_mem (i := 572) (by decide +kernel) rfl, lw_mem (i := 573) (by decide +kernel) rfl⟩
theorem xyX5_year : xY yX5_year cX5_year 1 (some .int) 0 := ⟨lw_mem (i := 590) (by decide +kernel) rfl, lw_mem (i := 96) (by decide +kernel) rfl, by decide, by decide, by decide +kernel⟩
theorem xiX5_year : Cond.instanceMethod yX5_year ∈ lw_gt ∧ Cond.selects yX5_year.cls yX5_year yX5_year ∈ lw_gt := ⟨lw_mem (i := 588) (by decide +kernel) rfl, lw_mem (i := 589) (by decide +kernel) rfl⟩
theorem xyX5_run : xY yX5_run cX5_run 4 (some .int) 2 := ⟨lw_mem (i := 598) (by decide +kernel) rfl, lw_mem (i := 96) (by decide +kernel) rfl, by decide, by decide, by decide +kernel⟩
theorem xiX5_run : Cond.instanceMethod yX5_run ∈ lw_gt ∧ Cond.selects yX5_run.cls yX5_run yX5_run ∈ lw_gt := ⟨lw_mem (i := 596) (by decide +kernel) rfl, lw_mem (i := 597) (by decide +kernel) rfl⟩
theorem xyX5_lasts : xY yX5_lasts cX5_lasts 3 (some .int) 1 := ⟨lw_mem (i := 619) (by decide +kernel) rfl, lw_mem (i := 96) (by decide +kernel) rfl, by decide, by decide, by decide +kernel⟩
theorem xiX5_lasts : Cond.instanceMethod yX5_lasts ∈ lw_gt ∧ Cond.selects yX5_lasts.cls yX5_lasts yX5_lasts ∈ lw_gt := ⟨lw_mem (i := 617) (by decide +kernel) rfl, lw_mem (i := 618) (by decide +kernel) rfl⟩
theorem xyX5_cover : xY yX5_cover cX5_cover 4 (some .int) 2 := ⟨lw_mem (i := 623) (by decide +kernel) rfl, lw_mem (i := 96) (by decide +kernel) rfl, by decide, by decide, by decide +kernel⟩
theorem xiX5_cover : Cond.instanceMethod yX5_cover ∈ lw_gt ∧ Cond.selects yX5_cover.cls yX5_cover yX5_cover ∈ lw_gt := ⟨lw_mem (i := 621) (by decide +kernel) rfl, lw_mem (i := 622) (by decide +kernel) rfl⟩
theorem xyX5_rota : xY yX5_rota cX5_rota 2 (some .int) 1 := ⟨lw_mem (i := 641) (by decide +kernel) rfl, lw_mem (i := 96) (by decide +kernel) rfl, by decide, by decide, by decide +kernel⟩
theorem xiX5_rota : Cond.instanceMethod yX5_rota ∈ lw_gt ∧ Cond.selects yX5_rota.cls yX5_rota yX5_rota ∈ lw_gt := ⟨lw_mem (i := 639) (by decide +kernel) rfl, lw_mem (i := 640) (by decide +kernel) rfl⟩
theorem xyX5_saves : xY yX5_saves cX5_saves 7 (some .int) 2 := ⟨lw_mem (i := 659) (by decide +kernel) rfl, lw_mem (i := 96) (by decide +kernel) rfl, by decide, by decide, by decide +kernel⟩
theorem xiX5_saves : Cond.instanceMethod yX5_saves ∈ lw_gt ∧ Cond.selects yX5_saves.cls yX5_saves yX5_saves ∈ lw_gt := ⟨lw_mem (i := 657) (by decide +kernel) rfl, lw_mem (i := 658) (by decide +kernel) rfl⟩
theorem xyX5_letGo : xY yX5_letGo cX5_letGo 6 (some .int) 1 := ⟨lw_mem (i := 668) (by decide +kernel) rfl, lw_mem (i := 96) (by decide +kernel) rfl, by decide, by decide, by decide +kernel⟩
theorem xiX5_letGo : Cond.instanceMethod yX5_letGo ∈ lw_gt ∧ Cond.selects yX5_letGo.cls yX5_letGo yX5_letGo ∈ lw_gt := ⟨lw_mem (i := 666) (by decide +kernel) rfl, lw_mem (i := 667) (by decide +kernel) rfl⟩
theorem xyX5_share : xY yX5_share cX5_share 2 (some .long) 1 := ⟨lw_mem (i := 676) (by decide +kernel) rfl, lw_mem (i := 96) (by decide +kernel) rfl, by decide, by decide, by decide +kernel⟩
theorem xiX5_share : Cond.instanceMethod yX5_share ∈ lw_gt ∧ Cond.selects yX5_share.cls yX5_share yX5_share ∈ lw_gt := ⟨lw_mem (i := 674) (by decide +kernel) rfl, lw_mem (i := 675) (by decide +kernel) rfl⟩
theorem xyX5_tells : xY yX5_tells cX5_tells 5 (some .int) 3 := ⟨lw_mem (i := 687) (by decide +kernel) rfl, lw_mem (i := 96) (by decide +kernel) rfl, by decide, by decide, by decide +kernel⟩
theorem xiX5_tells : Cond.instanceMethod yX5_tells ∈ lw_gt ∧ Cond.selects yX5_tells.cls yX5_tells yX5_tells ∈ lw_gt := ⟨lw_mem (i := 685) (by decide +kernel) rfl, lw_mem (i := 686) (by decide +kernel) rfl⟩
theorem xyX5_film : xY yX5_film cX5_film 7 (some .int) 2 := ⟨lw_mem (i := 719) (by decide +kernel) rfl, lw_mem (i := 96) (by decide +kernel) rfl, by decide, by decide, by decide +kernel⟩
theorem xiX5_film : Cond.instanceMethod yX5_film ∈ lw_gt ∧ Cond.selects yX5_film.cls yX5_film yX5_film ∈ lw_gt := ⟨lw_mem (i := 717) (by decide +kernel) rfl, lw_mem (i := 718) (by decide +kernel) rfl⟩
theorem xyX5_drawn : xY yX5_drawn cX5_drawn 3 (some .int) 2 := ⟨lw_mem (i := 738) (by decide +kernel) rfl, lw_mem (i := 96) (by decide +kernel) rfl, by decide, by decide, by decide +kernel⟩
theorem xiX5_drawn : Cond.instanceMethod yX5_drawn ∈ lw_gt ∧ Cond.selects yX5_drawn.cls yX5_drawn yX5_drawn ∈ lw_gt := ⟨lw_mem (i := 736) (by decide +kernel) rfl, lw_mem (i := 737) (by decide +kernel) rfl⟩
theorem xyX5_chance : xY yX5_chance cX5_chance 7 (some .long) 4 := ⟨lw_mem (i := 754) (by decide +kernel) rfl, lw_mem (i := 96) (by decide +kernel) rfl, by decide, by decide, by decide +kernel⟩
theorem xiX5_chance : Cond.instanceMethod yX5_chance ∈ lw_gt ∧ Cond.selects yX5_chance.cls yX5_chance yX5_chance ∈ lw_gt := ⟨lw_mem (i := 752) (by decide +kernel) rfl, lw_mem (i := 753) (by decide +kernel) rfl⟩
theorem xyX5_image : xY yX5_image cX5_image 1 (some .int) 0 := ⟨lw_mem (i := 758) (by decide +kernel) rfl, lw_mem (i := 96) (by decide +kernel) rfl, by decide, by decide, by decide +kernel⟩
theorem xiX5_image : Cond.instanceMethod yX5_image ∈ lw_gt ∧ Cond.selects yX5_image.cls yX5_image yX5_image ∈ lw_gt := ⟨lw_mem (i := 756) (by decide +kernel) rfl, lw_mem (i := 757) (by decide +kernel) rfl⟩
theorem xyX5_back : xY yX5_back cX5_back 1 (some .int) 0 := ⟨lw_mem (i := 762) (by decide +kernel) rfl, lw_mem (i := 96) (by decide +kernel) rfl, by decide, by decide, by decide +kernel⟩
theorem xiX5_back : Cond.instanceMethod yX5_back ∈ lw_gt ∧ Cond.selects yX5_back.cls yX5_back yX5_back ∈ lw_gt := ⟨lw_mem (i := 760) (by decide +kernel) rfl, lw_mem (i := 761) (by decide +kernel) rfl⟩
theorem xyX5_count : xY yX5_count cX5_count 2 (some .int) 1 := ⟨lw_mem (i := 766) (by decide +kernel) rfl, lw_mem (i := 96) (by decide +kernel) rfl, by decide, by decide, by decide +kernel⟩
theorem xiX5_count : Cond.instanceMethod yX5_count ∈ lw_gt ∧ Cond.selects yX5_count.cls yX5_count yX5_count ∈ lw_gt := ⟨lw_mem (i := 764) (by decide +kernel) rfl, lw_mem (i := 765) (by decide +kernel) rfl⟩
theorem xyX5_sheet : xY yX5_sheet cX5_sheet 5 (some .int) 3 := ⟨lw_mem (i := 770) (by decide +kernel) rfl, lw_mem (i := 96) (by decide +kernel) rfl, by decide, by decide, by decide +kernel⟩
theorem xiX5_sheet : Cond.instanceMethod yX5_sheet ∈ lw_gt ∧ Cond.selects yX5_sheet.cls yX5_sheet yX5_sheet ∈ lw_gt := ⟨lw_mem (i := 768) (by decide +kernel) rfl, lw_mem (i := 769) (by decide +kernel) rfl⟩
theorem xyX5_cell : xY yX5_cell cX5_cell 5 (some .int) 3 := ⟨lw_mem (i := 774) (by decide +kernel) rfl, lw_mem (i := 96) (by decide +kernel) rfl, by decide, by decide, by decide +kernel⟩
theorem xiX5_cell : Cond.instanceMethod yX5_cell ∈ lw_gt ∧ Cond.selects yX5_cell.cls yX5_cell yX5_cell ∈ lw_gt := ⟨lw_mem (i := 772) (by decide +kernel) rfl, lw_mem (i := 773) (by decide +kernel) rfl⟩
theorem xyX5_copy : xY yX5_copy cX5_copy 8 (some .int) 5 := ⟨lw_mem (i := 779) (by decide +kernel) rfl, lw_mem (i := 96) (by decide +kernel) rfl, by decide, by decide, by decide +kernel⟩
theorem xiX5_copy : Cond.instanceMethod yX5_copy ∈ lw_gt ∧ Cond.selects yX5_copy.cls yX5_copy yX5_copy ∈ lw_gt := ⟨lw_mem (i := 777) (by decide +kernel) rfl, lw_mem (i := 778) (by decide +kernel) rfl⟩
theorem xyX5_republic : xY yX5_republic cX5_republic 9 (some .int) 4 := ⟨lw_mem (i := 784) (by decide +kernel) rfl, lw_mem (i := 96) (by decide +kernel) rfl, by decide, by decide, by decide +kernel⟩
theorem xiX5_republic : Cond.instanceMethod yX5_republic ∈ lw_gt ∧ Cond.selects yX5_republic.cls yX5_republic yX5_republic ∈ lw_gt := ⟨lw_mem (i := 782) (by decide +kernel) rfl, lw_mem (i := 783) (by decide +kernel) rfl⟩
theorem xyX5_taken : xY yX5_taken cX5_taken 5 (some .int) 2 := ⟨lw_mem (i := 789) (by decide +kernel) rfl, lw_mem (i := 96) (by decide +kernel) rfl, by decide, by decide, by decide +kernel⟩
theorem xiX5_taken : Cond.instanceMethod yX5_taken ∈ lw_gt ∧ Cond.selects yX5_taken.cls yX5_taken yX5_taken ∈ lw_gt := ⟨lw_mem (i := 787) (by decide +kernel) rfl, lw_mem (i := 788) (by decide +kernel) rfl⟩
theorem xyX5_within : xY yX5_within cX5_within 3 (some .boolean) 3 := ⟨lw_mem (i := 329) (by decide +kernel) rfl, lw_mem (i := 96) (by decide +kernel) rfl, by decide, by decide, by decide +kernel⟩
theorem xiX5_within : Cond.static yX5_within ∈ lw_gt := lw_mem (i := 328) (by decide +kernel) rfl
theorem xyX5_isLaw : xY yX5_isLaw cX5_isLaw 1 (some .boolean) 1 := ⟨lw_mem (i := 336) (by decide +kernel) rfl, lw_mem (i := 96) (by decide +kernel) rfl, by decide, by decide, by decide +kernel⟩
theorem xiX5_isLaw : Cond.static yX5_isLaw ∈ lw_gt := lw_mem (i := 335) (by decide +kernel) rfl
theorem xyX5_isDeed : xY yX5_isDeed cX5_isDeed 1 (some .boolean) 1 := ⟨lw_mem (i := 339) (by decide +kernel) rfl, lw_mem (i := 96) (by decide +kernel) rfl, by decide, by decide, by decide +kernel⟩
theorem xiX5_isDeed : Cond.static yX5_isDeed ∈ lw_gt := lw_mem (i := 338) (by decide +kernel) rfl
theorem xyX5_isOne : xY yX5_isOne cX5_isOne 2 (some .boolean) 1 := ⟨lw_mem (i := 343) (by decide +kernel) rfl, lw_mem (i := 96) (by decide +kernel) rfl, by decide, by decide, by decide +kernel⟩
theorem xiX5_isOne : Cond.instanceMethod yX5_isOne ∈ lw_gt ∧ Cond.selects yX5_isOne.cls yX5_isOne yX5_isOne ∈ lw_gt := ⟨lw_mem (i := 342) (by decide +kernel) rfl, lw_mem (i := 1) (by decide +kernel) rfl⟩
theorem xyX5_sheetAt : xY yX5_sheetAt cX5_sheetAt 2 (some (.object "LawsLapse$Sheet")) 1 := ⟨lw_mem (i := 691) (by decide +kernel) rfl, lw_mem (i := 96) (by decide +kernel) rfl, by decide, by decide, by decide +kernel⟩
theorem xiX5_sheetAt : Cond.instanceMethod yX5_sheetAt ∈ lw_gt ∧ Cond.selects yX5_sheetAt.cls yX5_sheetAt yX5_sheetAt ∈ lw_gt := ⟨lw_mem (i := 690) (by decide +kernel) rfl, lw_mem (i := 42) (by decide +kernel) rfl⟩
theorem xyX5_stands : xY yX5_stands cX5_stands 3 (some .boolean) 2 := ⟨lw_mem (i := 333) (by decide +kernel) rfl, lw_mem (i := 96) (by decide +kernel) rfl, by decide, by decide, by decide +kernel⟩
theorem xiX5_stands : Cond.instanceMethod yX5_stands ∈ lw_gt ∧ Cond.selects yX5_stands.cls yX5_stands yX5_stands ∈ lw_gt := ⟨lw_mem (i := 332) (by decide +kernel) rfl, lw_mem (i := 0) (by decide +kernel) rfl⟩
theorem xyX5_aliveBehind : xY yX5_aliveBehind cX5_aliveBehind 3 (some .int) 2 := ⟨lw_mem (i := 663) (by decide +kernel) rfl, lw_mem (i := 96) (by decide +kernel) rfl, by decide, by decide, by decide +kernel⟩
theorem xiX5_aliveBehind : Cond.instanceMethod yX5_aliveBehind ∈ lw_gt ∧ Cond.selects yX5_aliveBehind.cls yX5_aliveBehind yX5_aliveBehind ∈ lw_gt := ⟨lw_mem (i := 662) (by decide +kernel) rfl, lw_mem (i := 40) (by decide +kernel) rfl⟩
theorem xyX5_aliveByDraw : xY yX5_aliveByDraw cX5_aliveByDraw 3 (some .int) 2 := ⟨lw_mem (i := 742) (by decide +kernel) rfl, lw_mem (i := 96) (by decide +kernel) rfl, by decide, by decide, by decide +kernel⟩
theorem xiX5_aliveByDraw : Cond.instanceMethod yX5_aliveByDraw ∈ lw_gt ∧ Cond.selects yX5_aliveByDraw.cls yX5_aliveByDraw yX5_aliveByDraw ∈ lw_gt := ⟨lw_mem (i := 741) (by decide +kernel) rfl, lw_mem (i := 52) (by decide +kernel) rfl⟩
theorem xyX5_fittingBits : xY yX5_fittingBits cX5_fittingBits 7 (some .int) 4 := ⟨lw_mem (i := 703) (by decide +kernel) rfl, lw_mem (i := 96) (by decide +kernel) rfl, by decide, by decide, by decide +kernel⟩
theorem xiX5_fittingBits : Cond.instanceMethod yX5_fittingBits ∈ lw_gt ∧ Cond.selects yX5_fittingBits.cls yX5_fittingBits yX5_fittingBits ∈ lw_gt := ⟨lw_mem (i := 702) (by decide +kernel) rfl, lw_mem (i := 45) (by decide +kernel) rfl⟩
theorem xyX5_howManyFit : xY yX5_howManyFit cX5_howManyFit 6 (some .int) 3 := ⟨lw_mem (i := 707) (by decide +kernel) rfl, lw_mem (i := 96) (by decide +kernel) rfl, by decide, by decide, by decide +kernel⟩
theorem xiX5_howManyFit : Cond.instanceMethod yX5_howManyFit ∈ lw_gt ∧ Cond.selects yX5_howManyFit.cls yX5_howManyFit yX5_howManyFit ∈ lw_gt := ⟨lw_mem (i := 706) (by decide +kernel) rfl, lw_mem (i := 46) (by decide +kernel) rfl⟩
theorem xyX5_leastFitting : xY yX5_leastFitting cX5_leastFitting 5 (some .int) 3 := ⟨lw_mem (i := 711) (by decide +kernel) rfl, lw_mem (i := 96) (by decide +kernel) rfl, by decide, by decide, by decide +kernel⟩
theorem xiX5_leastFitting : Cond.instanceMethod yX5_leastFitting ∈ lw_gt ∧ Cond.selects yX5_leastFitting.cls yX5_leastFitting yX5_leastFitting ∈ lw_gt := ⟨lw_mem (i := 710) (by decide +kernel) rfl, lw_mem (i := 47) (by decide +kernel) rfl⟩
theorem xyX5_fittingPeople : xY yX5_fittingPeople cX5_fittingPeople 4 (some .int) 1 := ⟨lw_mem (i := 715) (by decide +kernel) rfl, lw_mem (i := 96) (by decide +kernel) rfl, by decide, by decide, by decide +kernel⟩
theorem xiX5_fittingPeople : Cond.instanceMethod yX5_fittingPeople ∈ lw_gt ∧ Cond.selects yX5_fittingPeople.cls yX5_fittingPeople yX5_fittingPeople ∈ lw_gt := ⟨lw_mem (i := 714) (by decide +kernel) rfl, lw_mem (i := 48) (by decide +kernel) rfl⟩
theorem xyX5_fraction : xY yX5_fraction cX5_fraction 4 (some .long) 3 := ⟨lw_mem (i := 679) (by decide +kernel) rfl, lw_mem (i := 96) (by decide +kernel) rfl, by decide, by decide, by decide +kernel⟩
theorem xiX5_fraction : Cond.static yX5_fraction ∈ lw_gt := lw_mem (i := 678) (by decide +kernel) rfl
theorem xyX5_commonDivisor : xY yX5_commonDivisor cX5_commonDivisor 4 (some .int) 2 := ⟨lw_mem (i := 683) (by decide +kernel) rfl, lw_mem (i := 96) (by decide +kernel) rfl, by decide, by decide, by decide +kernel⟩
theorem xiX5_commonDivisor : Cond.static yX5_commonDivisor ∈ lw_gt := lw_mem (i := 682) (by decide +kernel) rfl
theorem xyX6_in : xY yX6_in cX6_in 6 (some .boolean) 3 := ⟨lw_mem (i := 960) (by decide +kernel) rfl, lw_mem (i := 102) (by decide +kernel) rfl, by decide, by decide, by decide +kernel⟩
theorem xiX6_in : Cond.static yX6_in ∈ lw_gt := lw_mem (i := 959) (by decide +kernel) rfl
theorem xyX6_within : xY yX6_within cX6_within 3 (some .int) 3 := ⟨lw_mem (i := 1080) (by decide +kernel) rfl, lw_mem (i := 102) (by decide +kernel) rfl, by decide, by decide, by decide +kernel⟩
theorem xiX6_within : Cond.static yX6_within ∈ lw_gt := lw_mem (i := 1079) (by decide +kernel) rfl
theorem xyX6_init : xY yX6_init cX6_init 2 none 0 := ⟨lw_mem (i := 796) (by decide +kernel) rfl, lw_mem (i := 102) (by decide +kernel) rfl, by decide, by decide, by decide +kernel⟩
theorem xyX6_spell : xY yX6_spell cX6_spell 10 none 9 := ⟨lw_mem (i := 801) (by decide +kernel) rfl, lw_mem (i := 102) (by decide +kernel) rfl, by decide, by decide, by decide +kernel⟩
theorem xiX6_spell : Cond.instanceMethod yX6_spell ∈ lw_gt ∧ Cond.selects yX6_spell.cls yX6_spell yX6_spell ∈ lw_gt := ⟨lw_mem (i := 800) (by decide +kernel) rfl, lw_mem (i := 54) (by decide +kernel) rfl⟩
theorem xyX6_bitsOf : xY yX6_bitsOf cX6_bitsOf 3 (some .int) 1 := ⟨lw_mem (i := 1002) (by decide +kernel) rfl, lw_mem (i := 102) (by decide +kernel) rfl, by decide, by decide, by decide +kernel⟩
theorem xiX6_bitsOf : Cond.static yX6_bitsOf ∈ lw_gt := lw_mem (i := 1001) (by decide +kernel) rfl
theorem xyX6_isOne : xY yX6_isOne cX6_isOne 2 (some .boolean) 1 := ⟨lw_mem (i := 975) (by decide +kernel) rfl, lw_mem (i := 102) (by decide +kernel) rfl, by decide, by decide, by decide +kernel⟩
theorem xiX6_isOne : Cond.instanceMethod yX6_isOne ∈ lw_gt ∧ Cond.selects yX6_isOne.cls yX6_isOne yX6_isOne ∈ lw_gt := ⟨lw_mem (i := 974) (by decide +kernel) rfl, lw_mem (i := 56) (by decide +kernel) rfl⟩
theorem xyX6_isDeed : xY yX6_isDeed cX6_isDeed 1 (some .boolean) 1 := ⟨lw_mem (i := 970) (by decide +kernel) rfl, lw_mem (i := 102) (by decide +kernel) rfl, by decide, by decide, by decide +kernel⟩
theorem xiX6_isDeed : Cond.static yX6_isDeed ∈ lw_gt := lw_mem (i := 969) (by decide +kernel) rfl
theorem xyX6_isLaw : xY yX6_isLaw cX6_isLaw 1 (some .boolean) 1 := ⟨lw_mem (i := 967) (by decide +kernel) rfl, lw_mem (i := 102) (by decide +kernel) rfl, by decide, by decide, by decide +kernel⟩
theorem xiX6_isLaw : Cond.static yX6_isLaw ∈ lw_gt := lw_mem (i := 966) (by decide +kernel) rfl
theorem xyX6_isOf : xY yX6_isOf cX6_isOf 3 (some .boolean) 2 := ⟨lw_mem (i := 964) (by decide +kernel) rfl, lw_mem (i := 102) (by decide +kernel) rfl, by decide, by decide, by decide +kernel⟩
theorem xiX6_isOf : Cond.instanceMethod yX6_isOf ∈ lw_gt ∧ Cond.selects yX6_isOf.cls yX6_isOf yX6_isOf ∈ lw_gt := ⟨lw_mem (i := 963) (by decide +kernel) rfl, lw_mem (i := 55) (by decide +kernel) rfl⟩
theorem xyX6_mostOf : xY yX6_mostOf cX6_mostOf 1 (some .int) 1 := ⟨lw_mem (i := 978) (by decide +kernel) rfl, lw_mem (i := 102) (by decide +kernel) rfl, by decide, by decide, by decide +kernel⟩
theorem xiX6_mostOf : Cond.static yX6_mostOf ∈ lw_gt := lw_mem (i := 977) (by decide +kernel) rfl
theorem xyX6_set : xY yX6_set cX6_set 5 (some .int) 3 := ⟨lw_mem (i := 956) (by decide +kernel) rfl, lw_mem (i := 102) (by decide +kernel) rfl, by decide, by decide, by decide +kernel⟩
theorem xiX6_set : Cond.instanceMethod yX6_set ∈ lw_gt ∧ Cond.selects yX6_set.cls yX6_set yX6_set ∈ lw_gt := ⟨lw_mem (i := 954) (by decide +kernel) rfl, lw_mem (i := 955) (by decide +kernel) rfl⟩
theorem xyX6_lays : xY yX6_lays cX6_lays 4 none 3 := ⟨lw_mem (i := 1088) (by decide +kernel) rfl, lw_mem (i := 102) (by decide +kernel) rfl, by decide, by decide, by decide +kernel⟩
theorem xiX6_lays : Cond.instanceMethod yX6_lays ∈ lw_gt ∧ Cond.selects yX6_lays.cls yX6_lays yX6_lays ∈ lw_gt := ⟨lw_mem (i := 1087) (by decide +kernel) rfl, lw_mem (i := 79) (by decide +kernel) rfl⟩
theorem xyX6_person : xY yX6_person cX6_person 3 (some .int) 2 := ⟨lw_mem (i := 1092) (by decide +kernel) rfl, lw_mem (i := 102) (by decide +kernel) rfl, by decide, by decide, by decide +kernel⟩
theorem xiX6_person : Cond.instanceMethod yX6_person ∈ lw_gt ∧ Cond.selects yX6_person.cls yX6_person yX6_person ∈ lw_gt := ⟨lw_mem (i := 1090) (by decide +kernel) rfl, lw_mem (i := 1091) (by decide +kernel) rfl⟩
theorem xyX6_told : xY yX6_told cX6_told 3 (some .int) 2 := ⟨lw_mem (i := 982) (by decide +kernel) rfl, lw_mem (i := 102) (by decide +kernel) rfl, by decide, by decide, by decide +kernel⟩
theorem xiX6_told : Cond.instanceMethod yX6_told ∈ lw_gt ∧ Cond.selects yX6_told.cls yX6_told yX6_told ∈ lw_gt := ⟨lw_mem (i := 980) (by decide +kernel) rfl, lw_mem (i := 981) (by decide +kernel) rfl⟩
theorem xyX6_alive : xY yX6_alive cX6_alive 3 (some .int) 0 := ⟨lw_mem (i := 1006) (by decide +kernel) rfl, lw_mem (i := 102) (by decide +kernel) rfl, by decide, by decide, by decide +kernel⟩
theorem xiX6_alive : Cond.instanceMethod yX6_alive ∈ lw_gt ∧ Cond.selects yX6_alive.cls yX6_alive yX6_alive ∈ lw_gt := ⟨lw_mem (i := 1005) (by decide +kernel) rfl, lw_mem (i := 61) (by decide +kernel) rfl⟩
theorem xyX6_feed : xY yX6_feed cX6_feed 2 (some .int) 1 := ⟨lw_mem (i := 1098) (by decide +kernel) rfl, lw_mem (i := 102) (by decide +kernel) rfl, by decide, by decide, by decide +kernel⟩
theorem xiX6_feed : Cond.instanceMethod yX6_feed ∈ lw_gt ∧ Cond.selects yX6_feed.cls yX6_feed yX6_feed ∈ lw_gt := ⟨lw_mem (i := 1096) (by decide +kernel) rfl, lw_mem (i := 1097) (by decide +kernel) rfl⟩
theorem xyX6_byteAt : xY yX6_byteAt cX6_byteAt 2 (some .int) 1 := ⟨lw_mem (i := 1018) (by decide +kernel) rfl, lw_mem (i := 102) (by decide +kernel) rfl, by decide, by decide, by decide +kernel⟩
theorem xiX6_byteAt : Cond.instanceMethod yX6_byteAt ∈ lw_gt ∧ Cond.selects yX6_byteAt.cls yX6_byteAt yX6_byteAt ∈ lw_gt := ⟨lw_mem (i := 1017) (by decide +kernel) rfl, lw_mem (i := 64) (by decide +kernel) rfl⟩
theorem xyX6_next : xY yX6_next cX6_next 3 none 0 := ⟨lw_mem (i := 1014) (by decide +kernel) rfl, lw_mem (i := 102) (by decide +kernel) rfl, by decide, by decide, by decide +kernel⟩
theorem xiX6_next : Cond.instanceMethod yX6_next ∈ lw_gt ∧ Cond.selects yX6_next.cls yX6_next yX6_next ∈ lw_gt := ⟨lw_mem (i := 1013) (by decide +kernel) rfl, lw_mem (i := 63) (by decide +kernel) rfl⟩
theorem xyX6_fail : xY yX6_fail cX6_fail 1 none 0 := ⟨lw_mem (i := 1039) (by decide +kernel) rfl, lw_mem (i := 102) (by decide +kernel) rfl, by decide, by decide, by decide +kernel⟩
theorem xiX6_fail : Cond.instanceMethod yX6_fail ∈ lw_gt ∧ Cond.selects yX6_fail.cls yX6_fail yX6_fail ∈ lw_gt := ⟨lw_mem (i := 1038) (by decide +kernel) rfl, lw_mem (i := 68) (by decide +kernel) rfl⟩
theorem xyX6_isLetter : xY yX6_isLetter cX6_isLetter 3 (some .boolean) 2 := ⟨lw_mem (i := 1031) (by decide +kernel) rfl, lw_mem (i := 102) (by decide +kernel) rfl, by decide, by decide, by decide +kernel⟩
theorem xiX6_isLetter : Cond.instanceMethod yX6_isLetter ∈ lw_gt ∧ Cond.selects yX6_isLetter.cls yX6_isLetter yX6_isLetter ∈ lw_gt := ⟨lw_mem (i := 1030) (by decide +kernel) rfl, lw_mem (i := 66) (by decide +kernel) rfl⟩
theorem xyX6_isWord : xY yX6_isWord cX6_isWord 9 (some .boolean) 8 := ⟨lw_mem (i := 1027) (by decide +kernel) rfl, lw_mem (i := 102) (by decide +kernel) rfl, by decide, by decide, by decide +kernel⟩
theorem xiX6_isWord : Cond.instanceMethod yX6_isWord ∈ lw_gt ∧ Cond.selects yX6_isWord.cls yX6_isWord yX6_isWord ∈ lw_gt := ⟨lw_mem (i := 1026) (by decide +kernel) rfl, lw_mem (i := 65) (by decide +kernel) rfl⟩
theorem xyX6_isSign : xY yX6_isSign cX6_isSign 2 (some .boolean) 1 := ⟨lw_mem (i := 1071) (by decide +kernel) rfl, lw_mem (i := 102) (by decide +kernel) rfl, by decide, by decide, by decide +kernel⟩
theorem xiX6_isSign : Cond.instanceMethod yX6_isSign ∈ lw_gt ∧ Cond.selects yX6_isSign.cls yX6_isSign yX6_isSign ∈ lw_gt := ⟨lw_mem (i := 1070) (by decide +kernel) rfl, lw_mem (i := 76) (by decide +kernel) rfl⟩
theorem xyX6_opens : xY yX6_opens cX6_opens 1 (some .boolean) 0 := ⟨lw_mem (i := 1055) (by decide +kernel) rfl, lw_mem (i := 102) (by decide +kernel) rfl, by decide, by decide, by decide +kernel⟩
theorem xiX6_opens : Cond.instanceMethod yX6_opens ∈ lw_gt ∧ Cond.selects yX6_opens.cls yX6_opens yX6_opens ∈ lw_gt := ⟨lw_mem (i := 1054) (by decide +kernel) rfl, lw_mem (i := 72) (by decide +kernel) rfl⟩
theorem xyX6_name : xY yX6_name cX6_name 1 (some .int) 0 := ⟨lw_mem (i := 1075) (by decide +kernel) rfl, lw_mem (i := 102) (by decide +kernel) rfl, by decide, by decide, by decide +kernel⟩
theorem xiX6_name : Cond.instanceMethod yX6_name ∈ lw_gt ∧ Cond.selects yX6_name.cls yX6_name yX6_name ∈ lw_gt := ⟨lw_mem (i := 1074) (by decide +kernel) rfl, lw_mem (i := 77) (by decide +kernel) rfl⟩
theorem xyX6_atom : xY yX6_atom cX6_atom 2 (some .int) 0 := ⟨lw_mem (i := 1067) (by decide +kernel) rfl, lw_mem (i := 102) (by decide +kernel) rfl, by decide, by decide, by decide +kernel⟩
theorem xiX6_atom : Cond.instanceMethod yX6_atom ∈ lw_gt ∧ Cond.selects yX6_atom.cls yX6_atom yX6_atom ∈ lw_gt := ⟨lw_mem (i := 1066) (by decide +kernel) rfl, lw_mem (i := 75) (by decide +kernel) rfl⟩
theorem xyX6_term : xY yX6_term cX6_term 2 (some .int) 0 := ⟨lw_mem (i := 1063) (by decide +kernel) rfl, lw_mem (i := 102) (by decide +kernel) rfl, by decide, by decide, by decide +kernel⟩
theorem xiX6_term : Cond.instanceMethod yX6_term ∈ lw_gt ∧ Cond.selects yX6_term.cls yX6_term yX6_term ∈ lw_gt := ⟨lw_mem (i := 1062) (by decide +kernel) rfl, lw_mem (i := 74) (by decide +kernel) rfl⟩
theorem xyX6_added : xY yX6_added cX6_added 4 (some .int) 0 := ⟨lw_mem (i := 1059) (by decide +kernel) rfl, lw_mem (i := 102) (by decide +kernel) rfl, by decide, by decide, by decide +kernel⟩
theorem xiX6_added : Cond.instanceMethod yX6_added ∈ lw_gt ∧ Cond.selects yX6_added.cls yX6_added yX6_added ∈ lw_gt := ⟨lw_mem (i := 1058) (by decide +kernel) rfl, lw_mem (i := 73) (by decide +kernel) rfl⟩
theorem xyX6_not : xY yX6_not cX6_not 4 (some .int) 0 := ⟨lw_mem (i := 1051) (by decide +kernel) rfl, lw_mem (i := 102) (by decide +kernel) rfl, by decide, by decide, by decide +kernel⟩
theorem xiX6_not : Cond.instanceMethod yX6_not ∈ lw_gt ∧ Cond.selects yX6_not.cls yX6_not yX6_not ∈ lw_gt := ⟨lw_mem (i := 1050) (by decide +kernel) rfl, lw_mem (i := 71) (by decide +kernel) rfl⟩
theorem xyX6_both : xY yX6_both cX6_both 3 (some .int) 0 := ⟨lw_mem (i := 1047) (by decide +kernel) rfl, lw_mem (i := 102) (by decide +kernel) rfl, by decide, by decide, by decide +kernel⟩
theorem xiX6_both : Cond.instanceMethod yX6_both ∈ lw_gt ∧ Cond.selects yX6_both.cls yX6_both yX6_both ∈ lw_gt := ⟨lw_mem (i := 1046) (by decide +kernel) rfl, lw_mem (i := 70) (by decide +kernel) rfl⟩
theorem xyX6_either : xY yX6_either cX6_either 3 (some .int) 0 := ⟨lw_mem (i := 1043) (by decide +kernel) rfl, lw_mem (i := 102) (by decide +kernel) rfl, by decide, by decide, by decide +kernel⟩
theorem xiX6_either : Cond.instanceMethod yX6_either ∈ lw_gt ∧ Cond.selects yX6_either.cls yX6_either yX6_either ∈ lw_gt := ⟨lw_mem (i := 1042) (by decide +kernel) rfl, lw_mem (i := 69) (by decide +kernel) rfl⟩
theorem xyX6_part : xY yX6_part cX6_part 3 (some .int) 1 := ⟨lw_mem (i := 1035) (by decide +kernel) rfl, lw_mem (i := 102) (by decide +kernel) rfl, by decide, by decide, by decide +kernel⟩
theorem xiX6_part : Cond.instanceMethod yX6_part ∈ lw_gt ∧ Cond.selects yX6_part.cls yX6_part yX6_part ∈ lw_gt := ⟨lw_mem (i := 1034) (by decide +kernel) rfl, lw_mem (i := 67) (by decide +kernel) rfl⟩
theorem xyX6_read : xY yX6_read cX6_read 6 (some .int) 2 := ⟨lw_mem (i := 1010) (by decide +kernel) rfl, lw_mem (i := 102) (by decide +kernel) rfl, by decide, by decide, by decide +kernel⟩
theorem xiX6_read : Cond.instanceMethod yX6_read ∈ lw_gt ∧ Cond.selects yX6_read.cls yX6_read yX6_read ∈ lw_gt := ⟨lw_mem (i := 1009) (by decide +kernel) rfl, lw_mem (i := 62) (by decide +kernel) rfl⟩
theorem xyX6_text : xY yX6_text cX6_text 2 (some .int) 0 := ⟨lw_mem (i := 1103) (by decide +kernel) rfl, lw_mem (i := 102) (by decide +kernel) rfl, by decide, by decide, by decide +kernel⟩
theorem xiX6_text : Cond.instanceMethod yX6_text ∈ lw_gt ∧ Cond.selects yX6_text.cls yX6_text yX6_text ∈ lw_gt := ⟨lw_mem (i := 1101) (by decide +kernel) rfl, lw_mem (i := 1102) (by decide +kernel) rfl⟩
theorem xyX6_force : xY yX6_force cX6_force 3 (some .int) 1 := ⟨lw_mem (i := 1107) (by decide +kernel) rfl, lw_mem (i := 102) (by decide +kernel) rfl, by decide, by decide, by decide +kernel⟩
theorem xiX6_force : Cond.instanceMethod yX6_force ∈ lw_gt ∧ Cond.selects yX6_force.cls yX6_force yX6_force ∈ lw_gt := ⟨lw_mem (i := 1105) (by decide +kernel) rfl, lw_mem (i := 1106) (by decide +kernel) rfl⟩
theorem xyX6_says : xY yX6_says cX6_says 4 (some .int) 3 := ⟨lw_mem (i := 999) (by decide +kernel) rfl, lw_mem (i := 102) (by decide +kernel) rfl, by decide, by decide, by decide +kernel⟩
theorem xiX6_says : Cond.instanceMethod yX6_says ∈ lw_gt ∧ Cond.selects yX6_says.cls yX6_says yX6_says ∈ lw_gt := ⟨lw_mem (i := 998) (by decide +kernel) rfl, lw_mem (i := 60) (by decide +kernel) rfl⟩
theorem xyX6_isLastCall : xY yX6_isLastCall cX6_isLastCall 4 (some .boolean) 1 := ⟨lw_mem (i := 1084) (by decide +kernel) rfl, lw_mem (i := 102) (by decide +kernel) rfl, by decide, by decide, by decide +kernel⟩
theorem xiX6_isLastCall : Cond.instanceMethod yX6_isLastCall ∈ lw_gt ∧ Cond.selects yX6_isLastCall.cls yX6_isLastCall yX6_isLastCall ∈ lw_gt := ⟨lw_mem (i := 1083) (by decide +kernel) rfl, lw_mem (i := 78) (by decide +kernel) rfl⟩
theorem xyX6_dares : xY yX6_dares cX6_dares 7 (some .boolean) 2 := ⟨lw_mem (i := 995) (by decide +kernel) rfl, lw_mem (i := 102) (by decide +kernel) rfl, by decide, by decide, by decide +kernel⟩
theorem xiX6_dares : Cond.instanceMethod yX6_dares ∈ lw_gt ∧ Cond.selects yX6_dares.cls yX6_dares yX6_dares ∈ lw_gt := ⟨lw_mem (i := 994) (by decide +kernel) rfl, lw_mem (i := 59) (by decide +kernel) rfl⟩
theorem xyX6_costsOf : xY yX6_costsOf cX6_costsOf 6 (some .int) 2 := ⟨lw_mem (i := 1116) (by decide +kernel) rfl, lw_mem (i := 102) (by decide +kernel) rfl, by decide, by decide, by decide +kernel⟩
theorem xiX6_costsOf : Cond.instanceMethod yX6_costsOf ∈ lw_gt ∧ Cond.selects yX6_costsOf.cls yX6_costsOf yX6_costsOf ∈ lw_gt := ⟨lw_mem (i := 1115) (by decide +kernel) rfl, lw_mem (i := 80) (by decide +kernel) rfl⟩
theorem xyX6_sitsBy : xY yX6_sitsBy cX6_sitsBy 6 (some .int) 2 := ⟨lw_mem (i := 1120) (by decide +kernel) rfl, lw_mem (i := 102) (by decide +kernel) rfl, by decide, by decide, by decide +kernel⟩
theorem xiX6_sitsBy : Cond.instanceMethod yX6_sitsBy ∈ lw_gt ∧ Cond.selects yX6_sitsBy.cls yX6_sitsBy yX6_sitsBy ∈ lw_gt := ⟨lw_mem (i := 1119) (by decide +kernel) rfl, lw_mem (i := 81) (by decide +kernel) rfl⟩
theorem xyX6_asks : xY yX6_asks cX6_asks 4 (some .int) 3 := ⟨lw_mem (i := 1111) (by decide +kernel) rfl, lw_mem (i := 102) (by decide +kernel) rfl, by decide, by decide, by decide +kernel⟩
theorem xiX6_asks : Cond.instanceMethod yX6_asks ∈ lw_gt ∧ Cond.selects yX6_asks.cls yX6_asks yX6_asks ∈ lw_gt := ⟨lw_mem (i := 1109) (by decide +kernel) rfl, lw_mem (i := 1110) (by decide +kernel) rfl⟩
theorem xyX6_can : xY yX6_can cX6_can 3 (some .boolean) 2 := ⟨lw_mem (i := 991) (by decide +kernel) rfl, lw_mem (i := 102) (by decide +kernel) rfl, by decide, by decide, by decide +kernel⟩
theorem xiX6_can : Cond.instanceMethod yX6_can ∈ lw_gt ∧ Cond.selects yX6_can.cls yX6_can yX6_can ∈ lw_gt := ⟨lw_mem (i := 990) (by decide +kernel) rfl, lw_mem (i := 58) (by decide +kernel) rfl⟩
theorem xyX6_canSet : xY yX6_canSet cX6_canSet 4 (some .int) 1 := ⟨lw_mem (i := 987) (by decide +kernel) rfl, lw_mem (i := 102) (by decide +kernel) rfl, by decide, by decide, by decide +kernel⟩
theorem xiX6_canSet : Cond.instanceMethod yX6_canSet ∈ lw_gt ∧ Cond.selects yX6_canSet.cls yX6_canSet yX6_canSet ∈ lw_gt := ⟨lw_mem (i := 986) (by decide +kernel) rfl, lw_mem (i := 57) (by decide +kernel) rfl⟩
theorem xyX6_done : xY yX6_done cX6_done 5 none 2 := ⟨lw_mem (i := 1128) (by decide +kernel) rfl, lw_mem (i := 102) (by decide +kernel) rfl, by decide, by decide, by decide +kernel⟩
theorem xiX6_done : Cond.instanceMethod yX6_done ∈ lw_gt ∧ Cond.selects yX6_done.cls yX6_done yX6_done ∈ lw_gt := ⟨lw_mem (i := 1127) (by decide +kernel) rfl, lw_mem (i := 82) (by decide +kernel) rfl⟩
theorem xyX6_does : xY yX6_does cX6_does 3 (some .int) 2 := ⟨lw_mem (i := 1124) (by decide +kernel) rfl, lw_mem (i := 102) (by decide +kernel) rfl, by decide, by decide, by decide +kernel⟩
theorem xiX6_does : Cond.instanceMethod yX6_does ∈ lw_gt ∧ Cond.selects yX6_does.cls yX6_does yX6_does ∈ lw_gt := ⟨lw_mem (i := 1122) (by decide +kernel) rfl, lw_mem (i := 1123) (by decide +kernel) rfl⟩
theorem xyX6_ends : xY yX6_ends cX6_ends 3 (some .int) 0 := ⟨lw_mem (i := 1137) (by decide +kernel) rfl, lw_mem (i := 102) (by decide +kernel) rfl, by decide, by decide, by decide +kernel⟩
theorem xiX6_ends : Cond.instanceMethod yX6_ends ∈ lw_gt ∧ Cond.selects yX6_ends.cls yX6_ends yX6_ends ∈ lw_gt := ⟨lw_mem (i := 1136) (by decide +kernel) rfl, lw_mem (i := 83) (by decide +kernel) rfl⟩
theorem xyX6_year : xY yX6_year cX6_year 1 (some .int) 0 := ⟨lw_mem (i := 1133) (by decide +kernel) rfl, lw_mem (i := 102) (by decide +kernel) rfl, by decide, by decide, by decide +kernel⟩
theorem xiX6_year : Cond.instanceMethod yX6_year ∈ lw_gt ∧ Cond.selects yX6_year.cls yX6_year yX6_year ∈ lw_gt := ⟨lw_mem (i := 1131) (by decide +kernel) rfl, lw_mem (i := 1132) (by decide +kernel) rfl⟩
theorem xyX6_all : xY yX6_all cX6_all 5 (some .int) 0 := ⟨lw_mem (i := 1154) (by decide +kernel) rfl, lw_mem (i := 102) (by decide +kernel) rfl, by decide, by decide, by decide +kernel⟩
theorem xiX6_all : Cond.instanceMethod yX6_all ∈ lw_gt ∧ Cond.selects yX6_all.cls yX6_all yX6_all ∈ lw_gt := ⟨lw_mem (i := 1153) (by decide +kernel) rfl, lw_mem (i := 86) (by decide +kernel) rfl⟩
theorem xyX6_laysAside : xY yX6_laysAside cX6_laysAside 2 none 0 := ⟨lw_mem (i := 1146) (by decide +kernel) rfl, lw_mem (i := 102) (by decide +kernel) rfl, by decide, by decide, by decide +kernel⟩
theorem xiX6_laysAside : Cond.instanceMethod yX6_laysAside ∈ lw_gt ∧ Cond.selects yX6_laysAside.cls yX6_laysAside yX6_laysAside ∈ lw_gt := ⟨lw_mem (i := 1145) (by decide +kernel) rfl, lw_mem (i := 84) (by decide +kernel) rfl⟩
theorem xyX6_laysBack : xY yX6_laysBack cX6_laysBack 2 none 0 := ⟨lw_mem (i := 1158) (by decide +kernel) rfl, lw_mem (i := 102) (by decide +kernel) rfl, by decide, by decide, by decide +kernel⟩
theorem xiX6_laysBack : Cond.instanceMethod yX6_laysBack ∈ lw_gt ∧ Cond.selects yX6_laysBack.cls yX6_laysBack yX6_laysBack ∈ lw_gt := ⟨lw_mem (i := 1157) (by decide +kernel) rfl, lw_mem (i := 87) (by decide +kernel) rfl⟩
theorem xyX6_go : xY yX6_go cX6_go 4 (some .int) 1 := ⟨lw_mem (i := 1150) (by decide +kernel) rfl, lw_mem (i := 102) (by decide +kernel) rfl, by decide, by decide, by decide +kernel⟩
theorem xiX6_go : Cond.instanceMethod yX6_go ∈ lw_gt ∧ Cond.selects yX6_go.cls yX6_go yX6_go ∈ lw_gt := ⟨lw_mem (i := 1149) (by decide +kernel) rfl, lw_mem (i := 85) (by decide +kernel) rfl⟩
theorem xyX6_run : xY yX6_run cX6_run 5 (some .int) 2 := ⟨lw_mem (i := 1141) (by decide +kernel) rfl, lw_mem (i := 102) (by decide +kernel) rfl, by decide, by decide, by decide +kernel⟩
theorem xiX6_run : Cond.instanceMethod yX6_run ∈ lw_gt ∧ Cond.selects yX6_run.cls yX6_run yX6_run ∈ lw_gt := ⟨lw_mem (i := 1139) (by decide +kernel) rfl, lw_mem (i := 1140) (by decide +kernel) rfl⟩
theorem xyX6_lasts : xY yX6_lasts cX6_lasts 3 (some .int) 1 := ⟨lw_mem (i := 1162) (by decide +kernel) rfl, lw_mem (i := 102) (by decide +kernel) rfl, by decide, by decide, by decide +kernel⟩
theorem xiX6_lasts : Cond.instanceMethod yX6_lasts ∈ lw_gt ∧ Cond.selects yX6_lasts.cls yX6_lasts yX6_lasts ∈ lw_gt := ⟨lw_mem (i := 1160) (by decide +kernel) rfl, lw_mem (i := 1161) (by decide +kernel) rfl⟩
theorem xyX6_unionOf : xY yX6_unionOf cX6_unionOf 4 (some .int) 1 := ⟨lw_mem (i := 1171) (by decide +kernel) rfl, lw_mem (i := 102) (by decide +kernel) rfl, by decide, by decide, by decide +kernel⟩
theorem xiX6_unionOf : Cond.instanceMethod yX6_unionOf ∈ lw_gt ∧ Cond.selects yX6_unionOf.cls yX6_unionOf yX6_unionOf ∈ lw_gt := ⟨lw_mem (i := 1170) (by decide +kernel) rfl, lw_mem (i := 88) (by decide +kernel) rfl⟩
theorem xyX6_harmOf : xY yX6_harmOf cX6_harmOf 4 (some .int) 1 := ⟨lw_mem (i := 1175) (by decide +kernel) rfl, lw_mem (i := 102) (by decide +kernel) rfl, by decide, by decide, by decide +kernel⟩
theorem xiX6_harmOf : Cond.instanceMethod yX6_harmOf ∈ lw_gt ∧ Cond.selects yX6_harmOf.cls yX6_harmOf yX6_harmOf ∈ lw_gt := ⟨lw_mem (i := 1174) (by decide +kernel) rfl, lw_mem (i := 89) (by decide +kernel) rfl⟩
theorem xyX6_cover : xY yX6_cover cX6_cover 7 (some .int) 2 := ⟨lw_mem (i := 1166) (by decide +kernel) rfl, lw_mem (i := 102) (by decide +kernel) rfl, by decide, by decide, by decide +kernel⟩
theorem xiX6_cover : Cond.instanceMethod yX6_cover ∈ lw_gt ∧ Cond.selects yX6_cover.cls yX6_cover yX6_cover ∈ lw_gt := ⟨lw_mem (i := 1164) (by decide +kernel) rfl, lw_mem (i := 1165) (by decide +kernel) rfl⟩
theorem xyX6_gives : xY yX6_gives cX6_gives 7 none 5 := ⟨lw_mem (i := 1183) (by decide +kernel) rfl, lw_mem (i := 102) (by decide +kernel) rfl, by decide, by decide, by decide +kernel⟩
theorem xiX6_gives : Cond.instanceMethod yX6_gives ∈ lw_gt ∧ Cond.selects yX6_gives.cls yX6_gives yX6_gives ∈ lw_gt := ⟨lw_mem (i := 1182) (by decide +kernel) rfl, lw_mem (i := 90) (by decide +kernel) rfl⟩
theorem xyX6_rota : xY yX6_rota cX6_rota 3 (some .int) 1 := ⟨lw_mem (i := 1179) (by decide +kernel) rfl, lw_mem (i := 102) (by decide +kernel) rfl, by decide, by decide, by decide +kernel⟩
theorem xiX6_rota : Cond.instanceMethod yX6_rota ∈ lw_gt ∧ Cond.selects yX6_rota.cls yX6_rota yX6_rota ∈ lw_gt := ⟨lw_mem (i := 1177) (by decide +kernel) rfl, lw_mem (i := 1178) (by decide +kernel) rfl⟩
theorem xyX6_aliveBehind : xY yX6_aliveBehind cX6_aliveBehind 4 (some .int) 2 := ⟨lw_mem (i := 1191) (by decide +kernel) rfl, lw_mem (i := 102) (by decide +kernel) rfl, by decide, by decide, by decide +kernel⟩
theorem xiX6_aliveBehind : Cond.instanceMethod yX6_aliveBehind ∈ lw_gt ∧ Cond.selects yX6_aliveBehind.cls yX6_aliveBehind yX6_aliveBehind ∈ lw_gt := ⟨lw_mem (i := 1190) (by decide +kernel) rfl, lw_mem (i := 91) (by decide +kernel) rfl⟩
theorem xyX6_saves : xY yX6_saves cX6_saves 7 (some .int) 2 := ⟨lw_mem (i := 1187) (by decide +kernel) rfl, lw_mem (i := 102) (by decide +kernel) rfl, by decide, by decide, by decide +kernel⟩
theorem xiX6_saves : Cond.instanceMethod yX6_saves ∈ lw_gt ∧ Cond.selects yX6_saves.cls yX6_saves yX6_saves ∈ lw_gt := ⟨lw_mem (i := 1185) (by decide +kernel) rfl, lw_mem (i := 1186) (by decide +kernel) rfl⟩
theorem xyX6_letGo : xY yX6_letGo cX6_letGo 7 (some .int) 1 := ⟨lw_mem (i := 1195) (by decide +kernel) rfl, lw_mem (i := 102) (by decide +kernel) rfl, by decide, by decide, by decide +kernel⟩
theorem xiX6_letGo : Cond.instanceMethod yX6_letGo ∈ lw_gt ∧ Cond.selects yX6_letGo.cls yX6_letGo yX6_letGo ∈ lw_gt := ⟨lw_mem (i := 1193) (by decide +kernel) rfl, lw_mem (i := 1194) (by decide +kernel) rfl⟩
theorem xyX6_lowest : xY yX6_lowest cX6_lowest 11 (some .long) 3 := ⟨lw_mem (i := 1202) (by decide +kernel) rfl, lw_mem (i := 102) (by decide +kernel) rfl, by decide, by decide, by decide +kernel⟩
theorem xiX6_lowest : Cond.static yX6_lowest ∈ lw_gt := lw_mem (i := 1201) (by decide +kernel) rfl
theorem xyX6_share : xY yX6_share cX6_share 2 (some .long) 1 := ⟨lw_mem (i := 1199) (by decide +kernel) rfl, lw_mem (i := 102) (by decide +kernel) rfl, by decide, by decide, by decide +kernel⟩
theorem xiX6_share : Cond.instanceMethod yX6_share ∈ lw_gt ∧ Cond.selects yX6_share.cls yX6_share yX6_share ∈ lw_gt := ⟨lw_mem (i := 1197) (by decide +kernel) rfl, lw_mem (i := 1198) (by decide +kernel) rfl⟩
theorem xyX6_firstOther : xY yX6_firstOther cX6_firstOther 4 (some .int) 2 := ⟨lw_mem (i := 1215) (by decide +kernel) rfl, lw_mem (i := 102) (by decide +kernel) rfl, by decide, by decide, by decide +kernel⟩
theorem xiX6_firstOther : Cond.instanceMethod yX6_firstOther ∈ lw_gt ∧ Cond.selects yX6_firstOther.cls yX6_firstOther yX6_firstOther ∈ lw_gt := ⟨lw_mem (i := 1214) (by decide +kernel) rfl, lw_mem (i := 92) (by decide +kernel) rfl⟩
theorem xyX6_likeSet : xY yX6_likeSet cX6_likeSet 4 (some .int) 1 := ⟨lw_mem (i := 1219) (by decide +kernel) rfl, lw_mem (i := 102) (by decide +kernel) rfl, by decide, by decide, by decide +kernel⟩
theorem xiX6_likeSet : Cond.instanceMethod yX6_likeSet ∈ lw_gt ∧ Cond.selects yX6_likeSet.cls yX6_likeSet yX6_likeSet ∈ lw_gt := ⟨lw_mem (i := 1218) (by decide +kernel) rfl, lw_mem (i := 93) (by decide +kernel) rfl⟩
theorem xyX6_tells : xY yX6_tells cX6_tells 11 (some .int) 3 := ⟨lw_mem (i := 1207) (by decide +kernel) rfl, lw_mem (i := 102) (by decide +kernel) rfl, by decide, by decide, by decide +kernel⟩
theorem xiX6_tells : Cond.instanceMethod yX6_tells ∈ lw_gt ∧ Cond.selects yX6_tells.cls yX6_tells yX6_tells ∈ lw_gt := ⟨lw_mem (i := 1205) (by decide +kernel) rfl, lw_mem (i := 1206) (by decide +kernel) rfl⟩
theorem xyX6_film : xY yX6_film cX6_film 6 (some .int) 2 := ⟨lw_mem (i := 1223) (by decide +kernel) rfl, lw_mem (i := 102) (by decide +kernel) rfl, by decide, by decide, by decide +kernel⟩
theorem xiX6_film : Cond.instanceMethod yX6_film ∈ lw_gt ∧ Cond.selects yX6_film.cls yX6_film yX6_film ∈ lw_gt := ⟨lw_mem (i := 1221) (by decide +kernel) rfl, lw_mem (i := 1222) (by decide +kernel) rfl⟩
theorem xyX6_aliveDrawn : xY yX6_aliveDrawn cX6_aliveDrawn 7 (some .int) 2 := ⟨lw_mem (i := 1236) (by decide +kernel) rfl, lw_mem (i := 102) (by decide +kernel) rfl, by decide, by decide, by decide +kernel⟩
theorem xiX6_aliveDrawn : Cond.instanceMethod yX6_aliveDrawn ∈ lw_gt ∧ Cond.selects yX6_aliveDrawn.cls yX6_aliveDrawn yX6_aliveDrawn ∈ lw_gt := ⟨lw_mem (i := 1235) (by decide +kernel) rfl, lw_mem (i := 94) (by decide +kernel) rfl⟩
theorem xyX6_drawn : xY yX6_drawn cX6_drawn 3 (some .int) 2 := ⟨lw_mem (i := 1232) (by decide +kernel) rfl, lw_mem (i := 102) (by decide +kernel) rfl, by decide, by decide, by decide +kernel⟩
theorem xiX6_drawn : Cond.instanceMethod yX6_drawn ∈ lw_gt ∧ Cond.selects yX6_drawn.cls yX6_drawn yX6_drawn ∈ lw_gt := ⟨lw_mem (i := 1230) (by decide +kernel) rfl, lw_mem (i := 1231) (by decide +kernel) rfl⟩
theorem xyX6_chance : xY yX6_chance cX6_chance 8 (some .long) 4 := ⟨lw_mem (i := 1241) (by decide +kernel) rfl, lw_mem (i := 102) (by decide +kernel) rfl, by decide, by decide, by decide +kernel⟩
theorem xiX6_chance : Cond.instanceMethod yX6_chance ∈ lw_gt ∧ Cond.selects yX6_chance.cls yX6_chance yX6_chance ∈ lw_gt := ⟨lw_mem (i := 1239) (by decide +kernel) rfl, lw_mem (i := 1240) (by decide +kernel) rfl⟩
theorem xyX6_image : xY yX6_image cX6_image 2 (some .int) 0 := ⟨lw_mem (i := 1245) (by decide +kernel) rfl, lw_mem (i := 102) (by decide +kernel) rfl, by decide, by decide, by decide +kernel⟩
theorem xiX6_image : Cond.instanceMethod yX6_image ∈ lw_gt ∧ Cond.selects yX6_image.cls yX6_image yX6_image ∈ lw_gt := ⟨lw_mem (i := 1243) (by decide +kernel) rfl, lw_mem (i := 1244) (by decide +kernel) rfl⟩
theorem xyX6_back : xY yX6_back cX6_back 2 (some .int) 0 := ⟨lw_mem (i := 1249) (by decide +kernel) rfl, lw_mem (i := 102) (by decide +kernel) rfl, by decide, by decide, by decide +kernel⟩
theorem xiX6_back : Cond.instanceMethod yX6_back ∈ lw_gt ∧ Cond.selects yX6_back.cls yX6_back yX6_back ∈ lw_gt := ⟨lw_mem (i := 1247) (by decide +kernel) rfl, lw_mem (i := 1248) (by decide +kernel) rfl⟩
theorem xyX6_count : xY yX6_count cX6_count 2 (some .int) 1 := ⟨lw_mem (i := 1253) (by decide +kernel) rfl, lw_mem (i := 102) (by decide +kernel) rfl, by decide, by decide, by decide +kernel⟩
theorem xiX6_count : Cond.instanceMethod yX6_count ∈ lw_gt ∧ Cond.selects yX6_count.cls yX6_count yX6_count ∈ lw_gt := ⟨lw_mem (i := 1251) (by decide +kernel) rfl, lw_mem (i := 1252) (by decide +kernel) rfl⟩
theorem xyX6_isSheet : xY yX6_isSheet cX6_isSheet 1 (some .boolean) 1 := ⟨lw_mem (i := 1210) (by decide +kernel) rfl, lw_mem (i := 102) (by decide +kernel) rfl, by decide, by decide, by decide +kernel⟩
theorem xiX6_isSheet : Cond.static yX6_isSheet ∈ lw_gt := lw_mem (i := 1209) (by decide +kernel) rfl
theorem xyX6_sheet : xY yX6_sheet cX6_sheet 5 (some .int) 3 := ⟨lw_mem (i := 1227) (by decide +kernel) rfl, lw_mem (i := 102) (by decide +kernel) rfl, by decide, by decide, by decide +kernel⟩
theorem xiX6_sheet : Cond.instanceMethod yX6_sheet ∈ lw_gt ∧ Cond.selects yX6_sheet.cls yX6_sheet yX6_sheet ∈ lw_gt := ⟨lw_mem (i := 1225) (by decide +kernel) rfl, lw_mem (i := 1226) (by decide +kernel) rfl⟩
theorem xyX6_cell : xY yX6_cell cX6_cell 4 (some .int) 3 := ⟨lw_mem (i := 1258) (by decide +kernel) rfl, lw_mem (i := 102) (by decide +kernel) rfl, by decide, by decide, by decide +kernel⟩
theorem xiX6_cell : Cond.instanceMethod yX6_cell ∈ lw_gt ∧ Cond.selects yX6_cell.cls yX6_cell yX6_cell ∈ lw_gt := ⟨lw_mem (i := 1256) (by decide +kernel) rfl, lw_mem (i := 1257) (by decide +kernel) rfl⟩
theorem xyX6_copy : xY yX6_copy cX6_copy 9 (some .int) 5 := ⟨lw_mem (i := 1262) (by decide +kernel) rfl, lw_mem (i := 102) (by decide +kernel) rfl, by decide, by decide, by decide +kernel⟩
theorem xiX6_copy : Cond.instanceMethod yX6_copy ∈ lw_gt ∧ Cond.selects yX6_copy.cls yX6_copy yX6_copy ∈ lw_gt := ⟨lw_mem (i := 1260) (by decide +kernel) rfl, lw_mem (i := 1261) (by decide +kernel) rfl⟩
theorem xyX6_republic : xY yX6_republic cX6_republic 8 (some .int) 4 := ⟨lw_mem (i := 1266) (by decide +kernel) rfl, lw_mem (i := 102) (by decide +kernel) rfl, by decide, by decide, by decide +kernel⟩
theorem xiX6_republic : Cond.instanceMethod yX6_republic ∈ lw_gt ∧ Cond.selects yX6_republic.cls yX6_republic yX6_republic ∈ lw_gt := ⟨lw_mem (i := 1264) (by decide +kernel) rfl, lw_mem (i := 1265) (by decide +kernel) rfl⟩
theorem xyX6_over : xY yX6_over cX6_over 1 (some .int) 1 := ⟨lw_mem (i := 1275) (by decide +kernel) rfl, lw_mem (i := 102) (by decide +kernel) rfl, by decide, by decide, by decide +kernel⟩
theorem xiX6_over : Cond.static yX6_over ∈ lw_gt := lw_mem (i := 1274) (by decide +kernel) rfl
theorem xyX6_taken : xY yX6_taken cX6_taken 4 (some .int) 2 := ⟨lw_mem (i := 1272) (by decide +kernel) rfl, lw_mem (i := 102) (by decide +kernel) rfl, by decide, by decide, by decide +kernel⟩
theorem xiX6_taken : Cond.instanceMethod yX6_taken ∈ lw_gt ∧ Cond.selects yX6_taken.cls yX6_taken yX6_taken ∈ lw_gt := ⟨lw_mem (i := 1270) (by decide +kernel) rfl, lw_mem (i := 1271) (by decide +kernel) rfl⟩
theorem xyJ6_bitCount_0f7a4 : xY yJ6_bitCount_0f7a4 cJ6_bitCount_0f7a4 1 (some .int) 1 := ⟨lw_mem (i := 373) (by decide +kernel) rfl, lw_mem (i := 103) (by decide +kernel) rfl, by decide, by decide, by decide +kernel⟩
theorem xiJ6_bitCount_0f7a4 : Cond.static yJ6_bitCount_0f7a4 ∈ lw_gt := lw_mem (i := 372) (by decide +kernel) rfl
theorem xyJ9_max_7cf53 : xY yJ9_max_7cf53 cJ9_max_7cf53 2 (some .int) 2 := ⟨lw_mem (i := 422) (by decide +kernel) rfl, lw_mem (i := 104) (by decide +kernel) rfl, by decide, by decide, by decide +kernel⟩
theorem xiJ9_max_7cf53 : Cond.static yJ9_max_7cf53 ∈ lw_gt := lw_mem (i := 421) (by decide +kernel) rfl
theorem xyJ9_min_7cf53 : xY yJ9_min_7cf53 cJ9_min_7cf53 2 (some .int) 2 := ⟨lw_mem (i := 419) (by decide +kernel) rfl, lw_mem (i := 104) (by decide +kernel) rfl, by decide, by decide, by decide +kernel⟩
theorem xiJ9_min_7cf53 : Cond.static yJ9_min_7cf53 ∈ lw_gt := lw_mem (i := 418) (by decide +kernel) rfl
theorem xyJ0_length_8abf5 : xY yJ0_length_8abf5 cJ0_length_8abf5 1 (some .int) 0 := ⟨lw_mem (i := 464) (by decide +kernel) rfl, lw_mem (i := 105) (by decide +kernel) rfl, by decide, by decide, by decide +kernel⟩
theorem xiJ0_length_8abf5 : Cond.instanceMethod yJ0_length_8abf5 ∈ lw_gt ∧ Cond.selects yJ0_length_8abf5.cls yJ0_length_8abf5 yJ0_length_8abf5 ∈ lw_gt := ⟨lw_mem (i := 462) (by decide +kernel) rfl, lw_mem (i := 463) (by decide +kernel) rfl⟩
theorem xyJ0_charAt_5068e : xY yJ0_charAt_5068e cJ0_charAt_5068e 2 (some .char) 1 := ⟨lw_mem (i := 474) (by decide +kernel) rfl, lw_mem (i := 105) (by decide +kernel) rfl, by decide, by decide, by decide +kernel⟩
theorem xiJ0_charAt_5068e : Cond.instanceMethod yJ0_charAt_5068e ∈ lw_gt ∧ Cond.selects yJ0_charAt_5068e.cls yJ0_charAt_5068e yJ0_charAt_5068e ∈ lw_gt := ⟨lw_mem (i := 472) (by decide +kernel) rfl, lw_mem (i := 473) (by decide +kernel) rfl⟩
theorem xyJ0_coder_7d493 : xY yJ0_coder_7d493 cJ0_coder_7d493 1 (some .byte) 0 := ⟨lw_mem (i := 468) (by decide +kernel) rfl, lw_mem (i := 105) (by decide +kernel) rfl, by decide, by decide, by decide +kernel⟩
theorem xiJ0_coder_7d493 : Cond.instanceMethod yJ0_coder_7d493 ∈ lw_gt ∧ Cond.selects yJ0_coder_7d493.cls yJ0_coder_7d493 yJ0_coder_7d493 ∈ lw_gt := ⟨lw_mem (i := 466) (by decide +kernel) rfl, lw_mem (i := 467) (by decide +kernel) rfl⟩
theorem xyJ0_isLatin1_aae02 : xY yJ0_isLatin1_aae02 cJ0_isLatin1_aae02 1 (some .boolean) 0 := ⟨lw_mem (i := 478) (by decide +kernel) rfl, lw_mem (i := 105) (by decide +kernel) rfl, by decide, by decide, by decide +kernel⟩
theorem xiJ0_isLatin1_aae02 : Cond.instanceMethod yJ0_isLatin1_aae02 ∈ lw_gt ∧ Cond.selects yJ0_isLatin1_aae02.cls yJ0_isLatin1_aae02 yJ0_isLatin1_aae02 ∈ lw_gt := ⟨lw_mem (i := 476) (by decide +kernel) rfl, lw_mem (i := 477) (by decide +kernel) rfl⟩
theorem xyJ0_checkIndex_df160 : xY yJ0_checkIndex_df160 cJ0_checkIndex_df160 2 none 2 := ⟨lw_mem (i := 484) (by decide +kernel) rfl, lw_mem (i := 105) (by decide +kernel) rfl, by decide, by decide, by decide +kernel⟩
theorem xiJ0_checkIndex_df160 : Cond.static yJ0_checkIndex_df160 ∈ lw_gt := lw_mem (i := 483) (by decide +kernel) rfl
theorem xyJ1_charAt_3b067 : xY yJ1_charAt_3b067 cJ1_charAt_3b067 2 (some .char) 2 := ⟨lw_mem (i := 481) (by decide +kernel) rfl, lw_mem (i := 106) (by decide +kernel) rfl, by decide, by decide, by decide +kernel⟩
theorem xiJ1_charAt_3b067 : Cond.static yJ1_charAt_3b067 ∈ lw_gt := lw_mem (i := 480) (by decide +kernel) rfl
theorem xyJ2_getChar_3b067 : xY yJ2_getChar_3b067 cJ2_getChar_3b067 2 (some .char) 2 := ⟨lw_mem (i := 502) (by decide +kernel) rfl, lw_mem (i := 108) (by decide +kernel) rfl, by decide, by decide, by decide +kernel⟩
theorem xiJ2_getChar_3b067 : Cond.static yJ2_getChar_3b067 ∈ lw_gt := lw_mem (i := 501) (by decide +kernel) rfl
theorem xyJ2_length_9d52b : xY yJ2_length_9d52b cJ2_length_9d52b 1 (some .int) 1 := ⟨lw_mem (i := 498) (by decide +kernel) rfl, lw_mem (i := 108) (by decide +kernel) rfl, by decide, by decide, by decide +kernel⟩
theorem xiJ2_length_9d52b : Cond.static yJ2_length_9d52b ∈ lw_gt := lw_mem (i := 497) (by decide +kernel) rfl
theorem xyJ2_charAt_3b067 : xY yJ2_charAt_3b067 cJ2_charAt_3b067 2 (some .char) 2 := ⟨lw_mem (i := 492) (by decide +kernel) rfl, lw_mem (i := 108) (by decide +kernel) rfl, by decide, by decide, by decide +kernel⟩
theorem xiJ2_charAt_3b067 : Cond.static yJ2_charAt_3b067 ∈ lw_gt := lw_mem (i := 491) (by decide +kernel) rfl
theorem xyJ2_checkIndex_2214a : xY yJ2_checkIndex_2214a cJ2_checkIndex_2214a 2 none 2 := ⟨lw_mem (i := 495) (by decide +kernel) rfl, lw_mem (i := 108) (by decide +kernel) rfl, by decide, by decide, by decide +kernel⟩
theorem xiJ2_checkIndex_2214a : Cond.static yJ2_checkIndex_2214a ∈ lw_gt := lw_mem (i := 494) (by decide +kernel) rfl
theorem xyJ3_checkIndex_8e157 : xY yJ3_checkIndex_8e157 cJ3_checkIndex_8e157 3 (some .int) 3 := ⟨lw_mem (i := 489) (by decide +kernel) rfl, lw_mem (i := 107) (by decide +kernel) rfl, by decide, by decide, by decide +kernel⟩
theorem xiJ3_checkIndex_8e157 : Cond.static yJ3_checkIndex_8e157 ∈ lw_gt := lw_mem (i := 488) (by decide +kernel) rfl
end
section
/-! plain facts of ints -/
def sWi (v a b : Int32) : Int32 := if v < a then a else if b < v then b else v
def sPop (n : Nat) : Nat := n % 2 + n / 2 % 2 + n / 4 % 2 + n / 8 % 2 + n / 16 % 2 + n / 32 % 2 + n / 64 % 2 + n / 128 % 2 + n / 256 % 2 + n / 512 % 2
theorem sPop_step0 : ∀ n, n < 1024 → n ≠ 0 → (nI n &&& (nI n - 1)) = nI (n &&& (n - 1)) ∧ n &&& (n - 1) < n ∧ sPop n = sPop (n &&& (n - 1)) + 1 := by decide +kernel
theorem sPop_0 : sPop 0 = 0 := by decide
theorem sPop_le : ∀ n, n < 1024 → sPop n ≤ 10 := by decide +kernel
end
section
/-! leaves of the model -/
set_option maxHeartbeats 4000000 in
set_option maxRecDepth 20000 in
theorem t_X6_within (l : Launch) (d : Nat) (v a b : Int32) (z : xMem) : XMi l d yX6_within cX6_within 3 (some .int) [] [.int v, .int a, .int b] z (fun r _ => r = sWi v a b) := by
  refine XM.of (by decide) (Nat.le_of_ble_eq_true rfl) (fun xp xe xs xm xar xbl xme xc xD xcs xad xAA xCC xhr => ?_)
  generalize xhQ : MQ xbl _ xar xs 0 0 xAA = xQ
  show ww xp l xe (xRm d) xs xm xar xbl xme xc 3 xD xcs xad [] xAA xQ 0 [(0, .int v), (1, .int a), (2, .int b)] [] z
  refine ww_blk xCC okX6_within 0 2 (ps := []) (pc' := 2) (lv' := [(0, .int v), (1, .int a), (2, .int b)]) (st' := [.int a, .int v]) (z' := z) rfl trivial ?_
  refine ww_br xCC okX6_within 2 (P := a ≤ v) (t1 := 9) (t2 := 5) (r := []) rfl (fun c1 => ?_) (fun c1 => ?_)
  · skip
    refine ww_blk xCC okX6_within 5 2 (ps := []) (pc' := 11) (lv' := [(0, .int v), (1, .int a), (2, .int b)]) (st' := [.int b, .int v]) (z' := z) rfl trivial ?_
    refine ww_br xCC okX6_within 7 (P := v ≤ b) (t1 := 18) (t2 := 14) (r := []) rfl (fun c2 => ?_) (fun c2 => ?_)
    · skip
      refine ww_blk xCC okX6_within 10 1 (ps := []) (pc' := 19) (lv' := [(0, .int v), (1, .int a), (2, .int b)]) (st' := [.int v]) (z' := z) rfl trivial ?_
      subst xhQ
      exact ww_iret xCC okX6_within 11 xhr rfl rfl ⟨_, rfl, (by unfold sWi; simp only [Int32.lt_iff_toInt_lt, Int32.le_iff_toInt_le] at *; split <;> first | rfl | (exfalso; omega) | (split <;> first | rfl | (exfalso; omega)))⟩
    · skip
      refine ww_blk xCC okX6_within 8 2 (ps := []) (pc' := 19) (lv' := [(0, .int v), (1, .int a), (2, .int b)]) (st' := [.int b]) (z' := z) rfl trivial ?_
      subst xhQ
      exact ww_iret xCC okX6_within 11 xhr rfl rfl ⟨_, rfl, (by unfold sWi; simp only [Int32.lt_iff_toInt_lt, Int32.le_iff_toInt_le] at *; split <;> first | rfl | (exfalso; omega) | (split <;> first | rfl | (exfalso; omega)))⟩
  · skip
    refine ww_blk xCC okX6_within 3 2 (ps := []) (pc' := 19) (lv' := [(0, .int v), (1, .int a), (2, .int b)]) (st' := [.int a]) (z' := z) rfl trivial ?_
    subst xhQ
    exact ww_iret xCC okX6_within 11 xhr rfl rfl ⟨_, rfl, (by unfold sWi; simp only [Int32.lt_iff_toInt_lt, Int32.le_iff_toInt_le] at *; split <;> first | rfl | (exfalso; omega) | (split <;> first | rfl | (exfalso; omega)))⟩

set_option maxHeartbeats 4000000 in
set_option maxRecDepth 20000 in
theorem t_X6_in (l : Launch) (d : Nat) (v a b : Int64) (vi ai bi : Int) (hv : v.toInt = vi) (ha : a.toInt = ai) (hb : b.toInt = bi) (z : xMem) : XMz l d yX6_in cX6_in 6 (some .boolean) [] [.long v, .long a, .long b] z (fun _ => ai ≤ vi ∧ vi ≤ bi) (fun _ => ¬ (ai ≤ vi ∧ vi ≤ bi)) := by
  refine XM.of (by decide) (Nat.le_of_ble_eq_true rfl) (fun xp xe xs xm xar xbl xme xc xD xcs xad xAA xCC xhr => ?_)
  generalize xhQ : MQ xbl _ xar xs 0 0 xAA = xQ
  show ww xp l xe (xRm d) xs xm xar xbl xme xc 6 xD xcs xad [] xAA xQ 0 [(0, .long v), (2, .long a), (4, .long b)] [] z
  refine ww_blk xCC okX6_in 0 3 (ps := []) (pc' := 3) (lv' := [(0, .long v), (2, .long a), (4, .long b)]) (st' := [.int (lg_cmp v a)]) (z' := z) rfl trivial ?_
  refine ww_br xCC okX6_in 3 (P := (lg_cmp v a) < 0) (t1 := 17) (t2 := 6) (r := []) rfl (fun c1 => ?_) (fun c1 => ?_)
  · skip
    refine ww_blk xCC okX6_in 10 1 (ps := []) (pc' := 18) (lv' := [(0, .long v), (2, .long a), (4, .long b)]) (st' := [.int 0]) (z' := z) rfl trivial ?_
    subst xhQ
    exact ww_iret xCC okX6_in 11 xhr rfl (by decide) (Or.inr ⟨rfl, (by simp only [lg_cmp_lt, lg_cmp_gt, Int64.lt_iff_toInt_lt, hv, ha, hb] at *; omega)⟩)
  · skip
    refine ww_blk xCC okX6_in 4 3 (ps := []) (pc' := 10) (lv' := [(0, .long v), (2, .long a), (4, .long b)]) (st' := [.int (lg_cmp v b)]) (z' := z) rfl trivial ?_
    refine ww_br xCC okX6_in 7 (P := 0 < (lg_cmp v b)) (t1 := 17) (t2 := 13) (r := []) rfl (fun c2 => ?_) (fun c2 => ?_)
    · skip
      refine ww_blk xCC okX6_in 10 1 (ps := []) (pc' := 18) (lv' := [(0, .long v), (2, .long a), (4, .long b)]) (st' := [.int 0]) (z' := z) rfl trivial ?_
      subst xhQ
      exact ww_iret xCC okX6_in 11 xhr rfl (by decide) (Or.inr ⟨rfl, (by simp only [lg_cmp_lt, lg_cmp_gt, Int64.lt_iff_toInt_lt, hv, ha, hb] at *; omega)⟩)
    · skip
      refine ww_blk xCC okX6_in 8 2 (ps := []) (pc' := 18) (lv' := [(0, .long v), (2, .long a), (4, .long b)]) (st' := [.int 1]) (z' := z) rfl trivial ?_
      subst xhQ
      exact ww_iret xCC okX6_in 11 xhr rfl (by decide) (Or.inl ⟨rfl, (by simp only [lg_cmp_lt, lg_cmp_gt, Int64.lt_iff_toInt_lt, hv, ha, hb] at *; omega)⟩)

set_option maxHeartbeats 4000000 in
set_option maxRecDepth 20000 in
theorem t_X6_bitsOf (l : Launch) (d : Nat) (n : Nat) (hn : n < 1024) (z : xMem) : XMi l d yX6_bitsOf cX6_bitsOf 3 (some .int) [] [.int (nI n)] z (fun r _ => r = nI (sPop n)) := by
  refine XM.of (by decide) (Nat.le_of_ble_eq_true rfl) (fun xp xe xs xm xar xbl xme xc xD xcs xad xAA xCC xhr => ?_)
  generalize xhQ : MQ xbl _ xar xs 0 0 xAA = xQ
  show ww xp l xe (xRm d) xs xm xar xbl xme xc 3 xD xcs xad [] xAA xQ 0 [(0, .int (nI n))] [] z
  refine ww_blk xCC okX6_bitsOf 0 4 (ps := []) (pc' := 4) (lv' := [(2, .int (nI n)), (1, .int 0), (0, .int (nI n))]) (st' := []) (z' := z) rfl trivial ?_
  have L4 : ∀ (n4 : Nat) (m : Nat) (k : Nat), m < n4 → (m < 1024) → (k + sPop m = sPop n) → ww xp l xe (xRm d) xs xm xar xbl xme xc 3 xD xcs xad [] xAA xQ 4 [(2, .int (nI m)), (1, .int (nI k))] [] z := by
    intro n4
    induction n4 with
    | zero =>
      intro m k hmu4
      exact absurd hmu4 (Nat.not_lt_zero _)
    | succ n4 ih4 =>
      intro m k hmu4 e4_0 e4_1
      refine ww_blk xCC okX6_bitsOf 4 1 (ps := []) (pc' := 5) (lv' := [(2, .int (nI m)), (1, .int (nI k))]) (st' := [.int (nI m)]) (z' := z) rfl trivial ?_
      refine ww_br xCC okX6_bitsOf 5 (P := (nI m) = 0) (t1 := 20) (t2 := 8) (r := []) rfl (fun c1 => ?_) (fun c1 => ?_)
      · skip
        have hm0 : m = 0 := (nI_eq (b := 0) (by omega) (by omega)).mp c1
        refine ww_blk xCC okX6_bitsOf 14 1 (ps := []) (pc' := 21) (lv' := [(2, .int (nI m)), (1, .int (nI k))]) (st' := [.int (nI k)]) (z' := z) rfl trivial ?_
        subst xhQ
        exact ww_iret xCC okX6_bitsOf 15 xhr rfl rfl ⟨_, rfl, (by rw [hm0, sPop_0] at e4_1; rw [← e4_1]; rfl)⟩
      · skip
        have hm0 : m ≠ 0 := fun q => c1 (by rw [q]; rfl)
        have hs := sPop_step0 m (by omega) hm0
        refine ww_blk xCC okX6_bitsOf 6 8 (ps := []) (pc' := 4) (lv' := [(2, .int ((nI m) &&& ((nI m) - 1))), (1, .int ((nI k) + 1))]) (st' := []) (z' := z) rfl trivial ?_
        exact ww_cut [0, 1] (xlc (congrArg Value.int (show ((nI m) &&& ((nI m) - 1) : Int32) = nI (m &&& (m - 1)) from hs.1)) (xlc (congrArg Value.int (show ((nI k) + 1 : Int32) = nI (k + 1) from nI_1 k)) rfl)) rfl rfl (ih4 (m &&& (m - 1)) (k + 1) (by omega) (by omega) (by omega))
  exact ww_cut [0, 1] (xlc rfl (xlc (congrArg Value.int (show (0 : Int32) = nI 0 from nI_0.symm)) rfl)) rfl rfl (L4 (n + 1) n 0 (Nat.lt_succ_self _) hn (by omega))

set_option maxHeartbeats 4000000 in
set_option maxRecDepth 20000 in
theorem t_X6_isDeed (l : Launch) (d : Nat) (x : Int32) (z : xMem) : XMz l (d + 1) yX6_isDeed cX6_isDeed 1 (some .boolean) [] [.int x] z (fun _ => 0 ≤ x.toInt ∧ x.toInt ≤ 9) (fun _ => ¬ (0 ≤ x.toInt ∧ x.toInt ≤ 9)) := by
  refine XM.of (by decide) (Nat.le_of_ble_eq_true rfl) (fun xp xe xs xm xar xbl xme xc xD xcs xad xAA xCC xhr => ?_)
  generalize xhQ : MQ xbl _ xar xs 0 0 xAA = xQ
  show ww xp l xe (xRm (d + 1)) xs xm xar xbl xme xc 1 xD xcs xad [] xAA xQ 0 [(0, .int x)] [] z
  refine ww_blk xCC okX6_isDeed 0 4 (ps := []) (pc' := 6) (lv' := [(0, .int x)]) (st' := [.long 9, .long 0, .long x.toInt64]) (z' := z) rfl trivial ?_
  refine ww_callSNz xCC okX6_isDeed 4 (ix := 82) (t_X6_in l d x.toInt64 0 9 x.toInt 0 9 (Int32.toInt_toInt64 _) rfl rfl  _) (by omega) (by decide) xyX6_in xiX6_in (Or.inl (lw_gt_of (List.mem_of_getElem? (i := 958) (by decide +kernel)) rfl)) rfl (rest := []) rfl (Nat.le_of_ble_eq_true rfl) rfl (fun z1 h2 => ?_) (fun z1 h2 => ?_)
  · skip
    have h2 : 0 ≤ x.toInt ∧ x.toInt ≤ 9 := h2
    subst xhQ
    exact ww_iret xCC okX6_isDeed 5 xhr rfl (by decide) (Or.inl ⟨rfl, (by assumption)⟩)
  · skip
    have h2 : ¬ (0 ≤ x.toInt ∧ x.toInt ≤ 9) := h2
    subst xhQ
    exact ww_iret xCC okX6_isDeed 5 xhr rfl (by decide) (Or.inr ⟨rfl, (by assumption)⟩)

set_option maxHeartbeats 4000000 in
set_option maxRecDepth 20000 in
theorem t_X6_isLaw (l : Launch) (d : Nat) (x : Int32) (z : xMem) : XMz l (d + 1) yX6_isLaw cX6_isLaw 1 (some .boolean) [] [.int x] z (fun _ => 0 ≤ x.toInt ∧ x.toInt ≤ 7) (fun _ => ¬ (0 ≤ x.toInt ∧ x.toInt ≤ 7)) := by
  refine XM.of (by decide) (Nat.le_of_ble_eq_true rfl) (fun xp xe xs xm xar xbl xme xc xD xcs xad xAA xCC xhr => ?_)
  generalize xhQ : MQ xbl _ xar xs 0 0 xAA = xQ
  show ww xp l xe (xRm (d + 1)) xs xm xar xbl xme xc 1 xD xcs xad [] xAA xQ 0 [(0, .int x)] [] z
  refine ww_blk xCC okX6_isLaw 0 4 (ps := []) (pc' := 6) (lv' := [(0, .int x)]) (st' := [.long 7, .long 0, .long x.toInt64]) (z' := z) rfl trivial ?_
  refine ww_callSNz xCC okX6_isLaw 4 (ix := 82) (t_X6_in l d x.toInt64 0 7 x.toInt 0 7 (Int32.toInt_toInt64 _) rfl rfl  _) (by omega) (by decide) xyX6_in xiX6_in (Or.inl (lw_gt_of (List.mem_of_getElem? (i := 958) (by decide +kernel)) rfl)) rfl (rest := []) rfl (Nat.le_of_ble_eq_true rfl) rfl (fun z1 h2 => ?_) (fun z1 h2 => ?_)
  · skip
    have h2 : 0 ≤ x.toInt ∧ x.toInt ≤ 7 := h2
    subst xhQ
    exact ww_iret xCC okX6_isLaw 5 xhr rfl (by decide) (Or.inl ⟨rfl, (by assumption)⟩)
  · skip
    have h2 : ¬ (0 ≤ x.toInt ∧ x.toInt ≤ 7) := h2
    subst xhQ
    exact ww_iret xCC okX6_isLaw 5 xhr rfl (by decide) (Or.inr ⟨rfl, (by assumption)⟩)
end
section
/-! the republic as numbers: rows 0 left, 1 breaks, 2 harm, 3 kind, 4 number, 5 sits, 6 served, 7 (broken, term, year, cost, people, rule) -/
abbrev sR : Type := Nat → Nat → Nat
def sAl (f : Nat → Nat) : Nat → Nat
  | 0 => 0
  | k + 1 => if 0 < f k then sAl f k + 2 ^ k else sAl f k
theorem sAl_lt (f : Nat → Nat) : ∀ k, sAl f k < 2 ^ k
  | 0 => Nat.one_pos
  | k + 1 => by
    have h := sAl_lt f k
    simp only [sAl]
    rw [Nat.pow_succ]
    split <;> omega
theorem sOr_bit : ∀ i, i < 10 → ∀ a, a < 2 ^ i → (nI a ||| ((1 : Int32) <<< (nI i &&& 31))) = nI (a + 2 ^ i) := by decide +kernel
theorem sOr_no : ∀ i, i < 10 → ∀ a, a < 2 ^ i → (nI a ||| ((0 : Int32) <<< (nI i &&& 31))) = nI a := by decide +kernel
theorem sNN {x : Int32} {n : Nat} (h0 : 0 ≤ x.toInt) (h1 : x.toInt < n) : ∃ j : Nat, j < n ∧ x = nI j := by
  refine ⟨x.toInt.toNat, by omega, ?_⟩
  rw [← Int32.toInt_inj, nI_toInt]
  · omega
  · have := x.toInt_lt
    omega
theorem sSub1 {k : Nat} (h : k < 2 ^ 30) : (nI k - 1).toInt = (k : Int) - 1 := by
  have := pk_sub_toInt (a := k) (b := 1) h (by decide)
  exact this
theorem sTI {k : Nat} (h : k < 2 ^ 31) : (nI k).toInt = (k : Int) := nI_toInt h
theorem sLE {a b : Nat} (ha : a < 2 ^ 31) (hb : b < 2 ^ 31) : nI a ≤ nI b ↔ a ≤ b := nI_leI ha hb
theorem sLT {a b : Nat} (ha : a < 2 ^ 31) (hb : b < 2 ^ 31) : nI a < nI b ↔ a < b := nI_ltI ha hb
theorem sEQ {a b : Nat} (ha : a < 2 ^ 31) (hb : b < 2 ^ 31) : nI a = nI b ↔ a = b := nI_eq ha hb
theorem sCL {n : Nat} (h : n < 2 ^ 31) : (nI n).toNatClampNeg = n := nI_clamp h
end
section
/-! readers of the model -/
set_option maxHeartbeats 4000000 in
set_option maxRecDepth 20000 in
theorem t_X6_isOne (l : Launch) (d : Nat) (x : Int32) (z : xMem) (k : Nat) (hk : z.1 0 15 = nI k) (hk4 : k ≤ 4) : XMz l (d + 1) yX6_isOne cX6_isOne 2 (some .boolean) shM [.ref 0, .int x] z (fun z' => (0 ≤ x.toInt ∧ x.toInt < k) ∧ z' = z) (fun z' => ¬ (0 ≤ x.toInt ∧ x.toInt < k) ∧ z' = z) := by
  refine XM.of (by decide) (Nat.le_of_ble_eq_true rfl) (fun xp xe xs xm xar xbl xme xc xD xcs xad xAA xCC xhr => ?_)
  generalize xhQ : MQ xbl _ xar xs 0 0 xAA = xQ
  show ww xp l xe (xRm (d + 1)) xs xm xar xbl xme xc 2 xD xcs xad shM xAA xQ 0 [(0, .ref 0), (1, .int x)] [] z
  refine ww_blk xCC okX6_isOne 0 8 (ps := []) (pc' := 10) (lv' := [(0, .ref 0), (1, .int x)]) (st' := [.long (((z.1 0 15) - 1).toInt64), .long 0, .long x.toInt64]) (z' := z) rfl trivial ?_
  refine ww_callSNz xCC okX6_isOne 8 (ix := 82) (t_X6_in l d x.toInt64 0 (((z.1 0 15) - 1).toInt64) x.toInt 0 (((z.1 0 15) - 1).toInt) (Int32.toInt_toInt64 _) rfl (Int32.toInt_toInt64 _)  _) (by omega) (by decide) xyX6_in xiX6_in (Or.inl (lw_gt_of (List.mem_of_getElem? (i := 958) (by decide +kernel)) rfl)) rfl (rest := []) rfl (Nat.le_of_ble_eq_true rfl) rfl (fun z1 h2 => ?_) (fun z1 h2 => ?_)
  · skip
    have h2 : 0 ≤ x.toInt ∧ x.toInt ≤ ((z.1 0 15) - 1).toInt := h2
    subst xhQ
    exact ww_iret xCC okX6_isOne 9 xhr rfl (by decide) (Or.inl ⟨rfl, ⟨(by rw [hk, sSub1 (by omega)] at *; omega), rfl⟩⟩)
  · skip
    have h2 : ¬ (0 ≤ x.toInt ∧ x.toInt ≤ ((z.1 0 15) - 1).toInt) := h2
    subst xhQ
    exact ww_iret xCC okX6_isOne 9 xhr rfl (by decide) (Or.inr ⟨rfl, ⟨(by rw [hk, sSub1 (by omega)] at *; omega), rfl⟩⟩)

set_option maxHeartbeats 4000000 in
set_option maxRecDepth 20000 in
theorem t_X6_alive (l : Launch) (d : Nat) (z : xMem) (f : Nat → Nat) (hf : ∀ j, z.1 4 j = nI (f j)) (hb : ∀ j, f j < 2 ^ 31) : XMi l d yX6_alive cX6_alive 3 (some .int) shM [.ref 0] z (fun v z' => v = nI (sAl f 8) ∧ z' = z) := by
  refine XM.of (by decide) (Nat.le_of_ble_eq_true rfl) (fun xp xe xs xm xar xbl xme xc xD xcs xad xAA xCC xhr => ?_)
  generalize xhQ : MQ xbl _ xar xs 0 0 xAA = xQ
  show ww xp l xe (xRm d) xs xm xar xbl xme xc 3 xD xcs xad shM xAA xQ 0 [(0, .ref 0)] [] z
  refine ww_blk xCC okX6_alive 0 4 (ps := []) (pc' := 4) (lv' := [(2, .int 0), (1, .int 0), (0, .ref 0)]) (st' := []) (z' := z) rfl trivial ?_
  have L4 : ∀ (n4 : Nat) (i : Nat), 8 - i < n4 → (i ≤ 8) → ww xp l xe (xRm d) xs xm xar xbl xme xc 3 xD xcs xad shM xAA xQ 4 [(2, .int (nI i)), (1, .int (nI (sAl f i))), (0, .ref 0)] [] z := by
    intro n4
    induction n4 with
    | zero =>
      intro i hmu4
      exact absurd hmu4 (Nat.not_lt_zero _)
    | succ n4 ih4 =>
      intro i hmu4 e4_0
      have hbi := hb i
      refine ww_blk xCC okX6_alive 4 2 (ps := []) (pc' := 7) (lv' := [(2, .int (nI i)), (1, .int (nI (sAl f i))), (0, .ref 0)]) (st' := [.int 8, .int (nI i)]) (z' := z) rfl trivial ?_
      refine ww_br xCC okX6_alive 6 (P := 8 ≤ (nI i)) (t1 := 35) (t2 := 10) (r := []) rfl (fun c1 => ?_) (fun c1 => ?_)
      · skip
        replace c1 : 8 ≤ i := (sLE (a := 8) (b := i) (by omega) (by omega)).mp c1
        refine ww_blk xCC okX6_alive 22 1 (ps := []) (pc' := 36) (lv' := [(2, .int (nI i)), (1, .int (nI (sAl f i))), (0, .ref 0)]) (st' := [.int (nI (sAl f i))]) (z' := z) rfl trivial ?_
        subst xhQ
        exact ww_iret xCC okX6_alive 23 xhr rfl rfl ⟨_, rfl, ⟨(by rw [show i = 8 by omega]), rfl⟩⟩
      · skip
        replace c1 : ¬ 8 ≤ i := fun q => c1 ((sLE (a := 8) (b := i) (by omega) (by omega)).mpr q)
        refine ww_blk xCC okX6_alive 7 5 (ps := [vp_in (nI i) 8]) (pc' := 17) (lv' := [(2, .int (nI i)), (1, .int (nI (sAl f i))), (0, .ref 0)]) (st' := [.int (z.1 4 (nI i).toNatClampNeg), .int (nI (sAl f i))]) (z' := z) rfl (vp_in_nI (by omega) (by decide)) ?_
        rw [sCL (n := i) (by omega)]
        rw [hf i]
        refine ww_br xCC okX6_alive 12 (P := (nI (f i)) ≤ 0) (t1 := 24) (t2 := 20) (r := [.int (nI (sAl f i))]) rfl (fun c2 => ?_) (fun c2 => ?_)
        · skip
          replace c2 : (f i) ≤ 0 := (sLE (a := (f i)) (b := 0) (by omega) (by omega)).mp c2
          refine ww_blk xCC okX6_alive 15 7 (ps := []) (pc' := 4) (lv' := [(2, .int ((nI i) + 1)), (1, .int ((nI (sAl f i)) ||| (0 <<< ((nI i) &&& 31)))), (0, .ref 0)]) (st' := []) (z' := z) rfl trivial ?_
          exact ww_cut [0, 1, 2] (xlc (congrArg Value.int (show ((nI i) + 1 : Int32) = nI (i + 1) from nI_1 i)) (xlc (congrArg Value.int (show ((nI (sAl f i)) ||| (0 <<< ((nI i) &&& 31)) : Int32) = nI (sAl f (i + 1)) from (by rw [sOr_no i (by omega) _ (sAl_lt f i), sAl, if_neg (by omega)]))) (xlc rfl rfl))) rfl rfl (ih4 (i + 1) (by omega) (by omega))
        · skip
          replace c2 : ¬ (f i) ≤ 0 := fun q => c2 ((sLE (a := (f i)) (b := 0) (by omega) (by omega)).mpr q)
          refine ww_blk xCC okX6_alive 13 2 (ps := []) (pc' := 25) (lv' := [(2, .int (nI i)), (1, .int (nI (sAl f i))), (0, .ref 0)]) (st' := [.int 1, .int (nI (sAl f i))]) (z' := z) rfl trivial ?_
          refine ww_blk xCC okX6_alive 16 6 (ps := []) (pc' := 4) (lv' := [(2, .int ((nI i) + 1)), (1, .int ((nI (sAl f i)) ||| (1 <<< ((nI i) &&& 31)))), (0, .ref 0)]) (st' := []) (z' := z) rfl trivial ?_
          exact ww_cut [0, 1, 2] (xlc (congrArg Value.int (show ((nI i) + 1 : Int32) = nI (i + 1) from nI_1 i)) (xlc (congrArg Value.int (show ((nI (sAl f i)) ||| (1 <<< ((nI i) &&& 31)) : Int32) = nI (sAl f (i + 1)) from (by rw [sOr_bit i (by omega) _ (sAl_lt f i), sAl, if_pos (by omega)]))) (xlc rfl rfl))) rfl rfl (ih4 (i + 1) (by omega) (by omega))
  exact ww_cut [0, 1, 2] (xlc (congrArg Value.int (show (0 : Int32) = nI 0 from rfl)) (xlc (congrArg Value.int (show (0 : Int32) = nI (sAl f 0) from rfl)) (xlc rfl rfl))) rfl rfl (L4 (8 - 0 + 1) 0 (Nat.lt_succ_self _) (by omega))
end
section
/-! reading a text, as numbers: bytes bt 0 .. n - 1; tokens as the class's numbers; a postfix row of codes, or the place of a fault -/
def pBl (c : Nat) : Bool := c == 32 || c == 10
def pLe (c : Nat) : Bool := decide (97 ≤ c ∧ c ≤ 122)
def pDi (c : Nat) : Bool := decide (48 ≤ c ∧ c ≤ 57)
/-- the first place from a on where P doesn't hold, or the end; k: fuel -/
def pWh (P : Nat → Bool) (bt : Nat → Nat) (n : Nat) : Nat → Nat → Nat
  | 0, a => a
  | k + 1, a => if a < n ∧ P (bt a) = true then pWh P bt n k (a + 1) else a
def pRun (P : Nat → Bool) (bt : Nat → Nat) (n a : Nat) : Nat := pWh P bt n (n - a) a
theorem pRun_go {P : Nat → Bool} {bt : Nat → Nat} {n a : Nat} (h : a < n) (hp : P (bt a) = true) : pRun P bt n a = pRun P bt n (a + 1) := by
  unfold pRun
  obtain ⟨k, hk⟩ : ∃ k, n - a = k + 1 := ⟨n - a - 1, by omega⟩
  rw [hk, show n - (a + 1) = k by omega]
  simp only [pWh]
  rw [if_pos ⟨h, hp⟩]
theorem pRun_end {P : Nat → Bool} {bt : Nat → Nat} {n a : Nat} (h : ¬ (a < n ∧ P (bt a) = true)) : pRun P bt n a = a := by
  unfold pRun
  cases hk : n - a with
  | zero => rfl
  | succ k =>
    simp only [pWh]
    rw [if_neg h]
theorem pWh_ge (P : Nat → Bool) (bt : Nat → Nat) (n : Nat) : ∀ k a, a ≤ pWh P bt n k a
  | 0, a => Nat.le_refl a
  | k + 1, a => by
    simp only [pWh]
    split
    · exact Nat.le_trans (Nat.le_succ a) (pWh_ge P bt n k (a + 1))
    · exact Nat.le_refl a
theorem pWh_le (P : Nat → Bool) (bt : Nat → Nat) (n : Nat) : ∀ k a, a ≤ n → pWh P bt n k a ≤ n
  | 0, a, h => h
  | k + 1, a, h => by
    simp only [pWh]
    split
    · exact pWh_le P bt n k (a + 1) (by omega)
    · exact h
theorem pRun_ge (P : Nat → Bool) (bt : Nat → Nat) (n a : Nat) : a ≤ pRun P bt n a := pWh_ge P bt n _ a
theorem pRun_le (P : Nat → Bool) (bt : Nat → Nat) (n a : Nat) (h : a ≤ n) : pRun P bt n a ≤ n := pWh_le P bt n _ a h
/-- the worth of k digits from a on -/
def pVal (bt : Nat → Nat) (a : Nat) : Nat → Nat
  | 0 => 0
  | k + 1 => 10 * pVal bt a k + (bt (a + k) - 48)
def pWords : List (List Nat × Nat) := [([104, 97, 114, 109], 10000), ([108, 97, 119, 115], 10001), ([110, 117, 109, 98, 101, 114], 10002), ([121, 101, 97, 114], 10003), ([115, 101, 114, 118, 101, 100], 10004), ([97, 108, 105, 118, 101], 10005), ([100, 97, 114, 101, 115], 10015), ([104, 97, 114, 109, 115], 10016), ([115, 105, 116, 115], 10017), ([111, 114], 10006), ([97, 110, 100], 10007), ([110, 111, 116], 10013)]
/-- whether the bytes from a to b spell that word -/
def pSp (w : List Nat) (bt : Nat → Nat) (a b : Nat) : Bool := decide (b - a = w.length) && (List.range w.length).all (fun i => decide (bt (a + i) = w.getD i 0))
def pWd (bt : Nat → Nat) (a b : Nat) : List (List Nat × Nat) → Nat
  | [] => 10022
  | (w, c) :: l => if pSp w bt a b = true then c else pWd bt a b l
def pSg (c : Nat) : Nat := if c = 40 then 10018 else if c = 41 then 10019 else if c = 59 then 10020 else if c = 43 then 10010 else if c = 45 then 10011 else if c = 42 then 10012 else if c = 60 then 10008 else if c = 61 then 10009 else 10022
/-- the token from a place on: its code, its first byte's place, the place behind it -/
def pTok (bt : Nat → Nat) (n pos : Nat) : Nat × Nat × Nat :=
  let a := pRun pBl bt n pos
  if n ≤ a then (10021, a, a)
  else if pLe (bt a) = true then (pWd bt a (pRun pLe bt n a) pWords, a, pRun pLe bt n a)
  else if pDi (bt a) = true then (if 4 < pRun pDi bt n a - a then 10022 else pVal bt a (pRun pDi bt n a - a), a, pRun pDi bt n a)
  else (pSg (bt a), a, a + 1)
abbrev pRes : Type := Nat × List Nat × Nat
/-- on with what was read, unless it has a fault -/
def pSeq (r : pRes) (k : List Nat → Nat → pRes) : pRes := if r.1 = 1 then k r.2.1 r.2.2 else r
def pMore (r : Nat → Nat → pRes) (t : Nat × Nat × Nat) (pos sub rest : Nat) (is : Nat → Bool) : pRes := if is t.1 = true then pSeq (r sub t.2.2) (fun cs p1 => pSeq (r rest p1) (fun cs2 p2 => (1, cs ++ t.1 :: cs2, p2))) else (1, [], pos)
def pChain (r : Nat → Nat → pRes) (pos sub rest : Nat) : pRes := pSeq (r sub pos) (fun cs p1 => pSeq (r rest p1) (fun cs2 p2 => (1, cs ++ cs2, p2)))
def pOp (m : Nat) (c : Nat) : Bool := if m = 10 then c == 10006 else if m = 11 then c == 10007 else if m = 14 then c == 10010 || c == 10011 else c == 10012
/-- reading by the grammar: fuel, what is read, how many are open, from which place: (1, codes, place behind) or (2, _, the fault's place); 0: no fuel.
0 E, 1 AND, 2 NOT, 3 a comparison, 4 SUM, 5 TERM, 6 ONE with its -, 7 ONE; 10, 11, 14, 15: what may follow in 0, 1, 4, 5 -/
def pG (bt : Nat → Nat) (n : Nat) : Nat → Nat → Nat → Nat → pRes
  | 0, _, _, _ => (0, [], 0)
  | f + 1, m, o, pos =>
    let t := pTok bt n pos
    let r := fun s p => pG bt n f s o p
    let r1 := fun s p => pG bt n f s (o + 1) p
    match m with
    | 0 => pChain r pos 1 10
    | 10 => pMore r t pos 1 10 (pOp 10)
    | 1 => pChain r pos 2 11
    | 11 => pMore r t pos 2 11 (pOp 11)
    | 2 => if t.1 = 10013 then (if 5 ≤ o then (2, [], t.2.1) else pSeq (r1 2 t.2.2) (fun cs p1 => (1, cs ++ [10013], p1))) else r 3 pos
    | 3 => pSeq (r 4 pos) (fun cs p1 => if (pTok bt n p1).1 = 10008 ∨ (pTok bt n p1).1 = 10009 then pSeq (r 4 (pTok bt n p1).2.2) (fun cs2 p2 => (1, cs ++ (cs2 ++ [(pTok bt n p1).1]), p2)) else (1, cs, p1))
    | 4 => pChain r pos 5 14
    | 14 => pMore r t pos 5 14 (pOp 14)
    | 5 => pChain r pos 6 15
    | 15 => pMore r t pos 6 15 (pOp 15)
    | 6 => if t.1 = 10011 then (if 5 ≤ o then (2, [], t.2.1) else pSeq (r1 6 t.2.2) (fun cs p1 => (1, cs ++ [10014], p1))) else r 7 pos
    | 7 => if t.1 ≤ 10005 then (1, [t.1], t.2.2)
      else if t.1 = 10018 then (if 5 ≤ o then (2, [], t.2.1) else pSeq (r1 0 t.2.2) (fun cs p1 => if (pTok bt n p1).1 = 10019 then (1, cs, (pTok bt n p1).2.2) else (2, [], (pTok bt n p1).2.1)))
      else (2, [], t.2.1)
    | _ => (0, [], 0)
def pOk (r : pRes) : Prop := r.1 = 0 ∨ r.1 = 1 ∨ r.1 = 2
theorem pSeq_ok {r : pRes} {k : List Nat → Nat → pRes} (h : pOk r) (hk : ∀ cs p, pOk (k cs p)) : pOk (pSeq r k) := by
  unfold pSeq
  split
  · exact hk _ _
  · exact h
theorem pG_ok (bt : Nat → Nat) (n : Nat) : ∀ f m o pos, pOk (pG bt n f m o pos)
  | 0, _, _, _ => Or.inl rfl
  | f + 1, m, o, pos => by
    have ih := pG_ok bt n f
    have hc : ∀ sub rest, pOk (pChain (fun s p => pG bt n f s o p) pos sub rest) := fun sub rest => pSeq_ok (ih _ _ _) (fun _ _ => pSeq_ok (ih _ _ _) (fun _ _ => Or.inr (Or.inl rfl)))
    have hm : ∀ t sub rest is, pOk (pMore (fun s p => pG bt n f s o p) t pos sub rest is) := fun t sub rest is => by
      unfold pMore
      split
      · exact pSeq_ok (ih _ _ _) (fun _ _ => pSeq_ok (ih _ _ _) (fun _ _ => Or.inr (Or.inl rfl)))
      · exact Or.inr (Or.inl rfl)
    unfold pG
    dsimp only
    split
    · exact hc _ _
    · exact hm _ _ _ _
    · exact hc _ _
    · exact hm _ _ _ _
    · split
      · split
        · exact Or.inr (Or.inr rfl)
        · exact pSeq_ok (ih _ _ _) (fun _ _ => Or.inr (Or.inl rfl))
      · exact ih _ _ _
    · refine pSeq_ok (ih _ _ _) (fun _ _ => ?_)
      split
      · exact pSeq_ok (ih _ _ _) (fun _ _ => Or.inr (Or.inl rfl))
      · exact Or.inr (Or.inl rfl)
    · exact hc _ _
    · exact hm _ _ _ _
    · exact hc _ _
    · exact hm _ _ _ _
    · split
      · split
        · exact Or.inr (Or.inr rfl)
        · exact pSeq_ok (ih _ _ _) (fun _ _ => Or.inr (Or.inl rfl))
      · exact ih _ _ _
    · split
      · exact Or.inr (Or.inl rfl)
      · split
        · split
          · exact Or.inr (Or.inr rfl)
          · refine pSeq_ok (ih _ _ _) (fun _ _ => ?_)
            split
            · exact Or.inr (Or.inl rfl)
            · exact Or.inr (Or.inr rfl)
        · exact Or.inr (Or.inr rfl)
    · exact Or.inl rfl
/-- a sequence that has fuel: its first part has a fault, or not -/
theorem pSeq_of {r : pRes} {k : List Nat → Nat → pRes} {tag : Nat} {cs : List Nat} {p : Nat} (hr : pOk r) (h : pSeq r k = (tag, cs, p)) (ht : tag ≠ 0) : (r.1 = 2 ∧ tag = 2 ∧ p = r.2.2) ∨ (r.1 = 1 ∧ k r.2.1 r.2.2 = (tag, cs, p)) := by
  unfold pSeq at h
  split at h
  · rename_i h1
    exact Or.inr ⟨h1, h⟩
  · rename_i h1
    refine Or.inl ?_
    rw [h] at hr h1 ⊢
    rcases hr with q | q | q
    · exact absurd q ht
    · exact absurd q h1
    · exact ⟨q, q, rfl⟩
/-- one code on a stack; the facts of a code 10000 .. 10005 -/
def pJoin (c : Nat) (a b : Int32) : Int32 :=
  if c = 10006 then (if a ≠ 0 ∨ b ≠ 0 then 1 else 0) else if c = 10007 then (if a ≠ 0 ∧ b ≠ 0 then 1 else 0) else if c = 10008 then (if a < b then 1 else 0) else if c = 10009 then (if a = b then 1 else 0) else if c = 10010 then a + b else if c = 10011 then a - b else a * b
def pStep (fa : Nat → Int32) (c : Nat) (st : List Int32) : List Int32 :=
  if c ≤ 10005 then (if c < 10000 then nI c else fa c) :: st
  else if c = 10013 then (match st with | x :: r => (if x = 0 then 1 else 0) :: r | [] => [])
  else if c = 10014 then (match st with | x :: r => (-x) :: r | [] => [])
  else (match st with | y :: x :: r => pJoin c x y :: r | _ => [])
def pEv (fa : Nat → Int32) : List Nat → List Int32 → List Int32
  | [], st => st
  | c :: l, st => pEv fa l (pStep fa c st)
theorem pEv_app (fa : Nat → Int32) : ∀ (a b : List Nat) (st : List Int32), pEv fa (a ++ b) st = pEv fa b (pEv fa a st)
  | [], _, _ => rfl
  | c :: a, b, st => by
    simp only [List.cons_append, pEv]
    exact pEv_app fa a b _
end
section
/-! the model's reading: what its scratch fields hold -/
/-- text at hand: bytes bt of length n from fr on -/
def pM (z : xMem) (bt : Nat → Nat) (n fr : Nat) : Prop := z.1 0 22 = nI fr ∧ z.1 0 23 = nI n ∧ (∀ i, i < n → z.1 1 (fr + i) = nI (bt i)) ∧ (∀ i, bt i < 256) ∧ fr + n ≤ 960 ∧ n ≤ 160
/-- nothing changed but what reading uses -/
def pK (z z' : xMem) : Prop := (∀ q, q ≠ 0 → z'.1 q = z.1 q) ∧ (∀ j, (j < 24 ∨ 30 < j) → z'.1 0 j = z.1 0 j)
theorem pK_rf (z : xMem) : pK z z := ⟨fun _ _ => rfl, fun _ _ => rfl⟩
theorem pK_tr {a b c : xMem} (h1 : pK a b) (h2 : pK b c) : pK a c := ⟨fun q h => (h2.1 q h).trans (h1.1 q h), fun j h => (h2.2 j h).trans (h1.2 j h)⟩
theorem pK_put {a b : xMem} (h : pK a b) {j : Nat} (x : Int32) (hj : 24 ≤ j ∧ j ≤ 30) : pK a (mPut b 0 j x) := by
  refine ⟨fun q hq => ?_, fun i hi => ?_⟩
  · show (xUp b.1 0 (upd (b.1 0) j x)) q = _
    rw [xUp_ne hq]
    exact h.1 q hq
  · show (xUp b.1 0 (upd (b.1 0) j x)) 0 i = _
    rw [xUp_eq]
    show (if i = j then x else b.1 0 i) = _
    rw [if_neg (by omega)]
    exact h.2 i hi
theorem pK_putL {a b : xMem} (h : pK a b) {j : Nat} (x : Int64) : pK a (mPutL b 0 j x) := h
theorem pM_K {z z' : xMem} {bt : Nat → Nat} {n fr : Nat} (hk : pK z z') (h : pM z bt n fr) : pM z' bt n fr := by
  obtain ⟨h1, h2, h3, h4⟩ := h
  exact ⟨(hk.2 22 (by omega)).trans h1, (hk.2 23 (by omega)).trans h2, fun i hi => by rw [hk.1 1 (by omega)]; exact h3 i hi, h4⟩
/-- the byte at a place, -1 behind the end -/
def pB (bt : Nat → Nat) (n i : Nat) : Int32 := if i < n then nI (bt i) else -1
theorem pB_in {bt : Nat → Nat} {n i : Nat} (h : i < n) : pB bt n i = nI (bt i) := if_pos h
theorem pB_out {bt : Nat → Nat} {n i : Nat} (h : ¬ i < n) : pB bt n i = -1 := if_neg h
theorem pB_rng {bt : Nat → Nat} {n i : Nat} (hb : ∀ i, bt i < 256) (lo hi : Nat) (h1 : hi < 256) : ((lo : Int) ≤ (pB bt n i).toInt ∧ (pB bt n i).toInt ≤ hi) ↔ (i < n ∧ lo ≤ bt i ∧ bt i ≤ hi) := by
  have := hb i
  by_cases h : i < n
  · rw [pB_in h, sTI (by omega)]
    omega
  · rw [pB_out h]
    have : (-1 : Int32).toInt = -1 := by decide
    omega
theorem pB_eq {bt : Nat → Nat} {n i : Nat} (hb : ∀ i, bt i < 256) (c : Nat) (hc : c < 256) : pB bt n i = nI c ↔ (i < n ∧ bt i = c) := by
  have := hb i
  by_cases h : i < n
  · rw [pB_in h, sEQ (by omega) (by omega)]
    omega
  · rw [pB_out h]
    have h2 : ∀ c, c < 256 → ¬ (-1 : Int32) = nI c := by decide +kernel
    exact ⟨fun q => absurd q (h2 c hc), fun q => absurd q.1 h⟩
/-- nothing changed but the token at hand -/
def pK4 (z z' : xMem) : Prop := (∀ q, q ≠ 0 → z'.1 q = z.1 q) ∧ (∀ j, (j < 24 ∨ 26 < j) → z'.1 0 j = z.1 0 j)
theorem pK4_rf (z : xMem) : pK4 z z := ⟨fun _ _ => rfl, fun _ _ => rfl⟩
theorem pK4_put {a b : xMem} (h : pK4 a b) {j : Nat} (x : Int32) (hj : 24 ≤ j ∧ j ≤ 26) : pK4 a (mPut b 0 j x) := by
  refine ⟨fun q hq => ?_, fun i hi => ?_⟩
  · show (xUp b.1 0 (upd (b.1 0) j x)) q = _
    rw [xUp_ne hq]
    exact h.1 q hq
  · show (xUp b.1 0 (upd (b.1 0) j x)) 0 i = _
    rw [xUp_eq]
    show (if i = j then x else b.1 0 i) = _
    rw [if_neg (by omega)]
    exact h.2 i hi
theorem pK4_putL {a b : xMem} (h : pK4 a b) {j : Nat} (x : Int64) : pK4 a (mPutL b 0 j x) := h
theorem pK4_K {a b : xMem} (h : pK4 a b) : pK a b := ⟨h.1, fun j hj => h.2 j (by omega)⟩
/-- the token at hand is that from pos on -/
def tkM (z : xMem) (bt : Nat → Nat) (n pos : Nat) : Prop :=
  z.1 0 26 = nI (pTok bt n pos).2.1 ∧ ((n ≤ (pTok bt n pos).2.1 ∧ z.1 0 25 = 0 ∧ z.1 0 24 = nI (pTok bt n pos).2.2) ∨
  ((pTok bt n pos).2.1 < n ∧ pLe (bt (pTok bt n pos).2.1) = true ∧ z.1 0 25 = 1 ∧ z.1 0 24 = nI (pTok bt n pos).2.2) ∨
  ((pTok bt n pos).2.1 < n ∧ pLe (bt (pTok bt n pos).2.1) = false ∧ pDi (bt (pTok bt n pos).2.1) = true ∧ (((pTok bt n pos).1 < 10000 ∧ z.1 0 25 = 2 ∧ z.2.1 0 27 = lN (pTok bt n pos).1) ∨ ((pTok bt n pos).1 = 10022 ∧ z.1 0 25 = 4)) ∧ z.1 0 24 = nI (pTok bt n pos).2.2) ∨
  ((pTok bt n pos).2.1 < n ∧ pLe (bt (pTok bt n pos).2.1) = false ∧ pDi (bt (pTok bt n pos).2.1) = false ∧ (((pTok bt n pos).1 ≠ 10022 ∧ z.1 0 25 = 3 ∧ z.2.1 0 27 = lN (bt (pTok bt n pos).2.1) ∧ z.1 0 24 = nI (pTok bt n pos).2.2) ∨ ((pTok bt n pos).1 = 10022 ∧ z.1 0 25 = 4))))
theorem pTok_a (bt : Nat → Nat) (n pos : Nat) : (pTok bt n pos).2.1 = pRun pBl bt n pos := by
  simp only [pTok]
  split
  · rfl
  · split
    · rfl
    · split <;> rfl
theorem pTok_end {bt : Nat → Nat} {n pos : Nat} (h : n ≤ pRun pBl bt n pos) : pTok bt n pos = (10021, pRun pBl bt n pos, pRun pBl bt n pos) := by
  simp only [pTok, if_pos h]
theorem pTok_word {bt : Nat → Nat} {n pos a : Nat} (ha : pRun pBl bt n pos = a) (h : a < n) (hl : pLe (bt a) = true) : pTok bt n pos = (pWd bt a (pRun pLe bt n a) pWords, a, pRun pLe bt n a) := by
  simp only [pTok, ha]
  rw [if_neg (by omega), if_pos hl]
theorem pTok_dig {bt : Nat → Nat} {n pos a : Nat} (ha : pRun pBl bt n pos = a) (h : a < n) (hl : pLe (bt a) = false) (hd : pDi (bt a) = true) : pTok bt n pos = (if 4 < pRun pDi bt n a - a then 10022 else pVal bt a (pRun pDi bt n a - a), a, pRun pDi bt n a) := by
  simp only [pTok, ha]
  rw [if_neg (by omega), if_neg (by simp [hl]), if_pos hd]
theorem pTok_sig {bt : Nat → Nat} {n pos a : Nat} (ha : pRun pBl bt n pos = a) (h : a < n) (hl : pLe (bt a) = false) (hd : pDi (bt a) = false) : pTok bt n pos = (pSg (bt a), a, a + 1) := by
  simp only [pTok, ha]
  rw [if_neg (by omega), if_neg (by simp [hl]), if_neg (by simp [hd])]
theorem pVal_lt (bt : Nat → Nat) (a : Nat) : ∀ k, (∀ i, i < k → bt (a + i) ≤ 57) → pVal bt a k < 10 ^ k
  | 0, _ => Nat.one_pos
  | k + 1, hd => by
    have h := pVal_lt bt a k (fun i hi => hd i (by omega))
    have := hd k (by omega)
    simp only [pVal]
    rw [Nat.pow_succ]
    omega
theorem pLe_iff {c : Nat} : pLe c = true ↔ 97 ≤ c ∧ c ≤ 122 := by simp [pLe]
theorem pDi_iff {c : Nat} : pDi c = true ↔ 48 ≤ c ∧ c ≤ 57 := by simp [pDi]
theorem pLe_no {c : Nat} : pLe c = false ↔ ¬ (97 ≤ c ∧ c ≤ 122) := by
  rw [← pLe_iff]; simp
theorem pDi_no {c : Nat} : pDi c = false ↔ ¬ (48 ≤ c ∧ c ≤ 57) := by
  rw [← pDi_iff]; simp
theorem pBl_iff {c : Nat} : pBl c = true ↔ c = 32 ∨ c = 10 := by simp [pBl]
/-- all of a run holds P -/
theorem pRun_all {P : Nat → Bool} {bt : Nat → Nat} {n : Nat} : ∀ (k a : Nat), n - a ≤ k → ∀ i, a ≤ i → i < pRun P bt n a → P (bt i) = true
  | 0, a, h, i, h1, h2 => by
    rw [pRun_end (by omega)] at h2
    omega
  | k + 1, a, h, i, h1, h2 => by
    by_cases hc : a < n ∧ P (bt a) = true
    · rw [pRun_go hc.1 hc.2] at h2
      by_cases hi : i = a
      · rw [hi]; exact hc.2
      · exact pRun_all k (a + 1) (by omega) i (by omega) h2
    · rw [pRun_end hc] at h2
      omega
end
section
/-! tokens of the model -/
set_option maxHeartbeats 4000000 in
set_option maxRecDepth 20000 in
theorem t_X6_byteAt (l : Launch) (d : Nat) (z : xMem) (bt : Nat → Nat) (n fr : Nat) (hpm : pM z bt n fr) (i : Nat) (hi : i < 2 ^ 30) : XMi l d yX6_byteAt cX6_byteAt 2 (some .int) shM [.ref 0, .int (nI i)] z (fun v z' => v = pB bt n i ∧ z' = z) := by
  refine XM.of (by decide) (Nat.le_of_ble_eq_true rfl) (fun xp xe xs xm xar xbl xme xc xD xcs xad xAA xCC xhr => ?_)
  generalize xhQ : MQ xbl _ xar xs 0 0 xAA = xQ
  show ww xp l xe (xRm d) xs xm xar xbl xme xc 2 xD xcs xad shM xAA xQ 0 [(0, .ref 0), (1, .int (nI i))] [] z
  obtain ⟨g1, g2, g3, g4, g5, g6⟩ := hpm
  refine ww_blk xCC okX6_byteAt 0 3 (ps := []) (pc' := 5) (lv' := [(0, .ref 0), (1, .int (nI i))]) (st' := [.int (z.1 0 23), .int (nI i)]) (z' := z) rfl trivial ?_
  rw [g2]
  refine ww_br xCC okX6_byteAt 3 (P := (nI n) ≤ (nI i)) (t1 := 22) (t2 := 8) (r := []) rfl (fun c1 => ?_) (fun c1 => ?_)
  · skip
    replace c1 : n ≤ i := (sLE (a := n) (b := i) (by omega) (by omega)).mp c1
    refine ww_blk xCC okX6_byteAt 12 1 (ps := []) (pc' := 23) (lv' := [(0, .ref 0), (1, .int (nI i))]) (st' := [.int (-1)]) (z' := z) rfl trivial ?_
    subst xhQ
    exact ww_iret xCC okX6_byteAt 13 xhr rfl rfl ⟨_, rfl, ⟨(by rw [pB_out (by omega)]), rfl⟩⟩
  · skip
    replace c1 : ¬ n ≤ i := fun q => c1 ((sLE (a := n) (b := i) (by omega) (by omega)).mpr q)
    refine ww_blk xCC okX6_byteAt 4 8 (ps := [vp_in ((z.1 0 22) + (nI i)) 960]) (pc' := 23) (lv' := [(0, .ref 0), (1, .int (nI i))]) (st' := [.int (z.1 1 ((z.1 0 22) + (nI i)).toNatClampNeg)]) (z' := z) rfl (by rw [g1, nI_add]; exact vp_in_nI (by omega) (by decide)) ?_
    rw [g1]
    rw [nI_add fr i]
    rw [sCL (n := (fr + i)) (by omega)]
    subst xhQ
    exact ww_iret xCC okX6_byteAt 13 xhr rfl rfl ⟨_, rfl, ⟨(by rw [pB_in (by omega)]; exact g3 i (by omega)), rfl⟩⟩

set_option maxHeartbeats 4000000 in
set_option maxRecDepth 20000 in
theorem t_X6_fail (l : Launch) (d : Nat) (z : xMem) : XMv l d yX6_fail cX6_fail 1 none shM [.ref 0] z (fun z' => z' = if z.1 0 29 = 0 then mPut (mPut z 0 29 1) 0 30 (z.1 0 26) else z) := by
  refine XM.of (by decide) (Nat.le_of_ble_eq_true rfl) (fun xp xe xs xm xar xbl xme xc xD xcs xad xAA xCC xhr => ?_)
  generalize xhQ : MQ xbl _ xar xs 0 0 xAA = xQ
  show ww xp l xe (xRm d) xs xm xar xbl xme xc 1 xD xcs xad shM xAA xQ 0 [(0, .ref 0)] [] z
  refine ww_blk xCC okX6_fail 0 2 (ps := []) (pc' := 4) (lv' := [(0, .ref 0)]) (st' := [.int (z.1 0 29)]) (z' := z) rfl trivial ?_
  refine ww_br xCC okX6_fail 2 (P := (z.1 0 29) = 0) (t1 := 7) (t2 := 20) (r := []) rfl (fun c1 => ?_) (fun c1 => ?_)
  · skip
    refine ww_blk xCC okX6_fail 3 7 (ps := [1 = 0 ∨ 1 = 1]) (pc' := 20) (lv' := [(0, .ref 0)]) (st' := []) (z' := (mPut (mPut z 0 29 1) 0 30 (z.1 0 26))) rfl (Or.inr rfl) ?_
    subst xhQ
    exact ww_vret xCC okX6_fail 10 xhr rfl ⟨rfl, (by rw [if_pos (by assumption)])⟩
  · skip
    subst xhQ
    exact ww_vret xCC okX6_fail 10 xhr rfl ⟨rfl, (by rw [if_neg (by assumption)])⟩

set_option maxHeartbeats 4000000 in
set_option maxRecDepth 20000 in
theorem t_X6_next (l : Launch) (d : Nat) (z : xMem) (bt : Nat → Nat) (n fr : Nat) (hpm : pM z bt n fr) (pos : Nat) (hpos : pos ≤ n) (hh : z.1 0 24 = nI pos) : XMv l (d + 1) yX6_next cX6_next 3 none shM [.ref 0] z (fun z' => pK4 z z' ∧ tkM z' bt n pos) := by
  refine XM.of (by decide) (Nat.le_of_ble_eq_true rfl) (fun xp xe xs xm xar xbl xme xc xD xcs xad xAA xCC xhr => ?_)
  generalize xhQ : MQ xbl _ xar xs 0 0 xAA = xQ
  show ww xp l xe (xRm (d + 1)) xs xm xar xbl xme xc 3 xD xcs xad shM xAA xQ 0 [(0, .ref 0)] [] z
  have g4 := hpm.2.2.2.1
  have g6 := hpm.2.2.2.2.2
  have L0 : ∀ (n0 : Nat) (a : Nat) (za : xMem), n - a < n0 → (pos ≤ a ∧ a ≤ n) → (pRun pBl bt n a = pRun pBl bt n pos) → (pK4 z za) → (za.1 0 24 = nI a) → ww xp l xe (xRm (d + 1)) xs xm xar xbl xme xc 3 xD xcs xad shM xAA xQ 0 [(0, .ref 0)] [] za := by
    intro n0
    induction n0 with
    | zero =>
      intro a za hmu0
      exact absurd hmu0 (Nat.not_lt_zero _)
    | succ n0 ih0 =>
      intro a za hmu0 e0_0 e0_1 e0_2 e0_3
      refine ww_blk xCC okX6_next 0 3 (ps := []) (pc' := 5) (lv' := [(0, .ref 0)]) (st' := [.int (za.1 0 24), .ref 0]) (z' := za) rfl trivial ?_
      rw [e0_3]
      refine ww_callVIi xCC okX6_next 3 (ix := 153) (t_X6_byteAt l d za bt n fr (pM_K (pK4_K e0_2) hpm) a (by omega)) (by omega) (by decide) xyX6_byteAt xiX6_byteAt (Or.inl (lw_gt_of (List.mem_of_getElem? (i := 1015) (by decide +kernel)) rfl)) rfl rfl rfl (rest := []) rfl (Nat.le_of_ble_eq_true rfl) rfl (fun v3 z1 h2 => ?_)
      rw [h2.1, h2.2]
      refine ww_blk xCC okX6_next 4 1 (ps := []) (pc' := 10) (lv' := [(0, .ref 0)]) (st' := [.int 32, .int (pB bt n a)]) (z' := za) rfl trivial ?_
      refine ww_br xCC okX6_next 5 (P := (pB bt n a) = 32) (t1 := 26) (t2 := 13) (r := []) rfl (fun c4 => ?_) (fun c4 => ?_)
      · skip
        have hb : a < n ∧ bt a = 32 := (pB_eq g4 32 (by decide)).mp c4
        have hbl : pBl (bt a) = true := pBl_iff.mpr (Or.inl hb.2)
        refine ww_blk xCC okX6_next 12 7 (ps := []) (pc' := 0) (lv' := [(0, .ref 0)]) (st' := []) (z' := (mPut za 0 24 ((za.1 0 24) + 1))) rfl trivial ?_
        rw [e0_3]
        rw [nI_1 a]
        exact ww_cut [0] (xlc rfl rfl) rfl rfl (ih0 (a + 1) (mPut za 0 24 (nI (a + 1))) (by omega) (by omega) ((pRun_go hb.1 hbl).symm.trans e0_1) (pK4_put e0_2 _ (by omega)) rfl)
      · skip
        have hc32 := c4
        refine ww_blk xCC okX6_next 6 3 (ps := []) (pc' := 18) (lv' := [(0, .ref 0)]) (st' := [.int (za.1 0 24), .ref 0]) (z' := za) rfl trivial ?_
        rw [e0_3]
        refine ww_callVIi xCC okX6_next 9 (ix := 153) (t_X6_byteAt l d za bt n fr (pM_K (pK4_K e0_2) hpm) a (by omega)) (by omega) (by decide) xyX6_byteAt xiX6_byteAt (Or.inl (lw_gt_of (List.mem_of_getElem? (i := 1015) (by decide +kernel)) rfl)) rfl rfl rfl (rest := []) rfl (Nat.le_of_ble_eq_true rfl) rfl (fun v7 z5 h6 => ?_)
        rw [h6.1, h6.2]
        refine ww_blk xCC okX6_next 10 1 (ps := []) (pc' := 23) (lv' := [(0, .ref 0)]) (st' := [.int 10, .int (pB bt n a)]) (z' := za) rfl trivial ?_
        refine ww_br xCC okX6_next 11 (P := (pB bt n a) = 10) (t1 := 26) (t2 := 39) (r := []) rfl (fun c8 => ?_) (fun c8 => ?_)
        · skip
          have hb : a < n ∧ bt a = 10 := (pB_eq g4 10 (by decide)).mp c8
          have hbl : pBl (bt a) = true := pBl_iff.mpr (Or.inr hb.2)
          refine ww_blk xCC okX6_next 12 7 (ps := []) (pc' := 0) (lv' := [(0, .ref 0)]) (st' := []) (z' := (mPut za 0 24 ((za.1 0 24) + 1))) rfl trivial ?_
          rw [e0_3]
          rw [nI_1 a]
          exact ww_cut [0] (xlc rfl rfl) rfl rfl (ih0 (a + 1) (mPut za 0 24 (nI (a + 1))) (by omega) (by omega) ((pRun_go hb.1 hbl).symm.trans e0_1) (pK4_put e0_2 _ (by omega)) rfl)
        · skip
          have ha : pRun pBl bt n pos = a := by
            rw [← e0_1]
            refine pRun_end (fun q => ?_)
            rcases pBl_iff.mp q.2 with q2 | q2
            · exact hc32 ((pB_eq g4 32 (by decide)).mpr ⟨q.1, q2⟩)
            · exact c8 ((pB_eq g4 10 (by decide)).mpr ⟨q.1, q2⟩)
          refine ww_blk xCC okX6_next 19 7 (ps := []) (pc' := 52) (lv' := [(0, .ref 0)]) (st' := [.int (za.1 0 24), .ref 0]) (z' := (mPut za 0 26 (za.1 0 24))) rfl trivial ?_
          rw [e0_3]
          refine ww_callVIi xCC okX6_next 26 (ix := 153) (t_X6_byteAt l d (mPut za 0 26 (nI a)) bt n fr (pM_K (pK4_K (pK4_put e0_2 _ (by omega))) hpm) a (by omega)) (by omega) (by decide) xyX6_byteAt xiX6_byteAt (Or.inl (lw_gt_of (List.mem_of_getElem? (i := 1015) (by decide +kernel)) rfl)) rfl rfl rfl (rest := []) rfl (Nat.le_of_ble_eq_true rfl) rfl (fun v11 z9 h10 => ?_)
          rw [h10.1, h10.2]
          refine ww_blk xCC okX6_next 27 5 (ps := []) (pc' := 62) (lv' := [(1, .int (pB bt n a)), (0, .ref 0)]) (st' := [.int (pB bt n a)]) (z' := (mPut (mPut za 0 26 (nI a)) 0 25 4)) rfl trivial ?_
          refine ww_br xCC okX6_next 32 (P := 0 ≤ (pB bt n a)) (t1 := 81) (t2 := 65) (r := []) rfl (fun c12 => ?_) (fun c12 => ?_)
          · skip
            have han : a < n := by
              rcases Nat.lt_or_ge a n with q | q
              · exact q
              · rw [pB_out (by omega)] at c12
                exact absurd c12 (by decide)
            refine ww_blk xCC okX6_next 41 4 (ps := []) (pc' := 89) (lv' := [(1, .int (pB bt n a)), (0, .ref 0)]) (st' := [.long 122, .long 97, .long ((pB bt n a).toInt64)]) (z' := (mPut (mPut za 0 26 (nI a)) 0 25 4)) rfl trivial ?_
            refine ww_callSNz xCC okX6_next 45 (ix := 82) (t_X6_in l d ((pB bt n a).toInt64) 97 122 ((pB bt n a).toInt) 97 122 (Int32.toInt_toInt64 _) rfl rfl  _) (by omega) (by decide) xyX6_in xiX6_in (Or.inl (lw_gt_of (List.mem_of_getElem? (i := 958) (by decide +kernel)) rfl)) rfl (rest := []) rfl (Nat.le_of_ble_eq_true rfl) rfl (fun z13 h14 => ?_) (fun z13 h14 => ?_)
            · skip
              have h14 : 97 ≤ (pB bt n a).toInt ∧ (pB bt n a).toInt ≤ 122 := h14
              have hw := (pB_rng g4 97 122 (by decide)).mp h14
              refine ww_br xCC okX6_next 46 (P := 1 = 0) (t1 := 134) (t2 := 95) (r := []) rfl (fun q => absurd q (by decide)) (fun _ => ?_)
              refine ww_blk xCC okX6_next 47 3 (ps := []) (pc' := 100) (lv' := [(1, .int (pB bt n a)), (0, .ref 0)]) (st' := []) (z' := (mPut (mPut (mPut za 0 26 (nI a)) 0 25 4) 0 25 1)) rfl trivial ?_
              have L100 : ∀ (n100 : Nat) (b : Nat) (zw : xMem), n - b < n100 → (a ≤ b ∧ b ≤ n) → (pRun pLe bt n b = pRun pLe bt n a) → (pK4 z zw) → (zw.1 0 24 = nI b) → (zw.1 0 25 = 1) → (zw.1 0 26 = nI a) → ww xp l xe (xRm (d + 1)) xs xm xar xbl xme xc 3 xD xcs xad shM xAA xQ 100 [(0, .ref 0)] [] zw := by
                intro n100
                induction n100 with
                | zero =>
                  intro b zw hmu100
                  exact absurd hmu100 (Nat.not_lt_zero _)
                | succ n100 ih100 =>
                  intro b zw hmu100 e100_0 e100_1 e100_2 e100_3 e100_4 e100_5
                  refine ww_blk xCC okX6_next 50 3 (ps := []) (pc' := 105) (lv' := [(0, .ref 0)]) (st' := [.int (zw.1 0 24), .ref 0]) (z' := zw) rfl trivial ?_
                  rw [e100_3]
                  refine ww_callVIi xCC okX6_next 53 (ix := 153) (t_X6_byteAt l d zw bt n fr (pM_K (pK4_K e100_2) hpm) b (by omega)) (by omega) (by decide) xyX6_byteAt xiX6_byteAt (Or.inl (lw_gt_of (List.mem_of_getElem? (i := 1015) (by decide +kernel)) rfl)) rfl rfl rfl (rest := []) rfl (Nat.le_of_ble_eq_true rfl) rfl (fun v18 z16 h17 => ?_)
                  rw [h17.1, h17.2]
                  refine ww_blk xCC okX6_next 54 3 (ps := []) (pc' := 115) (lv' := [(0, .ref 0)]) (st' := [.long 122, .long 97, .long ((pB bt n b).toInt64)]) (z' := zw) rfl trivial ?_
                  refine ww_callSNz xCC okX6_next 57 (ix := 82) (t_X6_in l d ((pB bt n b).toInt64) 97 122 ((pB bt n b).toInt) 97 122 (Int32.toInt_toInt64 _) rfl rfl  _) (by omega) (by decide) xyX6_in xiX6_in (Or.inl (lw_gt_of (List.mem_of_getElem? (i := 958) (by decide +kernel)) rfl)) rfl (rest := []) rfl (Nat.le_of_ble_eq_true rfl) rfl (fun z19 h20 => ?_) (fun z19 h20 => ?_)
                  · skip
                    have h20 : 97 ≤ (pB bt n b).toInt ∧ (pB bt n b).toInt ≤ 122 := h20
                    have hw2 := (pB_rng g4 97 122 (by decide)).mp h20
                    refine ww_br xCC okX6_next 58 (P := 1 = 0) (t1 := 321) (t2 := 121) (r := []) rfl (fun q => absurd q (by decide)) (fun _ => ?_)
                    refine ww_blk xCC okX6_next 59 7 (ps := []) (pc' := 100) (lv' := [(0, .ref 0)]) (st' := []) (z' := (mPut zw 0 24 ((zw.1 0 24) + 1))) rfl trivial ?_
                    rw [e100_3]
                    rw [nI_1 b]
                    exact ww_cut [0] (xlc rfl rfl) rfl rfl (ih100 (b + 1) (mPut zw 0 24 (nI (b + 1))) (by omega) (by omega) ((pRun_go hw2.1 (pLe_iff.mpr hw2.2)).symm.trans e100_1) (pK4_put e100_2 _ (by omega)) rfl e100_4 e100_5)
                  · skip
                    have h20 : ¬ (97 ≤ (pB bt n b).toInt ∧ (pB bt n b).toInt ≤ 122) := h20
                    have hx : ¬ (b < n ∧ pLe (bt b) = true) := fun q => h20 ((pB_rng g4 97 122 (by decide)).mpr ⟨q.1, pLe_iff.mp q.2⟩)
                    refine ww_br xCC okX6_next 58 (P := 0 = 0) (t1 := 321) (t2 := 121) (r := []) rfl (fun _ => ?_) (fun q => absurd (by decide) q)
                    subst xhQ
                    exact ww_vret xCC okX6_next 163 xhr rfl ⟨rfl, ⟨e100_2, (by have e : pTok bt n pos = (pWd bt a b pWords, a, b) := by { rw [pTok_word ha han (pLe_iff.mpr hw.2), ← e100_1, pRun_end hx] }; unfold tkM; rw [e]; exact ⟨e100_5, Or.inr (Or.inl ⟨han, pLe_iff.mpr hw.2, e100_4, e100_3⟩)⟩)⟩⟩
              exact ww_cut [1] (xlc rfl rfl) rfl rfl (L100 (n - a + 1) a (mPut (mPut (mPut za 0 26 (nI a)) 0 25 4) 0 25 1) (Nat.lt_succ_self _) (by omega) rfl (pK4_put (pK4_put (pK4_put e0_2 _ (by omega)) _ (by omega)) _ (by omega)) e0_3 rfl rfl)
            · skip
              have h14 : ¬ (97 ≤ (pB bt n a).toInt ∧ (pB bt n a).toInt ≤ 122) := h14
              have hle : pLe (bt a) = false := pLe_no.mpr (fun q => h14 ((pB_rng g4 97 122 (by decide)).mpr ⟨han, q⟩))
              refine ww_br xCC okX6_next 46 (P := 0 = 0) (t1 := 134) (t2 := 95) (r := []) rfl (fun _ => ?_) (fun q => absurd (by decide) q)
              refine ww_blk xCC okX6_next 66 4 (ps := []) (pc' := 142) (lv' := [(1, .int (pB bt n a)), (0, .ref 0)]) (st' := [.long 57, .long 48, .long ((pB bt n a).toInt64)]) (z' := (mPut (mPut za 0 26 (nI a)) 0 25 4)) rfl trivial ?_
              refine ww_callSNz xCC okX6_next 70 (ix := 82) (t_X6_in l d ((pB bt n a).toInt64) 48 57 ((pB bt n a).toInt) 48 57 (Int32.toInt_toInt64 _) rfl rfl  _) (by omega) (by decide) xyX6_in xiX6_in (Or.inl (lw_gt_of (List.mem_of_getElem? (i := 958) (by decide +kernel)) rfl)) rfl (rest := []) rfl (Nat.le_of_ble_eq_true rfl) rfl (fun z24 h25 => ?_) (fun z24 h25 => ?_)
              · skip
                have h25 : 48 ≤ (pB bt n a).toInt ∧ (pB bt n a).toInt ≤ 57 := h25
                have hdi := (pB_rng g4 48 57 (by decide)).mp h25
                refine ww_br xCC okX6_next 71 (P := 1 = 0) (t1 := 252) (t2 := 148) (r := []) rfl (fun q => absurd q (by decide)) (fun _ => ?_)
                refine ww_blk xCC okX6_next 72 8 (ps := []) (pc' := 160) (lv' := [(2, .int 0), (1, .int (pB bt n a)), (0, .ref 0)]) (st' := []) (z' := (mPutL (mPut (mPut (mPut za 0 26 (nI a)) 0 25 4) 0 25 2) 0 27 0)) rfl trivial ?_
                have L160 : ∀ (n160 : Nat) (b : Nat) (k : Nat) (zd : xMem), n - b < n160 → (a ≤ b ∧ b ≤ n) → (b = a + k) → (pRun pDi bt n b = pRun pDi bt n a) → (pK4 z zd) → (zd.1 0 24 = nI b) → (zd.1 0 26 = nI a) → (k ≤ 4 → zd.2.1 0 27 = lN (pVal bt a k)) → ww xp l xe (xRm (d + 1)) xs xm xar xbl xme xc 3 xD xcs xad shM xAA xQ 160 [(2, .int (nI k)), (0, .ref 0)] [] zd := by
                  intro n160
                  induction n160 with
                  | zero =>
                    intro b k zd hmu160
                    exact absurd hmu160 (Nat.not_lt_zero _)
                  | succ n160 ih160 =>
                    intro b k zd hmu160 e160_0 e160_1 e160_2 e160_3 e160_4 e160_5 e160_6
                    refine ww_blk xCC okX6_next 80 3 (ps := []) (pc' := 165) (lv' := [(2, .int (nI k)), (0, .ref 0)]) (st' := [.int (zd.1 0 24), .ref 0]) (z' := zd) rfl trivial ?_
                    rw [e160_4]
                    refine ww_callVIi xCC okX6_next 83 (ix := 153) (t_X6_byteAt l d zd bt n fr (pM_K (pK4_K e160_3) hpm) b (by omega)) (by omega) (by decide) xyX6_byteAt xiX6_byteAt (Or.inl (lw_gt_of (List.mem_of_getElem? (i := 1015) (by decide +kernel)) rfl)) rfl rfl rfl (rest := []) rfl (Nat.le_of_ble_eq_true rfl) rfl (fun v29 z27 h28 => ?_)
                    rw [h28.1, h28.2]
                    refine ww_blk xCC okX6_next 84 3 (ps := []) (pc' := 175) (lv' := [(2, .int (nI k)), (0, .ref 0)]) (st' := [.long 57, .long 48, .long ((pB bt n b).toInt64)]) (z' := zd) rfl trivial ?_
                    refine ww_callSNz xCC okX6_next 87 (ix := 82) (t_X6_in l d ((pB bt n b).toInt64) 48 57 ((pB bt n b).toInt) 48 57 (Int32.toInt_toInt64 _) rfl rfl  _) (by omega) (by decide) xyX6_in xiX6_in (Or.inl (lw_gt_of (List.mem_of_getElem? (i := 958) (by decide +kernel)) rfl)) rfl (rest := []) rfl (Nat.le_of_ble_eq_true rfl) rfl (fun z30 h31 => ?_) (fun z30 h31 => ?_)
                    · skip
                      have h31 : 48 ≤ (pB bt n b).toInt ∧ (pB bt n b).toInt ≤ 57 := h31
                      have hd2 := (pB_rng g4 48 57 (by decide)).mp h31
                      refine ww_br xCC okX6_next 88 (P := 1 = 0) (t1 := 235) (t2 := 181) (r := []) rfl (fun q => absurd q (by decide)) (fun _ => ?_)
                      refine ww_blk xCC okX6_next 89 3 (ps := []) (pc' := 184) (lv' := [(2, .int (nI k)), (0, .ref 0)]) (st' := [.int 4, .int (nI k), .ref 0]) (z' := zd) rfl trivial ?_
                      refine ww_br xCC okX6_next 92 (P := 4 ≤ (nI k)) (t1 := 212) (t2 := 187) (r := [.ref 0]) rfl (fun c33 => ?_) (fun c33 => ?_)
                      · skip
                        replace c33 : 4 ≤ k := (sLE (a := 4) (b := k) (by omega) (by omega)).mp c33
                        refine ww_blk xCC okX6_next 106 11 (ps := []) (pc' := 160) (lv' := [(2, .int ((nI k) + 1)), (0, .ref 0)]) (st' := []) (z' := (mPut (mPutL zd 0 27 (zd.2.1 0 27)) 0 24 ((zd.1 0 24) + 1))) rfl trivial ?_
                        rw [nI_1 k]
                        rw [e160_4]
                        rw [nI_1 b]
                        exact ww_cut [0, 1] (xlc rfl (xlc rfl rfl)) rfl rfl (ih160 (b + 1) (k + 1) (mPut (mPutL zd 0 27 (zd.2.1 0 27)) 0 24 (nI (b + 1))) (by omega) (by omega) (by omega) ((pRun_go hd2.1 (pDi_iff.mpr hd2.2)).symm.trans e160_2) (pK4_put (pK4_putL e160_3 _) _ (by omega)) rfl e160_5 (fun q => absurd q (by omega)))
                      · skip
                        replace c33 : ¬ 4 ≤ k := fun q => c33 ((sLE (a := 4) (b := k) (by omega) (by omega)).mpr q)
                        refine ww_blk xCC okX6_next 93 7 (ps := []) (pc' := 200) (lv' := [(2, .int (nI k)), (0, .ref 0)]) (st' := [.int (zd.1 0 24), .ref 0, .long (10 * (zd.2.1 0 27)), .ref 0]) (z' := zd) rfl trivial ?_
                        rw [e160_4]
                        refine ww_callVIi xCC okX6_next 100 (ix := 153) (t_X6_byteAt l d zd bt n fr (pM_K (pK4_K e160_3) hpm) b (by omega)) (by omega) (by decide) xyX6_byteAt xiX6_byteAt (Or.inl (lw_gt_of (List.mem_of_getElem? (i := 1015) (by decide +kernel)) rfl)) rfl rfl rfl (rest := [.long (10 * (zd.2.1 0 27)), .ref 0]) rfl (Nat.le_of_ble_eq_true rfl) rfl (fun v36 z34 h35 => ?_)
                        rw [h35.1, h35.2]
                        refine ww_blk xCC okX6_next 101 5 (ps := []) (pc' := 216) (lv' := [(2, .int (nI k)), (0, .ref 0)]) (st' := [.long (((10 * (zd.2.1 0 27)) + ((pB bt n b).toInt64)) - 48), .ref 0]) (z' := zd) rfl trivial ?_
                        refine ww_blk xCC okX6_next 108 9 (ps := []) (pc' := 160) (lv' := [(2, .int ((nI k) + 1)), (0, .ref 0)]) (st' := []) (z' := (mPut (mPutL zd 0 27 (((10 * (zd.2.1 0 27)) + ((pB bt n b).toInt64)) - 48)) 0 24 ((zd.1 0 24) + 1))) rfl trivial ?_
                        rw [nI_1 k]
                        rw [e160_4]
                        rw [nI_1 b]
                        exact ww_cut [0, 1] (xlc rfl (xlc rfl rfl)) rfl rfl (ih160 (b + 1) (k + 1) (mPut (mPutL zd 0 27 (((10 * (zd.2.1 0 27)) + ((pB bt n b).toInt64)) - 48)) 0 24 (nI (b + 1))) (by omega) (by omega) (by omega) ((pRun_go hd2.1 (pDi_iff.mpr hd2.2)).symm.trans e160_2) (pK4_put (pK4_putL e160_3 _) _ (by omega)) rfl e160_5 (fun q => by show (10 * zd.2.1 0 27 + (pB bt n b).toInt64 - 48 : Int64) = _; rw [e160_6 (by omega), pB_in hd2.1, nI_l (by have := g4 b; omega), show (10 : Int64) = lN 10 from rfl, show (48 : Int64) = lN 48 from rfl, lN_mul, lN_add, lN_sub (by omega), e160_1]; show lN _ = lN (10 * pVal bt a k + (bt (a + k) - 48)); congr 1; have h48 := hd2.2.1; rw [e160_1] at h48; omega))
                    · skip
                      have h31 : ¬ (48 ≤ (pB bt n b).toInt ∧ (pB bt n b).toInt ≤ 57) := h31
                      have hx : ¬ (b < n ∧ pDi (bt b) = true) := fun q => h31 ((pB_rng g4 48 57 (by decide)).mpr ⟨q.1, pDi_iff.mp q.2⟩)
                      refine ww_br xCC okX6_next 88 (P := 0 = 0) (t1 := 235) (t2 := 181) (r := []) rfl (fun _ => ?_) (fun q => absurd (by decide) q)
                      refine ww_blk xCC okX6_next 117 3 (ps := []) (pc' := 238) (lv' := [(2, .int (nI k)), (0, .ref 0)]) (st' := [.int 4, .int (nI k), .ref 0]) (z' := zd) rfl trivial ?_
                      refine ww_br xCC okX6_next 120 (P := (nI k) ≤ 4) (t1 := 245) (t2 := 241) (r := [.ref 0]) rfl (fun c38 => ?_) (fun c38 => ?_)
                      · skip
                        replace c38 : k ≤ 4 := (sLE (a := k) (b := 4) (by omega) (by omega)).mp c38
                        refine ww_blk xCC okX6_next 123 3 (ps := []) (pc' := 321) (lv' := [(2, .int (nI k)), (0, .ref 0)]) (st' := []) (z' := (mPut zd 0 25 2)) rfl trivial ?_
                        subst xhQ
                        exact ww_vret xCC okX6_next 163 xhr rfl ⟨rfl, ⟨(pK4_put e160_3 _ (by omega)), (by have e : pTok bt n pos = (if 4 < k then 10022 else pVal bt a k, a, b) := by { rw [pTok_dig ha han hle (pDi_iff.mpr hdi.2), ← e160_2, pRun_end hx, show b - a = k by omega] }; unfold tkM; rw [e]; refine ⟨e160_5, Or.inr (Or.inr (Or.inl ⟨han, hle, pDi_iff.mpr hdi.2, ?_, e160_4⟩))⟩; rw [if_neg (by omega)]; refine Or.inl ⟨?_, rfl, e160_6 (by omega)⟩; have hv := pVal_lt bt a k (fun i hi => by { have hq := pRun_all (P := pDi) (bt := bt) (n := n) (n - a) a (Nat.le_refl _) (a + i) (by omega) (by rw [← e160_2, pRun_end hx]; omega); rw [pDi_iff] at hq; exact hq.2 }); have hm : (10 : Nat) ^ k ≤ 10 ^ 4 := Nat.pow_le_pow_right (by decide) (by omega); exact Nat.lt_of_lt_of_le hv (Nat.le_trans hm (by decide)))⟩⟩
                      · skip
                        replace c38 : ¬ k ≤ 4 := fun q => c38 ((sLE (a := k) (b := 4) (by omega) (by omega)).mpr q)
                        refine ww_blk xCC okX6_next 121 2 (ps := []) (pc' := 246) (lv' := [(2, .int (nI k)), (0, .ref 0)]) (st' := [.int 4, .ref 0]) (z' := zd) rfl trivial ?_
                        refine ww_blk xCC okX6_next 124 2 (ps := []) (pc' := 321) (lv' := [(2, .int (nI k)), (0, .ref 0)]) (st' := []) (z' := (mPut zd 0 25 4)) rfl trivial ?_
                        subst xhQ
                        exact ww_vret xCC okX6_next 163 xhr rfl ⟨rfl, ⟨(pK4_put e160_3 _ (by omega)), (by have e : pTok bt n pos = (if 4 < k then 10022 else pVal bt a k, a, b) := by { rw [pTok_dig ha han hle (pDi_iff.mpr hdi.2), ← e160_2, pRun_end hx, show b - a = k by omega] }; unfold tkM; rw [e]; refine ⟨e160_5, Or.inr (Or.inr (Or.inl ⟨han, hle, pDi_iff.mpr hdi.2, ?_, e160_4⟩))⟩; rw [if_pos (by omega)]; exact Or.inr ⟨rfl, rfl⟩)⟩⟩
                exact ww_cut [0, 2] (xlc (congrArg Value.int (show (0 : Int32) = nI 0 from nI_0.symm)) (xlc rfl rfl)) rfl rfl (L160 (n - a + 1) a 0 (mPutL (mPut (mPut (mPut za 0 26 (nI a)) 0 25 4) 0 25 2) 0 27 0) (Nat.lt_succ_self _) (by omega) (by omega) rfl (pK4_putL (pK4_put (pK4_put (pK4_put e0_2 _ (by omega)) _ (by omega)) _ (by omega)) _) e0_3 rfl (fun _ => rfl))
              · skip
                have h25 : ¬ (48 ≤ (pB bt n a).toInt ∧ (pB bt n a).toInt ≤ 57) := h25
                have hdi : pDi (bt a) = false := pDi_no.mpr (fun q => h25 ((pB_rng g4 48 57 (by decide)).mpr ⟨han, q⟩))
                refine ww_br xCC okX6_next 71 (P := 0 = 0) (t1 := 252) (t2 := 148) (r := []) rfl (fun _ => ?_) (fun q => absurd (by decide) q)
                refine ww_blk xCC okX6_next 126 2 (ps := []) (pc' := 255) (lv' := [(1, .int (pB bt n a)), (0, .ref 0)]) (st' := [.int 40, .int (pB bt n a)]) (z' := (mPut (mPut za 0 26 (nI a)) 0 25 4)) rfl trivial ?_
                refine ww_br xCC okX6_next 128 (P := (pB bt n a) = 40) (t1 := 300) (t2 := 258) (r := []) rfl (fun c40 => ?_) (fun c40 => ?_)
                · skip
                  have hs : bt a = 40 := ((pB_eq g4 40 (by decide)).mp c40).2
                  refine ww_blk xCC okX6_next 150 13 (ps := []) (pc' := 321) (lv' := [(1, .int (pB bt n a)), (0, .ref 0)]) (st' := []) (z' := (mPut (mPutL (mPut (mPut (mPut za 0 26 (nI a)) 0 25 4) 0 25 3) 0 27 ((pB bt n a).toInt64)) 0 24 ((za.1 0 24) + 1))) rfl trivial ?_
                  rw [e0_3]
                  rw [nI_1 a]
                  subst xhQ
                  exact ww_vret xCC okX6_next 163 xhr rfl ⟨rfl, ⟨(pK4_put (pK4_putL (pK4_put (pK4_put (pK4_put e0_2 _ (by omega)) _ (by omega)) _ (by omega)) _) _ (by omega)), (by have e : pTok bt n pos = (pSg (bt a), a, a + 1) := pTok_sig ha han hle hdi; unfold tkM; rw [e]; exact ⟨rfl, Or.inr (Or.inr (Or.inr ⟨han, hle, hdi, Or.inl ⟨by show pSg (bt a) ≠ 10022; rw [hs]; decide, rfl, by show (pB bt n a).toInt64 = _; rw [pB_in han, nI_l (by have := g4 a; omega)], rfl⟩⟩))⟩)⟩⟩
                · skip
                  have n40 : bt a ≠ 40 := fun q => c40 ((pB_eq g4 40 (by decide)).mpr ⟨han, q⟩)
                  refine ww_blk xCC okX6_next 129 2 (ps := []) (pc' := 261) (lv' := [(1, .int (pB bt n a)), (0, .ref 0)]) (st' := [.int 41, .int (pB bt n a)]) (z' := (mPut (mPut za 0 26 (nI a)) 0 25 4)) rfl trivial ?_
                  refine ww_br xCC okX6_next 131 (P := (pB bt n a) = 41) (t1 := 300) (t2 := 264) (r := []) rfl (fun c41 => ?_) (fun c41 => ?_)
                  · skip
                    have hs : bt a = 41 := ((pB_eq g4 41 (by decide)).mp c41).2
                    refine ww_blk xCC okX6_next 150 13 (ps := []) (pc' := 321) (lv' := [(1, .int (pB bt n a)), (0, .ref 0)]) (st' := []) (z' := (mPut (mPutL (mPut (mPut (mPut za 0 26 (nI a)) 0 25 4) 0 25 3) 0 27 ((pB bt n a).toInt64)) 0 24 ((za.1 0 24) + 1))) rfl trivial ?_
                    rw [e0_3]
                    rw [nI_1 a]
                    subst xhQ
                    exact ww_vret xCC okX6_next 163 xhr rfl ⟨rfl, ⟨(pK4_put (pK4_putL (pK4_put (pK4_put (pK4_put e0_2 _ (by omega)) _ (by omega)) _ (by omega)) _) _ (by omega)), (by have e : pTok bt n pos = (pSg (bt a), a, a + 1) := pTok_sig ha han hle hdi; unfold tkM; rw [e]; exact ⟨rfl, Or.inr (Or.inr (Or.inr ⟨han, hle, hdi, Or.inl ⟨by show pSg (bt a) ≠ 10022; rw [hs]; decide, rfl, by show (pB bt n a).toInt64 = _; rw [pB_in han, nI_l (by have := g4 a; omega)], rfl⟩⟩))⟩)⟩⟩
                  · skip
                    have n41 : bt a ≠ 41 := fun q => c41 ((pB_eq g4 41 (by decide)).mpr ⟨han, q⟩)
                    refine ww_blk xCC okX6_next 132 2 (ps := []) (pc' := 267) (lv' := [(1, .int (pB bt n a)), (0, .ref 0)]) (st' := [.int 59, .int (pB bt n a)]) (z' := (mPut (mPut za 0 26 (nI a)) 0 25 4)) rfl trivial ?_
                    refine ww_br xCC okX6_next 134 (P := (pB bt n a) = 59) (t1 := 300) (t2 := 270) (r := []) rfl (fun c42 => ?_) (fun c42 => ?_)
                    · skip
                      have hs : bt a = 59 := ((pB_eq g4 59 (by decide)).mp c42).2
                      refine ww_blk xCC okX6_next 150 13 (ps := []) (pc' := 321) (lv' := [(1, .int (pB bt n a)), (0, .ref 0)]) (st' := []) (z' := (mPut (mPutL (mPut (mPut (mPut za 0 26 (nI a)) 0 25 4) 0 25 3) 0 27 ((pB bt n a).toInt64)) 0 24 ((za.1 0 24) + 1))) rfl trivial ?_
                      rw [e0_3]
                      rw [nI_1 a]
                      subst xhQ
                      exact ww_vret xCC okX6_next 163 xhr rfl ⟨rfl, ⟨(pK4_put (pK4_putL (pK4_put (pK4_put (pK4_put e0_2 _ (by omega)) _ (by omega)) _ (by omega)) _) _ (by omega)), (by have e : pTok bt n pos = (pSg (bt a), a, a + 1) := pTok_sig ha han hle hdi; unfold tkM; rw [e]; exact ⟨rfl, Or.inr (Or.inr (Or.inr ⟨han, hle, hdi, Or.inl ⟨by show pSg (bt a) ≠ 10022; rw [hs]; decide, rfl, by show (pB bt n a).toInt64 = _; rw [pB_in han, nI_l (by have := g4 a; omega)], rfl⟩⟩))⟩)⟩⟩
                    · skip
                      have n59 : bt a ≠ 59 := fun q => c42 ((pB_eq g4 59 (by decide)).mpr ⟨han, q⟩)
                      refine ww_blk xCC okX6_next 135 2 (ps := []) (pc' := 273) (lv' := [(1, .int (pB bt n a)), (0, .ref 0)]) (st' := [.int 43, .int (pB bt n a)]) (z' := (mPut (mPut za 0 26 (nI a)) 0 25 4)) rfl trivial ?_
                      refine ww_br xCC okX6_next 137 (P := (pB bt n a) = 43) (t1 := 300) (t2 := 276) (r := []) rfl (fun c43 => ?_) (fun c43 => ?_)
                      · skip
                        have hs : bt a = 43 := ((pB_eq g4 43 (by decide)).mp c43).2
                        refine ww_blk xCC okX6_next 150 13 (ps := []) (pc' := 321) (lv' := [(1, .int (pB bt n a)), (0, .ref 0)]) (st' := []) (z' := (mPut (mPutL (mPut (mPut (mPut za 0 26 (nI a)) 0 25 4) 0 25 3) 0 27 ((pB bt n a).toInt64)) 0 24 ((za.1 0 24) + 1))) rfl trivial ?_
                        rw [e0_3]
                        rw [nI_1 a]
                        subst xhQ
                        exact ww_vret xCC okX6_next 163 xhr rfl ⟨rfl, ⟨(pK4_put (pK4_putL (pK4_put (pK4_put (pK4_put e0_2 _ (by omega)) _ (by omega)) _ (by omega)) _) _ (by omega)), (by have e : pTok bt n pos = (pSg (bt a), a, a + 1) := pTok_sig ha han hle hdi; unfold tkM; rw [e]; exact ⟨rfl, Or.inr (Or.inr (Or.inr ⟨han, hle, hdi, Or.inl ⟨by show pSg (bt a) ≠ 10022; rw [hs]; decide, rfl, by show (pB bt n a).toInt64 = _; rw [pB_in han, nI_l (by have := g4 a; omega)], rfl⟩⟩))⟩)⟩⟩
                      · skip
                        have n43 : bt a ≠ 43 := fun q => c43 ((pB_eq g4 43 (by decide)).mpr ⟨han, q⟩)
                        refine ww_blk xCC okX6_next 138 2 (ps := []) (pc' := 279) (lv' := [(1, .int (pB bt n a)), (0, .ref 0)]) (st' := [.int 45, .int (pB bt n a)]) (z' := (mPut (mPut za 0 26 (nI a)) 0 25 4)) rfl trivial ?_
                        refine ww_br xCC okX6_next 140 (P := (pB bt n a) = 45) (t1 := 300) (t2 := 282) (r := []) rfl (fun c44 => ?_) (fun c44 => ?_)
                        · skip
                          have hs : bt a = 45 := ((pB_eq g4 45 (by decide)).mp c44).2
                          refine ww_blk xCC okX6_next 150 13 (ps := []) (pc' := 321) (lv' := [(1, .int (pB bt n a)), (0, .ref 0)]) (st' := []) (z' := (mPut (mPutL (mPut (mPut (mPut za 0 26 (nI a)) 0 25 4) 0 25 3) 0 27 ((pB bt n a).toInt64)) 0 24 ((za.1 0 24) + 1))) rfl trivial ?_
                          rw [e0_3]
                          rw [nI_1 a]
                          subst xhQ
                          exact ww_vret xCC okX6_next 163 xhr rfl ⟨rfl, ⟨(pK4_put (pK4_putL (pK4_put (pK4_put (pK4_put e0_2 _ (by omega)) _ (by omega)) _ (by omega)) _) _ (by omega)), (by have e : pTok bt n pos = (pSg (bt a), a, a + 1) := pTok_sig ha han hle hdi; unfold tkM; rw [e]; exact ⟨rfl, Or.inr (Or.inr (Or.inr ⟨han, hle, hdi, Or.inl ⟨by show pSg (bt a) ≠ 10022; rw [hs]; decide, rfl, by show (pB bt n a).toInt64 = _; rw [pB_in han, nI_l (by have := g4 a; omega)], rfl⟩⟩))⟩)⟩⟩
                        · skip
                          have n45 : bt a ≠ 45 := fun q => c44 ((pB_eq g4 45 (by decide)).mpr ⟨han, q⟩)
                          refine ww_blk xCC okX6_next 141 2 (ps := []) (pc' := 285) (lv' := [(1, .int (pB bt n a)), (0, .ref 0)]) (st' := [.int 42, .int (pB bt n a)]) (z' := (mPut (mPut za 0 26 (nI a)) 0 25 4)) rfl trivial ?_
                          refine ww_br xCC okX6_next 143 (P := (pB bt n a) = 42) (t1 := 300) (t2 := 288) (r := []) rfl (fun c45 => ?_) (fun c45 => ?_)
                          · skip
                            have hs : bt a = 42 := ((pB_eq g4 42 (by decide)).mp c45).2
                            refine ww_blk xCC okX6_next 150 13 (ps := []) (pc' := 321) (lv' := [(1, .int (pB bt n a)), (0, .ref 0)]) (st' := []) (z' := (mPut (mPutL (mPut (mPut (mPut za 0 26 (nI a)) 0 25 4) 0 25 3) 0 27 ((pB bt n a).toInt64)) 0 24 ((za.1 0 24) + 1))) rfl trivial ?_
                            rw [e0_3]
                            rw [nI_1 a]
                            subst xhQ
                            exact ww_vret xCC okX6_next 163 xhr rfl ⟨rfl, ⟨(pK4_put (pK4_putL (pK4_put (pK4_put (pK4_put e0_2 _ (by omega)) _ (by omega)) _ (by omega)) _) _ (by omega)), (by have e : pTok bt n pos = (pSg (bt a), a, a + 1) := pTok_sig ha han hle hdi; unfold tkM; rw [e]; exact ⟨rfl, Or.inr (Or.inr (Or.inr ⟨han, hle, hdi, Or.inl ⟨by show pSg (bt a) ≠ 10022; rw [hs]; decide, rfl, by show (pB bt n a).toInt64 = _; rw [pB_in han, nI_l (by have := g4 a; omega)], rfl⟩⟩))⟩)⟩⟩
                          · skip
                            have n42 : bt a ≠ 42 := fun q => c45 ((pB_eq g4 42 (by decide)).mpr ⟨han, q⟩)
                            refine ww_blk xCC okX6_next 144 2 (ps := []) (pc' := 291) (lv' := [(1, .int (pB bt n a)), (0, .ref 0)]) (st' := [.int 60, .int (pB bt n a)]) (z' := (mPut (mPut za 0 26 (nI a)) 0 25 4)) rfl trivial ?_
                            refine ww_br xCC okX6_next 146 (P := (pB bt n a) = 60) (t1 := 300) (t2 := 294) (r := []) rfl (fun c46 => ?_) (fun c46 => ?_)
                            · skip
                              have hs : bt a = 60 := ((pB_eq g4 60 (by decide)).mp c46).2
                              refine ww_blk xCC okX6_next 150 13 (ps := []) (pc' := 321) (lv' := [(1, .int (pB bt n a)), (0, .ref 0)]) (st' := []) (z' := (mPut (mPutL (mPut (mPut (mPut za 0 26 (nI a)) 0 25 4) 0 25 3) 0 27 ((pB bt n a).toInt64)) 0 24 ((za.1 0 24) + 1))) rfl trivial ?_
                              rw [e0_3]
                              rw [nI_1 a]
                              subst xhQ
                              exact ww_vret xCC okX6_next 163 xhr rfl ⟨rfl, ⟨(pK4_put (pK4_putL (pK4_put (pK4_put (pK4_put e0_2 _ (by omega)) _ (by omega)) _ (by omega)) _) _ (by omega)), (by have e : pTok bt n pos = (pSg (bt a), a, a + 1) := pTok_sig ha han hle hdi; unfold tkM; rw [e]; exact ⟨rfl, Or.inr (Or.inr (Or.inr ⟨han, hle, hdi, Or.inl ⟨by show pSg (bt a) ≠ 10022; rw [hs]; decide, rfl, by show (pB bt n a).toInt64 = _; rw [pB_in han, nI_l (by have := g4 a; omega)], rfl⟩⟩))⟩)⟩⟩
                            · skip
                              have n60 : bt a ≠ 60 := fun q => c46 ((pB_eq g4 60 (by decide)).mpr ⟨han, q⟩)
                              refine ww_blk xCC okX6_next 147 2 (ps := []) (pc' := 297) (lv' := [(1, .int (pB bt n a)), (0, .ref 0)]) (st' := [.int 61, .int (pB bt n a)]) (z' := (mPut (mPut za 0 26 (nI a)) 0 25 4)) rfl trivial ?_
                              refine ww_br xCC okX6_next 149 (P := (pB bt n a) = 61) (t1 := 300) (t2 := 321) (r := []) rfl (fun c47 => ?_) (fun c47 => ?_)
                              · skip
                                have hs : bt a = 61 := ((pB_eq g4 61 (by decide)).mp c47).2
                                refine ww_blk xCC okX6_next 150 13 (ps := []) (pc' := 321) (lv' := [(1, .int (pB bt n a)), (0, .ref 0)]) (st' := []) (z' := (mPut (mPutL (mPut (mPut (mPut za 0 26 (nI a)) 0 25 4) 0 25 3) 0 27 ((pB bt n a).toInt64)) 0 24 ((za.1 0 24) + 1))) rfl trivial ?_
                                rw [e0_3]
                                rw [nI_1 a]
                                subst xhQ
                                exact ww_vret xCC okX6_next 163 xhr rfl ⟨rfl, ⟨(pK4_put (pK4_putL (pK4_put (pK4_put (pK4_put e0_2 _ (by omega)) _ (by omega)) _ (by omega)) _) _ (by omega)), (by have e : pTok bt n pos = (pSg (bt a), a, a + 1) := pTok_sig ha han hle hdi; unfold tkM; rw [e]; exact ⟨rfl, Or.inr (Or.inr (Or.inr ⟨han, hle, hdi, Or.inl ⟨by show pSg (bt a) ≠ 10022; rw [hs]; decide, rfl, by show (pB bt n a).toInt64 = _; rw [pB_in han, nI_l (by have := g4 a; omega)], rfl⟩⟩))⟩)⟩⟩
                              · skip
                                have n61 : bt a ≠ 61 := fun q => c47 ((pB_eq g4 61 (by decide)).mpr ⟨han, q⟩)
                                subst xhQ
                                exact ww_vret xCC okX6_next 163 xhr rfl ⟨rfl, ⟨(pK4_put (pK4_put e0_2 _ (by omega)) _ (by omega)), (by have e : pTok bt n pos = (pSg (bt a), a, a + 1) := pTok_sig ha han hle hdi; unfold tkM; rw [e]; exact ⟨rfl, Or.inr (Or.inr (Or.inr ⟨han, hle, hdi, Or.inr ⟨by show pSg (bt a) = 10022; simp only [pSg, if_neg n40, if_neg n41, if_neg n59, if_neg n43, if_neg n45, if_neg n42, if_neg n60, if_neg n61], rfl⟩⟩))⟩)⟩⟩
          · skip
            have han : ¬ a < n := fun q => by
              rw [pB_in q] at c12
              have := g4 a
              exact c12 (nI_pos' (by omega))
            refine ww_blk xCC okX6_next 33 8 (ps := []) (pc' := 321) (lv' := [(1, .int (pB bt n a)), (0, .ref 0)]) (st' := []) (z' := (mPut (mPut (mPut (mPut za 0 26 (nI a)) 0 25 4) 0 25 0) 0 26 (za.1 0 23))) rfl trivial ?_
            rw [(pM_K (pK4_K e0_2) hpm).2.1]
            subst xhQ
            exact ww_vret xCC okX6_next 163 xhr rfl ⟨rfl, ⟨(pK4_put (pK4_put (pK4_put (pK4_put e0_2 _ (by omega)) _ (by omega)) _ (by omega)) _ (by omega)), (by have e : pTok bt n pos = (10021, a, a) := by { rw [pTok_end (by omega), ha] }; unfold tkM; rw [e]; have hna : a = n := (by omega); exact ⟨(by show nI n = nI a; rw [hna]), Or.inl ⟨(by show n ≤ a; omega), rfl, e0_3⟩⟩)⟩⟩
  exact ww_cut [0] (xlc rfl rfl) rfl rfl (L0 (n - pos + 1) pos z (Nat.lt_succ_self _) ⟨Nat.le_refl _, hpos⟩ rfl (pK4_rf z) hh)
end
section
/-! words and signs as the model asks for them -/
theorem tkM_K {z z' : xMem} {bt : Nat → Nat} {n pos : Nat} (h : tkM z bt n pos) (h4 : z'.1 0 24 = z.1 0 24) (h5 : z'.1 0 25 = z.1 0 25) (h6 : z'.1 0 26 = z.1 0 26) (h7 : z'.2.1 0 27 = z.2.1 0 27) : tkM z' bt n pos := by
  unfold tkM at h ⊢
  rw [h4, h5, h6, h7]
  exact h
theorem pTok_le {bt : Nat → Nat} {n pos : Nat} (h : pos ≤ n) : (pTok bt n pos).2.2 ≤ n ∧ pos ≤ (pTok bt n pos).2.1 ∧ (pTok bt n pos).2.1 ≤ n := by
  have h1 := pRun_ge pBl bt n pos
  have h2 := pRun_le pBl bt n pos h
  simp only [pTok]
  split
  · exact ⟨h2, h1, h2⟩
  · split
    · exact ⟨pRun_le pLe bt n _ h2, h1, h2⟩
    · split
      · exact ⟨pRun_le pDi bt n _ h2, h1, h2⟩
      · exact ⟨by show _ + 1 ≤ n; omega, h1, h2⟩
theorem pSg_iff : ∀ c, c < 256 → (pSg c = 10022 ∨ (10008 ≤ pSg c ∧ pSg c ≤ 10012) ∨ (10018 ≤ pSg c ∧ pSg c ≤ 10020)) := by decide +kernel
theorem pSg_inj : ∀ c, c < 256 → ∀ k, k ∈ [40, 41, 59, 43, 45, 42, 60, 61] → (pSg c = pSg k ↔ c = k) := by decide +kernel
theorem pSg_ne : ∀ k, k ∈ [40, 41, 59, 43, 45, 42, 60, 61] → (10008 ≤ pSg k ∧ pSg k ≤ 10012) ∨ (10018 ≤ pSg k ∧ pSg k ≤ 10020) := by decide
theorem pWd_mem : ∀ (l : List (List Nat × Nat)) (bt : Nat → Nat) (a b : Nat), pWd bt a b l = 10022 ∨ ∃ q ∈ l, pWd bt a b l = q.2 ∧ pSp q.1 bt a b = true
  | [], _, _, _ => Or.inl rfl
  | (w, c) :: l, bt, a, b => by
    simp only [pWd]
    split
    · rename_i h
      exact Or.inr ⟨(w, c), List.mem_cons_self, rfl, h⟩
    · rcases pWd_mem l bt a b with h | ⟨q, h1, h2⟩
      · exact Or.inl h
      · exact Or.inr ⟨q, List.mem_cons_of_mem _ h1, h2⟩
theorem pWords_code : ∀ q ∈ pWords, q.2 ≠ 10022 ∧ (q.2 ≤ 10007 ∧ 10000 ≤ q.2 ∨ 10015 ≤ q.2 ∧ q.2 ≤ 10017 ∨ q.2 = 10013) := by decide
theorem pWords_inj : ∀ q ∈ pWords, ∀ r ∈ pWords, q.2 = r.2 → q = r := by decide
/-- the code of a word token among the codes -/
theorem pWd_rng (bt : Nat → Nat) (a b : Nat) : pWd bt a b pWords = 10022 ∨ (pWd bt a b pWords ≤ 10007 ∧ 10000 ≤ pWd bt a b pWords ∨ 10015 ≤ pWd bt a b pWords ∧ pWd bt a b pWords ≤ 10017 ∨ pWd bt a b pWords = 10013) := by
  rcases pWd_mem pWords bt a b with h | ⟨q, h1, h2, -⟩
  · exact Or.inl h
  · rw [h2]
    exact Or.inr (pWords_code q h1).2
theorem pSp_iff {w : List Nat} {bt : Nat → Nat} {a b : Nat} : pSp w bt a b = true ↔ b - a = w.length ∧ ∀ i, i < w.length → bt (a + i) = w.getD i 0 := by
  simp only [pSp, Bool.and_eq_true, decide_eq_true_eq, List.all_eq_true, List.mem_range]
theorem pSp_two {w w' : List Nat} {bt : Nat → Nat} {a b : Nat} (h : pSp w bt a b = true) (h' : pSp w' bt a b = true) : w = w' := by
  rw [pSp_iff] at h h'
  apply List.ext_getElem
  · omega
  · intro i h1 h2
    have e1 := h.2 i h1
    have e2 := h'.2 i h2
    rw [e1] at e2
    simpa [List.getD, h1, h2] using e2
theorem pWd_of {w : List Nat} {c : Nat} (hw : (w, c) ∈ pWords) {bt : Nat → Nat} {a b : Nat} : pWd bt a b pWords = c ↔ pSp w bt a b = true := by
  constructor
  · intro h
    rcases pWd_mem pWords bt a b with h1 | ⟨q, h1, h2, h3⟩
    · rw [h1] at h
      exact absurd h.symm (pWords_code _ hw).1
    · have e := pWords_inj q h1 (w, c) hw (h2.symm.trans h)
      rw [e] at h3
      exact h3
  · intro h
    have key : ∀ l : List (List Nat × Nat), (∀ q ∈ l, q ∈ pWords) → (w, c) ∈ l → pWd bt a b l = c := by
      intro l
      induction l with
      | nil => intro _ hm; cases hm
      | cons q l ih =>
        intro hs hm
        obtain ⟨w1, c1⟩ := q
        simp only [pWd]
        split
        · rename_i h1
          have e := pSp_two h1 h
          subst e
          rcases List.mem_cons.mp hm with e2 | e2
          · cases e2; rfl
          · have : ∀ q ∈ pWords, ∀ r ∈ pWords, q.1 = r.1 → q.2 = r.2 := by decide
            exact this (w1, c1) (hs _ List.mem_cons_self) (w1, c) hw rfl
        · rename_i h1
          rcases List.mem_cons.mp hm with e2 | e2
          · cases e2; exact absurd h h1
          · exact ih (fun q hq => hs q (List.mem_cons_of_mem _ hq)) e2
    exact key pWords (fun _ h => h) hw
/-- what the model asks of a letter of the word at hand -/
def pL (bt : Nat → Nat) (a b i c : Nat) : Prop := (a + i < b ∧ bt (a + i) = c) ∨ (¬ a + i < b ∧ c = 0)
theorem pWords_ok : ∀ q ∈ pWords, q.1.length ≤ 6 ∧ ∀ i, i < 8 → (i < q.1.length → 97 ≤ q.1.getD i 0 ∧ q.1.getD i 0 < 256) ∧ (q.1.length ≤ i → q.1.getD i 0 = 0) := by decide
theorem pL_all {w : List Nat} {c : Nat} (hw : (w, c) ∈ pWords) {bt : Nat → Nat} {a b : Nat} (hab : a ≤ b) (hl : ∀ i, a ≤ i → i < b → 97 ≤ bt i) : (b ≤ a + 8 ∧ ∀ i, i < 8 → pL bt a b i (w.getD i 0)) ↔ pSp w bt a b = true := by
  obtain ⟨hlen, hk⟩ := pWords_ok _ hw
  dsimp only at hlen hk
  rw [pSp_iff]
  constructor
  · rintro ⟨hb, h⟩
    have h0 : ∀ i, i < w.length → a + i < b ∧ bt (a + i) = w.getD i 0 := by
      intro i hi
      have h1 := (hk i (by omega)).1 hi
      rcases h i (by omega) with q | q
      · exact q
      · omega
    have h1 : b ≤ a + w.length := by
      rcases Nat.lt_or_ge (a + w.length) b with q | q
      · have h2 := h w.length (by omega)
        have h3 := (hk w.length (by omega)).2 (Nat.le_refl _)
        have h4 := hl (a + w.length) (by omega) q
        rcases h2 with q2 | q2
        · omega
        · omega
      · exact q
    refine ⟨?_, fun i hi => (h0 i hi).2⟩
    cases hwl : w.length with
    | zero => omega
    | succ k =>
      have := (h0 k (by omega)).1
      omega
  · rintro ⟨h1, h2⟩
    refine ⟨by omega, fun i hi => ?_⟩
    by_cases hc : i < w.length
    · exact Or.inl ⟨by omega, h2 i hc⟩
    · exact Or.inr ⟨by omega, (hk i hi).2 (by omega)⟩
/-- the token at hand, where its place behind is known -/
theorem tkM_here {z : xMem} {bt : Nat → Nat} {n pos : Nat} (h : tkM z bt n pos) (hne : (pTok bt n pos).1 ≠ 10022) : z.1 0 24 = nI (pTok bt n pos).2.2 := by
  rcases h.2 with q | q | q | q
  · exact q.2.2
  · exact q.2.2.2
  · exact q.2.2.2.2
  · rcases q.2.2.2 with q | q
    · exact q.2.2.2
    · exact absurd q.1 hne
theorem tkM_sign1 {z : xMem} {bt : Nat → Nat} {n pos c : Nat} (hbt : ∀ i, bt i < 256) (h : tkM z bt n pos) (hc : c ∈ [40, 41, 59, 43, 45, 42, 60, 61]) (h3 : z.1 0 25 = 3) (hw : lg_cmp (z.2.1 0 27) (nI c).toInt64 = 0) : (pTok bt n pos).1 = pSg c := by
  have hck : ∀ k, k ∈ [40, 41, 59, 43, 45, 42, 60, 61] → k < 256 := by decide
  have hc2 := hck c hc
  rw [lg_cmp_eq, nI_l (by omega)] at hw
  rcases h.2 with q | q | q | q
  · rw [h3] at q; exact absurd q.2.1 (by decide)
  · rw [h3] at q; exact absurd q.2.2.1 (by decide)
  · rw [h3] at q
    rcases q.2.2.2.1 with q | q
    · exact absurd q.2.1 (by decide)
    · exact absurd q.2 (by decide)
  · rcases q.2.2.2 with r | r
    · have e : bt (pTok bt n pos).2.1 = c := by
        have := r.2.2.1.symm.trans hw
        have hb := hbt (pTok bt n pos).2.1
        exact (lN_eq (by omega) (by omega)).mp this
      have e2 := pTok_sig (pTok_a bt n pos).symm q.1 q.2.1 q.2.2.1
      rw [e2]
      show pSg (bt (pTok bt n pos).2.1) = _
      rw [e]
    · rw [h3] at r; exact absurd r.2 (by decide)
theorem tkM_sign0 {z : xMem} {bt : Nat → Nat} {n pos c : Nat} (hbt : ∀ i, bt i < 256) (h : tkM z bt n pos) (hc : c ∈ [40, 41, 59, 43, 45, 42, 60, 61]) (hn : ¬ z.1 0 25 = 3 ∨ (z.1 0 25 = 3 ∧ ¬ lg_cmp (z.2.1 0 27) (nI c).toInt64 = 0)) : (pTok bt n pos).1 ≠ pSg c := by
  have hck : ∀ k, k ∈ [40, 41, 59, 43, 45, 42, 60, 61] → k < 256 := by decide
  have hc2 := hck c hc
  have hs := pSg_ne c hc
  intro he
  rcases h.2 with q | q | q | q
  · rw [pTok_end (by rw [← pTok_a]; exact q.1)] at he
    have : (10021 : Nat) = pSg c := he
    omega
  · rw [pTok_word (pTok_a bt n pos).symm q.1 q.2.1] at he
    have : pWd bt (pTok bt n pos).2.1 (pRun pLe bt n (pTok bt n pos).2.1) pWords = pSg c := he
    have := pWd_rng bt (pTok bt n pos).2.1 (pRun pLe bt n (pTok bt n pos).2.1)
    omega
  · rcases q.2.2.2.1 with r | r
    · omega
    · omega
  · have e2 := pTok_sig (pTok_a bt n pos).symm q.1 q.2.1 q.2.2.1
    rcases q.2.2.2 with r | r
    · have e3 : pSg (bt (pTok bt n pos).2.1) = pSg c := by rw [e2] at he; exact he
      have e4 := (pSg_inj _ (hbt _) c hc).mp e3
      rcases hn with hn | hn
      · exact hn r.2.1
      · apply hn.2
        rw [lg_cmp_eq, nI_l (by omega), r.2.2.1, e4]
    · omega
theorem pW_lt {w : List Nat} {c : Nat} (hw : (w, c) ∈ pWords) (i : Nat) : w.getD i 0 < 256 := by
  obtain ⟨hlen, hk⟩ := pWords_ok _ hw
  dsimp only at hlen hk
  by_cases h : i < w.length
  · exact ((hk i (by omega)).1 h).2
  · simp [List.getD, List.getElem?_eq_none (by omega : w.length ≤ i)]
theorem tkM_word {z : xMem} {bt : Nat → Nat} {n pos : Nat} (hpos : pos ≤ n) (h : tkM z bt n pos) (h1 : z.1 0 25 = 1) : ∃ a b : Nat, z.1 0 26 = nI a ∧ z.1 0 24 = nI b ∧ a ≤ b ∧ a ≤ n ∧ b ≤ n ∧ (∀ i, a ≤ i → i < b → 97 ≤ bt i) ∧ (pTok bt n pos).1 = pWd bt a b pWords := by
  rcases h.2 with q | q | q | q
  · rw [h1] at q; exact absurd q.2.1 (by decide)
  · have e := pTok_word (pTok_a bt n pos).symm q.1 q.2.1
    refine ⟨(pTok bt n pos).2.1, (pTok bt n pos).2.2, h.1, q.2.2.2, ?_, Nat.le_of_lt q.1, (pTok_le hpos).1, ?_, ?_⟩
    · rw [e]; exact pRun_ge pLe bt n _
    · intro i hi hi2
      have e3 : (pTok bt n pos).2.2 = pRun pLe bt n (pTok bt n pos).2.1 := by rw [e]
      rw [e3] at hi2
      exact (pLe_iff.mp (pRun_all (P := pLe) (bt := bt) (n := n) (n - (pTok bt n pos).2.1) _ (Nat.le_refl _) i hi hi2)).1
    · have e3 : (pTok bt n pos).2.2 = pRun pLe bt n (pTok bt n pos).2.1 := by rw [e]
      rw [e3, e]
  · rw [h1] at q
    rcases q.2.2.2.1 with q | q
    · exact absurd q.2.1 (by decide)
    · exact absurd q.2 (by decide)
  · rw [h1] at q
    rcases q.2.2.2 with q | q
    · exact absurd q.2.1 (by decide)
    · exact absurd q.2 (by decide)
theorem tkM_noword {w : List Nat} {c : Nat} (hw : (w, c) ∈ pWords) {z : xMem} {bt : Nat → Nat} {n pos : Nat} (h : tkM z bt n pos) (h1 : ¬ z.1 0 25 = 1) : (pTok bt n pos).1 ≠ c := by
  have hc := pWords_code _ hw
  dsimp only at hc
  intro he
  rcases h.2 with q | q | q | q
  · rw [pTok_end (by rw [← pTok_a]; exact q.1)] at he
    have : (10021 : Nat) = c := he
    omega
  · exact h1 q.2.2.1
  · rcases q.2.2.2.1 with r | r
    · omega
    · omega
  · have e2 := pTok_sig (pTok_a bt n pos).symm q.1 q.2.1 q.2.2.1
    have e3 : pSg (bt (pTok bt n pos).2.1) = c := by rw [e2] at he; exact he
    have hr : ∀ k, pSg k = 10022 ∨ (10008 ≤ pSg k ∧ pSg k ≤ 10012) ∨ (10018 ≤ pSg k ∧ pSg k ≤ 10020) := by
      intro k
      simp only [pSg]
      repeat' split
      all_goals omega
    have := hr (bt (pTok bt n pos).2.1)
    omega
end
section
/-! letters, words and signs of the model -/
set_option maxHeartbeats 4000000 in
set_option maxRecDepth 20000 in
theorem t_X6_isLetter (l : Launch) (d : Nat) (z : xMem) (bt : Nat → Nat) (n fr : Nat) (hpm : pM z bt n fr) (a b i c : Nat) (ha : z.1 0 26 = nI a) (hb : z.1 0 24 = nI b) (hbn : b ≤ n) (han : a ≤ n) (hi : i < 8) (hc : c < 256) : XMz l (d + 1) yX6_isLetter cX6_isLetter 3 (some .boolean) shM [.ref 0, .int (nI i), .int (nI c)] z (fun z' => pL bt a b i c ∧ z' = z) (fun z' => ¬ pL bt a b i c ∧ z' = z) := by
  refine XM.of (by decide) (Nat.le_of_ble_eq_true rfl) (fun xp xe xs xm xar xbl xme xc xD xcs xad xAA xCC xhr => ?_)
  generalize xhQ : MQ xbl _ xar xs 0 0 xAA = xQ
  show ww xp l xe (xRm (d + 1)) xs xm xar xbl xme xc 3 xD xcs xad shM xAA xQ 0 [(0, .ref 0), (1, .int (nI i)), (2, .int (nI c))] [] z
  have g4 := hpm.2.2.2.1
  have g6 := hpm.2.2.2.2.2
  refine ww_blk xCC okX6_isLetter 0 6 (ps := []) (pc' := 10) (lv' := [(0, .ref 0), (1, .int (nI i)), (2, .int (nI c))]) (st' := [.int (z.1 0 24), .int ((z.1 0 26) + (nI i))]) (z' := z) rfl trivial ?_
  rw [hb]
  rw [ha]
  rw [nI_add a i]
  refine ww_br xCC okX6_isLetter 6 (P := (nI b) ≤ (nI (a + i))) (t1 := 35) (t2 := 13) (r := []) rfl (fun c1 => ?_) (fun c1 => ?_)
  · skip
    replace c1 : b ≤ (a + i) := (sLE (a := b) (b := (a + i)) (by omega) (by omega)).mp c1
    refine ww_blk xCC okX6_isLetter 19 1 (ps := []) (pc' := 36) (lv' := [(0, .ref 0), (1, .int (nI i)), (2, .int (nI c))]) (st' := [.int (nI c)]) (z' := z) rfl trivial ?_
    refine ww_br xCC okX6_isLetter 20 (P := (nI c) = 0) (t1 := 39) (t2 := 43) (r := []) rfl (fun c2 => ?_) (fun c2 => ?_)
    · skip
      replace c2 : c = 0 := (sEQ (a := c) (b := 0) (by omega) (by omega)).mp c2
      refine ww_blk xCC okX6_isLetter 21 2 (ps := []) (pc' := 44) (lv' := [(0, .ref 0), (1, .int (nI i)), (2, .int (nI c))]) (st' := [.int 1]) (z' := z) rfl trivial ?_
      subst xhQ
      exact ww_iret xCC okX6_isLetter 24 xhr rfl (by decide) (Or.inl ⟨rfl, ⟨(by unfold pL; omega), rfl⟩⟩)
    · skip
      replace c2 : ¬ c = 0 := fun q => c2 ((sEQ (a := c) (b := 0) (by omega) (by omega)).mpr q)
      refine ww_blk xCC okX6_isLetter 23 1 (ps := []) (pc' := 44) (lv' := [(0, .ref 0), (1, .int (nI i)), (2, .int (nI c))]) (st' := [.int 0]) (z' := z) rfl trivial ?_
      subst xhQ
      exact ww_iret xCC okX6_isLetter 24 xhr rfl (by decide) (Or.inr ⟨rfl, ⟨(by unfold pL; omega), rfl⟩⟩)
  · skip
    replace c1 : ¬ b ≤ (a + i) := fun q => c1 ((sLE (a := b) (b := (a + i)) (by omega) (by omega)).mpr q)
    refine ww_blk xCC okX6_isLetter 7 5 (ps := []) (pc' := 20) (lv' := [(0, .ref 0), (1, .int (nI i)), (2, .int (nI c))]) (st' := [.int ((z.1 0 26) + (nI i)), .ref 0]) (z' := z) rfl trivial ?_
    rw [ha]
    rw [nI_add a i]
    refine ww_callVIi xCC okX6_isLetter 12 (ix := 153) (t_X6_byteAt l d z bt n fr hpm (a + i) (by omega)) (by omega) (by decide) xyX6_byteAt xiX6_byteAt (Or.inl (lw_gt_of (List.mem_of_getElem? (i := 1015) (by decide +kernel)) rfl)) rfl rfl rfl (rest := []) rfl (Nat.le_of_ble_eq_true rfl) rfl (fun v5 z3 h4 => ?_)
    rw [h4.1, h4.2]
    refine ww_blk xCC okX6_isLetter 13 1 (ps := []) (pc' := 24) (lv' := [(0, .ref 0), (1, .int (nI i)), (2, .int (nI c))]) (st' := [.int (nI c), .int (pB bt n (a + i))]) (z' := z) rfl trivial ?_
    refine ww_br xCC okX6_isLetter 14 (P := (pB bt n (a + i)) = (nI c)) (t1 := 27) (t2 := 31) (r := []) rfl (fun c6 => ?_) (fun c6 => ?_)
    · skip
      have hl : bt (a + i) = c := ((pB_eq g4 c hc).mp c6).2
      refine ww_blk xCC okX6_isLetter 15 2 (ps := []) (pc' := 44) (lv' := [(0, .ref 0), (1, .int (nI i)), (2, .int (nI c))]) (st' := [.int 1]) (z' := z) rfl trivial ?_
      subst xhQ
      exact ww_iret xCC okX6_isLetter 24 xhr rfl (by decide) (Or.inl ⟨rfl, ⟨(by unfold pL; omega), rfl⟩⟩)
    · skip
      have hl : bt (a + i) ≠ c := fun q => c6 ((pB_eq g4 c hc).mpr ⟨by omega, q⟩)
      refine ww_blk xCC okX6_isLetter 17 2 (ps := []) (pc' := 44) (lv' := [(0, .ref 0), (1, .int (nI i)), (2, .int (nI c))]) (st' := [.int 0]) (z' := z) rfl trivial ?_
      subst xhQ
      exact ww_iret xCC okX6_isLetter 24 xhr rfl (by decide) (Or.inr ⟨rfl, ⟨(by unfold pL; omega), rfl⟩⟩)

set_option maxHeartbeats 4000000 in
set_option maxRecDepth 20000 in
theorem t_X6_isSign (l : Launch) (d : Nat) (z : xMem) (bt : Nat → Nat) (n pos : Nat) (hbt : ∀ i, bt i < 256) (hbad : z.1 0 29 = 0) (htk : tkM z bt n pos) (c : Nat) (hc : c ∈ [40, 41, 59, 43, 45, 42, 60, 61]) : XMz l d yX6_isSign cX6_isSign 2 (some .boolean) shM [.ref 0, .int (nI c)] z (fun z' => (pTok bt n pos).1 = pSg c ∧ z' = z) (fun z' => (pTok bt n pos).1 ≠ pSg c ∧ z' = z) := by
  refine XM.of (by decide) (Nat.le_of_ble_eq_true rfl) (fun xp xe xs xm xar xbl xme xc xD xcs xad xAA xCC xhr => ?_)
  generalize xhQ : MQ xbl _ xar xs 0 0 xAA = xQ
  show ww xp l xe (xRm d) xs xm xar xbl xme xc 2 xD xcs xad shM xAA xQ 0 [(0, .ref 0), (1, .int (nI c))] [] z
  have hck : ∀ k, k ∈ [40, 41, 59, 43, 45, 42, 60, 61] → k < 256 := by decide
  have hc2 := hck c hc
  refine ww_blk xCC okX6_isSign 0 2 (ps := []) (pc' := 4) (lv' := [(0, .ref 0), (1, .int (nI c))]) (st' := [.int (z.1 0 29)]) (z' := z) rfl trivial ?_
  refine ww_br xCC okX6_isSign 2 (P := (z.1 0 29) = 0) (t1 := 7) (t2 := 29) (r := []) rfl (fun c1 => ?_) (fun c1 => absurd (hbad) c1)
  refine ww_blk xCC okX6_isSign 3 3 (ps := []) (pc' := 12) (lv' := [(0, .ref 0), (1, .int (nI c))]) (st' := [.int 3, .int (z.1 0 25)]) (z' := z) rfl trivial ?_
  refine ww_br xCC okX6_isSign 6 (P := (z.1 0 25) = 3) (t1 := 15) (t2 := 29) (r := []) rfl (fun c2 => ?_) (fun c2 => ?_)
  · skip
    refine ww_blk xCC okX6_isSign 7 5 (ps := []) (pc' := 22) (lv' := [(0, .ref 0), (1, .int (nI c))]) (st' := [.int (lg_cmp (z.2.1 0 27) ((nI c).toInt64))]) (z' := z) rfl trivial ?_
    refine ww_br xCC okX6_isSign 12 (P := (lg_cmp (z.2.1 0 27) ((nI c).toInt64)) = 0) (t1 := 25) (t2 := 29) (r := []) rfl (fun c3 => ?_) (fun c3 => ?_)
    · skip
      refine ww_blk xCC okX6_isSign 13 2 (ps := []) (pc' := 30) (lv' := [(0, .ref 0), (1, .int (nI c))]) (st' := [.int 1]) (z' := z) rfl trivial ?_
      subst xhQ
      exact ww_iret xCC okX6_isSign 16 xhr rfl (by decide) (Or.inl ⟨rfl, ⟨(tkM_sign1 hbt htk hc c2 c3), rfl⟩⟩)
    · skip
      refine ww_blk xCC okX6_isSign 15 1 (ps := []) (pc' := 30) (lv' := [(0, .ref 0), (1, .int (nI c))]) (st' := [.int 0]) (z' := z) rfl trivial ?_
      subst xhQ
      exact ww_iret xCC okX6_isSign 16 xhr rfl (by decide) (Or.inr ⟨rfl, ⟨(by first | exact tkM_sign0 hbt htk hc (Or.inl c2) | exact tkM_sign0 hbt htk hc (Or.inr ⟨c2, c3⟩)), rfl⟩⟩)
  · skip
    refine ww_blk xCC okX6_isSign 15 1 (ps := []) (pc' := 30) (lv' := [(0, .ref 0), (1, .int (nI c))]) (st' := [.int 0]) (z' := z) rfl trivial ?_
    subst xhQ
    exact ww_iret xCC okX6_isSign 16 xhr rfl (by decide) (Or.inr ⟨rfl, ⟨(by first | exact tkM_sign0 hbt htk hc (Or.inl c2) | exact tkM_sign0 hbt htk hc (Or.inr ⟨c2, c3⟩)), rfl⟩⟩)

set_option maxHeartbeats 4000000 in
set_option maxRecDepth 20000 in
theorem t_X6_isSign_b (l : Launch) (d : Nat) (z : xMem) (hbad : z.1 0 29 = 1) (c : Int32) : XMi l d yX6_isSign cX6_isSign 2 (some .boolean) shM [.ref 0, .int c] z (fun v z' => v = 0 ∧ z' = z) := by
  refine XM.of (by decide) (Nat.le_of_ble_eq_true rfl) (fun xp xe xs xm xar xbl xme xc xD xcs xad xAA xCC xhr => ?_)
  generalize xhQ : MQ xbl _ xar xs 0 0 xAA = xQ
  show ww xp l xe (xRm d) xs xm xar xbl xme xc 2 xD xcs xad shM xAA xQ 0 [(0, .ref 0), (1, .int c)] [] z
  refine ww_blk xCC okX6_isSign 0 2 (ps := []) (pc' := 4) (lv' := [(0, .ref 0), (1, .int c)]) (st' := [.int (z.1 0 29)]) (z' := z) rfl trivial ?_
  refine ww_br xCC okX6_isSign 2 (P := (z.1 0 29) = 0) (t1 := 7) (t2 := 29) (r := []) rfl (fun c1 => absurd c1 (by rw [hbad]; decide)) (fun c1 => ?_)
  refine ww_blk xCC okX6_isSign 15 1 (ps := []) (pc' := 30) (lv' := [(0, .ref 0), (1, .int c)]) (st' := [.int 0]) (z' := z) rfl trivial ?_
  subst xhQ
  exact ww_iret xCC okX6_isSign 16 xhr rfl (by decide) ⟨_, rfl, ⟨rfl, rfl⟩⟩

set_option maxHeartbeats 4000000 in
set_option maxRecDepth 20000 in
theorem t_X6_isWord (l : Launch) (d : Nat) (z : xMem) (bt : Nat → Nat) (n fr : Nat) (hpm : pM z bt n fr) (pos : Nat) (hpos : pos ≤ n) (hbad : z.1 0 29 = 0) (htk : tkM z bt n pos) (w : List Nat) (C : Nat) (hw : (w, C) ∈ pWords) : XMz l (d + 2) yX6_isWord cX6_isWord 9 (some .boolean) shM [.ref 0, .int (nI (w.getD 0 0)), .int (nI (w.getD 1 0)), .int (nI (w.getD 2 0)), .int (nI (w.getD 3 0)), .int (nI (w.getD 4 0)), .int (nI (w.getD 5 0)), .int (nI (w.getD 6 0)), .int (nI (w.getD 7 0))] z (fun z' => (pTok bt n pos).1 = C ∧ z' = z) (fun z' => (pTok bt n pos).1 ≠ C ∧ z' = z) := by
  refine XM.of (by decide) (Nat.le_of_ble_eq_true rfl) (fun xp xe xs xm xar xbl xme xc xD xcs xad xAA xCC xhr => ?_)
  generalize xhQ : MQ xbl _ xar xs 0 0 xAA = xQ
  show ww xp l xe (xRm (d + 2)) xs xm xar xbl xme xc 9 xD xcs xad shM xAA xQ 0 [(0, .ref 0), (1, .int (nI (w.getD 0 0))), (2, .int (nI (w.getD 1 0))), (3, .int (nI (w.getD 2 0))), (4, .int (nI (w.getD 3 0))), (5, .int (nI (w.getD 4 0))), (6, .int (nI (w.getD 5 0))), (7, .int (nI (w.getD 6 0))), (8, .int (nI (w.getD 7 0)))] [] z
  have g6 := hpm.2.2.2.2.2
  refine ww_blk xCC okX6_isWord 0 2 (ps := []) (pc' := 4) (lv' := [(0, .ref 0), (1, .int (nI (w.getD 0 0))), (2, .int (nI (w.getD 1 0))), (3, .int (nI (w.getD 2 0))), (4, .int (nI (w.getD 3 0))), (5, .int (nI (w.getD 4 0))), (6, .int (nI (w.getD 5 0))), (7, .int (nI (w.getD 6 0))), (8, .int (nI (w.getD 7 0)))]) (st' := [.int (z.1 0 29)]) (z' := z) rfl trivial ?_
  refine ww_br xCC okX6_isWord 2 (P := (z.1 0 29) = 0) (t1 := 7) (t2 := 112) (r := []) rfl (fun c1 => ?_) (fun c1 => absurd (hbad) c1)
  refine ww_blk xCC okX6_isWord 3 3 (ps := []) (pc' := 12) (lv' := [(0, .ref 0), (1, .int (nI (w.getD 0 0))), (2, .int (nI (w.getD 1 0))), (3, .int (nI (w.getD 2 0))), (4, .int (nI (w.getD 3 0))), (5, .int (nI (w.getD 4 0))), (6, .int (nI (w.getD 5 0))), (7, .int (nI (w.getD 6 0))), (8, .int (nI (w.getD 7 0)))]) (st' := [.int 1, .int (z.1 0 25)]) (z' := z) rfl trivial ?_
  refine ww_br xCC okX6_isWord 6 (P := (z.1 0 25) = 1) (t1 := 15) (t2 := 112) (r := []) rfl (fun c2 => ?_) (fun c2 => ?_)
  · skip
    obtain ⟨a, b, ha, hb, hpa, han, hbn, hlet, hcode⟩ := tkM_word hpos htk c2
    have hcc := fun i hi => (pWords_ok _ hw).2 i hi
    refine ww_blk xCC okX6_isWord 7 6 (ps := []) (pc' := 26) (lv' := [(0, .ref 0), (1, .int (nI (w.getD 0 0))), (2, .int (nI (w.getD 1 0))), (3, .int (nI (w.getD 2 0))), (4, .int (nI (w.getD 3 0))), (5, .int (nI (w.getD 4 0))), (6, .int (nI (w.getD 5 0))), (7, .int (nI (w.getD 6 0))), (8, .int (nI (w.getD 7 0)))]) (st' := [.int ((z.1 0 26) + 8), .int (z.1 0 24)]) (z' := z) rfl trivial ?_
    rw [ha]
    rw [show nI a + 8 = nI (a + 8) from nI_add a 8]
    rw [hb]
    refine ww_br xCC okX6_isWord 13 (P := (nI (a + 8)) < (nI b)) (t1 := 112) (t2 := 29) (r := []) rfl (fun c3 => ?_) (fun c3 => ?_)
    · skip
      replace c3 : (a + 8) < b := (sLT (a := (a + 8)) (b := b) (by omega) (by omega)).mp c3
      refine ww_blk xCC okX6_isWord 56 1 (ps := []) (pc' := 113) (lv' := [(0, .ref 0), (1, .int (nI (w.getD 0 0))), (2, .int (nI (w.getD 1 0))), (3, .int (nI (w.getD 2 0))), (4, .int (nI (w.getD 3 0))), (5, .int (nI (w.getD 4 0))), (6, .int (nI (w.getD 5 0))), (7, .int (nI (w.getD 6 0))), (8, .int (nI (w.getD 7 0)))]) (st' := [.int 0]) (z' := z) rfl trivial ?_
      subst xhQ
      exact ww_iret xCC okX6_isWord 57 xhr rfl (by decide) (Or.inr ⟨rfl, ⟨(by first | exact tkM_noword hw htk hw0 | (rw [Ne, hcode, pWd_of hw, ← pL_all hw hpa hlet]; exact fun q => hno (q.2 _ hni)) | (rw [Ne, hcode, pWd_of hw, ← pL_all hw hpa hlet]; exact fun q => absurd q.1 (by omega))), rfl⟩⟩)
    · skip
      replace c3 : ¬ (a + 8) < b := fun q => c3 ((sLT (a := (a + 8)) (b := b) (by omega) (by omega)).mpr q)
      refine ww_blk xCC okX6_isWord 14 3 (ps := []) (pc' := 32) (lv' := [(0, .ref 0), (1, .int (nI (w.getD 0 0))), (2, .int (nI (w.getD 1 0))), (3, .int (nI (w.getD 2 0))), (4, .int (nI (w.getD 3 0))), (5, .int (nI (w.getD 4 0))), (6, .int (nI (w.getD 5 0))), (7, .int (nI (w.getD 6 0))), (8, .int (nI (w.getD 7 0)))]) (st' := [.int (nI (w.getD 0 0)), .int 0, .ref 0]) (z' := z) rfl trivial ?_
      refine ww_callVIz xCC okX6_isWord 17 (ix := 183) (t_X6_isLetter l d z bt n fr hpm a b 0 (w.getD 0 0) ha hb hbn han (by decide) (pW_lt hw 0)) (by omega) (by decide) xyX6_isLetter xiX6_isLetter (Or.inl (lw_gt_of (List.mem_of_getElem? (i := 1028) (by decide +kernel)) rfl)) rfl rfl rfl (rest := []) rfl (Nat.le_of_ble_eq_true rfl) rfl (fun z4 h5 => ?_) (fun z4 h5 => ?_)
      · skip
        rw [h5.2]
        have hl0 := h5.1
        refine ww_br xCC okX6_isWord 18 (P := 1 = 0) (t1 := 112) (t2 := 38) (r := []) rfl (fun q => absurd q (by decide)) (fun _ => ?_)
        refine ww_blk xCC okX6_isWord 19 3 (ps := []) (pc' := 41) (lv' := [(0, .ref 0), (1, .int (nI (w.getD 0 0))), (2, .int (nI (w.getD 1 0))), (3, .int (nI (w.getD 2 0))), (4, .int (nI (w.getD 3 0))), (5, .int (nI (w.getD 4 0))), (6, .int (nI (w.getD 5 0))), (7, .int (nI (w.getD 6 0))), (8, .int (nI (w.getD 7 0)))]) (st' := [.int (nI (w.getD 1 0)), .int 1, .ref 0]) (z' := z) rfl trivial ?_
        refine ww_callVIz xCC okX6_isWord 22 (ix := 183) (t_X6_isLetter l d z bt n fr hpm a b 1 (w.getD 1 0) ha hb hbn han (by decide) (pW_lt hw 1)) (by omega) (by decide) xyX6_isLetter xiX6_isLetter (Or.inl (lw_gt_of (List.mem_of_getElem? (i := 1028) (by decide +kernel)) rfl)) rfl rfl rfl (rest := []) rfl (Nat.le_of_ble_eq_true rfl) rfl (fun z7 h8 => ?_) (fun z7 h8 => ?_)
        · skip
          rw [h8.2]
          have hl1 := h8.1
          refine ww_br xCC okX6_isWord 23 (P := 1 = 0) (t1 := 112) (t2 := 47) (r := []) rfl (fun q => absurd q (by decide)) (fun _ => ?_)
          refine ww_blk xCC okX6_isWord 24 3 (ps := []) (pc' := 50) (lv' := [(0, .ref 0), (1, .int (nI (w.getD 0 0))), (2, .int (nI (w.getD 1 0))), (3, .int (nI (w.getD 2 0))), (4, .int (nI (w.getD 3 0))), (5, .int (nI (w.getD 4 0))), (6, .int (nI (w.getD 5 0))), (7, .int (nI (w.getD 6 0))), (8, .int (nI (w.getD 7 0)))]) (st' := [.int (nI (w.getD 2 0)), .int 2, .ref 0]) (z' := z) rfl trivial ?_
          refine ww_callVIz xCC okX6_isWord 27 (ix := 183) (t_X6_isLetter l d z bt n fr hpm a b 2 (w.getD 2 0) ha hb hbn han (by decide) (pW_lt hw 2)) (by omega) (by decide) xyX6_isLetter xiX6_isLetter (Or.inl (lw_gt_of (List.mem_of_getElem? (i := 1028) (by decide +kernel)) rfl)) rfl rfl rfl (rest := []) rfl (Nat.le_of_ble_eq_true rfl) rfl (fun z10 h11 => ?_) (fun z10 h11 => ?_)
          · skip
            rw [h11.2]
            have hl2 := h11.1
            refine ww_br xCC okX6_isWord 28 (P := 1 = 0) (t1 := 112) (t2 := 56) (r := []) rfl (fun q => absurd q (by decide)) (fun _ => ?_)
            refine ww_blk xCC okX6_isWord 29 3 (ps := []) (pc' := 60) (lv' := [(0, .ref 0), (1, .int (nI (w.getD 0 0))), (2, .int (nI (w.getD 1 0))), (3, .int (nI (w.getD 2 0))), (4, .int (nI (w.getD 3 0))), (5, .int (nI (w.getD 4 0))), (6, .int (nI (w.getD 5 0))), (7, .int (nI (w.getD 6 0))), (8, .int (nI (w.getD 7 0)))]) (st' := [.int (nI (w.getD 3 0)), .int 3, .ref 0]) (z' := z) rfl trivial ?_
            refine ww_callVIz xCC okX6_isWord 32 (ix := 183) (t_X6_isLetter l d z bt n fr hpm a b 3 (w.getD 3 0) ha hb hbn han (by decide) (pW_lt hw 3)) (by omega) (by decide) xyX6_isLetter xiX6_isLetter (Or.inl (lw_gt_of (List.mem_of_getElem? (i := 1028) (by decide +kernel)) rfl)) rfl rfl rfl (rest := []) rfl (Nat.le_of_ble_eq_true rfl) rfl (fun z13 h14 => ?_) (fun z13 h14 => ?_)
            · skip
              rw [h14.2]
              have hl3 := h14.1
              refine ww_br xCC okX6_isWord 33 (P := 1 = 0) (t1 := 112) (t2 := 66) (r := []) rfl (fun q => absurd q (by decide)) (fun _ => ?_)
              refine ww_blk xCC okX6_isWord 34 3 (ps := []) (pc' := 70) (lv' := [(0, .ref 0), (1, .int (nI (w.getD 0 0))), (2, .int (nI (w.getD 1 0))), (3, .int (nI (w.getD 2 0))), (4, .int (nI (w.getD 3 0))), (5, .int (nI (w.getD 4 0))), (6, .int (nI (w.getD 5 0))), (7, .int (nI (w.getD 6 0))), (8, .int (nI (w.getD 7 0)))]) (st' := [.int (nI (w.getD 4 0)), .int 4, .ref 0]) (z' := z) rfl trivial ?_
              refine ww_callVIz xCC okX6_isWord 37 (ix := 183) (t_X6_isLetter l d z bt n fr hpm a b 4 (w.getD 4 0) ha hb hbn han (by decide) (pW_lt hw 4)) (by omega) (by decide) xyX6_isLetter xiX6_isLetter (Or.inl (lw_gt_of (List.mem_of_getElem? (i := 1028) (by decide +kernel)) rfl)) rfl rfl rfl (rest := []) rfl (Nat.le_of_ble_eq_true rfl) rfl (fun z16 h17 => ?_) (fun z16 h17 => ?_)
              · skip
                rw [h17.2]
                have hl4 := h17.1
                refine ww_br xCC okX6_isWord 38 (P := 1 = 0) (t1 := 112) (t2 := 76) (r := []) rfl (fun q => absurd q (by decide)) (fun _ => ?_)
                refine ww_blk xCC okX6_isWord 39 3 (ps := []) (pc' := 80) (lv' := [(0, .ref 0), (1, .int (nI (w.getD 0 0))), (2, .int (nI (w.getD 1 0))), (3, .int (nI (w.getD 2 0))), (4, .int (nI (w.getD 3 0))), (5, .int (nI (w.getD 4 0))), (6, .int (nI (w.getD 5 0))), (7, .int (nI (w.getD 6 0))), (8, .int (nI (w.getD 7 0)))]) (st' := [.int (nI (w.getD 5 0)), .int 5, .ref 0]) (z' := z) rfl trivial ?_
                refine ww_callVIz xCC okX6_isWord 42 (ix := 183) (t_X6_isLetter l d z bt n fr hpm a b 5 (w.getD 5 0) ha hb hbn han (by decide) (pW_lt hw 5)) (by omega) (by decide) xyX6_isLetter xiX6_isLetter (Or.inl (lw_gt_of (List.mem_of_getElem? (i := 1028) (by decide +kernel)) rfl)) rfl rfl rfl (rest := []) rfl (Nat.le_of_ble_eq_true rfl) rfl (fun z19 h20 => ?_) (fun z19 h20 => ?_)
                · skip
                  rw [h20.2]
                  have hl5 := h20.1
                  refine ww_br xCC okX6_isWord 43 (P := 1 = 0) (t1 := 112) (t2 := 86) (r := []) rfl (fun q => absurd q (by decide)) (fun _ => ?_)
                  refine ww_blk xCC okX6_isWord 44 3 (ps := []) (pc' := 91) (lv' := [(0, .ref 0), (1, .int (nI (w.getD 0 0))), (2, .int (nI (w.getD 1 0))), (3, .int (nI (w.getD 2 0))), (4, .int (nI (w.getD 3 0))), (5, .int (nI (w.getD 4 0))), (6, .int (nI (w.getD 5 0))), (7, .int (nI (w.getD 6 0))), (8, .int (nI (w.getD 7 0)))]) (st' := [.int (nI (w.getD 6 0)), .int 6, .ref 0]) (z' := z) rfl trivial ?_
                  refine ww_callVIz xCC okX6_isWord 47 (ix := 183) (t_X6_isLetter l d z bt n fr hpm a b 6 (w.getD 6 0) ha hb hbn han (by decide) (pW_lt hw 6)) (by omega) (by decide) xyX6_isLetter xiX6_isLetter (Or.inl (lw_gt_of (List.mem_of_getElem? (i := 1028) (by decide +kernel)) rfl)) rfl rfl rfl (rest := []) rfl (Nat.le_of_ble_eq_true rfl) rfl (fun z22 h23 => ?_) (fun z22 h23 => ?_)
                  · skip
                    rw [h23.2]
                    have hl6 := h23.1
                    refine ww_br xCC okX6_isWord 48 (P := 1 = 0) (t1 := 112) (t2 := 97) (r := []) rfl (fun q => absurd q (by decide)) (fun _ => ?_)
                    refine ww_blk xCC okX6_isWord 49 3 (ps := []) (pc' := 102) (lv' := [(0, .ref 0), (1, .int (nI (w.getD 0 0))), (2, .int (nI (w.getD 1 0))), (3, .int (nI (w.getD 2 0))), (4, .int (nI (w.getD 3 0))), (5, .int (nI (w.getD 4 0))), (6, .int (nI (w.getD 5 0))), (7, .int (nI (w.getD 6 0))), (8, .int (nI (w.getD 7 0)))]) (st' := [.int (nI (w.getD 7 0)), .int 7, .ref 0]) (z' := z) rfl trivial ?_
                    refine ww_callVIz xCC okX6_isWord 52 (ix := 183) (t_X6_isLetter l d z bt n fr hpm a b 7 (w.getD 7 0) ha hb hbn han (by decide) (pW_lt hw 7)) (by omega) (by decide) xyX6_isLetter xiX6_isLetter (Or.inl (lw_gt_of (List.mem_of_getElem? (i := 1028) (by decide +kernel)) rfl)) rfl rfl rfl (rest := []) rfl (Nat.le_of_ble_eq_true rfl) rfl (fun z25 h26 => ?_) (fun z25 h26 => ?_)
                    · skip
                      rw [h26.2]
                      have hl7 := h26.1
                      refine ww_br xCC okX6_isWord 53 (P := 1 = 0) (t1 := 112) (t2 := 108) (r := []) rfl (fun q => absurd q (by decide)) (fun _ => ?_)
                      refine ww_blk xCC okX6_isWord 54 2 (ps := []) (pc' := 113) (lv' := [(0, .ref 0), (1, .int (nI (w.getD 0 0))), (2, .int (nI (w.getD 1 0))), (3, .int (nI (w.getD 2 0))), (4, .int (nI (w.getD 3 0))), (5, .int (nI (w.getD 4 0))), (6, .int (nI (w.getD 5 0))), (7, .int (nI (w.getD 6 0))), (8, .int (nI (w.getD 7 0)))]) (st' := [.int 1]) (z' := z) rfl trivial ?_
                      subst xhQ
                      exact ww_iret xCC okX6_isWord 57 xhr rfl (by decide) (Or.inl ⟨rfl, ⟨(by rw [hcode, pWd_of hw, ← pL_all hw hpa hlet]; exact ⟨by omega, fun i hi => by rcases (show i = 0 ∨ i = 1 ∨ i = 2 ∨ i = 3 ∨ i = 4 ∨ i = 5 ∨ i = 6 ∨ i = 7 by omega) with rfl | rfl | rfl | rfl | rfl | rfl | rfl | rfl <;> assumption⟩), rfl⟩⟩)
                    · skip
                      rw [h26.2]
                      have hno := h26.1
                      have hni : (7 : Nat) < 8 := by decide
                      refine ww_br xCC okX6_isWord 53 (P := 0 = 0) (t1 := 112) (t2 := 108) (r := []) rfl (fun _ => ?_) (fun q => absurd (by decide) q)
                      refine ww_blk xCC okX6_isWord 56 1 (ps := []) (pc' := 113) (lv' := [(0, .ref 0), (1, .int (nI (w.getD 0 0))), (2, .int (nI (w.getD 1 0))), (3, .int (nI (w.getD 2 0))), (4, .int (nI (w.getD 3 0))), (5, .int (nI (w.getD 4 0))), (6, .int (nI (w.getD 5 0))), (7, .int (nI (w.getD 6 0))), (8, .int (nI (w.getD 7 0)))]) (st' := [.int 0]) (z' := z) rfl trivial ?_
                      subst xhQ
                      exact ww_iret xCC okX6_isWord 57 xhr rfl (by decide) (Or.inr ⟨rfl, ⟨(by first | exact tkM_noword hw htk hw0 | (rw [Ne, hcode, pWd_of hw, ← pL_all hw hpa hlet]; exact fun q => hno (q.2 _ hni)) | (rw [Ne, hcode, pWd_of hw, ← pL_all hw hpa hlet]; exact fun q => absurd q.1 (by omega))), rfl⟩⟩)
                  · skip
                    rw [h23.2]
                    have hno := h23.1
                    have hni : (6 : Nat) < 8 := by decide
                    refine ww_br xCC okX6_isWord 48 (P := 0 = 0) (t1 := 112) (t2 := 97) (r := []) rfl (fun _ => ?_) (fun q => absurd (by decide) q)
                    refine ww_blk xCC okX6_isWord 56 1 (ps := []) (pc' := 113) (lv' := [(0, .ref 0), (1, .int (nI (w.getD 0 0))), (2, .int (nI (w.getD 1 0))), (3, .int (nI (w.getD 2 0))), (4, .int (nI (w.getD 3 0))), (5, .int (nI (w.getD 4 0))), (6, .int (nI (w.getD 5 0))), (7, .int (nI (w.getD 6 0))), (8, .int (nI (w.getD 7 0)))]) (st' := [.int 0]) (z' := z) rfl trivial ?_
                    subst xhQ
                    exact ww_iret xCC okX6_isWord 57 xhr rfl (by decide) (Or.inr ⟨rfl, ⟨(by first | exact tkM_noword hw htk hw0 | (rw [Ne, hcode, pWd_of hw, ← pL_all hw hpa hlet]; exact fun q => hno (q.2 _ hni)) | (rw [Ne, hcode, pWd_of hw, ← pL_all hw hpa hlet]; exact fun q => absurd q.1 (by omega))), rfl⟩⟩)
                · skip
                  rw [h20.2]
                  have hno := h20.1
                  have hni : (5 : Nat) < 8 := by decide
                  refine ww_br xCC okX6_isWord 43 (P := 0 = 0) (t1 := 112) (t2 := 86) (r := []) rfl (fun _ => ?_) (fun q => absurd (by decide) q)
                  refine ww_blk xCC okX6_isWord 56 1 (ps := []) (pc' := 113) (lv' := [(0, .ref 0), (1, .int (nI (w.getD 0 0))), (2, .int (nI (w.getD 1 0))), (3, .int (nI (w.getD 2 0))), (4, .int (nI (w.getD 3 0))), (5, .int (nI (w.getD 4 0))), (6, .int (nI (w.getD 5 0))), (7, .int (nI (w.getD 6 0))), (8, .int (nI (w.getD 7 0)))]) (st' := [.int 0]) (z' := z) rfl trivial ?_
                  subst xhQ
                  exact ww_iret xCC okX6_isWord 57 xhr rfl (by decide) (Or.inr ⟨rfl, ⟨(by first | exact tkM_noword hw htk hw0 | (rw [Ne, hcode, pWd_of hw, ← pL_all hw hpa hlet]; exact fun q => hno (q.2 _ hni)) | (rw [Ne, hcode, pWd_of hw, ← pL_all hw hpa hlet]; exact fun q => absurd q.1 (by omega))), rfl⟩⟩)
              · skip
                rw [h17.2]
                have hno := h17.1
                have hni : (4 : Nat) < 8 := by decide
                refine ww_br xCC okX6_isWord 38 (P := 0 = 0) (t1 := 112) (t2 := 76) (r := []) rfl (fun _ => ?_) (fun q => absurd (by decide) q)
                refine ww_blk xCC okX6_isWord 56 1 (ps := []) (pc' := 113) (lv' := [(0, .ref 0), (1, .int (nI (w.getD 0 0))), (2, .int (nI (w.getD 1 0))), (3, .int (nI (w.getD 2 0))), (4, .int (nI (w.getD 3 0))), (5, .int (nI (w.getD 4 0))), (6, .int (nI (w.getD 5 0))), (7, .int (nI (w.getD 6 0))), (8, .int (nI (w.getD 7 0)))]) (st' := [.int 0]) (z' := z) rfl trivial ?_
                subst xhQ
                exact ww_iret xCC okX6_isWord 57 xhr rfl (by decide) (Or.inr ⟨rfl, ⟨(by first | exact tkM_noword hw htk hw0 | (rw [Ne, hcode, pWd_of hw, ← pL_all hw hpa hlet]; exact fun q => hno (q.2 _ hni)) | (rw [Ne, hcode, pWd_of hw, ← pL_all hw hpa hlet]; exact fun q => absurd q.1 (by omega))), rfl⟩⟩)
            · skip
              rw [h14.2]
              have hno := h14.1
              have hni : (3 : Nat) < 8 := by decide
              refine ww_br xCC okX6_isWord 33 (P := 0 = 0) (t1 := 112) (t2 := 66) (r := []) rfl (fun _ => ?_) (fun q => absurd (by decide) q)
              refine ww_blk xCC okX6_isWord 56 1 (ps := []) (pc' := 113) (lv' := [(0, .ref 0), (1, .int (nI (w.getD 0 0))), (2, .int (nI (w.getD 1 0))), (3, .int (nI (w.getD 2 0))), (4, .int (nI (w.getD 3 0))), (5, .int (nI (w.getD 4 0))), (6, .int (nI (w.getD 5 0))), (7, .int (nI (w.getD 6 0))), (8, .int (nI (w.getD 7 0)))]) (st' := [.int 0]) (z' := z) rfl trivial ?_
              subst xhQ
              exact ww_iret xCC okX6_isWord 57 xhr rfl (by decide) (Or.inr ⟨rfl, ⟨(by first | exact tkM_noword hw htk hw0 | (rw [Ne, hcode, pWd_of hw, ← pL_all hw hpa hlet]; exact fun q => hno (q.2 _ hni)) | (rw [Ne, hcode, pWd_of hw, ← pL_all hw hpa hlet]; exact fun q => absurd q.1 (by omega))), rfl⟩⟩)
          · skip
            rw [h11.2]
            have hno := h11.1
            have hni : (2 : Nat) < 8 := by decide
            refine ww_br xCC okX6_isWord 28 (P := 0 = 0) (t1 := 112) (t2 := 56) (r := []) rfl (fun _ => ?_) (fun q => absurd (by decide) q)
            refine ww_blk xCC okX6_isWord 56 1 (ps := []) (pc' := 113) (lv' := [(0, .ref 0), (1, .int (nI (w.getD 0 0))), (2, .int (nI (w.getD 1 0))), (3, .int (nI (w.getD 2 0))), (4, .int (nI (w.getD 3 0))), (5, .int (nI (w.getD 4 0))), (6, .int (nI (w.getD 5 0))), (7, .int (nI (w.getD 6 0))), (8, .int (nI (w.getD 7 0)))]) (st' := [.int 0]) (z' := z) rfl trivial ?_
            subst xhQ
            exact ww_iret xCC okX6_isWord 57 xhr rfl (by decide) (Or.inr ⟨rfl, ⟨(by first | exact tkM_noword hw htk hw0 | (rw [Ne, hcode, pWd_of hw, ← pL_all hw hpa hlet]; exact fun q => hno (q.2 _ hni)) | (rw [Ne, hcode, pWd_of hw, ← pL_all hw hpa hlet]; exact fun q => absurd q.1 (by omega))), rfl⟩⟩)
        · skip
          rw [h8.2]
          have hno := h8.1
          have hni : (1 : Nat) < 8 := by decide
          refine ww_br xCC okX6_isWord 23 (P := 0 = 0) (t1 := 112) (t2 := 47) (r := []) rfl (fun _ => ?_) (fun q => absurd (by decide) q)
          refine ww_blk xCC okX6_isWord 56 1 (ps := []) (pc' := 113) (lv' := [(0, .ref 0), (1, .int (nI (w.getD 0 0))), (2, .int (nI (w.getD 1 0))), (3, .int (nI (w.getD 2 0))), (4, .int (nI (w.getD 3 0))), (5, .int (nI (w.getD 4 0))), (6, .int (nI (w.getD 5 0))), (7, .int (nI (w.getD 6 0))), (8, .int (nI (w.getD 7 0)))]) (st' := [.int 0]) (z' := z) rfl trivial ?_
          subst xhQ
          exact ww_iret xCC okX6_isWord 57 xhr rfl (by decide) (Or.inr ⟨rfl, ⟨(by first | exact tkM_noword hw htk hw0 | (rw [Ne, hcode, pWd_of hw, ← pL_all hw hpa hlet]; exact fun q => hno (q.2 _ hni)) | (rw [Ne, hcode, pWd_of hw, ← pL_all hw hpa hlet]; exact fun q => absurd q.1 (by omega))), rfl⟩⟩)
      · skip
        rw [h5.2]
        have hno := h5.1
        have hni : (0 : Nat) < 8 := by decide
        refine ww_br xCC okX6_isWord 18 (P := 0 = 0) (t1 := 112) (t2 := 38) (r := []) rfl (fun _ => ?_) (fun q => absurd (by decide) q)
        refine ww_blk xCC okX6_isWord 56 1 (ps := []) (pc' := 113) (lv' := [(0, .ref 0), (1, .int (nI (w.getD 0 0))), (2, .int (nI (w.getD 1 0))), (3, .int (nI (w.getD 2 0))), (4, .int (nI (w.getD 3 0))), (5, .int (nI (w.getD 4 0))), (6, .int (nI (w.getD 5 0))), (7, .int (nI (w.getD 6 0))), (8, .int (nI (w.getD 7 0)))]) (st' := [.int 0]) (z' := z) rfl trivial ?_
        subst xhQ
        exact ww_iret xCC okX6_isWord 57 xhr rfl (by decide) (Or.inr ⟨rfl, ⟨(by first | exact tkM_noword hw htk hw0 | (rw [Ne, hcode, pWd_of hw, ← pL_all hw hpa hlet]; exact fun q => hno (q.2 _ hni)) | (rw [Ne, hcode, pWd_of hw, ← pL_all hw hpa hlet]; exact fun q => absurd q.1 (by omega))), rfl⟩⟩)
  · skip
    have hw0 := c2
    refine ww_blk xCC okX6_isWord 56 1 (ps := []) (pc' := 113) (lv' := [(0, .ref 0), (1, .int (nI (w.getD 0 0))), (2, .int (nI (w.getD 1 0))), (3, .int (nI (w.getD 2 0))), (4, .int (nI (w.getD 3 0))), (5, .int (nI (w.getD 4 0))), (6, .int (nI (w.getD 5 0))), (7, .int (nI (w.getD 6 0))), (8, .int (nI (w.getD 7 0)))]) (st' := [.int 0]) (z' := z) rfl trivial ?_
    subst xhQ
    exact ww_iret xCC okX6_isWord 57 xhr rfl (by decide) (Or.inr ⟨rfl, ⟨(by first | exact tkM_noword hw htk hw0 | (rw [Ne, hcode, pWd_of hw, ← pL_all hw hpa hlet]; exact fun q => hno (q.2 _ hni)) | (rw [Ne, hcode, pWd_of hw, ← pL_all hw hpa hlet]; exact fun q => absurd q.1 (by omega))), rfl⟩⟩)

set_option maxHeartbeats 4000000 in
set_option maxRecDepth 20000 in
theorem t_X6_isWord_b (l : Launch) (d : Nat) (z : xMem) (hbad : z.1 0 29 = 1) (a b c e f g h i : Int32) : XMi l d yX6_isWord cX6_isWord 9 (some .boolean) shM [.ref 0, .int a, .int b, .int c, .int e, .int f, .int g, .int h, .int i] z (fun v z' => v = 0 ∧ z' = z) := by
  refine XM.of (by decide) (Nat.le_of_ble_eq_true rfl) (fun xp xe xs xm xar xbl xme xc xD xcs xad xAA xCC xhr => ?_)
  generalize xhQ : MQ xbl _ xar xs 0 0 xAA = xQ
  show ww xp l xe (xRm d) xs xm xar xbl xme xc 9 xD xcs xad shM xAA xQ 0 [(0, .ref 0), (1, .int a), (2, .int b), (3, .int c), (4, .int e), (5, .int f), (6, .int g), (7, .int h), (8, .int i)] [] z
  refine ww_blk xCC okX6_isWord 0 2 (ps := []) (pc' := 4) (lv' := [(0, .ref 0), (1, .int a), (2, .int b), (3, .int c), (4, .int e), (5, .int f), (6, .int g), (7, .int h), (8, .int i)]) (st' := [.int (z.1 0 29)]) (z' := z) rfl trivial ?_
  refine ww_br xCC okX6_isWord 2 (P := (z.1 0 29) = 0) (t1 := 7) (t2 := 112) (r := []) rfl (fun c1 => absurd c1 (by rw [hbad]; decide)) (fun c1 => ?_)
  refine ww_blk xCC okX6_isWord 56 1 (ps := []) (pc' := 113) (lv' := [(0, .ref 0), (1, .int a), (2, .int b), (3, .int c), (4, .int e), (5, .int f), (6, .int g), (7, .int h), (8, .int i)]) (st' := [.int 0]) (z' := z) rfl trivial ?_
  subst xhQ
  exact ww_iret xCC okX6_isWord 57 xhr rfl (by decide) ⟨_, rfl, ⟨rfl, rfl⟩⟩
end
section
/-! the model's reader: good and bad states, and the grammar's steps -/
def gS (z : xMem) (bt : Nat → Nat) (n fr pos o : Nat) : Prop := pM z bt n fr ∧ z.1 0 29 = 0 ∧ z.1 0 28 = nI o ∧ tkM z bt n pos ∧ pos ≤ n ∧ o ≤ 5
def bS (z : xMem) (f : Nat) : Prop := z.1 0 29 = 1 ∧ z.1 0 30 = nI f
def pF (z : xMem) : Nat → Int32 := fun c => z.1 0 (16 + (c - 10000))
def mR (z z' : xMem) (bt : Nat → Nat) (n fr o tag : Nat) (cs : List Nat) (p : Nat) (v : Int32) : Prop := pK z z' ∧ ((tag = 1 ∧ gS z' bt n fr p o ∧ ∀ st, pEv (pF z) cs st = v :: st) ∨ (tag = 2 ∧ bS z' p))
/-- a reading method of the model, at a fuel -/
def MC (l : Launch) (bt : Nat → Nat) (n fr : Nat) (y : MethodName) (cy : ByteArray) (maxL m f : Nat) : Prop := ∀ (d : Nat) (z : xMem) (o pos tag : Nat) (cs : List Nat) (p : Nat), gS z bt n fr pos o → pG bt n f m o pos = (tag, cs, p) → tag ≠ 0 → XMi l (d + f + 5) y cy maxL (some .int) shM [.ref 0] z (fun v z' => mR z z' bt n fr o tag cs p v)
theorem gS_nx {z z' : xMem} {bt : Nat → Nat} {n fr p o : Nat} (h1 : pM z bt n fr) (h2 : z.1 0 29 = 0) (h3 : z.1 0 28 = nI o) (h4 : pK4 z z') (h5 : tkM z' bt n p) (hp : p ≤ n) (ho : o ≤ 5) : gS z' bt n fr p o :=
  ⟨pM_K (pK4_K h4) h1, (h4.2 29 (by omega)).trans h2, (h4.2 28 (by omega)).trans h3, h5, hp, ho⟩
theorem pF_K {z z' : xMem} (h : pK z z') {c : Nat} (hc : 10000 ≤ c) (hc2 : c ≤ 10005) : pF z' c = pF z c := h.2 _ (by omega)
theorem pStep_K {z z' : xMem} (h : pK z z') (c : Nat) (st : List Int32) : pStep (pF z') c st = pStep (pF z) c st := by
  unfold pStep
  split
  · split
    · rfl
    · rw [pF_K h (by omega) (by omega)]
  · rfl
theorem pEv_K {z z' : xMem} (h : pK z z') : ∀ (cs : List Nat) (st : List Int32), pEv (pF z') cs st = pEv (pF z) cs st
  | [], st => rfl
  | c :: cs, st => by
    simp only [pEv]
    rw [pStep_K h, pEv_K h cs]
/-- a chain: what is first, what may follow -/
theorem pG_ch {bt : Nat → Nat} {n f m sub rest o pos tag : Nat} {cs : List Nat} {p : Nat} (hm : (m, sub, rest) ∈ [(0, 1, 10), (1, 2, 11), (4, 5, 14), (5, 6, 15)]) (h : pG bt n f m o pos = (tag, cs, p)) (ht : tag ≠ 0) : ∃ g t1 c1 p1, f = g + 1 ∧ pG bt n g sub o pos = (t1, c1, p1) ∧ t1 ≠ 0 ∧ ((t1 = 2 ∧ tag = 2 ∧ p = p1) ∨ (t1 = 1 ∧ ∃ c2, pG bt n g rest o p1 = (tag, c2, p) ∧ (tag = 1 → cs = c1 ++ c2))) := by
  cases f with
  | zero => simp only [pG, Prod.mk.injEq] at h; exact absurd h.1.symm ht
  | succ g =>
    have key : pChain (fun s p => pG bt n g s o p) pos sub rest = (tag, cs, p) := by
      simp only [List.mem_cons, Prod.mk.injEq, List.not_mem_nil, or_false] at hm
      rcases hm with ⟨rfl, rfl, rfl⟩ | ⟨rfl, rfl, rfl⟩ | ⟨rfl, rfl, rfl⟩ | ⟨rfl, rfl, rfl⟩ <;> exact h
    refine ⟨g, (pG bt n g sub o pos).1, (pG bt n g sub o pos).2.1, (pG bt n g sub o pos).2.2, rfl, rfl, ?_⟩
    rcases pSeq_of (pG_ok bt n g sub o pos) key ht with ⟨h1, h2, h3⟩ | ⟨h1, h2⟩
    · exact ⟨by omega, Or.inl ⟨h1, h2, h3⟩⟩
    · refine ⟨by omega, Or.inr ⟨h1, ?_⟩⟩
      rcases pSeq_of (pG_ok bt n g rest o _) h2 ht with ⟨k1, k2, k3⟩ | ⟨k1, k2⟩
      · exact ⟨(pG bt n g rest o (pG bt n g sub o pos).2.2).2.1, Prod.ext (k1.trans k2.symm) (Prod.ext rfl k3.symm), fun q => by omega⟩
      · simp only [Prod.mk.injEq] at k2
        exact ⟨(pG bt n g rest o (pG bt n g sub o pos).2.2).2.1, Prod.ext (k1.trans k2.1) (Prod.ext rfl k2.2.2), fun _ => k2.2.1.symm⟩
/-- what may follow: an operator and one more, or nothing -/
theorem pG_mo {bt : Nat → Nat} {n f m sub o pos tag : Nat} {cs : List Nat} {p : Nat} (hm : (m, sub) ∈ [(10, 1), (11, 2), (14, 5), (15, 6)]) (h : pG bt n f m o pos = (tag, cs, p)) (ht : tag ≠ 0) : ∃ g, f = g + 1 ∧ ((pOp m (pTok bt n pos).1 = false ∧ tag = 1 ∧ cs = [] ∧ p = pos) ∨ (pOp m (pTok bt n pos).1 = true ∧ ∃ t1 c1 p1, pG bt n g sub o (pTok bt n pos).2.2 = (t1, c1, p1) ∧ t1 ≠ 0 ∧ ((t1 = 2 ∧ tag = 2 ∧ p = p1) ∨ (t1 = 1 ∧ ∃ c2, pG bt n g m o p1 = (tag, c2, p) ∧ (tag = 1 → cs = c1 ++ (pTok bt n pos).1 :: c2))))) := by
  cases f with
  | zero => simp only [pG, Prod.mk.injEq] at h; exact absurd h.1.symm ht
  | succ g =>
    have key : pMore (fun s p => pG bt n g s o p) (pTok bt n pos) pos sub m (pOp m) = (tag, cs, p) := by
      simp only [List.mem_cons, Prod.mk.injEq, List.not_mem_nil, or_false] at hm
      rcases hm with ⟨rfl, rfl⟩ | ⟨rfl, rfl⟩ | ⟨rfl, rfl⟩ | ⟨rfl, rfl⟩ <;> exact h
    refine ⟨g, rfl, ?_⟩
    unfold pMore at key
    split at key
    · rename_i hop
      refine Or.inr ⟨hop, (pG bt n g sub o (pTok bt n pos).2.2).1, (pG bt n g sub o (pTok bt n pos).2.2).2.1, (pG bt n g sub o (pTok bt n pos).2.2).2.2, rfl, ?_⟩
      rcases pSeq_of (pG_ok bt n g sub o _) key ht with ⟨h1, h2, h3⟩ | ⟨h1, h2⟩
      · exact ⟨by omega, Or.inl ⟨h1, h2, h3⟩⟩
      · refine ⟨by omega, Or.inr ⟨h1, ?_⟩⟩
        rcases pSeq_of (pG_ok bt n g m o _) h2 ht with ⟨k1, k2, k3⟩ | ⟨k1, k2⟩
        · exact ⟨(pG bt n g m o (pG bt n g sub o (pTok bt n pos).2.2).2.2).2.1, Prod.ext (k1.trans k2.symm) (Prod.ext rfl k3.symm), fun q => by omega⟩
        · simp only [Prod.mk.injEq] at k2
          exact ⟨(pG bt n g m o (pG bt n g sub o (pTok bt n pos).2.2).2.2).2.1, Prod.ext (k1.trans k2.1) (Prod.ext rfl k2.2.2), fun _ => k2.2.1.symm⟩
    · rename_i hop
      simp only [Prod.mk.injEq] at key
      exact Or.inl ⟨by simpa using hop, key.1.symm, key.2.1.symm, key.2.2.symm⟩
/-- the worth of a sign at hand -/
theorem tkM_worth {z : xMem} {bt : Nat → Nat} {n pos c : Nat} (h : tkM z bt n pos) (hbt : ∀ i, bt i < 256) (hc : c ∈ [40, 41, 59, 43, 45, 42, 60, 61]) (he : (pTok bt n pos).1 = pSg c) : z.2.1 0 27 = (nI c).toInt64 := by
  have hck : ∀ k, k ∈ [40, 41, 59, 43, 45, 42, 60, 61] → k < 256 := by decide
  have hc2 := hck c hc
  have hs := pSg_ne c hc
  rw [nI_l (by omega)]
  rcases h.2 with q | q | q | q
  · rw [pTok_end (by rw [← pTok_a]; exact q.1)] at he
    have : (10021 : Nat) = pSg c := he
    omega
  · rw [pTok_word (pTok_a bt n pos).symm q.1 q.2.1] at he
    have : pWd bt (pTok bt n pos).2.1 (pRun pLe bt n (pTok bt n pos).2.1) pWords = pSg c := he
    have := pWd_rng bt (pTok bt n pos).2.1 (pRun pLe bt n (pTok bt n pos).2.1)
    omega
  · rcases q.2.2.2.1 with r | r
    · omega
    · omega
  · have e2 := pTok_sig (pTok_a bt n pos).symm q.1 q.2.1 q.2.2.1
    rcases q.2.2.2 with r | r
    · have e3 : pSg (bt (pTok bt n pos).2.1) = pSg c := by rw [e2] at he; exact he
      have e4 := (pSg_inj _ (hbt _) c hc).mp e3
      rw [r.2.2.1, e4]
    · omega
end
section
/-! fail and opens of the model -/
set_option maxHeartbeats 4000000 in
set_option maxRecDepth 20000 in
theorem t_X6_fail_g (l : Launch) (d : Nat) (z : xMem) (hbad : z.1 0 29 = 0) : XMv l d yX6_fail cX6_fail 1 none shM [.ref 0] z (fun z' => z' = mPut (mPut z 0 29 1) 0 30 (z.1 0 26)) := by
  refine XM.of (by decide) (Nat.le_of_ble_eq_true rfl) (fun xp xe xs xm xar xbl xme xc xD xcs xad xAA xCC xhr => ?_)
  generalize xhQ : MQ xbl _ xar xs 0 0 xAA = xQ
  show ww xp l xe (xRm d) xs xm xar xbl xme xc 1 xD xcs xad shM xAA xQ 0 [(0, .ref 0)] [] z
  refine ww_blk xCC okX6_fail 0 2 (ps := []) (pc' := 4) (lv' := [(0, .ref 0)]) (st' := [.int (z.1 0 29)]) (z' := z) rfl trivial ?_
  refine ww_br xCC okX6_fail 2 (P := (z.1 0 29) = 0) (t1 := 7) (t2 := 20) (r := []) rfl (fun c1 => ?_) (fun c1 => absurd (hbad) c1)
  refine ww_blk xCC okX6_fail 3 7 (ps := [1 = 0 ∨ 1 = 1]) (pc' := 20) (lv' := [(0, .ref 0)]) (st' := []) (z' := (mPut (mPut z 0 29 1) 0 30 (z.1 0 26))) rfl (Or.inr rfl) ?_
  subst xhQ
  exact ww_vret xCC okX6_fail 10 xhr rfl ⟨rfl, rfl⟩

set_option maxHeartbeats 4000000 in
set_option maxRecDepth 20000 in
theorem t_X6_fail_b (l : Launch) (d : Nat) (z : xMem) (hbad : z.1 0 29 = 1) : XMv l d yX6_fail cX6_fail 1 none shM [.ref 0] z (fun z' => z' = z) := by
  refine XM.of (by decide) (Nat.le_of_ble_eq_true rfl) (fun xp xe xs xm xar xbl xme xc xD xcs xad xAA xCC xhr => ?_)
  generalize xhQ : MQ xbl _ xar xs 0 0 xAA = xQ
  show ww xp l xe (xRm d) xs xm xar xbl xme xc 1 xD xcs xad shM xAA xQ 0 [(0, .ref 0)] [] z
  refine ww_blk xCC okX6_fail 0 2 (ps := []) (pc' := 4) (lv' := [(0, .ref 0)]) (st' := [.int (z.1 0 29)]) (z' := z) rfl trivial ?_
  refine ww_br xCC okX6_fail 2 (P := (z.1 0 29) = 0) (t1 := 7) (t2 := 20) (r := []) rfl (fun c1 => absurd c1 (by rw [hbad]; decide)) (fun c1 => ?_)
  subst xhQ
  exact ww_vret xCC okX6_fail 10 xhr rfl ⟨rfl, rfl⟩

set_option maxHeartbeats 4000000 in
set_option maxRecDepth 20000 in
theorem t_X6_opens (l : Launch) (d : Nat) (z : xMem) (bt : Nat → Nat) (n fr : Nat) (pos o : Nat) (hgs : gS z bt n fr pos o) (hne : (pTok bt n pos).1 ≠ 10022) : XMz l (d + 2) yX6_opens cX6_opens 1 (some .boolean) shM [.ref 0] z (fun z' => o < 5 ∧ gS z' bt n fr (pTok bt n pos).2.2 (o + 1) ∧ pK z z') (fun z' => 5 ≤ o ∧ bS z' (pTok bt n pos).2.1 ∧ pK z z') := by
  refine XM.of (by decide) (Nat.le_of_ble_eq_true rfl) (fun xp xe xs xm xar xbl xme xc xD xcs xad xAA xCC xhr => ?_)
  generalize xhQ : MQ xbl _ xar xs 0 0 xAA = xQ
  show ww xp l xe (xRm (d + 2)) xs xm xar xbl xme xc 1 xD xcs xad shM xAA xQ 0 [(0, .ref 0)] [] z
  refine ww_blk xCC okX6_opens 0 3 (ps := []) (pc' := 5) (lv' := [(0, .ref 0)]) (st' := [.int 5, .int (z.1 0 28)]) (z' := z) rfl trivial ?_
  rw [hgs.2.2.1]
  refine ww_br xCC okX6_opens 3 (P := (nI o) = 5) (t1 := 8) (t2 := 14) (r := []) rfl (fun c1 => ?_) (fun c1 => ?_)
  · skip
    replace c1 : o = 5 := (sEQ (a := o) (b := 5) (by have := hgs.2.2.2.2.2; omega) (by have := hgs.2.2.2.2.2; omega)).mp c1
    refine ww_blk xCC okX6_opens 4 1 (ps := []) (pc' := 9) (lv' := [(0, .ref 0)]) (st' := [.ref 0]) (z' := z) rfl trivial ?_
    refine ww_callVIv xCC okX6_opens 5 (ix := 189) (t_X6_fail_g l d z hgs.2.1) (by omega) (by decide) xyX6_fail xiX6_fail (Or.inl (lw_gt_of (List.mem_of_getElem? (i := 1036) (by decide +kernel)) rfl)) rfl rfl rfl (rest := []) rfl (Nat.le_of_ble_eq_true rfl) rfl (fun z2 h3 => ?_)
    rw [h3]
    have hBf : bS (mPut (mPut z 0 29 1) 0 30 (z.1 0 26)) (pTok bt n pos).2.1 := ⟨rfl, hgs.2.2.2.1.1⟩
    refine ww_blk xCC okX6_opens 6 1 (ps := []) (pc' := 13) (lv' := [(0, .ref 0)]) (st' := [.int 0]) (z' := (mPut (mPut z 0 29 1) 0 30 (z.1 0 26))) rfl trivial ?_
    subst xhQ
    exact ww_iret xCC okX6_opens 7 xhr rfl (by decide) (Or.inr ⟨rfl, ⟨(by omega), hBf, (pK_put (pK_put (pK_rf z) _ (by omega)) _ (by omega))⟩⟩)
  · skip
    replace c1 : ¬ o = 5 := fun q => c1 ((sEQ (a := o) (b := 5) (by have := hgs.2.2.2.2.2; omega) (by have := hgs.2.2.2.2.2; omega)).mpr q)
    refine ww_blk xCC okX6_opens 8 7 (ps := []) (pc' := 25) (lv' := [(0, .ref 0)]) (st' := [.ref 0]) (z' := (mPut z 0 28 ((z.1 0 28) + 1))) rfl trivial ?_
    rw [hgs.2.2.1]
    rw [nI_1 o]
    have hg1 : gS (mPut z 0 28 (nI (o + 1))) bt n fr pos (o + 1) := ⟨pM_K (pK_put (pK_rf z) _ (by omega)) hgs.1, hgs.2.1, rfl, tkM_K hgs.2.2.2.1 rfl rfl rfl rfl, hgs.2.2.2.2.1, (by have := hgs.2.2.2.2.2; omega)⟩
    refine ww_callVIv xCC okX6_opens 15 (ix := 192) (t_X6_next l d (mPut z 0 28 (nI (o + 1))) bt n fr hg1.1 (pTok bt n pos).2.2 (pTok_le hg1.2.2.2.2.1).1 (tkM_here hg1.2.2.2.1 hne)) (by omega) (by decide) xyX6_next xiX6_next (Or.inl (lw_gt_of (List.mem_of_getElem? (i := 1011) (by decide +kernel)) rfl)) rfl rfl rfl (rest := []) rfl (Nat.le_of_ble_eq_true rfl) rfl (fun z5 h6 => ?_)
    have hgN25 := gS_nx hg1.1 hg1.2.1 hg1.2.2.1 h6.1 h6.2 (pTok_le hg1.2.2.2.2.1).1 hg1.2.2.2.2.2
    have hKN25 := pK_tr (pK_put (pK_rf z) _ (by omega)) (pK4_K h6.1)
    refine ww_blk xCC okX6_opens 16 1 (ps := []) (pc' := 29) (lv' := [(0, .ref 0)]) (st' := [.int 1]) (z' := z5) rfl trivial ?_
    subst xhQ
    exact ww_iret xCC okX6_opens 17 xhr rfl (by decide) (Or.inl ⟨rfl, ⟨(by have := hgs.2.2.2.2.2; omega), hgN25, hKN25⟩⟩)
end
section
/-! chains of the model -/
set_option maxHeartbeats 4000000 in
set_option maxRecDepth 20000 in
theorem t_X6_term (l : Launch) (d : Nat) (bt : Nat → Nat) (n fr : Nat) (f : Nat) (ih : ∀ g, g < f → MC l bt n fr yX6_atom cX6_atom 2 6 g) (z : xMem) (o pos tag : Nat) (cs : List Nat) (p : Nat) (hgs : gS z bt n fr pos o) (hG : pG bt n f 5 o pos = (tag, cs, p)) (ht : tag ≠ 0) : XMi l (d + f + 5) yX6_term cX6_term 2 (some .int) shM [.ref 0] z (fun v z' => mR z z' bt n fr o tag cs p v) := by
  obtain ⟨g, t1, x1, p1, rfl, h1, ht1, hch⟩ := pG_ch (m := 5) (sub := 6) (rest := 15) (by decide) hG ht
  refine XM.of (by decide) (Nat.le_of_ble_eq_true rfl) (fun xp xe xs xm xar xbl xme xc xD xcs xad xAA xCC xhr => ?_)
  generalize xhQ : MQ xbl _ xar xs 0 0 xAA = xQ
  show ww xp l xe (xRm (d + (g + 1) + 5)) xs xm xar xbl xme xc 2 xD xcs xad shM xAA xQ 0 [(0, .ref 0)] [] z
  refine ww_blk xCC okX6_term 0 1 (ps := []) (pc' := 1) (lv' := [(0, .ref 0)]) (st' := [.ref 0]) (z' := z) rfl trivial ?_
  refine ww_callVIi xCC okX6_term 1 (ix := 224) (ih g (by omega) d z o pos t1 x1 p1 hgs h1 ht1) (by omega) (by decide) xyX6_atom xiX6_atom (Or.inl (lw_gt_of (List.mem_of_getElem? (i := 1064) (by decide +kernel)) rfl)) rfl rfl rfl (rest := []) rfl (Nat.le_of_ble_eq_true rfl) rfl (fun vA zA hA => ?_)
  obtain ⟨hK1, hA1⟩ := hA
  rcases hA1 with ⟨e1, hS1, hv1⟩ | ⟨e1, hB1⟩
  · skip
    obtain ⟨x2, h2, hcs⟩ : ∃ x2, pG bt n g 15 o p1 = (tag, x2, p) ∧ (tag = 1 → cs = x1 ++ x2) := by
      rcases hch with ⟨q, -⟩ | ⟨-, q⟩
      · omega
      · exact q
    refine ww_blk xCC okX6_term 2 1 (ps := []) (pc' := 5) (lv' := [(1, .int vA), (0, .ref 0)]) (st' := []) (z' := zA) rfl trivial ?_
    have L5 : ∀ (n5 : Nat) (f2 : Nat) (q : Nat) (c0 : List Nat) (c3 : List Nat) (v : Int32) (zc : xMem), f2 < n5 → (f2 ≤ g) → (pG bt n f2 15 o q = (tag, c3, p)) → (tag = 1 → cs = c0 ++ c3) → (∀ st, pEv (pF z) c0 st = v :: st) → (gS zc bt n fr q o) → (pK z zc) → ww xp l xe (xRm (d + (g + 1) + 5)) xs xm xar xbl xme xc 2 xD xcs xad shM xAA xQ 5 [(1, .int v), (0, .ref 0)] [] zc := by
      intro n5
      induction n5 with
      | zero =>
        intro f2 q c0 c3 v zc hmu5
        exact absurd hmu5 (Nat.not_lt_zero _)
      | succ n5 ih5 =>
        intro f2 q c0 c3 v zc hmu5 e5_0 e5_1 e5_2 e5_3 e5_4 e5_5
        obtain ⟨g2, rfl, hmo⟩ := pG_mo (m := 15) (sub := 6) (by decide) e5_1 ht
        refine ww_blk xCC okX6_term 3 2 (ps := []) (pc' := 8) (lv' := [(1, .int v), (0, .ref 0)]) (st' := [.int 42, .ref 0]) (z' := zc) rfl trivial ?_
        refine ww_callVIz xCC okX6_term 5 (ix := 217) (t_X6_isSign l d zc bt n q e5_4.1.2.2.2.1 e5_4.2.1 e5_4.2.2.2.1 42 (by decide)) (by omega) (by decide) xyX6_isSign xiX6_isSign (Or.inl (lw_gt_of (List.mem_of_getElem? (i := 1068) (by decide +kernel)) rfl)) rfl rfl rfl (rest := []) rfl (Nat.le_of_ble_eq_true rfl) rfl (fun z1 h2 => ?_) (fun z1 h2 => ?_)
        · skip
          rw [h2.2]
          have hs8 := h2.1
          refine ww_br xCC okX6_term 6 (P := 1 = 0) (t1 := 28) (t2 := 14) (r := []) rfl (fun q => absurd q (by decide)) (fun _ => ?_)
          obtain ⟨t4, x4, p4, h4, ht4, hch4⟩ : ∃ t4 x4 p4, pG bt n g2 6 o (pTok bt n q).2.2 = (t4, x4, p4) ∧ t4 ≠ 0 ∧ ((t4 = 2 ∧ tag = 2 ∧ p = p4) ∨ (t4 = 1 ∧ ∃ x5, pG bt n g2 15 o p4 = (tag, x5, p) ∧ (tag = 1 → c3 = x4 ++ (pTok bt n q).1 :: x5))) := by
            rcases hmo with ⟨w, -⟩ | ⟨-, w⟩
            · rw [show (pTok bt n q).1 = 10012 from hs8.trans (by decide)] at w
              exact absurd w (by decide)
            · exact w
          refine ww_blk xCC okX6_term 7 1 (ps := []) (pc' := 15) (lv' := [(1, .int v), (0, .ref 0)]) (st' := [.ref 0]) (z' := zc) rfl trivial ?_
          refine ww_callVIv xCC okX6_term 8 (ix := 192) (t_X6_next l d zc bt n fr e5_4.1 (pTok bt n q).2.2 (pTok_le e5_4.2.2.2.2.1).1 (tkM_here e5_4.2.2.2.1 (by rw [hs8]; decide))) (by omega) (by decide) xyX6_next xiX6_next (Or.inl (lw_gt_of (List.mem_of_getElem? (i := 1011) (by decide +kernel)) rfl)) rfl rfl rfl (rest := []) rfl (Nat.le_of_ble_eq_true rfl) rfl (fun z4 h5 => ?_)
          have hgN15 := gS_nx e5_4.1 e5_4.2.1 e5_4.2.2.1 h5.1 h5.2 (pTok_le e5_4.2.2.2.2.1).1 e5_4.2.2.2.2.2
          have hKN15 := pK_tr e5_5 (pK4_K h5.1)
          refine ww_blk xCC okX6_term 9 2 (ps := []) (pc' := 20) (lv' := [(1, .int v), (0, .ref 0)]) (st' := [.ref 0, .int v]) (z' := z4) rfl trivial ?_
          refine ww_callVIi xCC okX6_term 11 (ix := 224) (ih g2 (by omega) d z4 o (pTok bt n q).2.2 t4 x4 p4 hgN15 h4 ht4) (by omega) (by decide) xyX6_atom xiX6_atom (Or.inl (lw_gt_of (List.mem_of_getElem? (i := 1064) (by decide +kernel)) rfl)) rfl rfl rfl (rest := [.int v]) rfl (Nat.le_of_ble_eq_true rfl) rfl (fun vB zB hB => ?_)
          obtain ⟨hK4, hB1⟩ := hB
          have hv5 : t4 = 1 → ∀ st, pEv (pF z) x4 st = vB :: st := fun w st => by
            rcases hB1 with ⟨-, -, q⟩ | ⟨q, -⟩
            · rw [← pEv_K hKN15]; exact q st
            · omega
          replace hK4 := pK_tr hKN15 hK4
          rcases hB1 with ⟨e4, hS4, -⟩ | ⟨e4, hB4⟩
          · skip
            replace hv5 := hv5 e4
            obtain ⟨x5, h5, hcs5⟩ : ∃ x5, pG bt n g2 15 o p4 = (tag, x5, p) ∧ (tag = 1 → c3 = x4 ++ (pTok bt n q).1 :: x5) := by
              rcases hch4 with ⟨w, -⟩ | ⟨-, w⟩
              · omega
              · exact w
            refine ww_blk xCC okX6_term 12 3 (ps := []) (pc' := 5) (lv' := [(1, .int (v * vB)), (0, .ref 0)]) (st' := []) (z' := zB) rfl trivial ?_
            exact ww_cut [0, 1] (xlc rfl (xlc rfl rfl)) rfl rfl (ih5 g2 p4 (c0 ++ (x4 ++ [10012])) x5 (v * vB) zB (by omega) (by omega) h5 (fun w => by rw [e5_2 w, hcs5 w, show (pTok bt n q).1 = 10012 from hs8.trans (by decide)]; simp) (fun st => by rw [pEv_app, e5_3, pEv_app, hv5]; rfl) hS4 hK4)
          · skip
            obtain ⟨htag, hp⟩ : tag = 2 ∧ p = p4 := by
              rcases hch4 with ⟨-, w⟩ | ⟨w, -⟩
              · exact w
              · omega
            refine ww_blk xCC okX6_term 12 3 (ps := []) (pc' := 5) (lv' := [(1, .int (v * vB)), (0, .ref 0)]) (st' := []) (z' := zB) rfl trivial ?_
            refine ww_blk xCC okX6_term 3 2 (ps := []) (pc' := 8) (lv' := [(1, .int (v * vB)), (0, .ref 0)]) (st' := [.int 42, .ref 0]) (z' := zB) rfl trivial ?_
            refine ww_callVIi xCC okX6_term 5 (ix := 217) (t_X6_isSign_b l d zB hB4.1 42) (by omega) (by decide) xyX6_isSign xiX6_isSign (Or.inl (lw_gt_of (List.mem_of_getElem? (i := 1068) (by decide +kernel)) rfl)) rfl rfl rfl (rest := []) rfl (Nat.le_of_ble_eq_true rfl) rfl (fun v9 z7 h8 => ?_)
            rw [h8.1, h8.2]
            refine ww_br xCC okX6_term 6 (P := 0 = 0) (t1 := 28) (t2 := 14) (r := []) rfl (fun _ => ?_) (fun q => absurd (by decide) q)
            refine ww_blk xCC okX6_term 15 1 (ps := []) (pc' := 29) (lv' := [(1, .int (v * vB)), (0, .ref 0)]) (st' := [.int (v * vB)]) (z' := zB) rfl trivial ?_
            subst xhQ
            exact ww_iret xCC okX6_term 16 xhr rfl rfl ⟨_, rfl, ⟨hK4, Or.inr ⟨htag, (by rw [hp]; exact hB4)⟩⟩⟩
        · skip
          rw [h2.2]
          have hs8 := h2.1
          refine ww_br xCC okX6_term 6 (P := 0 = 0) (t1 := 28) (t2 := 14) (r := []) rfl (fun _ => ?_) (fun q => absurd (by decide) q)
          obtain ⟨k1, k2, k3⟩ : tag = 1 ∧ c3 = [] ∧ p = q := by
            rcases hmo with ⟨-, w⟩ | ⟨w, -⟩
            · exact w
            · exfalso
              simp only [pOp] at w; exact hs8 (eq_of_beq w)
          refine ww_blk xCC okX6_term 15 1 (ps := []) (pc' := 29) (lv' := [(1, .int v), (0, .ref 0)]) (st' := [.int v]) (z' := zc) rfl trivial ?_
          subst xhQ
          exact ww_iret xCC okX6_term 16 xhr rfl rfl ⟨_, rfl, ⟨e5_5, Or.inl ⟨k1, (by rw [k3]; exact e5_4), fun st => (by rw [e5_2 k1, k2, List.append_nil]; exact e5_3 st)⟩⟩⟩
    exact ww_cut [0, 1] (xlc rfl (xlc rfl rfl)) rfl rfl (L5 (g + 1) g p1 x1 x2 vA zA (Nat.lt_succ_self _) (Nat.le_refl _) h2 hcs hv1 hS1 hK1)
  · skip
    obtain ⟨htag, hp⟩ : tag = 2 ∧ p = p1 := by
      rcases hch with ⟨-, q⟩ | ⟨q, -⟩
      · exact q
      · omega
    refine ww_blk xCC okX6_term 2 3 (ps := []) (pc' := 8) (lv' := [(1, .int vA), (0, .ref 0)]) (st' := [.int 42, .ref 0]) (z' := zA) rfl trivial ?_
    refine ww_callVIi xCC okX6_term 5 (ix := 217) (t_X6_isSign_b l d zA hB1.1 42) (by omega) (by decide) xyX6_isSign xiX6_isSign (Or.inl (lw_gt_of (List.mem_of_getElem? (i := 1068) (by decide +kernel)) rfl)) rfl rfl rfl (rest := []) rfl (Nat.le_of_ble_eq_true rfl) rfl (fun v14 z12 h13 => ?_)
    rw [h13.1, h13.2]
    refine ww_br xCC okX6_term 6 (P := 0 = 0) (t1 := 28) (t2 := 14) (r := []) rfl (fun _ => ?_) (fun q => absurd (by decide) q)
    refine ww_blk xCC okX6_term 15 1 (ps := []) (pc' := 29) (lv' := [(1, .int vA), (0, .ref 0)]) (st' := [.int vA]) (z' := zA) rfl trivial ?_
    subst xhQ
    exact ww_iret xCC okX6_term 16 xhr rfl rfl ⟨_, rfl, ⟨hK1, Or.inr ⟨htag, (by rw [hp]; exact hB1)⟩⟩⟩

set_option maxHeartbeats 4000000 in
set_option maxRecDepth 20000 in
theorem t_X6_added (l : Launch) (d : Nat) (bt : Nat → Nat) (n fr : Nat) (f : Nat) (ih : ∀ g, g < f → MC l bt n fr yX6_term cX6_term 2 5 g) (z : xMem) (o pos tag : Nat) (cs : List Nat) (p : Nat) (hgs : gS z bt n fr pos o) (hG : pG bt n f 4 o pos = (tag, cs, p)) (ht : tag ≠ 0) : XMi l (d + f + 5) yX6_added cX6_added 4 (some .int) shM [.ref 0] z (fun v z' => mR z z' bt n fr o tag cs p v) := by
  obtain ⟨g, t1, x1, p1, rfl, h1, ht1, hch⟩ := pG_ch (m := 4) (sub := 5) (rest := 14) (by decide) hG ht
  refine XM.of (by decide) (Nat.le_of_ble_eq_true rfl) (fun xp xe xs xm xar xbl xme xc xD xcs xad xAA xCC xhr => ?_)
  generalize xhQ : MQ xbl _ xar xs 0 0 xAA = xQ
  show ww xp l xe (xRm (d + (g + 1) + 5)) xs xm xar xbl xme xc 4 xD xcs xad shM xAA xQ 0 [(0, .ref 0)] [] z
  refine ww_blk xCC okX6_added 0 1 (ps := []) (pc' := 1) (lv' := [(0, .ref 0)]) (st' := [.ref 0]) (z' := z) rfl trivial ?_
  refine ww_callVIi xCC okX6_added 1 (ix := 233) (ih g (by omega) d z o pos t1 x1 p1 hgs h1 ht1) (by omega) (by decide) xyX6_term xiX6_term (Or.inl (lw_gt_of (List.mem_of_getElem? (i := 1060) (by decide +kernel)) rfl)) rfl rfl rfl (rest := []) rfl (Nat.le_of_ble_eq_true rfl) rfl (fun vA zA hA => ?_)
  obtain ⟨hK1, hA1⟩ := hA
  rcases hA1 with ⟨e1, hS1, hv1⟩ | ⟨e1, hB1⟩
  · skip
    obtain ⟨x2, h2, hcs⟩ : ∃ x2, pG bt n g 14 o p1 = (tag, x2, p) ∧ (tag = 1 → cs = x1 ++ x2) := by
      rcases hch with ⟨q, -⟩ | ⟨-, q⟩
      · omega
      · exact q
    refine ww_blk xCC okX6_added 2 1 (ps := []) (pc' := 5) (lv' := [(1, .int vA), (0, .ref 0)]) (st' := []) (z' := zA) rfl trivial ?_
    have L5 : ∀ (n5 : Nat) (f2 : Nat) (q : Nat) (c0 : List Nat) (c3 : List Nat) (v : Int32) (zc : xMem), f2 < n5 → (f2 ≤ g) → (pG bt n f2 14 o q = (tag, c3, p)) → (tag = 1 → cs = c0 ++ c3) → (∀ st, pEv (pF z) c0 st = v :: st) → (gS zc bt n fr q o) → (pK z zc) → ww xp l xe (xRm (d + (g + 1) + 5)) xs xm xar xbl xme xc 4 xD xcs xad shM xAA xQ 5 [(1, .int v), (0, .ref 0)] [] zc := by
      intro n5
      induction n5 with
      | zero =>
        intro f2 q c0 c3 v zc hmu5
        exact absurd hmu5 (Nat.not_lt_zero _)
      | succ n5 ih5 =>
        intro f2 q c0 c3 v zc hmu5 e5_0 e5_1 e5_2 e5_3 e5_4 e5_5
        obtain ⟨g2, rfl, hmo⟩ := pG_mo (m := 14) (sub := 5) (by decide) e5_1 ht
        refine ww_blk xCC okX6_added 3 2 (ps := []) (pc' := 8) (lv' := [(1, .int v), (0, .ref 0)]) (st' := [.int 43, .ref 0]) (z' := zc) rfl trivial ?_
        refine ww_callVIz xCC okX6_added 5 (ix := 217) (t_X6_isSign l d zc bt n q e5_4.1.2.2.2.1 e5_4.2.1 e5_4.2.2.2.1 43 (by decide)) (by omega) (by decide) xyX6_isSign xiX6_isSign (Or.inl (lw_gt_of (List.mem_of_getElem? (i := 1068) (by decide +kernel)) rfl)) rfl rfl rfl (rest := []) rfl (Nat.le_of_ble_eq_true rfl) rfl (fun z1 h2 => ?_) (fun z1 h2 => ?_)
        · skip
          rw [h2.2]
          have hs8 := h2.1
          refine ww_br xCC okX6_added 6 (P := 1 = 0) (t1 := 14) (t2 := 23) (r := []) rfl (fun q => absurd q (by decide)) (fun _ => ?_)
          obtain ⟨t4, x4, p4, h4, ht4, hch4⟩ : ∃ t4 x4 p4, pG bt n g2 5 o (pTok bt n q).2.2 = (t4, x4, p4) ∧ t4 ≠ 0 ∧ ((t4 = 2 ∧ tag = 2 ∧ p = p4) ∨ (t4 = 1 ∧ ∃ x5, pG bt n g2 14 o p4 = (tag, x5, p) ∧ (tag = 1 → c3 = x4 ++ (pTok bt n q).1 :: x5))) := by
            rcases hmo with ⟨w, -⟩ | ⟨-, w⟩
            · rw [show (pTok bt n q).1 = 10010 from hs8.trans (by decide)] at w
              exact absurd w (by decide)
            · exact w
          refine ww_blk xCC okX6_added 11 4 (ps := []) (pc' := 31) (lv' := [(1, .int v), (0, .ref 0)]) (st' := [.int (lg_cmp (zc.2.1 0 27) 43)]) (z' := zc) rfl trivial ?_
          refine ww_br xCC okX6_added 15 (P := (lg_cmp (zc.2.1 0 27) 43) = 0) (t1 := 34) (t2 := 38) (r := []) rfl (fun c4 => ?_) (fun c4 => absurd ((lg_cmp_eq _ _).mpr (tkM_worth e5_4.2.2.2.1 e5_4.1.2.2.2.1 (c := 43) (by decide) hs8)) c4)
          refine ww_blk xCC okX6_added 16 2 (ps := []) (pc' := 39) (lv' := [(1, .int v), (0, .ref 0)]) (st' := [.int 1]) (z' := zc) rfl trivial ?_
          refine ww_blk xCC okX6_added 19 2 (ps := []) (pc' := 41) (lv' := [(2, .int 1), (1, .int v), (0, .ref 0)]) (st' := [.ref 0]) (z' := zc) rfl trivial ?_
          refine ww_callVIv xCC okX6_added 21 (ix := 192) (t_X6_next l d zc bt n fr e5_4.1 (pTok bt n q).2.2 (pTok_le e5_4.2.2.2.2.1).1 (tkM_here e5_4.2.2.2.1 (by rw [hs8]; decide))) (by omega) (by decide) xyX6_next xiX6_next (Or.inl (lw_gt_of (List.mem_of_getElem? (i := 1011) (by decide +kernel)) rfl)) rfl rfl rfl (rest := []) rfl (Nat.le_of_ble_eq_true rfl) rfl (fun z5 h6 => ?_)
          have hgN41 := gS_nx e5_4.1 e5_4.2.1 e5_4.2.2.1 h6.1 h6.2 (pTok_le e5_4.2.2.2.2.1).1 e5_4.2.2.2.2.2
          have hKN41 := pK_tr e5_5 (pK4_K h6.1)
          refine ww_blk xCC okX6_added 22 1 (ps := []) (pc' := 45) (lv' := [(2, .int 1), (1, .int v), (0, .ref 0)]) (st' := [.ref 0]) (z' := z5) rfl trivial ?_
          refine ww_callVIi xCC okX6_added 23 (ix := 233) (ih g2 (by omega) d z5 o (pTok bt n q).2.2 t4 x4 p4 hgN41 h4 ht4) (by omega) (by decide) xyX6_term xiX6_term (Or.inl (lw_gt_of (List.mem_of_getElem? (i := 1060) (by decide +kernel)) rfl)) rfl rfl rfl (rest := []) rfl (Nat.le_of_ble_eq_true rfl) rfl (fun vB zB hB => ?_)
          obtain ⟨hK4, hB1⟩ := hB
          have hv5 : t4 = 1 → ∀ st, pEv (pF z) x4 st = vB :: st := fun w st => by
            rcases hB1 with ⟨-, -, q⟩ | ⟨q, -⟩
            · rw [← pEv_K hKN41]; exact q st
            · omega
          replace hK4 := pK_tr hKN41 hK4
          rcases hB1 with ⟨e4, hS4, -⟩ | ⟨e4, hB4⟩
          · skip
            replace hv5 := hv5 e4
            obtain ⟨x5, h5, hcs5⟩ : ∃ x5, pG bt n g2 14 o p4 = (tag, x5, p) ∧ (tag = 1 → c3 = x4 ++ (pTok bt n q).1 :: x5) := by
              rcases hch4 with ⟨w, -⟩ | ⟨-, w⟩
              · omega
              · exact w
            refine ww_blk xCC okX6_added 24 2 (ps := []) (pc' := 50) (lv' := [(3, .int vB), (2, .int 1), (1, .int v), (0, .ref 0)]) (st' := [.int 1]) (z' := zB) rfl trivial ?_
            refine ww_br xCC okX6_added 26 (P := 1 = 0) (t1 := 59) (t2 := 53) (r := []) rfl (fun q => absurd q (by decide)) (fun _ => ?_)
            refine ww_blk xCC okX6_added 27 4 (ps := []) (pc' := 62) (lv' := [(3, .int vB), (2, .int 1), (1, .int v), (0, .ref 0)]) (st' := [.int (v + vB)]) (z' := zB) rfl trivial ?_
            refine ww_blk xCC okX6_added 34 2 (ps := []) (pc' := 5) (lv' := [(1, .int (v + vB)), (3, .int vB), (2, .int 1), (0, .ref 0)]) (st' := []) (z' := zB) rfl trivial ?_
            exact ww_cut [0, 3] (xlc rfl (xlc rfl rfl)) rfl rfl (ih5 g2 p4 (c0 ++ (x4 ++ [10010])) x5 (v + vB) zB (by omega) (by omega) h5 (fun w => by rw [e5_2 w, hcs5 w, show (pTok bt n q).1 = 10010 from hs8.trans (by decide)]; simp) (fun st => by rw [pEv_app, e5_3, pEv_app, hv5]; rfl) hS4 hK4)
          · skip
            obtain ⟨htag, hp⟩ : tag = 2 ∧ p = p4 := by
              rcases hch4 with ⟨-, w⟩ | ⟨w, -⟩
              · exact w
              · omega
            refine ww_blk xCC okX6_added 24 2 (ps := []) (pc' := 50) (lv' := [(3, .int vB), (2, .int 1), (1, .int v), (0, .ref 0)]) (st' := [.int 1]) (z' := zB) rfl trivial ?_
            refine ww_br xCC okX6_added 26 (P := 1 = 0) (t1 := 59) (t2 := 53) (r := []) rfl (fun q => absurd q (by decide)) (fun _ => ?_)
            refine ww_blk xCC okX6_added 27 4 (ps := []) (pc' := 62) (lv' := [(3, .int vB), (2, .int 1), (1, .int v), (0, .ref 0)]) (st' := [.int (v + vB)]) (z' := zB) rfl trivial ?_
            refine ww_blk xCC okX6_added 34 2 (ps := []) (pc' := 5) (lv' := [(1, .int (v + vB)), (3, .int vB), (2, .int 1), (0, .ref 0)]) (st' := []) (z' := zB) rfl trivial ?_
            refine ww_blk xCC okX6_added 3 2 (ps := []) (pc' := 8) (lv' := [(1, .int (v + vB)), (3, .int vB), (2, .int 1), (0, .ref 0)]) (st' := [.int 43, .ref 0]) (z' := zB) rfl trivial ?_
            refine ww_callVIi xCC okX6_added 5 (ix := 217) (t_X6_isSign_b l d zB hB4.1 43) (by omega) (by decide) xyX6_isSign xiX6_isSign (Or.inl (lw_gt_of (List.mem_of_getElem? (i := 1068) (by decide +kernel)) rfl)) rfl rfl rfl (rest := []) rfl (Nat.le_of_ble_eq_true rfl) rfl (fun v12 z10 h11 => ?_)
            rw [h11.1, h11.2]
            refine ww_br xCC okX6_added 6 (P := 0 = 0) (t1 := 14) (t2 := 23) (r := []) rfl (fun _ => ?_) (fun q => absurd (by decide) q)
            refine ww_blk xCC okX6_added 7 2 (ps := []) (pc' := 17) (lv' := [(1, .int (v + vB)), (3, .int vB), (2, .int 1), (0, .ref 0)]) (st' := [.int 45, .ref 0]) (z' := zB) rfl trivial ?_
            refine ww_callVIi xCC okX6_added 9 (ix := 217) (t_X6_isSign_b l d zB hB4.1 45) (by omega) (by decide) xyX6_isSign xiX6_isSign (Or.inl (lw_gt_of (List.mem_of_getElem? (i := 1068) (by decide +kernel)) rfl)) rfl rfl rfl (rest := []) rfl (Nat.le_of_ble_eq_true rfl) rfl (fun v16 z14 h15 => ?_)
            rw [h15.1, h15.2]
            refine ww_br xCC okX6_added 10 (P := 0 = 0) (t1 := 66) (t2 := 23) (r := []) rfl (fun _ => ?_) (fun q => absurd (by decide) q)
            refine ww_blk xCC okX6_added 36 1 (ps := []) (pc' := 67) (lv' := [(1, .int (v + vB)), (3, .int vB), (2, .int 1), (0, .ref 0)]) (st' := [.int (v + vB)]) (z' := zB) rfl trivial ?_
            subst xhQ
            exact ww_iret xCC okX6_added 37 xhr rfl rfl ⟨_, rfl, ⟨hK4, Or.inr ⟨htag, (by rw [hp]; exact hB4)⟩⟩⟩
        · skip
          rw [h2.2]
          have hs8 := h2.1
          refine ww_br xCC okX6_added 6 (P := 0 = 0) (t1 := 14) (t2 := 23) (r := []) rfl (fun _ => ?_) (fun q => absurd (by decide) q)
          refine ww_blk xCC okX6_added 7 2 (ps := []) (pc' := 17) (lv' := [(1, .int v), (0, .ref 0)]) (st' := [.int 45, .ref 0]) (z' := zc) rfl trivial ?_
          refine ww_callVIz xCC okX6_added 9 (ix := 217) (t_X6_isSign l d zc bt n q e5_4.1.2.2.2.1 e5_4.2.1 e5_4.2.2.2.1 45 (by decide)) (by omega) (by decide) xyX6_isSign xiX6_isSign (Or.inl (lw_gt_of (List.mem_of_getElem? (i := 1068) (by decide +kernel)) rfl)) rfl rfl rfl (rest := []) rfl (Nat.le_of_ble_eq_true rfl) rfl (fun z19 h20 => ?_) (fun z19 h20 => ?_)
          · skip
            rw [h20.2]
            have hs17 := h20.1
            refine ww_br xCC okX6_added 10 (P := 1 = 0) (t1 := 66) (t2 := 23) (r := []) rfl (fun q => absurd q (by decide)) (fun _ => ?_)
            obtain ⟨t4, x4, p4, h4, ht4, hch4⟩ : ∃ t4 x4 p4, pG bt n g2 5 o (pTok bt n q).2.2 = (t4, x4, p4) ∧ t4 ≠ 0 ∧ ((t4 = 2 ∧ tag = 2 ∧ p = p4) ∨ (t4 = 1 ∧ ∃ x5, pG bt n g2 14 o p4 = (tag, x5, p) ∧ (tag = 1 → c3 = x4 ++ (pTok bt n q).1 :: x5))) := by
              rcases hmo with ⟨w, -⟩ | ⟨-, w⟩
              · rw [show (pTok bt n q).1 = 10011 from hs17.trans (by decide)] at w
                exact absurd w (by decide)
              · exact w
            refine ww_blk xCC okX6_added 11 4 (ps := []) (pc' := 31) (lv' := [(1, .int v), (0, .ref 0)]) (st' := [.int (lg_cmp (zc.2.1 0 27) 43)]) (z' := zc) rfl trivial ?_
            refine ww_br xCC okX6_added 15 (P := (lg_cmp (zc.2.1 0 27) 43) = 0) (t1 := 34) (t2 := 38) (r := []) rfl (fun c22 => absurd c22 (fun q9 => absurd (tkM_worth e5_4.2.2.2.1 e5_4.1.2.2.2.1 (c := 45) (by decide) hs17) (by rw [(lg_cmp_eq _ _).mp q9]; decide))) (fun c22 => ?_)
            refine ww_blk xCC okX6_added 18 3 (ps := []) (pc' := 41) (lv' := [(2, .int 0), (1, .int v), (0, .ref 0)]) (st' := [.ref 0]) (z' := zc) rfl trivial ?_
            refine ww_callVIv xCC okX6_added 21 (ix := 192) (t_X6_next l d zc bt n fr e5_4.1 (pTok bt n q).2.2 (pTok_le e5_4.2.2.2.2.1).1 (tkM_here e5_4.2.2.2.1 (by rw [hs17]; decide))) (by omega) (by decide) xyX6_next xiX6_next (Or.inl (lw_gt_of (List.mem_of_getElem? (i := 1011) (by decide +kernel)) rfl)) rfl rfl rfl (rest := []) rfl (Nat.le_of_ble_eq_true rfl) rfl (fun z23 h24 => ?_)
            have hgN41 := gS_nx e5_4.1 e5_4.2.1 e5_4.2.2.1 h24.1 h24.2 (pTok_le e5_4.2.2.2.2.1).1 e5_4.2.2.2.2.2
            have hKN41 := pK_tr e5_5 (pK4_K h24.1)
            refine ww_blk xCC okX6_added 22 1 (ps := []) (pc' := 45) (lv' := [(2, .int 0), (1, .int v), (0, .ref 0)]) (st' := [.ref 0]) (z' := z23) rfl trivial ?_
            refine ww_callVIi xCC okX6_added 23 (ix := 233) (ih g2 (by omega) d z23 o (pTok bt n q).2.2 t4 x4 p4 hgN41 h4 ht4) (by omega) (by decide) xyX6_term xiX6_term (Or.inl (lw_gt_of (List.mem_of_getElem? (i := 1060) (by decide +kernel)) rfl)) rfl rfl rfl (rest := []) rfl (Nat.le_of_ble_eq_true rfl) rfl (fun vB zB hB => ?_)
            obtain ⟨hK4, hB1⟩ := hB
            have hv5 : t4 = 1 → ∀ st, pEv (pF z) x4 st = vB :: st := fun w st => by
              rcases hB1 with ⟨-, -, q⟩ | ⟨q, -⟩
              · rw [← pEv_K hKN41]; exact q st
              · omega
            replace hK4 := pK_tr hKN41 hK4
            rcases hB1 with ⟨e4, hS4, -⟩ | ⟨e4, hB4⟩
            · skip
              replace hv5 := hv5 e4
              obtain ⟨x5, h5, hcs5⟩ : ∃ x5, pG bt n g2 14 o p4 = (tag, x5, p) ∧ (tag = 1 → c3 = x4 ++ (pTok bt n q).1 :: x5) := by
                rcases hch4 with ⟨w, -⟩ | ⟨-, w⟩
                · omega
                · exact w
              refine ww_blk xCC okX6_added 24 2 (ps := []) (pc' := 50) (lv' := [(3, .int vB), (2, .int 0), (1, .int v), (0, .ref 0)]) (st' := [.int 0]) (z' := zB) rfl trivial ?_
              refine ww_br xCC okX6_added 26 (P := 0 = 0) (t1 := 59) (t2 := 53) (r := []) rfl (fun _ => ?_) (fun q => absurd (by decide) q)
              refine ww_blk xCC okX6_added 31 5 (ps := []) (pc' := 5) (lv' := [(1, .int (v - vB)), (3, .int vB), (2, .int 0), (0, .ref 0)]) (st' := []) (z' := zB) rfl trivial ?_
              exact ww_cut [0, 3] (xlc rfl (xlc rfl rfl)) rfl rfl (ih5 g2 p4 (c0 ++ (x4 ++ [10011])) x5 (v - vB) zB (by omega) (by omega) h5 (fun w => by rw [e5_2 w, hcs5 w, show (pTok bt n q).1 = 10011 from hs17.trans (by decide)]; simp) (fun st => by rw [pEv_app, e5_3, pEv_app, hv5]; rfl) hS4 hK4)
            · skip
              obtain ⟨htag, hp⟩ : tag = 2 ∧ p = p4 := by
                rcases hch4 with ⟨-, w⟩ | ⟨w, -⟩
                · exact w
                · omega
              refine ww_blk xCC okX6_added 24 2 (ps := []) (pc' := 50) (lv' := [(3, .int vB), (2, .int 0), (1, .int v), (0, .ref 0)]) (st' := [.int 0]) (z' := zB) rfl trivial ?_
              refine ww_br xCC okX6_added 26 (P := 0 = 0) (t1 := 59) (t2 := 53) (r := []) rfl (fun _ => ?_) (fun q => absurd (by decide) q)
              refine ww_blk xCC okX6_added 31 5 (ps := []) (pc' := 5) (lv' := [(1, .int (v - vB)), (3, .int vB), (2, .int 0), (0, .ref 0)]) (st' := []) (z' := zB) rfl trivial ?_
              refine ww_blk xCC okX6_added 3 2 (ps := []) (pc' := 8) (lv' := [(1, .int (v - vB)), (3, .int vB), (2, .int 0), (0, .ref 0)]) (st' := [.int 43, .ref 0]) (z' := zB) rfl trivial ?_
              refine ww_callVIi xCC okX6_added 5 (ix := 217) (t_X6_isSign_b l d zB hB4.1 43) (by omega) (by decide) xyX6_isSign xiX6_isSign (Or.inl (lw_gt_of (List.mem_of_getElem? (i := 1068) (by decide +kernel)) rfl)) rfl rfl rfl (rest := []) rfl (Nat.le_of_ble_eq_true rfl) rfl (fun v30 z28 h29 => ?_)
              rw [h29.1, h29.2]
              refine ww_br xCC okX6_added 6 (P := 0 = 0) (t1 := 14) (t2 := 23) (r := []) rfl (fun _ => ?_) (fun q => absurd (by decide) q)
              refine ww_blk xCC okX6_added 7 2 (ps := []) (pc' := 17) (lv' := [(1, .int (v - vB)), (3, .int vB), (2, .int 0), (0, .ref 0)]) (st' := [.int 45, .ref 0]) (z' := zB) rfl trivial ?_
              refine ww_callVIi xCC okX6_added 9 (ix := 217) (t_X6_isSign_b l d zB hB4.1 45) (by omega) (by decide) xyX6_isSign xiX6_isSign (Or.inl (lw_gt_of (List.mem_of_getElem? (i := 1068) (by decide +kernel)) rfl)) rfl rfl rfl (rest := []) rfl (Nat.le_of_ble_eq_true rfl) rfl (fun v34 z32 h33 => ?_)
              rw [h33.1, h33.2]
              refine ww_br xCC okX6_added 10 (P := 0 = 0) (t1 := 66) (t2 := 23) (r := []) rfl (fun _ => ?_) (fun q => absurd (by decide) q)
              refine ww_blk xCC okX6_added 36 1 (ps := []) (pc' := 67) (lv' := [(1, .int (v - vB)), (3, .int vB), (2, .int 0), (0, .ref 0)]) (st' := [.int (v - vB)]) (z' := zB) rfl trivial ?_
              subst xhQ
              exact ww_iret xCC okX6_added 37 xhr rfl rfl ⟨_, rfl, ⟨hK4, Or.inr ⟨htag, (by rw [hp]; exact hB4)⟩⟩⟩
          · skip
            rw [h20.2]
            have hs17 := h20.1
            refine ww_br xCC okX6_added 10 (P := 0 = 0) (t1 := 66) (t2 := 23) (r := []) rfl (fun _ => ?_) (fun q => absurd (by decide) q)
            obtain ⟨k1, k2, k3⟩ : tag = 1 ∧ c3 = [] ∧ p = q := by
              rcases hmo with ⟨-, w⟩ | ⟨w, -⟩
              · exact w
              · exfalso
                simp only [pOp] at w; rcases Bool.or_eq_true _ _ |>.mp w with w | w <;> first | exact hs8 (eq_of_beq w) | exact hs17 (eq_of_beq w)
            refine ww_blk xCC okX6_added 36 1 (ps := []) (pc' := 67) (lv' := [(1, .int v), (0, .ref 0)]) (st' := [.int v]) (z' := zc) rfl trivial ?_
            subst xhQ
            exact ww_iret xCC okX6_added 37 xhr rfl rfl ⟨_, rfl, ⟨e5_5, Or.inl ⟨k1, (by rw [k3]; exact e5_4), fun st => (by rw [e5_2 k1, k2, List.append_nil]; exact e5_3 st)⟩⟩⟩
    exact ww_cut [0, 1] (xlc rfl (xlc rfl rfl)) rfl rfl (L5 (g + 1) g p1 x1 x2 vA zA (Nat.lt_succ_self _) (Nat.le_refl _) h2 hcs hv1 hS1 hK1)
  · skip
    obtain ⟨htag, hp⟩ : tag = 2 ∧ p = p1 := by
      rcases hch with ⟨-, q⟩ | ⟨q, -⟩
      · exact q
      · omega
    refine ww_blk xCC okX6_added 2 3 (ps := []) (pc' := 8) (lv' := [(1, .int vA), (0, .ref 0)]) (st' := [.int 43, .ref 0]) (z' := zA) rfl trivial ?_
    refine ww_callVIi xCC okX6_added 5 (ix := 217) (t_X6_isSign_b l d zA hB1.1 43) (by omega) (by decide) xyX6_isSign xiX6_isSign (Or.inl (lw_gt_of (List.mem_of_getElem? (i := 1068) (by decide +kernel)) rfl)) rfl rfl rfl (rest := []) rfl (Nat.le_of_ble_eq_true rfl) rfl (fun v39 z37 h38 => ?_)
    rw [h38.1, h38.2]
    refine ww_br xCC okX6_added 6 (P := 0 = 0) (t1 := 14) (t2 := 23) (r := []) rfl (fun _ => ?_) (fun q => absurd (by decide) q)
    refine ww_blk xCC okX6_added 7 2 (ps := []) (pc' := 17) (lv' := [(1, .int vA), (0, .ref 0)]) (st' := [.int 45, .ref 0]) (z' := zA) rfl trivial ?_
    refine ww_callVIi xCC okX6_added 9 (ix := 217) (t_X6_isSign_b l d zA hB1.1 45) (by omega) (by decide) xyX6_isSign xiX6_isSign (Or.inl (lw_gt_of (List.mem_of_getElem? (i := 1068) (by decide +kernel)) rfl)) rfl rfl rfl (rest := []) rfl (Nat.le_of_ble_eq_true rfl) rfl (fun v43 z41 h42 => ?_)
    rw [h42.1, h42.2]
    refine ww_br xCC okX6_added 10 (P := 0 = 0) (t1 := 66) (t2 := 23) (r := []) rfl (fun _ => ?_) (fun q => absurd (by decide) q)
    refine ww_blk xCC okX6_added 36 1 (ps := []) (pc' := 67) (lv' := [(1, .int vA), (0, .ref 0)]) (st' := [.int vA]) (z' := zA) rfl trivial ?_
    subst xhQ
    exact ww_iret xCC okX6_added 37 xhr rfl rfl ⟨_, rfl, ⟨hK1, Or.inr ⟨htag, (by rw [hp]; exact hB1)⟩⟩⟩

set_option maxHeartbeats 4000000 in
set_option maxRecDepth 20000 in
theorem t_X6_both (l : Launch) (d : Nat) (bt : Nat → Nat) (n fr : Nat) (f : Nat) (ih : ∀ g, g < f → MC l bt n fr yX6_not cX6_not 4 2 g) (z : xMem) (o pos tag : Nat) (cs : List Nat) (p : Nat) (hgs : gS z bt n fr pos o) (hG : pG bt n f 1 o pos = (tag, cs, p)) (ht : tag ≠ 0) : XMi l (d + f + 5) yX6_both cX6_both 3 (some .int) shM [.ref 0] z (fun v z' => mR z z' bt n fr o tag cs p v) := by
  obtain ⟨g, t1, x1, p1, rfl, h1, ht1, hch⟩ := pG_ch (m := 1) (sub := 2) (rest := 11) (by decide) hG ht
  refine XM.of (by decide) (Nat.le_of_ble_eq_true rfl) (fun xp xe xs xm xar xbl xme xc xD xcs xad xAA xCC xhr => ?_)
  generalize xhQ : MQ xbl _ xar xs 0 0 xAA = xQ
  show ww xp l xe (xRm (d + (g + 1) + 5)) xs xm xar xbl xme xc 3 xD xcs xad shM xAA xQ 0 [(0, .ref 0)] [] z
  refine ww_blk xCC okX6_both 0 1 (ps := []) (pc' := 1) (lv' := [(0, .ref 0)]) (st' := [.ref 0]) (z' := z) rfl trivial ?_
  refine ww_callVIi xCC okX6_both 1 (ix := 237) (ih g (by omega) d z o pos t1 x1 p1 hgs h1 ht1) (by omega) (by decide) xyX6_not xiX6_not (Or.inl (lw_gt_of (List.mem_of_getElem? (i := 1048) (by decide +kernel)) rfl)) rfl rfl rfl (rest := []) rfl (Nat.le_of_ble_eq_true rfl) rfl (fun vA zA hA => ?_)
  obtain ⟨hK1, hA1⟩ := hA
  rcases hA1 with ⟨e1, hS1, hv1⟩ | ⟨e1, hB1⟩
  · skip
    obtain ⟨x2, h2, hcs⟩ : ∃ x2, pG bt n g 11 o p1 = (tag, x2, p) ∧ (tag = 1 → cs = x1 ++ x2) := by
      rcases hch with ⟨q, -⟩ | ⟨-, q⟩
      · omega
      · exact q
    refine ww_blk xCC okX6_both 2 1 (ps := []) (pc' := 5) (lv' := [(1, .int vA), (0, .ref 0)]) (st' := []) (z' := zA) rfl trivial ?_
    have L5 : ∀ (n5 : Nat) (f2 : Nat) (q : Nat) (c0 : List Nat) (c3 : List Nat) (v : Int32) (zc : xMem), f2 < n5 → (f2 ≤ g) → (pG bt n f2 11 o q = (tag, c3, p)) → (tag = 1 → cs = c0 ++ c3) → (∀ st, pEv (pF z) c0 st = v :: st) → (gS zc bt n fr q o) → (pK z zc) → ww xp l xe (xRm (d + (g + 1) + 5)) xs xm xar xbl xme xc 3 xD xcs xad shM xAA xQ 5 [(1, .int v), (0, .ref 0)] [] zc := by
      intro n5
      induction n5 with
      | zero =>
        intro f2 q c0 c3 v zc hmu5
        exact absurd hmu5 (Nat.not_lt_zero _)
      | succ n5 ih5 =>
        intro f2 q c0 c3 v zc hmu5 e5_0 e5_1 e5_2 e5_3 e5_4 e5_5
        obtain ⟨g2, rfl, hmo⟩ := pG_mo (m := 11) (sub := 2) (by decide) e5_1 ht
        refine ww_blk xCC okX6_both 3 9 (ps := []) (pc' := 17) (lv' := [(1, .int v), (0, .ref 0)]) (st' := [.int 0, .int 0, .int 0, .int 0, .int 0, .int 100, .int 110, .int 97, .ref 0]) (z' := zc) rfl trivial ?_
        refine ww_callVIz xCC okX6_both 12 (ix := 195) (t_X6_isWord l d zc bt n fr e5_4.1 q e5_4.2.2.2.2.1 e5_4.2.1 e5_4.2.2.2.1 [97, 110, 100] 10007 (by decide)) (by omega) (by decide) xyX6_isWord xiX6_isWord (Or.inl (lw_gt_of (List.mem_of_getElem? (i := 1024) (by decide +kernel)) rfl)) rfl rfl rfl (rest := []) rfl (Nat.le_of_ble_eq_true rfl) rfl (fun z1 h2 => ?_) (fun z1 h2 => ?_)
        · skip
          rw [h2.2]
          have hs17 := h2.1
          refine ww_br xCC okX6_both 13 (P := 1 = 0) (t1 := 49) (t2 := 23) (r := []) rfl (fun q => absurd q (by decide)) (fun _ => ?_)
          obtain ⟨t4, x4, p4, h4, ht4, hch4⟩ : ∃ t4 x4 p4, pG bt n g2 2 o (pTok bt n q).2.2 = (t4, x4, p4) ∧ t4 ≠ 0 ∧ ((t4 = 2 ∧ tag = 2 ∧ p = p4) ∨ (t4 = 1 ∧ ∃ x5, pG bt n g2 11 o p4 = (tag, x5, p) ∧ (tag = 1 → c3 = x4 ++ (pTok bt n q).1 :: x5))) := by
            rcases hmo with ⟨w, -⟩ | ⟨-, w⟩
            · rw [show (pTok bt n q).1 = 10007 from hs17.trans (by decide)] at w
              exact absurd w (by decide)
            · exact w
          refine ww_blk xCC okX6_both 14 1 (ps := []) (pc' := 24) (lv' := [(1, .int v), (0, .ref 0)]) (st' := [.ref 0]) (z' := zc) rfl trivial ?_
          refine ww_callVIv xCC okX6_both 15 (ix := 192) (t_X6_next l d zc bt n fr e5_4.1 (pTok bt n q).2.2 (pTok_le e5_4.2.2.2.2.1).1 (tkM_here e5_4.2.2.2.1 (by rw [hs17]; decide))) (by omega) (by decide) xyX6_next xiX6_next (Or.inl (lw_gt_of (List.mem_of_getElem? (i := 1011) (by decide +kernel)) rfl)) rfl rfl rfl (rest := []) rfl (Nat.le_of_ble_eq_true rfl) rfl (fun z4 h5 => ?_)
          have hgN24 := gS_nx e5_4.1 e5_4.2.1 e5_4.2.2.1 h5.1 h5.2 (pTok_le e5_4.2.2.2.2.1).1 e5_4.2.2.2.2.2
          have hKN24 := pK_tr e5_5 (pK4_K h5.1)
          refine ww_blk xCC okX6_both 16 1 (ps := []) (pc' := 28) (lv' := [(1, .int v), (0, .ref 0)]) (st' := [.ref 0]) (z' := z4) rfl trivial ?_
          refine ww_callVIi xCC okX6_both 17 (ix := 237) (ih g2 (by omega) d z4 o (pTok bt n q).2.2 t4 x4 p4 hgN24 h4 ht4) (by omega) (by decide) xyX6_not xiX6_not (Or.inl (lw_gt_of (List.mem_of_getElem? (i := 1048) (by decide +kernel)) rfl)) rfl rfl rfl (rest := []) rfl (Nat.le_of_ble_eq_true rfl) rfl (fun vB zB hB => ?_)
          obtain ⟨hK4, hB1⟩ := hB
          have hv5 : t4 = 1 → ∀ st, pEv (pF z) x4 st = vB :: st := fun w st => by
            rcases hB1 with ⟨-, -, q⟩ | ⟨q, -⟩
            · rw [← pEv_K hKN24]; exact q st
            · omega
          replace hK4 := pK_tr hKN24 hK4
          rcases hB1 with ⟨e4, hS4, -⟩ | ⟨e4, hB4⟩
          · skip
            replace hv5 := hv5 e4
            obtain ⟨x5, h5, hcs5⟩ : ∃ x5, pG bt n g2 11 o p4 = (tag, x5, p) ∧ (tag = 1 → c3 = x4 ++ (pTok bt n q).1 :: x5) := by
              rcases hch4 with ⟨w, -⟩ | ⟨-, w⟩
              · omega
              · exact w
            refine ww_blk xCC okX6_both 18 2 (ps := []) (pc' := 33) (lv' := [(2, .int vB), (1, .int v), (0, .ref 0)]) (st' := [.int v]) (z' := zB) rfl trivial ?_
            refine ww_br xCC okX6_both 20 (P := v = 0) (t1 := 44) (t2 := 36) (r := []) rfl (fun c7 => ?_) (fun c7 => ?_)
            · skip
              refine ww_blk xCC okX6_both 25 3 (ps := []) (pc' := 5) (lv' := [(1, .int 0), (2, .int vB), (0, .ref 0)]) (st' := []) (z' := zB) rfl trivial ?_
              exact ww_cut [0, 2] (xlc rfl (xlc rfl rfl)) rfl rfl (ih5 g2 p4 (c0 ++ (x4 ++ [10007])) x5 0 zB (by omega) (by omega) h5 (fun w => by rw [e5_2 w, hcs5 w, show (pTok bt n q).1 = 10007 from hs17.trans (by decide)]; simp) (fun st => by rw [pEv_app, e5_3, pEv_app, hv5]; show pJoin _ v vB :: st = _; simp [pJoin, *]) hS4 hK4)
            · skip
              refine ww_blk xCC okX6_both 21 1 (ps := []) (pc' := 37) (lv' := [(2, .int vB), (1, .int v), (0, .ref 0)]) (st' := [.int vB]) (z' := zB) rfl trivial ?_
              refine ww_br xCC okX6_both 22 (P := vB = 0) (t1 := 44) (t2 := 40) (r := []) rfl (fun c8 => ?_) (fun c8 => ?_)
              · skip
                refine ww_blk xCC okX6_both 25 3 (ps := []) (pc' := 5) (lv' := [(1, .int 0), (2, .int vB), (0, .ref 0)]) (st' := []) (z' := zB) rfl trivial ?_
                exact ww_cut [0, 2] (xlc rfl (xlc rfl rfl)) rfl rfl (ih5 g2 p4 (c0 ++ (x4 ++ [10007])) x5 0 zB (by omega) (by omega) h5 (fun w => by rw [e5_2 w, hcs5 w, show (pTok bt n q).1 = 10007 from hs17.trans (by decide)]; simp) (fun st => by rw [pEv_app, e5_3, pEv_app, hv5]; show pJoin _ v vB :: st = _; simp [pJoin, *]) hS4 hK4)
              · skip
                refine ww_blk xCC okX6_both 23 2 (ps := []) (pc' := 45) (lv' := [(2, .int vB), (1, .int v), (0, .ref 0)]) (st' := [.int 1]) (z' := zB) rfl trivial ?_
                refine ww_blk xCC okX6_both 26 2 (ps := []) (pc' := 5) (lv' := [(1, .int 1), (2, .int vB), (0, .ref 0)]) (st' := []) (z' := zB) rfl trivial ?_
                exact ww_cut [0, 2] (xlc rfl (xlc rfl rfl)) rfl rfl (ih5 g2 p4 (c0 ++ (x4 ++ [10007])) x5 1 zB (by omega) (by omega) h5 (fun w => by rw [e5_2 w, hcs5 w, show (pTok bt n q).1 = 10007 from hs17.trans (by decide)]; simp) (fun st => by rw [pEv_app, e5_3, pEv_app, hv5]; show pJoin _ v vB :: st = _; simp [pJoin, *]) hS4 hK4)
          · skip
            obtain ⟨htag, hp⟩ : tag = 2 ∧ p = p4 := by
              rcases hch4 with ⟨-, w⟩ | ⟨w, -⟩
              · exact w
              · omega
            refine ww_blk xCC okX6_both 18 2 (ps := []) (pc' := 33) (lv' := [(2, .int vB), (1, .int v), (0, .ref 0)]) (st' := [.int v]) (z' := zB) rfl trivial ?_
            refine ww_br xCC okX6_both 20 (P := v = 0) (t1 := 44) (t2 := 36) (r := []) rfl (fun c9 => ?_) (fun c9 => ?_)
            · skip
              refine ww_blk xCC okX6_both 25 3 (ps := []) (pc' := 5) (lv' := [(1, .int 0), (2, .int vB), (0, .ref 0)]) (st' := []) (z' := zB) rfl trivial ?_
              refine ww_blk xCC okX6_both 3 9 (ps := []) (pc' := 17) (lv' := [(1, .int 0), (2, .int vB), (0, .ref 0)]) (st' := [.int 0, .int 0, .int 0, .int 0, .int 0, .int 100, .int 110, .int 97, .ref 0]) (z' := zB) rfl trivial ?_
              refine ww_callVIi xCC okX6_both 12 (ix := 195) (t_X6_isWord_b l d zB hB4.1 97 110 100 0 0 0 0 0) (by omega) (by decide) xyX6_isWord xiX6_isWord (Or.inl (lw_gt_of (List.mem_of_getElem? (i := 1024) (by decide +kernel)) rfl)) rfl rfl rfl (rest := []) rfl (Nat.le_of_ble_eq_true rfl) rfl (fun v12 z10 h11 => ?_)
              rw [h11.1, h11.2]
              refine ww_br xCC okX6_both 13 (P := 0 = 0) (t1 := 49) (t2 := 23) (r := []) rfl (fun _ => ?_) (fun q => absurd (by decide) q)
              refine ww_blk xCC okX6_both 28 1 (ps := []) (pc' := 50) (lv' := [(1, .int 0), (2, .int vB), (0, .ref 0)]) (st' := [.int 0]) (z' := zB) rfl trivial ?_
              subst xhQ
              exact ww_iret xCC okX6_both 29 xhr rfl rfl ⟨_, rfl, ⟨hK4, Or.inr ⟨htag, (by rw [hp]; exact hB4)⟩⟩⟩
            · skip
              refine ww_blk xCC okX6_both 21 1 (ps := []) (pc' := 37) (lv' := [(2, .int vB), (1, .int v), (0, .ref 0)]) (st' := [.int vB]) (z' := zB) rfl trivial ?_
              refine ww_br xCC okX6_both 22 (P := vB = 0) (t1 := 44) (t2 := 40) (r := []) rfl (fun c14 => ?_) (fun c14 => ?_)
              · skip
                refine ww_blk xCC okX6_both 25 3 (ps := []) (pc' := 5) (lv' := [(1, .int 0), (2, .int vB), (0, .ref 0)]) (st' := []) (z' := zB) rfl trivial ?_
                refine ww_blk xCC okX6_both 3 9 (ps := []) (pc' := 17) (lv' := [(1, .int 0), (2, .int vB), (0, .ref 0)]) (st' := [.int 0, .int 0, .int 0, .int 0, .int 0, .int 100, .int 110, .int 97, .ref 0]) (z' := zB) rfl trivial ?_
                refine ww_callVIi xCC okX6_both 12 (ix := 195) (t_X6_isWord_b l d zB hB4.1 97 110 100 0 0 0 0 0) (by omega) (by decide) xyX6_isWord xiX6_isWord (Or.inl (lw_gt_of (List.mem_of_getElem? (i := 1024) (by decide +kernel)) rfl)) rfl rfl rfl (rest := []) rfl (Nat.le_of_ble_eq_true rfl) rfl (fun v17 z15 h16 => ?_)
                rw [h16.1, h16.2]
                refine ww_br xCC okX6_both 13 (P := 0 = 0) (t1 := 49) (t2 := 23) (r := []) rfl (fun _ => ?_) (fun q => absurd (by decide) q)
                refine ww_blk xCC okX6_both 28 1 (ps := []) (pc' := 50) (lv' := [(1, .int 0), (2, .int vB), (0, .ref 0)]) (st' := [.int 0]) (z' := zB) rfl trivial ?_
                subst xhQ
                exact ww_iret xCC okX6_both 29 xhr rfl rfl ⟨_, rfl, ⟨hK4, Or.inr ⟨htag, (by rw [hp]; exact hB4)⟩⟩⟩
              · skip
                refine ww_blk xCC okX6_both 23 2 (ps := []) (pc' := 45) (lv' := [(2, .int vB), (1, .int v), (0, .ref 0)]) (st' := [.int 1]) (z' := zB) rfl trivial ?_
                refine ww_blk xCC okX6_both 26 2 (ps := []) (pc' := 5) (lv' := [(1, .int 1), (2, .int vB), (0, .ref 0)]) (st' := []) (z' := zB) rfl trivial ?_
                refine ww_blk xCC okX6_both 3 9 (ps := []) (pc' := 17) (lv' := [(1, .int 1), (2, .int vB), (0, .ref 0)]) (st' := [.int 0, .int 0, .int 0, .int 0, .int 0, .int 100, .int 110, .int 97, .ref 0]) (z' := zB) rfl trivial ?_
                refine ww_callVIi xCC okX6_both 12 (ix := 195) (t_X6_isWord_b l d zB hB4.1 97 110 100 0 0 0 0 0) (by omega) (by decide) xyX6_isWord xiX6_isWord (Or.inl (lw_gt_of (List.mem_of_getElem? (i := 1024) (by decide +kernel)) rfl)) rfl rfl rfl (rest := []) rfl (Nat.le_of_ble_eq_true rfl) rfl (fun v21 z19 h20 => ?_)
                rw [h20.1, h20.2]
                refine ww_br xCC okX6_both 13 (P := 0 = 0) (t1 := 49) (t2 := 23) (r := []) rfl (fun _ => ?_) (fun q => absurd (by decide) q)
                refine ww_blk xCC okX6_both 28 1 (ps := []) (pc' := 50) (lv' := [(1, .int 1), (2, .int vB), (0, .ref 0)]) (st' := [.int 1]) (z' := zB) rfl trivial ?_
                subst xhQ
                exact ww_iret xCC okX6_both 29 xhr rfl rfl ⟨_, rfl, ⟨hK4, Or.inr ⟨htag, (by rw [hp]; exact hB4)⟩⟩⟩
        · skip
          rw [h2.2]
          have hs17 := h2.1
          refine ww_br xCC okX6_both 13 (P := 0 = 0) (t1 := 49) (t2 := 23) (r := []) rfl (fun _ => ?_) (fun q => absurd (by decide) q)
          obtain ⟨k1, k2, k3⟩ : tag = 1 ∧ c3 = [] ∧ p = q := by
            rcases hmo with ⟨-, w⟩ | ⟨w, -⟩
            · exact w
            · exfalso
              simp only [pOp] at w; exact hs17 (eq_of_beq w)
          refine ww_blk xCC okX6_both 28 1 (ps := []) (pc' := 50) (lv' := [(1, .int v), (0, .ref 0)]) (st' := [.int v]) (z' := zc) rfl trivial ?_
          subst xhQ
          exact ww_iret xCC okX6_both 29 xhr rfl rfl ⟨_, rfl, ⟨e5_5, Or.inl ⟨k1, (by rw [k3]; exact e5_4), fun st => (by rw [e5_2 k1, k2, List.append_nil]; exact e5_3 st)⟩⟩⟩
    exact ww_cut [0, 1] (xlc rfl (xlc rfl rfl)) rfl rfl (L5 (g + 1) g p1 x1 x2 vA zA (Nat.lt_succ_self _) (Nat.le_refl _) h2 hcs hv1 hS1 hK1)
  · skip
    obtain ⟨htag, hp⟩ : tag = 2 ∧ p = p1 := by
      rcases hch with ⟨-, q⟩ | ⟨q, -⟩
      · exact q
      · omega
    refine ww_blk xCC okX6_both 2 10 (ps := []) (pc' := 17) (lv' := [(1, .int vA), (0, .ref 0)]) (st' := [.int 0, .int 0, .int 0, .int 0, .int 0, .int 100, .int 110, .int 97, .ref 0]) (z' := zA) rfl trivial ?_
    refine ww_callVIi xCC okX6_both 12 (ix := 195) (t_X6_isWord_b l d zA hB1.1 97 110 100 0 0 0 0 0) (by omega) (by decide) xyX6_isWord xiX6_isWord (Or.inl (lw_gt_of (List.mem_of_getElem? (i := 1024) (by decide +kernel)) rfl)) rfl rfl rfl (rest := []) rfl (Nat.le_of_ble_eq_true rfl) rfl (fun v26 z24 h25 => ?_)
    rw [h25.1, h25.2]
    refine ww_br xCC okX6_both 13 (P := 0 = 0) (t1 := 49) (t2 := 23) (r := []) rfl (fun _ => ?_) (fun q => absurd (by decide) q)
    refine ww_blk xCC okX6_both 28 1 (ps := []) (pc' := 50) (lv' := [(1, .int vA), (0, .ref 0)]) (st' := [.int vA]) (z' := zA) rfl trivial ?_
    subst xhQ
    exact ww_iret xCC okX6_both 29 xhr rfl rfl ⟨_, rfl, ⟨hK1, Or.inr ⟨htag, (by rw [hp]; exact hB1)⟩⟩⟩

set_option maxHeartbeats 4000000 in
set_option maxRecDepth 20000 in
theorem t_X6_either (l : Launch) (d : Nat) (bt : Nat → Nat) (n fr : Nat) (f : Nat) (ih : ∀ g, g < f → MC l bt n fr yX6_both cX6_both 3 1 g) (z : xMem) (o pos tag : Nat) (cs : List Nat) (p : Nat) (hgs : gS z bt n fr pos o) (hG : pG bt n f 0 o pos = (tag, cs, p)) (ht : tag ≠ 0) : XMi l (d + f + 5) yX6_either cX6_either 3 (some .int) shM [.ref 0] z (fun v z' => mR z z' bt n fr o tag cs p v) := by
  obtain ⟨g, t1, x1, p1, rfl, h1, ht1, hch⟩ := pG_ch (m := 0) (sub := 1) (rest := 10) (by decide) hG ht
  refine XM.of (by decide) (Nat.le_of_ble_eq_true rfl) (fun xp xe xs xm xar xbl xme xc xD xcs xad xAA xCC xhr => ?_)
  generalize xhQ : MQ xbl _ xar xs 0 0 xAA = xQ
  show ww xp l xe (xRm (d + (g + 1) + 5)) xs xm xar xbl xme xc 3 xD xcs xad shM xAA xQ 0 [(0, .ref 0)] [] z
  refine ww_blk xCC okX6_either 0 1 (ps := []) (pc' := 1) (lv' := [(0, .ref 0)]) (st' := [.ref 0]) (z' := z) rfl trivial ?_
  refine ww_callVIi xCC okX6_either 1 (ix := 245) (ih g (by omega) d z o pos t1 x1 p1 hgs h1 ht1) (by omega) (by decide) xyX6_both xiX6_both (Or.inl (lw_gt_of (List.mem_of_getElem? (i := 1044) (by decide +kernel)) rfl)) rfl rfl rfl (rest := []) rfl (Nat.le_of_ble_eq_true rfl) rfl (fun vA zA hA => ?_)
  obtain ⟨hK1, hA1⟩ := hA
  rcases hA1 with ⟨e1, hS1, hv1⟩ | ⟨e1, hB1⟩
  · skip
    obtain ⟨x2, h2, hcs⟩ : ∃ x2, pG bt n g 10 o p1 = (tag, x2, p) ∧ (tag = 1 → cs = x1 ++ x2) := by
      rcases hch with ⟨q, -⟩ | ⟨-, q⟩
      · omega
      · exact q
    refine ww_blk xCC okX6_either 2 1 (ps := []) (pc' := 5) (lv' := [(1, .int vA), (0, .ref 0)]) (st' := []) (z' := zA) rfl trivial ?_
    have L5 : ∀ (n5 : Nat) (f2 : Nat) (q : Nat) (c0 : List Nat) (c3 : List Nat) (v : Int32) (zc : xMem), f2 < n5 → (f2 ≤ g) → (pG bt n f2 10 o q = (tag, c3, p)) → (tag = 1 → cs = c0 ++ c3) → (∀ st, pEv (pF z) c0 st = v :: st) → (gS zc bt n fr q o) → (pK z zc) → ww xp l xe (xRm (d + (g + 1) + 5)) xs xm xar xbl xme xc 3 xD xcs xad shM xAA xQ 5 [(1, .int v), (0, .ref 0)] [] zc := by
      intro n5
      induction n5 with
      | zero =>
        intro f2 q c0 c3 v zc hmu5
        exact absurd hmu5 (Nat.not_lt_zero _)
      | succ n5 ih5 =>
        intro f2 q c0 c3 v zc hmu5 e5_0 e5_1 e5_2 e5_3 e5_4 e5_5
        obtain ⟨g2, rfl, hmo⟩ := pG_mo (m := 10) (sub := 1) (by decide) e5_1 ht
        refine ww_blk xCC okX6_either 3 9 (ps := []) (pc' := 16) (lv' := [(1, .int v), (0, .ref 0)]) (st' := [.int 0, .int 0, .int 0, .int 0, .int 0, .int 0, .int 114, .int 111, .ref 0]) (z' := zc) rfl trivial ?_
        refine ww_callVIz xCC okX6_either 12 (ix := 195) (t_X6_isWord l d zc bt n fr e5_4.1 q e5_4.2.2.2.2.1 e5_4.2.1 e5_4.2.2.2.1 [111, 114] 10006 (by decide)) (by omega) (by decide) xyX6_isWord xiX6_isWord (Or.inl (lw_gt_of (List.mem_of_getElem? (i := 1024) (by decide +kernel)) rfl)) rfl rfl rfl (rest := []) rfl (Nat.le_of_ble_eq_true rfl) rfl (fun z1 h2 => ?_) (fun z1 h2 => ?_)
        · skip
          rw [h2.2]
          have hs16 := h2.1
          refine ww_br xCC okX6_either 13 (P := 1 = 0) (t1 := 48) (t2 := 22) (r := []) rfl (fun q => absurd q (by decide)) (fun _ => ?_)
          obtain ⟨t4, x4, p4, h4, ht4, hch4⟩ : ∃ t4 x4 p4, pG bt n g2 1 o (pTok bt n q).2.2 = (t4, x4, p4) ∧ t4 ≠ 0 ∧ ((t4 = 2 ∧ tag = 2 ∧ p = p4) ∨ (t4 = 1 ∧ ∃ x5, pG bt n g2 10 o p4 = (tag, x5, p) ∧ (tag = 1 → c3 = x4 ++ (pTok bt n q).1 :: x5))) := by
            rcases hmo with ⟨w, -⟩ | ⟨-, w⟩
            · rw [show (pTok bt n q).1 = 10006 from hs16.trans (by decide)] at w
              exact absurd w (by decide)
            · exact w
          refine ww_blk xCC okX6_either 14 1 (ps := []) (pc' := 23) (lv' := [(1, .int v), (0, .ref 0)]) (st' := [.ref 0]) (z' := zc) rfl trivial ?_
          refine ww_callVIv xCC okX6_either 15 (ix := 192) (t_X6_next l d zc bt n fr e5_4.1 (pTok bt n q).2.2 (pTok_le e5_4.2.2.2.2.1).1 (tkM_here e5_4.2.2.2.1 (by rw [hs16]; decide))) (by omega) (by decide) xyX6_next xiX6_next (Or.inl (lw_gt_of (List.mem_of_getElem? (i := 1011) (by decide +kernel)) rfl)) rfl rfl rfl (rest := []) rfl (Nat.le_of_ble_eq_true rfl) rfl (fun z4 h5 => ?_)
          have hgN23 := gS_nx e5_4.1 e5_4.2.1 e5_4.2.2.1 h5.1 h5.2 (pTok_le e5_4.2.2.2.2.1).1 e5_4.2.2.2.2.2
          have hKN23 := pK_tr e5_5 (pK4_K h5.1)
          refine ww_blk xCC okX6_either 16 1 (ps := []) (pc' := 27) (lv' := [(1, .int v), (0, .ref 0)]) (st' := [.ref 0]) (z' := z4) rfl trivial ?_
          refine ww_callVIi xCC okX6_either 17 (ix := 245) (ih g2 (by omega) d z4 o (pTok bt n q).2.2 t4 x4 p4 hgN23 h4 ht4) (by omega) (by decide) xyX6_both xiX6_both (Or.inl (lw_gt_of (List.mem_of_getElem? (i := 1044) (by decide +kernel)) rfl)) rfl rfl rfl (rest := []) rfl (Nat.le_of_ble_eq_true rfl) rfl (fun vB zB hB => ?_)
          obtain ⟨hK4, hB1⟩ := hB
          have hv5 : t4 = 1 → ∀ st, pEv (pF z) x4 st = vB :: st := fun w st => by
            rcases hB1 with ⟨-, -, q⟩ | ⟨q, -⟩
            · rw [← pEv_K hKN23]; exact q st
            · omega
          replace hK4 := pK_tr hKN23 hK4
          rcases hB1 with ⟨e4, hS4, -⟩ | ⟨e4, hB4⟩
          · skip
            replace hv5 := hv5 e4
            obtain ⟨x5, h5, hcs5⟩ : ∃ x5, pG bt n g2 10 o p4 = (tag, x5, p) ∧ (tag = 1 → c3 = x4 ++ (pTok bt n q).1 :: x5) := by
              rcases hch4 with ⟨w, -⟩ | ⟨-, w⟩
              · omega
              · exact w
            refine ww_blk xCC okX6_either 18 2 (ps := []) (pc' := 32) (lv' := [(2, .int vB), (1, .int v), (0, .ref 0)]) (st' := [.int v]) (z' := zB) rfl trivial ?_
            refine ww_br xCC okX6_either 20 (P := v = 0) (t1 := 35) (t2 := 39) (r := []) rfl (fun c7 => ?_) (fun c7 => ?_)
            · skip
              refine ww_blk xCC okX6_either 21 1 (ps := []) (pc' := 36) (lv' := [(2, .int vB), (1, .int v), (0, .ref 0)]) (st' := [.int vB]) (z' := zB) rfl trivial ?_
              refine ww_br xCC okX6_either 22 (P := vB = 0) (t1 := 43) (t2 := 39) (r := []) rfl (fun c8 => ?_) (fun c8 => ?_)
              · skip
                refine ww_blk xCC okX6_either 25 3 (ps := []) (pc' := 5) (lv' := [(1, .int 0), (2, .int vB), (0, .ref 0)]) (st' := []) (z' := zB) rfl trivial ?_
                exact ww_cut [0, 2] (xlc rfl (xlc rfl rfl)) rfl rfl (ih5 g2 p4 (c0 ++ (x4 ++ [10006])) x5 0 zB (by omega) (by omega) h5 (fun w => by rw [e5_2 w, hcs5 w, show (pTok bt n q).1 = 10006 from hs16.trans (by decide)]; simp) (fun st => by rw [pEv_app, e5_3, pEv_app, hv5]; show pJoin _ v vB :: st = _; simp [pJoin, *]) hS4 hK4)
              · skip
                refine ww_blk xCC okX6_either 23 2 (ps := []) (pc' := 44) (lv' := [(2, .int vB), (1, .int v), (0, .ref 0)]) (st' := [.int 1]) (z' := zB) rfl trivial ?_
                refine ww_blk xCC okX6_either 26 2 (ps := []) (pc' := 5) (lv' := [(1, .int 1), (2, .int vB), (0, .ref 0)]) (st' := []) (z' := zB) rfl trivial ?_
                exact ww_cut [0, 2] (xlc rfl (xlc rfl rfl)) rfl rfl (ih5 g2 p4 (c0 ++ (x4 ++ [10006])) x5 1 zB (by omega) (by omega) h5 (fun w => by rw [e5_2 w, hcs5 w, show (pTok bt n q).1 = 10006 from hs16.trans (by decide)]; simp) (fun st => by rw [pEv_app, e5_3, pEv_app, hv5]; show pJoin _ v vB :: st = _; simp [pJoin, *]) hS4 hK4)
            · skip
              refine ww_blk xCC okX6_either 23 2 (ps := []) (pc' := 44) (lv' := [(2, .int vB), (1, .int v), (0, .ref 0)]) (st' := [.int 1]) (z' := zB) rfl trivial ?_
              refine ww_blk xCC okX6_either 26 2 (ps := []) (pc' := 5) (lv' := [(1, .int 1), (2, .int vB), (0, .ref 0)]) (st' := []) (z' := zB) rfl trivial ?_
              exact ww_cut [0, 2] (xlc rfl (xlc rfl rfl)) rfl rfl (ih5 g2 p4 (c0 ++ (x4 ++ [10006])) x5 1 zB (by omega) (by omega) h5 (fun w => by rw [e5_2 w, hcs5 w, show (pTok bt n q).1 = 10006 from hs16.trans (by decide)]; simp) (fun st => by rw [pEv_app, e5_3, pEv_app, hv5]; show pJoin _ v vB :: st = _; simp [pJoin, *]) hS4 hK4)
          · skip
            obtain ⟨htag, hp⟩ : tag = 2 ∧ p = p4 := by
              rcases hch4 with ⟨-, w⟩ | ⟨w, -⟩
              · exact w
              · omega
            refine ww_blk xCC okX6_either 18 2 (ps := []) (pc' := 32) (lv' := [(2, .int vB), (1, .int v), (0, .ref 0)]) (st' := [.int v]) (z' := zB) rfl trivial ?_
            refine ww_br xCC okX6_either 20 (P := v = 0) (t1 := 35) (t2 := 39) (r := []) rfl (fun c9 => ?_) (fun c9 => ?_)
            · skip
              refine ww_blk xCC okX6_either 21 1 (ps := []) (pc' := 36) (lv' := [(2, .int vB), (1, .int v), (0, .ref 0)]) (st' := [.int vB]) (z' := zB) rfl trivial ?_
              refine ww_br xCC okX6_either 22 (P := vB = 0) (t1 := 43) (t2 := 39) (r := []) rfl (fun c10 => ?_) (fun c10 => ?_)
              · skip
                refine ww_blk xCC okX6_either 25 3 (ps := []) (pc' := 5) (lv' := [(1, .int 0), (2, .int vB), (0, .ref 0)]) (st' := []) (z' := zB) rfl trivial ?_
                refine ww_blk xCC okX6_either 3 9 (ps := []) (pc' := 16) (lv' := [(1, .int 0), (2, .int vB), (0, .ref 0)]) (st' := [.int 0, .int 0, .int 0, .int 0, .int 0, .int 0, .int 114, .int 111, .ref 0]) (z' := zB) rfl trivial ?_
                refine ww_callVIi xCC okX6_either 12 (ix := 195) (t_X6_isWord_b l d zB hB4.1 111 114 0 0 0 0 0 0) (by omega) (by decide) xyX6_isWord xiX6_isWord (Or.inl (lw_gt_of (List.mem_of_getElem? (i := 1024) (by decide +kernel)) rfl)) rfl rfl rfl (rest := []) rfl (Nat.le_of_ble_eq_true rfl) rfl (fun v13 z11 h12 => ?_)
                rw [h12.1, h12.2]
                refine ww_br xCC okX6_either 13 (P := 0 = 0) (t1 := 48) (t2 := 22) (r := []) rfl (fun _ => ?_) (fun q => absurd (by decide) q)
                refine ww_blk xCC okX6_either 28 1 (ps := []) (pc' := 49) (lv' := [(1, .int 0), (2, .int vB), (0, .ref 0)]) (st' := [.int 0]) (z' := zB) rfl trivial ?_
                subst xhQ
                exact ww_iret xCC okX6_either 29 xhr rfl rfl ⟨_, rfl, ⟨hK4, Or.inr ⟨htag, (by rw [hp]; exact hB4)⟩⟩⟩
              · skip
                refine ww_blk xCC okX6_either 23 2 (ps := []) (pc' := 44) (lv' := [(2, .int vB), (1, .int v), (0, .ref 0)]) (st' := [.int 1]) (z' := zB) rfl trivial ?_
                refine ww_blk xCC okX6_either 26 2 (ps := []) (pc' := 5) (lv' := [(1, .int 1), (2, .int vB), (0, .ref 0)]) (st' := []) (z' := zB) rfl trivial ?_
                refine ww_blk xCC okX6_either 3 9 (ps := []) (pc' := 16) (lv' := [(1, .int 1), (2, .int vB), (0, .ref 0)]) (st' := [.int 0, .int 0, .int 0, .int 0, .int 0, .int 0, .int 114, .int 111, .ref 0]) (z' := zB) rfl trivial ?_
                refine ww_callVIi xCC okX6_either 12 (ix := 195) (t_X6_isWord_b l d zB hB4.1 111 114 0 0 0 0 0 0) (by omega) (by decide) xyX6_isWord xiX6_isWord (Or.inl (lw_gt_of (List.mem_of_getElem? (i := 1024) (by decide +kernel)) rfl)) rfl rfl rfl (rest := []) rfl (Nat.le_of_ble_eq_true rfl) rfl (fun v17 z15 h16 => ?_)
                rw [h16.1, h16.2]
                refine ww_br xCC okX6_either 13 (P := 0 = 0) (t1 := 48) (t2 := 22) (r := []) rfl (fun _ => ?_) (fun q => absurd (by decide) q)
                refine ww_blk xCC okX6_either 28 1 (ps := []) (pc' := 49) (lv' := [(1, .int 1), (2, .int vB), (0, .ref 0)]) (st' := [.int 1]) (z' := zB) rfl trivial ?_
                subst xhQ
                exact ww_iret xCC okX6_either 29 xhr rfl rfl ⟨_, rfl, ⟨hK4, Or.inr ⟨htag, (by rw [hp]; exact hB4)⟩⟩⟩
            · skip
              refine ww_blk xCC okX6_either 23 2 (ps := []) (pc' := 44) (lv' := [(2, .int vB), (1, .int v), (0, .ref 0)]) (st' := [.int 1]) (z' := zB) rfl trivial ?_
              refine ww_blk xCC okX6_either 26 2 (ps := []) (pc' := 5) (lv' := [(1, .int 1), (2, .int vB), (0, .ref 0)]) (st' := []) (z' := zB) rfl trivial ?_
              refine ww_blk xCC okX6_either 3 9 (ps := []) (pc' := 16) (lv' := [(1, .int 1), (2, .int vB), (0, .ref 0)]) (st' := [.int 0, .int 0, .int 0, .int 0, .int 0, .int 0, .int 114, .int 111, .ref 0]) (z' := zB) rfl trivial ?_
              refine ww_callVIi xCC okX6_either 12 (ix := 195) (t_X6_isWord_b l d zB hB4.1 111 114 0 0 0 0 0 0) (by omega) (by decide) xyX6_isWord xiX6_isWord (Or.inl (lw_gt_of (List.mem_of_getElem? (i := 1024) (by decide +kernel)) rfl)) rfl rfl rfl (rest := []) rfl (Nat.le_of_ble_eq_true rfl) rfl (fun v21 z19 h20 => ?_)
              rw [h20.1, h20.2]
              refine ww_br xCC okX6_either 13 (P := 0 = 0) (t1 := 48) (t2 := 22) (r := []) rfl (fun _ => ?_) (fun q => absurd (by decide) q)
              refine ww_blk xCC okX6_either 28 1 (ps := []) (pc' := 49) (lv' := [(1, .int 1), (2, .int vB), (0, .ref 0)]) (st' := [.int 1]) (z' := zB) rfl trivial ?_
              subst xhQ
              exact ww_iret xCC okX6_either 29 xhr rfl rfl ⟨_, rfl, ⟨hK4, Or.inr ⟨htag, (by rw [hp]; exact hB4)⟩⟩⟩
        · skip
          rw [h2.2]
          have hs16 := h2.1
          refine ww_br xCC okX6_either 13 (P := 0 = 0) (t1 := 48) (t2 := 22) (r := []) rfl (fun _ => ?_) (fun q => absurd (by decide) q)
          obtain ⟨k1, k2, k3⟩ : tag = 1 ∧ c3 = [] ∧ p = q := by
            rcases hmo with ⟨-, w⟩ | ⟨w, -⟩
            · exact w
            · exfalso
              simp only [pOp] at w; exact hs16 (eq_of_beq w)
          refine ww_blk xCC okX6_either 28 1 (ps := []) (pc' := 49) (lv' := [(1, .int v), (0, .ref 0)]) (st' := [.int v]) (z' := zc) rfl trivial ?_
          subst xhQ
          exact ww_iret xCC okX6_either 29 xhr rfl rfl ⟨_, rfl, ⟨e5_5, Or.inl ⟨k1, (by rw [k3]; exact e5_4), fun st => (by rw [e5_2 k1, k2, List.append_nil]; exact e5_3 st)⟩⟩⟩
    exact ww_cut [0, 1] (xlc rfl (xlc rfl rfl)) rfl rfl (L5 (g + 1) g p1 x1 x2 vA zA (Nat.lt_succ_self _) (Nat.le_refl _) h2 hcs hv1 hS1 hK1)
  · skip
    obtain ⟨htag, hp⟩ : tag = 2 ∧ p = p1 := by
      rcases hch with ⟨-, q⟩ | ⟨q, -⟩
      · exact q
      · omega
    refine ww_blk xCC okX6_either 2 10 (ps := []) (pc' := 16) (lv' := [(1, .int vA), (0, .ref 0)]) (st' := [.int 0, .int 0, .int 0, .int 0, .int 0, .int 0, .int 114, .int 111, .ref 0]) (z' := zA) rfl trivial ?_
    refine ww_callVIi xCC okX6_either 12 (ix := 195) (t_X6_isWord_b l d zA hB1.1 111 114 0 0 0 0 0 0) (by omega) (by decide) xyX6_isWord xiX6_isWord (Or.inl (lw_gt_of (List.mem_of_getElem? (i := 1024) (by decide +kernel)) rfl)) rfl rfl rfl (rest := []) rfl (Nat.le_of_ble_eq_true rfl) rfl (fun v26 z24 h25 => ?_)
    rw [h25.1, h25.2]
    refine ww_br xCC okX6_either 13 (P := 0 = 0) (t1 := 48) (t2 := 22) (r := []) rfl (fun _ => ?_) (fun q => absurd (by decide) q)
    refine ww_blk xCC okX6_either 28 1 (ps := []) (pc' := 49) (lv' := [(1, .int vA), (0, .ref 0)]) (st' := [.int vA]) (z' := zA) rfl trivial ?_
    subst xhQ
    exact ww_iret xCC okX6_either 29 xhr rfl rfl ⟨_, rfl, ⟨hK1, Or.inr ⟨htag, (by rw [hp]; exact hB1)⟩⟩⟩
end
section
/-! the grammar's other steps -/
theorem pG_not {bt : Nat → Nat} {n f o pos tag : Nat} {cs : List Nat} {p : Nat} (h : pG bt n f 2 o pos = (tag, cs, p)) (ht : tag ≠ 0) : ∃ g, f = g + 1 ∧ (((pTok bt n pos).1 = 10013 ∧ ((5 ≤ o ∧ tag = 2 ∧ p = (pTok bt n pos).2.1) ∨ (o < 5 ∧ ∃ t1 x1 p1, pG bt n g 2 (o + 1) (pTok bt n pos).2.2 = (t1, x1, p1) ∧ t1 ≠ 0 ∧ ((t1 = 2 ∧ tag = 2 ∧ p = p1) ∨ (t1 = 1 ∧ tag = 1 ∧ cs = x1 ++ [10013] ∧ p = p1))))) ∨ ((pTok bt n pos).1 ≠ 10013 ∧ pG bt n g 3 o pos = (tag, cs, p))) := by
  cases f with
  | zero => simp only [pG, Prod.mk.injEq] at h; exact absurd h.1.symm ht
  | succ g =>
    refine ⟨g, rfl, ?_⟩
    simp only [pG] at h
    split at h
    · rename_i h1
      refine Or.inl ⟨h1, ?_⟩
      split at h
      · rename_i h2
        simp only [Prod.mk.injEq] at h
        exact Or.inl ⟨h2, h.1.symm, h.2.2.symm⟩
      · rename_i h2
        refine Or.inr ⟨by omega, _, _, _, rfl, ?_⟩
        rcases pSeq_of (pG_ok bt n g 2 (o + 1) _) h ht with ⟨k1, k2, k3⟩ | ⟨k1, k2⟩
        · exact ⟨by omega, Or.inl ⟨k1, k2, k3⟩⟩
        · simp only [Prod.mk.injEq] at k2
          exact ⟨by omega, Or.inr ⟨k1, k2.1.symm, k2.2.1.symm, k2.2.2.symm⟩⟩
    · rename_i h1
      exact Or.inr ⟨h1, h⟩
theorem pG_cmp {bt : Nat → Nat} {n f o pos tag : Nat} {cs : List Nat} {p : Nat} (h : pG bt n f 3 o pos = (tag, cs, p)) (ht : tag ≠ 0) : ∃ g t1 x1 p1, f = g + 1 ∧ pG bt n g 4 o pos = (t1, x1, p1) ∧ t1 ≠ 0 ∧ ((t1 = 2 ∧ tag = 2 ∧ p = p1) ∨ (t1 = 1 ∧ (((pTok bt n p1).1 ≠ 10008 ∧ (pTok bt n p1).1 ≠ 10009 ∧ tag = 1 ∧ cs = x1 ∧ p = p1) ∨ (((pTok bt n p1).1 = 10008 ∨ (pTok bt n p1).1 = 10009) ∧ ∃ t2 x2 p2, pG bt n g 4 o (pTok bt n p1).2.2 = (t2, x2, p2) ∧ t2 ≠ 0 ∧ ((t2 = 2 ∧ tag = 2 ∧ p = p2) ∨ (t2 = 1 ∧ tag = 1 ∧ cs = x1 ++ (x2 ++ [(pTok bt n p1).1]) ∧ p = p2)))))) := by
  cases f with
  | zero => simp only [pG, Prod.mk.injEq] at h; exact absurd h.1.symm ht
  | succ g =>
    refine ⟨g, (pG bt n g 4 o pos).1, (pG bt n g 4 o pos).2.1, (pG bt n g 4 o pos).2.2, rfl, rfl, ?_⟩
    simp only [pG] at h
    rcases pSeq_of (pG_ok bt n g 4 o pos) h ht with ⟨k1, k2, k3⟩ | ⟨k1, k2⟩
    · exact ⟨by omega, Or.inl ⟨k1, k2, k3⟩⟩
    · refine ⟨by omega, Or.inr ⟨k1, ?_⟩⟩
      split at k2
      · rename_i h1
        refine Or.inr ⟨h1, _, _, _, rfl, ?_⟩
        rcases pSeq_of (pG_ok bt n g 4 o _) k2 ht with ⟨j1, j2, j3⟩ | ⟨j1, j2⟩
        · exact ⟨by omega, Or.inl ⟨j1, j2, j3⟩⟩
        · simp only [Prod.mk.injEq] at j2
          exact ⟨by omega, Or.inr ⟨j1, j2.1.symm, j2.2.1.symm, j2.2.2.symm⟩⟩
      · rename_i h1
        simp only [Prod.mk.injEq] at k2
        exact Or.inl ⟨fun q => h1 (Or.inl q), fun q => h1 (Or.inr q), k2.1.symm, k2.2.1.symm, k2.2.2.symm⟩
theorem pG_min {bt : Nat → Nat} {n f o pos tag : Nat} {cs : List Nat} {p : Nat} (h : pG bt n f 6 o pos = (tag, cs, p)) (ht : tag ≠ 0) : ∃ g, f = g + 1 ∧ (((pTok bt n pos).1 = 10011 ∧ ((5 ≤ o ∧ tag = 2 ∧ p = (pTok bt n pos).2.1) ∨ (o < 5 ∧ ∃ t1 x1 p1, pG bt n g 6 (o + 1) (pTok bt n pos).2.2 = (t1, x1, p1) ∧ t1 ≠ 0 ∧ ((t1 = 2 ∧ tag = 2 ∧ p = p1) ∨ (t1 = 1 ∧ tag = 1 ∧ cs = x1 ++ [10014] ∧ p = p1))))) ∨ ((pTok bt n pos).1 ≠ 10011 ∧ pG bt n g 7 o pos = (tag, cs, p))) := by
  cases f with
  | zero => simp only [pG, Prod.mk.injEq] at h; exact absurd h.1.symm ht
  | succ g =>
    refine ⟨g, rfl, ?_⟩
    simp only [pG] at h
    split at h
    · rename_i h1
      refine Or.inl ⟨h1, ?_⟩
      split at h
      · rename_i h2
        simp only [Prod.mk.injEq] at h
        exact Or.inl ⟨h2, h.1.symm, h.2.2.symm⟩
      · rename_i h2
        refine Or.inr ⟨by omega, _, _, _, rfl, ?_⟩
        rcases pSeq_of (pG_ok bt n g 6 (o + 1) _) h ht with ⟨k1, k2, k3⟩ | ⟨k1, k2⟩
        · exact ⟨by omega, Or.inl ⟨k1, k2, k3⟩⟩
        · simp only [Prod.mk.injEq] at k2
          exact ⟨by omega, Or.inr ⟨k1, k2.1.symm, k2.2.1.symm, k2.2.2.symm⟩⟩
    · rename_i h1
      exact Or.inr ⟨h1, h⟩
theorem pG_one {bt : Nat → Nat} {n f o pos tag : Nat} {cs : List Nat} {p : Nat} (h : pG bt n f 7 o pos = (tag, cs, p)) (ht : tag ≠ 0) : ∃ g, f = g + 1 ∧ (((pTok bt n pos).1 ≤ 10005 ∧ tag = 1 ∧ cs = [(pTok bt n pos).1] ∧ p = (pTok bt n pos).2.2) ∨ ((pTok bt n pos).1 = 10018 ∧ ((5 ≤ o ∧ tag = 2 ∧ p = (pTok bt n pos).2.1) ∨ (o < 5 ∧ ∃ t1 x1 p1, pG bt n g 0 (o + 1) (pTok bt n pos).2.2 = (t1, x1, p1) ∧ t1 ≠ 0 ∧ ((t1 = 2 ∧ tag = 2 ∧ p = p1) ∨ (t1 = 1 ∧ (((pTok bt n p1).1 = 10019 ∧ tag = 1 ∧ cs = x1 ∧ p = (pTok bt n p1).2.2) ∨ ((pTok bt n p1).1 ≠ 10019 ∧ tag = 2 ∧ p = (pTok bt n p1).2.1))))))) ∨ (10005 < (pTok bt n pos).1 ∧ (pTok bt n pos).1 ≠ 10018 ∧ tag = 2 ∧ p = (pTok bt n pos).2.1)) := by
  cases f with
  | zero => simp only [pG, Prod.mk.injEq] at h; exact absurd h.1.symm ht
  | succ g =>
    refine ⟨g, rfl, ?_⟩
    simp only [pG] at h
    split at h
    · rename_i h1
      simp only [Prod.mk.injEq] at h
      exact Or.inl ⟨h1, h.1.symm, h.2.1.symm, h.2.2.symm⟩
    · rename_i h1
      split at h
      · rename_i h2
        refine Or.inr (Or.inl ⟨h2, ?_⟩)
        split at h
        · rename_i h3
          simp only [Prod.mk.injEq] at h
          exact Or.inl ⟨h3, h.1.symm, h.2.2.symm⟩
        · rename_i h3
          refine Or.inr ⟨by omega, _, _, _, rfl, ?_⟩
          rcases pSeq_of (pG_ok bt n g 0 (o + 1) _) h ht with ⟨k1, k2, k3⟩ | ⟨k1, k2⟩
          · exact ⟨by omega, Or.inl ⟨k1, k2, k3⟩⟩
          · refine ⟨by omega, Or.inr ⟨k1, ?_⟩⟩
            split at k2
            · rename_i h4
              simp only [Prod.mk.injEq] at k2
              exact Or.inl ⟨h4, k2.1.symm, k2.2.1.symm, k2.2.2.symm⟩
            · rename_i h4
              simp only [Prod.mk.injEq] at k2
              exact Or.inr ⟨h4, k2.1.symm, k2.2.2.symm⟩
      · rename_i h2
        simp only [Prod.mk.injEq] at h
        exact Or.inr (Or.inr ⟨by omega, h2, h.1.symm, h.2.2.symm⟩)
/-- a number at hand, a word at hand, or neither -/
theorem tkM_num {z : xMem} {bt : Nat → Nat} {n pos : Nat} (h : tkM z bt n pos) (h1 : z.1 0 25 = 2) : (pTok bt n pos).1 < 10000 ∧ z.2.1 0 27 = lN (pTok bt n pos).1 := by
  rcases h.2 with q | q | q | q
  · rw [h1] at q; exact absurd q.2.1 (by decide)
  · rw [h1] at q; exact absurd q.2.2.1 (by decide)
  · rcases q.2.2.2.1 with r | r
    · exact ⟨r.1, r.2.2⟩
    · rw [h1] at r; exact absurd r.2 (by decide)
  · rcases q.2.2.2 with r | r
    · rw [h1] at r; exact absurd r.2.1 (by decide)
    · rw [h1] at r; exact absurd r.2 (by decide)
theorem tkM_wd {z : xMem} {bt : Nat → Nat} {n pos : Nat} (hpos : pos ≤ n) (h : tkM z bt n pos) (h1 : z.1 0 25 = 1) : 10000 ≤ (pTok bt n pos).1 ∧ (pTok bt n pos).1 ≠ 10018 := by
  obtain ⟨a, b, -, -, -, -, -, -, hc⟩ := tkM_word hpos h h1
  rw [hc]
  have := pWd_rng bt a b
  omega
theorem tkM_non {z : xMem} {bt : Nat → Nat} {n pos : Nat} (h : tkM z bt n pos) (h1 : ¬ z.1 0 25 = 1) (h2 : ¬ z.1 0 25 = 2) : 10005 < (pTok bt n pos).1 := by
  rcases h.2 with q | q | q | q
  · rw [pTok_end (by rw [← pTok_a]; exact q.1)]
    show 10005 < 10021
    decide
  · exact absurd q.2.2.1 h1
  · rcases q.2.2.2.1 with r | r
    · exact absurd r.2.1 h2
    · omega
  · have e2 := pTok_sig (pTok_a bt n pos).symm q.1 q.2.1 q.2.2.1
    have hr : ∀ k, 10005 < pSg k := by
      intro k
      simp only [pSg]
      repeat' split
      all_goals omega
    rw [e2]
    exact hr _
end
section
/-! name and atom of the model -/
set_option maxHeartbeats 4000000 in
set_option maxRecDepth 20000 in
theorem t_X6_name (l : Launch) (d : Nat) (z : xMem) (bt : Nat → Nat) (n fr : Nat) (pos o : Nat) (hgs : gS z bt n fr pos o) (hw : z.1 0 25 = 1) : XMi l (d + 3) yX6_name cX6_name 1 (some .int) shM [.ref 0] z (fun v z' => (10000 ≤ (pTok bt n pos).1 ∧ (pTok bt n pos).1 ≤ 10005 ∧ v = pF z (pTok bt n pos).1 ∧ z' = z) ∨ (10005 < (pTok bt n pos).1 ∧ bS z' (pTok bt n pos).2.1 ∧ pK z z')) := by
  refine XM.of (by decide) (Nat.le_of_ble_eq_true rfl) (fun xp xe xs xm xar xbl xme xc xD xcs xad xAA xCC xhr => ?_)
  generalize xhQ : MQ xbl _ xar xs 0 0 xAA = xQ
  show ww xp l xe (xRm (d + 3)) xs xm xar xbl xme xc 1 xD xcs xad shM xAA xQ 0 [(0, .ref 0)] [] z
  refine ww_blk xCC okX6_name 0 9 (ps := []) (pc' := 13) (lv' := [(0, .ref 0)]) (st' := [.int 0, .int 0, .int 0, .int 0, .int 109, .int 114, .int 97, .int 104, .ref 0]) (z' := z) rfl trivial ?_
  refine ww_callVIz xCC okX6_name 9 (ix := 195) (t_X6_isWord l d z bt n fr hgs.1 pos hgs.2.2.2.2.1 hgs.2.1 hgs.2.2.2.1 [104, 97, 114, 109] 10000 (by decide)) (by omega) (by decide) xyX6_isWord xiX6_isWord (Or.inl (lw_gt_of (List.mem_of_getElem? (i := 1024) (by decide +kernel)) rfl)) rfl rfl rfl (rest := []) rfl (Nat.le_of_ble_eq_true rfl) rfl (fun z1 h2 => ?_) (fun z1 h2 => ?_)
  · skip
    rw [h2.2]
    have hs13 := h2.1
    refine ww_br xCC okX6_name 10 (P := 1 = 0) (t1 := 24) (t2 := 19) (r := []) rfl (fun q => absurd q (by decide)) (fun _ => ?_)
    refine ww_blk xCC okX6_name 11 2 (ps := []) (pc' := 23) (lv' := [(0, .ref 0)]) (st' := [.int (z.1 0 16)]) (z' := z) rfl trivial ?_
    subst xhQ
    exact ww_iret xCC okX6_name 13 xhr rfl rfl ⟨_, rfl, (Or.inl ⟨(by rw [hs13]; decide), (by rw [hs13]; decide), (by rw [hs13]; rfl), rfl⟩)⟩
  · skip
    rw [h2.2]
    have hs13 := h2.1
    refine ww_br xCC okX6_name 10 (P := 0 = 0) (t1 := 24) (t2 := 19) (r := []) rfl (fun _ => ?_) (fun q => absurd (by decide) q)
    refine ww_blk xCC okX6_name 14 9 (ps := []) (pc' := 37) (lv' := [(0, .ref 0)]) (st' := [.int 0, .int 0, .int 0, .int 0, .int 115, .int 119, .int 97, .int 108, .ref 0]) (z' := z) rfl trivial ?_
    refine ww_callVIz xCC okX6_name 23 (ix := 195) (t_X6_isWord l d z bt n fr hgs.1 pos hgs.2.2.2.2.1 hgs.2.1 hgs.2.2.2.1 [108, 97, 119, 115] 10001 (by decide)) (by omega) (by decide) xyX6_isWord xiX6_isWord (Or.inl (lw_gt_of (List.mem_of_getElem? (i := 1024) (by decide +kernel)) rfl)) rfl rfl rfl (rest := []) rfl (Nat.le_of_ble_eq_true rfl) rfl (fun z5 h6 => ?_) (fun z5 h6 => ?_)
    · skip
      rw [h6.2]
      have hs37 := h6.1
      refine ww_br xCC okX6_name 24 (P := 1 = 0) (t1 := 48) (t2 := 43) (r := []) rfl (fun q => absurd q (by decide)) (fun _ => ?_)
      refine ww_blk xCC okX6_name 25 2 (ps := []) (pc' := 47) (lv' := [(0, .ref 0)]) (st' := [.int (z.1 0 17)]) (z' := z) rfl trivial ?_
      subst xhQ
      exact ww_iret xCC okX6_name 27 xhr rfl rfl ⟨_, rfl, (Or.inl ⟨(by rw [hs37]; decide), (by rw [hs37]; decide), (by rw [hs37]; rfl), rfl⟩)⟩
    · skip
      rw [h6.2]
      have hs37 := h6.1
      refine ww_br xCC okX6_name 24 (P := 0 = 0) (t1 := 48) (t2 := 43) (r := []) rfl (fun _ => ?_) (fun q => absurd (by decide) q)
      refine ww_blk xCC okX6_name 28 9 (ps := []) (pc' := 63) (lv' := [(0, .ref 0)]) (st' := [.int 0, .int 0, .int 114, .int 101, .int 98, .int 109, .int 117, .int 110, .ref 0]) (z' := z) rfl trivial ?_
      refine ww_callVIz xCC okX6_name 37 (ix := 195) (t_X6_isWord l d z bt n fr hgs.1 pos hgs.2.2.2.2.1 hgs.2.1 hgs.2.2.2.1 [110, 117, 109, 98, 101, 114] 10002 (by decide)) (by omega) (by decide) xyX6_isWord xiX6_isWord (Or.inl (lw_gt_of (List.mem_of_getElem? (i := 1024) (by decide +kernel)) rfl)) rfl rfl rfl (rest := []) rfl (Nat.le_of_ble_eq_true rfl) rfl (fun z9 h10 => ?_) (fun z9 h10 => ?_)
      · skip
        rw [h10.2]
        have hs63 := h10.1
        refine ww_br xCC okX6_name 38 (P := 1 = 0) (t1 := 74) (t2 := 69) (r := []) rfl (fun q => absurd q (by decide)) (fun _ => ?_)
        refine ww_blk xCC okX6_name 39 2 (ps := []) (pc' := 73) (lv' := [(0, .ref 0)]) (st' := [.int (z.1 0 18)]) (z' := z) rfl trivial ?_
        subst xhQ
        exact ww_iret xCC okX6_name 41 xhr rfl rfl ⟨_, rfl, (Or.inl ⟨(by rw [hs63]; decide), (by rw [hs63]; decide), (by rw [hs63]; rfl), rfl⟩)⟩
      · skip
        rw [h10.2]
        have hs63 := h10.1
        refine ww_br xCC okX6_name 38 (P := 0 = 0) (t1 := 74) (t2 := 69) (r := []) rfl (fun _ => ?_) (fun q => absurd (by decide) q)
        refine ww_blk xCC okX6_name 42 9 (ps := []) (pc' := 87) (lv' := [(0, .ref 0)]) (st' := [.int 0, .int 0, .int 0, .int 0, .int 114, .int 97, .int 101, .int 121, .ref 0]) (z' := z) rfl trivial ?_
        refine ww_callVIz xCC okX6_name 51 (ix := 195) (t_X6_isWord l d z bt n fr hgs.1 pos hgs.2.2.2.2.1 hgs.2.1 hgs.2.2.2.1 [121, 101, 97, 114] 10003 (by decide)) (by omega) (by decide) xyX6_isWord xiX6_isWord (Or.inl (lw_gt_of (List.mem_of_getElem? (i := 1024) (by decide +kernel)) rfl)) rfl rfl rfl (rest := []) rfl (Nat.le_of_ble_eq_true rfl) rfl (fun z13 h14 => ?_) (fun z13 h14 => ?_)
        · skip
          rw [h14.2]
          have hs87 := h14.1
          refine ww_br xCC okX6_name 52 (P := 1 = 0) (t1 := 98) (t2 := 93) (r := []) rfl (fun q => absurd q (by decide)) (fun _ => ?_)
          refine ww_blk xCC okX6_name 53 2 (ps := []) (pc' := 97) (lv' := [(0, .ref 0)]) (st' := [.int (z.1 0 19)]) (z' := z) rfl trivial ?_
          subst xhQ
          exact ww_iret xCC okX6_name 55 xhr rfl rfl ⟨_, rfl, (Or.inl ⟨(by rw [hs87]; decide), (by rw [hs87]; decide), (by rw [hs87]; rfl), rfl⟩)⟩
        · skip
          rw [h14.2]
          have hs87 := h14.1
          refine ww_br xCC okX6_name 52 (P := 0 = 0) (t1 := 98) (t2 := 93) (r := []) rfl (fun _ => ?_) (fun q => absurd (by decide) q)
          refine ww_blk xCC okX6_name 56 9 (ps := []) (pc' := 113) (lv' := [(0, .ref 0)]) (st' := [.int 0, .int 0, .int 100, .int 101, .int 118, .int 114, .int 101, .int 115, .ref 0]) (z' := z) rfl trivial ?_
          refine ww_callVIz xCC okX6_name 65 (ix := 195) (t_X6_isWord l d z bt n fr hgs.1 pos hgs.2.2.2.2.1 hgs.2.1 hgs.2.2.2.1 [115, 101, 114, 118, 101, 100] 10004 (by decide)) (by omega) (by decide) xyX6_isWord xiX6_isWord (Or.inl (lw_gt_of (List.mem_of_getElem? (i := 1024) (by decide +kernel)) rfl)) rfl rfl rfl (rest := []) rfl (Nat.le_of_ble_eq_true rfl) rfl (fun z17 h18 => ?_) (fun z17 h18 => ?_)
          · skip
            rw [h18.2]
            have hs113 := h18.1
            refine ww_br xCC okX6_name 66 (P := 1 = 0) (t1 := 124) (t2 := 119) (r := []) rfl (fun q => absurd q (by decide)) (fun _ => ?_)
            refine ww_blk xCC okX6_name 67 2 (ps := []) (pc' := 123) (lv' := [(0, .ref 0)]) (st' := [.int (z.1 0 20)]) (z' := z) rfl trivial ?_
            subst xhQ
            exact ww_iret xCC okX6_name 69 xhr rfl rfl ⟨_, rfl, (Or.inl ⟨(by rw [hs113]; decide), (by rw [hs113]; decide), (by rw [hs113]; rfl), rfl⟩)⟩
          · skip
            rw [h18.2]
            have hs113 := h18.1
            refine ww_br xCC okX6_name 66 (P := 0 = 0) (t1 := 124) (t2 := 119) (r := []) rfl (fun _ => ?_) (fun q => absurd (by decide) q)
            refine ww_blk xCC okX6_name 70 9 (ps := []) (pc' := 138) (lv' := [(0, .ref 0)]) (st' := [.int 0, .int 0, .int 0, .int 101, .int 118, .int 105, .int 108, .int 97, .ref 0]) (z' := z) rfl trivial ?_
            refine ww_callVIz xCC okX6_name 79 (ix := 195) (t_X6_isWord l d z bt n fr hgs.1 pos hgs.2.2.2.2.1 hgs.2.1 hgs.2.2.2.1 [97, 108, 105, 118, 101] 10005 (by decide)) (by omega) (by decide) xyX6_isWord xiX6_isWord (Or.inl (lw_gt_of (List.mem_of_getElem? (i := 1024) (by decide +kernel)) rfl)) rfl rfl rfl (rest := []) rfl (Nat.le_of_ble_eq_true rfl) rfl (fun z21 h22 => ?_) (fun z21 h22 => ?_)
            · skip
              rw [h22.2]
              have hs138 := h22.1
              refine ww_br xCC okX6_name 80 (P := 1 = 0) (t1 := 149) (t2 := 144) (r := []) rfl (fun q => absurd q (by decide)) (fun _ => ?_)
              refine ww_blk xCC okX6_name 81 2 (ps := []) (pc' := 148) (lv' := [(0, .ref 0)]) (st' := [.int (z.1 0 21)]) (z' := z) rfl trivial ?_
              subst xhQ
              exact ww_iret xCC okX6_name 83 xhr rfl rfl ⟨_, rfl, (Or.inl ⟨(by rw [hs138]; decide), (by rw [hs138]; decide), (by rw [hs138]; rfl), rfl⟩)⟩
            · skip
              rw [h22.2]
              have hs138 := h22.1
              refine ww_br xCC okX6_name 80 (P := 0 = 0) (t1 := 149) (t2 := 144) (r := []) rfl (fun _ => ?_) (fun q => absurd (by decide) q)
              refine ww_blk xCC okX6_name 84 1 (ps := []) (pc' := 150) (lv' := [(0, .ref 0)]) (st' := [.ref 0]) (z' := z) rfl trivial ?_
              refine ww_callVIv xCC okX6_name 85 (ix := 189) (t_X6_fail_g l d z hgs.2.1) (by omega) (by decide) xyX6_fail xiX6_fail (Or.inl (lw_gt_of (List.mem_of_getElem? (i := 1036) (by decide +kernel)) rfl)) rfl rfl rfl (rest := []) rfl (Nat.le_of_ble_eq_true rfl) rfl (fun z25 h26 => ?_)
              rw [h26]
              have hBf : bS (mPut (mPut z 0 29 1) 0 30 (z.1 0 26)) (pTok bt n pos).2.1 := ⟨rfl, hgs.2.2.2.1.1⟩
              refine ww_blk xCC okX6_name 86 1 (ps := []) (pc' := 154) (lv' := [(0, .ref 0)]) (st' := [.int 0]) (z' := (mPut (mPut z 0 29 1) 0 30 (z.1 0 26))) rfl trivial ?_
              subst xhQ
              exact ww_iret xCC okX6_name 87 xhr rfl rfl ⟨_, rfl, (Or.inr ⟨(by have := (tkM_wd hgs.2.2.2.2.1 hgs.2.2.2.1 hw).1; omega), hBf, (pK_put (pK_put (pK_rf z) _ (by omega)) _ (by omega))⟩)⟩

set_option maxHeartbeats 4000000 in
set_option maxRecDepth 20000 in
theorem t_X6_atom (l : Launch) (d : Nat) (bt : Nat → Nat) (n fr : Nat) (f : Nat) (ihE : ∀ g, g < f → MC l bt n fr yX6_either cX6_either 3 0 g) (ihA : ∀ g, g < f → MC l bt n fr yX6_atom cX6_atom 2 6 g) (z : xMem) (o pos tag : Nat) (cs : List Nat) (p : Nat) (hgs : gS z bt n fr pos o) (hG : pG bt n f 6 o pos = (tag, cs, p)) (ht : tag ≠ 0) : XMi l (d + f + 5) yX6_atom cX6_atom 2 (some .int) shM [.ref 0] z (fun v z' => mR z z' bt n fr o tag cs p v) := by
  obtain ⟨g, rfl, hm⟩ := pG_min hG ht
  refine XM.of (by decide) (Nat.le_of_ble_eq_true rfl) (fun xp xe xs xm xar xbl xme xc xD xcs xad xAA xCC xhr => ?_)
  generalize xhQ : MQ xbl _ xar xs 0 0 xAA = xQ
  show ww xp l xe (xRm (d + (g + 1) + 5)) xs xm xar xbl xme xc 2 xD xcs xad shM xAA xQ 0 [(0, .ref 0)] [] z
  refine ww_blk xCC okX6_atom 0 4 (ps := []) (pc' := 5) (lv' := [(1, .int 0), (0, .ref 0)]) (st' := [.int 45, .ref 0]) (z' := z) rfl trivial ?_
  refine ww_callVIz xCC okX6_atom 4 (ix := 217) (t_X6_isSign l d z bt n pos hgs.1.2.2.2.1 hgs.2.1 hgs.2.2.2.1 45 (by decide)) (by omega) (by decide) xyX6_isSign xiX6_isSign (Or.inl (lw_gt_of (List.mem_of_getElem? (i := 1068) (by decide +kernel)) rfl)) rfl rfl rfl (rest := []) rfl (Nat.le_of_ble_eq_true rfl) rfl (fun z1 h2 => ?_) (fun z1 h2 => ?_)
  · skip
    rw [h2.2]
    have hs5 := h2.1
    refine ww_br xCC okX6_atom 5 (P := 1 = 0) (t1 := 37) (t2 := 11) (r := []) rfl (fun q => absurd q (by decide)) (fun _ => ?_)
    have hm1 := (hm.resolve_right (fun w => w.1 (hs5.trans (by decide)))).2
    refine ww_blk xCC okX6_atom 6 1 (ps := []) (pc' := 12) (lv' := [(1, .int 0), (0, .ref 0)]) (st' := [.ref 0]) (z' := z) rfl trivial ?_
    refine ww_callVIz xCC okX6_atom 7 (ix := 220) (t_X6_opens l d z bt n fr pos o hgs (by rw [hs5]; decide)) (by omega) (by decide) xyX6_opens xiX6_opens (Or.inl (lw_gt_of (List.mem_of_getElem? (i := 1052) (by decide +kernel)) rfl)) rfl rfl rfl (rest := []) rfl (Nat.le_of_ble_eq_true rfl) rfl (fun z4 h5 => ?_) (fun z4 h5 => ?_)
    · skip
      obtain ⟨ho12, hgo12, hK12⟩ := h5
      replace hK12 := pK_tr (pK_rf z) hK12
      refine ww_br xCC okX6_atom 8 (P := 1 = 0) (t1 := 161) (t2 := 18) (r := []) rfl (fun q => absurd q (by decide)) (fun _ => ?_)
      obtain ⟨-, t1, x1, p1, h1, ht1, hc1⟩ := hm1.resolve_left (fun w => absurd w.1 (by omega))
      refine ww_blk xCC okX6_atom 9 1 (ps := []) (pc' := 19) (lv' := [(1, .int 0), (0, .ref 0)]) (st' := [.ref 0]) (z' := z4) rfl trivial ?_
      refine ww_callVIi xCC okX6_atom 10 (ix := 224) (ihA g (by omega) d z4 (o + 1) (pTok bt n pos).2.2 t1 x1 p1 hgo12 h1 ht1) (by omega) (by decide) xyX6_atom xiX6_atom (Or.inl (lw_gt_of (List.mem_of_getElem? (i := 1064) (by decide +kernel)) rfl)) rfl rfl rfl (rest := []) rfl (Nat.le_of_ble_eq_true rfl) rfl (fun vA zA hA => ?_)
      obtain ⟨hK1, hA1⟩ := hA
      have hv5 : t1 = 1 → ∀ st, pEv (pF z) x1 st = vA :: st := fun w st => by
        rcases hA1 with ⟨-, -, q⟩ | ⟨q, -⟩
        · rw [← pEv_K hK12]; exact q st
        · omega
      replace hK1 := pK_tr hK12 hK1
      rcases hA1 with ⟨e1, hS1, -⟩ | ⟨e1, hB1⟩
      · skip
        replace hv5 := hv5 e1
        obtain ⟨k1, k2, k3⟩ := (hc1.resolve_left (fun w => absurd w.1 (by omega))).2
        refine ww_blk xCC okX6_atom 11 8 (ps := []) (pc' := 34) (lv' := [(1, .int (-vA)), (0, .ref 0)]) (st' := []) (z' := (mPut zA 0 28 ((zA.1 0 28) - 1))) rfl trivial ?_
        rw [hS1.2.2.1]
        rw [nI_pred o]
        have hgd : gS (mPut zA 0 28 (nI o)) bt n fr p1 o := ⟨pM_K (pK_put (pK_rf zA) _ (by omega)) hS1.1, hS1.2.1, rfl, tkM_K hS1.2.2.2.1 rfl rfl rfl rfl, hS1.2.2.2.2.1, hgs.2.2.2.2.2⟩
        refine ww_blk xCC okX6_atom 19 1 (ps := []) (pc' := 161) (lv' := [(1, .int (-vA)), (0, .ref 0)]) (st' := []) (z' := (mPut zA 0 28 (nI o))) rfl trivial ?_
        refine ww_blk xCC okX6_atom 80 1 (ps := []) (pc' := 162) (lv' := [(1, .int (-vA)), (0, .ref 0)]) (st' := [.int (-vA)]) (z' := (mPut zA 0 28 (nI o))) rfl trivial ?_
        subst xhQ
        exact ww_iret xCC okX6_atom 81 xhr rfl rfl ⟨_, rfl, ⟨(pK_put hK1 _ (by omega)), Or.inl ⟨k1, (by rw [k3]; exact hgd), fun st => (by rw [k2, pEv_app, hv5]; rfl)⟩⟩⟩
      · skip
        obtain ⟨htag, hp⟩ : tag = 2 ∧ p = p1 := by
          rcases hc1 with w | w
          · exact w.2
          · omega
        refine ww_blk xCC okX6_atom 11 8 (ps := []) (pc' := 34) (lv' := [(1, .int (-vA)), (0, .ref 0)]) (st' := []) (z' := (mPut zA 0 28 ((zA.1 0 28) - 1))) rfl trivial ?_
        refine ww_blk xCC okX6_atom 19 1 (ps := []) (pc' := 161) (lv' := [(1, .int (-vA)), (0, .ref 0)]) (st' := []) (z' := (mPut zA 0 28 ((zA.1 0 28) - 1))) rfl trivial ?_
        refine ww_blk xCC okX6_atom 80 1 (ps := []) (pc' := 162) (lv' := [(1, .int (-vA)), (0, .ref 0)]) (st' := [.int (-vA)]) (z' := (mPut zA 0 28 ((zA.1 0 28) - 1))) rfl trivial ?_
        subst xhQ
        exact ww_iret xCC okX6_atom 81 xhr rfl rfl ⟨_, rfl, ⟨(pK_put hK1 _ (by omega)), Or.inr ⟨htag, (by rw [hp]; exact hB1)⟩⟩⟩
    · skip
      obtain ⟨ho12, hBo12, hK12⟩ := h5
      replace hK12 := pK_tr (pK_rf z) hK12
      obtain ⟨-, htag, hp⟩ := hm1.resolve_right (fun w => absurd w.1 (by omega))
      refine ww_br xCC okX6_atom 8 (P := 0 = 0) (t1 := 161) (t2 := 18) (r := []) rfl (fun _ => ?_) (fun q => absurd (by decide) q)
      refine ww_blk xCC okX6_atom 80 1 (ps := []) (pc' := 162) (lv' := [(1, .int 0), (0, .ref 0)]) (st' := [.int 0]) (z' := z4) rfl trivial ?_
      subst xhQ
      exact ww_iret xCC okX6_atom 81 xhr rfl rfl ⟨_, rfl, ⟨hK12, Or.inr ⟨htag, (by rw [hp]; exact hBo12)⟩⟩⟩
  · skip
    rw [h2.2]
    have hs5 := h2.1
    refine ww_br xCC okX6_atom 5 (P := 0 = 0) (t1 := 37) (t2 := 11) (r := []) rfl (fun _ => ?_) (fun q => absurd (by decide) q)
    refine ww_blk xCC okX6_atom 20 2 (ps := []) (pc' := 40) (lv' := [(1, .int 0), (0, .ref 0)]) (st' := [.int 40, .ref 0]) (z' := z) rfl trivial ?_
    refine ww_callVIz xCC okX6_atom 22 (ix := 217) (t_X6_isSign l d z bt n pos hgs.1.2.2.2.1 hgs.2.1 hgs.2.2.2.1 40 (by decide)) (by omega) (by decide) xyX6_isSign xiX6_isSign (Or.inl (lw_gt_of (List.mem_of_getElem? (i := 1068) (by decide +kernel)) rfl)) rfl rfl rfl (rest := []) rfl (Nat.le_of_ble_eq_true rfl) rfl (fun z9 h10 => ?_) (fun z9 h10 => ?_)
    · skip
      rw [h10.2]
      have hs40 := h10.1
      refine ww_br xCC okX6_atom 23 (P := 1 = 0) (t1 := 95) (t2 := 46) (r := []) rfl (fun q => absurd q (by decide)) (fun _ => ?_)
      have hm7 := (hm.resolve_left (fun w => hs5 (w.1.trans (by decide)))).2
      obtain ⟨g7, rfl, h7⟩ := pG_one hm7 ht
      have hm1 := ((h7.resolve_left (fun w => by have q := w.1; rw [hs40] at q; exact absurd q (by decide))).resolve_right (fun w => w.2.1 (hs40.trans (by decide)))).2
      refine ww_blk xCC okX6_atom 24 1 (ps := []) (pc' := 47) (lv' := [(1, .int 0), (0, .ref 0)]) (st' := [.ref 0]) (z' := z) rfl trivial ?_
      refine ww_callVIz xCC okX6_atom 25 (ix := 220) (t_X6_opens l d z bt n fr pos o hgs (by rw [hs40]; decide)) (by omega) (by decide) xyX6_opens xiX6_opens (Or.inl (lw_gt_of (List.mem_of_getElem? (i := 1052) (by decide +kernel)) rfl)) rfl rfl rfl (rest := []) rfl (Nat.le_of_ble_eq_true rfl) rfl (fun z12 h13 => ?_) (fun z12 h13 => ?_)
      · skip
        obtain ⟨ho47, hgo47, hK47⟩ := h13
        replace hK47 := pK_tr (pK_rf z) hK47
        refine ww_br xCC okX6_atom 26 (P := 1 = 0) (t1 := 161) (t2 := 53) (r := []) rfl (fun q => absurd q (by decide)) (fun _ => ?_)
        obtain ⟨-, t1, x1, p1, h1, ht1, hc1⟩ := hm1.resolve_left (fun w => absurd w.1 (by omega))
        refine ww_blk xCC okX6_atom 27 1 (ps := []) (pc' := 54) (lv' := [(1, .int 0), (0, .ref 0)]) (st' := [.ref 0]) (z' := z12) rfl trivial ?_
        refine ww_callVIi xCC okX6_atom 28 (ix := 227) (ihE g7 (by omega) d z12 (o + 1) (pTok bt n pos).2.2 t1 x1 p1 hgo47 h1 ht1) (by omega) (by decide) xyX6_either xiX6_either (Or.inl (lw_gt_of (List.mem_of_getElem? (i := 1040) (by decide +kernel)) rfl)) rfl rfl rfl (rest := []) rfl (Nat.le_of_ble_eq_true rfl) rfl (fun vA zA hA => ?_)
        obtain ⟨hK1, hA1⟩ := hA
        have hv5 : t1 = 1 → ∀ st, pEv (pF z) x1 st = vA :: st := fun w st => by
          rcases hA1 with ⟨-, -, q⟩ | ⟨q, -⟩
          · rw [← pEv_K hK47]; exact q st
          · omega
        replace hK1 := pK_tr hK47 hK1
        rcases hA1 with ⟨e1, hS1, -⟩ | ⟨e1, hB1⟩
        · skip
          replace hv5 := hv5 e1
          have hc2 := (hc1.resolve_left (fun w => absurd w.1 (by omega))).2
          refine ww_blk xCC okX6_atom 29 3 (ps := []) (pc' := 61) (lv' := [(1, .int vA), (0, .ref 0)]) (st' := [.int 41, .ref 0]) (z' := zA) rfl trivial ?_
          refine ww_callVIz xCC okX6_atom 32 (ix := 217) (t_X6_isSign l d zA bt n p1 hS1.1.2.2.2.1 hS1.2.1 hS1.2.2.2.1 41 (by decide)) (by omega) (by decide) xyX6_isSign xiX6_isSign (Or.inl (lw_gt_of (List.mem_of_getElem? (i := 1068) (by decide +kernel)) rfl)) rfl rfl rfl (rest := []) rfl (Nat.le_of_ble_eq_true rfl) rfl (fun z15 h16 => ?_) (fun z15 h16 => ?_)
          · skip
            rw [h16.2]
            have hs61 := h16.1
            refine ww_br xCC okX6_atom 33 (P := 1 = 0) (t1 := 67) (t2 := 71) (r := []) rfl (fun q => absurd q (by decide)) (fun _ => ?_)
            obtain ⟨-, k1, k2, k3⟩ := hc2.resolve_right (fun w => w.1 (hs61.trans (by decide)))
            refine ww_blk xCC okX6_atom 36 6 (ps := []) (pc' := 81) (lv' := [(1, .int vA), (0, .ref 0)]) (st' := []) (z' := (mPut zA 0 28 ((zA.1 0 28) - 1))) rfl trivial ?_
            rw [hS1.2.2.1]
            rw [nI_pred o]
            have hgd : gS (mPut zA 0 28 (nI o)) bt n fr p1 o := ⟨pM_K (pK_put (pK_rf zA) _ (by omega)) hS1.1, hS1.2.1, rfl, tkM_K hS1.2.2.2.1 rfl rfl rfl rfl, hS1.2.2.2.2.1, hgs.2.2.2.2.2⟩
            refine ww_blk xCC okX6_atom 42 2 (ps := []) (pc' := 85) (lv' := [(1, .int vA), (0, .ref 0)]) (st' := [.int (zA.1 0 29)]) (z' := (mPut zA 0 28 (nI o))) rfl trivial ?_
            refine ww_br xCC okX6_atom 44 (P := (zA.1 0 29) = 0) (t1 := 88) (t2 := 161) (r := []) rfl (fun c18 => ?_) (fun c18 => absurd (hgd.2.1) c18)
            refine ww_blk xCC okX6_atom 45 1 (ps := []) (pc' := 89) (lv' := [(1, .int vA), (0, .ref 0)]) (st' := [.ref 0]) (z' := (mPut zA 0 28 (nI o))) rfl trivial ?_
            refine ww_callVIv xCC okX6_atom 46 (ix := 192) (t_X6_next l d (mPut zA 0 28 (nI o)) bt n fr hgd.1 (pTok bt n p1).2.2 (pTok_le hgd.2.2.2.2.1).1 (tkM_here hgd.2.2.2.1 (by rw [hs61]; decide))) (by omega) (by decide) xyX6_next xiX6_next (Or.inl (lw_gt_of (List.mem_of_getElem? (i := 1011) (by decide +kernel)) rfl)) rfl rfl rfl (rest := []) rfl (Nat.le_of_ble_eq_true rfl) rfl (fun z19 h20 => ?_)
            have hgN89 := gS_nx hgd.1 hgd.2.1 hgd.2.2.1 h20.1 h20.2 (pTok_le hgd.2.2.2.2.1).1 hgd.2.2.2.2.2
            have hKN89 := pK_tr (pK_put hK1 _ (by omega)) (pK4_K h20.1)
            refine ww_blk xCC okX6_atom 47 1 (ps := []) (pc' := 161) (lv' := [(1, .int vA), (0, .ref 0)]) (st' := []) (z' := z19) rfl trivial ?_
            refine ww_blk xCC okX6_atom 80 1 (ps := []) (pc' := 162) (lv' := [(1, .int vA), (0, .ref 0)]) (st' := [.int vA]) (z' := z19) rfl trivial ?_
            subst xhQ
            exact ww_iret xCC okX6_atom 81 xhr rfl rfl ⟨_, rfl, ⟨hKN89, Or.inl ⟨k1, (by rw [k3]; exact hgN89), fun st => (by rw [k2]; exact hv5 st)⟩⟩⟩
          · skip
            rw [h16.2]
            have hs61 := h16.1
            refine ww_br xCC okX6_atom 33 (P := 0 = 0) (t1 := 67) (t2 := 71) (r := []) rfl (fun _ => ?_) (fun q => absurd (by decide) q)
            refine ww_blk xCC okX6_atom 34 1 (ps := []) (pc' := 68) (lv' := [(1, .int vA), (0, .ref 0)]) (st' := [.ref 0]) (z' := zA) rfl trivial ?_
            refine ww_callVIv xCC okX6_atom 35 (ix := 189) (t_X6_fail_g l d zA hS1.2.1) (by omega) (by decide) xyX6_fail xiX6_fail (Or.inl (lw_gt_of (List.mem_of_getElem? (i := 1036) (by decide +kernel)) rfl)) rfl rfl rfl (rest := []) rfl (Nat.le_of_ble_eq_true rfl) rfl (fun z23 h24 => ?_)
            rw [h24]
            have hBf : bS (mPut (mPut zA 0 29 1) 0 30 (zA.1 0 26)) (pTok bt n p1).2.1 := ⟨rfl, hS1.2.2.2.1.1⟩
            obtain ⟨-, htag, hp⟩ := hc2.resolve_left (fun w => hs61 (w.1.trans (by decide)))
            refine ww_blk xCC okX6_atom 36 6 (ps := []) (pc' := 81) (lv' := [(1, .int vA), (0, .ref 0)]) (st' := []) (z' := (mPut (mPut (mPut zA 0 29 1) 0 30 (zA.1 0 26)) 0 28 ((zA.1 0 28) - 1))) rfl trivial ?_
            refine ww_blk xCC okX6_atom 42 2 (ps := []) (pc' := 85) (lv' := [(1, .int vA), (0, .ref 0)]) (st' := [.int 1]) (z' := (mPut (mPut (mPut zA 0 29 1) 0 30 (zA.1 0 26)) 0 28 ((zA.1 0 28) - 1))) rfl trivial ?_
            refine ww_br xCC okX6_atom 44 (P := 1 = 0) (t1 := 88) (t2 := 161) (r := []) rfl (fun q => absurd q (by decide)) (fun _ => ?_)
            refine ww_blk xCC okX6_atom 80 1 (ps := []) (pc' := 162) (lv' := [(1, .int vA), (0, .ref 0)]) (st' := [.int vA]) (z' := (mPut (mPut (mPut zA 0 29 1) 0 30 (zA.1 0 26)) 0 28 ((zA.1 0 28) - 1))) rfl trivial ?_
            subst xhQ
            exact ww_iret xCC okX6_atom 81 xhr rfl rfl ⟨_, rfl, ⟨(pK_put (pK_put (pK_put hK1 _ (by omega)) _ (by omega)) _ (by omega)), Or.inr ⟨htag, (by rw [hp]; exact hBf)⟩⟩⟩
        · skip
          obtain ⟨htag, hp⟩ : tag = 2 ∧ p = p1 := by
            rcases hc1 with w | w
            · exact w.2
            · omega
          refine ww_blk xCC okX6_atom 29 3 (ps := []) (pc' := 61) (lv' := [(1, .int vA), (0, .ref 0)]) (st' := [.int 41, .ref 0]) (z' := zA) rfl trivial ?_
          refine ww_callVIi xCC okX6_atom 32 (ix := 217) (t_X6_isSign_b l d zA hB1.1 41) (by omega) (by decide) xyX6_isSign xiX6_isSign (Or.inl (lw_gt_of (List.mem_of_getElem? (i := 1068) (by decide +kernel)) rfl)) rfl rfl rfl (rest := []) rfl (Nat.le_of_ble_eq_true rfl) rfl (fun v29 z27 h28 => ?_)
          rw [h28.1, h28.2]
          refine ww_br xCC okX6_atom 33 (P := 0 = 0) (t1 := 67) (t2 := 71) (r := []) rfl (fun _ => ?_) (fun q => absurd (by decide) q)
          refine ww_blk xCC okX6_atom 34 1 (ps := []) (pc' := 68) (lv' := [(1, .int vA), (0, .ref 0)]) (st' := [.ref 0]) (z' := zA) rfl trivial ?_
          refine ww_callVIv xCC okX6_atom 35 (ix := 189) (t_X6_fail_b l d zA hB1.1) (by omega) (by decide) xyX6_fail xiX6_fail (Or.inl (lw_gt_of (List.mem_of_getElem? (i := 1036) (by decide +kernel)) rfl)) rfl rfl rfl (rest := []) rfl (Nat.le_of_ble_eq_true rfl) rfl (fun z31 h32 => ?_)
          rw [h32]
          refine ww_blk xCC okX6_atom 36 6 (ps := []) (pc' := 81) (lv' := [(1, .int vA), (0, .ref 0)]) (st' := []) (z' := (mPut zA 0 28 ((zA.1 0 28) - 1))) rfl trivial ?_
          refine ww_blk xCC okX6_atom 42 2 (ps := []) (pc' := 85) (lv' := [(1, .int vA), (0, .ref 0)]) (st' := [.int (zA.1 0 29)]) (z' := (mPut zA 0 28 ((zA.1 0 28) - 1))) rfl trivial ?_
          refine ww_br xCC okX6_atom 44 (P := (zA.1 0 29) = 0) (t1 := 88) (t2 := 161) (r := []) rfl (fun c34 => absurd c34 (by rw [hB1.1]; decide)) (fun c34 => ?_)
          refine ww_blk xCC okX6_atom 80 1 (ps := []) (pc' := 162) (lv' := [(1, .int vA), (0, .ref 0)]) (st' := [.int vA]) (z' := (mPut zA 0 28 ((zA.1 0 28) - 1))) rfl trivial ?_
          subst xhQ
          exact ww_iret xCC okX6_atom 81 xhr rfl rfl ⟨_, rfl, ⟨(pK_put hK1 _ (by omega)), Or.inr ⟨htag, (by rw [hp]; exact hB1)⟩⟩⟩
      · skip
        obtain ⟨ho47, hBo47, hK47⟩ := h13
        replace hK47 := pK_tr (pK_rf z) hK47
        obtain ⟨-, htag, hp⟩ := hm1.resolve_right (fun w => absurd w.1 (by omega))
        refine ww_br xCC okX6_atom 26 (P := 0 = 0) (t1 := 161) (t2 := 53) (r := []) rfl (fun _ => ?_) (fun q => absurd (by decide) q)
        refine ww_blk xCC okX6_atom 80 1 (ps := []) (pc' := 162) (lv' := [(1, .int 0), (0, .ref 0)]) (st' := [.int 0]) (z' := z12) rfl trivial ?_
        subst xhQ
        exact ww_iret xCC okX6_atom 81 xhr rfl rfl ⟨_, rfl, ⟨hK47, Or.inr ⟨htag, (by rw [hp]; exact hBo47)⟩⟩⟩
    · skip
      rw [h10.2]
      have hs40 := h10.1
      refine ww_br xCC okX6_atom 23 (P := 0 = 0) (t1 := 95) (t2 := 46) (r := []) rfl (fun _ => ?_) (fun q => absurd (by decide) q)
      refine ww_blk xCC okX6_atom 48 2 (ps := []) (pc' := 99) (lv' := [(1, .int 0), (0, .ref 0)]) (st' := [.int (z.1 0 29)]) (z' := z) rfl trivial ?_
      refine ww_br xCC okX6_atom 50 (P := (z.1 0 29) = 0) (t1 := 102) (t2 := 123) (r := []) rfl (fun c37 => ?_) (fun c37 => absurd (hgs.2.1) c37)
      refine ww_blk xCC okX6_atom 51 3 (ps := []) (pc' := 107) (lv' := [(1, .int 0), (0, .ref 0)]) (st' := [.int 2, .int (z.1 0 25)]) (z' := z) rfl trivial ?_
      refine ww_br xCC okX6_atom 54 (P := (z.1 0 25) = 2) (t1 := 110) (t2 := 123) (r := []) rfl (fun c38 => ?_) (fun c38 => ?_)
      · skip
        have hnum := tkM_num hgs.2.2.2.1 c38
        have hm7 := (hm.resolve_left (fun w => hs5 (w.1.trans (by decide)))).2
        obtain ⟨g7, rfl, h7⟩ := pG_one hm7 ht
        obtain ⟨k1, k2, k3⟩ : tag = 1 ∧ cs = [(pTok bt n pos).1] ∧ p = (pTok bt n pos).2.2 := by
          have q9 := hnum.1
          rcases h7 with w | w | w
          · exact w.2
          · omega
          · omega
        refine ww_blk xCC okX6_atom 55 5 (ps := []) (pc' := 117) (lv' := [(1, .int ((z.2.1 0 27).toInt32)), (0, .ref 0)]) (st' := [.ref 0]) (z' := z) rfl trivial ?_
        refine ww_callVIv xCC okX6_atom 60 (ix := 192) (t_X6_next l d z bt n fr hgs.1 (pTok bt n pos).2.2 (pTok_le hgs.2.2.2.2.1).1 (tkM_here hgs.2.2.2.1 (by have := hnum.1; omega))) (by omega) (by decide) xyX6_next xiX6_next (Or.inl (lw_gt_of (List.mem_of_getElem? (i := 1011) (by decide +kernel)) rfl)) rfl rfl rfl (rest := []) rfl (Nat.le_of_ble_eq_true rfl) rfl (fun z39 h40 => ?_)
        have hgN117 := gS_nx hgs.1 hgs.2.1 hgs.2.2.1 h40.1 h40.2 (pTok_le hgs.2.2.2.2.1).1 hgs.2.2.2.2.2
        have hKN117 := pK_tr (pK_rf z) (pK4_K h40.1)
        refine ww_blk xCC okX6_atom 61 1 (ps := []) (pc' := 161) (lv' := [(1, .int ((z.2.1 0 27).toInt32)), (0, .ref 0)]) (st' := []) (z' := z39) rfl trivial ?_
        refine ww_blk xCC okX6_atom 80 1 (ps := []) (pc' := 162) (lv' := [(1, .int ((z.2.1 0 27).toInt32)), (0, .ref 0)]) (st' := [.int ((z.2.1 0 27).toInt32)]) (z' := z39) rfl trivial ?_
        subst xhQ
        exact ww_iret xCC okX6_atom 81 xhr rfl rfl ⟨_, rfl, ⟨hKN117, Or.inl ⟨k1, (by rw [k3]; exact hgN117), fun st => (by rw [k2, hnum.2, lN_i]; show pStep _ _ _ = _; unfold pStep; rw [if_pos (by have := hnum.1; omega), if_pos hnum.1])⟩⟩⟩
      · skip
        have hn0 := c38
        refine ww_blk xCC okX6_atom 62 2 (ps := []) (pc' := 127) (lv' := [(1, .int 0), (0, .ref 0)]) (st' := [.int (z.1 0 29)]) (z' := z) rfl trivial ?_
        refine ww_br xCC okX6_atom 64 (P := (z.1 0 29) = 0) (t1 := 130) (t2 := 157) (r := []) rfl (fun c42 => ?_) (fun c42 => absurd (hgs.2.1) c42)
        refine ww_blk xCC okX6_atom 65 3 (ps := []) (pc' := 135) (lv' := [(1, .int 0), (0, .ref 0)]) (st' := [.int 1, .int (z.1 0 25)]) (z' := z) rfl trivial ?_
        refine ww_br xCC okX6_atom 68 (P := (z.1 0 25) = 1) (t1 := 138) (t2 := 157) (r := []) rfl (fun c43 => ?_) (fun c43 => ?_)
        · skip
          have hw1 := c43
          have hm7 := (hm.resolve_left (fun w => hs5 (w.1.trans (by decide)))).2
          obtain ⟨g7, rfl, h7⟩ := pG_one hm7 ht
          have hwd := tkM_wd hgs.2.2.2.2.1 hgs.2.2.2.1 hw1
          refine ww_blk xCC okX6_atom 69 1 (ps := []) (pc' := 139) (lv' := [(1, .int 0), (0, .ref 0)]) (st' := [.ref 0]) (z' := z) rfl trivial ?_
          refine ww_callVIi xCC okX6_atom 70 (ix := 230) (t_X6_name l d z bt n fr pos o hgs hw1) (by omega) (by decide) xyX6_name xiX6_name (Or.inl (lw_gt_of (List.mem_of_getElem? (i := 1072) (by decide +kernel)) rfl)) rfl rfl rfl (rest := []) rfl (Nat.le_of_ble_eq_true rfl) rfl (fun vA zA hA => ?_)
          rcases hA with ⟨q1, q2, q3, q4⟩ | ⟨q1, hB1, hK1⟩
          · skip
            obtain ⟨k1, k2, k3⟩ : tag = 1 ∧ cs = [(pTok bt n pos).1] ∧ p = (pTok bt n pos).2.2 := by
              rcases h7 with w | w | w
              · exact w.2
              · exact absurd w.1 hwd.2
              · omega
            have hgz : gS zA bt n fr pos o := by rw [q4]; exact hgs
            have hK1 : pK z zA := by rw [q4]; exact pK_rf z
            refine ww_blk xCC okX6_atom 71 3 (ps := []) (pc' := 147) (lv' := [(1, .int vA), (0, .ref 0)]) (st' := [.int (zA.1 0 29)]) (z' := zA) rfl trivial ?_
            refine ww_br xCC okX6_atom 74 (P := (zA.1 0 29) = 0) (t1 := 150) (t2 := 161) (r := []) rfl (fun c44 => ?_) (fun c44 => absurd (hgz.2.1) c44)
            refine ww_blk xCC okX6_atom 75 1 (ps := []) (pc' := 151) (lv' := [(1, .int vA), (0, .ref 0)]) (st' := [.ref 0]) (z' := zA) rfl trivial ?_
            refine ww_callVIv xCC okX6_atom 76 (ix := 192) (t_X6_next l d zA bt n fr hgz.1 (pTok bt n pos).2.2 (pTok_le hgz.2.2.2.2.1).1 (tkM_here hgz.2.2.2.1 (by omega))) (by omega) (by decide) xyX6_next xiX6_next (Or.inl (lw_gt_of (List.mem_of_getElem? (i := 1011) (by decide +kernel)) rfl)) rfl rfl rfl (rest := []) rfl (Nat.le_of_ble_eq_true rfl) rfl (fun z45 h46 => ?_)
            have hgN151 := gS_nx hgz.1 hgz.2.1 hgz.2.2.1 h46.1 h46.2 (pTok_le hgz.2.2.2.2.1).1 hgz.2.2.2.2.2
            have hKN151 := pK_tr hK1 (pK4_K h46.1)
            refine ww_blk xCC okX6_atom 77 1 (ps := []) (pc' := 161) (lv' := [(1, .int vA), (0, .ref 0)]) (st' := []) (z' := z45) rfl trivial ?_
            refine ww_blk xCC okX6_atom 80 1 (ps := []) (pc' := 162) (lv' := [(1, .int vA), (0, .ref 0)]) (st' := [.int vA]) (z' := z45) rfl trivial ?_
            subst xhQ
            exact ww_iret xCC okX6_atom 81 xhr rfl rfl ⟨_, rfl, ⟨hKN151, Or.inl ⟨k1, (by rw [k3]; exact hgN151), fun st => (by rw [k2, q3]; show pStep _ _ _ = _; unfold pStep; rw [if_pos q2, if_neg (by omega)])⟩⟩⟩
          · skip
            obtain ⟨htag, hp⟩ : tag = 2 ∧ p = (pTok bt n pos).2.1 := by
              rcases h7 with w | w | w
              · omega
              · exact absurd w.1 hwd.2
              · exact w.2.2
            refine ww_blk xCC okX6_atom 71 3 (ps := []) (pc' := 147) (lv' := [(1, .int vA), (0, .ref 0)]) (st' := [.int (zA.1 0 29)]) (z' := zA) rfl trivial ?_
            refine ww_br xCC okX6_atom 74 (P := (zA.1 0 29) = 0) (t1 := 150) (t2 := 161) (r := []) rfl (fun c48 => absurd c48 (by rw [hB1.1]; decide)) (fun c48 => ?_)
            refine ww_blk xCC okX6_atom 80 1 (ps := []) (pc' := 162) (lv' := [(1, .int vA), (0, .ref 0)]) (st' := [.int vA]) (z' := zA) rfl trivial ?_
            subst xhQ
            exact ww_iret xCC okX6_atom 81 xhr rfl rfl ⟨_, rfl, ⟨hK1, Or.inr ⟨htag, (by rw [hp]; exact hB1)⟩⟩⟩
        · skip
          have hw0 := c43
          have hm7 := (hm.resolve_left (fun w => hs5 (w.1.trans (by decide)))).2
          obtain ⟨g7, rfl, h7⟩ := pG_one hm7 ht
          have hnon := tkM_non hgs.2.2.2.1 hw0 hn0
          obtain ⟨htag, hp⟩ : tag = 2 ∧ p = (pTok bt n pos).2.1 := by
            rcases h7 with w | w | w
            · omega
            · exact absurd (w.1.trans (by decide)) hs40
            · exact w.2.2
          refine ww_blk xCC okX6_atom 78 1 (ps := []) (pc' := 158) (lv' := [(1, .int 0), (0, .ref 0)]) (st' := [.ref 0]) (z' := z) rfl trivial ?_
          refine ww_callVIv xCC okX6_atom 79 (ix := 189) (t_X6_fail_g l d z hgs.2.1) (by omega) (by decide) xyX6_fail xiX6_fail (Or.inl (lw_gt_of (List.mem_of_getElem? (i := 1036) (by decide +kernel)) rfl)) rfl rfl rfl (rest := []) rfl (Nat.le_of_ble_eq_true rfl) rfl (fun z49 h50 => ?_)
          rw [h50]
          have hBf : bS (mPut (mPut z 0 29 1) 0 30 (z.1 0 26)) (pTok bt n pos).2.1 := ⟨rfl, hgs.2.2.2.1.1⟩
          refine ww_blk xCC okX6_atom 80 1 (ps := []) (pc' := 162) (lv' := [(1, .int 0), (0, .ref 0)]) (st' := [.int 0]) (z' := (mPut (mPut z 0 29 1) 0 30 (z.1 0 26))) rfl trivial ?_
          subst xhQ
          exact ww_iret xCC okX6_atom 81 xhr rfl rfl ⟨_, rfl, ⟨(pK_put (pK_put (pK_rf z) _ (by omega)) _ (by omega)), Or.inr ⟨htag, (by rw [hp]; exact hBf)⟩⟩⟩
end
section
/-! not of the model -/
set_option maxHeartbeats 4000000 in
set_option maxRecDepth 20000 in
theorem t_X6_not (l : Launch) (d : Nat) (bt : Nat → Nat) (n fr : Nat) (f : Nat) (ihN : ∀ g, g < f → MC l bt n fr yX6_not cX6_not 4 2 g) (ihA : ∀ g, g < f → MC l bt n fr yX6_added cX6_added 4 4 g) (z : xMem) (o pos tag : Nat) (cs : List Nat) (p : Nat) (hgs : gS z bt n fr pos o) (hG : pG bt n f 2 o pos = (tag, cs, p)) (ht : tag ≠ 0) : XMi l (d + f + 5) yX6_not cX6_not 4 (some .int) shM [.ref 0] z (fun v z' => mR z z' bt n fr o tag cs p v) := by
  obtain ⟨g, rfl, hm⟩ := pG_not hG ht
  refine XM.of (by decide) (Nat.le_of_ble_eq_true rfl) (fun xp xe xs xm xar xbl xme xc xD xcs xad xAA xCC xhr => ?_)
  generalize xhQ : MQ xbl _ xar xs 0 0 xAA = xQ
  show ww xp l xe (xRm (d + (g + 1) + 5)) xs xm xar xbl xme xc 4 xD xcs xad shM xAA xQ 0 [(0, .ref 0)] [] z
  refine ww_blk xCC okX6_not 0 9 (ps := []) (pc' := 12) (lv' := [(0, .ref 0)]) (st' := [.int 0, .int 0, .int 0, .int 0, .int 0, .int 116, .int 111, .int 110, .ref 0]) (z' := z) rfl trivial ?_
  refine ww_callVIz xCC okX6_not 9 (ix := 195) (t_X6_isWord l d z bt n fr hgs.1 pos hgs.2.2.2.2.1 hgs.2.1 hgs.2.2.2.1 [110, 111, 116] 10013 (by decide)) (by omega) (by decide) xyX6_isWord xiX6_isWord (Or.inl (lw_gt_of (List.mem_of_getElem? (i := 1024) (by decide +kernel)) rfl)) rfl rfl rfl (rest := []) rfl (Nat.le_of_ble_eq_true rfl) rfl (fun z1 h2 => ?_) (fun z1 h2 => ?_)
  · skip
    rw [h2.2]
    have hs12 := h2.1
    refine ww_br xCC okX6_not 10 (P := 1 = 0) (t1 := 52) (t2 := 18) (r := []) rfl (fun q => absurd q (by decide)) (fun _ => ?_)
    have hm1 := (hm.resolve_right (fun w => w.1 hs12)).2
    refine ww_blk xCC okX6_not 11 1 (ps := []) (pc' := 19) (lv' := [(0, .ref 0)]) (st' := [.ref 0]) (z' := z) rfl trivial ?_
    refine ww_callVIz xCC okX6_not 12 (ix := 220) (t_X6_opens l d z bt n fr pos o hgs (by rw [hs12]; decide)) (by omega) (by decide) xyX6_opens xiX6_opens (Or.inl (lw_gt_of (List.mem_of_getElem? (i := 1052) (by decide +kernel)) rfl)) rfl rfl rfl (rest := []) rfl (Nat.le_of_ble_eq_true rfl) rfl (fun z4 h5 => ?_) (fun z4 h5 => ?_)
    · skip
      obtain ⟨ho19, hgo19, hK19⟩ := h5
      replace hK19 := pK_tr (pK_rf z) hK19
      refine ww_br xCC okX6_not 13 (P := 1 = 0) (t1 := 25) (t2 := 27) (r := []) rfl (fun q => absurd q (by decide)) (fun _ => ?_)
      obtain ⟨-, t1, x1, p1, h1, ht1, hc1⟩ := hm1.resolve_left (fun w => absurd w.1 (by omega))
      refine ww_blk xCC okX6_not 16 1 (ps := []) (pc' := 28) (lv' := [(0, .ref 0)]) (st' := [.ref 0]) (z' := z4) rfl trivial ?_
      refine ww_callVIi xCC okX6_not 17 (ix := 237) (ihN g (by omega) d z4 (o + 1) (pTok bt n pos).2.2 t1 x1 p1 hgo19 h1 ht1) (by omega) (by decide) xyX6_not xiX6_not (Or.inl (lw_gt_of (List.mem_of_getElem? (i := 1048) (by decide +kernel)) rfl)) rfl rfl rfl (rest := []) rfl (Nat.le_of_ble_eq_true rfl) rfl (fun vA zA hA => ?_)
      obtain ⟨hK1, hA1⟩ := hA
      have hv5 : t1 = 1 → ∀ st, pEv (pF z) x1 st = vA :: st := fun w st => by
        rcases hA1 with ⟨-, -, q⟩ | ⟨q, -⟩
        · rw [← pEv_K hK19]; exact q st
        · omega
      replace hK1 := pK_tr hK19 hK1
      rcases hA1 with ⟨e1, hS1, -⟩ | ⟨e1, hB1⟩
      · skip
        replace hv5 := hv5 e1
        obtain ⟨k1, k2, k3⟩ := (hc1.resolve_left (fun w => absurd w.1 (by omega))).2
        refine ww_blk xCC okX6_not 18 7 (ps := []) (pc' := 42) (lv' := [(1, .int vA), (0, .ref 0)]) (st' := []) (z' := (mPut zA 0 28 ((zA.1 0 28) - 1))) rfl trivial ?_
        rw [hS1.2.2.1]
        rw [nI_pred o]
        have hgd : gS (mPut zA 0 28 (nI o)) bt n fr p1 o := ⟨pM_K (pK_put (pK_rf zA) _ (by omega)) hS1.1, hS1.2.1, rfl, tkM_K hS1.2.2.2.1 rfl rfl rfl rfl, hS1.2.2.2.2.1, hgs.2.2.2.2.2⟩
        refine ww_blk xCC okX6_not 25 1 (ps := []) (pc' := 43) (lv' := [(1, .int vA), (0, .ref 0)]) (st' := [.int vA]) (z' := (mPut zA 0 28 (nI o))) rfl trivial ?_
        refine ww_br xCC okX6_not 26 (P := vA = 0) (t1 := 46) (t2 := 50) (r := []) rfl (fun c7 => ?_) (fun c7 => ?_)
        · skip
          have hv0 := c7
          refine ww_blk xCC okX6_not 27 2 (ps := []) (pc' := 51) (lv' := [(1, .int vA), (0, .ref 0)]) (st' := [.int 1]) (z' := (mPut zA 0 28 (nI o))) rfl trivial ?_
          subst xhQ
          exact ww_iret xCC okX6_not 30 xhr rfl rfl ⟨_, rfl, ⟨(pK_put hK1 _ (by omega)), Or.inl ⟨k1, (by rw [k3]; exact hgd), fun st => (by rw [k2, pEv_app, hv5]; show (if vA = 0 then (1 : Int32) else 0) :: st = _; first | rw [if_pos hv0] | rw [if_neg hv0])⟩⟩⟩
        · skip
          have hv0 := c7
          refine ww_blk xCC okX6_not 29 1 (ps := []) (pc' := 51) (lv' := [(1, .int vA), (0, .ref 0)]) (st' := [.int 0]) (z' := (mPut zA 0 28 (nI o))) rfl trivial ?_
          subst xhQ
          exact ww_iret xCC okX6_not 30 xhr rfl rfl ⟨_, rfl, ⟨(pK_put hK1 _ (by omega)), Or.inl ⟨k1, (by rw [k3]; exact hgd), fun st => (by rw [k2, pEv_app, hv5]; show (if vA = 0 then (1 : Int32) else 0) :: st = _; first | rw [if_pos hv0] | rw [if_neg hv0])⟩⟩⟩
      · skip
        obtain ⟨htag, hp⟩ : tag = 2 ∧ p = p1 := by
          rcases hc1 with w | w
          · exact w.2
          · omega
        refine ww_blk xCC okX6_not 18 7 (ps := []) (pc' := 42) (lv' := [(1, .int vA), (0, .ref 0)]) (st' := []) (z' := (mPut zA 0 28 ((zA.1 0 28) - 1))) rfl trivial ?_
        refine ww_blk xCC okX6_not 25 1 (ps := []) (pc' := 43) (lv' := [(1, .int vA), (0, .ref 0)]) (st' := [.int vA]) (z' := (mPut zA 0 28 ((zA.1 0 28) - 1))) rfl trivial ?_
        refine ww_br xCC okX6_not 26 (P := vA = 0) (t1 := 46) (t2 := 50) (r := []) rfl (fun c8 => ?_) (fun c8 => ?_)
        · skip
          have hv0 := c8
          refine ww_blk xCC okX6_not 27 2 (ps := []) (pc' := 51) (lv' := [(1, .int vA), (0, .ref 0)]) (st' := [.int 1]) (z' := (mPut zA 0 28 ((zA.1 0 28) - 1))) rfl trivial ?_
          subst xhQ
          exact ww_iret xCC okX6_not 30 xhr rfl rfl ⟨_, rfl, ⟨(pK_put hK1 _ (by omega)), Or.inr ⟨htag, (by rw [hp]; exact hB1)⟩⟩⟩
        · skip
          have hv0 := c8
          refine ww_blk xCC okX6_not 29 1 (ps := []) (pc' := 51) (lv' := [(1, .int vA), (0, .ref 0)]) (st' := [.int 0]) (z' := (mPut zA 0 28 ((zA.1 0 28) - 1))) rfl trivial ?_
          subst xhQ
          exact ww_iret xCC okX6_not 30 xhr rfl rfl ⟨_, rfl, ⟨(pK_put hK1 _ (by omega)), Or.inr ⟨htag, (by rw [hp]; exact hB1)⟩⟩⟩
    · skip
      obtain ⟨ho19, hBo19, hK19⟩ := h5
      replace hK19 := pK_tr (pK_rf z) hK19
      obtain ⟨-, htag, hp⟩ := hm1.resolve_right (fun w => absurd w.1 (by omega))
      refine ww_br xCC okX6_not 13 (P := 0 = 0) (t1 := 25) (t2 := 27) (r := []) rfl (fun _ => ?_) (fun q => absurd (by decide) q)
      refine ww_blk xCC okX6_not 14 1 (ps := []) (pc' := 26) (lv' := [(0, .ref 0)]) (st' := [.int 0]) (z' := z4) rfl trivial ?_
      subst xhQ
      exact ww_iret xCC okX6_not 15 xhr rfl rfl ⟨_, rfl, ⟨hK19, Or.inr ⟨htag, (by rw [hp]; exact hBo19)⟩⟩⟩
  · skip
    rw [h2.2]
    have hs12 := h2.1
    refine ww_br xCC okX6_not 10 (P := 0 = 0) (t1 := 52) (t2 := 18) (r := []) rfl (fun _ => ?_) (fun q => absurd (by decide) q)
    have hm7 := (hm.resolve_left (fun w => hs12 w.1)).2
    obtain ⟨g7, t1, x1, p1, rfl, h1, ht1, hc1⟩ := pG_cmp hm7 ht
    refine ww_blk xCC okX6_not 31 1 (ps := []) (pc' := 53) (lv' := [(0, .ref 0)]) (st' := [.ref 0]) (z' := z) rfl trivial ?_
    refine ww_callVIi xCC okX6_not 32 (ix := 240) (ihA g7 (by omega) d z o pos t1 x1 p1 hgs h1 ht1) (by omega) (by decide) xyX6_added xiX6_added (Or.inl (lw_gt_of (List.mem_of_getElem? (i := 1056) (by decide +kernel)) rfl)) rfl rfl rfl (rest := []) rfl (Nat.le_of_ble_eq_true rfl) rfl (fun vA zA hA => ?_)
    obtain ⟨hK1, hA1⟩ := hA
    rcases hA1 with ⟨e1, hS1, hv5⟩ | ⟨e1, hB1⟩
    · skip
      have hc2 := (hc1.resolve_left (fun w => absurd w.1 (by omega))).2
      refine ww_blk xCC okX6_not 33 3 (ps := []) (pc' := 60) (lv' := [(1, .int vA), (0, .ref 0)]) (st' := [.int 60, .ref 0]) (z' := zA) rfl trivial ?_
      refine ww_callVIz xCC okX6_not 36 (ix := 217) (t_X6_isSign l d zA bt n p1 hS1.1.2.2.2.1 hS1.2.1 hS1.2.2.2.1 60 (by decide)) (by omega) (by decide) xyX6_isSign xiX6_isSign (Or.inl (lw_gt_of (List.mem_of_getElem? (i := 1068) (by decide +kernel)) rfl)) rfl rfl rfl (rest := []) rfl (Nat.le_of_ble_eq_true rfl) rfl (fun z11 h12 => ?_) (fun z11 h12 => ?_)
      · skip
        rw [h12.2]
        have hs60 := h12.1
        refine ww_br xCC okX6_not 37 (P := 1 = 0) (t1 := 66) (t2 := 77) (r := []) rfl (fun q => absurd q (by decide)) (fun _ => ?_)
        refine ww_blk xCC okX6_not 44 4 (ps := []) (pc' := 85) (lv' := [(1, .int vA), (0, .ref 0)]) (st' := [.int (lg_cmp (zA.2.1 0 27) 60)]) (z' := zA) rfl trivial ?_
        refine ww_br xCC okX6_not 48 (P := (lg_cmp (zA.2.1 0 27) 60) = 0) (t1 := 88) (t2 := 92) (r := []) rfl (fun c14 => ?_) (fun c14 => absurd ((lg_cmp_eq _ _).mpr (tkM_worth hS1.2.2.2.1 hS1.1.2.2.2.1 (c := 60) (by decide) hs60)) c14)
        refine ww_blk xCC okX6_not 49 2 (ps := []) (pc' := 93) (lv' := [(1, .int vA), (0, .ref 0)]) (st' := [.int 1]) (z' := zA) rfl trivial ?_
        refine ww_blk xCC okX6_not 52 1 (ps := []) (pc' := 94) (lv' := [(2, .int 1), (1, .int vA), (0, .ref 0)]) (st' := []) (z' := zA) rfl trivial ?_
        obtain ⟨-, t2, x2, p2, h2, ht2, hc3⟩ := hc2.resolve_left (fun w => w.1 (hs60.trans (by decide)))
        refine ww_blk xCC okX6_not 53 1 (ps := []) (pc' := 95) (lv' := [(2, .int 1), (1, .int vA), (0, .ref 0)]) (st' := [.ref 0]) (z' := zA) rfl trivial ?_
        refine ww_callVIv xCC okX6_not 54 (ix := 192) (t_X6_next l d zA bt n fr hS1.1 (pTok bt n p1).2.2 (pTok_le hS1.2.2.2.2.1).1 (tkM_here hS1.2.2.2.1 (by rw [hs60]; decide))) (by omega) (by decide) xyX6_next xiX6_next (Or.inl (lw_gt_of (List.mem_of_getElem? (i := 1011) (by decide +kernel)) rfl)) rfl rfl rfl (rest := []) rfl (Nat.le_of_ble_eq_true rfl) rfl (fun z15 h16 => ?_)
        have hgN95 := gS_nx hS1.1 hS1.2.1 hS1.2.2.1 h16.1 h16.2 (pTok_le hS1.2.2.2.2.1).1 hS1.2.2.2.2.2
        have hKN95 := pK_tr hK1 (pK4_K h16.1)
        refine ww_blk xCC okX6_not 55 1 (ps := []) (pc' := 99) (lv' := [(2, .int 1), (1, .int vA), (0, .ref 0)]) (st' := [.ref 0]) (z' := z15) rfl trivial ?_
        refine ww_callVIi xCC okX6_not 56 (ix := 240) (ihA g7 (by omega) d z15 o (pTok bt n p1).2.2 t2 x2 p2 hgN95 h2 ht2) (by omega) (by decide) xyX6_added xiX6_added (Or.inl (lw_gt_of (List.mem_of_getElem? (i := 1056) (by decide +kernel)) rfl)) rfl rfl rfl (rest := []) rfl (Nat.le_of_ble_eq_true rfl) rfl (fun vB zB hB => ?_)
        obtain ⟨hK4, hB1⟩ := hB
        have hv6 : t2 = 1 → ∀ st, pEv (pF z) x2 st = vB :: st := fun w st => by
          rcases hB1 with ⟨-, -, q⟩ | ⟨q, -⟩
          · rw [← pEv_K hKN95]; exact q st
          · omega
        replace hK4 := pK_tr hKN95 hK4
        rcases hB1 with ⟨e4, hS4, -⟩ | ⟨e4, hB4⟩
        · skip
          replace hv6 := hv6 e4
          obtain ⟨k1, k2, k3⟩ := (hc3.resolve_left (fun w => absurd w.1 (by omega))).2
          refine ww_blk xCC okX6_not 57 2 (ps := []) (pc' := 104) (lv' := [(3, .int vB), (2, .int 1), (1, .int vA), (0, .ref 0)]) (st' := [.int 1]) (z' := zB) rfl trivial ?_
          refine ww_br xCC okX6_not 59 (P := 1 = 0) (t1 := 115) (t2 := 107) (r := []) rfl (fun q => absurd q (by decide)) (fun _ => ?_)
          refine ww_blk xCC okX6_not 60 2 (ps := []) (pc' := 109) (lv' := [(3, .int vB), (2, .int 1), (1, .int vA), (0, .ref 0)]) (st' := [.int vB, .int vA]) (z' := zB) rfl trivial ?_
          refine ww_br xCC okX6_not 62 (P := vB ≤ vA) (t1 := 124) (t2 := 112) (r := []) rfl (fun c19 => ?_) (fun c19 => ?_)
          · skip
            have hcmp := c19
            refine ww_blk xCC okX6_not 69 1 (ps := []) (pc' := 125) (lv' := [(3, .int vB), (2, .int 1), (1, .int vA), (0, .ref 0)]) (st' := [.int 0]) (z' := zB) rfl trivial ?_
            subst xhQ
            exact ww_iret xCC okX6_not 70 xhr rfl rfl ⟨_, rfl, ⟨hK4, Or.inl ⟨k1, (by rw [k3]; exact hS4), fun st => (by rw [k2, pEv_app, hv5, pEv_app, hv6, show (pTok bt n p1).1 = 10008 from hs60.trans (by decide)]; show (if vA < vB then (1 : Int32) else 0) :: st = _; first | rw [if_neg (Int32.not_lt.mpr hcmp)] | rw [if_pos (Int32.not_le.mp hcmp)])⟩⟩⟩
          · skip
            have hcmp := c19
            refine ww_blk xCC okX6_not 63 1 (ps := []) (pc' := 120) (lv' := [(3, .int vB), (2, .int 1), (1, .int vA), (0, .ref 0)]) (st' := []) (z' := zB) rfl trivial ?_
            refine ww_blk xCC okX6_not 67 2 (ps := []) (pc' := 125) (lv' := [(3, .int vB), (2, .int 1), (1, .int vA), (0, .ref 0)]) (st' := [.int 1]) (z' := zB) rfl trivial ?_
            subst xhQ
            exact ww_iret xCC okX6_not 70 xhr rfl rfl ⟨_, rfl, ⟨hK4, Or.inl ⟨k1, (by rw [k3]; exact hS4), fun st => (by rw [k2, pEv_app, hv5, pEv_app, hv6, show (pTok bt n p1).1 = 10008 from hs60.trans (by decide)]; show (if vA < vB then (1 : Int32) else 0) :: st = _; first | rw [if_neg (Int32.not_lt.mpr hcmp)] | rw [if_pos (Int32.not_le.mp hcmp)])⟩⟩⟩
        · skip
          obtain ⟨htag, hp⟩ : tag = 2 ∧ p = p2 := by
            rcases hc3 with w | w
            · exact w.2
            · omega
          refine ww_blk xCC okX6_not 57 2 (ps := []) (pc' := 104) (lv' := [(3, .int vB), (2, .int 1), (1, .int vA), (0, .ref 0)]) (st' := [.int 1]) (z' := zB) rfl trivial ?_
          refine ww_br xCC okX6_not 59 (P := 1 = 0) (t1 := 115) (t2 := 107) (r := []) rfl (fun q => absurd q (by decide)) (fun _ => ?_)
          refine ww_blk xCC okX6_not 60 2 (ps := []) (pc' := 109) (lv' := [(3, .int vB), (2, .int 1), (1, .int vA), (0, .ref 0)]) (st' := [.int vB, .int vA]) (z' := zB) rfl trivial ?_
          refine ww_br xCC okX6_not 62 (P := vB ≤ vA) (t1 := 124) (t2 := 112) (r := []) rfl (fun c21 => ?_) (fun c21 => ?_)
          · skip
            have hcmp := c21
            refine ww_blk xCC okX6_not 69 1 (ps := []) (pc' := 125) (lv' := [(3, .int vB), (2, .int 1), (1, .int vA), (0, .ref 0)]) (st' := [.int 0]) (z' := zB) rfl trivial ?_
            subst xhQ
            exact ww_iret xCC okX6_not 70 xhr rfl rfl ⟨_, rfl, ⟨hK4, Or.inr ⟨htag, (by rw [hp]; exact hB4)⟩⟩⟩
          · skip
            have hcmp := c21
            refine ww_blk xCC okX6_not 63 1 (ps := []) (pc' := 120) (lv' := [(3, .int vB), (2, .int 1), (1, .int vA), (0, .ref 0)]) (st' := []) (z' := zB) rfl trivial ?_
            refine ww_blk xCC okX6_not 67 2 (ps := []) (pc' := 125) (lv' := [(3, .int vB), (2, .int 1), (1, .int vA), (0, .ref 0)]) (st' := [.int 1]) (z' := zB) rfl trivial ?_
            subst xhQ
            exact ww_iret xCC okX6_not 70 xhr rfl rfl ⟨_, rfl, ⟨hK4, Or.inr ⟨htag, (by rw [hp]; exact hB4)⟩⟩⟩
      · skip
        rw [h12.2]
        have hs60 := h12.1
        refine ww_br xCC okX6_not 37 (P := 0 = 0) (t1 := 66) (t2 := 77) (r := []) rfl (fun _ => ?_) (fun q => absurd (by decide) q)
        refine ww_blk xCC okX6_not 38 2 (ps := []) (pc' := 69) (lv' := [(1, .int vA), (0, .ref 0)]) (st' := [.int 61, .ref 0]) (z' := zA) rfl trivial ?_
        refine ww_callVIz xCC okX6_not 40 (ix := 217) (t_X6_isSign l d zA bt n p1 hS1.1.2.2.2.1 hS1.2.1 hS1.2.2.2.1 61 (by decide)) (by omega) (by decide) xyX6_isSign xiX6_isSign (Or.inl (lw_gt_of (List.mem_of_getElem? (i := 1068) (by decide +kernel)) rfl)) rfl rfl rfl (rest := []) rfl (Nat.le_of_ble_eq_true rfl) rfl (fun z23 h24 => ?_) (fun z23 h24 => ?_)
        · skip
          rw [h24.2]
          have hs69 := h24.1
          refine ww_br xCC okX6_not 41 (P := 1 = 0) (t1 := 75) (t2 := 77) (r := []) rfl (fun q => absurd q (by decide)) (fun _ => ?_)
          refine ww_blk xCC okX6_not 44 4 (ps := []) (pc' := 85) (lv' := [(1, .int vA), (0, .ref 0)]) (st' := [.int (lg_cmp (zA.2.1 0 27) 60)]) (z' := zA) rfl trivial ?_
          refine ww_br xCC okX6_not 48 (P := (lg_cmp (zA.2.1 0 27) 60) = 0) (t1 := 88) (t2 := 92) (r := []) rfl (fun c26 => absurd c26 (fun q9 => absurd (tkM_worth hS1.2.2.2.1 hS1.1.2.2.2.1 (c := 61) (by decide) hs69) (by rw [(lg_cmp_eq _ _).mp q9]; decide))) (fun c26 => ?_)
          refine ww_blk xCC okX6_not 51 2 (ps := []) (pc' := 94) (lv' := [(2, .int 0), (1, .int vA), (0, .ref 0)]) (st' := []) (z' := zA) rfl trivial ?_
          obtain ⟨-, t2, x2, p2, h2, ht2, hc3⟩ := hc2.resolve_left (fun w => w.2.1 (hs69.trans (by decide)))
          refine ww_blk xCC okX6_not 53 1 (ps := []) (pc' := 95) (lv' := [(2, .int 0), (1, .int vA), (0, .ref 0)]) (st' := [.ref 0]) (z' := zA) rfl trivial ?_
          refine ww_callVIv xCC okX6_not 54 (ix := 192) (t_X6_next l d zA bt n fr hS1.1 (pTok bt n p1).2.2 (pTok_le hS1.2.2.2.2.1).1 (tkM_here hS1.2.2.2.1 (by rw [hs69]; decide))) (by omega) (by decide) xyX6_next xiX6_next (Or.inl (lw_gt_of (List.mem_of_getElem? (i := 1011) (by decide +kernel)) rfl)) rfl rfl rfl (rest := []) rfl (Nat.le_of_ble_eq_true rfl) rfl (fun z27 h28 => ?_)
          have hgN95 := gS_nx hS1.1 hS1.2.1 hS1.2.2.1 h28.1 h28.2 (pTok_le hS1.2.2.2.2.1).1 hS1.2.2.2.2.2
          have hKN95 := pK_tr hK1 (pK4_K h28.1)
          refine ww_blk xCC okX6_not 55 1 (ps := []) (pc' := 99) (lv' := [(2, .int 0), (1, .int vA), (0, .ref 0)]) (st' := [.ref 0]) (z' := z27) rfl trivial ?_
          refine ww_callVIi xCC okX6_not 56 (ix := 240) (ihA g7 (by omega) d z27 o (pTok bt n p1).2.2 t2 x2 p2 hgN95 h2 ht2) (by omega) (by decide) xyX6_added xiX6_added (Or.inl (lw_gt_of (List.mem_of_getElem? (i := 1056) (by decide +kernel)) rfl)) rfl rfl rfl (rest := []) rfl (Nat.le_of_ble_eq_true rfl) rfl (fun vB zB hB => ?_)
          obtain ⟨hK4, hB1⟩ := hB
          have hv6 : t2 = 1 → ∀ st, pEv (pF z) x2 st = vB :: st := fun w st => by
            rcases hB1 with ⟨-, -, q⟩ | ⟨q, -⟩
            · rw [← pEv_K hKN95]; exact q st
            · omega
          replace hK4 := pK_tr hKN95 hK4
          rcases hB1 with ⟨e4, hS4, -⟩ | ⟨e4, hB4⟩
          · skip
            replace hv6 := hv6 e4
            obtain ⟨k1, k2, k3⟩ := (hc3.resolve_left (fun w => absurd w.1 (by omega))).2
            refine ww_blk xCC okX6_not 57 2 (ps := []) (pc' := 104) (lv' := [(3, .int vB), (2, .int 0), (1, .int vA), (0, .ref 0)]) (st' := [.int 0]) (z' := zB) rfl trivial ?_
            refine ww_br xCC okX6_not 59 (P := 0 = 0) (t1 := 115) (t2 := 107) (r := []) rfl (fun _ => ?_) (fun q => absurd (by decide) q)
            refine ww_blk xCC okX6_not 64 2 (ps := []) (pc' := 117) (lv' := [(3, .int vB), (2, .int 0), (1, .int vA), (0, .ref 0)]) (st' := [.int vB, .int vA]) (z' := zB) rfl trivial ?_
            refine ww_br xCC okX6_not 66 (P := vA = vB) (t1 := 120) (t2 := 124) (r := []) rfl (fun c31 => ?_) (fun c31 => ?_)
            · skip
              have hcmp := c31
              refine ww_blk xCC okX6_not 67 2 (ps := []) (pc' := 125) (lv' := [(3, .int vB), (2, .int 0), (1, .int vA), (0, .ref 0)]) (st' := [.int 1]) (z' := zB) rfl trivial ?_
              subst xhQ
              exact ww_iret xCC okX6_not 70 xhr rfl rfl ⟨_, rfl, ⟨hK4, Or.inl ⟨k1, (by rw [k3]; exact hS4), fun st => (by rw [k2, pEv_app, hv5, pEv_app, hv6, show (pTok bt n p1).1 = 10009 from hs69.trans (by decide)]; show (if vA = vB then (1 : Int32) else 0) :: st = _; first | rw [if_pos hcmp] | rw [if_neg hcmp])⟩⟩⟩
            · skip
              have hcmp := c31
              refine ww_blk xCC okX6_not 69 1 (ps := []) (pc' := 125) (lv' := [(3, .int vB), (2, .int 0), (1, .int vA), (0, .ref 0)]) (st' := [.int 0]) (z' := zB) rfl trivial ?_
              subst xhQ
              exact ww_iret xCC okX6_not 70 xhr rfl rfl ⟨_, rfl, ⟨hK4, Or.inl ⟨k1, (by rw [k3]; exact hS4), fun st => (by rw [k2, pEv_app, hv5, pEv_app, hv6, show (pTok bt n p1).1 = 10009 from hs69.trans (by decide)]; show (if vA = vB then (1 : Int32) else 0) :: st = _; first | rw [if_pos hcmp] | rw [if_neg hcmp])⟩⟩⟩
          · skip
            obtain ⟨htag, hp⟩ : tag = 2 ∧ p = p2 := by
              rcases hc3 with w | w
              · exact w.2
              · omega
            refine ww_blk xCC okX6_not 57 2 (ps := []) (pc' := 104) (lv' := [(3, .int vB), (2, .int 0), (1, .int vA), (0, .ref 0)]) (st' := [.int 0]) (z' := zB) rfl trivial ?_
            refine ww_br xCC okX6_not 59 (P := 0 = 0) (t1 := 115) (t2 := 107) (r := []) rfl (fun _ => ?_) (fun q => absurd (by decide) q)
            refine ww_blk xCC okX6_not 64 2 (ps := []) (pc' := 117) (lv' := [(3, .int vB), (2, .int 0), (1, .int vA), (0, .ref 0)]) (st' := [.int vB, .int vA]) (z' := zB) rfl trivial ?_
            refine ww_br xCC okX6_not 66 (P := vA = vB) (t1 := 120) (t2 := 124) (r := []) rfl (fun c33 => ?_) (fun c33 => ?_)
            · skip
              have hcmp := c33
              refine ww_blk xCC okX6_not 67 2 (ps := []) (pc' := 125) (lv' := [(3, .int vB), (2, .int 0), (1, .int vA), (0, .ref 0)]) (st' := [.int 1]) (z' := zB) rfl trivial ?_
              subst xhQ
              exact ww_iret xCC okX6_not 70 xhr rfl rfl ⟨_, rfl, ⟨hK4, Or.inr ⟨htag, (by rw [hp]; exact hB4)⟩⟩⟩
            · skip
              have hcmp := c33
              refine ww_blk xCC okX6_not 69 1 (ps := []) (pc' := 125) (lv' := [(3, .int vB), (2, .int 0), (1, .int vA), (0, .ref 0)]) (st' := [.int 0]) (z' := zB) rfl trivial ?_
              subst xhQ
              exact ww_iret xCC okX6_not 70 xhr rfl rfl ⟨_, rfl, ⟨hK4, Or.inr ⟨htag, (by rw [hp]; exact hB4)⟩⟩⟩
        · skip
          rw [h24.2]
          have hs69 := h24.1
          refine ww_br xCC okX6_not 41 (P := 0 = 0) (t1 := 75) (t2 := 77) (r := []) rfl (fun _ => ?_) (fun q => absurd (by decide) q)
          obtain ⟨-, -, k1, k2, k3⟩ := hc2.resolve_right (fun w => by
            rcases w.1 with q | q
            · exact hs60 (q.trans (by decide))
            · exact hs69 (q.trans (by decide)))
          refine ww_blk xCC okX6_not 42 1 (ps := []) (pc' := 76) (lv' := [(1, .int vA), (0, .ref 0)]) (st' := [.int vA]) (z' := zA) rfl trivial ?_
          subst xhQ
          exact ww_iret xCC okX6_not 43 xhr rfl rfl ⟨_, rfl, ⟨hK1, Or.inl ⟨k1, (by rw [k3]; exact hS1), fun st => (by rw [k2]; exact hv5 st)⟩⟩⟩
    · skip
      obtain ⟨htag, hp⟩ : tag = 2 ∧ p = p1 := by
        rcases hc1 with w | w
        · exact w.2
        · omega
      refine ww_blk xCC okX6_not 33 3 (ps := []) (pc' := 60) (lv' := [(1, .int vA), (0, .ref 0)]) (st' := [.int 60, .ref 0]) (z' := zA) rfl trivial ?_
      refine ww_callVIi xCC okX6_not 36 (ix := 217) (t_X6_isSign_b l d zA hB1.1 60) (by omega) (by decide) xyX6_isSign xiX6_isSign (Or.inl (lw_gt_of (List.mem_of_getElem? (i := 1068) (by decide +kernel)) rfl)) rfl rfl rfl (rest := []) rfl (Nat.le_of_ble_eq_true rfl) rfl (fun v37 z35 h36 => ?_)
      rw [h36.1, h36.2]
      refine ww_br xCC okX6_not 37 (P := 0 = 0) (t1 := 66) (t2 := 77) (r := []) rfl (fun _ => ?_) (fun q => absurd (by decide) q)
      refine ww_blk xCC okX6_not 38 2 (ps := []) (pc' := 69) (lv' := [(1, .int vA), (0, .ref 0)]) (st' := [.int 61, .ref 0]) (z' := zA) rfl trivial ?_
      refine ww_callVIi xCC okX6_not 40 (ix := 217) (t_X6_isSign_b l d zA hB1.1 61) (by omega) (by decide) xyX6_isSign xiX6_isSign (Or.inl (lw_gt_of (List.mem_of_getElem? (i := 1068) (by decide +kernel)) rfl)) rfl rfl rfl (rest := []) rfl (Nat.le_of_ble_eq_true rfl) rfl (fun v41 z39 h40 => ?_)
      rw [h40.1, h40.2]
      refine ww_br xCC okX6_not 41 (P := 0 = 0) (t1 := 75) (t2 := 77) (r := []) rfl (fun _ => ?_) (fun q => absurd (by decide) q)
      refine ww_blk xCC okX6_not 42 1 (ps := []) (pc' := 76) (lv' := [(1, .int vA), (0, .ref 0)]) (st' := [.int vA]) (z' := zA) rfl trivial ?_
      subst xhQ
      exact ww_iret xCC okX6_not 43 xhr rfl rfl ⟨_, rfl, ⟨hK1, Or.inr ⟨htag, (by rw [hp]; exact hB1)⟩⟩⟩

/-- all of them, at every fuel -/
theorem m_all (l : Launch) (bt : Nat → Nat) (n fr : Nat) : ∀ f, MC l bt n fr yX6_either cX6_either 3 0 f ∧ MC l bt n fr yX6_both cX6_both 3 1 f ∧ MC l bt n fr yX6_not cX6_not 4 2 f ∧ MC l bt n fr yX6_added cX6_added 4 4 f ∧ MC l bt n fr yX6_term cX6_term 2 5 f ∧ MC l bt n fr yX6_atom cX6_atom 2 6 f := by
  intro f
  induction f using Nat.strongRecOn with
  | ind f ih =>
    exact ⟨fun d z o pos tag cs p h1 h2 h3 => t_X6_either l d bt n fr f (fun g hg => (ih g hg).2.1) z o pos tag cs p h1 h2 h3,
      fun d z o pos tag cs p h1 h2 h3 => t_X6_both l d bt n fr f (fun g hg => (ih g hg).2.2.1) z o pos tag cs p h1 h2 h3,
      fun d z o pos tag cs p h1 h2 h3 => t_X6_not l d bt n fr f (fun g hg => (ih g hg).2.2.1) (fun g hg => (ih g hg).2.2.2.1) z o pos tag cs p h1 h2 h3,
      fun d z o pos tag cs p h1 h2 h3 => t_X6_added l d bt n fr f (fun g hg => (ih g hg).2.2.2.2.1) z o pos tag cs p h1 h2 h3,
      fun d z o pos tag cs p h1 h2 h3 => t_X6_term l d bt n fr f (fun g hg => (ih g hg).2.2.2.2.2) z o pos tag cs p h1 h2 h3,
      fun d z o pos tag cs p h1 h2 h3 => t_X6_atom l d bt n fr f (fun g hg => (ih g hg).1) (fun g hg => (ih g hg).2.2.2.2.2) z o pos tag cs p h1 h2 h3⟩
end
section
/-! a whole text -/
def pPt (bt : Nat → Nat) (n F key pos : Nat) : pRes := if (pTok bt n pos).1 = key then pSeq (pG bt n F 0 0 (pTok bt n pos).2.2) (fun cs p1 => if (pTok bt n p1).1 = 10020 then (1, cs, (pTok bt n p1).2.2) else (2, [], (pTok bt n p1).2.1)) else (2, [], (pTok bt n pos).2.1)
theorem pPt_ok (bt : Nat → Nat) (n F key pos : Nat) : pOk (pPt bt n F key pos) := by
  unfold pPt
  split
  · refine pSeq_ok (pG_ok bt n F 0 0 _) (fun _ _ => ?_)
    split
    · exact Or.inr (Or.inl rfl)
    · exact Or.inr (Or.inr rfl)
  · exact Or.inr (Or.inr rfl)
theorem pPt_key {bt : Nat → Nat} {n F key pos tag : Nat} {cs : List Nat} {p : Nat} (h : pPt bt n F key pos = (tag, cs, p)) (ht : tag ≠ 0) (hk : (pTok bt n pos).1 = key) : ∃ t1 x1 p1, pG bt n F 0 0 (pTok bt n pos).2.2 = (t1, x1, p1) ∧ t1 ≠ 0 ∧ ((t1 = 2 ∧ tag = 2 ∧ p = p1) ∨ (t1 = 1 ∧ (((pTok bt n p1).1 = 10020 ∧ tag = 1 ∧ cs = x1 ∧ p = (pTok bt n p1).2.2) ∨ ((pTok bt n p1).1 ≠ 10020 ∧ tag = 2 ∧ p = (pTok bt n p1).2.1)))) := by
  unfold pPt at h
  rw [if_pos hk] at h
  refine ⟨_, _, _, rfl, ?_⟩
  rcases pSeq_of (pG_ok bt n F 0 0 _) h ht with ⟨k1, k2, k3⟩ | ⟨k1, k2⟩
  · exact ⟨by omega, Or.inl ⟨k1, k2, k3⟩⟩
  · refine ⟨by omega, Or.inr ⟨k1, ?_⟩⟩
    split at k2
    · rename_i h4
      simp only [Prod.mk.injEq] at k2
      exact Or.inl ⟨h4, k2.1.symm, k2.2.1.symm, k2.2.2.symm⟩
    · rename_i h4
      simp only [Prod.mk.injEq] at k2
      exact Or.inr ⟨h4, k2.1.symm, k2.2.2.symm⟩
theorem pPt_no {bt : Nat → Nat} {n F key pos tag : Nat} {cs : List Nat} {p : Nat} (h : pPt bt n F key pos = (tag, cs, p)) (hk : (pTok bt n pos).1 ≠ key) : tag = 2 ∧ p = (pTok bt n pos).2.1 := by
  unfold pPt at h
  rw [if_neg hk] at h
  simp only [Prod.mk.injEq] at h
  exact ⟨h.1.symm, h.2.2.symm⟩
/-- a text: (1, the three parts' codes, _) or (2, _, the fault's place) -/
def pTx (bt : Nat → Nat) (n F : Nat) : Nat × (List Nat × List Nat × List Nat) × Nat :=
  if (pPt bt n F 10015 0).1 = 1 then (if (pPt bt n F 10016 (pPt bt n F 10015 0).2.2).1 = 1 then (if (pPt bt n F 10017 (pPt bt n F 10016 (pPt bt n F 10015 0).2.2).2.2).1 = 1 then
      (if (pTok bt n (pPt bt n F 10017 (pPt bt n F 10016 (pPt bt n F 10015 0).2.2).2.2).2.2).1 = 10021 then (1, ((pPt bt n F 10015 0).2.1, (pPt bt n F 10016 (pPt bt n F 10015 0).2.2).2.1, (pPt bt n F 10017 (pPt bt n F 10016 (pPt bt n F 10015 0).2.2).2.2).2.1), 0) else (2, ([], [], []), (pTok bt n (pPt bt n F 10017 (pPt bt n F 10016 (pPt bt n F 10015 0).2.2).2.2).2.2).2.1))
    else ((pPt bt n F 10017 (pPt bt n F 10016 (pPt bt n F 10015 0).2.2).2.2).1, ([], [], []), (pPt bt n F 10017 (pPt bt n F 10016 (pPt bt n F 10015 0).2.2).2.2).2.2))
    else ((pPt bt n F 10016 (pPt bt n F 10015 0).2.2).1, ([], [], []), (pPt bt n F 10016 (pPt bt n F 10015 0).2.2).2.2))
  else ((pPt bt n F 10015 0).1, ([], [], []), (pPt bt n F 10015 0).2.2)
theorem pTx_of {bt : Nat → Nat} {n F tag : Nat} {c1 c2 c3 : List Nat} {p : Nat} (h : pTx bt n F = (tag, (c1, c2, c3), p)) (ht : tag ≠ 0) : ∃ t1 x1 p1, pPt bt n F 10015 0 = (t1, x1, p1) ∧ t1 ≠ 0 ∧ ((t1 = 2 ∧ tag = 2 ∧ p = p1) ∨ (t1 = 1 ∧ ∃ t2 x2 p2, pPt bt n F 10016 p1 = (t2, x2, p2) ∧ t2 ≠ 0 ∧ ((t2 = 2 ∧ tag = 2 ∧ p = p2) ∨ (t2 = 1 ∧ ∃ t3 x3 p3, pPt bt n F 10017 p2 = (t3, x3, p3) ∧ t3 ≠ 0 ∧ ((t3 = 2 ∧ tag = 2 ∧ p = p3) ∨ (t3 = 1 ∧ (((pTok bt n p3).1 = 10021 ∧ tag = 1 ∧ c1 = x1 ∧ c2 = x2 ∧ c3 = x3) ∨ ((pTok bt n p3).1 ≠ 10021 ∧ tag = 2 ∧ p = (pTok bt n p3).2.1)))))))) := by
  unfold pTx at h
  have o1 := pPt_ok bt n F 10015 0
  obtain ⟨t1, x1, p1, h1⟩ : ∃ t1 x1 p1, pPt bt n F 10015 0 = (t1, x1, p1) := ⟨_, _, _, rfl⟩
  rw [h1] at h o1
  dsimp only at h
  have o2 := pPt_ok bt n F 10016 p1
  obtain ⟨t2, x2, p2, h2⟩ : ∃ t2 x2 p2, pPt bt n F 10016 p1 = (t2, x2, p2) := ⟨_, _, _, rfl⟩
  rw [h2] at h o2
  dsimp only at h
  have o3 := pPt_ok bt n F 10017 p2
  obtain ⟨t3, x3, p3, h3⟩ : ∃ t3 x3 p3, pPt bt n F 10017 p2 = (t3, x3, p3) := ⟨_, _, _, rfl⟩
  rw [h3] at h o3
  dsimp only at h
  have o1 : t1 = 0 ∨ t1 = 1 ∨ t1 = 2 := o1
  have o2 : t2 = 0 ∨ t2 = 1 ∨ t2 = 2 := o2
  have o3 : t3 = 0 ∨ t3 = 1 ∨ t3 = 2 := o3
  refine ⟨t1, x1, p1, h1, ?_⟩
  split at h
  · rename_i e1
    refine ⟨by omega, Or.inr ⟨e1, t2, x2, p2, h2, ?_⟩⟩
    split at h
    · rename_i e2
      refine ⟨by omega, Or.inr ⟨e2, t3, x3, p3, h3, ?_⟩⟩
      split at h
      · rename_i e3
        refine ⟨by omega, Or.inr ⟨e3, ?_⟩⟩
        split at h
        · rename_i h4
          simp only [Prod.mk.injEq] at h
          exact Or.inl ⟨h4, h.1.symm, h.2.1.1.symm, h.2.1.2.1.symm, h.2.1.2.2.symm⟩
        · rename_i h4
          simp only [Prod.mk.injEq] at h
          exact Or.inr ⟨h4, h.1.symm, h.2.2.symm⟩
      · rename_i e3
        simp only [Prod.mk.injEq] at h
        exact ⟨by omega, Or.inl ⟨by omega, by omega, h.2.2.symm⟩⟩
    · rename_i e2
      simp only [Prod.mk.injEq] at h
      exact ⟨by omega, Or.inl ⟨by omega, by omega, h.2.2.symm⟩⟩
  · rename_i e1
    simp only [Prod.mk.injEq] at h
    exact ⟨by omega, Or.inl ⟨by omega, by omega, h.2.2.symm⟩⟩
/-- nothing changed but what reading a text uses -/
def pK2 (z z' : xMem) : Prop := (∀ q, q ≠ 0 → z'.1 q = z.1 q) ∧ (∀ j, (j < 22 ∨ 30 < j) → z'.1 0 j = z.1 0 j)
theorem pK2_rf (z : xMem) : pK2 z z := ⟨fun _ _ => rfl, fun _ _ => rfl⟩
theorem pK2_put {a b : xMem} (h : pK2 a b) {j : Nat} (x : Int32) (hj : 22 ≤ j ∧ j ≤ 30) : pK2 a (mPut b 0 j x) := by
  refine ⟨fun q hq => ?_, fun i hi => ?_⟩
  · show (xUp b.1 0 (upd (b.1 0) j x)) q = _
    rw [xUp_ne hq]
    exact h.1 q hq
  · show (xUp b.1 0 (upd (b.1 0) j x)) 0 i = _
    rw [xUp_eq]
    show (if i = j then x else b.1 0 i) = _
    rw [if_neg (by omega)]
    exact h.2 i hi
theorem pK2_K {a b c : xMem} (h : pK2 a b) (h2 : pK b c) : pK2 a c := ⟨fun q hq => (h2.1 q hq).trans (h.1 q hq), fun j hj => (h2.2 j (by omega)).trans (h.2 j hj)⟩
theorem pF_K2 {z z' : xMem} (h : pK2 z z') : ∀ c, c ≤ 10005 → pF z' c = pF z c := fun c hc => h.2 _ (by omega)
theorem pStep_K2 {z z' : xMem} (h : pK2 z z') (c : Nat) (st : List Int32) : pStep (pF z') c st = pStep (pF z) c st := by
  unfold pStep
  split
  · split
    · rfl
    · rw [pF_K2 h _ (by omega)]
  · rfl
theorem pEv_K2 {z z' : xMem} (h : pK2 z z') : ∀ (cs : List Nat) (st : List Int32), pEv (pF z') cs st = pEv (pF z) cs st
  | [], st => rfl
  | c :: cs, st => by
    simp only [pEv]
    rw [pStep_K2 h, pEv_K2 h cs]
theorem tkM_end {z : xMem} {bt : Nat → Nat} {n pos : Nat} (h : tkM z bt n pos) : z.1 0 25 = 0 ↔ (pTok bt n pos).1 = 10021 := by
  rcases h.2 with q | q | q | q
  · rw [pTok_end (by rw [← pTok_a]; exact q.1)]
    exact ⟨fun _ => rfl, fun _ => q.2.1⟩
  · rw [q.2.2.1, pTok_word (pTok_a bt n pos).symm q.1 q.2.1]
    have := pWd_rng bt (pTok bt n pos).2.1 (pRun pLe bt n (pTok bt n pos).2.1)
    exact ⟨fun w => absurd w (by decide), fun w => by
      have w2 : pWd bt (pTok bt n pos).2.1 (pRun pLe bt n (pTok bt n pos).2.1) pWords = 10021 := w
      omega⟩
  · rcases q.2.2.2.1 with r | r
    · rw [r.2.1]
      exact ⟨fun w => absurd w (by decide), fun w => by omega⟩
    · rw [r.2]
      exact ⟨fun w => absurd w (by decide), fun w => by omega⟩
  · rcases q.2.2.2 with r | r
    · rw [r.2.1]
      have e2 := pTok_sig (pTok_a bt n pos).symm q.1 q.2.1 q.2.2.1
      have hr : ∀ k, pSg k ≠ 10021 := by
        intro k
        simp only [pSg]
        repeat' split
        all_goals omega
      exact ⟨fun w => absurd w (by decide), fun w => by rw [e2] at w; exact absurd w (hr _)⟩
    · rw [r.2]
      exact ⟨fun w => absurd w (by decide), fun w => by omega⟩
end
section
/-! part and read of the model -/
set_option maxHeartbeats 4000000 in
set_option maxRecDepth 20000 in
theorem t_X6_part1 (l : Launch) (d : Nat) (bt : Nat → Nat) (n fr : Nat) (F : Nat) (z : xMem) (pos tag key : Nat) (cs : List Nat) (p : Nat) (hgs : gS z bt n fr pos 0) (hP : pPt bt n F key pos = (tag, cs, p)) (ht : tag ≠ 0) (hk : (pTok bt n pos).1 = key) (hkn : key ≠ 10022) : XMi l (d + F + 6) yX6_part cX6_part 3 (some .int) shM [.ref 0, .int 1] z (fun v z' => mR z z' bt n fr 0 tag cs p v) := by
  refine XM.of (by decide) (Nat.le_of_ble_eq_true rfl) (fun xp xe xs xm xar xbl xme xc xD xcs xad xAA xCC xhr => ?_)
  generalize xhQ : MQ xbl _ xar xs 0 0 xAA = xQ
  show ww xp l xe (xRm (d + F + 6)) xs xm xar xbl xme xc 3 xD xcs xad shM xAA xQ 0 [(0, .ref 0), (1, .int 1)] [] z
  obtain ⟨t1, x1, p1, h1, ht1, hc1⟩ := pPt_key hP ht hk
  refine ww_blk xCC okX6_part 0 1 (ps := []) (pc' := 1) (lv' := [(0, .ref 0), (1, .int 1)]) (st' := [.int 1]) (z' := z) rfl trivial ?_
  refine ww_br xCC okX6_part 1 (P := 1 = 0) (t1 := 4) (t2 := 8) (r := []) rfl (fun q => absurd q (by decide)) (fun _ => ?_)
  refine ww_blk xCC okX6_part 4 2 (ps := []) (pc' := 12) (lv' := [(0, .ref 0), (1, .int 1)]) (st' := [.int (z.1 0 29)]) (z' := z) rfl trivial ?_
  refine ww_br xCC okX6_part 6 (P := (z.1 0 29) = 0) (t1 := 15) (t2 := 19) (r := []) rfl (fun c2 => ?_) (fun c2 => absurd (hgs.2.1) c2)
  refine ww_blk xCC okX6_part 7 1 (ps := []) (pc' := 16) (lv' := [(0, .ref 0), (1, .int 1)]) (st' := [.ref 0]) (z' := z) rfl trivial ?_
  refine ww_callVIv xCC okX6_part 8 (ix := 192) (t_X6_next l d z bt n fr hgs.1 (pTok bt n pos).2.2 (pTok_le hgs.2.2.2.2.1).1 (tkM_here hgs.2.2.2.1 (by rw [hk]; exact hkn))) (by omega) (by decide) xyX6_next xiX6_next (Or.inl (lw_gt_of (List.mem_of_getElem? (i := 1011) (by decide +kernel)) rfl)) rfl rfl rfl (rest := []) rfl (Nat.le_of_ble_eq_true rfl) rfl (fun z3 h4 => ?_)
  have hgN16 := gS_nx hgs.1 hgs.2.1 hgs.2.2.1 h4.1 h4.2 (pTok_le hgs.2.2.2.2.1).1 hgs.2.2.2.2.2
  have hKN16 := pK_tr (pK_rf z) (pK4_K h4.1)
  refine ww_blk xCC okX6_part 9 2 (ps := []) (pc' := 23) (lv' := [(0, .ref 0), (1, .int 1)]) (st' := [.int (z3.1 0 29)]) (z' := z3) rfl trivial ?_
  refine ww_br xCC okX6_part 11 (P := (z3.1 0 29) = 0) (t1 := 30) (t2 := 26) (r := []) rfl (fun c6 => ?_) (fun c6 => absurd (hgN16.2.1) c6)
  refine ww_blk xCC okX6_part 14 1 (ps := []) (pc' := 31) (lv' := [(0, .ref 0), (1, .int 1)]) (st' := [.ref 0]) (z' := z3) rfl trivial ?_
  refine ww_callVIi xCC okX6_part 15 (ix := 227) ((m_all l bt n fr F).1 d z3 0 ((pTok bt n pos).2.2) t1 x1 p1 hgN16 h1 ht1) (by omega) (by decide) xyX6_either xiX6_either (Or.inl (lw_gt_of (List.mem_of_getElem? (i := 1040) (by decide +kernel)) rfl)) rfl rfl rfl (rest := []) rfl (Nat.le_of_ble_eq_true rfl) rfl (fun vA zA hA => ?_)
  obtain ⟨hK1, hA1⟩ := hA
  have hv5 : t1 = 1 → ∀ st, pEv (pF z) x1 st = vA :: st := fun w st => by
    rcases hA1 with ⟨-, -, q⟩ | ⟨q, -⟩
    · rw [← pEv_K hKN16]; exact q st
    · omega
  replace hK1 := pK_tr hKN16 hK1
  rcases hA1 with ⟨e1, hS1, -⟩ | ⟨e1, hB1⟩
  · skip
    replace hv5 := hv5 e1
    have hc2 := (hc1.resolve_left (fun w => absurd w.1 (by omega))).2
    refine ww_blk xCC okX6_part 16 3 (ps := []) (pc' := 38) (lv' := [(2, .int vA), (0, .ref 0), (1, .int 1)]) (st' := [.int 59, .ref 0]) (z' := zA) rfl trivial ?_
    refine ww_callVIz xCC okX6_part 19 (ix := 217) (t_X6_isSign l d zA bt n p1 hS1.1.2.2.2.1 hS1.2.1 hS1.2.2.2.1 59 (by decide)) (by omega) (by decide) xyX6_isSign xiX6_isSign (Or.inl (lw_gt_of (List.mem_of_getElem? (i := 1068) (by decide +kernel)) rfl)) rfl rfl rfl (rest := []) rfl (Nat.le_of_ble_eq_true rfl) rfl (fun z7 h8 => ?_) (fun z7 h8 => ?_)
    · skip
      rw [h8.2]
      have hs38 := h8.1
      refine ww_br xCC okX6_part 20 (P := 1 = 0) (t1 := 44) (t2 := 48) (r := []) rfl (fun q => absurd q (by decide)) (fun _ => ?_)
      refine ww_blk xCC okX6_part 23 2 (ps := []) (pc' := 52) (lv' := [(2, .int vA), (0, .ref 0), (1, .int 1)]) (st' := [.int (zA.1 0 29)]) (z' := zA) rfl trivial ?_
      refine ww_br xCC okX6_part 25 (P := (zA.1 0 29) = 0) (t1 := 55) (t2 := 59) (r := []) rfl (fun c10 => ?_) (fun c10 => absurd (hS1.2.1) c10)
      obtain ⟨-, k1, k2, k3⟩ := hc2.resolve_right (fun w => w.1 (hs38.trans (by decide)))
      refine ww_blk xCC okX6_part 26 1 (ps := []) (pc' := 56) (lv' := [(2, .int vA), (0, .ref 0), (1, .int 1)]) (st' := [.ref 0]) (z' := zA) rfl trivial ?_
      refine ww_callVIv xCC okX6_part 27 (ix := 192) (t_X6_next l d zA bt n fr hS1.1 (pTok bt n p1).2.2 (pTok_le hS1.2.2.2.2.1).1 (tkM_here hS1.2.2.2.1 (by rw [hs38]; decide))) (by omega) (by decide) xyX6_next xiX6_next (Or.inl (lw_gt_of (List.mem_of_getElem? (i := 1011) (by decide +kernel)) rfl)) rfl rfl rfl (rest := []) rfl (Nat.le_of_ble_eq_true rfl) rfl (fun z11 h12 => ?_)
      have hgN56 := gS_nx hS1.1 hS1.2.1 hS1.2.2.1 h12.1 h12.2 (pTok_le hS1.2.2.2.2.1).1 hS1.2.2.2.2.2
      have hKN56 := pK_tr hK1 (pK4_K h12.1)
      refine ww_blk xCC okX6_part 28 1 (ps := []) (pc' := 60) (lv' := [(2, .int vA), (0, .ref 0), (1, .int 1)]) (st' := [.int vA]) (z' := z11) rfl trivial ?_
      subst xhQ
      exact ww_iret xCC okX6_part 29 xhr rfl rfl ⟨_, rfl, ⟨hKN56, Or.inl ⟨k1, (by rw [k3]; exact hgN56), fun st => (by rw [k2]; exact hv5 st)⟩⟩⟩
    · skip
      rw [h8.2]
      have hs38 := h8.1
      refine ww_br xCC okX6_part 20 (P := 0 = 0) (t1 := 44) (t2 := 48) (r := []) rfl (fun _ => ?_) (fun q => absurd (by decide) q)
      refine ww_blk xCC okX6_part 21 1 (ps := []) (pc' := 45) (lv' := [(2, .int vA), (0, .ref 0), (1, .int 1)]) (st' := [.ref 0]) (z' := zA) rfl trivial ?_
      refine ww_callVIv xCC okX6_part 22 (ix := 189) (t_X6_fail_g l d zA hS1.2.1) (by omega) (by decide) xyX6_fail xiX6_fail (Or.inl (lw_gt_of (List.mem_of_getElem? (i := 1036) (by decide +kernel)) rfl)) rfl rfl rfl (rest := []) rfl (Nat.le_of_ble_eq_true rfl) rfl (fun z15 h16 => ?_)
      rw [h16]
      have hBf : bS (mPut (mPut zA 0 29 1) 0 30 (zA.1 0 26)) (pTok bt n p1).2.1 := ⟨rfl, hS1.2.2.2.1.1⟩
      obtain ⟨-, htag, hp⟩ := hc2.resolve_left (fun w => hs38 (w.1.trans (by decide)))
      refine ww_blk xCC okX6_part 23 2 (ps := []) (pc' := 52) (lv' := [(2, .int vA), (0, .ref 0), (1, .int 1)]) (st' := [.int 1]) (z' := (mPut (mPut zA 0 29 1) 0 30 (zA.1 0 26))) rfl trivial ?_
      refine ww_br xCC okX6_part 25 (P := 1 = 0) (t1 := 55) (t2 := 59) (r := []) rfl (fun q => absurd q (by decide)) (fun _ => ?_)
      refine ww_blk xCC okX6_part 28 1 (ps := []) (pc' := 60) (lv' := [(2, .int vA), (0, .ref 0), (1, .int 1)]) (st' := [.int vA]) (z' := (mPut (mPut zA 0 29 1) 0 30 (zA.1 0 26))) rfl trivial ?_
      subst xhQ
      exact ww_iret xCC okX6_part 29 xhr rfl rfl ⟨_, rfl, ⟨(pK_put (pK_put hK1 _ (by omega)) _ (by omega)), Or.inr ⟨htag, (by rw [hp]; exact hBf)⟩⟩⟩
  · skip
    obtain ⟨htag, hp⟩ : tag = 2 ∧ p = p1 := by
      rcases hc1 with w | w
      · exact w.2
      · omega
    refine ww_blk xCC okX6_part 16 3 (ps := []) (pc' := 38) (lv' := [(2, .int vA), (0, .ref 0), (1, .int 1)]) (st' := [.int 59, .ref 0]) (z' := zA) rfl trivial ?_
    refine ww_callVIi xCC okX6_part 19 (ix := 217) (t_X6_isSign_b l d zA hB1.1 59) (by omega) (by decide) xyX6_isSign xiX6_isSign (Or.inl (lw_gt_of (List.mem_of_getElem? (i := 1068) (by decide +kernel)) rfl)) rfl rfl rfl (rest := []) rfl (Nat.le_of_ble_eq_true rfl) rfl (fun v21 z19 h20 => ?_)
    rw [h20.1, h20.2]
    refine ww_br xCC okX6_part 20 (P := 0 = 0) (t1 := 44) (t2 := 48) (r := []) rfl (fun _ => ?_) (fun q => absurd (by decide) q)
    refine ww_blk xCC okX6_part 21 1 (ps := []) (pc' := 45) (lv' := [(2, .int vA), (0, .ref 0), (1, .int 1)]) (st' := [.ref 0]) (z' := zA) rfl trivial ?_
    refine ww_callVIv xCC okX6_part 22 (ix := 189) (t_X6_fail_b l d zA hB1.1) (by omega) (by decide) xyX6_fail xiX6_fail (Or.inl (lw_gt_of (List.mem_of_getElem? (i := 1036) (by decide +kernel)) rfl)) rfl rfl rfl (rest := []) rfl (Nat.le_of_ble_eq_true rfl) rfl (fun z23 h24 => ?_)
    rw [h24]
    refine ww_blk xCC okX6_part 23 2 (ps := []) (pc' := 52) (lv' := [(2, .int vA), (0, .ref 0), (1, .int 1)]) (st' := [.int (zA.1 0 29)]) (z' := zA) rfl trivial ?_
    refine ww_br xCC okX6_part 25 (P := (zA.1 0 29) = 0) (t1 := 55) (t2 := 59) (r := []) rfl (fun c26 => absurd c26 (by rw [hB1.1]; decide)) (fun c26 => ?_)
    refine ww_blk xCC okX6_part 28 1 (ps := []) (pc' := 60) (lv' := [(2, .int vA), (0, .ref 0), (1, .int 1)]) (st' := [.int vA]) (z' := zA) rfl trivial ?_
    subst xhQ
    exact ww_iret xCC okX6_part 29 xhr rfl rfl ⟨_, rfl, ⟨hK1, Or.inr ⟨htag, (by rw [hp]; exact hB1)⟩⟩⟩

set_option maxHeartbeats 4000000 in
set_option maxRecDepth 20000 in
theorem t_X6_part0 (l : Launch) (d : Nat) (bt : Nat → Nat) (n fr : Nat) (z : xMem) (pos : Nat) (hgs : gS z bt n fr pos 0) : XMi l (d + 1) yX6_part cX6_part 3 (some .int) shM [.ref 0, .int 0] z (fun _ z' => bS z' (pTok bt n pos).2.1 ∧ pK z z') := by
  refine XM.of (by decide) (Nat.le_of_ble_eq_true rfl) (fun xp xe xs xm xar xbl xme xc xD xcs xad xAA xCC xhr => ?_)
  generalize xhQ : MQ xbl _ xar xs 0 0 xAA = xQ
  show ww xp l xe (xRm (d + 1)) xs xm xar xbl xme xc 3 xD xcs xad shM xAA xQ 0 [(0, .ref 0), (1, .int 0)] [] z
  refine ww_blk xCC okX6_part 0 1 (ps := []) (pc' := 1) (lv' := [(0, .ref 0), (1, .int 0)]) (st' := [.int 0]) (z' := z) rfl trivial ?_
  refine ww_br xCC okX6_part 1 (P := 0 = 0) (t1 := 4) (t2 := 8) (r := []) rfl (fun _ => ?_) (fun q => absurd (by decide) q)
  refine ww_blk xCC okX6_part 2 1 (ps := []) (pc' := 5) (lv' := [(0, .ref 0), (1, .int 0)]) (st' := [.ref 0]) (z' := z) rfl trivial ?_
  refine ww_callVIv xCC okX6_part 3 (ix := 189) (t_X6_fail_g l d z hgs.2.1) (by omega) (by decide) xyX6_fail xiX6_fail (Or.inl (lw_gt_of (List.mem_of_getElem? (i := 1036) (by decide +kernel)) rfl)) rfl rfl rfl (rest := []) rfl (Nat.le_of_ble_eq_true rfl) rfl (fun z2 h3 => ?_)
  rw [h3]
  have hBf : bS (mPut (mPut z 0 29 1) 0 30 (z.1 0 26)) (pTok bt n pos).2.1 := ⟨rfl, hgs.2.2.2.1.1⟩
  refine ww_blk xCC okX6_part 4 2 (ps := []) (pc' := 12) (lv' := [(0, .ref 0), (1, .int 0)]) (st' := [.int 1]) (z' := (mPut (mPut z 0 29 1) 0 30 (z.1 0 26))) rfl trivial ?_
  refine ww_br xCC okX6_part 6 (P := 1 = 0) (t1 := 15) (t2 := 19) (r := []) rfl (fun q => absurd q (by decide)) (fun _ => ?_)
  refine ww_blk xCC okX6_part 9 2 (ps := []) (pc' := 23) (lv' := [(0, .ref 0), (1, .int 0)]) (st' := [.int 1]) (z' := (mPut (mPut z 0 29 1) 0 30 (z.1 0 26))) rfl trivial ?_
  refine ww_br xCC okX6_part 11 (P := 1 = 0) (t1 := 30) (t2 := 26) (r := []) rfl (fun q => absurd q (by decide)) (fun _ => ?_)
  refine ww_blk xCC okX6_part 12 2 (ps := []) (pc' := 34) (lv' := [(0, .ref 0), (1, .int 0)]) (st' := [.int 0]) (z' := (mPut (mPut z 0 29 1) 0 30 (z.1 0 26))) rfl trivial ?_
  refine ww_blk xCC okX6_part 16 3 (ps := []) (pc' := 38) (lv' := [(2, .int 0), (0, .ref 0), (1, .int 0)]) (st' := [.int 59, .ref 0]) (z' := (mPut (mPut z 0 29 1) 0 30 (z.1 0 26))) rfl trivial ?_
  refine ww_callVIi xCC okX6_part 19 (ix := 217) (t_X6_isSign_b l d (mPut (mPut z 0 29 1) 0 30 (z.1 0 26)) hBf.1 59) (by omega) (by decide) xyX6_isSign xiX6_isSign (Or.inl (lw_gt_of (List.mem_of_getElem? (i := 1068) (by decide +kernel)) rfl)) rfl rfl rfl (rest := []) rfl (Nat.le_of_ble_eq_true rfl) rfl (fun v9 z7 h8 => ?_)
  rw [h8.1, h8.2]
  refine ww_br xCC okX6_part 20 (P := 0 = 0) (t1 := 44) (t2 := 48) (r := []) rfl (fun _ => ?_) (fun q => absurd (by decide) q)
  refine ww_blk xCC okX6_part 21 1 (ps := []) (pc' := 45) (lv' := [(2, .int 0), (0, .ref 0), (1, .int 0)]) (st' := [.ref 0]) (z' := (mPut (mPut z 0 29 1) 0 30 (z.1 0 26))) rfl trivial ?_
  refine ww_callVIv xCC okX6_part 22 (ix := 189) (t_X6_fail_b l d (mPut (mPut z 0 29 1) 0 30 (z.1 0 26)) hBf.1) (by omega) (by decide) xyX6_fail xiX6_fail (Or.inl (lw_gt_of (List.mem_of_getElem? (i := 1036) (by decide +kernel)) rfl)) rfl rfl rfl (rest := []) rfl (Nat.le_of_ble_eq_true rfl) rfl (fun z11 h12 => ?_)
  rw [h12]
  refine ww_blk xCC okX6_part 23 2 (ps := []) (pc' := 52) (lv' := [(2, .int 0), (0, .ref 0), (1, .int 0)]) (st' := [.int 1]) (z' := (mPut (mPut z 0 29 1) 0 30 (z.1 0 26))) rfl trivial ?_
  refine ww_br xCC okX6_part 25 (P := 1 = 0) (t1 := 55) (t2 := 59) (r := []) rfl (fun q => absurd q (by decide)) (fun _ => ?_)
  refine ww_blk xCC okX6_part 28 1 (ps := []) (pc' := 60) (lv' := [(2, .int 0), (0, .ref 0), (1, .int 0)]) (st' := [.int 0]) (z' := (mPut (mPut z 0 29 1) 0 30 (z.1 0 26))) rfl trivial ?_
  subst xhQ
  exact ww_iret xCC okX6_part 29 xhr rfl rfl ⟨_, rfl, ⟨hBf, (pK_put (pK_put (pK_rf z) _ (by omega)) _ (by omega))⟩⟩

set_option maxHeartbeats 4000000 in
set_option maxRecDepth 20000 in
theorem t_X6_read (l : Launch) (d : Nat) (bt : Nat → Nat) (n tt w F : Nat) (z : xMem) (tag : Nat) (y1 y2 y3 : List Nat) (p : Nat) (htt : tt < 6) (hw : w < 3) (hsz : z.1 2 tt = nI n) (hn : n ≤ 160) (hby : ∀ i, i < n → z.1 1 (160 * tt + i) = nI (bt i)) (hbt : ∀ i, bt i < 256) (hT : pTx bt n F = (tag, (y1, y2, y3), p)) (ht : tag ≠ 0) : XMi l (d + F + 7) yX6_read cX6_read 6 (some .int) shM [.ref 0, .int (nI tt), .int (nI w)] z (fun v z' => pK2 z z' ∧ ((tag = 1 ∧ z'.1 0 29 = 0 ∧ pEv (pF z) (if w = 0 then y1 else if w = 1 then y2 else y3) [] = [v]) ∨ (tag = 2 ∧ bS z' p))) := by
  refine XM.of (by decide) (Nat.le_of_ble_eq_true rfl) (fun xp xe xs xm xar xbl xme xc xD xcs xad xAA xCC xhr => ?_)
  generalize xhQ : MQ xbl _ xar xs 0 0 xAA = xQ
  show ww xp l xe (xRm (d + F + 7)) xs xm xar xbl xme xc 6 xD xcs xad shM xAA xQ 0 [(0, .ref 0), (1, .int (nI tt)), (2, .int (nI w))] [] z
  obtain ⟨t1, x1, p1, h1, ht1, hc1⟩ := pTx_of hT ht
  refine ww_blk xCC okX6_read 0 21 (ps := [vp_in (nI tt) 6, 0 = 0 ∨ 0 = 1]) (pc' := 35) (lv' := [(0, .ref 0), (1, .int (nI tt)), (2, .int (nI w))]) (st' := [.ref 0]) (z' := (mPut (mPut (mPut (mPut (mPut z 0 22 (160 * (nI tt))) 0 23 (z.1 2 (nI tt).toNatClampNeg)) 0 24 0) 0 28 0) 0 29 0)) rfl ⟨(vp_in_nI (by omega) (by decide)), (Or.inl rfl)⟩ ?_
  rw [sCL (n := tt) (by omega)]
  rw [show (160 : Int32) * nI tt = nI (160 * tt) from pk_mul 160 tt]
  rw [hsz]
  have hpm : pM (mPut (mPut (mPut (mPut (mPut z 0 22 (nI (160 * tt))) 0 23 (nI n)) 0 24 0) 0 28 0) 0 29 0) bt n (160 * tt) := ⟨rfl, rfl, hby, hbt, by omega, hn⟩
  have hKa : pK2 z (mPut (mPut (mPut (mPut (mPut z 0 22 (nI (160 * tt))) 0 23 (nI n)) 0 24 0) 0 28 0) 0 29 0) := (pK2_put (pK2_put (pK2_put (pK2_put (pK2_put (pK2_rf z) _ (by omega)) _ (by omega)) _ (by omega)) _ (by omega)) _ (by omega))
  refine ww_callVIv xCC okX6_read 21 (ix := 192) (t_X6_next l d (mPut (mPut (mPut (mPut (mPut z 0 22 (nI (160 * tt))) 0 23 (nI n)) 0 24 0) 0 28 0) 0 29 0) bt n (160 * tt) hpm 0 (Nat.zero_le _) rfl) (by omega) (by decide) xyX6_next xiX6_next (Or.inl (lw_gt_of (List.mem_of_getElem? (i := 1011) (by decide +kernel)) rfl)) rfl rfl rfl (rest := []) rfl (Nat.le_of_ble_eq_true rfl) rfl (fun z0 hN0 => ?_)
  have hg0 : gS z0 bt n (160 * tt) 0 0 := gS_nx hpm rfl rfl hN0.1 hN0.2 (Nat.zero_le _) (by decide)
  have hK0 : pK2 z z0 := pK2_K hKa (pK4_K hN0.1)
  have hKx : pK z0 z0 := pK_rf z0
  refine ww_blk xCC okX6_read 22 10 (ps := []) (pc' := 53) (lv' := [(0, .ref 0), (1, .int (nI tt)), (2, .int (nI w))]) (st' := [.int 0, .int 0, .int 0, .int 115, .int 101, .int 114, .int 97, .int 100, .ref 0, .ref 0]) (z' := z0) rfl trivial ?_
  refine ww_callVIz xCC okX6_read 32 (ix := 195) (t_X6_isWord l d z0 bt n (160 * tt) hg0.1 0 hg0.2.2.2.2.1 hg0.2.1 hg0.2.2.2.1 [100, 97, 114, 101, 115] 10015 (by decide)) (by omega) (by decide) xyX6_isWord xiX6_isWord (Or.inl (lw_gt_of (List.mem_of_getElem? (i := 1024) (by decide +kernel)) rfl)) rfl rfl rfl (rest := [.ref 0]) rfl (Nat.le_of_ble_eq_true rfl) rfl (fun z2 h3 => ?_) (fun z2 h3 => ?_)
  · skip
    rw [h3.2]
    have hs53 := h3.1
    refine ww_callVIi xCC okX6_read 33 (ix := 248) (t_X6_part1 l d bt n (160 * tt) F z0 0 t1 10015 x1 p1 hg0 h1 ht1 hs53 (by decide)) (by omega) (by decide) xyX6_part xiX6_part (Or.inl (lw_gt_of (List.mem_of_getElem? (i := 1032) (by decide +kernel)) rfl)) rfl rfl rfl (rest := []) rfl (Nat.le_of_ble_eq_true rfl) rfl (fun vA1 zA1 hA1 => ?_)
    obtain ⟨hK1, hR1⟩ := hA1
    have hv1 : t1 = 1 → ∀ st, pEv (pF z0) x1 st = vA1 :: st := fun w9 st => by
      rcases hR1 with ⟨-, -, q⟩ | ⟨q, -⟩
      · rw [← pEv_K hKx]; exact q st
      · omega
    replace hK1 := pK_tr hKx hK1
    rcases hR1 with ⟨e1, hS1, -⟩ | ⟨e1, hB1⟩
    · skip
      replace hv1 := hv1 e1
      obtain ⟨t2, x2, p2, h2, ht2, hc2⟩ := (hc1.resolve_left (fun w9 => absurd w9.1 (by omega))).2
      refine ww_blk xCC okX6_read 34 3 (ps := []) (pc' := 64) (lv' := [(3, .int vA1), (0, .ref 0), (1, .int (nI tt)), (2, .int (nI w))]) (st' := [.int (zA1.1 0 29)]) (z' := zA1) rfl trivial ?_
      refine ww_br xCC okX6_read 37 (P := (zA1.1 0 29) = 0) (t1 := 71) (t2 := 67) (r := []) rfl (fun c4 => ?_) (fun c4 => absurd (hS1.2.1) c4)
      refine ww_blk xCC okX6_read 40 10 (ps := []) (pc' := 86) (lv' := [(3, .int vA1), (0, .ref 0), (1, .int (nI tt)), (2, .int (nI w))]) (st' := [.int 0, .int 0, .int 0, .int 115, .int 109, .int 114, .int 97, .int 104, .ref 0, .ref 0]) (z' := zA1) rfl trivial ?_
      refine ww_callVIz xCC okX6_read 50 (ix := 195) (t_X6_isWord l d zA1 bt n (160 * tt) hS1.1 p1 hS1.2.2.2.2.1 hS1.2.1 hS1.2.2.2.1 [104, 97, 114, 109, 115] 10016 (by decide)) (by omega) (by decide) xyX6_isWord xiX6_isWord (Or.inl (lw_gt_of (List.mem_of_getElem? (i := 1024) (by decide +kernel)) rfl)) rfl rfl rfl (rest := [.ref 0]) rfl (Nat.le_of_ble_eq_true rfl) rfl (fun z5 h6 => ?_) (fun z5 h6 => ?_)
      · skip
        rw [h6.2]
        have hs86 := h6.1
        refine ww_callVIi xCC okX6_read 51 (ix := 248) (t_X6_part1 l d bt n (160 * tt) F zA1 p1 t2 10016 x2 p2 hS1 h2 ht2 hs86 (by decide)) (by omega) (by decide) xyX6_part xiX6_part (Or.inl (lw_gt_of (List.mem_of_getElem? (i := 1032) (by decide +kernel)) rfl)) rfl rfl rfl (rest := []) rfl (Nat.le_of_ble_eq_true rfl) rfl (fun vA2 zA2 hA2 => ?_)
        obtain ⟨hK2, hR2⟩ := hA2
        have hv2 : t2 = 1 → ∀ st, pEv (pF z0) x2 st = vA2 :: st := fun w9 st => by
          rcases hR2 with ⟨-, -, q⟩ | ⟨q, -⟩
          · rw [← pEv_K hK1]; exact q st
          · omega
        replace hK2 := pK_tr hK1 hK2
        rcases hR2 with ⟨e2, hS2, -⟩ | ⟨e2, hB2⟩
        · skip
          replace hv2 := hv2 e2
          obtain ⟨t3, x3, p3, h3, ht3, hc3⟩ := (hc2.resolve_left (fun w9 => absurd w9.1 (by omega))).2
          refine ww_blk xCC okX6_read 52 3 (ps := []) (pc' := 98) (lv' := [(4, .int vA2), (3, .int vA1), (0, .ref 0), (1, .int (nI tt)), (2, .int (nI w))]) (st' := [.int (zA2.1 0 29)]) (z' := zA2) rfl trivial ?_
          refine ww_br xCC okX6_read 55 (P := (zA2.1 0 29) = 0) (t1 := 105) (t2 := 101) (r := []) rfl (fun c7 => ?_) (fun c7 => absurd (hS2.2.1) c7)
          refine ww_blk xCC okX6_read 58 10 (ps := []) (pc' := 119) (lv' := [(4, .int vA2), (3, .int vA1), (0, .ref 0), (1, .int (nI tt)), (2, .int (nI w))]) (st' := [.int 0, .int 0, .int 0, .int 0, .int 115, .int 116, .int 105, .int 115, .ref 0, .ref 0]) (z' := zA2) rfl trivial ?_
          refine ww_callVIz xCC okX6_read 68 (ix := 195) (t_X6_isWord l d zA2 bt n (160 * tt) hS2.1 p2 hS2.2.2.2.2.1 hS2.2.1 hS2.2.2.2.1 [115, 105, 116, 115] 10017 (by decide)) (by omega) (by decide) xyX6_isWord xiX6_isWord (Or.inl (lw_gt_of (List.mem_of_getElem? (i := 1024) (by decide +kernel)) rfl)) rfl rfl rfl (rest := [.ref 0]) rfl (Nat.le_of_ble_eq_true rfl) rfl (fun z8 h9 => ?_) (fun z8 h9 => ?_)
          · skip
            rw [h9.2]
            have hs119 := h9.1
            refine ww_callVIi xCC okX6_read 69 (ix := 248) (t_X6_part1 l d bt n (160 * tt) F zA2 p2 t3 10017 x3 p3 hS2 h3 ht3 hs119 (by decide)) (by omega) (by decide) xyX6_part xiX6_part (Or.inl (lw_gt_of (List.mem_of_getElem? (i := 1032) (by decide +kernel)) rfl)) rfl rfl rfl (rest := []) rfl (Nat.le_of_ble_eq_true rfl) rfl (fun vA3 zA3 hA3 => ?_)
            obtain ⟨hK3, hR3⟩ := hA3
            have hv3 : t3 = 1 → ∀ st, pEv (pF z0) x3 st = vA3 :: st := fun w9 st => by
              rcases hR3 with ⟨-, -, q⟩ | ⟨q, -⟩
              · rw [← pEv_K hK2]; exact q st
              · omega
            replace hK3 := pK_tr hK2 hK3
            rcases hR3 with ⟨e3, hS3, -⟩ | ⟨e3, hB3⟩
            · skip
              replace hv3 := hv3 e3
              have hc4 := (hc3.resolve_left (fun w9 => absurd w9.1 (by omega))).2
              refine ww_blk xCC okX6_read 70 3 (ps := []) (pc' := 131) (lv' := [(5, .int vA3), (4, .int vA2), (3, .int vA1), (0, .ref 0), (1, .int (nI tt)), (2, .int (nI w))]) (st' := [.int (zA3.1 0 29)]) (z' := zA3) rfl trivial ?_
              refine ww_br xCC okX6_read 73 (P := (zA3.1 0 29) = 0) (t1 := 134) (t2 := 145) (r := []) rfl (fun c10 => ?_) (fun c10 => absurd (hS3.2.1) c10)
              refine ww_blk xCC okX6_read 74 2 (ps := []) (pc' := 138) (lv' := [(5, .int vA3), (4, .int vA2), (3, .int vA1), (0, .ref 0), (1, .int (nI tt)), (2, .int (nI w))]) (st' := [.int (zA3.1 0 25)]) (z' := zA3) rfl trivial ?_
              refine ww_br xCC okX6_read 76 (P := (zA3.1 0 25) = 0) (t1 := 145) (t2 := 141) (r := []) rfl (fun c11 => ?_) (fun c11 => ?_)
              · skip
                have htk := (tkM_end hS3.2.2.2.1).mp c11
                obtain ⟨-, k1, k2, k3, k4⟩ := hc4.resolve_right (fun w9 => w9.1 htk)
                refine ww_blk xCC okX6_read 79 1 (ps := []) (pc' := 146) (lv' := [(5, .int vA3), (4, .int vA2), (3, .int vA1), (0, .ref 0), (1, .int (nI tt)), (2, .int (nI w))]) (st' := [.int (nI w)]) (z' := zA3) rfl trivial ?_
                refine ww_br xCC okX6_read 80 (P := (nI w) = 0) (t1 := 149) (t2 := 153) (r := []) rfl (fun c12 => ?_) (fun c12 => ?_)
                · skip
                  replace c12 : w = 0 := (sEQ (a := w) (b := 0) (by omega) (by omega)).mp c12
                  have hw0 := c12
                  refine ww_blk xCC okX6_read 81 2 (ps := []) (pc' := 165) (lv' := [(5, .int vA3), (4, .int vA2), (3, .int vA1), (0, .ref 0), (1, .int (nI tt)), (2, .int (nI w))]) (st' := [.int vA1]) (z' := zA3) rfl trivial ?_
                  subst xhQ
                  exact ww_iret xCC okX6_read 89 xhr rfl rfl ⟨_, rfl, ⟨pK2_K hK0 hK3, Or.inl ⟨k1, hS3.2.1, (by rw [if_pos hw0, ← pEv_K2 hK0, k2]; exact hv1 [])⟩⟩⟩
                · skip
                  replace c12 : ¬ w = 0 := fun q => c12 ((sEQ (a := w) (b := 0) (by omega) (by omega)).mpr q)
                  have hw0 := c12
                  refine ww_blk xCC okX6_read 83 2 (ps := []) (pc' := 155) (lv' := [(5, .int vA3), (4, .int vA2), (3, .int vA1), (0, .ref 0), (1, .int (nI tt)), (2, .int (nI w))]) (st' := [.int 1, .int (nI w)]) (z' := zA3) rfl trivial ?_
                  refine ww_br xCC okX6_read 85 (P := (nI w) = 1) (t1 := 158) (t2 := 163) (r := []) rfl (fun c13 => ?_) (fun c13 => ?_)
                  · skip
                    replace c13 : w = 1 := (sEQ (a := w) (b := 1) (by omega) (by omega)).mp c13
                    have hw1 := c13
                    refine ww_blk xCC okX6_read 86 2 (ps := []) (pc' := 165) (lv' := [(5, .int vA3), (4, .int vA2), (3, .int vA1), (0, .ref 0), (1, .int (nI tt)), (2, .int (nI w))]) (st' := [.int vA2]) (z' := zA3) rfl trivial ?_
                    subst xhQ
                    exact ww_iret xCC okX6_read 89 xhr rfl rfl ⟨_, rfl, ⟨pK2_K hK0 hK3, Or.inl ⟨k1, hS3.2.1, (by rw [if_neg hw0, if_pos hw1, ← pEv_K2 hK0, k3]; exact hv2 [])⟩⟩⟩
                  · skip
                    replace c13 : ¬ w = 1 := fun q => c13 ((sEQ (a := w) (b := 1) (by omega) (by omega)).mpr q)
                    have hw1 := c13
                    refine ww_blk xCC okX6_read 88 1 (ps := []) (pc' := 165) (lv' := [(5, .int vA3), (4, .int vA2), (3, .int vA1), (0, .ref 0), (1, .int (nI tt)), (2, .int (nI w))]) (st' := [.int vA3]) (z' := zA3) rfl trivial ?_
                    subst xhQ
                    exact ww_iret xCC okX6_read 89 xhr rfl rfl ⟨_, rfl, ⟨pK2_K hK0 hK3, Or.inl ⟨k1, hS3.2.1, (by rw [if_neg hw0, if_neg hw1, ← pEv_K2 hK0, k4]; exact hv3 [])⟩⟩⟩
              · skip
                have htk : (pTok bt n p3).1 ≠ 10021 := fun q9 => c11 ((tkM_end hS3.2.2.2.1).mpr q9)
                refine ww_blk xCC okX6_read 77 1 (ps := []) (pc' := 142) (lv' := [(5, .int vA3), (4, .int vA2), (3, .int vA1), (0, .ref 0), (1, .int (nI tt)), (2, .int (nI w))]) (st' := [.ref 0]) (z' := zA3) rfl trivial ?_
                refine ww_callVIv xCC okX6_read 78 (ix := 189) (t_X6_fail_g l d zA3 hS3.2.1) (by omega) (by decide) xyX6_fail xiX6_fail (Or.inl (lw_gt_of (List.mem_of_getElem? (i := 1036) (by decide +kernel)) rfl)) rfl rfl rfl (rest := []) rfl (Nat.le_of_ble_eq_true rfl) rfl (fun z14 h15 => ?_)
                rw [h15]
                have hBf : bS (mPut (mPut zA3 0 29 1) 0 30 (zA3.1 0 26)) (pTok bt n p3).2.1 := ⟨rfl, hS3.2.2.2.1.1⟩
                obtain ⟨-, htag, hp⟩ := hc4.resolve_left (fun w9 => htk (w9.1))
                refine ww_blk xCC okX6_read 79 1 (ps := []) (pc' := 146) (lv' := [(5, .int vA3), (4, .int vA2), (3, .int vA1), (0, .ref 0), (1, .int (nI tt)), (2, .int (nI w))]) (st' := [.int (nI w)]) (z' := (mPut (mPut zA3 0 29 1) 0 30 (zA3.1 0 26))) rfl trivial ?_
                refine ww_br xCC okX6_read 80 (P := (nI w) = 0) (t1 := 149) (t2 := 153) (r := []) rfl (fun c17 => ?_) (fun c17 => ?_)
                · skip
                  replace c17 : w = 0 := (sEQ (a := w) (b := 0) (by omega) (by omega)).mp c17
                  have hw0 := c17
                  refine ww_blk xCC okX6_read 81 2 (ps := []) (pc' := 165) (lv' := [(5, .int vA3), (4, .int vA2), (3, .int vA1), (0, .ref 0), (1, .int (nI tt)), (2, .int (nI w))]) (st' := [.int vA1]) (z' := (mPut (mPut zA3 0 29 1) 0 30 (zA3.1 0 26))) rfl trivial ?_
                  subst xhQ
                  exact ww_iret xCC okX6_read 89 xhr rfl rfl ⟨_, rfl, ⟨pK2_K hK0 (pK_put (pK_put hK3 _ (by omega)) _ (by omega)), Or.inr ⟨htag, (by rw [hp]; exact hBf)⟩⟩⟩
                · skip
                  replace c17 : ¬ w = 0 := fun q => c17 ((sEQ (a := w) (b := 0) (by omega) (by omega)).mpr q)
                  have hw0 := c17
                  refine ww_blk xCC okX6_read 83 2 (ps := []) (pc' := 155) (lv' := [(5, .int vA3), (4, .int vA2), (3, .int vA1), (0, .ref 0), (1, .int (nI tt)), (2, .int (nI w))]) (st' := [.int 1, .int (nI w)]) (z' := (mPut (mPut zA3 0 29 1) 0 30 (zA3.1 0 26))) rfl trivial ?_
                  refine ww_br xCC okX6_read 85 (P := (nI w) = 1) (t1 := 158) (t2 := 163) (r := []) rfl (fun c18 => ?_) (fun c18 => ?_)
                  · skip
                    replace c18 : w = 1 := (sEQ (a := w) (b := 1) (by omega) (by omega)).mp c18
                    have hw1 := c18
                    refine ww_blk xCC okX6_read 86 2 (ps := []) (pc' := 165) (lv' := [(5, .int vA3), (4, .int vA2), (3, .int vA1), (0, .ref 0), (1, .int (nI tt)), (2, .int (nI w))]) (st' := [.int vA2]) (z' := (mPut (mPut zA3 0 29 1) 0 30 (zA3.1 0 26))) rfl trivial ?_
                    subst xhQ
                    exact ww_iret xCC okX6_read 89 xhr rfl rfl ⟨_, rfl, ⟨pK2_K hK0 (pK_put (pK_put hK3 _ (by omega)) _ (by omega)), Or.inr ⟨htag, (by rw [hp]; exact hBf)⟩⟩⟩
                  · skip
                    replace c18 : ¬ w = 1 := fun q => c18 ((sEQ (a := w) (b := 1) (by omega) (by omega)).mpr q)
                    have hw1 := c18
                    refine ww_blk xCC okX6_read 88 1 (ps := []) (pc' := 165) (lv' := [(5, .int vA3), (4, .int vA2), (3, .int vA1), (0, .ref 0), (1, .int (nI tt)), (2, .int (nI w))]) (st' := [.int vA3]) (z' := (mPut (mPut zA3 0 29 1) 0 30 (zA3.1 0 26))) rfl trivial ?_
                    subst xhQ
                    exact ww_iret xCC okX6_read 89 xhr rfl rfl ⟨_, rfl, ⟨pK2_K hK0 (pK_put (pK_put hK3 _ (by omega)) _ (by omega)), Or.inr ⟨htag, (by rw [hp]; exact hBf)⟩⟩⟩
            · skip
              obtain ⟨htag, hp⟩ : tag = 2 ∧ p = p3 := by
                rcases hc3 with w9 | w9
                · exact w9.2
                · omega
              refine ww_blk xCC okX6_read 70 3 (ps := []) (pc' := 131) (lv' := [(5, .int vA3), (4, .int vA2), (3, .int vA1), (0, .ref 0), (1, .int (nI tt)), (2, .int (nI w))]) (st' := [.int (zA3.1 0 29)]) (z' := zA3) rfl trivial ?_
              refine ww_br xCC okX6_read 73 (P := (zA3.1 0 29) = 0) (t1 := 134) (t2 := 145) (r := []) rfl (fun c19 => absurd c19 (by rw [hB3.1]; decide)) (fun c19 => ?_)
              refine ww_blk xCC okX6_read 79 1 (ps := []) (pc' := 146) (lv' := [(5, .int vA3), (4, .int vA2), (3, .int vA1), (0, .ref 0), (1, .int (nI tt)), (2, .int (nI w))]) (st' := [.int (nI w)]) (z' := zA3) rfl trivial ?_
              refine ww_br xCC okX6_read 80 (P := (nI w) = 0) (t1 := 149) (t2 := 153) (r := []) rfl (fun c20 => ?_) (fun c20 => ?_)
              · skip
                replace c20 : w = 0 := (sEQ (a := w) (b := 0) (by omega) (by omega)).mp c20
                have hw0 := c20
                refine ww_blk xCC okX6_read 81 2 (ps := []) (pc' := 165) (lv' := [(5, .int vA3), (4, .int vA2), (3, .int vA1), (0, .ref 0), (1, .int (nI tt)), (2, .int (nI w))]) (st' := [.int vA1]) (z' := zA3) rfl trivial ?_
                subst xhQ
                exact ww_iret xCC okX6_read 89 xhr rfl rfl ⟨_, rfl, ⟨pK2_K hK0 hK3, Or.inr ⟨htag, (by rw [hp]; exact hB3)⟩⟩⟩
              · skip
                replace c20 : ¬ w = 0 := fun q => c20 ((sEQ (a := w) (b := 0) (by omega) (by omega)).mpr q)
                have hw0 := c20
                refine ww_blk xCC okX6_read 83 2 (ps := []) (pc' := 155) (lv' := [(5, .int vA3), (4, .int vA2), (3, .int vA1), (0, .ref 0), (1, .int (nI tt)), (2, .int (nI w))]) (st' := [.int 1, .int (nI w)]) (z' := zA3) rfl trivial ?_
                refine ww_br xCC okX6_read 85 (P := (nI w) = 1) (t1 := 158) (t2 := 163) (r := []) rfl (fun c21 => ?_) (fun c21 => ?_)
                · skip
                  replace c21 : w = 1 := (sEQ (a := w) (b := 1) (by omega) (by omega)).mp c21
                  have hw1 := c21
                  refine ww_blk xCC okX6_read 86 2 (ps := []) (pc' := 165) (lv' := [(5, .int vA3), (4, .int vA2), (3, .int vA1), (0, .ref 0), (1, .int (nI tt)), (2, .int (nI w))]) (st' := [.int vA2]) (z' := zA3) rfl trivial ?_
                  subst xhQ
                  exact ww_iret xCC okX6_read 89 xhr rfl rfl ⟨_, rfl, ⟨pK2_K hK0 hK3, Or.inr ⟨htag, (by rw [hp]; exact hB3)⟩⟩⟩
                · skip
                  replace c21 : ¬ w = 1 := fun q => c21 ((sEQ (a := w) (b := 1) (by omega) (by omega)).mpr q)
                  have hw1 := c21
                  refine ww_blk xCC okX6_read 88 1 (ps := []) (pc' := 165) (lv' := [(5, .int vA3), (4, .int vA2), (3, .int vA1), (0, .ref 0), (1, .int (nI tt)), (2, .int (nI w))]) (st' := [.int vA3]) (z' := zA3) rfl trivial ?_
                  subst xhQ
                  exact ww_iret xCC okX6_read 89 xhr rfl rfl ⟨_, rfl, ⟨pK2_K hK0 hK3, Or.inr ⟨htag, (by rw [hp]; exact hB3)⟩⟩⟩
          · skip
            rw [h9.2]
            have hs119 := h9.1
            refine ww_callVIi xCC okX6_read 69 (ix := 248) (t_X6_part0 l d bt n (160 * tt) zA2 p2 hS2) (by omega) (by decide) xyX6_part xiX6_part (Or.inl (lw_gt_of (List.mem_of_getElem? (i := 1032) (by decide +kernel)) rfl)) rfl rfl rfl (rest := []) rfl (Nat.le_of_ble_eq_true rfl) rfl (fun vA3 zA3 hA3 => ?_)
            obtain ⟨hB3, hK3⟩ := hA3
            replace hK3 := pK_tr hK2 hK3
            obtain ⟨w1, w2⟩ := pPt_no h3 hs119
            obtain ⟨htag, hp⟩ : tag = 2 ∧ p = (pTok bt n p2).2.1 := by
              rcases hc3 with w9 | w9
              · exact ⟨w9.2.1, by rw [w9.2.2, w2]⟩
              · omega
            refine ww_blk xCC okX6_read 70 3 (ps := []) (pc' := 131) (lv' := [(5, .int vA3), (4, .int vA2), (3, .int vA1), (0, .ref 0), (1, .int (nI tt)), (2, .int (nI w))]) (st' := [.int (zA3.1 0 29)]) (z' := zA3) rfl trivial ?_
            refine ww_br xCC okX6_read 73 (P := (zA3.1 0 29) = 0) (t1 := 134) (t2 := 145) (r := []) rfl (fun c22 => absurd c22 (by rw [hB3.1]; decide)) (fun c22 => ?_)
            refine ww_blk xCC okX6_read 79 1 (ps := []) (pc' := 146) (lv' := [(5, .int vA3), (4, .int vA2), (3, .int vA1), (0, .ref 0), (1, .int (nI tt)), (2, .int (nI w))]) (st' := [.int (nI w)]) (z' := zA3) rfl trivial ?_
            refine ww_br xCC okX6_read 80 (P := (nI w) = 0) (t1 := 149) (t2 := 153) (r := []) rfl (fun c23 => ?_) (fun c23 => ?_)
            · skip
              replace c23 : w = 0 := (sEQ (a := w) (b := 0) (by omega) (by omega)).mp c23
              have hw0 := c23
              refine ww_blk xCC okX6_read 81 2 (ps := []) (pc' := 165) (lv' := [(5, .int vA3), (4, .int vA2), (3, .int vA1), (0, .ref 0), (1, .int (nI tt)), (2, .int (nI w))]) (st' := [.int vA1]) (z' := zA3) rfl trivial ?_
              subst xhQ
              exact ww_iret xCC okX6_read 89 xhr rfl rfl ⟨_, rfl, ⟨pK2_K hK0 hK3, Or.inr ⟨htag, (by rw [hp]; exact hB3)⟩⟩⟩
            · skip
              replace c23 : ¬ w = 0 := fun q => c23 ((sEQ (a := w) (b := 0) (by omega) (by omega)).mpr q)
              have hw0 := c23
              refine ww_blk xCC okX6_read 83 2 (ps := []) (pc' := 155) (lv' := [(5, .int vA3), (4, .int vA2), (3, .int vA1), (0, .ref 0), (1, .int (nI tt)), (2, .int (nI w))]) (st' := [.int 1, .int (nI w)]) (z' := zA3) rfl trivial ?_
              refine ww_br xCC okX6_read 85 (P := (nI w) = 1) (t1 := 158) (t2 := 163) (r := []) rfl (fun c24 => ?_) (fun c24 => ?_)
              · skip
                replace c24 : w = 1 := (sEQ (a := w) (b := 1) (by omega) (by omega)).mp c24
                have hw1 := c24
                refine ww_blk xCC okX6_read 86 2 (ps := []) (pc' := 165) (lv' := [(5, .int vA3), (4, .int vA2), (3, .int vA1), (0, .ref 0), (1, .int (nI tt)), (2, .int (nI w))]) (st' := [.int vA2]) (z' := zA3) rfl trivial ?_
                subst xhQ
                exact ww_iret xCC okX6_read 89 xhr rfl rfl ⟨_, rfl, ⟨pK2_K hK0 hK3, Or.inr ⟨htag, (by rw [hp]; exact hB3)⟩⟩⟩
              · skip
                replace c24 : ¬ w = 1 := fun q => c24 ((sEQ (a := w) (b := 1) (by omega) (by omega)).mpr q)
                have hw1 := c24
                refine ww_blk xCC okX6_read 88 1 (ps := []) (pc' := 165) (lv' := [(5, .int vA3), (4, .int vA2), (3, .int vA1), (0, .ref 0), (1, .int (nI tt)), (2, .int (nI w))]) (st' := [.int vA3]) (z' := zA3) rfl trivial ?_
                subst xhQ
                exact ww_iret xCC okX6_read 89 xhr rfl rfl ⟨_, rfl, ⟨pK2_K hK0 hK3, Or.inr ⟨htag, (by rw [hp]; exact hB3)⟩⟩⟩
        · skip
          obtain ⟨htag, hp⟩ : tag = 2 ∧ p = p2 := by
            rcases hc2 with w9 | w9
            · exact w9.2
            · omega
          refine ww_blk xCC okX6_read 52 3 (ps := []) (pc' := 98) (lv' := [(4, .int vA2), (3, .int vA1), (0, .ref 0), (1, .int (nI tt)), (2, .int (nI w))]) (st' := [.int (zA2.1 0 29)]) (z' := zA2) rfl trivial ?_
          refine ww_br xCC okX6_read 55 (P := (zA2.1 0 29) = 0) (t1 := 105) (t2 := 101) (r := []) rfl (fun c25 => absurd c25 (by rw [hB2.1]; decide)) (fun c25 => ?_)
          refine ww_blk xCC okX6_read 56 2 (ps := []) (pc' := 125) (lv' := [(4, .int vA2), (3, .int vA1), (0, .ref 0), (1, .int (nI tt)), (2, .int (nI w))]) (st' := [.int 0]) (z' := zA2) rfl trivial ?_
          refine ww_blk xCC okX6_read 70 3 (ps := []) (pc' := 131) (lv' := [(5, .int 0), (4, .int vA2), (3, .int vA1), (0, .ref 0), (1, .int (nI tt)), (2, .int (nI w))]) (st' := [.int (zA2.1 0 29)]) (z' := zA2) rfl trivial ?_
          refine ww_br xCC okX6_read 73 (P := (zA2.1 0 29) = 0) (t1 := 134) (t2 := 145) (r := []) rfl (fun c26 => absurd c26 (by rw [hB2.1]; decide)) (fun c26 => ?_)
          refine ww_blk xCC okX6_read 79 1 (ps := []) (pc' := 146) (lv' := [(5, .int 0), (4, .int vA2), (3, .int vA1), (0, .ref 0), (1, .int (nI tt)), (2, .int (nI w))]) (st' := [.int (nI w)]) (z' := zA2) rfl trivial ?_
          refine ww_br xCC okX6_read 80 (P := (nI w) = 0) (t1 := 149) (t2 := 153) (r := []) rfl (fun c27 => ?_) (fun c27 => ?_)
          · skip
            replace c27 : w = 0 := (sEQ (a := w) (b := 0) (by omega) (by omega)).mp c27
            have hw0 := c27
            refine ww_blk xCC okX6_read 81 2 (ps := []) (pc' := 165) (lv' := [(5, .int 0), (4, .int vA2), (3, .int vA1), (0, .ref 0), (1, .int (nI tt)), (2, .int (nI w))]) (st' := [.int vA1]) (z' := zA2) rfl trivial ?_
            subst xhQ
            exact ww_iret xCC okX6_read 89 xhr rfl rfl ⟨_, rfl, ⟨pK2_K hK0 hK2, Or.inr ⟨htag, (by rw [hp]; exact hB2)⟩⟩⟩
          · skip
            replace c27 : ¬ w = 0 := fun q => c27 ((sEQ (a := w) (b := 0) (by omega) (by omega)).mpr q)
            have hw0 := c27
            refine ww_blk xCC okX6_read 83 2 (ps := []) (pc' := 155) (lv' := [(5, .int 0), (4, .int vA2), (3, .int vA1), (0, .ref 0), (1, .int (nI tt)), (2, .int (nI w))]) (st' := [.int 1, .int (nI w)]) (z' := zA2) rfl trivial ?_
            refine ww_br xCC okX6_read 85 (P := (nI w) = 1) (t1 := 158) (t2 := 163) (r := []) rfl (fun c28 => ?_) (fun c28 => ?_)
            · skip
              replace c28 : w = 1 := (sEQ (a := w) (b := 1) (by omega) (by omega)).mp c28
              have hw1 := c28
              refine ww_blk xCC okX6_read 86 2 (ps := []) (pc' := 165) (lv' := [(5, .int 0), (4, .int vA2), (3, .int vA1), (0, .ref 0), (1, .int (nI tt)), (2, .int (nI w))]) (st' := [.int vA2]) (z' := zA2) rfl trivial ?_
              subst xhQ
              exact ww_iret xCC okX6_read 89 xhr rfl rfl ⟨_, rfl, ⟨pK2_K hK0 hK2, Or.inr ⟨htag, (by rw [hp]; exact hB2)⟩⟩⟩
            · skip
              replace c28 : ¬ w = 1 := fun q => c28 ((sEQ (a := w) (b := 1) (by omega) (by omega)).mpr q)
              have hw1 := c28
              refine ww_blk xCC okX6_read 88 1 (ps := []) (pc' := 165) (lv' := [(5, .int 0), (4, .int vA2), (3, .int vA1), (0, .ref 0), (1, .int (nI tt)), (2, .int (nI w))]) (st' := [.int 0]) (z' := zA2) rfl trivial ?_
              subst xhQ
              exact ww_iret xCC okX6_read 89 xhr rfl rfl ⟨_, rfl, ⟨pK2_K hK0 hK2, Or.inr ⟨htag, (by rw [hp]; exact hB2)⟩⟩⟩
      · skip
        rw [h6.2]
        have hs86 := h6.1
        refine ww_callVIi xCC okX6_read 51 (ix := 248) (t_X6_part0 l d bt n (160 * tt) zA1 p1 hS1) (by omega) (by decide) xyX6_part xiX6_part (Or.inl (lw_gt_of (List.mem_of_getElem? (i := 1032) (by decide +kernel)) rfl)) rfl rfl rfl (rest := []) rfl (Nat.le_of_ble_eq_true rfl) rfl (fun vA2 zA2 hA2 => ?_)
        obtain ⟨hB2, hK2⟩ := hA2
        replace hK2 := pK_tr hK1 hK2
        obtain ⟨w1, w2⟩ := pPt_no h2 hs86
        obtain ⟨htag, hp⟩ : tag = 2 ∧ p = (pTok bt n p1).2.1 := by
          rcases hc2 with w9 | w9
          · exact ⟨w9.2.1, by rw [w9.2.2, w2]⟩
          · omega
        refine ww_blk xCC okX6_read 52 3 (ps := []) (pc' := 98) (lv' := [(4, .int vA2), (3, .int vA1), (0, .ref 0), (1, .int (nI tt)), (2, .int (nI w))]) (st' := [.int (zA2.1 0 29)]) (z' := zA2) rfl trivial ?_
        refine ww_br xCC okX6_read 55 (P := (zA2.1 0 29) = 0) (t1 := 105) (t2 := 101) (r := []) rfl (fun c29 => absurd c29 (by rw [hB2.1]; decide)) (fun c29 => ?_)
        refine ww_blk xCC okX6_read 56 2 (ps := []) (pc' := 125) (lv' := [(4, .int vA2), (3, .int vA1), (0, .ref 0), (1, .int (nI tt)), (2, .int (nI w))]) (st' := [.int 0]) (z' := zA2) rfl trivial ?_
        refine ww_blk xCC okX6_read 70 3 (ps := []) (pc' := 131) (lv' := [(5, .int 0), (4, .int vA2), (3, .int vA1), (0, .ref 0), (1, .int (nI tt)), (2, .int (nI w))]) (st' := [.int (zA2.1 0 29)]) (z' := zA2) rfl trivial ?_
        refine ww_br xCC okX6_read 73 (P := (zA2.1 0 29) = 0) (t1 := 134) (t2 := 145) (r := []) rfl (fun c30 => absurd c30 (by rw [hB2.1]; decide)) (fun c30 => ?_)
        refine ww_blk xCC okX6_read 79 1 (ps := []) (pc' := 146) (lv' := [(5, .int 0), (4, .int vA2), (3, .int vA1), (0, .ref 0), (1, .int (nI tt)), (2, .int (nI w))]) (st' := [.int (nI w)]) (z' := zA2) rfl trivial ?_
        refine ww_br xCC okX6_read 80 (P := (nI w) = 0) (t1 := 149) (t2 := 153) (r := []) rfl (fun c31 => ?_) (fun c31 => ?_)
        · skip
          replace c31 : w = 0 := (sEQ (a := w) (b := 0) (by omega) (by omega)).mp c31
          have hw0 := c31
          refine ww_blk xCC okX6_read 81 2 (ps := []) (pc' := 165) (lv' := [(5, .int 0), (4, .int vA2), (3, .int vA1), (0, .ref 0), (1, .int (nI tt)), (2, .int (nI w))]) (st' := [.int vA1]) (z' := zA2) rfl trivial ?_
          subst xhQ
          exact ww_iret xCC okX6_read 89 xhr rfl rfl ⟨_, rfl, ⟨pK2_K hK0 hK2, Or.inr ⟨htag, (by rw [hp]; exact hB2)⟩⟩⟩
        · skip
          replace c31 : ¬ w = 0 := fun q => c31 ((sEQ (a := w) (b := 0) (by omega) (by omega)).mpr q)
          have hw0 := c31
          refine ww_blk xCC okX6_read 83 2 (ps := []) (pc' := 155) (lv' := [(5, .int 0), (4, .int vA2), (3, .int vA1), (0, .ref 0), (1, .int (nI tt)), (2, .int (nI w))]) (st' := [.int 1, .int (nI w)]) (z' := zA2) rfl trivial ?_
          refine ww_br xCC okX6_read 85 (P := (nI w) = 1) (t1 := 158) (t2 := 163) (r := []) rfl (fun c32 => ?_) (fun c32 => ?_)
          · skip
            replace c32 : w = 1 := (sEQ (a := w) (b := 1) (by omega) (by omega)).mp c32
            have hw1 := c32
            refine ww_blk xCC okX6_read 86 2 (ps := []) (pc' := 165) (lv' := [(5, .int 0), (4, .int vA2), (3, .int vA1), (0, .ref 0), (1, .int (nI tt)), (2, .int (nI w))]) (st' := [.int vA2]) (z' := zA2) rfl trivial ?_
            subst xhQ
            exact ww_iret xCC okX6_read 89 xhr rfl rfl ⟨_, rfl, ⟨pK2_K hK0 hK2, Or.inr ⟨htag, (by rw [hp]; exact hB2)⟩⟩⟩
          · skip
            replace c32 : ¬ w = 1 := fun q => c32 ((sEQ (a := w) (b := 1) (by omega) (by omega)).mpr q)
            have hw1 := c32
            refine ww_blk xCC okX6_read 88 1 (ps := []) (pc' := 165) (lv' := [(5, .int 0), (4, .int vA2), (3, .int vA1), (0, .ref 0), (1, .int (nI tt)), (2, .int (nI w))]) (st' := [.int 0]) (z' := zA2) rfl trivial ?_
            subst xhQ
            exact ww_iret xCC okX6_read 89 xhr rfl rfl ⟨_, rfl, ⟨pK2_K hK0 hK2, Or.inr ⟨htag, (by rw [hp]; exact hB2)⟩⟩⟩
    · skip
      obtain ⟨htag, hp⟩ : tag = 2 ∧ p = p1 := by
        rcases hc1 with w9 | w9
        · exact w9.2
        · omega
      refine ww_blk xCC okX6_read 34 3 (ps := []) (pc' := 64) (lv' := [(3, .int vA1), (0, .ref 0), (1, .int (nI tt)), (2, .int (nI w))]) (st' := [.int (zA1.1 0 29)]) (z' := zA1) rfl trivial ?_
      refine ww_br xCC okX6_read 37 (P := (zA1.1 0 29) = 0) (t1 := 71) (t2 := 67) (r := []) rfl (fun c33 => absurd c33 (by rw [hB1.1]; decide)) (fun c33 => ?_)
      refine ww_blk xCC okX6_read 38 2 (ps := []) (pc' := 92) (lv' := [(3, .int vA1), (0, .ref 0), (1, .int (nI tt)), (2, .int (nI w))]) (st' := [.int 0]) (z' := zA1) rfl trivial ?_
      refine ww_blk xCC okX6_read 52 3 (ps := []) (pc' := 98) (lv' := [(4, .int 0), (3, .int vA1), (0, .ref 0), (1, .int (nI tt)), (2, .int (nI w))]) (st' := [.int (zA1.1 0 29)]) (z' := zA1) rfl trivial ?_
      refine ww_br xCC okX6_read 55 (P := (zA1.1 0 29) = 0) (t1 := 105) (t2 := 101) (r := []) rfl (fun c34 => absurd c34 (by rw [hB1.1]; decide)) (fun c34 => ?_)
      refine ww_blk xCC okX6_read 56 2 (ps := []) (pc' := 125) (lv' := [(4, .int 0), (3, .int vA1), (0, .ref 0), (1, .int (nI tt)), (2, .int (nI w))]) (st' := [.int 0]) (z' := zA1) rfl trivial ?_
      refine ww_blk xCC okX6_read 70 3 (ps := []) (pc' := 131) (lv' := [(5, .int 0), (4, .int 0), (3, .int vA1), (0, .ref 0), (1, .int (nI tt)), (2, .int (nI w))]) (st' := [.int (zA1.1 0 29)]) (z' := zA1) rfl trivial ?_
      refine ww_br xCC okX6_read 73 (P := (zA1.1 0 29) = 0) (t1 := 134) (t2 := 145) (r := []) rfl (fun c35 => absurd c35 (by rw [hB1.1]; decide)) (fun c35 => ?_)
      refine ww_blk xCC okX6_read 79 1 (ps := []) (pc' := 146) (lv' := [(5, .int 0), (4, .int 0), (3, .int vA1), (0, .ref 0), (1, .int (nI tt)), (2, .int (nI w))]) (st' := [.int (nI w)]) (z' := zA1) rfl trivial ?_
      refine ww_br xCC okX6_read 80 (P := (nI w) = 0) (t1 := 149) (t2 := 153) (r := []) rfl (fun c36 => ?_) (fun c36 => ?_)
      · skip
        replace c36 : w = 0 := (sEQ (a := w) (b := 0) (by omega) (by omega)).mp c36
        have hw0 := c36
        refine ww_blk xCC okX6_read 81 2 (ps := []) (pc' := 165) (lv' := [(5, .int 0), (4, .int 0), (3, .int vA1), (0, .ref 0), (1, .int (nI tt)), (2, .int (nI w))]) (st' := [.int vA1]) (z' := zA1) rfl trivial ?_
        subst xhQ
        exact ww_iret xCC okX6_read 89 xhr rfl rfl ⟨_, rfl, ⟨pK2_K hK0 hK1, Or.inr ⟨htag, (by rw [hp]; exact hB1)⟩⟩⟩
      · skip
        replace c36 : ¬ w = 0 := fun q => c36 ((sEQ (a := w) (b := 0) (by omega) (by omega)).mpr q)
        have hw0 := c36
        refine ww_blk xCC okX6_read 83 2 (ps := []) (pc' := 155) (lv' := [(5, .int 0), (4, .int 0), (3, .int vA1), (0, .ref 0), (1, .int (nI tt)), (2, .int (nI w))]) (st' := [.int 1, .int (nI w)]) (z' := zA1) rfl trivial ?_
        refine ww_br xCC okX6_read 85 (P := (nI w) = 1) (t1 := 158) (t2 := 163) (r := []) rfl (fun c37 => ?_) (fun c37 => ?_)
        · skip
          replace c37 : w = 1 := (sEQ (a := w) (b := 1) (by omega) (by omega)).mp c37
          have hw1 := c37
          refine ww_blk xCC okX6_read 86 2 (ps := []) (pc' := 165) (lv' := [(5, .int 0), (4, .int 0), (3, .int vA1), (0, .ref 0), (1, .int (nI tt)), (2, .int (nI w))]) (st' := [.int 0]) (z' := zA1) rfl trivial ?_
          subst xhQ
          exact ww_iret xCC okX6_read 89 xhr rfl rfl ⟨_, rfl, ⟨pK2_K hK0 hK1, Or.inr ⟨htag, (by rw [hp]; exact hB1)⟩⟩⟩
        · skip
          replace c37 : ¬ w = 1 := fun q => c37 ((sEQ (a := w) (b := 1) (by omega) (by omega)).mpr q)
          have hw1 := c37
          refine ww_blk xCC okX6_read 88 1 (ps := []) (pc' := 165) (lv' := [(5, .int 0), (4, .int 0), (3, .int vA1), (0, .ref 0), (1, .int (nI tt)), (2, .int (nI w))]) (st' := [.int 0]) (z' := zA1) rfl trivial ?_
          subst xhQ
          exact ww_iret xCC okX6_read 89 xhr rfl rfl ⟨_, rfl, ⟨pK2_K hK0 hK1, Or.inr ⟨htag, (by rw [hp]; exact hB1)⟩⟩⟩
  · skip
    rw [h3.2]
    have hs53 := h3.1
    refine ww_callVIi xCC okX6_read 33 (ix := 248) (t_X6_part0 l d bt n (160 * tt) z0 0 hg0) (by omega) (by decide) xyX6_part xiX6_part (Or.inl (lw_gt_of (List.mem_of_getElem? (i := 1032) (by decide +kernel)) rfl)) rfl rfl rfl (rest := []) rfl (Nat.le_of_ble_eq_true rfl) rfl (fun vA1 zA1 hA1 => ?_)
    obtain ⟨hB1, hK1⟩ := hA1
    replace hK1 := pK_tr hKx hK1
    obtain ⟨w1, w2⟩ := pPt_no h1 hs53
    obtain ⟨htag, hp⟩ : tag = 2 ∧ p = (pTok bt n 0).2.1 := by
      rcases hc1 with w9 | w9
      · exact ⟨w9.2.1, by rw [w9.2.2, w2]⟩
      · omega
    refine ww_blk xCC okX6_read 34 3 (ps := []) (pc' := 64) (lv' := [(3, .int vA1), (0, .ref 0), (1, .int (nI tt)), (2, .int (nI w))]) (st' := [.int (zA1.1 0 29)]) (z' := zA1) rfl trivial ?_
    refine ww_br xCC okX6_read 37 (P := (zA1.1 0 29) = 0) (t1 := 71) (t2 := 67) (r := []) rfl (fun c38 => absurd c38 (by rw [hB1.1]; decide)) (fun c38 => ?_)
    refine ww_blk xCC okX6_read 38 2 (ps := []) (pc' := 92) (lv' := [(3, .int vA1), (0, .ref 0), (1, .int (nI tt)), (2, .int (nI w))]) (st' := [.int 0]) (z' := zA1) rfl trivial ?_
    refine ww_blk xCC okX6_read 52 3 (ps := []) (pc' := 98) (lv' := [(4, .int 0), (3, .int vA1), (0, .ref 0), (1, .int (nI tt)), (2, .int (nI w))]) (st' := [.int (zA1.1 0 29)]) (z' := zA1) rfl trivial ?_
    refine ww_br xCC okX6_read 55 (P := (zA1.1 0 29) = 0) (t1 := 105) (t2 := 101) (r := []) rfl (fun c39 => absurd c39 (by rw [hB1.1]; decide)) (fun c39 => ?_)
    refine ww_blk xCC okX6_read 56 2 (ps := []) (pc' := 125) (lv' := [(4, .int 0), (3, .int vA1), (0, .ref 0), (1, .int (nI tt)), (2, .int (nI w))]) (st' := [.int 0]) (z' := zA1) rfl trivial ?_
    refine ww_blk xCC okX6_read 70 3 (ps := []) (pc' := 131) (lv' := [(5, .int 0), (4, .int 0), (3, .int vA1), (0, .ref 0), (1, .int (nI tt)), (2, .int (nI w))]) (st' := [.int (zA1.1 0 29)]) (z' := zA1) rfl trivial ?_
    refine ww_br xCC okX6_read 73 (P := (zA1.1 0 29) = 0) (t1 := 134) (t2 := 145) (r := []) rfl (fun c40 => absurd c40 (by rw [hB1.1]; decide)) (fun c40 => ?_)
    refine ww_blk xCC okX6_read 79 1 (ps := []) (pc' := 146) (lv' := [(5, .int 0), (4, .int 0), (3, .int vA1), (0, .ref 0), (1, .int (nI tt)), (2, .int (nI w))]) (st' := [.int (nI w)]) (z' := zA1) rfl trivial ?_
    refine ww_br xCC okX6_read 80 (P := (nI w) = 0) (t1 := 149) (t2 := 153) (r := []) rfl (fun c41 => ?_) (fun c41 => ?_)
    · skip
      replace c41 : w = 0 := (sEQ (a := w) (b := 0) (by omega) (by omega)).mp c41
      have hw0 := c41
      refine ww_blk xCC okX6_read 81 2 (ps := []) (pc' := 165) (lv' := [(5, .int 0), (4, .int 0), (3, .int vA1), (0, .ref 0), (1, .int (nI tt)), (2, .int (nI w))]) (st' := [.int vA1]) (z' := zA1) rfl trivial ?_
      subst xhQ
      exact ww_iret xCC okX6_read 89 xhr rfl rfl ⟨_, rfl, ⟨pK2_K hK0 hK1, Or.inr ⟨htag, (by rw [hp]; exact hB1)⟩⟩⟩
    · skip
      replace c41 : ¬ w = 0 := fun q => c41 ((sEQ (a := w) (b := 0) (by omega) (by omega)).mpr q)
      have hw0 := c41
      refine ww_blk xCC okX6_read 83 2 (ps := []) (pc' := 155) (lv' := [(5, .int 0), (4, .int 0), (3, .int vA1), (0, .ref 0), (1, .int (nI tt)), (2, .int (nI w))]) (st' := [.int 1, .int (nI w)]) (z' := zA1) rfl trivial ?_
      refine ww_br xCC okX6_read 85 (P := (nI w) = 1) (t1 := 158) (t2 := 163) (r := []) rfl (fun c42 => ?_) (fun c42 => ?_)
      · skip
        replace c42 : w = 1 := (sEQ (a := w) (b := 1) (by omega) (by omega)).mp c42
        have hw1 := c42
        refine ww_blk xCC okX6_read 86 2 (ps := []) (pc' := 165) (lv' := [(5, .int 0), (4, .int 0), (3, .int vA1), (0, .ref 0), (1, .int (nI tt)), (2, .int (nI w))]) (st' := [.int 0]) (z' := zA1) rfl trivial ?_
        subst xhQ
        exact ww_iret xCC okX6_read 89 xhr rfl rfl ⟨_, rfl, ⟨pK2_K hK0 hK1, Or.inr ⟨htag, (by rw [hp]; exact hB1)⟩⟩⟩
      · skip
        replace c42 : ¬ w = 1 := fun q => c42 ((sEQ (a := w) (b := 1) (by omega) (by omega)).mpr q)
        have hw1 := c42
        refine ww_blk xCC okX6_read 88 1 (ps := []) (pc' := 165) (lv' := [(5, .int 0), (4, .int 0), (3, .int vA1), (0, .ref 0), (1, .int (nI tt)), (2, .int (nI w))]) (st' := [.int 0]) (z' := zA1) rfl trivial ?_
        subst xhQ
        exact ww_iret xCC okX6_read 89 xhr rfl rfl ⟨_, rfl, ⟨pK2_K hK0 hK1, Or.inr ⟨htag, (by rw [hp]; exact hB1)⟩⟩⟩
end
section
/-! fuel enough; reading goes on; no more codes than bytes -/
def pGd (n pos s : Nat) (r : pRes) : Prop := r.1 ≠ 0 ∧ (r.1 = 1 → r.2.2 ≤ n ∧ pos + s ≤ r.2.2 ∧ r.2.1.length + pos ≤ r.2.2)
theorem pGd_ok {n pos s p : Nat} {cs : List Nat} (h1 : p ≤ n) (h2 : pos + s ≤ p) (h3 : cs.length + pos ≤ p) : pGd n pos s (1, cs, p) := ⟨Nat.one_ne_zero, fun _ => ⟨h1, h2, h3⟩⟩
theorem pGd_no {n pos s p : Nat} {cs : List Nat} : pGd n pos s (2, cs, p) := ⟨(by decide : (2 : Nat) ≠ 0), fun q => absurd q (by show ¬ (2 : Nat) = 1; decide)⟩
theorem pSeq_gd {n pos s : Nat} {r : pRes} {k : List Nat → Nat → pRes} (h : r.1 ≠ 0) (hk : r.1 = 1 → pGd n pos s (k r.2.1 r.2.2)) : pGd n pos s (pSeq r k) := by
  unfold pSeq
  split
  · rename_i h1
    exact hk h1
  · rename_i h1
    exact ⟨h, fun q => absurd q h1⟩
theorem pTok_gt {bt : Nat → Nat} {n pos : Nat} (hp : pos ≤ n) (h : (pTok bt n pos).1 ≠ 10021) : pos + 1 ≤ (pTok bt n pos).2.2 ∧ (pTok bt n pos).2.2 ≤ n := by
  refine ⟨?_, (pTok_le hp).1⟩
  have h1 := pRun_ge pBl bt n pos
  by_cases hn : n ≤ pRun pBl bt n pos
  · rw [pTok_end hn] at h
    exact absurd rfl h
  · by_cases hl : pLe (bt (pRun pBl bt n pos)) = true
    · rw [pTok_word rfl (by omega) hl, pRun_go (by omega) hl]
      have := pRun_ge pLe bt n (pRun pBl bt n pos + 1)
      show _ ≤ pRun pLe bt n (pRun pBl bt n pos + 1)
      omega
    · by_cases hd : pDi (bt (pRun pBl bt n pos)) = true
      · rw [pTok_dig rfl (by omega) (by simpa using hl) hd, pRun_go (by omega) hd]
        have := pRun_ge pDi bt n (pRun pBl bt n pos + 1)
        show _ ≤ pRun pDi bt n (pRun pBl bt n pos + 1)
        omega
      · rw [pTok_sig rfl (by omega) (by simpa using hl) (by simpa using hd)]
        show _ ≤ pRun pBl bt n pos + 1
        omega
theorem pChain_gd {n pos sub rest : Nat} {r : Nat → Nat → pRes} (h1 : pGd n pos 1 (r sub pos)) (h2 : ∀ p1, pos + 1 ≤ p1 → p1 ≤ n → pGd n p1 0 (r rest p1)) : pGd n pos 1 (pChain r pos sub rest) := by
  refine pSeq_gd h1.1 (fun q => ?_)
  obtain ⟨a1, a2, a3⟩ := h1.2 q
  have g := h2 _ a2 a1
  refine pSeq_gd g.1 (fun q2 => ?_)
  obtain ⟨b1, b2, b3⟩ := g.2 q2
  exact pGd_ok b1 (by omega) (by rw [List.length_append]; omega)
theorem pMore_gd {bt : Nat → Nat} {n pos sub rest : Nat} {r : Nat → Nat → pRes} {is : Nat → Bool} (hp : pos ≤ n) (his : ∀ c, is c = true → c ≠ 10021) (h1 : ∀ p1, pos + 1 ≤ p1 → p1 ≤ n → pGd n p1 1 (r sub p1)) (h2 : ∀ p1, pos + 1 ≤ p1 → p1 ≤ n → pGd n p1 0 (r rest p1)) : pGd n pos 0 (pMore r (pTok bt n pos) pos sub rest is) := by
  unfold pMore
  split
  · rename_i hi
    have ht := pTok_gt hp (his _ hi)
    have g1 := h1 _ ht.1 ht.2
    refine pSeq_gd g1.1 (fun q => ?_)
    obtain ⟨a1, a2, a3⟩ := g1.2 q
    have g := h2 _ (by omega) a1
    refine pSeq_gd g.1 (fun q2 => ?_)
    obtain ⟨b1, b2, b3⟩ := g.2 q2
    refine pGd_ok b1 (by omega) ?_
    rw [List.length_append, List.length_cons]
    omega
  · exact pGd_ok hp (Nat.le_refl _) (by rw [List.length_nil]; omega)
def pLv (m : Nat) : Nat := match m with | 0 => 9 | 10 => 9 | 1 => 8 | 11 => 8 | 2 => 7 | 3 => 6 | 4 => 5 | 14 => 5 | 5 => 4 | 15 => 4 | 6 => 3 | _ => 2
theorem pOp_ne : ∀ m c, pOp m c = true → c ≠ 10021 := by
  intro m c h e
  subst e
  simp only [pOp] at h
  revert h
  repeat' split
  all_goals decide
theorem pG_gd (bt : Nat → Nat) (n : Nat) : ∀ f m o pos, m ∈ [0, 1, 2, 3, 4, 5, 6, 7, 10, 11, 14, 15] → pos ≤ n → o ≤ 5 → (n - pos) + 10 * (5 - o) + pLv m < f → pGd n pos (if m < 10 then 1 else 0) (pG bt n f m o pos)
  | 0, _, _, _, _, _, _, h => absurd h (Nat.not_lt_zero _)
  | f + 1, m, o, pos, hm, hp, ho, hf => by
    have ih := pG_gd bt n f
    have hch : ∀ sub rest, m < 10 → sub ∈ [0, 1, 2, 3, 4, 5, 6, 7, 10, 11, 14, 15] → rest ∈ [0, 1, 2, 3, 4, 5, 6, 7, 10, 11, 14, 15] → sub < 10 → ¬ rest < 10 → pLv sub < pLv m → pLv rest ≤ pLv m → pGd n pos (if m < 10 then 1 else 0) (pChain (fun s p => pG bt n f s o p) pos sub rest) := by
      intro sub rest h1 h2 h3 h4 h5 h6 h7
      rw [if_pos h1]
      refine pChain_gd ?_ (fun p1 q1 q2 => ?_)
      · have := ih sub o pos h2 hp ho (by omega)
        rw [if_pos h4] at this
        exact this
      · have := ih rest o p1 h3 q2 ho (by omega)
        rw [if_neg h5] at this
        exact this
    have hmo : ∀ sub rest is, ¬ m < 10 → (∀ c, is c = true → c ≠ 10021) → sub ∈ [0, 1, 2, 3, 4, 5, 6, 7, 10, 11, 14, 15] → rest ∈ [0, 1, 2, 3, 4, 5, 6, 7, 10, 11, 14, 15] → sub < 10 → ¬ rest < 10 → pLv sub ≤ pLv m → pLv rest ≤ pLv m → pGd n pos (if m < 10 then 1 else 0) (pMore (fun s p => pG bt n f s o p) (pTok bt n pos) pos sub rest is) := by
      intro sub rest is h1 hi h2 h3 h4 h5 h6 h7
      rw [if_neg h1]
      refine pMore_gd hp hi (fun p1 q1 q2 => ?_) (fun p1 q1 q2 => ?_)
      · have := ih sub o p1 h2 q2 ho (by omega)
        rw [if_pos h4] at this
        exact this
      · have := ih rest o p1 h3 q2 ho (by omega)
        rw [if_neg h5] at this
        exact this
    have htk : ∀ c, (pTok bt n pos).1 = c → c ≠ 10021 → pos + 1 ≤ (pTok bt n pos).2.2 ∧ (pTok bt n pos).2.2 ≤ n := fun c hc hn => pTok_gt hp (by rw [hc]; exact hn)
    simp only [List.mem_cons, List.not_mem_nil, or_false] at hm
    rcases hm with rfl | rfl | rfl | rfl | rfl | rfl | rfl | rfl | rfl | rfl | rfl | rfl
    · exact hch 1 10 (by decide) (by decide) (by decide) (by decide) (by decide) (by decide) (by decide)
    · exact hch 2 11 (by decide) (by decide) (by decide) (by decide) (by decide) (by decide) (by decide)
    · rw [if_pos (by decide)]
      simp only [pG]
      split
      · rename_i h1
        have ht := htk _ h1 (by decide)
        split
        · exact pGd_no
        · rename_i h2
          have g := ih 2 (o + 1) (pTok bt n pos).2.2 (by decide) ht.2 (by omega) (by simp only [pLv] at hf ⊢; omega)
          rw [if_pos (by decide)] at g
          refine pSeq_gd g.1 (fun q => ?_)
          obtain ⟨a1, a2, a3⟩ := g.2 q
          exact pGd_ok a1 (by omega) (by rw [List.length_append, List.length_singleton]; omega)
      · have g := ih 3 o pos (by decide) hp ho (by simp only [pLv] at hf ⊢; omega)
        rw [if_pos (by decide)] at g
        exact g
    · rw [if_pos (by decide)]
      simp only [pG]
      have g := ih 4 o pos (by decide) hp ho (by simp only [pLv] at hf ⊢; omega)
      rw [if_pos (by decide)] at g
      refine pSeq_gd g.1 (fun q => ?_)
      obtain ⟨a1, a2, a3⟩ := g.2 q
      split
      · rename_i h1
        have ht := pTok_gt (bt := bt) a1 (by rcases h1 with h1 | h1 <;> rw [h1] <;> decide)
        have g2 := ih 4 o _ (by decide) ht.2 ho (by simp only [pLv] at hf ⊢; omega)
        rw [if_pos (by decide)] at g2
        refine pSeq_gd g2.1 (fun q2 => ?_)
        obtain ⟨b1, b2, b3⟩ := g2.2 q2
        exact pGd_ok b1 (by omega) (by rw [List.length_append, List.length_append, List.length_singleton]; omega)
      · exact pGd_ok a1 (by omega) a3
    · exact hch 5 14 (by decide) (by decide) (by decide) (by decide) (by decide) (by decide) (by decide)
    · exact hch 6 15 (by decide) (by decide) (by decide) (by decide) (by decide) (by decide) (by decide)
    · rw [if_pos (by decide)]
      simp only [pG]
      split
      · rename_i h1
        have ht := htk _ h1 (by decide)
        split
        · exact pGd_no
        · rename_i h2
          have g := ih 6 (o + 1) (pTok bt n pos).2.2 (by decide) ht.2 (by omega) (by simp only [pLv] at hf ⊢; omega)
          rw [if_pos (by decide)] at g
          refine pSeq_gd g.1 (fun q => ?_)
          obtain ⟨a1, a2, a3⟩ := g.2 q
          exact pGd_ok a1 (by omega) (by rw [List.length_append, List.length_singleton]; omega)
      · have g := ih 7 o pos (by decide) hp ho (by simp only [pLv] at hf ⊢; omega)
        rw [if_pos (by decide)] at g
        exact g
    · rw [if_pos (by decide)]
      simp only [pG]
      split
      · rename_i h1
        have ht := pTok_gt (bt := bt) hp (by omega)
        exact pGd_ok ht.2 ht.1 (by rw [List.length_singleton]; omega)
      · split
        · rename_i h1
          have ht := htk _ h1 (by decide)
          split
          · exact pGd_no
          · rename_i h2
            have g := ih 0 (o + 1) (pTok bt n pos).2.2 (by decide) ht.2 (by omega) (by simp only [pLv] at hf ⊢; omega)
            rw [if_pos (by decide)] at g
            refine pSeq_gd g.1 (fun q => ?_)
            obtain ⟨a1, a2, a3⟩ := g.2 q
            split
            · rename_i h3
              have ht2 := pTok_gt (bt := bt) a1 (by rw [h3]; decide)
              exact pGd_ok ht2.2 (by omega) (by omega)
            · exact pGd_no
        · exact pGd_no
    · exact hmo 1 10 _ (by decide) (pOp_ne 10) (by decide) (by decide) (by decide) (by decide) (by decide) (by decide)
    · exact hmo 2 11 _ (by decide) (pOp_ne 11) (by decide) (by decide) (by decide) (by decide) (by decide) (by decide)
    · exact hmo 5 14 _ (by decide) (pOp_ne 14) (by decide) (by decide) (by decide) (by decide) (by decide) (by decide)
    · exact hmo 6 15 _ (by decide) (pOp_ne 15) (by decide) (by decide) (by decide) (by decide) (by decide) (by decide)
end
section
/-! texts as codes; the republic's relation to the model's memory -/
theorem pPt_gd {bt : Nat → Nat} {n F key pos : Nat} (hp : pos ≤ n) (hn : n ≤ 160) (hF : 300 ≤ F) (hk : key ≠ 10021) : pGd n pos 1 (pPt bt n F key pos) := by
  unfold pPt
  split
  · rename_i h1
    have ht := pTok_gt (bt := bt) hp (by rw [h1]; exact hk)
    have g := pG_gd bt n F 0 0 (pTok bt n pos).2.2 (by decide) ht.2 (by decide) (by simp only [pLv]; omega)
    rw [if_pos (by decide)] at g
    refine pSeq_gd g.1 (fun q => ?_)
    obtain ⟨a1, a2, a3⟩ := g.2 q
    split
    · rename_i h2
      have ht2 := pTok_gt (bt := bt) a1 (by rw [h2]; decide)
      exact pGd_ok ht2.2 (by omega) (by omega)
    · exact pGd_no
  · exact pGd_no
theorem pTx_ne {bt : Nat → Nat} {n : Nat} (hn : n ≤ 160) : (pTx bt n 300).1 ≠ 0 := by
  have g1 := pPt_gd (bt := bt) (key := 10015) (Nat.zero_le n) hn (Nat.le_refl 300) (by decide)
  unfold pTx
  split
  · rename_i h1
    have g2 := pPt_gd (bt := bt) (key := 10016) (g1.2 h1).1 hn (Nat.le_refl 300) (by decide)
    split
    · rename_i h2
      have g3 := pPt_gd (bt := bt) (key := 10017) (g2.2 h2).1 hn (Nat.le_refl 300) (by decide)
      split
      · split
        · exact Nat.one_ne_zero
        · exact (by decide : (2 : Nat) ≠ 0)
      · exact g3.1
    · exact g2.1
  · exact g1.1
abbrev sTc : Type := List Nat × List Nat × List Nat
def sPart (w : Nat) (t : sTc) : List Nat := if w = 0 then t.1 else if w = 1 then t.2.1 else t.2.2
/-- what codes say -/
def tV (fa : Nat → Int32) (cs : List Nat) : Int32 := (pEv fa cs []).headD 0
theorem pEv_cong {fa fb : Nat → Int32} (h : ∀ c, 10000 ≤ c → c ≤ 10005 → fa c = fb c) : ∀ (cs : List Nat) (st : List Int32), pEv fa cs st = pEv fb cs st
  | [], _ => rfl
  | c :: cs, st => by
    simp only [pEv]
    have e : pStep fa c st = pStep fb c st := by
      unfold pStep
      split
      · split
        · rfl
        · rw [h c (by omega) (by omega)]
      · rfl
    rw [e, pEv_cong h cs]
/-- the facts that names tell -/
def sF (r : sR) (p d : Nat) : Nat → Int32 := fun c => nI (if c = 10000 then r 2 d else if c = 10001 then sPop (r 1 d) else if c = 10002 then r 4 p else if c = 10003 then r 7 2 else if c = 10004 then r 6 p else sPop (sAl (r 0) 8))
def sSays (tc : Nat → sTc) (r : sR) (w p d : Nat) : Int32 := sWi (tV (sF r p d) (sPart w (tc (r 7 5)))) 0 (if w = 2 then 99 else 999)
/-- the bounds -/
def sW (r : sR) (cnt : Nat) : Prop := (∀ j, r 0 j ≤ 9 ∧ r 1 j < 256 ∧ r 2 j ≤ 99 ∧ r 3 j ≤ 5 ∧ r 4 j ≤ 9 ∧ r 5 j ≤ 99 ∧ r 6 j ≤ 99) ∧ r 7 0 < 256 ∧ 1 ≤ r 7 1 ∧ r 7 1 ≤ 9 ∧ r 7 2 ≤ 5000 ∧ r 7 3 ≤ 99999 ∧ r 7 4 ≤ 4 ∧ r 7 5 < cnt
/-- the model's memory holds the republic r -/
def RM (z : xMem) (r : sR) : Prop := (∀ j, z.1 4 j = nI (r 0 j)) ∧ (∀ j, z.1 5 j = nI (r 1 j)) ∧ (∀ j, z.1 6 j = nI (r 2 j)) ∧ (∀ p, z.1 7 (4 * p) = nI (r 4 p)) ∧ (∀ p, z.1 7 (4 * p + 1) = nI (r 5 p)) ∧ (∀ p, z.1 7 (4 * p + 2) = nI (r 6 p)) ∧ (∀ p, z.1 7 (4 * p + 3) = nI (r 3 p)) ∧ z.1 0 9 = nI (r 7 0) ∧ z.1 0 7 = nI (r 7 1) ∧ z.1 0 8 = nI (r 7 2) ∧ z.1 0 10 = nI (r 7 3) ∧ z.1 0 15 = nI (r 7 4) ∧ z.1 0 4 = nI (r 7 5)
/-- .. and the texts tc -/
def TM (z : xMem) (cnt : Nat) (tc : Nat → sTc) : Prop := z.1 0 3 = nI cnt ∧ 1 ≤ cnt ∧ cnt ≤ 6 ∧ ∀ t, t < cnt → ∃ (bt : Nat → Nat) (n p : Nat), z.1 2 t = nI n ∧ n ≤ 160 ∧ (∀ i, i < n → z.1 1 (160 * t + i) = nI (bt i)) ∧ (∀ i, bt i < 256) ∧ pTx bt n 300 = (1, tc t, p)
/-- nothing changed but the model's scratch of saying -/
def KM (z z' : xMem) : Prop := (∀ q, q ≠ 0 → z'.1 q = z.1 q) ∧ (∀ j, (j < 16 ∨ 30 < j) → z'.1 0 j = z.1 0 j)
theorem KM_rf (z : xMem) : KM z z := ⟨fun _ _ => rfl, fun _ _ => rfl⟩
theorem KM_tr {a b c : xMem} (h1 : KM a b) (h2 : KM b c) : KM a c := ⟨fun q h => (h2.1 q h).trans (h1.1 q h), fun j h => (h2.2 j h).trans (h1.2 j h)⟩
theorem KM_put {a b : xMem} (h : KM a b) {j : Nat} (x : Int32) (hj : 16 ≤ j ∧ j ≤ 30) : KM a (mPut b 0 j x) := by
  refine ⟨fun q hq => ?_, fun i hi => ?_⟩
  · show (xUp b.1 0 (upd (b.1 0) j x)) q = _
    rw [xUp_ne hq]
    exact h.1 q hq
  · show (xUp b.1 0 (upd (b.1 0) j x)) 0 i = _
    rw [xUp_eq]
    show (if i = j then x else b.1 0 i) = _
    rw [if_neg (by omega)]
    exact h.2 i hi
theorem KM_2 {a b c : xMem} (h : KM a b) (h2 : pK2 b c) : KM a c := ⟨fun q hq => (h2.1 q hq).trans (h.1 q hq), fun j hj => (h2.2 j (by omega)).trans (h.2 j hj)⟩
theorem RM_K {z z' : xMem} {r : sR} (h : KM z z') (hr : RM z r) : RM z' r := by
  obtain ⟨a1, a2, a3, a4, a5, a6, a7, b1, b2, b3, b4, b5, b6⟩ := hr
  refine ⟨fun j => ?_, fun j => ?_, fun j => ?_, fun j => ?_, fun j => ?_, fun j => ?_, fun j => ?_, ?_, ?_, ?_, ?_, ?_, ?_⟩
  · rw [h.1 4 (by decide)]; exact a1 j
  · rw [h.1 5 (by decide)]; exact a2 j
  · rw [h.1 6 (by decide)]; exact a3 j
  · rw [h.1 7 (by decide)]; exact a4 j
  · rw [h.1 7 (by decide)]; exact a5 j
  · rw [h.1 7 (by decide)]; exact a6 j
  · rw [h.1 7 (by decide)]; exact a7 j
  · rw [h.2 9 (by omega)]; exact b1
  · rw [h.2 7 (by omega)]; exact b2
  · rw [h.2 8 (by omega)]; exact b3
  · rw [h.2 10 (by omega)]; exact b4
  · rw [h.2 15 (by omega)]; exact b5
  · rw [h.2 4 (by omega)]; exact b6
theorem TM_K {z z' : xMem} {cnt : Nat} {tc : Nat → sTc} (h : KM z z') (ht : TM z cnt tc) : TM z' cnt tc := by
  obtain ⟨h1, h2, h3, h4⟩ := ht
  refine ⟨(h.2 3 (by omega)).trans h1, h2, h3, fun t hl => ?_⟩
  obtain ⟨bt, n, p, a1, a2, a3, a4, a5⟩ := h4 t hl
  exact ⟨bt, n, p, by rw [h.1 2 (by decide)]; exact a1, a2, fun i hi => by rw [h.1 1 (by decide)]; exact a3 i hi, a4, a5⟩
theorem says_v {fa : Nat → Int32} {tc : Nat → sTc} {r : sR} {w p d : Nat} {v x : Int32} (h : pEv fa (if w = 0 then (tc (r 7 5)).1 else if w = 1 then (tc (r 7 5)).2.1 else (tc (r 7 5)).2.2) [] = [v]) (hx : (if w = 2 then (99 : Int32) else 999) = x) (hf : ∀ c, 10000 ≤ c → c ≤ 10005 → fa c = sF r p d c) : sWi v 0 x = sSays tc r w p d := by
  unfold sSays tV sPart
  rw [← pEv_cong hf, h, hx]
  rfl
theorem vp_4 {p : Nat} (h : p < 4) : vp_in (4 * nI p) 16 := by
  rw [show (4 : Int32) * nI p = nI (4 * p) from pk_mul 4 p]
  exact vp_in_nI (by omega) (by decide)
theorem vp_41 {p : Nat} (h : p < 4) : vp_in (4 * nI p + 1) 16 := by
  rw [show (4 : Int32) * nI p = nI (4 * p) from pk_mul 4 p, show nI (4 * p) + 1 = nI (4 * p + 1) from nI_add _ 1]
  exact vp_in_nI (by omega) (by decide)
theorem vp_42 {p : Nat} (h : p < 4) : vp_in (4 * nI p + 2) 16 := by
  rw [show (4 : Int32) * nI p = nI (4 * p) from pk_mul 4 p, show nI (4 * p) + 2 = nI (4 * p + 2) from nI_add _ 2]
  exact vp_in_nI (by omega) (by decide)
theorem vp_43 {p : Nat} (h : p < 4) : vp_in (4 * nI p + 3) 16 := by
  rw [show (4 : Int32) * nI p = nI (4 * p) from pk_mul 4 p, show nI (4 * p) + 3 = nI (4 * p + 3) from nI_add _ 3]
  exact vp_in_nI (by omega) (by decide)
end
section
/-! says of the model -/
set_option maxHeartbeats 4000000 in
set_option maxRecDepth 20000 in
theorem t_X6_says (l : Launch) (d : Nat) (w p e : Nat) (z : xMem) (r : sR) (cnt : Nat) (tc : Nat → sTc) (hr : RM z r) (hw : sW r cnt) (ht : TM z cnt tc) (hw3 : w < 3) (hp : p < 4) (he : e < 10) : XMi l (d + 308) yX6_says cX6_says 4 (some .int) shM [.ref 0, .int (nI w), .int (nI p), .int (nI e)] z (fun v z' => v = sSays tc r w p e ∧ KM z z') := by
  refine XM.of (by decide) (Nat.le_of_ble_eq_true rfl) (fun xp xe xs xm xar xbl xme xc xD xcs xad xAA xCC xhr => ?_)
  generalize xhQ : MQ xbl _ xar xs 0 0 xAA = xQ
  show ww xp l xe (xRm (d + 308)) xs xm xar xbl xme xc 4 xD xcs xad shM xAA xQ 0 [(0, .ref 0), (1, .int (nI w)), (2, .int (nI p)), (3, .int (nI e))] [] z
  obtain ⟨bt, n, pp, hq1, hq2, hq3, hq4, hq5⟩ := ht.2.2.2 (r 7 5) hw.2.2.2.2.2.2.2
  have hb := hw.1
  have hcn := hw.2.2.2.2.2.2.2
  have hc6 := ht.2.2.1
  refine ww_blk xCC okX6_says 0 11 (ps := [vp_in (nI e) 10, vp_in (nI e) 10]) (pc' := 17) (lv' := [(0, .ref 0), (1, .int (nI w)), (2, .int (nI p)), (3, .int (nI e))]) (st' := [.int (z.1 5 (nI e).toNatClampNeg), .ref 0]) (z' := (mPut z 0 16 (z.1 6 (nI e).toNatClampNeg))) rfl ⟨(vp_in_nI (by omega) (by decide)), (vp_in_nI (by omega) (by decide))⟩ ?_
  rw [sCL (n := e) (by omega)]
  rw [hr.2.1 e]
  rw [hr.2.2.1 e]
  refine ww_callSNi xCC okX6_says 11 (ix := 255) (t_X6_bitsOf l d (r 1 e) (Nat.lt_trans (hb e).2.1 (by decide)) _) (by omega) (by decide) xyX6_bitsOf xiX6_bitsOf (Or.inl (lw_gt_of (List.mem_of_getElem? (i := 1000) (by decide +kernel)) rfl)) rfl (rest := [.ref 0]) rfl (Nat.le_of_ble_eq_true rfl) rfl (fun v3 z1 h2 => ?_)
  rw [h2]
  refine ww_blk xCC okX6_says 12 25 (ps := [vp_in (4 * (nI p)) 16, vp_in ((4 * (nI p)) + 2) 16]) (pc' := 59) (lv' := [(0, .ref 0), (1, .int (nI w)), (2, .int (nI p)), (3, .int (nI e))]) (st' := [.ref 0, .ref 0]) (z' := (mPut (mPut (mPut (mPut (mPut z 0 16 (nI (r 2 e))) 0 17 (nI (sPop (r 1 e)))) 0 18 (z.1 7 (4 * (nI p)).toNatClampNeg)) 0 19 (z.1 0 8)) 0 20 (z.1 7 ((4 * (nI p)) + 2).toNatClampNeg))) rfl ⟨(vp_4 (by omega)), (vp_42 (by omega))⟩ ?_
  rw [show (4 : Int32) * nI p = nI (4 * p) from pk_mul 4 p]
  rw [sCL (n := (4 * p)) (by omega)]
  rw [show nI (4 * p) + 2 = nI (4 * p + 2) from nI_add (4 * p) 2]
  rw [sCL (n := (4 * p + 2)) (by omega)]
  rw [hr.2.2.2.1 p]
  rw [hr.2.2.2.2.2.1 p]
  rw [hr.2.2.2.2.2.2.2.2.2.1]
  refine ww_callVIi xCC okX6_says 37 (ix := 119) (t_X6_alive l d (mPut (mPut (mPut (mPut (mPut z 0 16 (nI (r 2 e))) 0 17 (nI (sPop (r 1 e)))) 0 18 (nI (r 4 p))) 0 19 (nI (r 7 2))) 0 20 (nI (r 6 p))) (r 0) hr.1 (fun j => Nat.lt_of_le_of_lt (hb j).1 (by decide))) (by omega) (by decide) xyX6_alive xiX6_alive (Or.inl (lw_gt_of (List.mem_of_getElem? (i := 1003) (by decide +kernel)) rfl)) rfl rfl rfl (rest := [.ref 0]) rfl (Nat.le_of_ble_eq_true rfl) rfl (fun v6 z4 h5 => ?_)
  rw [h5.1, h5.2]
  refine ww_callSNi xCC okX6_says 38 (ix := 255) (t_X6_bitsOf l d (sAl (r 0) 8) (Nat.lt_of_lt_of_le (sAl_lt (r 0) 8) (by decide)) _) (by omega) (by decide) xyX6_bitsOf xiX6_bitsOf (Or.inl (lw_gt_of (List.mem_of_getElem? (i := 1000) (by decide +kernel)) rfl)) rfl (rest := [.ref 0]) rfl (Nat.le_of_ble_eq_true rfl) rfl (fun v9 z7 h8 => ?_)
  rw [h8]
  refine ww_blk xCC okX6_says 39 5 (ps := []) (pc' := 74) (lv' := [(0, .ref 0), (1, .int (nI w)), (2, .int (nI p)), (3, .int (nI e))]) (st' := [.int (nI w), .int (z.1 0 4), .ref 0]) (z' := (mPut (mPut (mPut (mPut (mPut (mPut z 0 16 (nI (r 2 e))) 0 17 (nI (sPop (r 1 e)))) 0 18 (nI (r 4 p))) 0 19 (nI (r 7 2))) 0 20 (nI (r 6 p))) 0 21 (nI (sPop (sAl (r 0) 8))))) rfl trivial ?_
  rw [hr.2.2.2.2.2.2.2.2.2.2.2.2]
  refine ww_callVIi xCC okX6_says 44 (ix := 252) (t_X6_read l d bt n (r 7 5) w 300 (mPut (mPut (mPut (mPut (mPut (mPut z 0 16 (nI (r 2 e))) 0 17 (nI (sPop (r 1 e)))) 0 18 (nI (r 4 p))) 0 19 (nI (r 7 2))) 0 20 (nI (r 6 p))) 0 21 (nI (sPop (sAl (r 0) 8)))) 1 (tc (r 7 5)).1 (tc (r 7 5)).2.1 (tc (r 7 5)).2.2 pp (by omega) hw3 hq1 hq2 hq3 hq4 hq5 (by decide)) (by omega) (by decide) xyX6_read xiX6_read (Or.inl (lw_gt_of (List.mem_of_getElem? (i := 1007) (by decide +kernel)) rfl)) rfl rfl rfl (rest := []) rfl (Nat.le_of_ble_eq_true rfl) rfl (fun vA zA hA => ?_)
  obtain ⟨hKA, hA1⟩ := hA
  obtain ⟨-, hA2, hA3⟩ := hA1.resolve_right (fun q => absurd q.1 (by decide))
  refine ww_blk xCC okX6_says 45 3 (ps := []) (pc' := 80) (lv' := [(0, .ref 0), (1, .int (nI w)), (2, .int (nI p)), (3, .int (nI e))]) (st' := [.int 2, .int (nI w), .int 0, .int vA]) (z' := zA) rfl trivial ?_
  refine ww_br xCC okX6_says 48 (P := (nI w) = 2) (t1 := 83) (t2 := 88) (r := [.int 0, .int vA]) rfl (fun c10 => ?_) (fun c10 => ?_)
  · skip
    replace c10 : w = 2 := (sEQ (a := w) (b := 2) (by omega) (by omega)).mp c10
    have hw2 : (if w = 2 then (99 : Int32) else 999) = 99 := by rw [if_pos c10]
    refine ww_blk xCC okX6_says 49 2 (ps := []) (pc' := 91) (lv' := [(0, .ref 0), (1, .int (nI w)), (2, .int (nI p)), (3, .int (nI e))]) (st' := [.int 99, .int 0, .int vA]) (z' := zA) rfl trivial ?_
    refine ww_callSNi xCC okX6_says 52 (ix := 258) (t_X6_within l d vA 0 99 _) (by omega) (by decide) xyX6_within xiX6_within (Or.inl (lw_gt_of (List.mem_of_getElem? (i := 1078) (by decide +kernel)) rfl)) rfl (rest := []) rfl (Nat.le_of_ble_eq_true rfl) rfl (fun v13 z11 h12 => ?_)
    subst h12
    subst xhQ
    exact ww_iret xCC okX6_says 53 xhr rfl rfl ⟨_, rfl, ⟨(says_v hA3 hw2 (fun c q1 q2 => by rcases (show c = 10000 ∨ c = 10001 ∨ c = 10002 ∨ c = 10003 ∨ c = 10004 ∨ c = 10005 by omega) with rfl | rfl | rfl | rfl | rfl | rfl <;> rfl)), KM_2 (KM_put (KM_put (KM_put (KM_put (KM_put (KM_put (KM_rf z) _ (by omega)) _ (by omega)) _ (by omega)) _ (by omega)) _ (by omega)) _ (by omega)) hKA⟩⟩
  · skip
    replace c10 : ¬ w = 2 := fun q => c10 ((sEQ (a := w) (b := 2) (by omega) (by omega)).mpr q)
    have hw2 : (if w = 2 then (99 : Int32) else 999) = 999 := by rw [if_neg c10]
    refine ww_blk xCC okX6_says 51 1 (ps := []) (pc' := 91) (lv' := [(0, .ref 0), (1, .int (nI w)), (2, .int (nI p)), (3, .int (nI e))]) (st' := [.int 999, .int 0, .int vA]) (z' := zA) rfl trivial ?_
    refine ww_callSNi xCC okX6_says 52 (ix := 258) (t_X6_within l d vA 0 999 _) (by omega) (by decide) xyX6_within xiX6_within (Or.inl (lw_gt_of (List.mem_of_getElem? (i := 1078) (by decide +kernel)) rfl)) rfl (rest := []) rfl (Nat.le_of_ble_eq_true rfl) rfl (fun v16 z14 h15 => ?_)
    subst h15
    subst xhQ
    exact ww_iret xCC okX6_says 53 xhr rfl rfl ⟨_, rfl, ⟨(says_v hA3 hw2 (fun c q1 q2 => by rcases (show c = 10000 ∨ c = 10001 ∨ c = 10002 ∨ c = 10003 ∨ c = 10004 ∨ c = 10005 by omega) with rfl | rfl | rfl | rfl | rfl | rfl <;> rfl)), KM_2 (KM_put (KM_put (KM_put (KM_put (KM_put (KM_put (KM_rf z) _ (by omega)) _ (by omega)) _ (by omega)) _ (by omega)) _ (by omega)) _ (by omega)) hKA⟩⟩
end
section
/-! the republic's rules, and the model's isLastCall, costsOf, sitsBy -/
def bI (b : Bool) : Int32 := if b then 1 else 0
theorem sBit : ∀ i, i < 10 → ∀ a, a < 256 → (((nI a >>> (nI i &&& 31)) &&& 1 = 0) ↔ a.testBit i = false) := by decide +kernel
def sLa (r : sR) (e : Nat) : Nat → Bool
  | 0 => r 1 e != 0
  | k + 1 => sLa r e k && (!((r 1 e).testBit k) || r 0 k == 1)
theorem sLa_0y {r : sR} {e : Nat} (h : ¬ r 1 e = 0) : (1 : Int32) = bI (sLa r e 0) := by simp [sLa, bI, h]
theorem sLa_0n {r : sR} {e : Nat} (h : r 1 e = 0) : (0 : Int32) = bI (sLa r e 0) := by simp [sLa, bI, h]
theorem bI_and1 (b : Bool) : bI b &&& 1 = bI b := by cases b <;> decide
theorem bI_and0 (b : Bool) : bI b &&& 0 = 0 := by cases b <;> decide
theorem sLa_y {r : sR} {e i : Nat} (h : (r 1 e).testBit i = false ∨ r 0 i = 1) : bI (sLa r e i) &&& 1 = bI (sLa r e (i + 1)) := by
  rw [bI_and1, sLa]
  rcases h with h | h <;> simp [h]
theorem sLa_n {r : sR} {e i : Nat} (h : (r 1 e).testBit i = true) (h2 : ¬ r 0 i = 1) : bI (sLa r e i) &&& 0 = bI (sLa r e (i + 1)) := by
  rw [bI_and0, sLa]
  simp [h, h2, bI]
def sClerk (tc : Nat → sTc) (r : sR) (p e : Nat) : Int32 := sWi (sSays tc r 1 p e - nI (r 4 p)) 0 999
def sCosts (tc : Nat → sTc) (r : sR) (p e : Nat) : Int32 := sWi (if r 3 p = 1 then sSays tc r 1 p e / 2 else if r 3 p = 3 then sSays tc r 1 p e / 2 + 5 else if r 3 p = 2 then sWi (sSays tc r 1 p e - nI (r 4 p)) 0 999 else if r 3 p = 4 then sWi (sSays tc r 1 p e - nI (r 4 p)) 0 999 + nI (sPop (r 1 e)) else if r 3 p = 5 then 2 * sSays tc r 1 p e else sSays tc r 1 p e) 0 999
def sMn (v : Int32) : Int32 := if v < 3 then v else 3
def sSits (tc : Nat → sTc) (r : sR) (p e : Nat) : Int32 := if r 3 p = 1 then 0 else if r 3 p = 3 then (if r 4 p < 5 then 1 else 0) else sWi (if r 3 p = 2 then (if sSays tc r 2 p e < 3 then sSays tc r 2 p e else 3) else if r 3 p = 4 then 2 * (if sSays tc r 2 p e < 3 then sSays tc r 2 p e else 3) else if r 3 p = 5 then 1 + nI (r 6 p) else sSays tc r 2 p e) 0 99
set_option maxHeartbeats 4000000 in
set_option maxRecDepth 20000 in
theorem t_X6_isLastCall (l : Launch) (d : Nat) (e : Nat) (z : xMem) (r : sR) (cnt : Nat) (hr : RM z r) (hw : sW r cnt) (he : e < 10) : XMz l (d + 0) yX6_isLastCall cX6_isLastCall 4 (some .boolean) shM [.ref 0, .int (nI e)] z (fun z' => sLa r e 8 = true ∧ z' = z) (fun z' => sLa r e 8 = false ∧ z' = z) := by
  refine XM.of (by decide) (Nat.le_of_ble_eq_true rfl) (fun xp xe xs xm xar xbl xme xc xD xcs xad xAA xCC xhr => ?_)
  generalize xhQ : MQ xbl _ xar xs 0 0 xAA = xQ
  show ww xp l xe (xRm (d + 0)) xs xm xar xbl xme xc 4 xD xcs xad shM xAA xQ 0 [(0, .ref 0), (1, .int (nI e))] [] z
  have hb := hw.1
  have hbe := hb e
  refine ww_blk xCC okX6_isLastCall 0 4 (ps := [vp_in (nI e) 10]) (pc' := 6) (lv' := [(0, .ref 0), (1, .int (nI e))]) (st' := [.int (z.1 5 (nI e).toNatClampNeg)]) (z' := z) rfl (vp_in_nI (by omega) (by decide)) ?_
  rw [sCL (n := e) (by omega)]
  rw [hr.2.1 e]
  refine ww_br xCC okX6_isLastCall 4 (P := (nI (r 1 e)) = 0) (t1 := 13) (t2 := 9) (r := []) rfl (fun c1 => ?_) (fun c1 => ?_)
  · skip
    replace c1 : (r 1 e) = 0 := (sEQ (a := (r 1 e)) (b := 0) (by omega) (by omega)).mp c1
    have hq6 := c1
    refine ww_blk xCC okX6_isLastCall 7 4 (ps := []) (pc' := 17) (lv' := [(3, .int 0), (2, .int 0), (0, .ref 0), (1, .int (nI e))]) (st' := []) (z' := z) rfl trivial ?_
    have L17 : ∀ (n17 : Nat) (i : Nat), 8 - i < n17 → (i ≤ 8) → ww xp l xe (xRm (d + 0)) xs xm xar xbl xme xc 4 xD xcs xad shM xAA xQ 17 [(3, .int (nI i)), (2, .int (bI (sLa r e i))), (0, .ref 0), (1, .int (nI e))] [] z := by
      intro n17
      induction n17 with
      | zero =>
        intro i hmu17
        exact absurd hmu17 (Nat.not_lt_zero _)
      | succ n17 ih17 =>
        intro i hmu17 e17_0
        have hbi := hb i
        refine ww_blk xCC okX6_isLastCall 11 2 (ps := []) (pc' := 20) (lv' := [(3, .int (nI i)), (2, .int (bI (sLa r e i))), (0, .ref 0), (1, .int (nI e))]) (st' := [.int 8, .int (nI i)]) (z' := z) rfl trivial ?_
        refine ww_br xCC okX6_isLastCall 13 (P := 8 ≤ (nI i)) (t1 := 60) (t2 := 23) (r := []) rfl (fun c2 => ?_) (fun c2 => ?_)
        · skip
          replace c2 : 8 ≤ i := (sLE (a := 8) (b := i) (by omega) (by omega)).mp c2
          rcases Bool.eq_false_or_eq_true (sLa r e i) with hq | hq
          · skip
            rw [hq, show bI true = (1 : Int32) from rfl]
            refine ww_blk xCC okX6_isLastCall 37 1 (ps := []) (pc' := 61) (lv' := [(3, .int (nI i)), (2, .int 1), (0, .ref 0), (1, .int (nI e))]) (st' := [.int 1]) (z' := z) rfl trivial ?_
            subst xhQ
            exact ww_iret xCC okX6_isLastCall 38 xhr rfl (by decide) (Or.inl ⟨rfl, ⟨(by rw [show 8 = i by omega]; exact hq), rfl⟩⟩)
          · skip
            rw [hq, show bI false = (0 : Int32) from rfl]
            refine ww_blk xCC okX6_isLastCall 37 1 (ps := []) (pc' := 61) (lv' := [(3, .int (nI i)), (2, .int 0), (0, .ref 0), (1, .int (nI e))]) (st' := [.int 0]) (z' := z) rfl trivial ?_
            subst xhQ
            exact ww_iret xCC okX6_isLastCall 38 xhr rfl (by decide) (Or.inr ⟨rfl, ⟨(by rw [show 8 = i by omega]; exact hq), rfl⟩⟩)
        · skip
          replace c2 : ¬ 8 ≤ i := fun q => c2 ((sLE (a := 8) (b := i) (by omega) (by omega)).mpr q)
          refine ww_blk xCC okX6_isLastCall 14 9 (ps := [vp_in (nI e) 10]) (pc' := 34) (lv' := [(3, .int (nI i)), (2, .int (bI (sLa r e i))), (0, .ref 0), (1, .int (nI e))]) (st' := [.int (((z.1 5 (nI e).toNatClampNeg) >>> ((nI i) &&& 31)) &&& 1), .int (bI (sLa r e i))]) (z' := z) rfl (vp_in_nI (by omega) (by decide)) ?_
          rw [sCL (n := e) (by omega)]
          rw [hr.2.1 e]
          refine ww_br xCC okX6_isLastCall 23 (P := (((nI (r 1 e)) >>> ((nI i) &&& 31)) &&& 1) = 0) (t1 := 47) (t2 := 37) (r := [.int (bI (sLa r e i))]) rfl (fun c3 => ?_) (fun c3 => ?_)
          · skip
            have hq34 : (r 1 e).testBit i = false := (sBit i (by omega) (r 1 e) (by omega)).mp c3
            refine ww_blk xCC okX6_isLastCall 30 2 (ps := []) (pc' := 52) (lv' := [(3, .int (nI i)), (2, .int (bI (sLa r e i))), (0, .ref 0), (1, .int (nI e))]) (st' := [.int 1, .int (bI (sLa r e i))]) (z' := z) rfl trivial ?_
            refine ww_blk xCC okX6_isLastCall 33 4 (ps := []) (pc' := 17) (lv' := [(3, .int ((nI i) + 1)), (2, .int ((bI (sLa r e i)) &&& 1)), (0, .ref 0), (1, .int (nI e))]) (st' := []) (z' := z) rfl trivial ?_
            exact ww_cut [0, 1, 2, 3] (xlc (congrArg Value.int (show ((nI i) + 1 : Int32) = nI (i + 1) from nI_1 i)) (xlc (congrArg Value.int (show ((bI (sLa r e i)) &&& 1 : Int32) = bI (sLa r e (i + 1)) from (by first | exact sLa_n hq34 (by omega) | exact sLa_y (Or.inl hq34) | exact sLa_y (Or.inr (by omega))))) (xlc rfl (xlc rfl rfl)))) rfl rfl (ih17 (i + 1) (by omega) (by omega))
          · skip
            have hq34 : (r 1 e).testBit i = true := (Bool.eq_false_or_eq_true _).resolve_right (fun q => c3 ((sBit i (by omega) (r 1 e) (by omega)).mpr q))
            refine ww_blk xCC okX6_isLastCall 24 5 (ps := [vp_in (nI i) 8]) (pc' := 44) (lv' := [(3, .int (nI i)), (2, .int (bI (sLa r e i))), (0, .ref 0), (1, .int (nI e))]) (st' := [.int 1, .int (z.1 4 (nI i).toNatClampNeg), .int (bI (sLa r e i))]) (z' := z) rfl (vp_in_nI (by omega) (by decide)) ?_
            rw [sCL (n := i) (by omega)]
            rw [hr.1 i]
            refine ww_br xCC okX6_isLastCall 29 (P := (nI (r 0 i)) = 1) (t1 := 47) (t2 := 51) (r := [.int (bI (sLa r e i))]) rfl (fun c4 => ?_) (fun c4 => ?_)
            · skip
              replace c4 : (r 0 i) = 1 := (sEQ (a := (r 0 i)) (b := 1) (by omega) (by omega)).mp c4
              refine ww_blk xCC okX6_isLastCall 30 2 (ps := []) (pc' := 52) (lv' := [(3, .int (nI i)), (2, .int (bI (sLa r e i))), (0, .ref 0), (1, .int (nI e))]) (st' := [.int 1, .int (bI (sLa r e i))]) (z' := z) rfl trivial ?_
              refine ww_blk xCC okX6_isLastCall 33 4 (ps := []) (pc' := 17) (lv' := [(3, .int ((nI i) + 1)), (2, .int ((bI (sLa r e i)) &&& 1)), (0, .ref 0), (1, .int (nI e))]) (st' := []) (z' := z) rfl trivial ?_
              exact ww_cut [0, 1, 2, 3] (xlc (congrArg Value.int (show ((nI i) + 1 : Int32) = nI (i + 1) from nI_1 i)) (xlc (congrArg Value.int (show ((bI (sLa r e i)) &&& 1 : Int32) = bI (sLa r e (i + 1)) from (by first | exact sLa_n hq34 (by omega) | exact sLa_y (Or.inl hq34) | exact sLa_y (Or.inr (by omega))))) (xlc rfl (xlc rfl rfl)))) rfl rfl (ih17 (i + 1) (by omega) (by omega))
            · skip
              replace c4 : ¬ (r 0 i) = 1 := fun q => c4 ((sEQ (a := (r 0 i)) (b := 1) (by omega) (by omega)).mpr q)
              refine ww_blk xCC okX6_isLastCall 32 5 (ps := []) (pc' := 17) (lv' := [(3, .int ((nI i) + 1)), (2, .int ((bI (sLa r e i)) &&& 0)), (0, .ref 0), (1, .int (nI e))]) (st' := []) (z' := z) rfl trivial ?_
              exact ww_cut [0, 1, 2, 3] (xlc (congrArg Value.int (show ((nI i) + 1 : Int32) = nI (i + 1) from nI_1 i)) (xlc (congrArg Value.int (show ((bI (sLa r e i)) &&& 0 : Int32) = bI (sLa r e (i + 1)) from (by first | exact sLa_n hq34 (by omega) | exact sLa_y (Or.inl hq34) | exact sLa_y (Or.inr (by omega))))) (xlc rfl (xlc rfl rfl)))) rfl rfl (ih17 (i + 1) (by omega) (by omega))
    exact ww_cut [0, 1, 2, 3] (xlc (congrArg Value.int (show (0 : Int32) = nI 0 from rfl)) (xlc (congrArg Value.int (show (0 : Int32) = bI (sLa r e 0) from (by first | exact sLa_0y hq6 | exact sLa_0n hq6))) (xlc rfl (xlc rfl rfl)))) rfl rfl (L17 (8 - 0 + 1) 0 (Nat.lt_succ_self _) (by omega))
  · skip
    replace c1 : ¬ (r 1 e) = 0 := fun q => c1 ((sEQ (a := (r 1 e)) (b := 0) (by omega) (by omega)).mpr q)
    have hq6 := c1
    refine ww_blk xCC okX6_isLastCall 5 2 (ps := []) (pc' := 14) (lv' := [(0, .ref 0), (1, .int (nI e))]) (st' := [.int 1]) (z' := z) rfl trivial ?_
    refine ww_blk xCC okX6_isLastCall 8 3 (ps := []) (pc' := 17) (lv' := [(3, .int 0), (2, .int 1), (0, .ref 0), (1, .int (nI e))]) (st' := []) (z' := z) rfl trivial ?_
    have L17 : ∀ (n17 : Nat) (i : Nat), 8 - i < n17 → (i ≤ 8) → ww xp l xe (xRm (d + 0)) xs xm xar xbl xme xc 4 xD xcs xad shM xAA xQ 17 [(3, .int (nI i)), (2, .int (bI (sLa r e i))), (0, .ref 0), (1, .int (nI e))] [] z := by
      intro n17
      induction n17 with
      | zero =>
        intro i hmu17
        exact absurd hmu17 (Nat.not_lt_zero _)
      | succ n17 ih17 =>
        intro i hmu17 e17_0
        have hbi := hb i
        refine ww_blk xCC okX6_isLastCall 11 2 (ps := []) (pc' := 20) (lv' := [(3, .int (nI i)), (2, .int (bI (sLa r e i))), (0, .ref 0), (1, .int (nI e))]) (st' := [.int 8, .int (nI i)]) (z' := z) rfl trivial ?_
        refine ww_br xCC okX6_isLastCall 13 (P := 8 ≤ (nI i)) (t1 := 60) (t2 := 23) (r := []) rfl (fun c5 => ?_) (fun c5 => ?_)
        · skip
          replace c5 : 8 ≤ i := (sLE (a := 8) (b := i) (by omega) (by omega)).mp c5
          rcases Bool.eq_false_or_eq_true (sLa r e i) with hq | hq
          · skip
            rw [hq, show bI true = (1 : Int32) from rfl]
            refine ww_blk xCC okX6_isLastCall 37 1 (ps := []) (pc' := 61) (lv' := [(3, .int (nI i)), (2, .int 1), (0, .ref 0), (1, .int (nI e))]) (st' := [.int 1]) (z' := z) rfl trivial ?_
            subst xhQ
            exact ww_iret xCC okX6_isLastCall 38 xhr rfl (by decide) (Or.inl ⟨rfl, ⟨(by rw [show 8 = i by omega]; exact hq), rfl⟩⟩)
          · skip
            rw [hq, show bI false = (0 : Int32) from rfl]
            refine ww_blk xCC okX6_isLastCall 37 1 (ps := []) (pc' := 61) (lv' := [(3, .int (nI i)), (2, .int 0), (0, .ref 0), (1, .int (nI e))]) (st' := [.int 0]) (z' := z) rfl trivial ?_
            subst xhQ
            exact ww_iret xCC okX6_isLastCall 38 xhr rfl (by decide) (Or.inr ⟨rfl, ⟨(by rw [show 8 = i by omega]; exact hq), rfl⟩⟩)
        · skip
          replace c5 : ¬ 8 ≤ i := fun q => c5 ((sLE (a := 8) (b := i) (by omega) (by omega)).mpr q)
          refine ww_blk xCC okX6_isLastCall 14 9 (ps := [vp_in (nI e) 10]) (pc' := 34) (lv' := [(3, .int (nI i)), (2, .int (bI (sLa r e i))), (0, .ref 0), (1, .int (nI e))]) (st' := [.int (((z.1 5 (nI e).toNatClampNeg) >>> ((nI i) &&& 31)) &&& 1), .int (bI (sLa r e i))]) (z' := z) rfl (vp_in_nI (by omega) (by decide)) ?_
          rw [sCL (n := e) (by omega)]
          rw [hr.2.1 e]
          refine ww_br xCC okX6_isLastCall 23 (P := (((nI (r 1 e)) >>> ((nI i) &&& 31)) &&& 1) = 0) (t1 := 47) (t2 := 37) (r := [.int (bI (sLa r e i))]) rfl (fun c6 => ?_) (fun c6 => ?_)
          · skip
            have hq34 : (r 1 e).testBit i = false := (sBit i (by omega) (r 1 e) (by omega)).mp c6
            refine ww_blk xCC okX6_isLastCall 30 2 (ps := []) (pc' := 52) (lv' := [(3, .int (nI i)), (2, .int (bI (sLa r e i))), (0, .ref 0), (1, .int (nI e))]) (st' := [.int 1, .int (bI (sLa r e i))]) (z' := z) rfl trivial ?_
            refine ww_blk xCC okX6_isLastCall 33 4 (ps := []) (pc' := 17) (lv' := [(3, .int ((nI i) + 1)), (2, .int ((bI (sLa r e i)) &&& 1)), (0, .ref 0), (1, .int (nI e))]) (st' := []) (z' := z) rfl trivial ?_
            exact ww_cut [0, 1, 2, 3] (xlc (congrArg Value.int (show ((nI i) + 1 : Int32) = nI (i + 1) from nI_1 i)) (xlc (congrArg Value.int (show ((bI (sLa r e i)) &&& 1 : Int32) = bI (sLa r e (i + 1)) from (by first | exact sLa_n hq34 (by omega) | exact sLa_y (Or.inl hq34) | exact sLa_y (Or.inr (by omega))))) (xlc rfl (xlc rfl rfl)))) rfl rfl (ih17 (i + 1) (by omega) (by omega))
          · skip
            have hq34 : (r 1 e).testBit i = true := (Bool.eq_false_or_eq_true _).resolve_right (fun q => c6 ((sBit i (by omega) (r 1 e) (by omega)).mpr q))
            refine ww_blk xCC okX6_isLastCall 24 5 (ps := [vp_in (nI i) 8]) (pc' := 44) (lv' := [(3, .int (nI i)), (2, .int (bI (sLa r e i))), (0, .ref 0), (1, .int (nI e))]) (st' := [.int 1, .int (z.1 4 (nI i).toNatClampNeg), .int (bI (sLa r e i))]) (z' := z) rfl (vp_in_nI (by omega) (by decide)) ?_
            rw [sCL (n := i) (by omega)]
            rw [hr.1 i]
            refine ww_br xCC okX6_isLastCall 29 (P := (nI (r 0 i)) = 1) (t1 := 47) (t2 := 51) (r := [.int (bI (sLa r e i))]) rfl (fun c7 => ?_) (fun c7 => ?_)
            · skip
              replace c7 : (r 0 i) = 1 := (sEQ (a := (r 0 i)) (b := 1) (by omega) (by omega)).mp c7
              refine ww_blk xCC okX6_isLastCall 30 2 (ps := []) (pc' := 52) (lv' := [(3, .int (nI i)), (2, .int (bI (sLa r e i))), (0, .ref 0), (1, .int (nI e))]) (st' := [.int 1, .int (bI (sLa r e i))]) (z' := z) rfl trivial ?_
              refine ww_blk xCC okX6_isLastCall 33 4 (ps := []) (pc' := 17) (lv' := [(3, .int ((nI i) + 1)), (2, .int ((bI (sLa r e i)) &&& 1)), (0, .ref 0), (1, .int (nI e))]) (st' := []) (z' := z) rfl trivial ?_
              exact ww_cut [0, 1, 2, 3] (xlc (congrArg Value.int (show ((nI i) + 1 : Int32) = nI (i + 1) from nI_1 i)) (xlc (congrArg Value.int (show ((bI (sLa r e i)) &&& 1 : Int32) = bI (sLa r e (i + 1)) from (by first | exact sLa_n hq34 (by omega) | exact sLa_y (Or.inl hq34) | exact sLa_y (Or.inr (by omega))))) (xlc rfl (xlc rfl rfl)))) rfl rfl (ih17 (i + 1) (by omega) (by omega))
            · skip
              replace c7 : ¬ (r 0 i) = 1 := fun q => c7 ((sEQ (a := (r 0 i)) (b := 1) (by omega) (by omega)).mpr q)
              refine ww_blk xCC okX6_isLastCall 32 5 (ps := []) (pc' := 17) (lv' := [(3, .int ((nI i) + 1)), (2, .int ((bI (sLa r e i)) &&& 0)), (0, .ref 0), (1, .int (nI e))]) (st' := []) (z' := z) rfl trivial ?_
              exact ww_cut [0, 1, 2, 3] (xlc (congrArg Value.int (show ((nI i) + 1 : Int32) = nI (i + 1) from nI_1 i)) (xlc (congrArg Value.int (show ((bI (sLa r e i)) &&& 0 : Int32) = bI (sLa r e (i + 1)) from (by first | exact sLa_n hq34 (by omega) | exact sLa_y (Or.inl hq34) | exact sLa_y (Or.inr (by omega))))) (xlc rfl (xlc rfl rfl)))) rfl rfl (ih17 (i + 1) (by omega) (by omega))
    exact ww_cut [0, 1, 2, 3] (xlc (congrArg Value.int (show (0 : Int32) = nI 0 from rfl)) (xlc (congrArg Value.int (show (1 : Int32) = bI (sLa r e 0) from (by first | exact sLa_0y hq6 | exact sLa_0n hq6))) (xlc rfl (xlc rfl rfl)))) rfl rfl (L17 (8 - 0 + 1) 0 (Nat.lt_succ_self _) (by omega))

set_option maxHeartbeats 4000000 in
set_option maxRecDepth 20000 in
theorem t_X6_costsOf (l : Launch) (d : Nat) (p e : Nat) (z : xMem) (r : sR) (cnt : Nat) (tc : Nat → sTc) (hr : RM z r) (hw : sW r cnt) (ht : TM z cnt tc) (hp : p < 4) (he : e < 10) : XMi l (d + 309) yX6_costsOf cX6_costsOf 6 (some .int) shM [.ref 0, .int (nI p), .int (nI e)] z (fun v z' => v = sCosts tc r p e ∧ KM z z') := by
  refine XM.of (by decide) (Nat.le_of_ble_eq_true rfl) (fun xp xe xs xm xar xbl xme xc xD xcs xad xAA xCC xhr => ?_)
  generalize xhQ : MQ xbl _ xar xs 0 0 xAA = xQ
  show ww xp l xe (xRm (d + 309)) xs xm xar xbl xme xc 6 xD xcs xad shM xAA xQ 0 [(0, .ref 0), (1, .int (nI p)), (2, .int (nI e))] [] z
  have hb := hw.1
  have hbe := hb e
  have hbp := hb p
  refine ww_blk xCC okX6_costsOf 0 13 (ps := [vp_in ((4 * (nI p)) + 3) 16]) (pc' := 15) (lv' := [(3, .int (z.1 7 ((4 * (nI p)) + 3).toNatClampNeg)), (0, .ref 0), (1, .int (nI p)), (2, .int (nI e))]) (st' := [.int (nI e), .int (nI p), .int 1, .ref 0]) (z' := z) rfl (vp_43 (by omega)) ?_
  rw [show (4 : Int32) * nI p = nI (4 * p) from pk_mul 4 p]
  rw [show nI (4 * p) + 3 = nI (4 * p + 3) from nI_add (4 * p) 3]
  rw [sCL (n := (4 * p + 3)) (by omega)]
  rw [hr.2.2.2.2.2.2.1 p]
  refine ww_callVIi xCC okX6_costsOf 13 (ix := 262) (t_X6_says l d 1 p e z r cnt tc hr hw ht (by decide) (by omega) (by omega)) (by omega) (by decide) xyX6_says xiX6_says (Or.inl (lw_gt_of (List.mem_of_getElem? (i := 996) (by decide +kernel)) rfl)) rfl rfl rfl (rest := []) rfl (Nat.le_of_ble_eq_true rfl) rfl (fun v2 zS1 hS1 => ?_)
  have hrS1 := RM_K hS1.2 hr
  have htS1 := TM_K hS1.2 ht
  have hKS1 := KM_tr (KM_rf z) hS1.2
  rw [hS1.1]
  refine ww_blk xCC okX6_costsOf 14 11 (ps := [vp_in (4 * (nI p)) 16]) (pc' := 35) (lv' := [(4, .int (sSays tc r 1 p e)), (3, .int (nI (r 3 p))), (0, .ref 0), (1, .int (nI p)), (2, .int (nI e))]) (st' := [.int 999, .int 0, .int ((sSays tc r 1 p e) - (zS1.1 7 (4 * (nI p)).toNatClampNeg))]) (z' := zS1) rfl (vp_4 (by omega)) ?_
  rw [show (4 : Int32) * nI p = nI (4 * p) from pk_mul 4 p]
  rw [sCL (n := (4 * p)) (by omega)]
  rw [hrS1.2.2.2.1 p]
  refine ww_callSNi xCC okX6_costsOf 25 (ix := 258) (t_X6_within l d ((sSays tc r 1 p e) - (nI (r 4 p))) 0 999 _) (by omega) (by decide) xyX6_within xiX6_within (Or.inl (lw_gt_of (List.mem_of_getElem? (i := 1078) (by decide +kernel)) rfl)) rfl (rest := []) rfl (Nat.le_of_ble_eq_true rfl) rfl (fun v5 z3 h4 => ?_)
  subst h4
  refine ww_blk xCC okX6_costsOf 26 3 (ps := []) (pc' := 42) (lv' := [(5, .int (sWi ((sSays tc r 1 p e) - (nI (r 4 p))) 0 999)), (4, .int (sSays tc r 1 p e)), (3, .int (nI (r 3 p))), (0, .ref 0), (1, .int (nI p)), (2, .int (nI e))]) (st' := [.int 1, .int (nI (r 3 p))]) (z' := zS1) rfl trivial ?_
  refine ww_br xCC okX6_costsOf 29 (P := (nI (r 3 p)) = 1) (t1 := 45) (t2 := 52) (r := []) rfl (fun c6 => ?_) (fun c6 => ?_)
  · skip
    replace c6 : (r 3 p) = 1 := (sEQ (a := (r 3 p)) (b := 1) (by omega) (by omega)).mp c6
    refine ww_blk xCC okX6_costsOf 30 4 (ps := [¬ 2 = 0]) (pc' := 110) (lv' := [(5, .int (sWi ((sSays tc r 1 p e) - (nI (r 4 p))) 0 999)), (4, .int (sSays tc r 1 p e)), (3, .int (nI (r 3 p))), (0, .ref 0), (1, .int (nI p)), (2, .int (nI e))]) (st' := [.int ((sSays tc r 1 p e) / 2)]) (z' := zS1) rfl (show ¬ (2 : Int32) = 0 by decide) ?_
    refine ww_blk xCC okX6_costsOf 67 2 (ps := []) (pc' := 114) (lv' := [(5, .int (sWi ((sSays tc r 1 p e) - (nI (r 4 p))) 0 999)), (4, .int (sSays tc r 1 p e)), (3, .int (nI (r 3 p))), (0, .ref 0), (1, .int (nI p)), (2, .int (nI e))]) (st' := [.int 999, .int 0, .int ((sSays tc r 1 p e) / 2)]) (z' := zS1) rfl trivial ?_
    refine ww_callSNi xCC okX6_costsOf 69 (ix := 258) (t_X6_within l d ((sSays tc r 1 p e) / 2) 0 999 _) (by omega) (by decide) xyX6_within xiX6_within (Or.inl (lw_gt_of (List.mem_of_getElem? (i := 1078) (by decide +kernel)) rfl)) rfl (rest := []) rfl (Nat.le_of_ble_eq_true rfl) rfl (fun v9 z7 h8 => ?_)
    subst h8
    subst xhQ
    exact ww_iret xCC okX6_costsOf 70 xhr rfl rfl ⟨_, rfl, ⟨(by unfold sCosts; grind), hKS1⟩⟩
  · skip
    replace c6 : ¬ (r 3 p) = 1 := fun q => c6 ((sEQ (a := (r 3 p)) (b := 1) (by omega) (by omega)).mpr q)
    refine ww_blk xCC okX6_costsOf 34 2 (ps := []) (pc' := 54) (lv' := [(5, .int (sWi ((sSays tc r 1 p e) - (nI (r 4 p))) 0 999)), (4, .int (sSays tc r 1 p e)), (3, .int (nI (r 3 p))), (0, .ref 0), (1, .int (nI p)), (2, .int (nI e))]) (st' := [.int 3, .int (nI (r 3 p))]) (z' := zS1) rfl trivial ?_
    refine ww_br xCC okX6_costsOf 36 (P := (nI (r 3 p)) = 3) (t1 := 57) (t2 := 66) (r := []) rfl (fun c10 => ?_) (fun c10 => ?_)
    · skip
      replace c10 : (r 3 p) = 3 := (sEQ (a := (r 3 p)) (b := 3) (by omega) (by omega)).mp c10
      refine ww_blk xCC okX6_costsOf 37 6 (ps := [¬ 2 = 0]) (pc' := 110) (lv' := [(5, .int (sWi ((sSays tc r 1 p e) - (nI (r 4 p))) 0 999)), (4, .int (sSays tc r 1 p e)), (3, .int (nI (r 3 p))), (0, .ref 0), (1, .int (nI p)), (2, .int (nI e))]) (st' := [.int (((sSays tc r 1 p e) / 2) + 5)]) (z' := zS1) rfl (show ¬ (2 : Int32) = 0 by decide) ?_
      refine ww_blk xCC okX6_costsOf 67 2 (ps := []) (pc' := 114) (lv' := [(5, .int (sWi ((sSays tc r 1 p e) - (nI (r 4 p))) 0 999)), (4, .int (sSays tc r 1 p e)), (3, .int (nI (r 3 p))), (0, .ref 0), (1, .int (nI p)), (2, .int (nI e))]) (st' := [.int 999, .int 0, .int (((sSays tc r 1 p e) / 2) + 5)]) (z' := zS1) rfl trivial ?_
      refine ww_callSNi xCC okX6_costsOf 69 (ix := 258) (t_X6_within l d (((sSays tc r 1 p e) / 2) + 5) 0 999 _) (by omega) (by decide) xyX6_within xiX6_within (Or.inl (lw_gt_of (List.mem_of_getElem? (i := 1078) (by decide +kernel)) rfl)) rfl (rest := []) rfl (Nat.le_of_ble_eq_true rfl) rfl (fun v13 z11 h12 => ?_)
      subst h12
      subst xhQ
      exact ww_iret xCC okX6_costsOf 70 xhr rfl rfl ⟨_, rfl, ⟨(by unfold sCosts; grind), hKS1⟩⟩
    · skip
      replace c10 : ¬ (r 3 p) = 3 := fun q => c10 ((sEQ (a := (r 3 p)) (b := 3) (by omega) (by omega)).mpr q)
      refine ww_blk xCC okX6_costsOf 43 2 (ps := []) (pc' := 68) (lv' := [(5, .int (sWi ((sSays tc r 1 p e) - (nI (r 4 p))) 0 999)), (4, .int (sSays tc r 1 p e)), (3, .int (nI (r 3 p))), (0, .ref 0), (1, .int (nI p)), (2, .int (nI e))]) (st' := [.int 2, .int (nI (r 3 p))]) (z' := zS1) rfl trivial ?_
      refine ww_br xCC okX6_costsOf 45 (P := (nI (r 3 p)) = 2) (t1 := 71) (t2 := 76) (r := []) rfl (fun c14 => ?_) (fun c14 => ?_)
      · skip
        replace c14 : (r 3 p) = 2 := (sEQ (a := (r 3 p)) (b := 2) (by omega) (by omega)).mp c14
        refine ww_blk xCC okX6_costsOf 46 2 (ps := []) (pc' := 110) (lv' := [(5, .int (sWi ((sSays tc r 1 p e) - (nI (r 4 p))) 0 999)), (4, .int (sSays tc r 1 p e)), (3, .int (nI (r 3 p))), (0, .ref 0), (1, .int (nI p)), (2, .int (nI e))]) (st' := [.int (sWi ((sSays tc r 1 p e) - (nI (r 4 p))) 0 999)]) (z' := zS1) rfl trivial ?_
        refine ww_blk xCC okX6_costsOf 67 2 (ps := []) (pc' := 114) (lv' := [(5, .int (sWi ((sSays tc r 1 p e) - (nI (r 4 p))) 0 999)), (4, .int (sSays tc r 1 p e)), (3, .int (nI (r 3 p))), (0, .ref 0), (1, .int (nI p)), (2, .int (nI e))]) (st' := [.int 999, .int 0, .int (sWi ((sSays tc r 1 p e) - (nI (r 4 p))) 0 999)]) (z' := zS1) rfl trivial ?_
        refine ww_callSNi xCC okX6_costsOf 69 (ix := 258) (t_X6_within l d (sWi ((sSays tc r 1 p e) - (nI (r 4 p))) 0 999) 0 999 _) (by omega) (by decide) xyX6_within xiX6_within (Or.inl (lw_gt_of (List.mem_of_getElem? (i := 1078) (by decide +kernel)) rfl)) rfl (rest := []) rfl (Nat.le_of_ble_eq_true rfl) rfl (fun v17 z15 h16 => ?_)
        subst h16
        subst xhQ
        exact ww_iret xCC okX6_costsOf 70 xhr rfl rfl ⟨_, rfl, ⟨(by unfold sCosts; grind), hKS1⟩⟩
      · skip
        replace c14 : ¬ (r 3 p) = 2 := fun q => c14 ((sEQ (a := (r 3 p)) (b := 2) (by omega) (by omega)).mpr q)
        refine ww_blk xCC okX6_costsOf 48 2 (ps := []) (pc' := 78) (lv' := [(5, .int (sWi ((sSays tc r 1 p e) - (nI (r 4 p))) 0 999)), (4, .int (sSays tc r 1 p e)), (3, .int (nI (r 3 p))), (0, .ref 0), (1, .int (nI p)), (2, .int (nI e))]) (st' := [.int 4, .int (nI (r 3 p))]) (z' := zS1) rfl trivial ?_
        refine ww_br xCC okX6_costsOf 50 (P := (nI (r 3 p)) = 4) (t1 := 81) (t2 := 96) (r := []) rfl (fun c18 => ?_) (fun c18 => ?_)
        · skip
          replace c18 : (r 3 p) = 4 := (sEQ (a := (r 3 p)) (b := 4) (by omega) (by omega)).mp c18
          refine ww_blk xCC okX6_costsOf 51 5 (ps := [vp_in (nI e) 10]) (pc' := 89) (lv' := [(5, .int (sWi ((sSays tc r 1 p e) - (nI (r 4 p))) 0 999)), (4, .int (sSays tc r 1 p e)), (3, .int (nI (r 3 p))), (0, .ref 0), (1, .int (nI p)), (2, .int (nI e))]) (st' := [.int (zS1.1 5 (nI e).toNatClampNeg), .int (sWi ((sSays tc r 1 p e) - (nI (r 4 p))) 0 999)]) (z' := zS1) rfl (vp_in_nI (by omega) (by decide)) ?_
          rw [sCL (n := e) (by omega)]
          rw [hrS1.2.1 e]
          refine ww_callSNi xCC okX6_costsOf 56 (ix := 255) (t_X6_bitsOf l d (r 1 e) (Nat.lt_trans (hb e).2.1 (by decide)) _) (by omega) (by decide) xyX6_bitsOf xiX6_bitsOf (Or.inl (lw_gt_of (List.mem_of_getElem? (i := 1000) (by decide +kernel)) rfl)) rfl (rest := [.int (sWi ((sSays tc r 1 p e) - (nI (r 4 p))) 0 999)]) rfl (Nat.le_of_ble_eq_true rfl) rfl (fun v21 z19 h20 => ?_)
          rw [h20]
          refine ww_blk xCC okX6_costsOf 57 2 (ps := []) (pc' := 110) (lv' := [(5, .int (sWi ((sSays tc r 1 p e) - (nI (r 4 p))) 0 999)), (4, .int (sSays tc r 1 p e)), (3, .int (nI (r 3 p))), (0, .ref 0), (1, .int (nI p)), (2, .int (nI e))]) (st' := [.int ((sWi ((sSays tc r 1 p e) - (nI (r 4 p))) 0 999) + (nI (sPop (r 1 e))))]) (z' := zS1) rfl trivial ?_
          refine ww_blk xCC okX6_costsOf 67 2 (ps := []) (pc' := 114) (lv' := [(5, .int (sWi ((sSays tc r 1 p e) - (nI (r 4 p))) 0 999)), (4, .int (sSays tc r 1 p e)), (3, .int (nI (r 3 p))), (0, .ref 0), (1, .int (nI p)), (2, .int (nI e))]) (st' := [.int 999, .int 0, .int ((sWi ((sSays tc r 1 p e) - (nI (r 4 p))) 0 999) + (nI (sPop (r 1 e))))]) (z' := zS1) rfl trivial ?_
          refine ww_callSNi xCC okX6_costsOf 69 (ix := 258) (t_X6_within l d ((sWi ((sSays tc r 1 p e) - (nI (r 4 p))) 0 999) + (nI (sPop (r 1 e)))) 0 999 _) (by omega) (by decide) xyX6_within xiX6_within (Or.inl (lw_gt_of (List.mem_of_getElem? (i := 1078) (by decide +kernel)) rfl)) rfl (rest := []) rfl (Nat.le_of_ble_eq_true rfl) rfl (fun v24 z22 h23 => ?_)
          subst h23
          subst xhQ
          exact ww_iret xCC okX6_costsOf 70 xhr rfl rfl ⟨_, rfl, ⟨(by unfold sCosts; grind), hKS1⟩⟩
        · skip
          replace c18 : ¬ (r 3 p) = 4 := fun q => c18 ((sEQ (a := (r 3 p)) (b := 4) (by omega) (by omega)).mpr q)
          refine ww_blk xCC okX6_costsOf 59 2 (ps := []) (pc' := 98) (lv' := [(5, .int (sWi ((sSays tc r 1 p e) - (nI (r 4 p))) 0 999)), (4, .int (sSays tc r 1 p e)), (3, .int (nI (r 3 p))), (0, .ref 0), (1, .int (nI p)), (2, .int (nI e))]) (st' := [.int 5, .int (nI (r 3 p))]) (z' := zS1) rfl trivial ?_
          refine ww_br xCC okX6_costsOf 61 (P := (nI (r 3 p)) = 5) (t1 := 101) (t2 := 108) (r := []) rfl (fun c25 => ?_) (fun c25 => ?_)
          · skip
            replace c25 : (r 3 p) = 5 := (sEQ (a := (r 3 p)) (b := 5) (by omega) (by omega)).mp c25
            refine ww_blk xCC okX6_costsOf 62 4 (ps := []) (pc' := 110) (lv' := [(5, .int (sWi ((sSays tc r 1 p e) - (nI (r 4 p))) 0 999)), (4, .int (sSays tc r 1 p e)), (3, .int (nI (r 3 p))), (0, .ref 0), (1, .int (nI p)), (2, .int (nI e))]) (st' := [.int (2 * (sSays tc r 1 p e))]) (z' := zS1) rfl trivial ?_
            refine ww_blk xCC okX6_costsOf 67 2 (ps := []) (pc' := 114) (lv' := [(5, .int (sWi ((sSays tc r 1 p e) - (nI (r 4 p))) 0 999)), (4, .int (sSays tc r 1 p e)), (3, .int (nI (r 3 p))), (0, .ref 0), (1, .int (nI p)), (2, .int (nI e))]) (st' := [.int 999, .int 0, .int (2 * (sSays tc r 1 p e))]) (z' := zS1) rfl trivial ?_
            refine ww_callSNi xCC okX6_costsOf 69 (ix := 258) (t_X6_within l d (2 * (sSays tc r 1 p e)) 0 999 _) (by omega) (by decide) xyX6_within xiX6_within (Or.inl (lw_gt_of (List.mem_of_getElem? (i := 1078) (by decide +kernel)) rfl)) rfl (rest := []) rfl (Nat.le_of_ble_eq_true rfl) rfl (fun v28 z26 h27 => ?_)
            subst h27
            subst xhQ
            exact ww_iret xCC okX6_costsOf 70 xhr rfl rfl ⟨_, rfl, ⟨(by unfold sCosts; grind), hKS1⟩⟩
          · skip
            replace c25 : ¬ (r 3 p) = 5 := fun q => c25 ((sEQ (a := (r 3 p)) (b := 5) (by omega) (by omega)).mpr q)
            refine ww_blk xCC okX6_costsOf 66 3 (ps := []) (pc' := 114) (lv' := [(5, .int (sWi ((sSays tc r 1 p e) - (nI (r 4 p))) 0 999)), (4, .int (sSays tc r 1 p e)), (3, .int (nI (r 3 p))), (0, .ref 0), (1, .int (nI p)), (2, .int (nI e))]) (st' := [.int 999, .int 0, .int (sSays tc r 1 p e)]) (z' := zS1) rfl trivial ?_
            refine ww_callSNi xCC okX6_costsOf 69 (ix := 258) (t_X6_within l d (sSays tc r 1 p e) 0 999 _) (by omega) (by decide) xyX6_within xiX6_within (Or.inl (lw_gt_of (List.mem_of_getElem? (i := 1078) (by decide +kernel)) rfl)) rfl (rest := []) rfl (Nat.le_of_ble_eq_true rfl) rfl (fun v31 z29 h30 => ?_)
            subst h30
            subst xhQ
            exact ww_iret xCC okX6_costsOf 70 xhr rfl rfl ⟨_, rfl, ⟨(by unfold sCosts; grind), hKS1⟩⟩

set_option maxHeartbeats 4000000 in
set_option maxRecDepth 20000 in
theorem t_X6_sitsBy (l : Launch) (d : Nat) (p e : Nat) (z : xMem) (r : sR) (cnt : Nat) (tc : Nat → sTc) (hr : RM z r) (hw : sW r cnt) (ht : TM z cnt tc) (hp : p < 4) (he : e < 10) : XMi l (d + 309) yX6_sitsBy cX6_sitsBy 6 (some .int) shM [.ref 0, .int (nI p), .int (nI e)] z (fun v z' => v = sSits tc r p e ∧ KM z z') := by
  refine XM.of (by decide) (Nat.le_of_ble_eq_true rfl) (fun xp xe xs xm xar xbl xme xc xD xcs xad xAA xCC xhr => ?_)
  generalize xhQ : MQ xbl _ xar xs 0 0 xAA = xQ
  show ww xp l xe (xRm (d + 309)) xs xm xar xbl xme xc 6 xD xcs xad shM xAA xQ 0 [(0, .ref 0), (1, .int (nI p)), (2, .int (nI e))] [] z
  have hb := hw.1
  have hbe := hb e
  have hbp := hb p
  refine ww_blk xCC okX6_sitsBy 0 11 (ps := [vp_in ((4 * (nI p)) + 3) 16]) (pc' := 13) (lv' := [(3, .int (z.1 7 ((4 * (nI p)) + 3).toNatClampNeg)), (0, .ref 0), (1, .int (nI p)), (2, .int (nI e))]) (st' := [.int 1, .int (z.1 7 ((4 * (nI p)) + 3).toNatClampNeg)]) (z' := z) rfl (vp_43 (by omega)) ?_
  rw [show (4 : Int32) * nI p = nI (4 * p) from pk_mul 4 p]
  rw [show nI (4 * p) + 3 = nI (4 * p + 3) from nI_add (4 * p) 3]
  rw [sCL (n := (4 * p + 3)) (by omega)]
  rw [hr.2.2.2.2.2.2.1 p]
  refine ww_br xCC okX6_sitsBy 11 (P := (nI (r 3 p)) = 1) (t1 := 21) (t2 := 16) (r := []) rfl (fun c1 => ?_) (fun c1 => ?_)
  · skip
    replace c1 : (r 3 p) = 1 := (sEQ (a := (r 3 p)) (b := 1) (by omega) (by omega)).mp c1
    refine ww_blk xCC okX6_sitsBy 15 2 (ps := []) (pc' := 23) (lv' := [(3, .int (nI (r 3 p))), (0, .ref 0), (1, .int (nI p)), (2, .int (nI e))]) (st' := [.int 3, .int (nI (r 3 p))]) (z' := z) rfl trivial ?_
    refine ww_br xCC okX6_sitsBy 17 (P := (nI (r 3 p)) = 3) (t1 := 26) (t2 := 42) (r := []) rfl (fun c2 => ?_) (fun c2 => ?_)
    · skip
      replace c2 : (r 3 p) = 3 := (sEQ (a := (r 3 p)) (b := 3) (by omega) (by omega)).mp c2
      refine ww_blk xCC okX6_sitsBy 18 7 (ps := [vp_in (4 * (nI p)) 16]) (pc' := 35) (lv' := [(3, .int (nI (r 3 p))), (0, .ref 0), (1, .int (nI p)), (2, .int (nI e))]) (st' := [.int 5, .int (z.1 7 (4 * (nI p)).toNatClampNeg)]) (z' := z) rfl (vp_4 (by omega)) ?_
      rw [show (4 : Int32) * nI p = nI (4 * p) from pk_mul 4 p]
      rw [sCL (n := (4 * p)) (by omega)]
      rw [hr.2.2.2.1 p]
      refine ww_br xCC okX6_sitsBy 25 (P := 5 ≤ (nI (r 4 p))) (t1 := 42) (t2 := 38) (r := []) rfl (fun c3 => ?_) (fun c3 => ?_)
      · skip
        replace c3 : 5 ≤ (r 4 p) := (sLE (a := 5) (b := (r 4 p)) (by omega) (by omega)).mp c3
        refine ww_blk xCC okX6_sitsBy 28 1 (ps := []) (pc' := 43) (lv' := [(3, .int (nI (r 3 p))), (0, .ref 0), (1, .int (nI p)), (2, .int (nI e))]) (st' := [.int 0]) (z' := z) rfl trivial ?_
        subst xhQ
        exact ww_iret xCC okX6_sitsBy 29 xhr rfl rfl ⟨_, rfl, ⟨(by unfold sSits; grind), (KM_rf z)⟩⟩
      · skip
        replace c3 : ¬ 5 ≤ (r 4 p) := fun q => c3 ((sLE (a := 5) (b := (r 4 p)) (by omega) (by omega)).mpr q)
        refine ww_blk xCC okX6_sitsBy 26 2 (ps := []) (pc' := 43) (lv' := [(3, .int (nI (r 3 p))), (0, .ref 0), (1, .int (nI p)), (2, .int (nI e))]) (st' := [.int 1]) (z' := z) rfl trivial ?_
        subst xhQ
        exact ww_iret xCC okX6_sitsBy 29 xhr rfl rfl ⟨_, rfl, ⟨(by unfold sSits; grind), (KM_rf z)⟩⟩
    · skip
      replace c2 : ¬ (r 3 p) = 3 := fun q => c2 ((sEQ (a := (r 3 p)) (b := 3) (by omega) (by omega)).mpr q)
      refine ww_blk xCC okX6_sitsBy 28 1 (ps := []) (pc' := 43) (lv' := [(3, .int (nI (r 3 p))), (0, .ref 0), (1, .int (nI p)), (2, .int (nI e))]) (st' := [.int 0]) (z' := z) rfl trivial ?_
      subst xhQ
      exact ww_iret xCC okX6_sitsBy 29 xhr rfl rfl ⟨_, rfl, ⟨(by unfold sSits; grind), (KM_rf z)⟩⟩
  · skip
    replace c1 : ¬ (r 3 p) = 1 := fun q => c1 ((sEQ (a := (r 3 p)) (b := 1) (by omega) (by omega)).mpr q)
    refine ww_blk xCC okX6_sitsBy 12 2 (ps := []) (pc' := 18) (lv' := [(3, .int (nI (r 3 p))), (0, .ref 0), (1, .int (nI p)), (2, .int (nI e))]) (st' := [.int 3, .int (nI (r 3 p))]) (z' := z) rfl trivial ?_
    refine ww_br xCC okX6_sitsBy 14 (P := (nI (r 3 p)) = 3) (t1 := 21) (t2 := 44) (r := []) rfl (fun c4 => ?_) (fun c4 => ?_)
    · skip
      replace c4 : (r 3 p) = 3 := (sEQ (a := (r 3 p)) (b := 3) (by omega) (by omega)).mp c4
      refine ww_blk xCC okX6_sitsBy 15 2 (ps := []) (pc' := 23) (lv' := [(3, .int (nI (r 3 p))), (0, .ref 0), (1, .int (nI p)), (2, .int (nI e))]) (st' := [.int 3, .int (nI (r 3 p))]) (z' := z) rfl trivial ?_
      refine ww_br xCC okX6_sitsBy 17 (P := (nI (r 3 p)) = 3) (t1 := 26) (t2 := 42) (r := []) rfl (fun c5 => ?_) (fun c5 => ?_)
      · skip
        replace c5 : (r 3 p) = 3 := (sEQ (a := (r 3 p)) (b := 3) (by omega) (by omega)).mp c5
        refine ww_blk xCC okX6_sitsBy 18 7 (ps := [vp_in (4 * (nI p)) 16]) (pc' := 35) (lv' := [(3, .int (nI (r 3 p))), (0, .ref 0), (1, .int (nI p)), (2, .int (nI e))]) (st' := [.int 5, .int (z.1 7 (4 * (nI p)).toNatClampNeg)]) (z' := z) rfl (vp_4 (by omega)) ?_
        rw [show (4 : Int32) * nI p = nI (4 * p) from pk_mul 4 p]
        rw [sCL (n := (4 * p)) (by omega)]
        rw [hr.2.2.2.1 p]
        refine ww_br xCC okX6_sitsBy 25 (P := 5 ≤ (nI (r 4 p))) (t1 := 42) (t2 := 38) (r := []) rfl (fun c6 => ?_) (fun c6 => ?_)
        · skip
          replace c6 : 5 ≤ (r 4 p) := (sLE (a := 5) (b := (r 4 p)) (by omega) (by omega)).mp c6
          refine ww_blk xCC okX6_sitsBy 28 1 (ps := []) (pc' := 43) (lv' := [(3, .int (nI (r 3 p))), (0, .ref 0), (1, .int (nI p)), (2, .int (nI e))]) (st' := [.int 0]) (z' := z) rfl trivial ?_
          subst xhQ
          exact ww_iret xCC okX6_sitsBy 29 xhr rfl rfl ⟨_, rfl, ⟨(by unfold sSits; grind), (KM_rf z)⟩⟩
        · skip
          replace c6 : ¬ 5 ≤ (r 4 p) := fun q => c6 ((sLE (a := 5) (b := (r 4 p)) (by omega) (by omega)).mpr q)
          refine ww_blk xCC okX6_sitsBy 26 2 (ps := []) (pc' := 43) (lv' := [(3, .int (nI (r 3 p))), (0, .ref 0), (1, .int (nI p)), (2, .int (nI e))]) (st' := [.int 1]) (z' := z) rfl trivial ?_
          subst xhQ
          exact ww_iret xCC okX6_sitsBy 29 xhr rfl rfl ⟨_, rfl, ⟨(by unfold sSits; grind), (KM_rf z)⟩⟩
      · skip
        replace c5 : ¬ (r 3 p) = 3 := fun q => c5 ((sEQ (a := (r 3 p)) (b := 3) (by omega) (by omega)).mpr q)
        refine ww_blk xCC okX6_sitsBy 28 1 (ps := []) (pc' := 43) (lv' := [(3, .int (nI (r 3 p))), (0, .ref 0), (1, .int (nI p)), (2, .int (nI e))]) (st' := [.int 0]) (z' := z) rfl trivial ?_
        subst xhQ
        exact ww_iret xCC okX6_sitsBy 29 xhr rfl rfl ⟨_, rfl, ⟨(by unfold sSits; grind), (KM_rf z)⟩⟩
    · skip
      replace c4 : ¬ (r 3 p) = 3 := fun q => c4 ((sEQ (a := (r 3 p)) (b := 3) (by omega) (by omega)).mpr q)
      refine ww_blk xCC okX6_sitsBy 30 4 (ps := []) (pc' := 48) (lv' := [(3, .int (nI (r 3 p))), (0, .ref 0), (1, .int (nI p)), (2, .int (nI e))]) (st' := [.int (nI e), .int (nI p), .int 2, .ref 0]) (z' := z) rfl trivial ?_
      refine ww_callVIi xCC okX6_sitsBy 34 (ix := 262) (t_X6_says l d 2 p e z r cnt tc hr hw ht (by decide) (by omega) (by omega)) (by omega) (by decide) xyX6_says xiX6_says (Or.inl (lw_gt_of (List.mem_of_getElem? (i := 996) (by decide +kernel)) rfl)) rfl rfl rfl (rest := []) rfl (Nat.le_of_ble_eq_true rfl) rfl (fun v8 zS7 hS7 => ?_)
      have hrS7 := RM_K hS7.2 hr
      have htS7 := TM_K hS7.2 ht
      have hKS7 := KM_tr (KM_rf z) hS7.2
      rw [hS7.1]
      refine ww_blk xCC okX6_sitsBy 35 3 (ps := []) (pc' := 56) (lv' := [(4, .int (sSays tc r 2 p e)), (3, .int (nI (r 3 p))), (0, .ref 0), (1, .int (nI p)), (2, .int (nI e))]) (st' := [.int 3, .int (sSays tc r 2 p e)]) (z' := zS7) rfl trivial ?_
      refine ww_br xCC okX6_sitsBy 38 (P := 3 ≤ (sSays tc r 2 p e)) (t1 := 64) (t2 := 59) (r := []) rfl (fun c9 => ?_) (fun c9 => ?_)
      · skip
        refine ww_blk xCC okX6_sitsBy 41 4 (ps := []) (pc' := 69) (lv' := [(5, .int 3), (4, .int (sSays tc r 2 p e)), (3, .int (nI (r 3 p))), (0, .ref 0), (1, .int (nI p)), (2, .int (nI e))]) (st' := [.int 2, .int (nI (r 3 p))]) (z' := zS7) rfl trivial ?_
        refine ww_br xCC okX6_sitsBy 45 (P := (nI (r 3 p)) = 2) (t1 := 72) (t2 := 77) (r := []) rfl (fun c10 => ?_) (fun c10 => ?_)
        · skip
          replace c10 : (r 3 p) = 2 := (sEQ (a := (r 3 p)) (b := 2) (by omega) (by omega)).mp c10
          refine ww_blk xCC okX6_sitsBy 46 2 (ps := []) (pc' := 111) (lv' := [(5, .int 3), (4, .int (sSays tc r 2 p e)), (3, .int (nI (r 3 p))), (0, .ref 0), (1, .int (nI p)), (2, .int (nI e))]) (st' := [.int 3]) (z' := zS7) rfl trivial ?_
          refine ww_blk xCC okX6_sitsBy 70 2 (ps := []) (pc' := 114) (lv' := [(5, .int 3), (4, .int (sSays tc r 2 p e)), (3, .int (nI (r 3 p))), (0, .ref 0), (1, .int (nI p)), (2, .int (nI e))]) (st' := [.int 99, .int 0, .int 3]) (z' := zS7) rfl trivial ?_
          refine ww_callSNi xCC okX6_sitsBy 72 (ix := 258) (t_X6_within l d 3 0 99 _) (by omega) (by decide) xyX6_within xiX6_within (Or.inl (lw_gt_of (List.mem_of_getElem? (i := 1078) (by decide +kernel)) rfl)) rfl (rest := []) rfl (Nat.le_of_ble_eq_true rfl) rfl (fun v13 z11 h12 => ?_)
          subst h12
          subst xhQ
          exact ww_iret xCC okX6_sitsBy 73 xhr rfl rfl ⟨_, rfl, ⟨(by unfold sSits; grind), hKS7⟩⟩
        · skip
          replace c10 : ¬ (r 3 p) = 2 := fun q => c10 ((sEQ (a := (r 3 p)) (b := 2) (by omega) (by omega)).mpr q)
          refine ww_blk xCC okX6_sitsBy 48 2 (ps := []) (pc' := 79) (lv' := [(5, .int 3), (4, .int (sSays tc r 2 p e)), (3, .int (nI (r 3 p))), (0, .ref 0), (1, .int (nI p)), (2, .int (nI e))]) (st' := [.int 4, .int (nI (r 3 p))]) (z' := zS7) rfl trivial ?_
          refine ww_br xCC okX6_sitsBy 50 (P := (nI (r 3 p)) = 4) (t1 := 82) (t2 := 89) (r := []) rfl (fun c14 => ?_) (fun c14 => ?_)
          · skip
            replace c14 : (r 3 p) = 4 := (sEQ (a := (r 3 p)) (b := 4) (by omega) (by omega)).mp c14
            refine ww_blk xCC okX6_sitsBy 51 4 (ps := []) (pc' := 111) (lv' := [(5, .int 3), (4, .int (sSays tc r 2 p e)), (3, .int (nI (r 3 p))), (0, .ref 0), (1, .int (nI p)), (2, .int (nI e))]) (st' := [.int (2 * 3)]) (z' := zS7) rfl trivial ?_
            refine ww_blk xCC okX6_sitsBy 70 2 (ps := []) (pc' := 114) (lv' := [(5, .int 3), (4, .int (sSays tc r 2 p e)), (3, .int (nI (r 3 p))), (0, .ref 0), (1, .int (nI p)), (2, .int (nI e))]) (st' := [.int 99, .int 0, .int (2 * 3)]) (z' := zS7) rfl trivial ?_
            refine ww_callSNi xCC okX6_sitsBy 72 (ix := 258) (t_X6_within l d (2 * 3) 0 99 _) (by omega) (by decide) xyX6_within xiX6_within (Or.inl (lw_gt_of (List.mem_of_getElem? (i := 1078) (by decide +kernel)) rfl)) rfl (rest := []) rfl (Nat.le_of_ble_eq_true rfl) rfl (fun v17 z15 h16 => ?_)
            subst h16
            subst xhQ
            exact ww_iret xCC okX6_sitsBy 73 xhr rfl rfl ⟨_, rfl, ⟨(by unfold sSits; grind), hKS7⟩⟩
          · skip
            replace c14 : ¬ (r 3 p) = 4 := fun q => c14 ((sEQ (a := (r 3 p)) (b := 4) (by omega) (by omega)).mpr q)
            refine ww_blk xCC okX6_sitsBy 55 2 (ps := []) (pc' := 91) (lv' := [(5, .int 3), (4, .int (sSays tc r 2 p e)), (3, .int (nI (r 3 p))), (0, .ref 0), (1, .int (nI p)), (2, .int (nI e))]) (st' := [.int 5, .int (nI (r 3 p))]) (z' := zS7) rfl trivial ?_
            refine ww_br xCC okX6_sitsBy 57 (P := (nI (r 3 p)) = 5) (t1 := 94) (t2 := 109) (r := []) rfl (fun c18 => ?_) (fun c18 => ?_)
            · skip
              replace c18 : (r 3 p) = 5 := (sEQ (a := (r 3 p)) (b := 5) (by omega) (by omega)).mp c18
              refine ww_blk xCC okX6_sitsBy 58 11 (ps := [vp_in ((4 * (nI p)) + 2) 16]) (pc' := 111) (lv' := [(5, .int 3), (4, .int (sSays tc r 2 p e)), (3, .int (nI (r 3 p))), (0, .ref 0), (1, .int (nI p)), (2, .int (nI e))]) (st' := [.int (1 + (zS7.1 7 ((4 * (nI p)) + 2).toNatClampNeg))]) (z' := zS7) rfl (vp_42 (by omega)) ?_
              rw [show (4 : Int32) * nI p = nI (4 * p) from pk_mul 4 p]
              rw [show nI (4 * p) + 2 = nI (4 * p + 2) from nI_add (4 * p) 2]
              rw [sCL (n := (4 * p + 2)) (by omega)]
              rw [hrS7.2.2.2.2.2.1 p]
              refine ww_blk xCC okX6_sitsBy 70 2 (ps := []) (pc' := 114) (lv' := [(5, .int 3), (4, .int (sSays tc r 2 p e)), (3, .int (nI (r 3 p))), (0, .ref 0), (1, .int (nI p)), (2, .int (nI e))]) (st' := [.int 99, .int 0, .int (1 + (nI (r 6 p)))]) (z' := zS7) rfl trivial ?_
              refine ww_callSNi xCC okX6_sitsBy 72 (ix := 258) (t_X6_within l d (1 + (nI (r 6 p))) 0 99 _) (by omega) (by decide) xyX6_within xiX6_within (Or.inl (lw_gt_of (List.mem_of_getElem? (i := 1078) (by decide +kernel)) rfl)) rfl (rest := []) rfl (Nat.le_of_ble_eq_true rfl) rfl (fun v21 z19 h20 => ?_)
              subst h20
              subst xhQ
              exact ww_iret xCC okX6_sitsBy 73 xhr rfl rfl ⟨_, rfl, ⟨(by unfold sSits; grind), hKS7⟩⟩
            · skip
              replace c18 : ¬ (r 3 p) = 5 := fun q => c18 ((sEQ (a := (r 3 p)) (b := 5) (by omega) (by omega)).mpr q)
              refine ww_blk xCC okX6_sitsBy 69 3 (ps := []) (pc' := 114) (lv' := [(5, .int 3), (4, .int (sSays tc r 2 p e)), (3, .int (nI (r 3 p))), (0, .ref 0), (1, .int (nI p)), (2, .int (nI e))]) (st' := [.int 99, .int 0, .int (sSays tc r 2 p e)]) (z' := zS7) rfl trivial ?_
              refine ww_callSNi xCC okX6_sitsBy 72 (ix := 258) (t_X6_within l d (sSays tc r 2 p e) 0 99 _) (by omega) (by decide) xyX6_within xiX6_within (Or.inl (lw_gt_of (List.mem_of_getElem? (i := 1078) (by decide +kernel)) rfl)) rfl (rest := []) rfl (Nat.le_of_ble_eq_true rfl) rfl (fun v24 z22 h23 => ?_)
              subst h23
              subst xhQ
              exact ww_iret xCC okX6_sitsBy 73 xhr rfl rfl ⟨_, rfl, ⟨(by unfold sSits; grind), hKS7⟩⟩
      · skip
        refine ww_blk xCC okX6_sitsBy 39 2 (ps := []) (pc' := 65) (lv' := [(4, .int (sSays tc r 2 p e)), (3, .int (nI (r 3 p))), (0, .ref 0), (1, .int (nI p)), (2, .int (nI e))]) (st' := [.int (sSays tc r 2 p e)]) (z' := zS7) rfl trivial ?_
        refine ww_blk xCC okX6_sitsBy 42 3 (ps := []) (pc' := 69) (lv' := [(5, .int (sSays tc r 2 p e)), (4, .int (sSays tc r 2 p e)), (3, .int (nI (r 3 p))), (0, .ref 0), (1, .int (nI p)), (2, .int (nI e))]) (st' := [.int 2, .int (nI (r 3 p))]) (z' := zS7) rfl trivial ?_
        refine ww_br xCC okX6_sitsBy 45 (P := (nI (r 3 p)) = 2) (t1 := 72) (t2 := 77) (r := []) rfl (fun c25 => ?_) (fun c25 => ?_)
        · skip
          replace c25 : (r 3 p) = 2 := (sEQ (a := (r 3 p)) (b := 2) (by omega) (by omega)).mp c25
          refine ww_blk xCC okX6_sitsBy 46 2 (ps := []) (pc' := 111) (lv' := [(5, .int (sSays tc r 2 p e)), (4, .int (sSays tc r 2 p e)), (3, .int (nI (r 3 p))), (0, .ref 0), (1, .int (nI p)), (2, .int (nI e))]) (st' := [.int (sSays tc r 2 p e)]) (z' := zS7) rfl trivial ?_
          refine ww_blk xCC okX6_sitsBy 70 2 (ps := []) (pc' := 114) (lv' := [(5, .int (sSays tc r 2 p e)), (4, .int (sSays tc r 2 p e)), (3, .int (nI (r 3 p))), (0, .ref 0), (1, .int (nI p)), (2, .int (nI e))]) (st' := [.int 99, .int 0, .int (sSays tc r 2 p e)]) (z' := zS7) rfl trivial ?_
          refine ww_callSNi xCC okX6_sitsBy 72 (ix := 258) (t_X6_within l d (sSays tc r 2 p e) 0 99 _) (by omega) (by decide) xyX6_within xiX6_within (Or.inl (lw_gt_of (List.mem_of_getElem? (i := 1078) (by decide +kernel)) rfl)) rfl (rest := []) rfl (Nat.le_of_ble_eq_true rfl) rfl (fun v28 z26 h27 => ?_)
          subst h27
          subst xhQ
          exact ww_iret xCC okX6_sitsBy 73 xhr rfl rfl ⟨_, rfl, ⟨(by unfold sSits; grind), hKS7⟩⟩
        · skip
          replace c25 : ¬ (r 3 p) = 2 := fun q => c25 ((sEQ (a := (r 3 p)) (b := 2) (by omega) (by omega)).mpr q)
          refine ww_blk xCC okX6_sitsBy 48 2 (ps := []) (pc' := 79) (lv' := [(5, .int (sSays tc r 2 p e)), (4, .int (sSays tc r 2 p e)), (3, .int (nI (r 3 p))), (0, .ref 0), (1, .int (nI p)), (2, .int (nI e))]) (st' := [.int 4, .int (nI (r 3 p))]) (z' := zS7) rfl trivial ?_
          refine ww_br xCC okX6_sitsBy 50 (P := (nI (r 3 p)) = 4) (t1 := 82) (t2 := 89) (r := []) rfl (fun c29 => ?_) (fun c29 => ?_)
          · skip
            replace c29 : (r 3 p) = 4 := (sEQ (a := (r 3 p)) (b := 4) (by omega) (by omega)).mp c29
            refine ww_blk xCC okX6_sitsBy 51 4 (ps := []) (pc' := 111) (lv' := [(5, .int (sSays tc r 2 p e)), (4, .int (sSays tc r 2 p e)), (3, .int (nI (r 3 p))), (0, .ref 0), (1, .int (nI p)), (2, .int (nI e))]) (st' := [.int (2 * (sSays tc r 2 p e))]) (z' := zS7) rfl trivial ?_
            refine ww_blk xCC okX6_sitsBy 70 2 (ps := []) (pc' := 114) (lv' := [(5, .int (sSays tc r 2 p e)), (4, .int (sSays tc r 2 p e)), (3, .int (nI (r 3 p))), (0, .ref 0), (1, .int (nI p)), (2, .int (nI e))]) (st' := [.int 99, .int 0, .int (2 * (sSays tc r 2 p e))]) (z' := zS7) rfl trivial ?_
            refine ww_callSNi xCC okX6_sitsBy 72 (ix := 258) (t_X6_within l d (2 * (sSays tc r 2 p e)) 0 99 _) (by omega) (by decide) xyX6_within xiX6_within (Or.inl (lw_gt_of (List.mem_of_getElem? (i := 1078) (by decide +kernel)) rfl)) rfl (rest := []) rfl (Nat.le_of_ble_eq_true rfl) rfl (fun v32 z30 h31 => ?_)
            subst h31
            subst xhQ
            exact ww_iret xCC okX6_sitsBy 73 xhr rfl rfl ⟨_, rfl, ⟨(by unfold sSits; grind), hKS7⟩⟩
          · skip
            replace c29 : ¬ (r 3 p) = 4 := fun q => c29 ((sEQ (a := (r 3 p)) (b := 4) (by omega) (by omega)).mpr q)
            refine ww_blk xCC okX6_sitsBy 55 2 (ps := []) (pc' := 91) (lv' := [(5, .int (sSays tc r 2 p e)), (4, .int (sSays tc r 2 p e)), (3, .int (nI (r 3 p))), (0, .ref 0), (1, .int (nI p)), (2, .int (nI e))]) (st' := [.int 5, .int (nI (r 3 p))]) (z' := zS7) rfl trivial ?_
            refine ww_br xCC okX6_sitsBy 57 (P := (nI (r 3 p)) = 5) (t1 := 94) (t2 := 109) (r := []) rfl (fun c33 => ?_) (fun c33 => ?_)
            · skip
              replace c33 : (r 3 p) = 5 := (sEQ (a := (r 3 p)) (b := 5) (by omega) (by omega)).mp c33
              refine ww_blk xCC okX6_sitsBy 58 11 (ps := [vp_in ((4 * (nI p)) + 2) 16]) (pc' := 111) (lv' := [(5, .int (sSays tc r 2 p e)), (4, .int (sSays tc r 2 p e)), (3, .int (nI (r 3 p))), (0, .ref 0), (1, .int (nI p)), (2, .int (nI e))]) (st' := [.int (1 + (zS7.1 7 ((4 * (nI p)) + 2).toNatClampNeg))]) (z' := zS7) rfl (vp_42 (by omega)) ?_
              rw [show (4 : Int32) * nI p = nI (4 * p) from pk_mul 4 p]
              rw [show nI (4 * p) + 2 = nI (4 * p + 2) from nI_add (4 * p) 2]
              rw [sCL (n := (4 * p + 2)) (by omega)]
              rw [hrS7.2.2.2.2.2.1 p]
              refine ww_blk xCC okX6_sitsBy 70 2 (ps := []) (pc' := 114) (lv' := [(5, .int (sSays tc r 2 p e)), (4, .int (sSays tc r 2 p e)), (3, .int (nI (r 3 p))), (0, .ref 0), (1, .int (nI p)), (2, .int (nI e))]) (st' := [.int 99, .int 0, .int (1 + (nI (r 6 p)))]) (z' := zS7) rfl trivial ?_
              refine ww_callSNi xCC okX6_sitsBy 72 (ix := 258) (t_X6_within l d (1 + (nI (r 6 p))) 0 99 _) (by omega) (by decide) xyX6_within xiX6_within (Or.inl (lw_gt_of (List.mem_of_getElem? (i := 1078) (by decide +kernel)) rfl)) rfl (rest := []) rfl (Nat.le_of_ble_eq_true rfl) rfl (fun v36 z34 h35 => ?_)
              subst h35
              subst xhQ
              exact ww_iret xCC okX6_sitsBy 73 xhr rfl rfl ⟨_, rfl, ⟨(by unfold sSits; grind), hKS7⟩⟩
            · skip
              replace c33 : ¬ (r 3 p) = 5 := fun q => c33 ((sEQ (a := (r 3 p)) (b := 5) (by omega) (by omega)).mpr q)
              refine ww_blk xCC okX6_sitsBy 69 3 (ps := []) (pc' := 114) (lv' := [(5, .int (sSays tc r 2 p e)), (4, .int (sSays tc r 2 p e)), (3, .int (nI (r 3 p))), (0, .ref 0), (1, .int (nI p)), (2, .int (nI e))]) (st' := [.int 99, .int 0, .int (sSays tc r 2 p e)]) (z' := zS7) rfl trivial ?_
              refine ww_callSNi xCC okX6_sitsBy 72 (ix := 258) (t_X6_within l d (sSays tc r 2 p e) 0 99 _) (by omega) (by decide) xyX6_within xiX6_within (Or.inl (lw_gt_of (List.mem_of_getElem? (i := 1078) (by decide +kernel)) rfl)) rfl (rest := []) rfl (Nat.le_of_ble_eq_true rfl) rfl (fun v39 z37 h38 => ?_)
              subst h38
              subst xhQ
              exact ww_iret xCC okX6_sitsBy 73 xhr rfl rfl ⟨_, rfl, ⟨(by unfold sSits; grind), hKS7⟩⟩
end
