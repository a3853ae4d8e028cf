-- ===== PART A: goes FIRST, ahead of the names: the tables' words, and 'selects' of the private methods out of them =====
/-- a private method of a class that the tables say can be made, by its rows of tables_1 -/
def lw_okq (q : MethodName × Nat) : Prop := (q.1.cls ≠ "java/lang/invoke/MethodHandle" ∧ q.1.cls ≠ "java/lang/invoke/VarHandle") ∧ Cond.instantiable q.1.cls q.2 ∈ tables_1 ∧ Cond.privateMethod q.1 ∈ tables_1 ∧ Cond.instanceMethod q.1 ∈ tables_1
theorem lw_p0 : lw_okq (⟨"StepMarks$Marked", "add", "(III)V"⟩, 8) := ⟨⟨by decide +kernel, by decide +kernel⟩, List.mem_of_getElem? (i := 35) (by decide +kernel), List.mem_of_getElem? (i := 320) (by decide +kernel), List.mem_of_getElem? (i := 321) (by decide +kernel)⟩
theorem lw_p1 : lw_okq (⟨"StepMarks$Marked", "addPlaces", "(LStepMarks$Code;)V"⟩, 8) := ⟨⟨by decide +kernel, by decide +kernel⟩, List.mem_of_getElem? (i := 35) (by decide +kernel), List.mem_of_getElem? (i := 324) (by decide +kernel), List.mem_of_getElem? (i := 325) (by decide +kernel)⟩
theorem lw_p2 : lw_okq (⟨"StepMarks$Marked", "addJumps", "(LStepMarks$Code;)V"⟩, 8) := ⟨⟨by decide +kernel, by decide +kernel⟩, List.mem_of_getElem? (i := 35) (by decide +kernel), List.mem_of_getElem? (i := 336) (by decide +kernel), List.mem_of_getElem? (i := 337) (by decide +kernel)⟩
theorem lw_p3 : lw_okq (⟨"StepMarks$Marked", "addLead", "(I)I"⟩, 8) := ⟨⟨by decide +kernel, by decide +kernel⟩, List.mem_of_getElem? (i := 35) (by decide +kernel), List.mem_of_getElem? (i := 349) (by decide +kernel), List.mem_of_getElem? (i := 350) (by decide +kernel)⟩
theorem lw_p4 : lw_okq (⟨"StepMarks$Marked", "addHandlers", "(LStepMarks$Code;)V"⟩, 8) := ⟨⟨by decide +kernel, by decide +kernel⟩, List.mem_of_getElem? (i := 35) (by decide +kernel), List.mem_of_getElem? (i := 353) (by decide +kernel), List.mem_of_getElem? (i := 354) (by decide +kernel)⟩
theorem lw_p5 : lw_okq (⟨"StepMarks$Machine", "beginFrame", "(LStepMarks$Code;JLStepMarks$Pacer;)V"⟩, 7) := ⟨⟨by decide +kernel, by decide +kernel⟩, List.mem_of_getElem? (i := 122) (by decide +kernel), List.mem_of_getElem? (i := 417) (by decide +kernel), List.mem_of_getElem? (i := 418) (by decide +kernel)⟩
theorem lw_p6 : lw_okq (⟨"StepMarks$Machine", "stop", "()V"⟩, 7) := ⟨⟨by decide +kernel, by decide +kernel⟩, List.mem_of_getElem? (i := 122) (by decide +kernel), List.mem_of_getElem? (i := 421) (by decide +kernel), List.mem_of_getElem? (i := 422) (by decide +kernel)⟩
theorem lw_p7 : lw_okq (⟨"StepMarks$Machine", "top", "()LStepMarks$Frame;"⟩, 7) := ⟨⟨by decide +kernel, by decide +kernel⟩, List.mem_of_getElem? (i := 122) (by decide +kernel), List.mem_of_getElem? (i := 483) (by decide +kernel), List.mem_of_getElem? (i := 484) (by decide +kernel)⟩
theorem lw_p8 : lw_okq (⟨"StepMarks$Machine", "perform", "(LStepMarks$Frame;LStepMarks$Pacer;)I"⟩, 7) := ⟨⟨by decide +kernel, by decide +kernel⟩, List.mem_of_getElem? (i := 122) (by decide +kernel), List.mem_of_getElem? (i := 510) (by decide +kernel), List.mem_of_getElem? (i := 511) (by decide +kernel)⟩
theorem lw_p9 : lw_okq (⟨"StepMarks$Machine", "leap", "(LStepMarks$Frame;LStepMarks$Pacer;)V"⟩, 7) := ⟨⟨by decide +kernel, by decide +kernel⟩, List.mem_of_getElem? (i := 122) (by decide +kernel), List.mem_of_getElem? (i := 521) (by decide +kernel), List.mem_of_getElem? (i := 522) (by decide +kernel)⟩
theorem lw_p10 : lw_okq (⟨"StepMarks$Machine", "make", "(LStepMarks$Frame;IJ)I"⟩, 7) := ⟨⟨by decide +kernel, by decide +kernel⟩, List.mem_of_getElem? (i := 122) (by decide +kernel), List.mem_of_getElem? (i := 542) (by decide +kernel), List.mem_of_getElem? (i := 543) (by decide +kernel)⟩
theorem lw_p11 : lw_okq (⟨"StepMarks$Row", "holdsThings", "()Z"⟩, 3) := ⟨⟨by decide +kernel, by decide +kernel⟩, List.mem_of_getElem? (i := 180) (by decide +kernel), List.mem_of_getElem? (i := 552) (by decide +kernel), List.mem_of_getElem? (i := 553) (by decide +kernel)⟩
theorem lw_p12 : lw_okq (⟨"StepMarks$Machine", "look", "(LStepMarks$Frame;I)I"⟩, 7) := ⟨⟨by decide +kernel, by decide +kernel⟩, List.mem_of_getElem? (i := 122) (by decide +kernel), List.mem_of_getElem? (i := 557) (by decide +kernel), List.mem_of_getElem? (i := 558) (by decide +kernel)⟩
theorem lw_p13 : lw_okq (⟨"StepMarks$Row", "fitted", "(J)J"⟩, 3) := ⟨⟨by decide +kernel, by decide +kernel⟩, List.mem_of_getElem? (i := 180) (by decide +kernel), List.mem_of_getElem? (i := 574) (by decide +kernel), List.mem_of_getElem? (i := 575) (by decide +kernel)⟩
theorem lw_p14 : lw_okq (⟨"StepMarks$Machine", "giveBack", "(LStepMarks$Frame;J)V"⟩, 7) := ⟨⟨by decide +kernel, by decide +kernel⟩, List.mem_of_getElem? (i := 122) (by decide +kernel), List.mem_of_getElem? (i := 590) (by decide +kernel), List.mem_of_getElem? (i := 591) (by decide +kernel)⟩
theorem lw_p15 : lw_okq (⟨"StepMarks$Machine", "endFrame", "(LStepMarks$Frame;)V"⟩, 7) := ⟨⟨by decide +kernel, by decide +kernel⟩, List.mem_of_getElem? (i := 122) (by decide +kernel), List.mem_of_getElem? (i := 594) (by decide +kernel), List.mem_of_getElem? (i := 595) (by decide +kernel)⟩
def lw_privs_1 : List (MethodName × Nat) := [(⟨"StepMarks$Marked", "add", "(III)V"⟩, 8), (⟨"StepMarks$Marked", "addPlaces", "(LStepMarks$Code;)V"⟩, 8), (⟨"StepMarks$Marked", "addJumps", "(LStepMarks$Code;)V"⟩, 8), (⟨"StepMarks$Marked", "addLead", "(I)I"⟩, 8), (⟨"StepMarks$Marked", "addHandlers", "(LStepMarks$Code;)V"⟩, 8), (⟨"StepMarks$Machine", "beginFrame", "(LStepMarks$Code;JLStepMarks$Pacer;)V"⟩, 7), (⟨"StepMarks$Machine", "stop", "()V"⟩, 7), (⟨"StepMarks$Machine", "top", "()LStepMarks$Frame;"⟩, 7), (⟨"StepMarks$Machine", "perform", "(LStepMarks$Frame;LStepMarks$Pacer;)I"⟩, 7), (⟨"StepMarks$Machine", "leap", "(LStepMarks$Frame;LStepMarks$Pacer;)V"⟩, 7), (⟨"StepMarks$Machine", "make", "(LStepMarks$Frame;IJ)I"⟩, 7), (⟨"StepMarks$Row", "holdsThings", "()Z"⟩, 3), (⟨"StepMarks$Machine", "look", "(LStepMarks$Frame;I)I"⟩, 7), (⟨"StepMarks$Row", "fitted", "(J)J"⟩, 3), (⟨"StepMarks$Machine", "giveBack", "(LStepMarks$Frame;J)V"⟩, 7), (⟨"StepMarks$Machine", "endFrame", "(LStepMarks$Frame;)V"⟩, 7)]
theorem lw_r1 : ∀ q ∈ lw_privs_1, lw_okq q := List.forall_mem_cons.mpr ⟨lw_p0, List.forall_mem_cons.mpr ⟨lw_p1, List.forall_mem_cons.mpr ⟨lw_p2, List.forall_mem_cons.mpr ⟨lw_p3, List.forall_mem_cons.mpr ⟨lw_p4, List.forall_mem_cons.mpr ⟨lw_p5, List.forall_mem_cons.mpr ⟨lw_p6, List.forall_mem_cons.mpr ⟨lw_p7, List.forall_mem_cons.mpr ⟨lw_p8, List.forall_mem_cons.mpr ⟨lw_p9, List.forall_mem_cons.mpr ⟨lw_p10, List.forall_mem_cons.mpr ⟨lw_p11, List.forall_mem_cons.mpr ⟨lw_p12, List.forall_mem_cons.mpr ⟨lw_p13, List.forall_mem_cons.mpr ⟨lw_p14, List.forall_mem_cons.mpr ⟨lw_p15, fun _ h => absurd h List.not_mem_nil⟩⟩⟩⟩⟩⟩⟩⟩⟩⟩⟩⟩⟩⟩⟩⟩
theorem lw_p16 : lw_okq (⟨"StepMarks$Machine", "hold", "(LStepMarks$Frame;J)I"⟩, 7) := ⟨⟨by decide +kernel, by decide +kernel⟩, List.mem_of_getElem? (i := 122) (by decide +kernel), List.mem_of_getElem? (i := 602) (by decide +kernel), List.mem_of_getElem? (i := 603) (by decide +kernel)⟩
theorem lw_p17 : lw_okq (⟨"StepMarks$Machine", "let", "(LStepMarks$Frame;J)I"⟩, 7) := ⟨⟨by decide +kernel, by decide +kernel⟩, List.mem_of_getElem? (i := 122) (by decide +kernel), List.mem_of_getElem? (i := 612) (by decide +kernel), List.mem_of_getElem? (i := 613) (by decide +kernel)⟩
theorem lw_p18 : lw_okq (⟨"StepMarks$Machine", "reckon", "(LStepMarks$Frame;I)I"⟩, 7) := ⟨⟨by decide +kernel, by decide +kernel⟩, List.mem_of_getElem? (i := 122) (by decide +kernel), List.mem_of_getElem? (i := 620) (by decide +kernel), List.mem_of_getElem? (i := 621) (by decide +kernel)⟩
theorem lw_p19 : lw_okq (⟨"StepMarks$Machine", "raise", "(ILStepMarks$Pacer;)V"⟩, 7) := ⟨⟨by decide +kernel, by decide +kernel⟩, List.mem_of_getElem? (i := 122) (by decide +kernel), List.mem_of_getElem? (i := 624) (by decide +kernel), List.mem_of_getElem? (i := 625) (by decide +kernel)⟩
theorem lw_p20 : lw_okq (⟨"StepMarks$Machine", "handOver", "(LStepMarks$Frame;IILStepMarks$Pacer;)V"⟩, 7) := ⟨⟨by decide +kernel, by decide +kernel⟩, List.mem_of_getElem? (i := 122) (by decide +kernel), List.mem_of_getElem? (i := 632) (by decide +kernel), List.mem_of_getElem? (i := 633) (by decide +kernel)⟩
theorem lw_p21 : lw_okq (⟨"StepMarksModel", "isMethod", "(I)Z"⟩, 40) := ⟨⟨by decide +kernel, by decide +kernel⟩, List.mem_of_getElem? (i := 698) (by decide +kernel), List.mem_of_getElem? (i := 833) (by decide +kernel), List.mem_of_getElem? (i := 834) (by decide +kernel)⟩
theorem lw_p22 : lw_okq (⟨"StepMarksModel", "isLarge", "(I)Z"⟩, 40) := ⟨⟨by decide +kernel, by decide +kernel⟩, List.mem_of_getElem? (i := 698) (by decide +kernel), List.mem_of_getElem? (i := 861) (by decide +kernel), List.mem_of_getElem? (i := 862) (by decide +kernel)⟩
theorem lw_p23 : lw_okq (⟨"StepMarksModel", "countOf", "(I)I"⟩, 40) := ⟨⟨by decide +kernel, by decide +kernel⟩, List.mem_of_getElem? (i := 698) (by decide +kernel), List.mem_of_getElem? (i := 865) (by decide +kernel), List.mem_of_getElem? (i := 866) (by decide +kernel)⟩
theorem lw_p24 : lw_okq (⟨"StepMarksModel", "isBack", "(II)Z"⟩, 40) := ⟨⟨by decide +kernel, by decide +kernel⟩, List.mem_of_getElem? (i := 698) (by decide +kernel), List.mem_of_getElem? (i := 869) (by decide +kernel), List.mem_of_getElem? (i := 870) (by decide +kernel)⟩
theorem lw_p25 : lw_okq (⟨"StepMarksModel", "mark", "(I)V"⟩, 40) := ⟨⟨by decide +kernel, by decide +kernel⟩, List.mem_of_getElem? (i := 698) (by decide +kernel), List.mem_of_getElem? (i := 877) (by decide +kernel), List.mem_of_getElem? (i := 878) (by decide +kernel)⟩
theorem lw_p26 : lw_okq (⟨"StepMarksModel", "lay", "(III)V"⟩, 40) := ⟨⟨by decide +kernel, by decide +kernel⟩, List.mem_of_getElem? (i := 698) (by decide +kernel), List.mem_of_getElem? (i := 881) (by decide +kernel), List.mem_of_getElem? (i := 882) (by decide +kernel)⟩
theorem lw_p27 : lw_okq (⟨"StepMarksModel", "beginOf", "(II)I"⟩, 40) := ⟨⟨by decide +kernel, by decide +kernel⟩, List.mem_of_getElem? (i := 698) (by decide +kernel), List.mem_of_getElem? (i := 885) (by decide +kernel), List.mem_of_getElem? (i := 886) (by decide +kernel)⟩
theorem lw_p28 : lw_okq (⟨"StepMarksModel", "runs", "(IJI)I"⟩, 40) := ⟨⟨by decide +kernel, by decide +kernel⟩, List.mem_of_getElem? (i := 698) (by decide +kernel), List.mem_of_getElem? (i := 900) (by decide +kernel), List.mem_of_getElem? (i := 901) (by decide +kernel)⟩
theorem lw_p29 : lw_okq (⟨"StepMarksModel", "enter", "(IJ)V"⟩, 40) := ⟨⟨by decide +kernel, by decide +kernel⟩, List.mem_of_getElem? (i := 698) (by decide +kernel), List.mem_of_getElem? (i := 905) (by decide +kernel), List.mem_of_getElem? (i := 906) (by decide +kernel)⟩
theorem lw_p30 : lw_okq (⟨"StepMarksModel", "counts", "(J)Z"⟩, 40) := ⟨⟨by decide +kernel, by decide +kernel⟩, List.mem_of_getElem? (i := 698) (by decide +kernel), List.mem_of_getElem? (i := 909) (by decide +kernel), List.mem_of_getElem? (i := 910) (by decide +kernel)⟩
theorem lw_p31 : lw_okq (⟨"StepMarksModel", "isPaid", "(I)Z"⟩, 40) := ⟨⟨by decide +kernel, by decide +kernel⟩, List.mem_of_getElem? (i := 698) (by decide +kernel), List.mem_of_getElem? (i := 913) (by decide +kernel), List.mem_of_getElem? (i := 914) (by decide +kernel)⟩
def lw_privs_2 : List (MethodName × Nat) := [(⟨"StepMarks$Machine", "hold", "(LStepMarks$Frame;J)I"⟩, 7), (⟨"StepMarks$Machine", "let", "(LStepMarks$Frame;J)I"⟩, 7), (⟨"StepMarks$Machine", "reckon", "(LStepMarks$Frame;I)I"⟩, 7), (⟨"StepMarks$Machine", "raise", "(ILStepMarks$Pacer;)V"⟩, 7), (⟨"StepMarks$Machine", "handOver", "(LStepMarks$Frame;IILStepMarks$Pacer;)V"⟩, 7), (⟨"StepMarksModel", "isMethod", "(I)Z"⟩, 40), (⟨"StepMarksModel", "isLarge", "(I)Z"⟩, 40), (⟨"StepMarksModel", "countOf", "(I)I"⟩, 40), (⟨"StepMarksModel", "isBack", "(II)Z"⟩, 40), (⟨"StepMarksModel", "mark", "(I)V"⟩, 40), (⟨"StepMarksModel", "lay", "(III)V"⟩, 40), (⟨"StepMarksModel", "beginOf", "(II)I"⟩, 40), (⟨"StepMarksModel", "runs", "(IJI)I"⟩, 40), (⟨"StepMarksModel", "enter", "(IJ)V"⟩, 40), (⟨"StepMarksModel", "counts", "(J)Z"⟩, 40), (⟨"StepMarksModel", "isPaid", "(I)Z"⟩, 40)]
theorem lw_r2 : ∀ q ∈ lw_privs_2, lw_okq q := List.forall_mem_cons.mpr ⟨lw_p16, List.forall_mem_cons.mpr ⟨lw_p17, List.forall_mem_cons.mpr ⟨lw_p18, List.forall_mem_cons.mpr ⟨lw_p19, List.forall_mem_cons.mpr ⟨lw_p20, List.forall_mem_cons.mpr ⟨lw_p21, List.forall_mem_cons.mpr ⟨lw_p22, List.forall_mem_cons.mpr ⟨lw_p23, List.forall_mem_cons.mpr ⟨lw_p24, List.forall_mem_cons.mpr ⟨lw_p25, List.forall_mem_cons.mpr ⟨lw_p26, List.forall_mem_cons.mpr ⟨lw_p27, List.forall_mem_cons.mpr ⟨lw_p28, List.forall_mem_cons.mpr ⟨lw_p29, List.forall_mem_cons.mpr ⟨lw_p30, List.forall_mem_cons.mpr ⟨lw_p31, fun _ h => absurd h List.not_mem_nil⟩⟩⟩⟩⟩⟩⟩⟩⟩⟩⟩⟩⟩⟩⟩⟩
theorem lw_p32 : lw_okq (⟨"StepMarksModel", "begins", "()V"⟩, 40) := ⟨⟨by decide +kernel, by decide +kernel⟩, List.mem_of_getElem? (i := 698) (by decide +kernel), List.mem_of_getElem? (i := 918) (by decide +kernel), List.mem_of_getElem? (i := 919) (by decide +kernel)⟩
theorem lw_p33 : lw_okq (⟨"StepMarksModel", "work", "(I)V"⟩, 40) := ⟨⟨by decide +kernel, by decide +kernel⟩, List.mem_of_getElem? (i := 698) (by decide +kernel), List.mem_of_getElem? (i := 922) (by decide +kernel), List.mem_of_getElem? (i := 923) (by decide +kernel)⟩
theorem lw_p34 : lw_okq (⟨"StepMarksModel", "returns", "(J)V"⟩, 40) := ⟨⟨by decide +kernel, by decide +kernel⟩, List.mem_of_getElem? (i := 698) (by decide +kernel), List.mem_of_getElem? (i := 926) (by decide +kernel), List.mem_of_getElem? (i := 927) (by decide +kernel)⟩
theorem lw_p35 : lw_okq (⟨"StepMarksModel", "leave", "()V"⟩, 40) := ⟨⟨by decide +kernel, by decide +kernel⟩, List.mem_of_getElem? (i := 698) (by decide +kernel), List.mem_of_getElem? (i := 930) (by decide +kernel), List.mem_of_getElem? (i := 931) (by decide +kernel)⟩
theorem lw_p36 : lw_okq (⟨"StepMarksModel", "divides", "(IIIZ)V"⟩, 40) := ⟨⟨by decide +kernel, by decide +kernel⟩, List.mem_of_getElem? (i := 698) (by decide +kernel), List.mem_of_getElem? (i := 934) (by decide +kernel), List.mem_of_getElem? (i := 935) (by decide +kernel)⟩
theorem lw_p37 : lw_okq (⟨"StepMarksModel", "fails", "(II)V"⟩, 40) := ⟨⟨by decide +kernel, by decide +kernel⟩, List.mem_of_getElem? (i := 698) (by decide +kernel), List.mem_of_getElem? (i := 938) (by decide +kernel), List.mem_of_getElem? (i := 939) (by decide +kernel)⟩
theorem lw_p38 : lw_okq (⟨"StepMarksModel", "takes", "(II)V"⟩, 40) := ⟨⟨by decide +kernel, by decide +kernel⟩, List.mem_of_getElem? (i := 698) (by decide +kernel), List.mem_of_getElem? (i := 942) (by decide +kernel), List.mem_of_getElem? (i := 943) (by decide +kernel)⟩
theorem lw_p39 : lw_okq (⟨"StepMarksModel", "jumps", "(II)V"⟩, 40) := ⟨⟨by decide +kernel, by decide +kernel⟩, List.mem_of_getElem? (i := 698) (by decide +kernel), List.mem_of_getElem? (i := 946) (by decide +kernel), List.mem_of_getElem? (i := 947) (by decide +kernel)⟩
theorem lw_p40 : lw_okq (⟨"StepMarksModel", "guards", "(IIZ)V"⟩, 40) := ⟨⟨by decide +kernel, by decide +kernel⟩, List.mem_of_getElem? (i := 698) (by decide +kernel), List.mem_of_getElem? (i := 950) (by decide +kernel), List.mem_of_getElem? (i := 951) (by decide +kernel)⟩
theorem lw_p41 : lw_okq (⟨"StepMarksModel", "rows", "(IIIII)V"⟩, 40) := ⟨⟨by decide +kernel, by decide +kernel⟩, List.mem_of_getElem? (i := 698) (by decide +kernel), List.mem_of_getElem? (i := 954) (by decide +kernel), List.mem_of_getElem? (i := 955) (by decide +kernel)⟩
theorem lw_p42 : lw_okq (⟨"StepMarksModel", "makes", "(IJI)V"⟩, 40) := ⟨⟨by decide +kernel, by decide +kernel⟩, List.mem_of_getElem? (i := 698) (by decide +kernel), List.mem_of_getElem? (i := 958) (by decide +kernel), List.mem_of_getElem? (i := 959) (by decide +kernel)⟩
def lw_privs_3 : List (MethodName × Nat) := [(⟨"StepMarksModel", "begins", "()V"⟩, 40), (⟨"StepMarksModel", "work", "(I)V"⟩, 40), (⟨"StepMarksModel", "returns", "(J)V"⟩, 40), (⟨"StepMarksModel", "leave", "()V"⟩, 40), (⟨"StepMarksModel", "divides", "(IIIZ)V"⟩, 40), (⟨"StepMarksModel", "fails", "(II)V"⟩, 40), (⟨"StepMarksModel", "takes", "(II)V"⟩, 40), (⟨"StepMarksModel", "jumps", "(II)V"⟩, 40), (⟨"StepMarksModel", "guards", "(IIZ)V"⟩, 40), (⟨"StepMarksModel", "rows", "(IIIII)V"⟩, 40), (⟨"StepMarksModel", "makes", "(IJI)V"⟩, 40)]
theorem lw_r3 : ∀ q ∈ lw_privs_3, lw_okq q := List.forall_mem_cons.mpr ⟨lw_p32, List.forall_mem_cons.mpr ⟨lw_p33, List.forall_mem_cons.mpr ⟨lw_p34, List.forall_mem_cons.mpr ⟨lw_p35, List.forall_mem_cons.mpr ⟨lw_p36, List.forall_mem_cons.mpr ⟨lw_p37, List.forall_mem_cons.mpr ⟨lw_p38, List.forall_mem_cons.mpr ⟨lw_p39, List.forall_mem_cons.mpr ⟨lw_p40, List.forall_mem_cons.mpr ⟨lw_p41, List.forall_mem_cons.mpr ⟨lw_p42, fun _ h => absurd h List.not_mem_nil⟩⟩⟩⟩⟩⟩⟩⟩⟩⟩⟩
def lw_privs : List (MethodName × Nat) := lw_privs_1 ++ (lw_privs_2 ++ (lw_privs_3))
def lw_tbl : List Cond := k2_sels lw_privs ++ tables_1
theorem lw_privs_ok : ∀ q ∈ lw_privs, lw_okq q := by
  show ∀ q ∈ lw_privs_1 ++ (lw_privs_2 ++ (lw_privs_3)), lw_okq q
  exact List.forall_mem_append.mpr ⟨lw_r1, List.forall_mem_append.mpr ⟨lw_r2, lw_r3⟩⟩

def RX0 : String := "StepMarks$Code"
def TX0 : u_T := fun k => match k with
  | 0 => ("StepMarks$Code", "acts", "[I", true)
  | 1 => ("StepMarks$Code", "firsts", "[I", true)
  | 2 => ("StepMarks$Code", "seconds", "[I", true)
  | 3 => ("StepMarks$Code", "numbers", "[J", true)
  | 4 => ("StepMarks$Code", "size", "I", false)
  | 5 => ("StepMarks$Code", "froms", "[I", true)
  | 6 => ("StepMarks$Code", "tos", "[I", true)
  | 7 => ("StepMarks$Code", "ats", "[I", true)
  | 8 => ("StepMarks$Code", "masks", "[I", true)
  | 9 => ("StepMarks$Code", "handlers", "I", false)
  | _ => ("StepMarks$Code", "marked", "LStepMarks$Marked;", true)
def tyX0 : Nat → FieldType := fun k => match k with
  | 0 => .array .int
  | 1 => .array .int
  | 2 => .array .int
  | 3 => .array .long
  | 4 => .int
  | 5 => .array .int
  | 6 => .array .int
  | 7 => .array .int
  | 8 => .array .int
  | 9 => .int
  | _ => .object "StepMarks$Marked"
abbrev wsX00 : List Cond := u_ws RX0 TX0 11
theorem nmX0 : ∀ a, a < 11 → ∀ b, b < 11 → a ≠ b → (TX0 a).2.1 ≠ (TX0 b).2.1 := by decide +kernel
theorem tyX0_ok : ∀ k, k < 11 → parseFieldDescriptor (TX0 k).2.2.1 = some (tyX0 k) := by decide +kernel
abbrev cX0_init : ByteArray := prog_2_method_1_code
def yX0_init : MethodName := ⟨RX0, "<init>", "()V"⟩
abbrev cX0_empty : ByteArray := prog_2_method_2_code
def yX0_empty : MethodName := ⟨RX0, "empty", "()V"⟩
abbrev cX0_addInstruction : ByteArray := prog_2_method_3_code
def yX0_addInstruction : MethodName := ⟨RX0, "addInstruction", "(IIIJ)I"⟩
abbrev cX0_addHandler : ByteArray := prog_2_method_4_code
def yX0_addHandler : MethodName := ⟨RX0, "addHandler", "(IIII)I"⟩
abbrev cX0_act : ByteArray := prog_2_method_5_code
def yX0_act : MethodName := ⟨RX0, "act", "(I)I"⟩
abbrev cX0_first : ByteArray := prog_2_method_6_code
def yX0_first : MethodName := ⟨RX0, "first", "(I)I"⟩
abbrev cX0_second : ByteArray := prog_2_method_7_code
def yX0_second : MethodName := ⟨RX0, "second", "(I)I"⟩
abbrev cX0_number : ByteArray := prog_2_method_8_code
def yX0_number : MethodName := ⟨RX0, "number", "(I)J"⟩
abbrev cX0_isJump : ByteArray := prog_2_method_9_code
def yX0_isJump : MethodName := ⟨RX0, "isJump", "(I)Z"⟩
abbrev cX0_leadsBack : ByteArray := prog_2_method_10_code
def yX0_leadsBack : MethodName := ⟨RX0, "leadsBack", "(I)Z"⟩
abbrev cX0_jumpPlace : ByteArray := prog_2_method_11_code
def yX0_jumpPlace : MethodName := ⟨RX0, "jumpPlace", "(I)I"⟩
abbrev cX0_handlerPlace : ByteArray := prog_2_method_12_code
def yX0_handlerPlace : MethodName := ⟨RX0, "handlerPlace", "(I)I"⟩
abbrev cX0_handlerFor : ByteArray := prog_2_method_13_code
def yX0_handlerFor : MethodName := ⟨RX0, "handlerFor", "(II)I"⟩
abbrev cX0_entriesNeeded : ByteArray := prog_2_method_14_code
def yX0_entriesNeeded : MethodName := ⟨RX0, "entriesNeeded", "()I"⟩
def RX1 : String := "StepMarks$Frame"
def TX1 : u_T := fun k => match k with
  | 0 => ("StepMarks$Frame", "registers", "[J", true)
  | 1 => ("StepMarks$Frame", "holds", "[I", true)
  | 2 => ("StepMarks$Frame", "row", "LStepMarks$Row;", true)
  | 3 => ("StepMarks$Frame", "code", "LStepMarks$Code;", false)
  | 4 => ("StepMarks$Frame", "place", "I", false)
  | 5 => ("StepMarks$Frame", "now", "I", false)
  | 6 => ("StepMarks$Frame", "next", "I", false)
  | 7 => ("StepMarks$Frame", "caughtKind", "I", false)
  | _ => ("StepMarks$Frame", "caughtNumber", "I", false)
def tyX1 : Nat → FieldType := fun k => match k with
  | 0 => .array .long
  | 1 => .array .int
  | 2 => .object "StepMarks$Row"
  | 3 => .object "StepMarks$Code"
  | 4 => .int
  | 5 => .int
  | 6 => .int
  | 7 => .int
  | _ => .int
abbrev wsX10 : List Cond := u_ws RX1 TX1 9
theorem nmX1 : ∀ a, a < 9 → ∀ b, b < 9 → a ≠ b → (TX1 a).2.1 ≠ (TX1 b).2.1 := by decide +kernel
theorem tyX1_ok : ∀ k, k < 9 → parseFieldDescriptor (TX1 k).2.2.1 = some (tyX1 k) := by decide +kernel
abbrev cX1_init : ByteArray := prog_3_method_1_code
def yX1_init : MethodName := ⟨RX1, "<init>", "(LStepMarks$Code;)V"⟩
abbrev cX1_begin : ByteArray := prog_3_method_2_code
def yX1_begin : MethodName := ⟨RX1, "begin", "(LStepMarks$Code;J)V"⟩
abbrev cX1_register : ByteArray := prog_3_method_3_code
def yX1_register : MethodName := ⟨RX1, "register", "(I)J"⟩
abbrev cX1_become : ByteArray := prog_3_method_4_code
def yX1_become : MethodName := ⟨RX1, "become", "(IJ)V"⟩
abbrev cX1_hold : ByteArray := prog_3_method_5_code
def yX1_hold : MethodName := ⟨RX1, "hold", "(J)Z"⟩
abbrev cX1_let : ByteArray := prog_3_method_6_code
def yX1_let : MethodName := ⟨RX1, "let", "(J)Z"⟩
abbrev cX1_held : ByteArray := prog_3_method_7_code
def yX1_held : MethodName := ⟨RX1, "held", "()I"⟩
def RX2 : String := "StepMarks$Machine"
def TX2 : u_T := fun k => match k with
  | 0 => ("StepMarks$Machine", "methods", "LStepMarks$Methods;", true)
  | 1 => ("StepMarks$Machine", "frames", "[LStepMarks$Frame;", true)
  | 2 => ("StepMarks$Machine", "tally", "LStepMarks$Tally;", true)
  | 3 => ("StepMarks$Machine", "depth", "I", false)
  | 4 => ("StepMarks$Machine", "held", "I", false)
  | 5 => ("StepMarks$Machine", "number", "I", false)
  | _ => ("StepMarks$Machine", "outcome", "I", false)
def tyX2 : Nat → FieldType := fun k => match k with
  | 0 => .object "StepMarks$Methods"
  | 1 => .array (.object "StepMarks$Frame")
  | 2 => .object "StepMarks$Tally"
  | 3 => .int
  | 4 => .int
  | 5 => .int
  | _ => .int
abbrev wsX20 : List Cond := u_ws RX2 TX2 7
theorem nmX2 : ∀ a, a < 7 → ∀ b, b < 7 → a ≠ b → (TX2 a).2.1 ≠ (TX2 b).2.1 := by decide +kernel
theorem tyX2_ok : ∀ k, k < 7 → parseFieldDescriptor (TX2 k).2.2.1 = some (tyX2 k) := by decide +kernel
abbrev cX2_init : ByteArray := prog_4_method_1_code
def yX2_init : MethodName := ⟨RX2, "<init>", "(LStepMarks$Methods;)V"⟩
abbrev cX2_go : ByteArray := prog_4_method_2_code
def yX2_go : MethodName := ⟨RX2, "go", "(LStepMarks$Code;JILStepMarks$Pacer;)I"⟩
abbrev cX2_top : ByteArray := prog_4_method_3_code
def yX2_top : MethodName := ⟨RX2, "top", "()LStepMarks$Frame;"⟩
abbrev cX2_stop : ByteArray := prog_4_method_4_code
def yX2_stop : MethodName := ⟨RX2, "stop", "()V"⟩
abbrev cX2_beginFrame : ByteArray := prog_4_method_5_code
def yX2_beginFrame : MethodName := ⟨RX2, "beginFrame", "(LStepMarks$Code;JLStepMarks$Pacer;)V"⟩
abbrev cX2_endFrame : ByteArray := prog_4_method_6_code
def yX2_endFrame : MethodName := ⟨RX2, "endFrame", "(LStepMarks$Frame;)V"⟩
abbrev cX2_perform : ByteArray := prog_4_method_7_code
def yX2_perform : MethodName := ⟨RX2, "perform", "(LStepMarks$Frame;LStepMarks$Pacer;)I"⟩
abbrev cX2_reckon : ByteArray := prog_4_method_8_code
def yX2_reckon : MethodName := ⟨RX2, "reckon", "(LStepMarks$Frame;I)I"⟩
abbrev cX2_leap : ByteArray := prog_4_method_9_code
def yX2_leap : MethodName := ⟨RX2, "leap", "(LStepMarks$Frame;LStepMarks$Pacer;)V"⟩
abbrev cX2_make : ByteArray := prog_4_method_10_code
def yX2_make : MethodName := ⟨RX2, "make", "(LStepMarks$Frame;IJ)I"⟩
abbrev cX2_look : ByteArray := prog_4_method_11_code
def yX2_look : MethodName := ⟨RX2, "look", "(LStepMarks$Frame;I)I"⟩
abbrev cX2_giveBack : ByteArray := prog_4_method_12_code
def yX2_giveBack : MethodName := ⟨RX2, "giveBack", "(LStepMarks$Frame;J)V"⟩
abbrev cX2_hold : ByteArray := prog_4_method_13_code
def yX2_hold : MethodName := ⟨RX2, "hold", "(LStepMarks$Frame;J)I"⟩
abbrev cX2_let : ByteArray := prog_4_method_14_code
def yX2_let : MethodName := ⟨RX2, "let", "(LStepMarks$Frame;J)I"⟩
abbrev cX2_raise : ByteArray := prog_4_method_15_code
def yX2_raise : MethodName := ⟨RX2, "raise", "(ILStepMarks$Pacer;)V"⟩
abbrev cX2_handOver : ByteArray := prog_4_method_16_code
def yX2_handOver : MethodName := ⟨RX2, "handOver", "(LStepMarks$Frame;IILStepMarks$Pacer;)V"⟩
def RX3 : String := "StepMarks$MarkPacer"
def TX3 : u_T := fun k => match k with
  | _ => ("", "", "", false)
def tyX3 : Nat → FieldType := fun k => match k with
  | _ => .int
abbrev wsX30 : List Cond := u_ws RX3 TX3 0
theorem nmX3 : ∀ a, a < 0 → ∀ b, b < 0 → a ≠ b → (TX3 a).2.1 ≠ (TX3 b).2.1 := by decide +kernel
theorem tyX3_ok : ∀ k, k < 0 → parseFieldDescriptor (TX3 k).2.2.1 = some (tyX3 k) := by decide +kernel
abbrev cX3_init : ByteArray := prog_5_method_1_code
def yX3_init : MethodName := ⟨RX3, "<init>", "()V"⟩
abbrev cX3_enter : ByteArray := prog_5_method_2_code
def yX3_enter : MethodName := ⟨RX3, "enter", "(LStepMarks$Frame;LStepMarks$Tally;)Z"⟩
abbrev cX3_fetch : ByteArray := prog_5_method_3_code
def yX3_fetch : MethodName := ⟨RX3, "fetch", "(LStepMarks$Frame;LStepMarks$Tally;)Z"⟩
abbrev cX3_jump : ByteArray := prog_5_method_4_code
def yX3_jump : MethodName := ⟨RX3, "jump", "(LStepMarks$Frame;LStepMarks$Tally;)Z"⟩
abbrev cX3_take : ByteArray := prog_5_method_5_code
def yX3_take : MethodName := ⟨RX3, "take", "(LStepMarks$Frame;ILStepMarks$Tally;)Z"⟩
abbrev cX3_pass : ByteArray := prog_5_method_6_code
def yX3_pass : MethodName := ⟨RX3, "pass", "(LStepMarks$Frame;LStepMarks$Tally;)Z"⟩
def RX4 : String := "StepMarks$Marked"
def TX4 : u_T := fun k => match k with
  | 0 => ("StepMarks$Marked", "sorts", "[I", true)
  | 1 => ("StepMarks$Marked", "numbers", "[I", true)
  | 2 => ("StepMarks$Marked", "goals", "[I", true)
  | 3 => ("StepMarks$Marked", "begins", "[I", true)
  | 4 => ("StepMarks$Marked", "handlerMarks", "[I", true)
  | 5 => ("StepMarks$Marked", "size", "I", false)
  | 6 => ("StepMarks$Marked", "marks", "I", false)
  | _ => ("StepMarks$Marked", "large", "Z", false)
def tyX4 : Nat → FieldType := fun k => match k with
  | 0 => .array .int
  | 1 => .array .int
  | 2 => .array .int
  | 3 => .array .int
  | 4 => .array .int
  | 5 => .int
  | 6 => .int
  | _ => .boolean
abbrev wsX40 : List Cond := u_ws RX4 TX4 8
theorem nmX4 : ∀ a, a < 8 → ∀ b, b < 8 → a ≠ b → (TX4 a).2.1 ≠ (TX4 b).2.1 := by decide +kernel
theorem tyX4_ok : ∀ k, k < 8 → parseFieldDescriptor (TX4 k).2.2.1 = some (tyX4 k) := by decide +kernel
abbrev cX4_init : ByteArray := prog_6_method_1_code
def yX4_init : MethodName := ⟨RX4, "<init>", "()V"⟩
abbrev cX4_build : ByteArray := prog_6_method_2_code
def yX4_build : MethodName := ⟨RX4, "build", "(LStepMarks$Code;)V"⟩
abbrev cX4_addPlaces : ByteArray := prog_6_method_3_code
def yX4_addPlaces : MethodName := ⟨RX4, "addPlaces", "(LStepMarks$Code;)V"⟩
abbrev cX4_addJumps : ByteArray := prog_6_method_4_code
def yX4_addJumps : MethodName := ⟨RX4, "addJumps", "(LStepMarks$Code;)V"⟩
abbrev cX4_addHandlers : ByteArray := prog_6_method_5_code
def yX4_addHandlers : MethodName := ⟨RX4, "addHandlers", "(LStepMarks$Code;)V"⟩
abbrev cX4_addLead : ByteArray := prog_6_method_6_code
def yX4_addLead : MethodName := ⟨RX4, "addLead", "(I)I"⟩
abbrev cX4_add : ByteArray := prog_6_method_7_code
def yX4_add : MethodName := ⟨RX4, "add", "(III)V"⟩
abbrev cX4_sort : ByteArray := prog_6_method_8_code
def yX4_sort : MethodName := ⟨RX4, "sort", "(I)I"⟩
abbrev cX4_number : ByteArray := prog_6_method_9_code
def yX4_number : MethodName := ⟨RX4, "number", "(I)I"⟩
abbrev cX4_goal : ByteArray := prog_6_method_10_code
def yX4_goal : MethodName := ⟨RX4, "goal", "(I)I"⟩
abbrev cX4_handlerMark : ByteArray := prog_6_method_11_code
def yX4_handlerMark : MethodName := ⟨RX4, "handlerMark", "(I)I"⟩
abbrev cX4_tell : ByteArray := prog_6_method_12_code
def yX4_tell : MethodName := ⟨RX4, "tell", "(II)I"⟩
def RX5 : String := "StepMarks$Methods"
def TX5 : u_T := fun k => match k with
  | 0 => ("StepMarks$Methods", "codes", "[LStepMarks$Code;", true)
  | _ => ("StepMarks$Methods", "count", "I", false)
def tyX5 : Nat → FieldType := fun k => match k with
  | 0 => .array (.object "StepMarks$Code")
  | _ => .int
abbrev wsX50 : List Cond := u_ws RX5 TX5 2
theorem nmX5 : ∀ a, a < 2 → ∀ b, b < 2 → a ≠ b → (TX5 a).2.1 ≠ (TX5 b).2.1 := by decide +kernel
theorem tyX5_ok : ∀ k, k < 2 → parseFieldDescriptor (TX5 k).2.2.1 = some (tyX5 k) := by decide +kernel
abbrev cX5_init : ByteArray := prog_7_method_1_code
def yX5_init : MethodName := ⟨RX5, "<init>", "()V"⟩
abbrev cX5_add : ByteArray := prog_7_method_2_code
def yX5_add : MethodName := ⟨RX5, "add", "()I"⟩
abbrev cX5_at : ByteArray := prog_7_method_3_code
def yX5_at : MethodName := ⟨RX5, "at", "(I)LStepMarks$Code;"⟩
abbrev cX5_drop : ByteArray := prog_7_method_4_code
def yX5_drop : MethodName := ⟨RX5, "drop", "()I"⟩
def RX6 : String := "StepMarks$Pacer"
def TX6 : u_T := fun k => match k with
  | _ => ("", "", "", false)
def tyX6 : Nat → FieldType := fun k => match k with
  | _ => .int
abbrev wsX60 : List Cond := u_ws RX6 TX6 0
theorem nmX6 : ∀ a, a < 0 → ∀ b, b < 0 → a ≠ b → (TX6 a).2.1 ≠ (TX6 b).2.1 := by decide +kernel
theorem tyX6_ok : ∀ k, k < 0 → parseFieldDescriptor (TX6 k).2.2.1 = some (tyX6 k) := by decide +kernel
def RX7 : String := "StepMarks$PlainPacer"
def TX7 : u_T := fun k => match k with
  | _ => ("", "", "", false)
def tyX7 : Nat → FieldType := fun k => match k with
  | _ => .int
abbrev wsX70 : List Cond := u_ws RX7 TX7 0
theorem nmX7 : ∀ a, a < 0 → ∀ b, b < 0 → a ≠ b → (TX7 a).2.1 ≠ (TX7 b).2.1 := by decide +kernel
theorem tyX7_ok : ∀ k, k < 0 → parseFieldDescriptor (TX7 k).2.2.1 = some (tyX7 k) := by decide +kernel
abbrev cX7_init : ByteArray := prog_9_method_1_code
def yX7_init : MethodName := ⟨RX7, "<init>", "()V"⟩
abbrev cX7_enter : ByteArray := prog_9_method_2_code
def yX7_enter : MethodName := ⟨RX7, "enter", "(LStepMarks$Frame;LStepMarks$Tally;)Z"⟩
abbrev cX7_fetch : ByteArray := prog_9_method_3_code
def yX7_fetch : MethodName := ⟨RX7, "fetch", "(LStepMarks$Frame;LStepMarks$Tally;)Z"⟩
abbrev cX7_jump : ByteArray := prog_9_method_4_code
def yX7_jump : MethodName := ⟨RX7, "jump", "(LStepMarks$Frame;LStepMarks$Tally;)Z"⟩
abbrev cX7_take : ByteArray := prog_9_method_5_code
def yX7_take : MethodName := ⟨RX7, "take", "(LStepMarks$Frame;ILStepMarks$Tally;)Z"⟩
def RX8 : String := "StepMarks$Row"
def TX8 : u_T := fun k => match k with
  | 0 => ("StepMarks$Row", "cells", "[J", true)
  | 1 => ("StepMarks$Row", "lane", "I", false)
  | _ => ("StepMarks$Row", "count", "I", false)
def tyX8 : Nat → FieldType := fun k => match k with
  | 0 => .array .long
  | 1 => .int
  | _ => .int
abbrev wsX80 : List Cond := u_ws RX8 TX8 3
theorem nmX8 : ∀ a, a < 3 → ∀ b, b < 3 → a ≠ b → (TX8 a).2.1 ≠ (TX8 b).2.1 := by decide +kernel
theorem tyX8_ok : ∀ k, k < 3 → parseFieldDescriptor (TX8 k).2.2.1 = some (tyX8 k) := by decide +kernel
abbrev cX8_init : ByteArray := prog_10_method_1_code
def yX8_init : MethodName := ⟨RX8, "<init>", "()V"⟩
abbrev cX8_drop : ByteArray := prog_10_method_2_code
def yX8_drop : MethodName := ⟨RX8, "drop", "()V"⟩
abbrev cX8_make : ByteArray := prog_10_method_3_code
def yX8_make : MethodName := ⟨RX8, "make", "(IJ)I"⟩
abbrev cX8_fault : ByteArray := prog_10_method_4_code
def yX8_fault : MethodName := ⟨RX8, "fault", "(J)I"⟩
abbrev cX8_cell : ByteArray := prog_10_method_5_code
def yX8_cell : MethodName := ⟨RX8, "cell", "(J)J"⟩
abbrev cX8_put : ByteArray := prog_10_method_6_code
def yX8_put : MethodName := ⟨RX8, "put", "(JJ)I"⟩
abbrev cX8_isOf : ByteArray := prog_10_method_7_code
def yX8_isOf : MethodName := ⟨RX8, "isOf", "(J)Z"⟩
abbrev cX8_holdsThings : ByteArray := prog_10_method_8_code
def yX8_holdsThings : MethodName := ⟨RX8, "holdsThings", "()Z"⟩
abbrev cX8_fitted : ByteArray := prog_10_method_9_code
def yX8_fitted : MethodName := ⟨RX8, "fitted", "(J)J"⟩
def RX9 : String := "StepMarks$Tally"
def TX9 : u_T := fun k => match k with
  | 0 => ("StepMarks$Tally", "budget", "I", false)
  | 1 => ("StepMarks$Tally", "steps", "I", false)
  | 2 => ("StepMarks$Tally", "thrown", "I", false)
  | 3 => ("StepMarks$Tally", "thrownNumber", "I", false)
  | 4 => ("StepMarks$Tally", "mostFrames", "I", false)
  | 5 => ("StepMarks$Tally", "taken", "I", false)
  | 6 => ("StepMarks$Tally", "rows", "I", false)
  | 7 => ("StepMarks$Tally", "mostHeld", "I", false)
  | 8 => ("StepMarks$Tally", "begun", "I", false)
  | _ => ("StepMarks$Tally", "answer", "J", false)
def tyX9 : Nat → FieldType := fun k => match k with
  | 0 => .int
  | 1 => .int
  | 2 => .int
  | 3 => .int
  | 4 => .int
  | 5 => .int
  | 6 => .int
  | 7 => .int
  | 8 => .int
  | _ => .long
abbrev wsX90 : List Cond := u_ws RX9 TX9 10
theorem nmX9 : ∀ a, a < 10 → ∀ b, b < 10 → a ≠ b → (TX9 a).2.1 ≠ (TX9 b).2.1 := by decide +kernel
theorem tyX9_ok : ∀ k, k < 10 → parseFieldDescriptor (TX9 k).2.2.1 = some (tyX9 k) := by decide +kernel
abbrev cX9_init : ByteArray := prog_11_method_1_code
def yX9_init : MethodName := ⟨RX9, "<init>", "()V"⟩
abbrev cX9_reset : ByteArray := prog_11_method_2_code
def yX9_reset : MethodName := ⟨RX9, "reset", "(I)V"⟩
abbrev cX9_countOne : ByteArray := prog_11_method_3_code
def yX9_countOne : MethodName := ⟨RX9, "countOne", "()Z"⟩
abbrev cX9_countMake : ByteArray := prog_11_method_4_code
def yX9_countMake : MethodName := ⟨RX9, "countMake", "(J)Z"⟩
abbrev cX9_beginInstruction : ByteArray := prog_11_method_5_code
def yX9_beginInstruction : MethodName := ⟨RX9, "beginInstruction", "()Z"⟩
abbrev cX9_tell : ByteArray := prog_11_method_6_code
def yX9_tell : MethodName := ⟨RX9, "tell", "(I)I"⟩
def RX10 : String := "StepMarks"
def TX10 : u_T := fun k => match k with
  | 0 => ("StepMarks", "methods", "LStepMarks$Methods;", true)
  | 1 => ("StepMarks", "machine", "LStepMarks$Machine;", true)
  | 2 => ("StepMarks", "byMarks", "LStepMarks$Pacer;", true)
  | _ => ("StepMarks", "byPlaces", "LStepMarks$Pacer;", true)
def tyX10 : Nat → FieldType := fun k => match k with
  | 0 => .object "StepMarks$Methods"
  | 1 => .object "StepMarks$Machine"
  | 2 => .object "StepMarks$Pacer"
  | _ => .object "StepMarks$Pacer"
abbrev wsX100 : List Cond := u_ws RX10 TX10 4
theorem nmX10 : ∀ a, a < 4 → ∀ b, b < 4 → a ≠ b → (TX10 a).2.1 ≠ (TX10 b).2.1 := by decide +kernel
theorem tyX10_ok : ∀ k, k < 4 → parseFieldDescriptor (TX10 k).2.2.1 = some (tyX10 k) := by decide +kernel
abbrev cX10_init : ByteArray := prog_1_method_1_code
def yX10_init : MethodName := ⟨RX10, "<init>", "()V"⟩
abbrev cX10_method : ByteArray := prog_1_method_2_code
def yX10_method : MethodName := ⟨RX10, "method", "()I"⟩
abbrev cX10_instruction : ByteArray := prog_1_method_3_code
def yX10_instruction : MethodName := ⟨RX10, "instruction", "(IIIIJ)I"⟩
abbrev cX10_handler : ByteArray := prog_1_method_4_code
def yX10_handler : MethodName := ⟨RX10, "handler", "(IIIII)I"⟩
abbrev cX10_run : ByteArray := prog_1_method_5_code
def yX10_run : MethodName := ⟨RX10, "run", "(IJI)I"⟩
abbrev cX10_step : ByteArray := prog_1_method_6_code
def yX10_step : MethodName := ⟨RX10, "step", "(IJI)I"⟩
abbrev cX10_answer : ByteArray := prog_1_method_7_code
def yX10_answer : MethodName := ⟨RX10, "answer", "()J"⟩
abbrev cX10_told : ByteArray := prog_1_method_8_code
def yX10_told : MethodName := ⟨RX10, "told", "(I)I"⟩
abbrev cX10_entries : ByteArray := prog_1_method_9_code
def yX10_entries : MethodName := ⟨RX10, "entries", "(I)I"⟩
abbrev cX10_entry : ByteArray := prog_1_method_10_code
def yX10_entry : MethodName := ⟨RX10, "entry", "(III)I"⟩
abbrev cX10_about : ByteArray := prog_1_method_11_code
def yX10_about : MethodName := ⟨RX10, "about", "(II)I"⟩
abbrev cX10_clear : ByteArray := prog_1_method_12_code
def yX10_clear : MethodName := ⟨RX10, "clear", "()I"⟩
abbrev cX10_within : ByteArray := prog_1_method_13_code
def yX10_within : MethodName := ⟨RX10, "within", "(JJJ)Z"⟩
abbrev cX10_isRegister : ByteArray := prog_1_method_14_code
def yX10_isRegister : MethodName := ⟨RX10, "isRegister", "(I)Z"⟩
abbrev cX10_isPlace : ByteArray := prog_1_method_15_code
def yX10_isPlace : MethodName := ⟨RX10, "isPlace", "(J)Z"⟩
abbrev cX10_numberFits : ByteArray := prog_1_method_16_code
def yX10_numberFits : MethodName := ⟨RX10, "numberFits", "(IJ)Z"⟩
def RX11 : String := "StepMarksModel"
def TX11 : u_T := fun k => match k with
  | 0 => ("StepMarksModel", "methods", "I", false)
  | 1 => ("StepMarksModel", "sizes", "[I", true)
  | 2 => ("StepMarksModel", "acts", "[I", true)
  | 3 => ("StepMarksModel", "firsts", "[I", true)
  | 4 => ("StepMarksModel", "seconds", "[I", true)
  | 5 => ("StepMarksModel", "numbers", "[J", true)
  | 6 => ("StepMarksModel", "guarded", "[I", true)
  | 7 => ("StepMarksModel", "froms", "[I", true)
  | 8 => ("StepMarksModel", "tos", "[I", true)
  | 9 => ("StepMarksModel", "ats", "[I", true)
  | 10 => ("StepMarksModel", "masks", "[I", true)
  | 11 => ("StepMarksModel", "frames", "I", false)
  | 12 => ("StepMarksModel", "methodOf", "[I", true)
  | 13 => ("StepMarksModel", "placeOf", "[I", true)
  | 14 => ("StepMarksModel", "registers", "[J", true)
  | 15 => ("StepMarksModel", "rowLane", "[I", true)
  | 16 => ("StepMarksModel", "rowAt", "[I", true)
  | 17 => ("StepMarksModel", "rowSize", "[I", true)
  | 18 => ("StepMarksModel", "caughtKind", "[I", true)
  | 19 => ("StepMarksModel", "caughtNumber", "[I", true)
  | 20 => ("StepMarksModel", "holds", "[I", true)
  | 21 => ("StepMarksModel", "cells", "[J", true)
  | 22 => ("StepMarksModel", "celled", "I", false)
  | 23 => ("StepMarksModel", "budget", "I", false)
  | 24 => ("StepMarksModel", "stopped", "Z", false)
  | 25 => ("StepMarksModel", "ended", "Z", false)
  | 26 => ("StepMarksModel", "kind", "I", false)
  | 27 => ("StepMarksModel", "number", "I", false)
  | 28 => ("StepMarksModel", "returned", "J", false)
  | 29 => ("StepMarksModel", "steps", "I", false)
  | 30 => ("StepMarksModel", "framesMost", "I", false)
  | 31 => ("StepMarksModel", "taken", "I", false)
  | 32 => ("StepMarksModel", "made", "I", false)
  | 33 => ("StepMarksModel", "held", "I", false)
  | 34 => ("StepMarksModel", "heldMost", "I", false)
  | 35 => ("StepMarksModel", "begun", "I", false)
  | 36 => ("StepMarksModel", "sort", "[I", true)
  | 37 => ("StepMarksModel", "entryNumber", "[I", true)
  | 38 => ("StepMarksModel", "goes", "[I", true)
  | _ => ("StepMarksModel", "entries", "I", false)
def tyX11 : Nat → FieldType := fun k => match k with
  | 0 => .int
  | 1 => .array .int
  | 2 => .array .int
  | 3 => .array .int
  | 4 => .array .int
  | 5 => .array .long
  | 6 => .array .int
  | 7 => .array .int
  | 8 => .array .int
  | 9 => .array .int
  | 10 => .array .int
  | 11 => .int
  | 12 => .array .int
  | 13 => .array .int
  | 14 => .array .long
  | 15 => .array .int
  | 16 => .array .int
  | 17 => .array .int
  | 18 => .array .int
  | 19 => .array .int
  | 20 => .array .int
  | 21 => .array .long
  | 22 => .int
  | 23 => .int
  | 24 => .boolean
  | 25 => .boolean
  | 26 => .int
  | 27 => .int
  | 28 => .long
  | 29 => .int
  | 30 => .int
  | 31 => .int
  | 32 => .int
  | 33 => .int
  | 34 => .int
  | 35 => .int
  | 36 => .array .int
  | 37 => .array .int
  | 38 => .array .int
  | _ => .int
abbrev wsX110 : List Cond := u_ws RX11 TX11 40
theorem nmX11 : ∀ a, a < 40 → ∀ b, b < 40 → a ≠ b → (TX11 a).2.1 ≠ (TX11 b).2.1 := by decide +kernel
theorem tyX11_ok : ∀ k, k < 40 → parseFieldDescriptor (TX11 k).2.2.1 = some (tyX11 k) := by decide +kernel
abbrev cX11_init : ByteArray := prog_13_method_1_code
def yX11_init : MethodName := ⟨RX11, "<init>", "()V"⟩
abbrev cX11_in : ByteArray := prog_13_method_3_code
def yX11_in : MethodName := ⟨RX11, "in", "(JJJ)Z"⟩
abbrev cX11_isMethod : ByteArray := prog_13_method_4_code
def yX11_isMethod : MethodName := ⟨RX11, "isMethod", "(I)Z"⟩
abbrev cX11_method : ByteArray := prog_13_method_5_code
def yX11_method : MethodName := ⟨RX11, "method", "()I"⟩
abbrev cX11_isRight : ByteArray := prog_13_method_6_code
def yX11_isRight : MethodName := ⟨RX11, "isRight", "(IJ)Z"⟩
abbrev cX11_instruction : ByteArray := prog_13_method_7_code
def yX11_instruction : MethodName := ⟨RX11, "instruction", "(IIIIJ)I"⟩
abbrev cX11_handler : ByteArray := prog_13_method_8_code
def yX11_handler : MethodName := ⟨RX11, "handler", "(IIIII)I"⟩
abbrev cX11_clear : ByteArray := prog_13_method_9_code
def yX11_clear : MethodName := ⟨RX11, "clear", "()I"⟩
abbrev cX11_lesser : ByteArray := prog_13_method_10_code
def yX11_lesser : MethodName := ⟨RX11, "lesser", "(II)I"⟩
abbrev cX11_isBack : ByteArray := prog_13_method_11_code
def yX11_isBack : MethodName := ⟨RX11, "isBack", "(II)Z"⟩
abbrev cX11_countOf : ByteArray := prog_13_method_12_code
def yX11_countOf : MethodName := ⟨RX11, "countOf", "(I)I"⟩
abbrev cX11_isLarge : ByteArray := prog_13_method_13_code
def yX11_isLarge : MethodName := ⟨RX11, "isLarge", "(I)Z"⟩
abbrev cX11_beginOf : ByteArray := prog_13_method_14_code
def yX11_beginOf : MethodName := ⟨RX11, "beginOf", "(II)I"⟩
abbrev cX11_lay : ByteArray := prog_13_method_15_code
def yX11_lay : MethodName := ⟨RX11, "lay", "(III)V"⟩
abbrev cX11_mark : ByteArray := prog_13_method_16_code
def yX11_mark : MethodName := ⟨RX11, "mark", "(I)V"⟩
abbrev cX11_entries : ByteArray := prog_13_method_17_code
def yX11_entries : MethodName := ⟨RX11, "entries", "(I)I"⟩
abbrev cX11_entry : ByteArray := prog_13_method_18_code
def yX11_entry : MethodName := ⟨RX11, "entry", "(III)I"⟩
abbrev cX11_about : ByteArray := prog_13_method_19_code
def yX11_about : MethodName := ⟨RX11, "about", "(II)I"⟩
abbrev cX11_counts : ByteArray := prog_13_method_20_code
def yX11_counts : MethodName := ⟨RX11, "counts", "(J)Z"⟩
abbrev cX11_enter : ByteArray := prog_13_method_21_code
def yX11_enter : MethodName := ⟨RX11, "enter", "(IJ)V"⟩
abbrev cX11_leave : ByteArray := prog_13_method_22_code
def yX11_leave : MethodName := ⟨RX11, "leave", "()V"⟩
abbrev cX11_returns : ByteArray := prog_13_method_23_code
def yX11_returns : MethodName := ⟨RX11, "returns", "(J)V"⟩
abbrev cX11_fails : ByteArray := prog_13_method_24_code
def yX11_fails : MethodName := ⟨RX11, "fails", "(II)V"⟩
abbrev cX11_takes : ByteArray := prog_13_method_25_code
def yX11_takes : MethodName := ⟨RX11, "takes", "(II)V"⟩
abbrev cX11_runs : ByteArray := prog_13_method_26_code
def yX11_runs : MethodName := ⟨RX11, "runs", "(IJI)I"⟩
abbrev cX11_isPaid : ByteArray := prog_13_method_27_code
def yX11_isPaid : MethodName := ⟨RX11, "isPaid", "(I)Z"⟩
abbrev cX11_begins : ByteArray := prog_13_method_28_code
def yX11_begins : MethodName := ⟨RX11, "begins", "()V"⟩
abbrev cX11_work : ByteArray := prog_13_method_29_code
def yX11_work : MethodName := ⟨RX11, "work", "(I)V"⟩
abbrev cX11_divides : ByteArray := prog_13_method_30_code
def yX11_divides : MethodName := ⟨RX11, "divides", "(IIIZ)V"⟩
abbrev cX11_jumps : ByteArray := prog_13_method_31_code
def yX11_jumps : MethodName := ⟨RX11, "jumps", "(II)V"⟩
abbrev cX11_guards : ByteArray := prog_13_method_32_code
def yX11_guards : MethodName := ⟨RX11, "guards", "(IIZ)V"⟩
abbrev cX11_cast : ByteArray := prog_13_method_33_code
def yX11_cast : MethodName := ⟨RX11, "cast", "(JI)J"⟩
abbrev cX11_makes : ByteArray := prog_13_method_34_code
def yX11_makes : MethodName := ⟨RX11, "makes", "(IJI)V"⟩
abbrev cX11_rows : ByteArray := prog_13_method_35_code
def yX11_rows : MethodName := ⟨RX11, "rows", "(IIIII)V"⟩
abbrev cX11_run : ByteArray := prog_13_method_36_code
def yX11_run : MethodName := ⟨RX11, "run", "(IJI)I"⟩
abbrev cX11_step : ByteArray := prog_13_method_37_code
def yX11_step : MethodName := ⟨RX11, "step", "(IJI)I"⟩
abbrev cX11_answer : ByteArray := prog_13_method_38_code
def yX11_answer : MethodName := ⟨RX11, "answer", "()J"⟩
abbrev cX11_told : ByteArray := prog_13_method_39_code
def yX11_told : MethodName := ⟨RX11, "told", "(I)I"⟩
def RL : String := "StepMarksLaw"
abbrev cL_law : ByteArray := code
def yL_law : MethodName := ⟨RL, "law", "([I)Z"⟩
abbrev vwCl : List vw_C := [(RX0, TX0, 11), (RX1, TX1, 9), (RX2, TX2, 7), (RX3, TX3, 0), (RX4, TX4, 8), (RX5, TX5, 2), (RX7, TX7, 0), (RX8, TX8, 3), (RX9, TX9, 10), (RX10, TX10, 4), (RX11, TX11, 40)]
